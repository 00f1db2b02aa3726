theorem dX4_would_0 : decode cX4_would 0 = .ok (.iload_n 1, 1) := by decide +kernel
theorem dX4_would_1 : decode cX4_would 1 = .ok (.iconst 1, 1) := by decide +kernel
theorem dX4_would_2 : decode cX4_would 2 = .ok (.sipush 999, 3) := by decide +kernel
theorem dX4_would_5 : decode cX4_would 5 = .ok (.invokestatic 67, 3) := by decide +kernel
theorem dX4_would_8 : decode cX4_would 8 = .ok (.ifCond .eq 12, 3) := by decide +kernel
theorem dX4_would_11 : decode cX4_would 11 = .ok (.iload_n 2, 1) := by decide +kernel
theorem dX4_would_12 : decode cX4_would 12 = .ok (.iconst 0, 1) := by decide +kernel
theorem dX4_would_13 : decode cX4_would 13 = .ok (.iconst 2, 1) := by decide +kernel
theorem dX4_would_14 : decode cX4_would 14 = .ok (.invokestatic 67, 3) := by decide +kernel
theorem dX4_would_17 : decode cX4_would 17 = .ok (.ifCond .ne 6, 3) := by decide +kernel
theorem dX4_would_20 : decode cX4_would 20 = .ok (.bipush (-2), 2) := by decide +kernel
theorem dX4_would_22 : decode cX4_would 22 = .ok (.ireturn, 1) := by decide +kernel
theorem dX4_would_23 : decode cX4_would 23 = .ok (.aload_n 0, 1) := by decide +kernel
theorem dX4_would_24 : decode cX4_would 24 = .ok (.getfield 16, 3) := by decide +kernel
theorem dX4_would_27 : decode cX4_would 27 = .ok (.aload_n 0, 1) := by decide +kernel
theorem dX4_would_28 : decode cX4_would 28 = .ok (.getfield 10, 3) := by decide +kernel
theorem dX4_would_31 : decode cX4_would 31 = .ok (.invokevirtual 111, 3) := by decide +kernel
theorem dX4_would_34 : decode cX4_would 34 = .ok (.aload_n 0, 1) := by decide +kernel
theorem dX4_would_35 : decode cX4_would 35 = .ok (.getfield 16, 3) := by decide +kernel
theorem dX4_would_38 : decode cX4_would 38 = .ok (.iload_n 1, 1) := by decide +kernel
theorem dX4_would_39 : decode cX4_would 39 = .ok (.ldc 114, 2) := by decide +kernel
theorem dX4_would_41 : decode cX4_would 41 = .ok (.invokevirtual 56, 3) := by decide +kernel
theorem dX4_would_44 : decode cX4_would 44 = .ok (.pop, 1) := by decide +kernel
theorem dX4_would_45 : decode cX4_would 45 = .ok (.iload_n 2, 1) := by decide +kernel
theorem dX4_would_46 : decode cX4_would 46 = .ok (.ifCond .ne 9, 3) := by decide +kernel
theorem dX4_would_49 : decode cX4_would 49 = .ok (.aload_n 0, 1) := by decide +kernel
theorem dX4_would_50 : decode cX4_would 50 = .ok (.iconst 4, 1) := by decide +kernel
theorem dX4_would_51 : decode cX4_would 51 = .ok (.invokevirtual 115, 3) := by decide +kernel
theorem dX4_would_54 : decode cX4_would 54 = .ok (.ireturn, 1) := by decide +kernel
theorem dX4_would_55 : decode cX4_would 55 = .ok (.iload_n 2, 1) := by decide +kernel
theorem dX4_would_56 : decode cX4_would 56 = .ok (.iconst 1, 1) := by decide +kernel
theorem dX4_would_57 : decode cX4_would 57 = .ok (.if_icmp .ne 12, 3) := by decide +kernel
theorem dX4_would_60 : decode cX4_would 60 = .ok (.aload_n 0, 1) := by decide +kernel
theorem dX4_would_61 : decode cX4_would 61 = .ok (.bipush 6, 2) := by decide +kernel
theorem dX4_would_63 : decode cX4_would 63 = .ok (.invokevirtual 115, 3) := by decide +kernel
theorem dX4_would_66 : decode cX4_would 66 = .ok (.goto 9, 3) := by decide +kernel
theorem dX4_would_69 : decode cX4_would 69 = .ok (.aload_n 0, 1) := by decide +kernel
theorem dX4_would_70 : decode cX4_would 70 = .ok (.bipush 12, 2) := by decide +kernel
theorem dX4_would_72 : decode cX4_would 72 = .ok (.invokevirtual 115, 3) := by decide +kernel
theorem dX4_would_75 : decode cX4_would 75 = .ok (.ireturn, 1) := by decide +kernel
set_option maxRecDepth 20000 in
theorem ggX4_undo_X0_takeLatest : GoodIn wsX4_undo wsX0_takeLatest := goodIn_r _ [7, 8, 9, 10, 42, 43, 44] (by decide +kernel) (by decide +kernel)
set_option maxRecDepth 20000 in
theorem gX4_undo_X0_takeLatest : GoodIn wsX4_undo (wsV RX4 150 RX0 yX0_takeLatest wsX0_takeLatest) := goodIn_app (goodIn_of _ (by decide +kernel)) ggX4_undo_X0_takeLatest
set_option maxRecDepth 20000 in
theorem ggX4_undo_X2_copyFrom : GoodIn wsX4_undo wsX2_copyFrom := goodIn_r _ [15, 16, 17, 18, 19, 20, 21, 22, 23, 24, 25, 26, 27, 28, 29, 30, 31, 32, 33, 34, 35, 36, 45, 46, 47, 48, 49, 50, 51, 52] (by decide +kernel) (by decide +kernel)
set_option maxRecDepth 20000 in
theorem gX4_undo_X2_copyFrom : GoodIn wsX4_undo (wsV RX4 111 RX2 yX2_copyFrom wsX2_copyFrom) := goodIn_app (goodIn_of _ (by decide +kernel)) ggX4_undo_X2_copyFrom
theorem dX4_undo_0 : decode cX4_undo 0 = .ok (.aload_n 0, 1) := by decide +kernel
theorem dX4_undo_1 : decode cX4_undo 1 = .ok (.getfield 26, 3) := by decide +kernel
theorem dX4_undo_4 : decode cX4_undo 4 = .ok (.invokevirtual 150, 3) := by decide +kernel
theorem dX4_undo_7 : decode cX4_undo 7 = .ok (.astore_n 1, 1) := by decide +kernel
theorem dX4_undo_8 : decode cX4_undo 8 = .ok (.aload_n 1, 1) := by decide +kernel
theorem dX4_undo_9 : decode cX4_undo 9 = .ok (.ifnonnull 6, 3) := by decide +kernel
theorem dX4_undo_12 : decode cX4_undo 12 = .ok (.bipush (-5), 2) := by decide +kernel
theorem dX4_undo_14 : decode cX4_undo 14 = .ok (.ireturn, 1) := by decide +kernel
theorem dX4_undo_15 : decode cX4_undo 15 = .ok (.aload_n 0, 1) := by decide +kernel
theorem dX4_undo_16 : decode cX4_undo 16 = .ok (.getfield 10, 3) := by decide +kernel
theorem dX4_undo_19 : decode cX4_undo 19 = .ok (.aload_n 1, 1) := by decide +kernel
theorem dX4_undo_20 : decode cX4_undo 20 = .ok (.invokevirtual 111, 3) := by decide +kernel
theorem dX4_undo_23 : decode cX4_undo 23 = .ok (.aload_n 0, 1) := by decide +kernel
theorem dX4_undo_24 : decode cX4_undo 24 = .ok (.getfield 26, 3) := by decide +kernel
theorem dX4_undo_27 : decode cX4_undo 27 = .ok (.getfield 98, 3) := by decide +kernel
theorem dX4_undo_30 : decode cX4_undo 30 = .ok (.ireturn, 1) := by decide +kernel
theorem dX4_isWithin_0 : decode cX4_isWithin 0 = .ok (.iload_n 0, 1) := by decide +kernel
theorem dX4_isWithin_1 : decode cX4_isWithin 1 = .ok (.iload_n 1, 1) := by decide +kernel
theorem dX4_isWithin_2 : decode cX4_isWithin 2 = .ok (.if_icmp .lt 12, 3) := by decide +kernel
theorem dX4_isWithin_5 : decode cX4_isWithin 5 = .ok (.iload_n 0, 1) := by decide +kernel
theorem dX4_isWithin_6 : decode cX4_isWithin 6 = .ok (.iload_n 2, 1) := by decide +kernel
theorem dX4_isWithin_7 : decode cX4_isWithin 7 = .ok (.if_icmp .gt 7, 3) := by decide +kernel
theorem dX4_isWithin_10 : decode cX4_isWithin 10 = .ok (.iconst 1, 1) := by decide +kernel
theorem dX4_isWithin_11 : decode cX4_isWithin 11 = .ok (.goto 4, 3) := by decide +kernel
theorem dX4_isWithin_14 : decode cX4_isWithin 14 = .ok (.iconst 0, 1) := by decide +kernel
theorem dX4_isWithin_15 : decode cX4_isWithin 15 = .ok (.ireturn, 1) := by decide +kernel
set_option maxRecDepth 20000 in
theorem ggX4_keepCopy_X2_init : GoodIn wsX4_keepCopy wsX2_init := goodIn_r _ [6, 7, 8, 9, 10, 11, 12, 13, 14, 15, 16, 17, 18, 19, 20, 21, 22, 23, 24, 25, 26, 27, 28, 46, 47, 48, 49, 50, 51, 52, 53] (by decide +kernel) (by decide +kernel)
set_option maxRecDepth 20000 in
theorem gX4_keepCopy_X2_init : GoodIn wsX4_keepCopy (wsX2_init) := ggX4_keepCopy_X2_init
set_option maxRecDepth 20000 in
theorem ggX4_keepCopy_X2_copyFrom : GoodIn wsX4_keepCopy wsX2_copyFrom := goodIn_r _ [32, 11, 33, 34, 35, 36, 12, 16, 17, 18, 37, 38, 39, 40, 15, 41, 28, 42, 43, 26, 44, 45, 46, 47, 48, 49, 50, 51, 52, 53] (by decide +kernel) (by decide +kernel)
set_option maxRecDepth 20000 in
theorem gX4_keepCopy_X2_copyFrom : GoodIn wsX4_keepCopy (wsV RX4 111 RX2 yX2_copyFrom wsX2_copyFrom) := goodIn_app (goodIn_of _ (by decide +kernel)) ggX4_keepCopy_X2_copyFrom
theorem dX4_keepCopy_0 : decode cX4_keepCopy 0 = .ok (.iload_n 1, 1) := by decide +kernel
theorem dX4_keepCopy_1 : decode cX4_keepCopy 1 = .ok (.ifCond .lt 9, 3) := by decide +kernel
theorem dX4_keepCopy_4 : decode cX4_keepCopy 4 = .ok (.iload_n 1, 1) := by decide +kernel
theorem dX4_keepCopy_5 : decode cX4_keepCopy 5 = .ok (.aload_n 0, 1) := by decide +kernel
theorem dX4_keepCopy_6 : decode cX4_keepCopy 6 = .ok (.arraylength, 1) := by decide +kernel
theorem dX4_keepCopy_7 : decode cX4_keepCopy 7 = .ok (.if_icmp .lt 4, 3) := by decide +kernel
theorem dX4_keepCopy_10 : decode cX4_keepCopy 10 = .ok (.return_, 1) := by decide +kernel
theorem dX4_keepCopy_11 : decode cX4_keepCopy 11 = .ok (.aload_n 0, 1) := by decide +kernel
theorem dX4_keepCopy_12 : decode cX4_keepCopy 12 = .ok (.iload_n 1, 1) := by decide +kernel
theorem dX4_keepCopy_13 : decode cX4_keepCopy 13 = .ok (.aaload, 1) := by decide +kernel
theorem dX4_keepCopy_14 : decode cX4_keepCopy 14 = .ok (.ifnonnull 13, 3) := by decide +kernel
theorem dX4_keepCopy_17 : decode cX4_keepCopy 17 = .ok (.aload_n 0, 1) := by decide +kernel
theorem dX4_keepCopy_18 : decode cX4_keepCopy 18 = .ok (.iload_n 1, 1) := by decide +kernel
theorem dX4_keepCopy_19 : decode cX4_keepCopy 19 = .ok (.new 7, 3) := by decide +kernel
theorem dX4_keepCopy_22 : decode cX4_keepCopy 22 = .ok (.dup, 1) := by decide +kernel
theorem dX4_keepCopy_23 : decode cX4_keepCopy 23 = .ok (.invokespecial 9, 3) := by decide +kernel
theorem dX4_keepCopy_26 : decode cX4_keepCopy 26 = .ok (.aastore, 1) := by decide +kernel
theorem dX4_keepCopy_27 : decode cX4_keepCopy 27 = .ok (.aload_n 0, 1) := by decide +kernel
theorem dX4_keepCopy_28 : decode cX4_keepCopy 28 = .ok (.iload_n 1, 1) := by decide +kernel
theorem dX4_keepCopy_29 : decode cX4_keepCopy 29 = .ok (.aaload, 1) := by decide +kernel
theorem dX4_keepCopy_30 : decode cX4_keepCopy 30 = .ok (.aload_n 2, 1) := by decide +kernel
theorem dX4_keepCopy_31 : decode cX4_keepCopy 31 = .ok (.invokevirtual 111, 3) := by decide +kernel
theorem dX4_keepCopy_34 : decode cX4_keepCopy 34 = .ok (.return_, 1) := by decide +kernel
set_option maxRecDepth 20000 in
theorem ggX4_gainOf_X4_isWithin : GoodIn wsX4_gainOf wsX4_isWithin := goodIn_r _ [6] (by decide +kernel) (by decide +kernel)
set_option maxRecDepth 20000 in
theorem gX4_gainOf_X4_isWithin : GoodIn wsX4_gainOf (va_wsS RX4 67 yX4_isWithin wsX4_isWithin) := goodIn_app (goodIn_of _ (by decide +kernel)) ggX4_gainOf_X4_isWithin
theorem dX4_gainOf_0 : decode cX4_gainOf 0 = .ok (.iload_n 1, 1) := by decide +kernel
theorem dX4_gainOf_1 : decode cX4_gainOf 1 = .ok (.iconst 0, 1) := by decide +kernel
theorem dX4_gainOf_2 : decode cX4_gainOf 2 = .ok (.bipush 23, 2) := by decide +kernel
theorem dX4_gainOf_4 : decode cX4_gainOf 4 = .ok (.invokestatic 67, 3) := by decide +kernel
theorem dX4_gainOf_7 : decode cX4_gainOf 7 = .ok (.ifCond .eq 25, 3) := by decide +kernel
theorem dX4_gainOf_10 : decode cX4_gainOf 10 = .ok (.aload_n 0, 1) := by decide +kernel
theorem dX4_gainOf_11 : decode cX4_gainOf 11 = .ok (.getfield 16, 3) := by decide +kernel
theorem dX4_gainOf_14 : decode cX4_gainOf 14 = .ok (.getfield 63, 3) := by decide +kernel
theorem dX4_gainOf_17 : decode cX4_gainOf 17 = .ok (.iload_n 1, 1) := by decide +kernel
theorem dX4_gainOf_18 : decode cX4_gainOf 18 = .ok (.iaload, 1) := by decide +kernel
theorem dX4_gainOf_19 : decode cX4_gainOf 19 = .ok (.aload_n 0, 1) := by decide +kernel
theorem dX4_gainOf_20 : decode cX4_gainOf 20 = .ok (.getfield 10, 3) := by decide +kernel
theorem dX4_gainOf_23 : decode cX4_gainOf 23 = .ok (.getfield 63, 3) := by decide +kernel
theorem dX4_gainOf_26 : decode cX4_gainOf 26 = .ok (.iload_n 1, 1) := by decide +kernel
theorem dX4_gainOf_27 : decode cX4_gainOf 27 = .ok (.iaload, 1) := by decide +kernel
theorem dX4_gainOf_28 : decode cX4_gainOf 28 = .ok (.isub, 1) := by decide +kernel
theorem dX4_gainOf_29 : decode cX4_gainOf 29 = .ok (.goto 4, 3) := by decide +kernel
theorem dX4_gainOf_32 : decode cX4_gainOf 32 = .ok (.iconst 0, 1) := by decide +kernel
theorem dX4_gainOf_33 : decode cX4_gainOf 33 = .ok (.ireturn, 1) := by decide +kernel
theorem dJ9_max_7cf53_0 : decode cJ9_max_7cf53 0 = .ok (.iload_n 0, 1) := by decide +kernel
theorem dJ9_max_7cf53_1 : decode cJ9_max_7cf53 1 = .ok (.iload_n 1, 1) := by decide +kernel
theorem dJ9_max_7cf53_2 : decode cJ9_max_7cf53 2 = .ok (.if_icmp .lt 7, 3) := by decide +kernel
theorem dJ9_max_7cf53_5 : decode cJ9_max_7cf53 5 = .ok (.iload_n 0, 1) := by decide +kernel
theorem dJ9_max_7cf53_6 : decode cJ9_max_7cf53 6 = .ok (.goto 4, 3) := by decide +kernel
theorem dJ9_max_7cf53_9 : decode cJ9_max_7cf53 9 = .ok (.iload_n 1, 1) := by decide +kernel
theorem dJ9_max_7cf53_10 : decode cJ9_max_7cf53 10 = .ok (.ireturn, 1) := by decide +kernel
theorem dJ9_min_7cf53_0 : decode cJ9_min_7cf53 0 = .ok (.iload_n 0, 1) := by decide +kernel
theorem dJ9_min_7cf53_1 : decode cJ9_min_7cf53 1 = .ok (.iload_n 1, 1) := by decide +kernel
theorem dJ9_min_7cf53_2 : decode cJ9_min_7cf53 2 = .ok (.if_icmp .gt 7, 3) := by decide +kernel
theorem dJ9_min_7cf53_5 : decode cJ9_min_7cf53 5 = .ok (.iload_n 0, 1) := by decide +kernel
theorem dJ9_min_7cf53_6 : decode cJ9_min_7cf53 6 = .ok (.goto 4, 3) := by decide +kernel
theorem dJ9_min_7cf53_9 : decode cJ9_min_7cf53 9 = .ok (.iload_n 1, 1) := by decide +kernel
theorem dJ9_min_7cf53_10 : decode cJ9_min_7cf53 10 = .ok (.ireturn, 1) := by decide +kernel
theorem dL_low_0 : decode cL_low 0 = .ok (.iload_n 0, 1) := by decide +kernel
theorem dL_low_1 : decode cL_low 1 = .ok (.ldc 7, 2) := by decide +kernel
theorem dL_low_3 : decode cL_low 3 = .ok (.iand, 1) := by decide +kernel
theorem dL_low_4 : decode cL_low 4 = .ok (.iload_n 1, 1) := by decide +kernel
theorem dL_low_5 : decode cL_low 5 = .ok (.irem, 1) := by decide +kernel
theorem dL_low_6 : decode cL_low 6 = .ok (.ireturn, 1) := by decide +kernel
theorem dL_cell_0 : decode cL_cell 0 = .ok (.iload_n 1, 1) := by decide +kernel
theorem dL_cell_1 : decode cL_cell 1 = .ok (.aload_n 0, 1) := by decide +kernel
theorem dL_cell_2 : decode cL_cell 2 = .ok (.arraylength, 1) := by decide +kernel
theorem dL_cell_3 : decode cL_cell 3 = .ok (.if_icmp .ge 9, 3) := by decide +kernel
theorem dL_cell_6 : decode cL_cell 6 = .ok (.aload_n 0, 1) := by decide +kernel
theorem dL_cell_7 : decode cL_cell 7 = .ok (.iload_n 1, 1) := by decide +kernel
theorem dL_cell_8 : decode cL_cell 8 = .ok (.iaload, 1) := by decide +kernel
theorem dL_cell_9 : decode cL_cell 9 = .ok (.goto 11, 3) := by decide +kernel
theorem dL_cell_12 : decode cL_cell 12 = .ok (.ldc 8, 2) := by decide +kernel
theorem dL_cell_14 : decode cL_cell 14 = .ok (.iload_n 1, 1) := by decide +kernel
theorem dL_cell_15 : decode cL_cell 15 = .ok (.imul, 1) := by decide +kernel
theorem dL_cell_16 : decode cL_cell 16 = .ok (.sipush 977, 3) := by decide +kernel
theorem dL_cell_19 : decode cL_cell 19 = .ok (.iadd, 1) := by decide +kernel
theorem dL_cell_20 : decode cL_cell 20 = .ok (.ireturn, 1) := by decide +kernel
set_option maxRecDepth 20000 in
theorem ggL_lines_X4_count : GoodIn wsL_lines wsX4_count := goodIn_r _ [5, 6, 7, 8, 9, 10, 4, 11, 23, 24, 25, 26, 27, 28, 29, 30, 31, 32, 33, 34, 35, 36, 37, 38, 39, 40, 41, 42] (by decide +kernel) (by decide +kernel)
set_option maxRecDepth 20000 in
theorem gL_lines_X4_count : GoodIn wsL_lines (wsV RL 9 RX4 yX4_count wsX4_count) := goodIn_app (goodIn_of _ (by decide +kernel)) ggL_lines_X4_count
set_option maxRecDepth 20000 in
theorem ggL_lines_X4_waiting : GoodIn wsL_lines wsX4_waiting := goodIn_r _ [15, 8, 9, 10, 4, 11, 16, 17, 18, 19, 20, 21, 22, 23, 24, 25, 26, 27, 37, 38, 39, 40, 41, 42, 43, 44] (by decide +kernel) (by decide +kernel)
set_option maxRecDepth 20000 in
theorem gL_lines_X4_waiting : GoodIn wsL_lines (wsV RL 15 RX4 yX4_waiting wsX4_waiting) := goodIn_app (goodIn_of _ (by decide +kernel)) ggL_lines_X4_waiting
theorem dL_lines_0 : decode cL_lines 0 = .ok (.aload_n 0, 1) := by decide +kernel
theorem dL_lines_1 : decode cL_lines 1 = .ok (.iconst 1, 1) := by decide +kernel
theorem dL_lines_2 : decode cL_lines 2 = .ok (.invokevirtual 9, 3) := by decide +kernel
theorem dL_lines_5 : decode cL_lines 5 = .ok (.aload_n 0, 1) := by decide +kernel
theorem dL_lines_6 : decode cL_lines 6 = .ok (.iconst 2, 1) := by decide +kernel
theorem dL_lines_7 : decode cL_lines 7 = .ok (.invokevirtual 9, 3) := by decide +kernel
theorem dL_lines_10 : decode cL_lines 10 = .ok (.aload_n 0, 1) := by decide +kernel
theorem dL_lines_11 : decode cL_lines 11 = .ok (.iconst 3, 1) := by decide +kernel
theorem dL_lines_12 : decode cL_lines 12 = .ok (.invokevirtual 9, 3) := by decide +kernel
theorem dL_lines_15 : decode cL_lines 15 = .ok (.iadd, 1) := by decide +kernel
theorem dL_lines_16 : decode cL_lines 16 = .ok (.aload_n 0, 1) := by decide +kernel
theorem dL_lines_17 : decode cL_lines 17 = .ok (.iconst 4, 1) := by decide +kernel
theorem dL_lines_18 : decode cL_lines 18 = .ok (.invokevirtual 9, 3) := by decide +kernel
theorem dL_lines_21 : decode cL_lines 21 = .ok (.iadd, 1) := by decide +kernel
theorem dL_lines_22 : decode cL_lines 22 = .ok (.if_icmp .ne 21, 3) := by decide +kernel
theorem dL_lines_25 : decode cL_lines 25 = .ok (.aload_n 0, 1) := by decide +kernel
theorem dL_lines_26 : decode cL_lines 26 = .ok (.iconst 2, 1) := by decide +kernel
theorem dL_lines_27 : decode cL_lines 27 = .ok (.invokevirtual 9, 3) := by decide +kernel
theorem dL_lines_30 : decode cL_lines 30 = .ok (.aload_n 0, 1) := by decide +kernel
theorem dL_lines_31 : decode cL_lines 31 = .ok (.bipush 18, 2) := by decide +kernel
theorem dL_lines_33 : decode cL_lines 33 = .ok (.invokevirtual 9, 3) := by decide +kernel
theorem dL_lines_36 : decode cL_lines 36 = .ok (.if_icmp .gt 7, 3) := by decide +kernel
theorem dL_lines_39 : decode cL_lines 39 = .ok (.iconst 1, 1) := by decide +kernel
theorem dL_lines_40 : decode cL_lines 40 = .ok (.goto 4, 3) := by decide +kernel
theorem dL_lines_43 : decode cL_lines 43 = .ok (.iconst 0, 1) := by decide +kernel
theorem dL_lines_44 : decode cL_lines 44 = .ok (.istore_n 1, 1) := by decide +kernel
theorem dL_lines_45 : decode cL_lines 45 = .ok (.iconst (-1), 1) := by decide +kernel
theorem dL_lines_46 : decode cL_lines 46 = .ok (.istore_n 2, 1) := by decide +kernel
theorem dL_lines_47 : decode cL_lines 47 = .ok (.iconst 0, 1) := by decide +kernel
theorem dL_lines_48 : decode cL_lines 48 = .ok (.istore_n 3, 1) := by decide +kernel
theorem dL_lines_49 : decode cL_lines 49 = .ok (.iload_n 3, 1) := by decide +kernel
theorem dL_lines_50 : decode cL_lines 50 = .ok (.aload_n 0, 1) := by decide +kernel
theorem dL_lines_51 : decode cL_lines 51 = .ok (.iconst 2, 1) := by decide +kernel
theorem dL_lines_52 : decode cL_lines 52 = .ok (.invokevirtual 9, 3) := by decide +kernel
theorem dL_lines_55 : decode cL_lines 55 = .ok (.if_icmp .ge 119, 3) := by decide +kernel
theorem dL_lines_58 : decode cL_lines 58 = .ok (.iload_n 1, 1) := by decide +kernel
theorem dL_lines_59 : decode cL_lines 59 = .ok (.ifCond .eq 115, 3) := by decide +kernel
theorem dL_lines_62 : decode cL_lines 62 = .ok (.aload_n 0, 1) := by decide +kernel
theorem dL_lines_63 : decode cL_lines 63 = .ok (.iload_n 3, 1) := by decide +kernel
theorem dL_lines_64 : decode cL_lines 64 = .ok (.iconst 0, 1) := by decide +kernel
theorem dL_lines_65 : decode cL_lines 65 = .ok (.invokevirtual 15, 3) := by decide +kernel
theorem dL_lines_68 : decode cL_lines 68 = .ok (.aload_n 0, 1) := by decide +kernel
theorem dL_lines_69 : decode cL_lines 69 = .ok (.bipush 19, 2) := by decide +kernel
theorem dL_lines_71 : decode cL_lines 71 = .ok (.invokevirtual 9, 3) := by decide +kernel
theorem dL_lines_74 : decode cL_lines 74 = .ok (.imul, 1) := by decide +kernel
theorem dL_lines_75 : decode cL_lines 75 = .ok (.aload_n 0, 1) := by decide +kernel
theorem dL_lines_76 : decode cL_lines 76 = .ok (.iload_n 3, 1) := by decide +kernel
theorem dL_lines_77 : decode cL_lines 77 = .ok (.iconst 1, 1) := by decide +kernel
theorem dL_lines_78 : decode cL_lines 78 = .ok (.invokevirtual 15, 3) := by decide +kernel
theorem dL_lines_81 : decode cL_lines 81 = .ok (.iadd, 1) := by decide +kernel
theorem dL_lines_82 : decode cL_lines 82 = .ok (.istore 4, 2) := by decide +kernel
theorem dL_lines_84 : decode cL_lines 84 = .ok (.iload 4, 2) := by decide +kernel
theorem dL_lines_86 : decode cL_lines 86 = .ok (.iload_n 2, 1) := by decide +kernel
theorem dL_lines_87 : decode cL_lines 87 = .ok (.if_icmp .le 76, 3) := by decide +kernel
theorem dL_lines_90 : decode cL_lines 90 = .ok (.iload 4, 2) := by decide +kernel
theorem dL_lines_92 : decode cL_lines 92 = .ok (.aload_n 0, 1) := by decide +kernel
theorem dL_lines_93 : decode cL_lines 93 = .ok (.iconst 1, 1) := by decide +kernel
theorem dL_lines_94 : decode cL_lines 94 = .ok (.invokevirtual 9, 3) := by decide +kernel
theorem dL_lines_97 : decode cL_lines 97 = .ok (.if_icmp .ge 66, 3) := by decide +kernel
theorem dL_lines_100 : decode cL_lines 100 = .ok (.aload_n 0, 1) := by decide +kernel
theorem dL_lines_101 : decode cL_lines 101 = .ok (.iload_n 3, 1) := by decide +kernel
theorem dL_lines_102 : decode cL_lines 102 = .ok (.iconst 1, 1) := by decide +kernel
theorem dL_lines_103 : decode cL_lines 103 = .ok (.invokevirtual 15, 3) := by decide +kernel
theorem dL_lines_106 : decode cL_lines 106 = .ok (.aload_n 0, 1) := by decide +kernel
theorem dL_lines_107 : decode cL_lines 107 = .ok (.bipush 19, 2) := by decide +kernel
theorem dL_lines_109 : decode cL_lines 109 = .ok (.invokevirtual 9, 3) := by decide +kernel
theorem dL_lines_112 : decode cL_lines 112 = .ok (.if_icmp .ge 51, 3) := by decide +kernel
theorem dL_lines_115 : decode cL_lines 115 = .ok (.aload_n 0, 1) := by decide +kernel
theorem dL_lines_116 : decode cL_lines 116 = .ok (.iload_n 3, 1) := by decide +kernel
theorem dL_lines_117 : decode cL_lines 117 = .ok (.iconst 3, 1) := by decide +kernel
theorem dL_lines_118 : decode cL_lines 118 = .ok (.invokevirtual 15, 3) := by decide +kernel
theorem dL_lines_121 : decode cL_lines 121 = .ok (.iconst 2, 1) := by decide +kernel
theorem dL_lines_122 : decode cL_lines 122 = .ok (.if_icmp .ge 41, 3) := by decide +kernel
theorem dL_lines_125 : decode cL_lines 125 = .ok (.iload_n 3, 1) := by decide +kernel
theorem dL_lines_126 : decode cL_lines 126 = .ok (.ifCond .eq 12, 3) := by decide +kernel
theorem dL_lines_129 : decode cL_lines 129 = .ok (.aload_n 0, 1) := by decide +kernel
theorem dL_lines_130 : decode cL_lines 130 = .ok (.iload_n 3, 1) := by decide +kernel
theorem dL_lines_131 : decode cL_lines 131 = .ok (.iconst 3, 1) := by decide +kernel
theorem dL_lines_132 : decode cL_lines 132 = .ok (.invokevirtual 15, 3) := by decide +kernel
theorem dL_lines_135 : decode cL_lines 135 = .ok (.ifCond .ne 28, 3) := by decide +kernel
theorem dL_lines_138 : decode cL_lines 138 = .ok (.aload_n 0, 1) := by decide +kernel
theorem dL_lines_139 : decode cL_lines 139 = .ok (.iload_n 3, 1) := by decide +kernel
theorem dL_lines_140 : decode cL_lines 140 = .ok (.iconst 2, 1) := by decide +kernel
theorem dL_lines_141 : decode cL_lines 141 = .ok (.invokevirtual 15, 3) := by decide +kernel
theorem dL_lines_144 : decode cL_lines 144 = .ok (.ifCond .lt 19, 3) := by decide +kernel
theorem dL_lines_147 : decode cL_lines 147 = .ok (.aload_n 0, 1) := by decide +kernel
theorem dL_lines_148 : decode cL_lines 148 = .ok (.iload_n 3, 1) := by decide +kernel
theorem dL_lines_149 : decode cL_lines 149 = .ok (.iconst 2, 1) := by decide +kernel
theorem dL_lines_150 : decode cL_lines 150 = .ok (.invokevirtual 15, 3) := by decide +kernel
theorem dL_lines_153 : decode cL_lines 153 = .ok (.sipush 256, 3) := by decide +kernel
theorem dL_lines_156 : decode cL_lines 156 = .ok (.if_icmp .ge 7, 3) := by decide +kernel
theorem dL_lines_159 : decode cL_lines 159 = .ok (.iconst 1, 1) := by decide +kernel
theorem dL_lines_160 : decode cL_lines 160 = .ok (.goto 4, 3) := by decide +kernel
theorem dL_lines_163 : decode cL_lines 163 = .ok (.iconst 0, 1) := by decide +kernel
theorem dL_lines_164 : decode cL_lines 164 = .ok (.istore_n 1, 1) := by decide +kernel
theorem dL_lines_165 : decode cL_lines 165 = .ok (.iload 4, 2) := by decide +kernel
theorem dL_lines_167 : decode cL_lines 167 = .ok (.istore_n 2, 1) := by decide +kernel
theorem dL_lines_168 : decode cL_lines 168 = .ok (.iinc 3 1, 3) := by decide +kernel
theorem dL_lines_171 : decode cL_lines 171 = .ok (.goto (-122), 3) := by decide +kernel
theorem dL_lines_174 : decode cL_lines 174 = .ok (.iload_n 1, 1) := by decide +kernel
theorem dL_lines_175 : decode cL_lines 175 = .ok (.ifCond .eq 49, 3) := by decide +kernel
theorem dL_lines_178 : decode cL_lines 178 = .ok (.aload_n 0, 1) := by decide +kernel
theorem dL_lines_179 : decode cL_lines 179 = .ok (.aload_n 0, 1) := by decide +kernel
theorem dL_lines_180 : decode cL_lines 180 = .ok (.iconst 2, 1) := by decide +kernel
theorem dL_lines_181 : decode cL_lines 181 = .ok (.invokevirtual 9, 3) := by decide +kernel
theorem dL_lines_184 : decode cL_lines 184 = .ok (.iconst 0, 1) := by decide +kernel
theorem dL_lines_185 : decode cL_lines 185 = .ok (.invokevirtual 15, 3) := by decide +kernel
theorem dL_lines_188 : decode cL_lines 188 = .ok (.iconst (-1), 1) := by decide +kernel
theorem dL_lines_189 : decode cL_lines 189 = .ok (.if_icmp .ne 35, 3) := by decide +kernel
theorem dL_lines_192 : decode cL_lines 192 = .ok (.aload_n 0, 1) := by decide +kernel
theorem dL_lines_193 : decode cL_lines 193 = .ok (.bipush 9, 2) := by decide +kernel
theorem dL_lines_195 : decode cL_lines 195 = .ok (.invokevirtual 9, 3) := by decide +kernel
theorem dL_lines_198 : decode cL_lines 198 = .ok (.aload_n 0, 1) := by decide +kernel
theorem dL_lines_199 : decode cL_lines 199 = .ok (.bipush 19, 2) := by decide +kernel
theorem dL_lines_201 : decode cL_lines 201 = .ok (.invokevirtual 9, 3) := by decide +kernel
theorem dL_lines_204 : decode cL_lines 204 = .ok (.imul, 1) := by decide +kernel
theorem dL_lines_205 : decode cL_lines 205 = .ok (.aload_n 0, 1) := by decide +kernel
theorem dL_lines_206 : decode cL_lines 206 = .ok (.bipush 8, 2) := by decide +kernel
theorem dL_lines_208 : decode cL_lines 208 = .ok (.invokevirtual 9, 3) := by decide +kernel
theorem dL_lines_211 : decode cL_lines 211 = .ok (.iadd, 1) := by decide +kernel
theorem dL_lines_212 : decode cL_lines 212 = .ok (.aload_n 0, 1) := by decide +kernel
theorem dL_lines_213 : decode cL_lines 213 = .ok (.iconst 1, 1) := by decide +kernel
theorem dL_lines_214 : decode cL_lines 214 = .ok (.invokevirtual 9, 3) := by decide +kernel
theorem dL_lines_217 : decode cL_lines 217 = .ok (.if_icmp .ne 7, 3) := by decide +kernel
theorem dL_lines_220 : decode cL_lines 220 = .ok (.iconst 1, 1) := by decide +kernel
theorem dL_lines_221 : decode cL_lines 221 = .ok (.goto 4, 3) := by decide +kernel
theorem dL_lines_224 : decode cL_lines 224 = .ok (.iconst 0, 1) := by decide +kernel
theorem dL_lines_225 : decode cL_lines 225 = .ok (.ireturn, 1) := by decide +kernel
set_option maxRecDepth 20000 in
theorem ggL_rows_X4_count : GoodIn wsL_rows wsX4_count := goodIn_r _ [5, 6, 7, 8, 9, 10, 4, 11, 49, 50, 51, 52, 53, 54, 55, 56, 57, 58, 59, 60, 61, 62, 63, 64, 65, 66, 67, 68] (by decide +kernel) (by decide +kernel)
set_option maxRecDepth 20000 in
theorem gL_rows_X4_count : GoodIn wsL_rows (wsV RL 9 RX4 yX4_count wsX4_count) := goodIn_app (goodIn_of _ (by decide +kernel)) ggL_rows_X4_count
set_option maxRecDepth 20000 in
theorem ggL_rows_X4_waiting : GoodIn wsL_rows wsX4_waiting := goodIn_r _ [15, 8, 9, 10, 4, 11, 16, 17, 18, 19, 20, 21, 22, 49, 50, 51, 52, 53, 63, 64, 65, 66, 67, 68, 69, 70] (by decide +kernel) (by decide +kernel)
set_option maxRecDepth 20000 in
theorem gL_rows_X4_waiting : GoodIn wsL_rows (wsV RL 15 RX4 yX4_waiting wsX4_waiting) := goodIn_app (goodIn_of _ (by decide +kernel)) ggL_rows_X4_waiting
set_option maxRecDepth 20000 in
theorem ggL_rows_X4_row : GoodIn wsL_rows wsX4_row := goodIn_r _ [26, 8, 27, 28, 29, 30, 31, 32, 33, 34, 35, 36, 10, 4, 11, 9, 16, 17, 18, 19, 20, 21, 22, 49, 50, 51, 52, 53, 63, 64, 65, 66, 67, 68, 69, 70] (by decide +kernel) (by decide +kernel)
set_option maxRecDepth 20000 in
theorem gL_rows_X4_row : GoodIn wsL_rows (wsV RL 19 RX4 yX4_row wsX4_row) := goodIn_app (goodIn_of _ (by decide +kernel)) ggL_rows_X4_row
set_option maxRecDepth 20000 in
theorem ggL_rows_X4_ofMissing : GoodIn wsL_rows wsX4_ofMissing := goodIn_r _ [40, 8, 41, 42, 43, 44, 9, 10, 4, 11, 16, 17, 18, 19, 20, 21, 22, 49, 50, 51, 52, 53, 63, 64, 65, 66, 67, 68, 69, 70] (by decide +kernel) (by decide +kernel)
set_option maxRecDepth 20000 in
theorem gL_rows_X4_ofMissing : GoodIn wsL_rows (wsV RL 22 RX4 yX4_ofMissing wsX4_ofMissing) := goodIn_app (goodIn_of _ (by decide +kernel)) ggL_rows_X4_ofMissing
set_option maxRecDepth 20000 in
theorem ggL_rows_X4_shown : GoodIn wsL_rows wsX4_shown := goodIn_r _ [48, 8, 27, 28, 29, 30, 31, 32, 33, 34, 35, 36, 10, 4, 11, 16, 17, 18, 19, 20, 21, 22, 49, 50, 51, 52, 53, 63, 64, 65, 66, 67, 68, 69, 70] (by decide +kernel) (by decide +kernel)
set_option maxRecDepth 20000 in
theorem gL_rows_X4_shown : GoodIn wsL_rows (wsV RL 25 RX4 yX4_shown wsX4_shown) := goodIn_app (goodIn_of _ (by decide +kernel)) ggL_rows_X4_shown
theorem dL_rows_0 : decode cL_rows 0 = .ok (.iconst 2, 1) := by decide +kernel
theorem dL_rows_1 : decode cL_rows 1 = .ok (.aload_n 0, 1) := by decide +kernel
theorem dL_rows_2 : decode cL_rows 2 = .ok (.bipush 19, 2) := by decide +kernel
theorem dL_rows_4 : decode cL_rows 4 = .ok (.invokevirtual 9, 3) := by decide +kernel
theorem dL_rows_7 : decode cL_rows 7 = .ok (.imul, 1) := by decide +kernel
theorem dL_rows_8 : decode cL_rows 8 = .ok (.istore_n 1, 1) := by decide +kernel
theorem dL_rows_9 : decode cL_rows 9 = .ok (.aload_n 0, 1) := by decide +kernel
theorem dL_rows_10 : decode cL_rows 10 = .ok (.iconst 2, 1) := by decide +kernel
theorem dL_rows_11 : decode cL_rows 11 = .ok (.invokevirtual 9, 3) := by decide +kernel
theorem dL_rows_14 : decode cL_rows 14 = .ok (.ifCond .le 12, 3) := by decide +kernel
theorem dL_rows_17 : decode cL_rows 17 = .ok (.aload_n 0, 1) := by decide +kernel
theorem dL_rows_18 : decode cL_rows 18 = .ok (.iconst 0, 1) := by decide +kernel
theorem dL_rows_19 : decode cL_rows 19 = .ok (.iconst 3, 1) := by decide +kernel
theorem dL_rows_20 : decode cL_rows 20 = .ok (.invokevirtual 15, 3) := by decide +kernel
theorem dL_rows_23 : decode cL_rows 23 = .ok (.goto 4, 3) := by decide +kernel
theorem dL_rows_26 : decode cL_rows 26 = .ok (.iconst 0, 1) := by decide +kernel
theorem dL_rows_27 : decode cL_rows 27 = .ok (.istore_n 2, 1) := by decide +kernel
theorem dL_rows_28 : decode cL_rows 28 = .ok (.aload_n 0, 1) := by decide +kernel
theorem dL_rows_29 : decode cL_rows 29 = .ok (.bipush 12, 2) := by decide +kernel
theorem dL_rows_31 : decode cL_rows 31 = .ok (.invokevirtual 9, 3) := by decide +kernel
theorem dL_rows_34 : decode cL_rows 34 = .ok (.aload_n 0, 1) := by decide +kernel
theorem dL_rows_35 : decode cL_rows 35 = .ok (.bipush 13, 2) := by decide +kernel
theorem dL_rows_37 : decode cL_rows 37 = .ok (.invokevirtual 9, 3) := by decide +kernel
theorem dL_rows_40 : decode cL_rows 40 = .ok (.iadd, 1) := by decide +kernel
theorem dL_rows_41 : decode cL_rows 41 = .ok (.aload_n 0, 1) := by decide +kernel
theorem dL_rows_42 : decode cL_rows 42 = .ok (.bipush 14, 2) := by decide +kernel
theorem dL_rows_44 : decode cL_rows 44 = .ok (.invokevirtual 9, 3) := by decide +kernel
theorem dL_rows_47 : decode cL_rows 47 = .ok (.iadd, 1) := by decide +kernel
theorem dL_rows_48 : decode cL_rows 48 = .ok (.istore_n 3, 1) := by decide +kernel
theorem dL_rows_49 : decode cL_rows 49 = .ok (.aload_n 0, 1) := by decide +kernel
theorem dL_rows_50 : decode cL_rows 50 = .ok (.iconst 5, 1) := by decide +kernel
theorem dL_rows_51 : decode cL_rows 51 = .ok (.invokevirtual 9, 3) := by decide +kernel
theorem dL_rows_54 : decode cL_rows 54 = .ok (.iconst 2, 1) := by decide +kernel
theorem dL_rows_55 : decode cL_rows 55 = .ok (.aload_n 0, 1) := by decide +kernel
theorem dL_rows_56 : decode cL_rows 56 = .ok (.iconst 3, 1) := by decide +kernel
theorem dL_rows_57 : decode cL_rows 57 = .ok (.invokevirtual 9, 3) := by decide +kernel
theorem dL_rows_60 : decode cL_rows 60 = .ok (.imul, 1) := by decide +kernel
theorem dL_rows_61 : decode cL_rows 61 = .ok (.isub, 1) := by decide +kernel
theorem dL_rows_62 : decode cL_rows 62 = .ok (.iload_n 2, 1) := by decide +kernel
theorem dL_rows_63 : decode cL_rows 63 = .ok (.isub, 1) := by decide +kernel
theorem dL_rows_64 : decode cL_rows 64 = .ok (.aload_n 0, 1) := by decide +kernel
theorem dL_rows_65 : decode cL_rows 65 = .ok (.bipush 6, 2) := by decide +kernel
theorem dL_rows_67 : decode cL_rows 67 = .ok (.invokevirtual 9, 3) := by decide +kernel
theorem dL_rows_70 : decode cL_rows 70 = .ok (.isub, 1) := by decide +kernel
theorem dL_rows_71 : decode cL_rows 71 = .ok (.istore 4, 2) := by decide +kernel
theorem dL_rows_73 : decode cL_rows 73 = .ok (.iload 4, 2) := by decide +kernel
theorem dL_rows_75 : decode cL_rows 75 = .ok (.ifCond .lt 49, 3) := by decide +kernel
theorem dL_rows_78 : decode cL_rows 78 = .ok (.iload 4, 2) := by decide +kernel
theorem dL_rows_80 : decode cL_rows 80 = .ok (.aload_n 0, 1) := by decide +kernel
theorem dL_rows_81 : decode cL_rows 81 = .ok (.iconst 4, 1) := by decide +kernel
theorem dL_rows_82 : decode cL_rows 82 = .ok (.invokevirtual 9, 3) := by decide +kernel
theorem dL_rows_85 : decode cL_rows 85 = .ok (.if_icmp .gt 39, 3) := by decide +kernel
theorem dL_rows_88 : decode cL_rows 88 = .ok (.aload_n 0, 1) := by decide +kernel
theorem dL_rows_89 : decode cL_rows 89 = .ok (.iconst 5, 1) := by decide +kernel
theorem dL_rows_90 : decode cL_rows 90 = .ok (.invokevirtual 9, 3) := by decide +kernel
theorem dL_rows_93 : decode cL_rows 93 = .ok (.iload_n 3, 1) := by decide +kernel
theorem dL_rows_94 : decode cL_rows 94 = .ok (.iload_n 1, 1) := by decide +kernel
theorem dL_rows_95 : decode cL_rows 95 = .ok (.imul, 1) := by decide +kernel
theorem dL_rows_96 : decode cL_rows 96 = .ok (.aload_n 0, 1) := by decide +kernel
theorem dL_rows_97 : decode cL_rows 97 = .ok (.bipush 7, 2) := by decide +kernel
theorem dL_rows_99 : decode cL_rows 99 = .ok (.invokevirtual 9, 3) := by decide +kernel
theorem dL_rows_102 : decode cL_rows 102 = .ok (.iadd, 1) := by decide +kernel
theorem dL_rows_103 : decode cL_rows 103 = .ok (.if_icmp .ne 21, 3) := by decide +kernel
theorem dL_rows_106 : decode cL_rows 106 = .ok (.aload_n 0, 1) := by decide +kernel
theorem dL_rows_107 : decode cL_rows 107 = .ok (.bipush 6, 2) := by decide +kernel
theorem dL_rows_109 : decode cL_rows 109 = .ok (.invokevirtual 9, 3) := by decide +kernel
theorem dL_rows_112 : decode cL_rows 112 = .ok (.aload_n 0, 1) := by decide +kernel
theorem dL_rows_113 : decode cL_rows 113 = .ok (.iconst 5, 1) := by decide +kernel
theorem dL_rows_114 : decode cL_rows 114 = .ok (.invokevirtual 9, 3) := by decide +kernel
theorem dL_rows_117 : decode cL_rows 117 = .ok (.if_icmp .gt 7, 3) := by decide +kernel
theorem dL_rows_120 : decode cL_rows 120 = .ok (.iconst 1, 1) := by decide +kernel
theorem dL_rows_121 : decode cL_rows 121 = .ok (.goto 4, 3) := by decide +kernel
theorem dL_rows_124 : decode cL_rows 124 = .ok (.iconst 0, 1) := by decide +kernel
theorem dL_rows_125 : decode cL_rows 125 = .ok (.istore 5, 2) := by decide +kernel
theorem dL_rows_127 : decode cL_rows 127 = .ok (.iconst 0, 1) := by decide +kernel
theorem dL_rows_128 : decode cL_rows 128 = .ok (.istore 6, 2) := by decide +kernel
theorem dL_rows_130 : decode cL_rows 130 = .ok (.iconst 1, 1) := by decide +kernel
theorem dL_rows_131 : decode cL_rows 131 = .ok (.istore 7, 2) := by decide +kernel
theorem dL_rows_133 : decode cL_rows 133 = .ok (.iconst 0, 1) := by decide +kernel
theorem dL_rows_134 : decode cL_rows 134 = .ok (.istore 8, 2) := by decide +kernel
theorem dL_rows_136 : decode cL_rows 136 = .ok (.iload 8, 2) := by decide +kernel
theorem dL_rows_138 : decode cL_rows 138 = .ok (.iload_n 1, 1) := by decide +kernel
theorem dL_rows_139 : decode cL_rows 139 = .ok (.if_icmp .ge 140, 3) := by decide +kernel
theorem dL_rows_142 : decode cL_rows 142 = .ok (.iload 5, 2) := by decide +kernel
theorem dL_rows_144 : decode cL_rows 144 = .ok (.ifCond .eq 135, 3) := by decide +kernel
theorem dL_rows_147 : decode cL_rows 147 = .ok (.aload_n 0, 1) := by decide +kernel
theorem dL_rows_148 : decode cL_rows 148 = .ok (.iload 8, 2) := by decide +kernel
theorem dL_rows_150 : decode cL_rows 150 = .ok (.iconst 1, 1) := by decide +kernel
theorem dL_rows_151 : decode cL_rows 151 = .ok (.invokevirtual 19, 3) := by decide +kernel
theorem dL_rows_154 : decode cL_rows 154 = .ok (.ifCond .lt 7, 3) := by decide +kernel
theorem dL_rows_157 : decode cL_rows 157 = .ok (.iconst 1, 1) := by decide +kernel
theorem dL_rows_158 : decode cL_rows 158 = .ok (.goto 4, 3) := by decide +kernel
theorem dL_rows_161 : decode cL_rows 161 = .ok (.iconst 0, 1) := by decide +kernel
theorem dL_rows_162 : decode cL_rows 162 = .ok (.istore 9, 2) := by decide +kernel
theorem dL_rows_164 : decode cL_rows 164 = .ok (.aload_n 0, 1) := by decide +kernel
theorem dL_rows_165 : decode cL_rows 165 = .ok (.iload 8, 2) := by decide +kernel
theorem dL_rows_167 : decode cL_rows 167 = .ok (.iconst 0, 1) := by decide +kernel
theorem dL_rows_168 : decode cL_rows 168 = .ok (.invokevirtual 19, 3) := by decide +kernel
theorem dL_rows_171 : decode cL_rows 171 = .ok (.bipush (-6), 2) := by decide +kernel
theorem dL_rows_173 : decode cL_rows 173 = .ok (.if_icmp .ne 7, 3) := by decide +kernel
theorem dL_rows_176 : decode cL_rows 176 = .ok (.iconst 1, 1) := by decide +kernel
theorem dL_rows_177 : decode cL_rows 177 = .ok (.goto 4, 3) := by decide +kernel
theorem dL_rows_180 : decode cL_rows 180 = .ok (.iconst 0, 1) := by decide +kernel
theorem dL_rows_181 : decode cL_rows 181 = .ok (.iload 8, 2) := by decide +kernel
theorem dL_rows_183 : decode cL_rows 183 = .ok (.aload_n 0, 1) := by decide +kernel
theorem dL_rows_184 : decode cL_rows 184 = .ok (.iconst 5, 1) := by decide +kernel
theorem dL_rows_185 : decode cL_rows 185 = .ok (.invokevirtual 9, 3) := by decide +kernel
theorem dL_rows_188 : decode cL_rows 188 = .ok (.if_icmp .lt 7, 3) := by decide +kernel
theorem dL_rows_191 : decode cL_rows 191 = .ok (.iconst 1, 1) := by decide +kernel
theorem dL_rows_192 : decode cL_rows 192 = .ok (.goto 4, 3) := by decide +kernel
theorem dL_rows_195 : decode cL_rows 195 = .ok (.iconst 0, 1) := by decide +kernel
theorem dL_rows_196 : decode cL_rows 196 = .ok (.if_icmp .ne 42, 3) := by decide +kernel
theorem dL_rows_199 : decode cL_rows 199 = .ok (.iload 9, 2) := by decide +kernel
theorem dL_rows_201 : decode cL_rows 201 = .ok (.aload_n 0, 1) := by decide +kernel
theorem dL_rows_202 : decode cL_rows 202 = .ok (.iload 8, 2) := by decide +kernel
theorem dL_rows_204 : decode cL_rows 204 = .ok (.iconst 2, 1) := by decide +kernel
theorem dL_rows_205 : decode cL_rows 205 = .ok (.invokevirtual 19, 3) := by decide +kernel
theorem dL_rows_208 : decode cL_rows 208 = .ok (.ifCond .lt 7, 3) := by decide +kernel
theorem dL_rows_211 : decode cL_rows 211 = .ok (.iconst 1, 1) := by decide +kernel
theorem dL_rows_212 : decode cL_rows 212 = .ok (.goto 4, 3) := by decide +kernel
theorem dL_rows_215 : decode cL_rows 215 = .ok (.iconst 0, 1) := by decide +kernel
theorem dL_rows_216 : decode cL_rows 216 = .ok (.if_icmp .ne 22, 3) := by decide +kernel
theorem dL_rows_219 : decode cL_rows 219 = .ok (.iload 8, 2) := by decide +kernel
theorem dL_rows_221 : decode cL_rows 221 = .ok (.aload_n 0, 1) := by decide +kernel
theorem dL_rows_222 : decode cL_rows 222 = .ok (.iconst 5, 1) := by decide +kernel
theorem dL_rows_223 : decode cL_rows 223 = .ok (.invokevirtual 9, 3) := by decide +kernel
theorem dL_rows_226 : decode cL_rows 226 = .ok (.if_icmp .lt 8, 3) := by decide +kernel
theorem dL_rows_229 : decode cL_rows 229 = .ok (.iload 9, 2) := by decide +kernel
theorem dL_rows_231 : decode cL_rows 231 = .ok (.ifCond .ne 7, 3) := by decide +kernel
theorem dL_rows_234 : decode cL_rows 234 = .ok (.iconst 1, 1) := by decide +kernel
theorem dL_rows_235 : decode cL_rows 235 = .ok (.goto 4, 3) := by decide +kernel
theorem dL_rows_238 : decode cL_rows 238 = .ok (.iconst 0, 1) := by decide +kernel
theorem dL_rows_239 : decode cL_rows 239 = .ok (.istore 5, 2) := by decide +kernel
theorem dL_rows_241 : decode cL_rows 241 = .ok (.iload 7, 2) := by decide +kernel
theorem dL_rows_243 : decode cL_rows 243 = .ok (.ifCond .eq 12, 3) := by decide +kernel
theorem dL_rows_246 : decode cL_rows 246 = .ok (.iload 9, 2) := by decide +kernel
theorem dL_rows_248 : decode cL_rows 248 = .ok (.ifCond .eq 7, 3) := by decide +kernel
theorem dL_rows_251 : decode cL_rows 251 = .ok (.iconst 1, 1) := by decide +kernel
theorem dL_rows_252 : decode cL_rows 252 = .ok (.goto 4, 3) := by decide +kernel
theorem dL_rows_255 : decode cL_rows 255 = .ok (.iconst 0, 1) := by decide +kernel
theorem dL_rows_256 : decode cL_rows 256 = .ok (.istore 7, 2) := by decide +kernel
theorem dL_rows_258 : decode cL_rows 258 = .ok (.iload 6, 2) := by decide +kernel
theorem dL_rows_260 : decode cL_rows 260 = .ok (.iload 7, 2) := by decide +kernel
theorem dL_rows_262 : decode cL_rows 262 = .ok (.ifCond .eq 7, 3) := by decide +kernel
theorem dL_rows_265 : decode cL_rows 265 = .ok (.iconst 1, 1) := by decide +kernel
theorem dL_rows_266 : decode cL_rows 266 = .ok (.goto 4, 3) := by decide +kernel
theorem dL_rows_269 : decode cL_rows 269 = .ok (.iconst 0, 1) := by decide +kernel
theorem dL_rows_270 : decode cL_rows 270 = .ok (.iadd, 1) := by decide +kernel
theorem dL_rows_271 : decode cL_rows 271 = .ok (.istore 6, 2) := by decide +kernel
theorem dL_rows_273 : decode cL_rows 273 = .ok (.iinc 8 1, 3) := by decide +kernel
theorem dL_rows_276 : decode cL_rows 276 = .ok (.goto (-140), 3) := by decide +kernel
theorem dL_rows_279 : decode cL_rows 279 = .ok (.aload_n 0, 1) := by decide +kernel
theorem dL_rows_280 : decode cL_rows 280 = .ok (.iconst 4, 1) := by decide +kernel
theorem dL_rows_281 : decode cL_rows 281 = .ok (.invokevirtual 9, 3) := by decide +kernel
theorem dL_rows_284 : decode cL_rows 284 = .ok (.bipush 8, 2) := by decide +kernel
theorem dL_rows_286 : decode cL_rows 286 = .ok (.if_icmp .ge 11, 3) := by decide +kernel
theorem dL_rows_289 : decode cL_rows 289 = .ok (.aload_n 0, 1) := by decide +kernel
theorem dL_rows_290 : decode cL_rows 290 = .ok (.iconst 4, 1) := by decide +kernel
theorem dL_rows_291 : decode cL_rows 291 = .ok (.invokevirtual 9, 3) := by decide +kernel
theorem dL_rows_294 : decode cL_rows 294 = .ok (.goto 5, 3) := by decide +kernel
theorem dL_rows_297 : decode cL_rows 297 = .ok (.bipush 8, 2) := by decide +kernel
theorem dL_rows_299 : decode cL_rows 299 = .ok (.istore 8, 2) := by decide +kernel
theorem dL_rows_301 : decode cL_rows 301 = .ok (.aload_n 0, 1) := by decide +kernel
theorem dL_rows_302 : decode cL_rows 302 = .ok (.iconst 0, 1) := by decide +kernel
theorem dL_rows_303 : decode cL_rows 303 = .ok (.invokevirtual 9, 3) := by decide +kernel
theorem dL_rows_306 : decode cL_rows 306 = .ok (.istore 9, 2) := by decide +kernel
theorem dL_rows_308 : decode cL_rows 308 = .ok (.iconst 0, 1) := by decide +kernel
theorem dL_rows_309 : decode cL_rows 309 = .ok (.istore 10, 2) := by decide +kernel
theorem dL_rows_311 : decode cL_rows 311 = .ok (.iload 10, 2) := by decide +kernel
theorem dL_rows_313 : decode cL_rows 313 = .ok (.iload 8, 2) := by decide +kernel
theorem dL_rows_315 : decode cL_rows 315 = .ok (.if_icmp .ge 93, 3) := by decide +kernel
theorem dL_rows_318 : decode cL_rows 318 = .ok (.iload 5, 2) := by decide +kernel
theorem dL_rows_320 : decode cL_rows 320 = .ok (.ifCond .eq 88, 3) := by decide +kernel
theorem dL_rows_323 : decode cL_rows 323 = .ok (.aload_n 0, 1) := by decide +kernel
theorem dL_rows_324 : decode cL_rows 324 = .ok (.iload 10, 2) := by decide +kernel
theorem dL_rows_326 : decode cL_rows 326 = .ok (.iconst 3, 1) := by decide +kernel
theorem dL_rows_327 : decode cL_rows 327 = .ok (.invokevirtual 22, 3) := by decide +kernel
theorem dL_rows_330 : decode cL_rows 330 = .ok (.iload 9, 2) := by decide +kernel
theorem dL_rows_332 : decode cL_rows 332 = .ok (.if_icmp .gt 58, 3) := by decide +kernel
theorem dL_rows_335 : decode cL_rows 335 = .ok (.aload_n 0, 1) := by decide +kernel
theorem dL_rows_336 : decode cL_rows 336 = .ok (.iload 10, 2) := by decide +kernel
theorem dL_rows_338 : decode cL_rows 338 = .ok (.iconst 2, 1) := by decide +kernel
theorem dL_rows_339 : decode cL_rows 339 = .ok (.invokevirtual 22, 3) := by decide +kernel
theorem dL_rows_342 : decode cL_rows 342 = .ok (.ifCond .lt 48, 3) := by decide +kernel
theorem dL_rows_345 : decode cL_rows 345 = .ok (.aload_n 0, 1) := by decide +kernel
theorem dL_rows_346 : decode cL_rows 346 = .ok (.iload 10, 2) := by decide +kernel
theorem dL_rows_348 : decode cL_rows 348 = .ok (.iconst 2, 1) := by decide +kernel
theorem dL_rows_349 : decode cL_rows 349 = .ok (.invokevirtual 22, 3) := by decide +kernel
theorem dL_rows_352 : decode cL_rows 352 = .ok (.iconst 3, 1) := by decide +kernel
theorem dL_rows_353 : decode cL_rows 353 = .ok (.if_icmp .ge 37, 3) := by decide +kernel
theorem dL_rows_356 : decode cL_rows 356 = .ok (.aload_n 0, 1) := by decide +kernel
theorem dL_rows_357 : decode cL_rows 357 = .ok (.iload 10, 2) := by decide +kernel
theorem dL_rows_359 : decode cL_rows 359 = .ok (.iconst 0, 1) := by decide +kernel
theorem dL_rows_360 : decode cL_rows 360 = .ok (.invokevirtual 22, 3) := by decide +kernel
theorem dL_rows_363 : decode cL_rows 363 = .ok (.aload_n 0, 1) := by decide +kernel
theorem dL_rows_364 : decode cL_rows 364 = .ok (.bipush 19, 2) := by decide +kernel
theorem dL_rows_366 : decode cL_rows 366 = .ok (.invokevirtual 9, 3) := by decide +kernel
theorem dL_rows_369 : decode cL_rows 369 = .ok (.imul, 1) := by decide +kernel
theorem dL_rows_370 : decode cL_rows 370 = .ok (.aload_n 0, 1) := by decide +kernel
theorem dL_rows_371 : decode cL_rows 371 = .ok (.iload 10, 2) := by decide +kernel
theorem dL_rows_373 : decode cL_rows 373 = .ok (.iconst 1, 1) := by decide +kernel
theorem dL_rows_374 : decode cL_rows 374 = .ok (.invokevirtual 22, 3) := by decide +kernel
theorem dL_rows_377 : decode cL_rows 377 = .ok (.iadd, 1) := by decide +kernel
theorem dL_rows_378 : decode cL_rows 378 = .ok (.aload_n 0, 1) := by decide +kernel
theorem dL_rows_379 : decode cL_rows 379 = .ok (.iconst 1, 1) := by decide +kernel
theorem dL_rows_380 : decode cL_rows 380 = .ok (.invokevirtual 9, 3) := by decide +kernel
theorem dL_rows_383 : decode cL_rows 383 = .ok (.if_icmp .ge 7, 3) := by decide +kernel
theorem dL_rows_386 : decode cL_rows 386 = .ok (.iconst 1, 1) := by decide +kernel
theorem dL_rows_387 : decode cL_rows 387 = .ok (.goto 4, 3) := by decide +kernel
theorem dL_rows_390 : decode cL_rows 390 = .ok (.iconst 0, 1) := by decide +kernel
theorem dL_rows_391 : decode cL_rows 391 = .ok (.istore 5, 2) := by decide +kernel
theorem dL_rows_393 : decode cL_rows 393 = .ok (.aload_n 0, 1) := by decide +kernel
theorem dL_rows_394 : decode cL_rows 394 = .ok (.iload 10, 2) := by decide +kernel
theorem dL_rows_396 : decode cL_rows 396 = .ok (.iconst 3, 1) := by decide +kernel
theorem dL_rows_397 : decode cL_rows 397 = .ok (.invokevirtual 22, 3) := by decide +kernel
theorem dL_rows_400 : decode cL_rows 400 = .ok (.istore 9, 2) := by decide +kernel
theorem dL_rows_402 : decode cL_rows 402 = .ok (.iinc 10 1, 3) := by decide +kernel
theorem dL_rows_405 : decode cL_rows 405 = .ok (.goto (-94), 3) := by decide +kernel
theorem dL_rows_408 : decode cL_rows 408 = .ok (.iload 5, 2) := by decide +kernel
theorem dL_rows_410 : decode cL_rows 410 = .ok (.ifCond .eq 55, 3) := by decide +kernel
theorem dL_rows_413 : decode cL_rows 413 = .ok (.aload_n 0, 1) := by decide +kernel
theorem dL_rows_414 : decode cL_rows 414 = .ok (.invokevirtual 25, 3) := by decide +kernel
theorem dL_rows_417 : decode cL_rows 417 = .ok (.iload 6, 2) := by decide +kernel
theorem dL_rows_419 : decode cL_rows 419 = .ok (.if_icmp .ne 46, 3) := by decide +kernel
theorem dL_rows_422 : decode cL_rows 422 = .ok (.aload_n 0, 1) := by decide +kernel
theorem dL_rows_423 : decode cL_rows 423 = .ok (.iload 8, 2) := by decide +kernel
theorem dL_rows_425 : decode cL_rows 425 = .ok (.iconst 0, 1) := by decide +kernel
theorem dL_rows_426 : decode cL_rows 426 = .ok (.invokevirtual 22, 3) := by decide +kernel
theorem dL_rows_429 : decode cL_rows 429 = .ok (.iconst (-1), 1) := by decide +kernel
theorem dL_rows_430 : decode cL_rows 430 = .ok (.if_icmp .ne 35, 3) := by decide +kernel
theorem dL_rows_433 : decode cL_rows 433 = .ok (.aload_n 0, 1) := by decide +kernel
theorem dL_rows_434 : decode cL_rows 434 = .ok (.bipush 15, 2) := by decide +kernel
theorem dL_rows_436 : decode cL_rows 436 = .ok (.invokevirtual 9, 3) := by decide +kernel
theorem dL_rows_439 : decode cL_rows 439 = .ok (.bipush (-6), 2) := by decide +kernel
theorem dL_rows_441 : decode cL_rows 441 = .ok (.if_icmp .ne 7, 3) := by decide +kernel
theorem dL_rows_444 : decode cL_rows 444 = .ok (.iconst 1, 1) := by decide +kernel
theorem dL_rows_445 : decode cL_rows 445 = .ok (.goto 4, 3) := by decide +kernel
theorem dL_rows_448 : decode cL_rows 448 = .ok (.iconst 0, 1) := by decide +kernel
theorem dL_rows_449 : decode cL_rows 449 = .ok (.iload_n 3, 1) := by decide +kernel
theorem dL_rows_450 : decode cL_rows 450 = .ok (.ifCond .ne 7, 3) := by decide +kernel
theorem dL_rows_453 : decode cL_rows 453 = .ok (.iconst 1, 1) := by decide +kernel
theorem dL_rows_454 : decode cL_rows 454 = .ok (.goto 4, 3) := by decide +kernel
theorem dL_rows_457 : decode cL_rows 457 = .ok (.iconst 0, 1) := by decide +kernel
theorem dL_rows_458 : decode cL_rows 458 = .ok (.if_icmp .ne 7, 3) := by decide +kernel
theorem dL_rows_461 : decode cL_rows 461 = .ok (.iconst 1, 1) := by decide +kernel
theorem dL_rows_462 : decode cL_rows 462 = .ok (.goto 4, 3) := by decide +kernel
theorem dL_rows_465 : decode cL_rows 465 = .ok (.iconst 0, 1) := by decide +kernel
theorem dL_rows_466 : decode cL_rows 466 = .ok (.ireturn, 1) := by decide +kernel
set_option maxRecDepth 20000 in
theorem ggL_act_L_cell : GoodIn wsL_act wsL_cell := goodIn_r _ [4, 5] (by decide +kernel) (by decide +kernel)
set_option maxRecDepth 20000 in
theorem gL_act_L_cell : GoodIn wsL_act (va_wsS RL 29 yL_cell wsL_cell) := goodIn_app (goodIn_of _ (by decide +kernel)) ggL_act_L_cell
set_option maxRecDepth 20000 in
theorem ggL_act_L_low : GoodIn wsL_act wsL_low := goodIn_r _ [8, 9] (by decide +kernel) (by decide +kernel)
set_option maxRecDepth 20000 in
theorem gL_act_L_low : GoodIn wsL_act (va_wsS RL 35 yL_low wsL_low) := goodIn_app (goodIn_of _ (by decide +kernel)) ggL_act_L_low
set_option maxRecDepth 20000 in
theorem ggL_act_X4_set : GoodIn wsL_act wsX4_set := goodIn_r _ [14, 15, 16, 17, 18, 19, 20, 21, 22, 23, 24, 25, 13, 26, 27, 28, 29, 30, 31, 32, 33, 34, 35, 36, 37, 38, 39, 40, 41, 42, 43, 44, 45, 46, 47, 48, 49, 50, 51, 52, 53, 54, 55, 56, 57, 58, 59, 60, 61, 62, 63, 64, 65, 66, 67, 68, 69, 70, 71, 72, 73, 74, 75, 76, 77, 78, 79, 80, 81, 130, 131, 132, 133, 134, 135, 136, 137, 138, 139, 140, 141, 142, 143, 144, 145] (by decide +kernel) (by decide +kernel)
set_option maxRecDepth 20000 in
theorem gL_act_X4_set : GoodIn wsL_act (wsV RL 38 RX4 yX4_set wsX4_set) := goodIn_app (goodIn_of _ (by decide +kernel)) ggL_act_X4_set
set_option maxRecDepth 20000 in
theorem ggL_act_X4_value : GoodIn wsL_act wsX4_value := goodIn_r _ [85, 15, 16, 17, 18, 19, 20, 21, 22, 23, 24, 25, 13, 26, 27, 28, 29, 30, 31, 32, 33, 34, 35, 36, 37, 38, 39, 40, 41, 42, 43, 44, 45, 46, 47, 48, 49, 50, 51, 52, 53, 54, 55, 56, 57, 58, 59, 60, 61, 62, 63, 64, 65, 66, 67, 68, 69, 70, 71, 86, 87, 88, 89, 76, 77, 78, 79, 80, 81, 130, 131, 132, 133, 134, 135, 136, 137, 138, 139, 140, 141, 142, 143, 144, 145] (by decide +kernel) (by decide +kernel)
set_option maxRecDepth 20000 in
theorem gL_act_X4_value : GoodIn wsL_act (wsV RL 41 RX4 yX4_value wsX4_value) := goodIn_app (goodIn_of _ (by decide +kernel)) ggL_act_X4_value
set_option maxRecDepth 20000 in
theorem ggL_act_X4_slip : GoodIn wsL_act wsX4_slip := goodIn_r _ [93, 15, 16, 17, 18, 19, 20, 21, 22, 23, 24, 25, 13, 26, 27, 28, 29, 30, 31, 32, 33, 34, 35, 36, 37, 38, 39, 40, 41, 42, 43, 44, 45, 46, 47, 48, 49, 50, 51, 52, 53, 54, 55, 56, 57, 58, 59, 60, 61, 62, 63, 64, 65, 66, 67, 68, 69, 70, 71, 94, 95, 96, 97, 76, 77, 78, 79, 80, 81, 130, 131, 132, 133, 134, 135, 136, 137, 138, 139, 140, 141, 142, 143, 144, 145] (by decide +kernel) (by decide +kernel)
set_option maxRecDepth 20000 in
theorem gL_act_X4_slip : GoodIn wsL_act (wsV RL 44 RX4 yX4_slip wsX4_slip) := goodIn_app (goodIn_of _ (by decide +kernel)) ggL_act_X4_slip
set_option maxRecDepth 20000 in
theorem ggL_act_X4_flush : GoodIn wsL_act wsX4_flush := goodIn_r _ [101, 15, 16, 17, 18, 19, 20, 21, 22, 23, 24, 25, 13, 26, 27, 28, 29, 30, 31, 32, 33, 34, 35, 36, 37, 38, 39, 40, 41, 42, 43, 44, 45, 46, 47, 48, 49, 50, 51, 52, 53, 54, 55, 56, 57, 58, 59, 60, 61, 62, 63, 64, 65, 66, 67, 68, 69, 70, 71, 102, 103, 104, 105, 106, 107, 108, 109, 110, 111, 112, 113, 114, 115, 116, 117, 118, 119, 120, 121, 78, 79, 80, 81, 130, 131, 132, 133, 134, 135, 136, 137, 138, 139, 140, 141, 142, 143, 144, 145] (by decide +kernel) (by decide +kernel)
set_option maxRecDepth 20000 in
theorem gL_act_X4_flush : GoodIn wsL_act (wsV RL 47 RX4 yX4_flush wsX4_flush) := goodIn_app (goodIn_of _ (by decide +kernel)) ggL_act_X4_flush
set_option maxRecDepth 20000 in
theorem ggL_act_X4_undo : GoodIn wsL_act wsX4_undo := goodIn_r _ [125, 15, 16, 126, 127, 128, 20, 129, 24, 22, 23, 55, 56, 57, 29, 58, 37, 59, 60, 61, 62, 38, 42, 43, 44, 63, 64, 65, 66, 41, 67, 54, 68, 69, 52, 70, 71, 130, 131, 132, 133, 134, 135, 136, 137, 138, 139, 140, 141, 142, 143, 144, 145] (by decide +kernel) (by decide +kernel)
set_option maxRecDepth 20000 in
theorem gL_act_X4_undo : GoodIn wsL_act (wsV RL 50 RX4 yX4_undo wsX4_undo) := goodIn_app (goodIn_of _ (by decide +kernel)) ggL_act_X4_undo
theorem dL_act_0 : decode cL_act 0 = .ok (.aload_n 1, 1) := by decide +kernel
theorem dL_act_1 : decode cL_act 1 = .ok (.iload_n 2, 1) := by decide +kernel
theorem dL_act_2 : decode cL_act 2 = .ok (.iconst 1, 1) := by decide +kernel
theorem dL_act_3 : decode cL_act 3 = .ok (.iadd, 1) := by decide +kernel
theorem dL_act_4 : decode cL_act 4 = .ok (.invokestatic 29, 3) := by decide +kernel
theorem dL_act_7 : decode cL_act 7 = .ok (.istore_n 3, 1) := by decide +kernel
theorem dL_act_8 : decode cL_act 8 = .ok (.aload_n 1, 1) := by decide +kernel
theorem dL_act_9 : decode cL_act 9 = .ok (.iload_n 2, 1) := by decide +kernel
theorem dL_act_10 : decode cL_act 10 = .ok (.iconst 2, 1) := by decide +kernel
theorem dL_act_11 : decode cL_act 11 = .ok (.iadd, 1) := by decide +kernel
theorem dL_act_12 : decode cL_act 12 = .ok (.invokestatic 29, 3) := by decide +kernel
theorem dL_act_15 : decode cL_act 15 = .ok (.istore 4, 2) := by decide +kernel
theorem dL_act_17 : decode cL_act 17 = .ok (.aload_n 1, 1) := by decide +kernel
theorem dL_act_18 : decode cL_act 18 = .ok (.iload_n 2, 1) := by decide +kernel
theorem dL_act_19 : decode cL_act 19 = .ok (.invokestatic 29, 3) := by decide +kernel
theorem dL_act_22 : decode cL_act 22 = .ok (.bipush 12, 2) := by decide +kernel
theorem dL_act_24 : decode cL_act 24 = .ok (.invokestatic 35, 3) := by decide +kernel
theorem dL_act_27 : decode cL_act 27 = .ok (.tableswitch 141 0 5 #[37, 51, 63, 83, 102, 121], 37) := by decide +kernel
theorem dL_act_64 : decode cL_act 64 = .ok (.aload_n 0, 1) := by decide +kernel
theorem dL_act_65 : decode cL_act 65 = .ok (.iconst 0, 1) := by decide +kernel
theorem dL_act_66 : decode cL_act 66 = .ok (.iconst 1, 1) := by decide +kernel
theorem dL_act_67 : decode cL_act 67 = .ok (.iload_n 3, 1) := by decide +kernel
theorem dL_act_68 : decode cL_act 68 = .ok (.bipush 20, 2) := by decide +kernel
theorem dL_act_70 : decode cL_act 70 = .ok (.invokestatic 35, 3) := by decide +kernel
theorem dL_act_73 : decode cL_act 73 = .ok (.iadd, 1) := by decide +kernel
theorem dL_act_74 : decode cL_act 74 = .ok (.invokevirtual 38, 3) := by decide +kernel
theorem dL_act_77 : decode cL_act 77 = .ok (.ireturn, 1) := by decide +kernel
theorem dL_act_78 : decode cL_act 78 = .ok (.aload_n 0, 1) := by decide +kernel
theorem dL_act_79 : decode cL_act 79 = .ok (.iconst 1, 1) := by decide +kernel
theorem dL_act_80 : decode cL_act 80 = .ok (.iload_n 3, 1) := by decide +kernel
theorem dL_act_81 : decode cL_act 81 = .ok (.bipush 20, 2) := by decide +kernel
theorem dL_act_83 : decode cL_act 83 = .ok (.invokestatic 35, 3) := by decide +kernel
theorem dL_act_86 : decode cL_act 86 = .ok (.invokevirtual 38, 3) := by decide +kernel
theorem dL_act_89 : decode cL_act 89 = .ok (.ireturn, 1) := by decide +kernel
theorem dL_act_90 : decode cL_act 90 = .ok (.aload_n 0, 1) := by decide +kernel
theorem dL_act_91 : decode cL_act 91 = .ok (.iconst 2, 1) := by decide +kernel
theorem dL_act_92 : decode cL_act 92 = .ok (.iload_n 3, 1) := by decide +kernel
theorem dL_act_93 : decode cL_act 93 = .ok (.bipush 6, 2) := by decide +kernel
theorem dL_act_95 : decode cL_act 95 = .ok (.invokestatic 35, 3) := by decide +kernel
theorem dL_act_98 : decode cL_act 98 = .ok (.iadd, 1) := by decide +kernel
theorem dL_act_99 : decode cL_act 99 = .ok (.iload 4, 2) := by decide +kernel
theorem dL_act_101 : decode cL_act 101 = .ok (.bipush 17, 2) := by decide +kernel
theorem dL_act_103 : decode cL_act 103 = .ok (.invokestatic 35, 3) := by decide +kernel
theorem dL_act_106 : decode cL_act 106 = .ok (.invokevirtual 38, 3) := by decide +kernel
theorem dL_act_109 : decode cL_act 109 = .ok (.ireturn, 1) := by decide +kernel
theorem dL_act_110 : decode cL_act 110 = .ok (.aload_n 0, 1) := by decide +kernel
theorem dL_act_111 : decode cL_act 111 = .ok (.iload_n 3, 1) := by decide +kernel
theorem dL_act_112 : decode cL_act 112 = .ok (.bipush 17, 2) := by decide +kernel
theorem dL_act_114 : decode cL_act 114 = .ok (.invokestatic 35, 3) := by decide +kernel
theorem dL_act_117 : decode cL_act 117 = .ok (.iload 4, 2) := by decide +kernel
theorem dL_act_119 : decode cL_act 119 = .ok (.sipush 257, 3) := by decide +kernel
theorem dL_act_122 : decode cL_act 122 = .ok (.invokestatic 35, 3) := by decide +kernel
theorem dL_act_125 : decode cL_act 125 = .ok (.invokevirtual 41, 3) := by decide +kernel
theorem dL_act_128 : decode cL_act 128 = .ok (.ireturn, 1) := by decide +kernel
theorem dL_act_129 : decode cL_act 129 = .ok (.aload_n 0, 1) := by decide +kernel
theorem dL_act_130 : decode cL_act 130 = .ok (.iload_n 3, 1) := by decide +kernel
theorem dL_act_131 : decode cL_act 131 = .ok (.iconst 2, 1) := by decide +kernel
theorem dL_act_132 : decode cL_act 132 = .ok (.invokestatic 35, 3) := by decide +kernel
theorem dL_act_135 : decode cL_act 135 = .ok (.iconst 1, 1) := by decide +kernel
theorem dL_act_136 : decode cL_act 136 = .ok (.iload 4, 2) := by decide +kernel
theorem dL_act_138 : decode cL_act 138 = .ok (.bipush 30, 2) := by decide +kernel
theorem dL_act_140 : decode cL_act 140 = .ok (.invokestatic 35, 3) := by decide +kernel
theorem dL_act_143 : decode cL_act 143 = .ok (.iadd, 1) := by decide +kernel
theorem dL_act_144 : decode cL_act 144 = .ok (.invokevirtual 44, 3) := by decide +kernel
theorem dL_act_147 : decode cL_act 147 = .ok (.ireturn, 1) := by decide +kernel
theorem dL_act_148 : decode cL_act 148 = .ok (.iload_n 3, 1) := by decide +kernel
theorem dL_act_149 : decode cL_act 149 = .ok (.iconst 3, 1) := by decide +kernel
theorem dL_act_150 : decode cL_act 150 = .ok (.invokestatic 35, 3) := by decide +kernel
theorem dL_act_153 : decode cL_act 153 = .ok (.ifCond .ne 10, 3) := by decide +kernel
theorem dL_act_156 : decode cL_act 156 = .ok (.aload_n 0, 1) := by decide +kernel
theorem dL_act_157 : decode cL_act 157 = .ok (.invokevirtual 47, 3) := by decide +kernel
theorem dL_act_160 : decode cL_act 160 = .ok (.goto 7, 3) := by decide +kernel
theorem dL_act_163 : decode cL_act 163 = .ok (.aload_n 0, 1) := by decide +kernel
theorem dL_act_164 : decode cL_act 164 = .ok (.invokevirtual 50, 3) := by decide +kernel
theorem dL_act_167 : decode cL_act 167 = .ok (.ireturn, 1) := by decide +kernel
theorem dL_act_168 : decode cL_act 168 = .ok (.bipush (-20), 2) := by decide +kernel
theorem dL_act_170 : decode cL_act 170 = .ok (.ireturn, 1) := by decide +kernel
set_option maxRecDepth 20000 in
theorem ggL_law_X4_init : GoodIn wsL_law wsX4_init := goodIn_r _ [5, 6, 7, 8, 9, 10, 11, 12, 13, 14, 15, 16, 17, 18, 19, 20, 21, 22, 23, 24, 25, 26, 27, 28, 29, 30, 31, 32, 33, 34, 35, 36, 37, 38, 39, 40, 41, 42, 43, 44, 45, 46, 47, 48, 49, 50, 51, 52, 53, 54, 55, 250, 251, 252, 253, 254, 255, 245, 246, 247, 248, 249, 256, 257, 258, 259, 260, 261, 262, 263, 264, 265, 266] (by decide +kernel) (by decide +kernel)
set_option maxRecDepth 20000 in
theorem gL_law_X4_init : GoodIn wsL_law (wsX4_init) := ggL_law_X4_init
set_option maxRecDepth 20000 in
theorem ggL_law_X4_count : GoodIn wsL_law wsX4_count := goodIn_r _ [59, 22, 18, 12, 60, 61, 2, 62, 245, 246, 247, 248, 249, 259, 260, 261, 262, 263, 264, 256, 257, 258, 250, 251, 252, 253, 254, 255] (by decide +kernel) (by decide +kernel)
set_option maxRecDepth 20000 in
theorem gL_law_X4_count : GoodIn wsL_law (wsV RL 9 RX4 yX4_count wsX4_count) := goodIn_app (goodIn_of _ (by decide +kernel)) ggL_law_X4_count
set_option maxRecDepth 20000 in
theorem ggL_law_L_act : GoodIn wsL_law wsL_act := goodIn_r _ [66, 67, 68, 65, 69, 70, 71, 72, 73, 74, 75, 76, 77, 2, 78, 18, 12, 79, 80, 81, 17, 82, 50, 83, 84, 85, 86, 9, 10, 11, 23, 24, 25, 26, 7, 8, 27, 28, 29, 30, 31, 32, 33, 34, 35, 36, 37, 38, 39, 40, 41, 42, 43, 44, 45, 87, 88, 89, 90, 91, 92, 93, 94, 95, 96, 97, 98, 99, 100, 101, 102, 103, 104, 105, 106, 107, 61, 62, 108, 109, 110, 111, 112, 113, 114, 115, 116, 117, 118, 119, 120, 121, 122, 123, 124, 125, 126, 127, 128, 129, 130, 131, 132, 133, 134, 135, 136, 137, 138, 139, 140, 141, 142, 143, 144, 145, 146, 147, 148, 149, 150, 151, 152, 153, 154, 155, 156, 157, 158, 159, 245, 246, 247, 248, 249, 256, 257, 258, 250, 251, 252, 253, 254, 255, 265, 266] (by decide +kernel) (by decide +kernel)
set_option maxRecDepth 20000 in
theorem gL_law_L_act : GoodIn wsL_law (va_wsS RL 54 yL_act wsL_act) := goodIn_app (goodIn_of _ (by decide +kernel)) ggL_law_L_act
set_option maxRecDepth 20000 in
theorem ggL_law_L_cell : GoodIn wsL_law wsL_cell := goodIn_r _ [69, 70] (by decide +kernel) (by decide +kernel)
set_option maxRecDepth 20000 in
theorem gL_law_L_cell : GoodIn wsL_law (va_wsS RL 29 yL_cell wsL_cell) := goodIn_app (goodIn_of _ (by decide +kernel)) ggL_law_L_cell
set_option maxRecDepth 20000 in
theorem ggL_law_L_low : GoodIn wsL_law wsL_low := goodIn_r _ [73, 74] (by decide +kernel) (by decide +kernel)
set_option maxRecDepth 20000 in
theorem gL_law_L_low : GoodIn wsL_law (va_wsS RL 35 yL_low wsL_low) := goodIn_app (goodIn_of _ (by decide +kernel)) ggL_law_L_low
set_option maxRecDepth 20000 in
theorem ggL_law_X4_would : GoodIn wsL_law wsX4_would := goodIn_r _ [163, 13, 12, 164, 60, 61, 2, 62, 87, 88, 89, 11, 90, 28, 91, 92, 93, 94, 29, 33, 34, 35, 95, 96, 97, 98, 32, 99, 45, 100, 101, 43, 102, 103, 165, 166, 167, 168, 169, 170, 42, 44, 171, 172, 173, 174, 175, 176, 177, 178, 179, 180, 181, 182, 144, 145, 146, 147, 40, 183, 184, 185, 186, 140, 141, 142, 143, 136, 137, 138, 139, 148, 149, 150, 151, 187, 188, 189, 190, 191, 192, 193, 194, 195, 196, 197, 198, 199, 200, 201, 202, 203, 204, 205, 206, 207, 208, 209, 210, 211, 212, 213, 214, 245, 246, 247, 248, 249, 250, 251, 252, 253, 254, 255, 265, 266] (by decide +kernel) (by decide +kernel)
set_option maxRecDepth 20000 in
theorem gL_law_X4_would : GoodIn wsL_law (wsV RL 58 RX4 yX4_would wsX4_would) := goodIn_app (goodIn_of _ (by decide +kernel)) ggL_law_X4_would
set_option maxRecDepth 20000 in
theorem ggL_law_X4_pass : GoodIn wsL_law wsX4_pass := goodIn_r _ [218, 18, 12, 219, 79, 80, 81, 17, 82, 50, 83, 84, 85, 2, 86, 9, 10, 11, 23, 24, 25, 26, 7, 8, 27, 28, 29, 30, 31, 32, 33, 34, 35, 36, 37, 38, 39, 40, 41, 42, 43, 44, 45, 87, 88, 89, 90, 91, 92, 93, 94, 95, 96, 97, 98, 99, 100, 101, 102, 103, 165, 166, 167, 168, 169, 170, 61, 62, 171, 172, 173, 174, 175, 176, 177, 178, 179, 180, 181, 182, 144, 145, 146, 147, 183, 184, 185, 186, 140, 141, 142, 143, 136, 137, 138, 139, 148, 149, 150, 151, 187, 188, 189, 190, 191, 192, 193, 194, 195, 196, 197, 198, 199, 200, 201, 202, 203, 204, 205, 206, 207, 208, 209, 210, 108, 109, 110, 111, 245, 246, 247, 248, 249, 256, 257, 258, 250, 251, 252, 253, 254, 255, 265, 266] (by decide +kernel) (by decide +kernel)
set_option maxRecDepth 20000 in
theorem gL_law_X4_pass : GoodIn wsL_law (wsV RL 61 RX4 yX4_pass wsX4_pass) := goodIn_app (goodIn_of _ (by decide +kernel)) ggL_law_X4_pass
set_option maxRecDepth 20000 in
theorem ggL_law_L_lines : GoodIn wsL_law wsL_lines := goodIn_r _ [222, 56, 57, 58, 2, 59, 22, 18, 12, 60, 61, 62, 223, 224, 225, 226, 227, 141, 142, 32, 143, 40, 45, 245, 246, 247, 248, 249, 259, 260, 261, 262, 263, 264, 256, 257, 258, 250, 251, 252, 253, 254, 255, 265, 266] (by decide +kernel) (by decide +kernel)
set_option maxRecDepth 20000 in
theorem gL_law_L_lines : GoodIn wsL_law (va_wsS RL 64 yL_lines wsL_lines) := goodIn_app (goodIn_of _ (by decide +kernel)) ggL_law_L_lines
set_option maxRecDepth 20000 in
theorem ggL_law_L_rows : GoodIn wsL_law wsL_rows := goodIn_r _ [230, 56, 57, 58, 2, 59, 22, 18, 12, 60, 61, 62, 223, 224, 225, 226, 227, 141, 142, 32, 143, 40, 45, 231, 232, 233, 234, 235, 192, 193, 11, 194, 179, 180, 181, 182, 28, 236, 237, 238, 239, 240, 101, 43, 102, 241, 242, 243, 244, 245, 246, 247, 248, 249, 259, 260, 261, 262, 263, 264, 256, 257, 258, 250, 251, 252, 253, 254, 255, 265, 266] (by decide +kernel) (by decide +kernel)
set_option maxRecDepth 20000 in
theorem gL_law_L_rows : GoodIn wsL_law (va_wsS RL 68 yL_rows wsL_rows) := goodIn_app (goodIn_of _ (by decide +kernel)) ggL_law_L_rows
theorem dL_law_0 : decode cL_law 0 = .ok (.new 10, 3) := by decide +kernel
theorem dL_law_3 : decode cL_law 3 = .ok (.dup, 1) := by decide +kernel
theorem dL_law_4 : decode cL_law 4 = .ok (.invokespecial 53, 3) := by decide +kernel
theorem dL_law_7 : decode cL_law 7 = .ok (.astore_n 1, 1) := by decide +kernel
theorem dL_law_8 : decode cL_law 8 = .ok (.iconst 1, 1) := by decide +kernel
theorem dL_law_9 : decode cL_law 9 = .ok (.istore_n 2, 1) := by decide +kernel
theorem dL_law_10 : decode cL_law 10 = .ok (.aload_n 0, 1) := by decide +kernel
theorem dL_law_11 : decode cL_law 11 = .ok (.arraylength, 1) := by decide +kernel
theorem dL_law_12 : decode cL_law 12 = .ok (.iconst 3, 1) := by decide +kernel
theorem dL_law_13 : decode cL_law 13 = .ok (.idiv, 1) := by decide +kernel
theorem dL_law_14 : decode cL_law 14 = .ok (.bipush 40, 2) := by decide +kernel
theorem dL_law_16 : decode cL_law 16 = .ok (.if_icmp .le 8, 3) := by decide +kernel
theorem dL_law_19 : decode cL_law 19 = .ok (.bipush 40, 2) := by decide +kernel
theorem dL_law_21 : decode cL_law 21 = .ok (.goto 7, 3) := by decide +kernel
theorem dL_law_24 : decode cL_law 24 = .ok (.aload_n 0, 1) := by decide +kernel
theorem dL_law_25 : decode cL_law 25 = .ok (.arraylength, 1) := by decide +kernel
theorem dL_law_26 : decode cL_law 26 = .ok (.iconst 3, 1) := by decide +kernel
theorem dL_law_27 : decode cL_law 27 = .ok (.idiv, 1) := by decide +kernel
theorem dL_law_28 : decode cL_law 28 = .ok (.istore_n 3, 1) := by decide +kernel
theorem dL_law_29 : decode cL_law 29 = .ok (.iconst 0, 1) := by decide +kernel
theorem dL_law_30 : decode cL_law 30 = .ok (.istore 4, 2) := by decide +kernel
theorem dL_law_32 : decode cL_law 32 = .ok (.iload 4, 2) := by decide +kernel
theorem dL_law_34 : decode cL_law 34 = .ok (.iload_n 3, 1) := by decide +kernel
theorem dL_law_35 : decode cL_law 35 = .ok (.if_icmp .ge 223, 3) := by decide +kernel
theorem dL_law_38 : decode cL_law 38 = .ok (.iload_n 2, 1) := by decide +kernel
theorem dL_law_39 : decode cL_law 39 = .ok (.ifCond .eq 219, 3) := by decide +kernel
theorem dL_law_42 : decode cL_law 42 = .ok (.aload_n 1, 1) := by decide +kernel
theorem dL_law_43 : decode cL_law 43 = .ok (.bipush 25, 2) := by decide +kernel
theorem dL_law_45 : decode cL_law 45 = .ok (.invokevirtual 9, 3) := by decide +kernel
theorem dL_law_48 : decode cL_law 48 = .ok (.istore 5, 2) := by decide +kernel
theorem dL_law_50 : decode cL_law 50 = .ok (.aload_n 1, 1) := by decide +kernel
theorem dL_law_51 : decode cL_law 51 = .ok (.iconst 0, 1) := by decide +kernel
theorem dL_law_52 : decode cL_law 52 = .ok (.invokevirtual 9, 3) := by decide +kernel
theorem dL_law_55 : decode cL_law 55 = .ok (.istore 6, 2) := by decide +kernel
theorem dL_law_57 : decode cL_law 57 = .ok (.aload_n 1, 1) := by decide +kernel
theorem dL_law_58 : decode cL_law 58 = .ok (.aload_n 0, 1) := by decide +kernel
theorem dL_law_59 : decode cL_law 59 = .ok (.iconst 3, 1) := by decide +kernel
theorem dL_law_60 : decode cL_law 60 = .ok (.iload 4, 2) := by decide +kernel
theorem dL_law_62 : decode cL_law 62 = .ok (.imul, 1) := by decide +kernel
theorem dL_law_63 : decode cL_law 63 = .ok (.invokestatic 54, 3) := by decide +kernel
theorem dL_law_66 : decode cL_law 66 = .ok (.istore 7, 2) := by decide +kernel
theorem dL_law_68 : decode cL_law 68 = .ok (.iload 7, 2) := by decide +kernel
theorem dL_law_70 : decode cL_law 70 = .ok (.bipush (-20), 2) := by decide +kernel
theorem dL_law_72 : decode cL_law 72 = .ok (.if_icmp .ne 124, 3) := by decide +kernel
theorem dL_law_75 : decode cL_law 75 = .ok (.iconst 1, 1) := by decide +kernel
theorem dL_law_76 : decode cL_law 76 = .ok (.aload_n 0, 1) := by decide +kernel
theorem dL_law_77 : decode cL_law 77 = .ok (.iconst 3, 1) := by decide +kernel
theorem dL_law_78 : decode cL_law 78 = .ok (.iload 4, 2) := by decide +kernel
theorem dL_law_80 : decode cL_law 80 = .ok (.imul, 1) := by decide +kernel
theorem dL_law_81 : decode cL_law 81 = .ok (.iconst 1, 1) := by decide +kernel
theorem dL_law_82 : decode cL_law 82 = .ok (.iadd, 1) := by decide +kernel
theorem dL_law_83 : decode cL_law 83 = .ok (.invokestatic 29, 3) := by decide +kernel
theorem dL_law_86 : decode cL_law 86 = .ok (.bipush 60, 2) := by decide +kernel
theorem dL_law_88 : decode cL_law 88 = .ok (.invokestatic 35, 3) := by decide +kernel
theorem dL_law_91 : decode cL_law 91 = .ok (.iadd, 1) := by decide +kernel
theorem dL_law_92 : decode cL_law 92 = .ok (.istore 8, 2) := by decide +kernel
theorem dL_law_94 : decode cL_law 94 = .ok (.aload_n 1, 1) := by decide +kernel
theorem dL_law_95 : decode cL_law 95 = .ok (.iconst 4, 1) := by decide +kernel
theorem dL_law_96 : decode cL_law 96 = .ok (.invokevirtual 9, 3) := by decide +kernel
theorem dL_law_99 : decode cL_law 99 = .ok (.aload_n 1, 1) := by decide +kernel
theorem dL_law_100 : decode cL_law 100 = .ok (.iload 8, 2) := by decide +kernel
theorem dL_law_102 : decode cL_law 102 = .ok (.iconst 0, 1) := by decide +kernel
theorem dL_law_103 : decode cL_law 103 = .ok (.invokevirtual 58, 3) := by decide +kernel
theorem dL_law_106 : decode cL_law 106 = .ok (.iadd, 1) := by decide +kernel
theorem dL_law_107 : decode cL_law 107 = .ok (.istore 9, 2) := by decide +kernel
theorem dL_law_109 : decode cL_law 109 = .ok (.aload_n 1, 1) := by decide +kernel
theorem dL_law_110 : decode cL_law 110 = .ok (.bipush 6, 2) := by decide +kernel
theorem dL_law_112 : decode cL_law 112 = .ok (.invokevirtual 9, 3) := by decide +kernel
theorem dL_law_115 : decode cL_law 115 = .ok (.aload_n 1, 1) := by decide +kernel
theorem dL_law_116 : decode cL_law 116 = .ok (.iload 8, 2) := by decide +kernel
theorem dL_law_118 : decode cL_law 118 = .ok (.iconst 1, 1) := by decide +kernel
theorem dL_law_119 : decode cL_law 119 = .ok (.invokevirtual 58, 3) := by decide +kernel
theorem dL_law_122 : decode cL_law 122 = .ok (.iadd, 1) := by decide +kernel
theorem dL_law_123 : decode cL_law 123 = .ok (.istore 10, 2) := by decide +kernel
theorem dL_law_125 : decode cL_law 125 = .ok (.aload_n 1, 1) := by decide +kernel
theorem dL_law_126 : decode cL_law 126 = .ok (.bipush 12, 2) := by decide +kernel
theorem dL_law_128 : decode cL_law 128 = .ok (.invokevirtual 9, 3) := by decide +kernel
theorem dL_law_131 : decode cL_law 131 = .ok (.aload_n 1, 1) := by decide +kernel
theorem dL_law_132 : decode cL_law 132 = .ok (.iload 8, 2) := by decide +kernel
theorem dL_law_134 : decode cL_law 134 = .ok (.iconst 2, 1) := by decide +kernel
theorem dL_law_135 : decode cL_law 135 = .ok (.invokevirtual 58, 3) := by decide +kernel
theorem dL_law_138 : decode cL_law 138 = .ok (.iadd, 1) := by decide +kernel
theorem dL_law_139 : decode cL_law 139 = .ok (.istore 11, 2) := by decide +kernel
theorem dL_law_141 : decode cL_law 141 = .ok (.aload_n 1, 1) := by decide +kernel
theorem dL_law_142 : decode cL_law 142 = .ok (.iload 8, 2) := by decide +kernel
theorem dL_law_144 : decode cL_law 144 = .ok (.invokevirtual 61, 3) := by decide +kernel
theorem dL_law_147 : decode cL_law 147 = .ok (.iload 6, 2) := by decide +kernel
theorem dL_law_149 : decode cL_law 149 = .ok (.iload 8, 2) := by decide +kernel
theorem dL_law_151 : decode cL_law 151 = .ok (.iadd, 1) := by decide +kernel
theorem dL_law_152 : decode cL_law 152 = .ok (.if_icmp .ne 39, 3) := by decide +kernel
theorem dL_law_155 : decode cL_law 155 = .ok (.aload_n 1, 1) := by decide +kernel
theorem dL_law_156 : decode cL_law 156 = .ok (.iconst 4, 1) := by decide +kernel
theorem dL_law_157 : decode cL_law 157 = .ok (.invokevirtual 9, 3) := by decide +kernel
theorem dL_law_160 : decode cL_law 160 = .ok (.iload 9, 2) := by decide +kernel
theorem dL_law_162 : decode cL_law 162 = .ok (.if_icmp .ne 29, 3) := by decide +kernel
theorem dL_law_165 : decode cL_law 165 = .ok (.aload_n 1, 1) := by decide +kernel
theorem dL_law_166 : decode cL_law 166 = .ok (.bipush 6, 2) := by decide +kernel
theorem dL_law_168 : decode cL_law 168 = .ok (.invokevirtual 9, 3) := by decide +kernel
theorem dL_law_171 : decode cL_law 171 = .ok (.iload 10, 2) := by decide +kernel
theorem dL_law_173 : decode cL_law 173 = .ok (.if_icmp .ne 18, 3) := by decide +kernel
theorem dL_law_176 : decode cL_law 176 = .ok (.aload_n 1, 1) := by decide +kernel
theorem dL_law_177 : decode cL_law 177 = .ok (.bipush 12, 2) := by decide +kernel
theorem dL_law_179 : decode cL_law 179 = .ok (.invokevirtual 9, 3) := by decide +kernel
theorem dL_law_182 : decode cL_law 182 = .ok (.iload 11, 2) := by decide +kernel
theorem dL_law_184 : decode cL_law 184 = .ok (.if_icmp .ne 7, 3) := by decide +kernel
theorem dL_law_187 : decode cL_law 187 = .ok (.iconst 1, 1) := by decide +kernel
theorem dL_law_188 : decode cL_law 188 = .ok (.goto 4, 3) := by decide +kernel
theorem dL_law_191 : decode cL_law 191 = .ok (.iconst 0, 1) := by decide +kernel
theorem dL_law_192 : decode cL_law 192 = .ok (.istore_n 2, 1) := by decide +kernel
theorem dL_law_193 : decode cL_law 193 = .ok (.goto 35, 3) := by decide +kernel
theorem dL_law_196 : decode cL_law 196 = .ok (.iload 7, 2) := by decide +kernel
theorem dL_law_198 : decode cL_law 198 = .ok (.ifCond .ge 24, 3) := by decide +kernel
theorem dL_law_201 : decode cL_law 201 = .ok (.aload_n 1, 1) := by decide +kernel
theorem dL_law_202 : decode cL_law 202 = .ok (.bipush 25, 2) := by decide +kernel
theorem dL_law_204 : decode cL_law 204 = .ok (.invokevirtual 9, 3) := by decide +kernel
theorem dL_law_207 : decode cL_law 207 = .ok (.iload 5, 2) := by decide +kernel
theorem dL_law_209 : decode cL_law 209 = .ok (.if_icmp .ne 17, 3) := by decide +kernel
theorem dL_law_212 : decode cL_law 212 = .ok (.aload_n 1, 1) := by decide +kernel
theorem dL_law_213 : decode cL_law 213 = .ok (.iconst 0, 1) := by decide +kernel
theorem dL_law_214 : decode cL_law 214 = .ok (.invokevirtual 9, 3) := by decide +kernel
theorem dL_law_217 : decode cL_law 217 = .ok (.iload 6, 2) := by decide +kernel
theorem dL_law_219 : decode cL_law 219 = .ok (.if_icmp .ne 7, 3) := by decide +kernel
theorem dL_law_222 : decode cL_law 222 = .ok (.iconst 1, 1) := by decide +kernel
theorem dL_law_223 : decode cL_law 223 = .ok (.goto 4, 3) := by decide +kernel
theorem dL_law_226 : decode cL_law 226 = .ok (.iconst 0, 1) := by decide +kernel
theorem dL_law_227 : decode cL_law 227 = .ok (.istore_n 2, 1) := by decide +kernel
theorem dL_law_228 : decode cL_law 228 = .ok (.iload_n 2, 1) := by decide +kernel
theorem dL_law_229 : decode cL_law 229 = .ok (.ifCond .eq 21, 3) := by decide +kernel
theorem dL_law_232 : decode cL_law 232 = .ok (.aload_n 1, 1) := by decide +kernel
theorem dL_law_233 : decode cL_law 233 = .ok (.invokestatic 64, 3) := by decide +kernel
theorem dL_law_236 : decode cL_law 236 = .ok (.ifCond .eq 14, 3) := by decide +kernel
theorem dL_law_239 : decode cL_law 239 = .ok (.aload_n 1, 1) := by decide +kernel
theorem dL_law_240 : decode cL_law 240 = .ok (.invokestatic 68, 3) := by decide +kernel
theorem dL_law_243 : decode cL_law 243 = .ok (.ifCond .eq 7, 3) := by decide +kernel
theorem dL_law_246 : decode cL_law 246 = .ok (.iconst 1, 1) := by decide +kernel
theorem dL_law_247 : decode cL_law 247 = .ok (.goto 4, 3) := by decide +kernel
theorem dL_law_250 : decode cL_law 250 = .ok (.iconst 0, 1) := by decide +kernel
theorem dL_law_251 : decode cL_law 251 = .ok (.istore_n 2, 1) := by decide +kernel
theorem dL_law_252 : decode cL_law 252 = .ok (.iinc 4 1, 3) := by decide +kernel
theorem dL_law_255 : decode cL_law 255 = .ok (.goto (-223), 3) := by decide +kernel
theorem dL_law_258 : decode cL_law 258 = .ok (.iload_n 2, 1) := by decide +kernel
theorem dL_law_259 : decode cL_law 259 = .ok (.ireturn, 1) := by decide +kernel
abbrev vwCl : List vw_C := [(RX0, TX0, 3), (RX1, TX1, 6), (RX2, TX2, 6), (RX3, TX3, 2), (RX4, TX4, 5)]

