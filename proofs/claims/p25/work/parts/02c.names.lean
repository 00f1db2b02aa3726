theorem dX2_rowGoesOut_0 : decode cX2_rowGoesOut 0 = .ok (.aload_n 0, 1) := by decide +kernel
theorem dX2_rowGoesOut_1 : decode cX2_rowGoesOut 1 = .ok (.invokevirtual 100, 3) := by decide +kernel
theorem dX2_rowGoesOut_4 : decode cX2_rowGoesOut 4 = .ok (.istore_n 1, 1) := by decide +kernel
theorem dX2_rowGoesOut_5 : decode cX2_rowGoesOut 5 = .ok (.aload_n 0, 1) := by decide +kernel
theorem dX2_rowGoesOut_6 : decode cX2_rowGoesOut 6 = .ok (.getfield 9, 3) := by decide +kernel
theorem dX2_rowGoesOut_9 : decode cX2_rowGoesOut 9 = .ok (.bipush 7, 2) := by decide +kernel
theorem dX2_rowGoesOut_11 : decode cX2_rowGoesOut 11 = .ok (.iaload, 1) := by decide +kernel
theorem dX2_rowGoesOut_12 : decode cX2_rowGoesOut 12 = .ok (.istore_n 2, 1) := by decide +kernel
theorem dX2_rowGoesOut_13 : decode cX2_rowGoesOut 13 = .ok (.iload_n 2, 1) := by decide +kernel
theorem dX2_rowGoesOut_14 : decode cX2_rowGoesOut 14 = .ok (.ifCond .ne 16, 3) := by decide +kernel
theorem dX2_rowGoesOut_17 : decode cX2_rowGoesOut 17 = .ok (.aload_n 0, 1) := by decide +kernel
theorem dX2_rowGoesOut_18 : decode cX2_rowGoesOut 18 = .ok (.iconst 5, 1) := by decide +kernel
theorem dX2_rowGoesOut_19 : decode cX2_rowGoesOut 19 = .ok (.invokevirtual 54, 3) := by decide +kernel
theorem dX2_rowGoesOut_22 : decode cX2_rowGoesOut 22 = .ok (.iconst 1, 1) := by decide +kernel
theorem dX2_rowGoesOut_23 : decode cX2_rowGoesOut 23 = .ok (.if_icmp .ne 7, 3) := by decide +kernel
theorem dX2_rowGoesOut_26 : decode cX2_rowGoesOut 26 = .ok (.aload_n 0, 1) := by decide +kernel
theorem dX2_rowGoesOut_27 : decode cX2_rowGoesOut 27 = .ok (.invokevirtual 103, 3) := by decide +kernel
theorem dX2_rowGoesOut_30 : decode cX2_rowGoesOut 30 = .ok (.aload_n 0, 1) := by decide +kernel
theorem dX2_rowGoesOut_31 : decode cX2_rowGoesOut 31 = .ok (.getfield 9, 3) := by decide +kernel
theorem dX2_rowGoesOut_34 : decode cX2_rowGoesOut 34 = .ok (.iconst 2, 1) := by decide +kernel
theorem dX2_rowGoesOut_35 : decode cX2_rowGoesOut 35 = .ok (.iaload, 1) := by decide +kernel
theorem dX2_rowGoesOut_36 : decode cX2_rowGoesOut 36 = .ok (.ifCond .le 11, 3) := by decide +kernel
theorem dX2_rowGoesOut_39 : decode cX2_rowGoesOut 39 = .ok (.aload_n 0, 1) := by decide +kernel
theorem dX2_rowGoesOut_40 : decode cX2_rowGoesOut 40 = .ok (.iload_n 2, 1) := by decide +kernel
theorem dX2_rowGoesOut_41 : decode cX2_rowGoesOut 41 = .ok (.invokevirtual 106, 3) := by decide +kernel
theorem dX2_rowGoesOut_44 : decode cX2_rowGoesOut 44 = .ok (.goto 8, 3) := by decide +kernel
theorem dX2_rowGoesOut_47 : decode cX2_rowGoesOut 47 = .ok (.aload_n 0, 1) := by decide +kernel
theorem dX2_rowGoesOut_48 : decode cX2_rowGoesOut 48 = .ok (.iload_n 2, 1) := by decide +kernel
theorem dX2_rowGoesOut_49 : decode cX2_rowGoesOut 49 = .ok (.invokevirtual 109, 3) := by decide +kernel
theorem dX2_rowGoesOut_52 : decode cX2_rowGoesOut 52 = .ok (.aload_n 0, 1) := by decide +kernel
theorem dX2_rowGoesOut_53 : decode cX2_rowGoesOut 53 = .ok (.getfield 9, 3) := by decide +kernel
theorem dX2_rowGoesOut_56 : decode cX2_rowGoesOut 56 = .ok (.iconst 5, 1) := by decide +kernel
theorem dX2_rowGoesOut_57 : decode cX2_rowGoesOut 57 = .ok (.dup2, 1) := by decide +kernel
theorem dX2_rowGoesOut_58 : decode cX2_rowGoesOut 58 = .ok (.iaload, 1) := by decide +kernel
theorem dX2_rowGoesOut_59 : decode cX2_rowGoesOut 59 = .ok (.iconst 1, 1) := by decide +kernel
theorem dX2_rowGoesOut_60 : decode cX2_rowGoesOut 60 = .ok (.iadd, 1) := by decide +kernel
theorem dX2_rowGoesOut_61 : decode cX2_rowGoesOut 61 = .ok (.iastore, 1) := by decide +kernel
theorem dX2_rowGoesOut_62 : decode cX2_rowGoesOut 62 = .ok (.aload_n 0, 1) := by decide +kernel
theorem dX2_rowGoesOut_63 : decode cX2_rowGoesOut 63 = .ok (.getfield 9, 3) := by decide +kernel
theorem dX2_rowGoesOut_66 : decode cX2_rowGoesOut 66 = .ok (.bipush 7, 2) := by decide +kernel
theorem dX2_rowGoesOut_68 : decode cX2_rowGoesOut 68 = .ok (.iload_n 2, 1) := by decide +kernel
theorem dX2_rowGoesOut_69 : decode cX2_rowGoesOut 69 = .ok (.iconst 1, 1) := by decide +kernel
theorem dX2_rowGoesOut_70 : decode cX2_rowGoesOut 70 = .ok (.iadd, 1) := by decide +kernel
theorem dX2_rowGoesOut_71 : decode cX2_rowGoesOut 71 = .ok (.iastore, 1) := by decide +kernel
theorem dX2_rowGoesOut_72 : decode cX2_rowGoesOut 72 = .ok (.aload_n 0, 1) := by decide +kernel
theorem dX2_rowGoesOut_73 : decode cX2_rowGoesOut 73 = .ok (.getfield 9, 3) := by decide +kernel
theorem dX2_rowGoesOut_76 : decode cX2_rowGoesOut 76 = .ok (.bipush 7, 2) := by decide +kernel
theorem dX2_rowGoesOut_78 : decode cX2_rowGoesOut 78 = .ok (.iaload, 1) := by decide +kernel
theorem dX2_rowGoesOut_79 : decode cX2_rowGoesOut 79 = .ok (.iload_n 1, 1) := by decide +kernel
theorem dX2_rowGoesOut_80 : decode cX2_rowGoesOut 80 = .ok (.if_icmp .lt 38, 3) := by decide +kernel
theorem dX2_rowGoesOut_83 : decode cX2_rowGoesOut 83 = .ok (.aload_n 0, 1) := by decide +kernel
theorem dX2_rowGoesOut_84 : decode cX2_rowGoesOut 84 = .ok (.getfield 9, 3) := by decide +kernel
theorem dX2_rowGoesOut_87 : decode cX2_rowGoesOut 87 = .ok (.bipush 7, 2) := by decide +kernel
theorem dX2_rowGoesOut_89 : decode cX2_rowGoesOut 89 = .ok (.iconst 0, 1) := by decide +kernel
theorem dX2_rowGoesOut_90 : decode cX2_rowGoesOut 90 = .ok (.iastore, 1) := by decide +kernel
theorem dX2_rowGoesOut_91 : decode cX2_rowGoesOut 91 = .ok (.aload_n 0, 1) := by decide +kernel
theorem dX2_rowGoesOut_92 : decode cX2_rowGoesOut 92 = .ok (.iload_n 1, 1) := by decide +kernel
theorem dX2_rowGoesOut_93 : decode cX2_rowGoesOut 93 = .ok (.invokevirtual 112, 3) := by decide +kernel
theorem dX2_rowGoesOut_96 : decode cX2_rowGoesOut 96 = .ok (.istore_n 3, 1) := by decide +kernel
theorem dX2_rowGoesOut_97 : decode cX2_rowGoesOut 97 = .ok (.aload_n 0, 1) := by decide +kernel
theorem dX2_rowGoesOut_98 : decode cX2_rowGoesOut 98 = .ok (.getfield 9, 3) := by decide +kernel
theorem dX2_rowGoesOut_101 : decode cX2_rowGoesOut 101 = .ok (.bipush 12, 2) := by decide +kernel
theorem dX2_rowGoesOut_103 : decode cX2_rowGoesOut 103 = .ok (.iload_n 3, 1) := by decide +kernel
theorem dX2_rowGoesOut_104 : decode cX2_rowGoesOut 104 = .ok (.iadd, 1) := by decide +kernel
theorem dX2_rowGoesOut_105 : decode cX2_rowGoesOut 105 = .ok (.dup2, 1) := by decide +kernel
theorem dX2_rowGoesOut_106 : decode cX2_rowGoesOut 106 = .ok (.iaload, 1) := by decide +kernel
theorem dX2_rowGoesOut_107 : decode cX2_rowGoesOut 107 = .ok (.iconst 1, 1) := by decide +kernel
theorem dX2_rowGoesOut_108 : decode cX2_rowGoesOut 108 = .ok (.iadd, 1) := by decide +kernel
theorem dX2_rowGoesOut_109 : decode cX2_rowGoesOut 109 = .ok (.iastore, 1) := by decide +kernel
theorem dX2_rowGoesOut_110 : decode cX2_rowGoesOut 110 = .ok (.aload_n 0, 1) := by decide +kernel
theorem dX2_rowGoesOut_111 : decode cX2_rowGoesOut 111 = .ok (.getfield 9, 3) := by decide +kernel
theorem dX2_rowGoesOut_114 : decode cX2_rowGoesOut 114 = .ok (.bipush 15, 2) := by decide +kernel
theorem dX2_rowGoesOut_116 : decode cX2_rowGoesOut 116 = .ok (.iload_n 3, 1) := by decide +kernel
theorem dX2_rowGoesOut_117 : decode cX2_rowGoesOut 117 = .ok (.iastore, 1) := by decide +kernel
theorem dX2_rowGoesOut_118 : decode cX2_rowGoesOut 118 = .ok (.aload_n 0, 1) := by decide +kernel
theorem dX2_rowGoesOut_119 : decode cX2_rowGoesOut 119 = .ok (.getfield 9, 3) := by decide +kernel
theorem dX2_rowGoesOut_122 : decode cX2_rowGoesOut 122 = .ok (.bipush 11, 2) := by decide +kernel
theorem dX2_rowGoesOut_124 : decode cX2_rowGoesOut 124 = .ok (.dup2, 1) := by decide +kernel
theorem dX2_rowGoesOut_125 : decode cX2_rowGoesOut 125 = .ok (.iaload, 1) := by decide +kernel
theorem dX2_rowGoesOut_126 : decode cX2_rowGoesOut 126 = .ok (.aload_n 0, 1) := by decide +kernel
theorem dX2_rowGoesOut_127 : decode cX2_rowGoesOut 127 = .ok (.iconst 1, 1) := by decide +kernel
theorem dX2_rowGoesOut_128 : decode cX2_rowGoesOut 128 = .ok (.invokevirtual 54, 3) := by decide +kernel
theorem dX2_rowGoesOut_131 : decode cX2_rowGoesOut 131 = .ok (.iadd, 1) := by decide +kernel
theorem dX2_rowGoesOut_132 : decode cX2_rowGoesOut 132 = .ok (.iastore, 1) := by decide +kernel
theorem dX2_rowGoesOut_133 : decode cX2_rowGoesOut 133 = .ok (.return_, 1) := by decide +kernel
set_option maxRecDepth 20000 in
theorem ggX2_skipToPicture_X3_read : GoodIn wsX2_skipToPicture wsX3_read := goodIn_r _ [7, 8, 9, 34, 35] (by decide +kernel) (by decide +kernel)
set_option maxRecDepth 20000 in
theorem gX2_skipToPicture_X3_read : GoodIn wsX2_skipToPicture (wsV RX2 93 RX3 yX3_read wsX3_read) := goodIn_app (goodIn_of _ (by decide +kernel)) ggX2_skipToPicture_X3_read
set_option maxRecDepth 20000 in
theorem ggX2_skipToPicture_X2_loseWaiting : GoodIn wsX2_skipToPicture wsX2_loseWaiting := goodIn_r _ [14, 1, 15, 2, 3, 4, 5, 6, 7, 8, 9, 16, 17, 18, 19, 20, 21, 22, 23, 24, 25, 26, 27, 28, 29, 30, 31, 32, 33, 34, 35] (by decide +kernel) (by decide +kernel)
set_option maxRecDepth 20000 in
theorem gX2_skipToPicture_X2_loseWaiting : GoodIn wsX2_skipToPicture (wsV RX2 79 RX2 yX2_loseWaiting wsX2_loseWaiting) := goodIn_app (goodIn_of _ (by decide +kernel)) ggX2_skipToPicture_X2_loseWaiting
theorem dX2_skipToPicture_0 : decode cX2_skipToPicture 0 = .ok (.aload_n 0, 1) := by decide +kernel
theorem dX2_skipToPicture_1 : decode cX2_skipToPicture 1 = .ok (.getfield 9, 3) := by decide +kernel
theorem dX2_skipToPicture_4 : decode cX2_skipToPicture 4 = .ok (.iconst 2, 1) := by decide +kernel
theorem dX2_skipToPicture_5 : decode cX2_skipToPicture 5 = .ok (.iaload, 1) := by decide +kernel
theorem dX2_skipToPicture_6 : decode cX2_skipToPicture 6 = .ok (.istore_n 1, 1) := by decide +kernel
theorem dX2_skipToPicture_7 : decode cX2_skipToPicture 7 = .ok (.iconst 0, 1) := by decide +kernel
theorem dX2_skipToPicture_8 : decode cX2_skipToPicture 8 = .ok (.istore_n 2, 1) := by decide +kernel
theorem dX2_skipToPicture_9 : decode cX2_skipToPicture 9 = .ok (.iload_n 2, 1) := by decide +kernel
theorem dX2_skipToPicture_10 : decode cX2_skipToPicture 10 = .ok (.iload_n 1, 1) := by decide +kernel
theorem dX2_skipToPicture_11 : decode cX2_skipToPicture 11 = .ok (.if_icmp .ge 40, 3) := by decide +kernel
theorem dX2_skipToPicture_14 : decode cX2_skipToPicture 14 = .ok (.aload_n 0, 1) := by decide +kernel
theorem dX2_skipToPicture_15 : decode cX2_skipToPicture 15 = .ok (.getfield 23, 3) := by decide +kernel
theorem dX2_skipToPicture_18 : decode cX2_skipToPicture 18 = .ok (.iconst 0, 1) := by decide +kernel
theorem dX2_skipToPicture_19 : decode cX2_skipToPicture 19 = .ok (.iconst 1, 1) := by decide +kernel
theorem dX2_skipToPicture_20 : decode cX2_skipToPicture 20 = .ok (.invokevirtual 93, 3) := by decide +kernel
theorem dX2_skipToPicture_23 : decode cX2_skipToPicture 23 = .ok (.ifCond .ne 16, 3) := by decide +kernel
theorem dX2_skipToPicture_26 : decode cX2_skipToPicture 26 = .ok (.aload_n 0, 1) := by decide +kernel
theorem dX2_skipToPicture_27 : decode cX2_skipToPicture 27 = .ok (.getfield 23, 3) := by decide +kernel
theorem dX2_skipToPicture_30 : decode cX2_skipToPicture 30 = .ok (.iconst 0, 1) := by decide +kernel
theorem dX2_skipToPicture_31 : decode cX2_skipToPicture 31 = .ok (.iconst 3, 1) := by decide +kernel
theorem dX2_skipToPicture_32 : decode cX2_skipToPicture 32 = .ok (.invokevirtual 93, 3) := by decide +kernel
theorem dX2_skipToPicture_35 : decode cX2_skipToPicture 35 = .ok (.ifCond .ne 4, 3) := by decide +kernel
theorem dX2_skipToPicture_38 : decode cX2_skipToPicture 38 = .ok (.return_, 1) := by decide +kernel
theorem dX2_skipToPicture_39 : decode cX2_skipToPicture 39 = .ok (.aload_n 0, 1) := by decide +kernel
theorem dX2_skipToPicture_40 : decode cX2_skipToPicture 40 = .ok (.iconst 0, 1) := by decide +kernel
theorem dX2_skipToPicture_41 : decode cX2_skipToPicture 41 = .ok (.iconst 2, 1) := by decide +kernel
theorem dX2_skipToPicture_42 : decode cX2_skipToPicture 42 = .ok (.invokevirtual 79, 3) := by decide +kernel
theorem dX2_skipToPicture_45 : decode cX2_skipToPicture 45 = .ok (.iinc 2 1, 3) := by decide +kernel
theorem dX2_skipToPicture_48 : decode cX2_skipToPicture 48 = .ok (.goto (-39), 3) := by decide +kernel
theorem dX2_skipToPicture_51 : decode cX2_skipToPicture 51 = .ok (.return_, 1) := by decide +kernel
set_option maxRecDepth 20000 in
theorem ggX2_showFirstWaiting_X3_read : GoodIn wsX2_showFirstWaiting wsX3_read := goodIn_r _ [8, 9, 10, 29, 30] (by decide +kernel) (by decide +kernel)
set_option maxRecDepth 20000 in
theorem gX2_showFirstWaiting_X3_read : GoodIn wsX2_showFirstWaiting (wsV RX2 93 RX3 yX3_read wsX3_read) := goodIn_app (goodIn_of _ (by decide +kernel)) ggX2_showFirstWaiting_X3_read
set_option maxRecDepth 20000 in
theorem ggX2_showFirstWaiting_X3_write : GoodIn wsX2_showFirstWaiting wsX3_write := goodIn_r _ [14, 9, 10, 29, 30] (by decide +kernel) (by decide +kernel)
set_option maxRecDepth 20000 in
theorem gX2_showFirstWaiting_X3_write : GoodIn wsX2_showFirstWaiting (wsV RX2 90 RX3 yX3_write wsX3_write) := goodIn_app (goodIn_of _ (by decide +kernel)) ggX2_showFirstWaiting_X3_write
set_option maxRecDepth 20000 in
theorem ggX2_showFirstWaiting_X3_removeRow : GoodIn wsX2_showFirstWaiting wsX3_removeRow := goodIn_r _ [18, 9, 10, 19, 20, 21, 22, 29, 30] (by decide +kernel) (by decide +kernel)
set_option maxRecDepth 20000 in
theorem gX2_showFirstWaiting_X3_removeRow : GoodIn wsX2_showFirstWaiting (wsV RX2 96 RX3 yX3_removeRow wsX3_removeRow) := goodIn_app (goodIn_of _ (by decide +kernel)) ggX2_showFirstWaiting_X3_removeRow
theorem dX2_showFirstWaiting_0 : decode cX2_showFirstWaiting 0 = .ok (.aload_n 0, 1) := by decide +kernel
theorem dX2_showFirstWaiting_1 : decode cX2_showFirstWaiting 1 = .ok (.getfield 27, 3) := by decide +kernel
theorem dX2_showFirstWaiting_4 : decode cX2_showFirstWaiting 4 = .ok (.iload_n 1, 1) := by decide +kernel
theorem dX2_showFirstWaiting_5 : decode cX2_showFirstWaiting 5 = .ok (.iconst 0, 1) := by decide +kernel
theorem dX2_showFirstWaiting_6 : decode cX2_showFirstWaiting 6 = .ok (.aload_n 0, 1) := by decide +kernel
theorem dX2_showFirstWaiting_7 : decode cX2_showFirstWaiting 7 = .ok (.getfield 23, 3) := by decide +kernel
theorem dX2_showFirstWaiting_10 : decode cX2_showFirstWaiting 10 = .ok (.iconst 0, 1) := by decide +kernel
theorem dX2_showFirstWaiting_11 : decode cX2_showFirstWaiting 11 = .ok (.iconst 2, 1) := by decide +kernel
theorem dX2_showFirstWaiting_12 : decode cX2_showFirstWaiting 12 = .ok (.invokevirtual 93, 3) := by decide +kernel
theorem dX2_showFirstWaiting_15 : decode cX2_showFirstWaiting 15 = .ok (.invokevirtual 90, 3) := by decide +kernel
theorem dX2_showFirstWaiting_18 : decode cX2_showFirstWaiting 18 = .ok (.aload_n 0, 1) := by decide +kernel
theorem dX2_showFirstWaiting_19 : decode cX2_showFirstWaiting 19 = .ok (.getfield 27, 3) := by decide +kernel
theorem dX2_showFirstWaiting_22 : decode cX2_showFirstWaiting 22 = .ok (.iload_n 1, 1) := by decide +kernel
theorem dX2_showFirstWaiting_23 : decode cX2_showFirstWaiting 23 = .ok (.iconst 1, 1) := by decide +kernel
theorem dX2_showFirstWaiting_24 : decode cX2_showFirstWaiting 24 = .ok (.aload_n 0, 1) := by decide +kernel
theorem dX2_showFirstWaiting_25 : decode cX2_showFirstWaiting 25 = .ok (.getfield 23, 3) := by decide +kernel
theorem dX2_showFirstWaiting_28 : decode cX2_showFirstWaiting 28 = .ok (.iconst 0, 1) := by decide +kernel
theorem dX2_showFirstWaiting_29 : decode cX2_showFirstWaiting 29 = .ok (.iconst 0, 1) := by decide +kernel
theorem dX2_showFirstWaiting_30 : decode cX2_showFirstWaiting 30 = .ok (.invokevirtual 93, 3) := by decide +kernel
theorem dX2_showFirstWaiting_33 : decode cX2_showFirstWaiting 33 = .ok (.invokevirtual 90, 3) := by decide +kernel
theorem dX2_showFirstWaiting_36 : decode cX2_showFirstWaiting 36 = .ok (.aload_n 0, 1) := by decide +kernel
theorem dX2_showFirstWaiting_37 : decode cX2_showFirstWaiting 37 = .ok (.getfield 27, 3) := by decide +kernel
theorem dX2_showFirstWaiting_40 : decode cX2_showFirstWaiting 40 = .ok (.iload_n 1, 1) := by decide +kernel
theorem dX2_showFirstWaiting_41 : decode cX2_showFirstWaiting 41 = .ok (.iconst 2, 1) := by decide +kernel
theorem dX2_showFirstWaiting_42 : decode cX2_showFirstWaiting 42 = .ok (.aload_n 0, 1) := by decide +kernel
theorem dX2_showFirstWaiting_43 : decode cX2_showFirstWaiting 43 = .ok (.getfield 23, 3) := by decide +kernel
theorem dX2_showFirstWaiting_46 : decode cX2_showFirstWaiting 46 = .ok (.iconst 0, 1) := by decide +kernel
theorem dX2_showFirstWaiting_47 : decode cX2_showFirstWaiting 47 = .ok (.iconst 1, 1) := by decide +kernel
theorem dX2_showFirstWaiting_48 : decode cX2_showFirstWaiting 48 = .ok (.invokevirtual 93, 3) := by decide +kernel
theorem dX2_showFirstWaiting_51 : decode cX2_showFirstWaiting 51 = .ok (.invokevirtual 90, 3) := by decide +kernel
theorem dX2_showFirstWaiting_54 : decode cX2_showFirstWaiting 54 = .ok (.aload_n 0, 1) := by decide +kernel
theorem dX2_showFirstWaiting_55 : decode cX2_showFirstWaiting 55 = .ok (.getfield 23, 3) := by decide +kernel
theorem dX2_showFirstWaiting_58 : decode cX2_showFirstWaiting 58 = .ok (.iconst 0, 1) := by decide +kernel
theorem dX2_showFirstWaiting_59 : decode cX2_showFirstWaiting 59 = .ok (.iconst 3, 1) := by decide +kernel
theorem dX2_showFirstWaiting_60 : decode cX2_showFirstWaiting 60 = .ok (.invokevirtual 93, 3) := by decide +kernel
theorem dX2_showFirstWaiting_63 : decode cX2_showFirstWaiting 63 = .ok (.ifCond .ne 16, 3) := by decide +kernel
theorem dX2_showFirstWaiting_66 : decode cX2_showFirstWaiting 66 = .ok (.aload_n 0, 1) := by decide +kernel
theorem dX2_showFirstWaiting_67 : decode cX2_showFirstWaiting 67 = .ok (.getfield 23, 3) := by decide +kernel
theorem dX2_showFirstWaiting_70 : decode cX2_showFirstWaiting 70 = .ok (.iconst 0, 1) := by decide +kernel
theorem dX2_showFirstWaiting_71 : decode cX2_showFirstWaiting 71 = .ok (.iconst 3, 1) := by decide +kernel
theorem dX2_showFirstWaiting_72 : decode cX2_showFirstWaiting 72 = .ok (.iconst 1, 1) := by decide +kernel
theorem dX2_showFirstWaiting_73 : decode cX2_showFirstWaiting 73 = .ok (.invokevirtual 90, 3) := by decide +kernel
theorem dX2_showFirstWaiting_76 : decode cX2_showFirstWaiting 76 = .ok (.goto 31, 3) := by decide +kernel
theorem dX2_showFirstWaiting_79 : decode cX2_showFirstWaiting 79 = .ok (.aload_n 0, 1) := by decide +kernel
theorem dX2_showFirstWaiting_80 : decode cX2_showFirstWaiting 80 = .ok (.getfield 23, 3) := by decide +kernel
theorem dX2_showFirstWaiting_83 : decode cX2_showFirstWaiting 83 = .ok (.iconst 0, 1) := by decide +kernel
theorem dX2_showFirstWaiting_84 : decode cX2_showFirstWaiting 84 = .ok (.invokevirtual 96, 3) := by decide +kernel
theorem dX2_showFirstWaiting_87 : decode cX2_showFirstWaiting 87 = .ok (.aload_n 0, 1) := by decide +kernel
theorem dX2_showFirstWaiting_88 : decode cX2_showFirstWaiting 88 = .ok (.getfield 9, 3) := by decide +kernel
theorem dX2_showFirstWaiting_91 : decode cX2_showFirstWaiting 91 = .ok (.iconst 2, 1) := by decide +kernel
theorem dX2_showFirstWaiting_92 : decode cX2_showFirstWaiting 92 = .ok (.dup2, 1) := by decide +kernel
theorem dX2_showFirstWaiting_93 : decode cX2_showFirstWaiting 93 = .ok (.iaload, 1) := by decide +kernel
theorem dX2_showFirstWaiting_94 : decode cX2_showFirstWaiting 94 = .ok (.iconst 1, 1) := by decide +kernel
theorem dX2_showFirstWaiting_95 : decode cX2_showFirstWaiting 95 = .ok (.isub, 1) := by decide +kernel
theorem dX2_showFirstWaiting_96 : decode cX2_showFirstWaiting 96 = .ok (.iastore, 1) := by decide +kernel
theorem dX2_showFirstWaiting_97 : decode cX2_showFirstWaiting 97 = .ok (.aload_n 0, 1) := by decide +kernel
theorem dX2_showFirstWaiting_98 : decode cX2_showFirstWaiting 98 = .ok (.getfield 9, 3) := by decide +kernel
theorem dX2_showFirstWaiting_101 : decode cX2_showFirstWaiting 101 = .ok (.iconst 3, 1) := by decide +kernel
theorem dX2_showFirstWaiting_102 : decode cX2_showFirstWaiting 102 = .ok (.dup2, 1) := by decide +kernel
theorem dX2_showFirstWaiting_103 : decode cX2_showFirstWaiting 103 = .ok (.iaload, 1) := by decide +kernel
theorem dX2_showFirstWaiting_104 : decode cX2_showFirstWaiting 104 = .ok (.iconst 1, 1) := by decide +kernel
theorem dX2_showFirstWaiting_105 : decode cX2_showFirstWaiting 105 = .ok (.iadd, 1) := by decide +kernel
theorem dX2_showFirstWaiting_106 : decode cX2_showFirstWaiting 106 = .ok (.iastore, 1) := by decide +kernel
theorem dX2_showFirstWaiting_107 : decode cX2_showFirstWaiting 107 = .ok (.return_, 1) := by decide +kernel
set_option maxRecDepth 20000 in
theorem ggX2_showColour_X2_setting : GoodIn wsX2_showColour wsX2_setting := goodIn_r _ [7, 2, 8, 9, 10, 18, 19, 20, 21, 22, 23] (by decide +kernel) (by decide +kernel)
set_option maxRecDepth 20000 in
theorem gX2_showColour_X2_setting : GoodIn wsX2_showColour (wsV RX2 54 RX2 yX2_setting wsX2_setting) := goodIn_app (goodIn_of _ (by decide +kernel)) ggX2_showColour_X2_setting
set_option maxRecDepth 20000 in
theorem ggX2_showColour_X3_write : GoodIn wsX2_showColour wsX3_write := goodIn_r _ [15, 16, 17, 24, 25] (by decide +kernel) (by decide +kernel)
set_option maxRecDepth 20000 in
theorem gX2_showColour_X3_write : GoodIn wsX2_showColour (wsV RX2 90 RX3 yX3_write wsX3_write) := goodIn_app (goodIn_of _ (by decide +kernel)) ggX2_showColour_X3_write
theorem dX2_showColour_0 : decode cX2_showColour 0 = .ok (.aload_n 0, 1) := by decide +kernel
theorem dX2_showColour_1 : decode cX2_showColour 1 = .ok (.getfield 27, 3) := by decide +kernel
theorem dX2_showColour_4 : decode cX2_showColour 4 = .ok (.iload_n 1, 1) := by decide +kernel
theorem dX2_showColour_5 : decode cX2_showColour 5 = .ok (.iconst 0, 1) := by decide +kernel
theorem dX2_showColour_6 : decode cX2_showColour 6 = .ok (.aload_n 0, 1) := by decide +kernel
theorem dX2_showColour_7 : decode cX2_showColour 7 = .ok (.bipush 6, 2) := by decide +kernel
theorem dX2_showColour_9 : decode cX2_showColour 9 = .ok (.invokevirtual 54, 3) := by decide +kernel
theorem dX2_showColour_12 : decode cX2_showColour 12 = .ok (.invokevirtual 90, 3) := by decide +kernel
theorem dX2_showColour_15 : decode cX2_showColour 15 = .ok (.aload_n 0, 1) := by decide +kernel
theorem dX2_showColour_16 : decode cX2_showColour 16 = .ok (.getfield 27, 3) := by decide +kernel
theorem dX2_showColour_19 : decode cX2_showColour 19 = .ok (.iload_n 1, 1) := by decide +kernel
theorem dX2_showColour_20 : decode cX2_showColour 20 = .ok (.iconst 1, 1) := by decide +kernel
theorem dX2_showColour_21 : decode cX2_showColour 21 = .ok (.bipush (-6), 2) := by decide +kernel
theorem dX2_showColour_23 : decode cX2_showColour 23 = .ok (.invokevirtual 90, 3) := by decide +kernel
theorem dX2_showColour_26 : decode cX2_showColour 26 = .ok (.aload_n 0, 1) := by decide +kernel
theorem dX2_showColour_27 : decode cX2_showColour 27 = .ok (.getfield 27, 3) := by decide +kernel
theorem dX2_showColour_30 : decode cX2_showColour 30 = .ok (.iload_n 1, 1) := by decide +kernel
theorem dX2_showColour_31 : decode cX2_showColour 31 = .ok (.iconst 2, 1) := by decide +kernel
theorem dX2_showColour_32 : decode cX2_showColour 32 = .ok (.bipush (-6), 2) := by decide +kernel
theorem dX2_showColour_34 : decode cX2_showColour 34 = .ok (.invokevirtual 90, 3) := by decide +kernel
theorem dX2_showColour_37 : decode cX2_showColour 37 = .ok (.aload_n 0, 1) := by decide +kernel
theorem dX2_showColour_38 : decode cX2_showColour 38 = .ok (.getfield 9, 3) := by decide +kernel
theorem dX2_showColour_41 : decode cX2_showColour 41 = .ok (.bipush 6, 2) := by decide +kernel
theorem dX2_showColour_43 : decode cX2_showColour 43 = .ok (.dup2, 1) := by decide +kernel
theorem dX2_showColour_44 : decode cX2_showColour 44 = .ok (.iaload, 1) := by decide +kernel
theorem dX2_showColour_45 : decode cX2_showColour 45 = .ok (.iconst 1, 1) := by decide +kernel
theorem dX2_showColour_46 : decode cX2_showColour 46 = .ok (.iadd, 1) := by decide +kernel
theorem dX2_showColour_47 : decode cX2_showColour 47 = .ok (.iastore, 1) := by decide +kernel
theorem dX2_showColour_48 : decode cX2_showColour 48 = .ok (.return_, 1) := by decide +kernel
set_option maxRecDepth 20000 in
theorem ggX2_judgeScreen_X3_read : GoodIn wsX2_judgeScreen wsX3_read := goodIn_r _ [6, 7, 8, 15, 16] (by decide +kernel) (by decide +kernel)
set_option maxRecDepth 20000 in
theorem gX2_judgeScreen_X3_read : GoodIn wsX2_judgeScreen (wsV RX2 93 RX3 yX3_read wsX3_read) := goodIn_app (goodIn_of _ (by decide +kernel)) ggX2_judgeScreen_X3_read
theorem dX2_judgeScreen_0 : decode cX2_judgeScreen 0 = .ok (.aload_n 0, 1) := by decide +kernel
theorem dX2_judgeScreen_1 : decode cX2_judgeScreen 1 = .ok (.getfield 27, 3) := by decide +kernel
theorem dX2_judgeScreen_4 : decode cX2_judgeScreen 4 = .ok (.iconst 0, 1) := by decide +kernel
theorem dX2_judgeScreen_5 : decode cX2_judgeScreen 5 = .ok (.iconst 1, 1) := by decide +kernel
theorem dX2_judgeScreen_6 : decode cX2_judgeScreen 6 = .ok (.invokevirtual 93, 3) := by decide +kernel
theorem dX2_judgeScreen_9 : decode cX2_judgeScreen 9 = .ok (.istore_n 2, 1) := by decide +kernel
theorem dX2_judgeScreen_10 : decode cX2_judgeScreen 10 = .ok (.iconst 0, 1) := by decide +kernel
theorem dX2_judgeScreen_11 : decode cX2_judgeScreen 11 = .ok (.istore_n 3, 1) := by decide +kernel
theorem dX2_judgeScreen_12 : decode cX2_judgeScreen 12 = .ok (.iconst 0, 1) := by decide +kernel
theorem dX2_judgeScreen_13 : decode cX2_judgeScreen 13 = .ok (.istore 4, 2) := by decide +kernel
theorem dX2_judgeScreen_15 : decode cX2_judgeScreen 15 = .ok (.iload 4, 2) := by decide +kernel
theorem dX2_judgeScreen_17 : decode cX2_judgeScreen 17 = .ok (.iload_n 1, 1) := by decide +kernel
theorem dX2_judgeScreen_18 : decode cX2_judgeScreen 18 = .ok (.if_icmp .ge 59, 3) := by decide +kernel
theorem dX2_judgeScreen_21 : decode cX2_judgeScreen 21 = .ok (.aload_n 0, 1) := by decide +kernel
theorem dX2_judgeScreen_22 : decode cX2_judgeScreen 22 = .ok (.getfield 27, 3) := by decide +kernel
theorem dX2_judgeScreen_25 : decode cX2_judgeScreen 25 = .ok (.iload 4, 2) := by decide +kernel
theorem dX2_judgeScreen_27 : decode cX2_judgeScreen 27 = .ok (.iconst 1, 1) := by decide +kernel
theorem dX2_judgeScreen_28 : decode cX2_judgeScreen 28 = .ok (.invokevirtual 93, 3) := by decide +kernel
theorem dX2_judgeScreen_31 : decode cX2_judgeScreen 31 = .ok (.bipush (-6), 2) := by decide +kernel
theorem dX2_judgeScreen_33 : decode cX2_judgeScreen 33 = .ok (.if_icmp .ne 5, 3) := by decide +kernel
theorem dX2_judgeScreen_36 : decode cX2_judgeScreen 36 = .ok (.iconst 2, 1) := by decide +kernel
theorem dX2_judgeScreen_37 : decode cX2_judgeScreen 37 = .ok (.ireturn, 1) := by decide +kernel
theorem dX2_judgeScreen_38 : decode cX2_judgeScreen 38 = .ok (.aload_n 0, 1) := by decide +kernel
theorem dX2_judgeScreen_39 : decode cX2_judgeScreen 39 = .ok (.getfield 27, 3) := by decide +kernel
theorem dX2_judgeScreen_42 : decode cX2_judgeScreen 42 = .ok (.iload 4, 2) := by decide +kernel
theorem dX2_judgeScreen_44 : decode cX2_judgeScreen 44 = .ok (.iconst 1, 1) := by decide +kernel
theorem dX2_judgeScreen_45 : decode cX2_judgeScreen 45 = .ok (.invokevirtual 93, 3) := by decide +kernel
theorem dX2_judgeScreen_48 : decode cX2_judgeScreen 48 = .ok (.iload_n 2, 1) := by decide +kernel
theorem dX2_judgeScreen_49 : decode cX2_judgeScreen 49 = .ok (.if_icmp .ne 20, 3) := by decide +kernel
theorem dX2_judgeScreen_52 : decode cX2_judgeScreen 52 = .ok (.aload_n 0, 1) := by decide +kernel
theorem dX2_judgeScreen_53 : decode cX2_judgeScreen 53 = .ok (.getfield 27, 3) := by decide +kernel
theorem dX2_judgeScreen_56 : decode cX2_judgeScreen 56 = .ok (.iload 4, 2) := by decide +kernel
theorem dX2_judgeScreen_58 : decode cX2_judgeScreen 58 = .ok (.iconst 2, 1) := by decide +kernel
theorem dX2_judgeScreen_59 : decode cX2_judgeScreen 59 = .ok (.invokevirtual 93, 3) := by decide +kernel
theorem dX2_judgeScreen_62 : decode cX2_judgeScreen 62 = .ok (.iload 4, 2) := by decide +kernel
theorem dX2_judgeScreen_64 : decode cX2_judgeScreen 64 = .ok (.iconst 2, 1) := by decide +kernel
theorem dX2_judgeScreen_65 : decode cX2_judgeScreen 65 = .ok (.idiv, 1) := by decide +kernel
theorem dX2_judgeScreen_66 : decode cX2_judgeScreen 66 = .ok (.if_icmp .eq 5, 3) := by decide +kernel
theorem dX2_judgeScreen_69 : decode cX2_judgeScreen 69 = .ok (.iconst 1, 1) := by decide +kernel
theorem dX2_judgeScreen_70 : decode cX2_judgeScreen 70 = .ok (.istore_n 3, 1) := by decide +kernel
theorem dX2_judgeScreen_71 : decode cX2_judgeScreen 71 = .ok (.iinc 4 1, 3) := by decide +kernel
theorem dX2_judgeScreen_74 : decode cX2_judgeScreen 74 = .ok (.goto (-59), 3) := by decide +kernel
theorem dX2_judgeScreen_77 : decode cX2_judgeScreen 77 = .ok (.iload_n 3, 1) := by decide +kernel
theorem dX2_judgeScreen_78 : decode cX2_judgeScreen 78 = .ok (.ireturn, 1) := by decide +kernel
theorem dX3_init_0 : decode cX3_init 0 = .ok (.aload_n 0, 1) := by decide +kernel
theorem dX3_init_1 : decode cX3_init 1 = .ok (.invokespecial 3, 3) := by decide +kernel
theorem dX3_init_4 : decode cX3_init 4 = .ok (.aload_n 0, 1) := by decide +kernel
theorem dX3_init_5 : decode cX3_init 5 = .ok (.iload_n 2, 1) := by decide +kernel
theorem dX3_init_6 : decode cX3_init 6 = .ok (.putfield 9, 3) := by decide +kernel
theorem dX3_init_9 : decode cX3_init 9 = .ok (.aload_n 0, 1) := by decide +kernel
theorem dX3_init_10 : decode cX3_init 10 = .ok (.iconst 0, 1) := by decide +kernel
theorem dX3_init_11 : decode cX3_init 11 = .ok (.iload_n 1, 1) := by decide +kernel
theorem dX3_init_12 : decode cX3_init 12 = .ok (.iload_n 2, 1) := by decide +kernel
theorem dX3_init_13 : decode cX3_init 13 = .ok (.imul, 1) := by decide +kernel
theorem dX3_init_14 : decode cX3_init 14 = .ok (.invokestatic 15, 3) := by decide +kernel
theorem dX3_init_17 : decode cX3_init 17 = .ok (.newarray .int, 2) := by decide +kernel
theorem dX3_init_19 : decode cX3_init 19 = .ok (.putfield 21, 3) := by decide +kernel
theorem dX3_init_22 : decode cX3_init 22 = .ok (.iconst 0, 1) := by decide +kernel
theorem dX3_init_23 : decode cX3_init 23 = .ok (.istore 4, 2) := by decide +kernel
theorem dX3_init_25 : decode cX3_init 25 = .ok (.iload 4, 2) := by decide +kernel
theorem dX3_init_27 : decode cX3_init 27 = .ok (.aload_n 0, 1) := by decide +kernel
theorem dX3_init_28 : decode cX3_init 28 = .ok (.getfield 21, 3) := by decide +kernel
theorem dX3_init_31 : decode cX3_init 31 = .ok (.arraylength, 1) := by decide +kernel
theorem dX3_init_32 : decode cX3_init 32 = .ok (.if_icmp .ge 17, 3) := by decide +kernel
theorem dX3_init_35 : decode cX3_init 35 = .ok (.aload_n 0, 1) := by decide +kernel
theorem dX3_init_36 : decode cX3_init 36 = .ok (.getfield 21, 3) := by decide +kernel
theorem dX3_init_39 : decode cX3_init 39 = .ok (.iload 4, 2) := by decide +kernel
theorem dX3_init_41 : decode cX3_init 41 = .ok (.iload_n 3, 1) := by decide +kernel
theorem dX3_init_42 : decode cX3_init 42 = .ok (.iastore, 1) := by decide +kernel
theorem dX3_init_43 : decode cX3_init 43 = .ok (.iinc 4 1, 3) := by decide +kernel
theorem dX3_init_46 : decode cX3_init 46 = .ok (.goto (-21), 3) := by decide +kernel
theorem dX3_init_49 : decode cX3_init 49 = .ok (.return_, 1) := by decide +kernel
theorem dX3_read_0 : decode cX3_read 0 = .ok (.iload_n 1, 1) := by decide +kernel
theorem dX3_read_1 : decode cX3_read 1 = .ok (.aload_n 0, 1) := by decide +kernel
theorem dX3_read_2 : decode cX3_read 2 = .ok (.getfield 9, 3) := by decide +kernel
theorem dX3_read_5 : decode cX3_read 5 = .ok (.imul, 1) := by decide +kernel
theorem dX3_read_6 : decode cX3_read 6 = .ok (.iload_n 2, 1) := by decide +kernel
theorem dX3_read_7 : decode cX3_read 7 = .ok (.iadd, 1) := by decide +kernel
theorem dX3_read_8 : decode cX3_read 8 = .ok (.istore_n 3, 1) := by decide +kernel
theorem dX3_read_9 : decode cX3_read 9 = .ok (.iload_n 3, 1) := by decide +kernel
theorem dX3_read_10 : decode cX3_read 10 = .ok (.ifCond .lt 21, 3) := by decide +kernel
theorem dX3_read_13 : decode cX3_read 13 = .ok (.iload_n 3, 1) := by decide +kernel
theorem dX3_read_14 : decode cX3_read 14 = .ok (.aload_n 0, 1) := by decide +kernel
theorem dX3_read_15 : decode cX3_read 15 = .ok (.getfield 21, 3) := by decide +kernel
theorem dX3_read_18 : decode cX3_read 18 = .ok (.arraylength, 1) := by decide +kernel
theorem dX3_read_19 : decode cX3_read 19 = .ok (.if_icmp .ge 12, 3) := by decide +kernel
theorem dX3_read_22 : decode cX3_read 22 = .ok (.aload_n 0, 1) := by decide +kernel
theorem dX3_read_23 : decode cX3_read 23 = .ok (.getfield 21, 3) := by decide +kernel
theorem dX3_read_26 : decode cX3_read 26 = .ok (.iload_n 3, 1) := by decide +kernel
theorem dX3_read_27 : decode cX3_read 27 = .ok (.iaload, 1) := by decide +kernel
theorem dX3_read_28 : decode cX3_read 28 = .ok (.goto 5, 3) := by decide +kernel
theorem dX3_read_31 : decode cX3_read 31 = .ok (.bipush (-6), 2) := by decide +kernel
theorem dX3_read_33 : decode cX3_read 33 = .ok (.ireturn, 1) := by decide +kernel
theorem dX3_write_0 : decode cX3_write 0 = .ok (.iload_n 1, 1) := by decide +kernel
theorem dX3_write_1 : decode cX3_write 1 = .ok (.aload_n 0, 1) := by decide +kernel
theorem dX3_write_2 : decode cX3_write 2 = .ok (.getfield 9, 3) := by decide +kernel
theorem dX3_write_5 : decode cX3_write 5 = .ok (.imul, 1) := by decide +kernel
theorem dX3_write_6 : decode cX3_write 6 = .ok (.iload_n 2, 1) := by decide +kernel
theorem dX3_write_7 : decode cX3_write 7 = .ok (.iadd, 1) := by decide +kernel
theorem dX3_write_8 : decode cX3_write 8 = .ok (.istore 4, 2) := by decide +kernel
theorem dX3_write_10 : decode cX3_write 10 = .ok (.iload 4, 2) := by decide +kernel
theorem dX3_write_12 : decode cX3_write 12 = .ok (.ifCond .lt 21, 3) := by decide +kernel
theorem dX3_write_15 : decode cX3_write 15 = .ok (.iload 4, 2) := by decide +kernel
theorem dX3_write_17 : decode cX3_write 17 = .ok (.aload_n 0, 1) := by decide +kernel
theorem dX3_write_18 : decode cX3_write 18 = .ok (.getfield 21, 3) := by decide +kernel
theorem dX3_write_21 : decode cX3_write 21 = .ok (.arraylength, 1) := by decide +kernel
theorem dX3_write_22 : decode cX3_write 22 = .ok (.if_icmp .ge 11, 3) := by decide +kernel
theorem dX3_write_25 : decode cX3_write 25 = .ok (.aload_n 0, 1) := by decide +kernel
theorem dX3_write_26 : decode cX3_write 26 = .ok (.getfield 21, 3) := by decide +kernel
theorem dX3_write_29 : decode cX3_write 29 = .ok (.iload 4, 2) := by decide +kernel
theorem dX3_write_31 : decode cX3_write 31 = .ok (.iload_n 3, 1) := by decide +kernel
theorem dX3_write_32 : decode cX3_write 32 = .ok (.iastore, 1) := by decide +kernel
theorem dX3_write_33 : decode cX3_write 33 = .ok (.return_, 1) := by decide +kernel
theorem dX3_removeRow_0 : decode cX3_removeRow 0 = .ok (.iload_n 1, 1) := by decide +kernel
theorem dX3_removeRow_1 : decode cX3_removeRow 1 = .ok (.aload_n 0, 1) := by decide +kernel
theorem dX3_removeRow_2 : decode cX3_removeRow 2 = .ok (.getfield 9, 3) := by decide +kernel
theorem dX3_removeRow_5 : decode cX3_removeRow 5 = .ok (.imul, 1) := by decide +kernel
theorem dX3_removeRow_6 : decode cX3_removeRow 6 = .ok (.istore_n 2, 1) := by decide +kernel
theorem dX3_removeRow_7 : decode cX3_removeRow 7 = .ok (.iload_n 2, 1) := by decide +kernel
theorem dX3_removeRow_8 : decode cX3_removeRow 8 = .ok (.aload_n 0, 1) := by decide +kernel
theorem dX3_removeRow_9 : decode cX3_removeRow 9 = .ok (.getfield 9, 3) := by decide +kernel
theorem dX3_removeRow_12 : decode cX3_removeRow 12 = .ok (.iadd, 1) := by decide +kernel
theorem dX3_removeRow_13 : decode cX3_removeRow 13 = .ok (.istore_n 3, 1) := by decide +kernel
theorem dX3_removeRow_14 : decode cX3_removeRow 14 = .ok (.iload_n 2, 1) := by decide +kernel
theorem dX3_removeRow_15 : decode cX3_removeRow 15 = .ok (.ifCond .lt 32, 3) := by decide +kernel
theorem dX3_removeRow_18 : decode cX3_removeRow 18 = .ok (.iload_n 3, 1) := by decide +kernel
theorem dX3_removeRow_19 : decode cX3_removeRow 19 = .ok (.aload_n 0, 1) := by decide +kernel
theorem dX3_removeRow_20 : decode cX3_removeRow 20 = .ok (.getfield 21, 3) := by decide +kernel
theorem dX3_removeRow_23 : decode cX3_removeRow 23 = .ok (.arraylength, 1) := by decide +kernel
theorem dX3_removeRow_24 : decode cX3_removeRow 24 = .ok (.if_icmp .gt 23, 3) := by decide +kernel
theorem dX3_removeRow_27 : decode cX3_removeRow 27 = .ok (.aload_n 0, 1) := by decide +kernel
theorem dX3_removeRow_28 : decode cX3_removeRow 28 = .ok (.getfield 21, 3) := by decide +kernel
theorem dX3_removeRow_31 : decode cX3_removeRow 31 = .ok (.iload_n 3, 1) := by decide +kernel
theorem dX3_removeRow_32 : decode cX3_removeRow 32 = .ok (.aload_n 0, 1) := by decide +kernel
theorem dX3_removeRow_33 : decode cX3_removeRow 33 = .ok (.getfield 21, 3) := by decide +kernel
theorem dX3_removeRow_36 : decode cX3_removeRow 36 = .ok (.iload_n 2, 1) := by decide +kernel
theorem dX3_removeRow_37 : decode cX3_removeRow 37 = .ok (.aload_n 0, 1) := by decide +kernel
theorem dX3_removeRow_38 : decode cX3_removeRow 38 = .ok (.getfield 21, 3) := by decide +kernel
theorem dX3_removeRow_41 : decode cX3_removeRow 41 = .ok (.arraylength, 1) := by decide +kernel
theorem dX3_removeRow_42 : decode cX3_removeRow 42 = .ok (.iload_n 3, 1) := by decide +kernel
theorem dX3_removeRow_43 : decode cX3_removeRow 43 = .ok (.isub, 1) := by decide +kernel
theorem dX3_removeRow_44 : decode cX3_removeRow 44 = .ok (.invokestatic 25, 3) := by decide +kernel
theorem dX3_removeRow_47 : decode cX3_removeRow 47 = .ok (.return_, 1) := by decide +kernel
theorem dX3_copyFrom_0 : decode cX3_copyFrom 0 = .ok (.aload_n 1, 1) := by decide +kernel
theorem dX3_copyFrom_1 : decode cX3_copyFrom 1 = .ok (.getfield 21, 3) := by decide +kernel
theorem dX3_copyFrom_4 : decode cX3_copyFrom 4 = .ok (.iconst 0, 1) := by decide +kernel
theorem dX3_copyFrom_5 : decode cX3_copyFrom 5 = .ok (.aload_n 0, 1) := by decide +kernel
theorem dX3_copyFrom_6 : decode cX3_copyFrom 6 = .ok (.getfield 21, 3) := by decide +kernel
theorem dX3_copyFrom_9 : decode cX3_copyFrom 9 = .ok (.iconst 0, 1) := by decide +kernel
theorem dX3_copyFrom_10 : decode cX3_copyFrom 10 = .ok (.aload_n 1, 1) := by decide +kernel
theorem dX3_copyFrom_11 : decode cX3_copyFrom 11 = .ok (.getfield 21, 3) := by decide +kernel
theorem dX3_copyFrom_14 : decode cX3_copyFrom 14 = .ok (.arraylength, 1) := by decide +kernel
theorem dX3_copyFrom_15 : decode cX3_copyFrom 15 = .ok (.aload_n 0, 1) := by decide +kernel
theorem dX3_copyFrom_16 : decode cX3_copyFrom 16 = .ok (.getfield 21, 3) := by decide +kernel
theorem dX3_copyFrom_19 : decode cX3_copyFrom 19 = .ok (.arraylength, 1) := by decide +kernel
theorem dX3_copyFrom_20 : decode cX3_copyFrom 20 = .ok (.invokestatic 31, 3) := by decide +kernel
theorem dX3_copyFrom_23 : decode cX3_copyFrom 23 = .ok (.invokestatic 25, 3) := by decide +kernel
theorem dX3_copyFrom_26 : decode cX3_copyFrom 26 = .ok (.return_, 1) := by decide +kernel
set_option maxRecDepth 20000 in
theorem ggX4_init_X2_init : GoodIn wsX4_init wsX2_init := goodIn_r _ [20, 21, 2, 3, 22, 23, 24, 25, 26, 27, 28, 29, 30, 31, 32, 33, 34, 35, 36, 37, 38, 39, 40, 51, 52, 53, 54, 55, 56, 71, 72] (by decide +kernel) (by decide +kernel)
set_option maxRecDepth 20000 in
theorem gX4_init_X2_init : GoodIn wsX4_init (wsX2_init) := ggX4_init_X2_init
set_option maxRecDepth 20000 in
theorem ggX4_init_X0_init : GoodIn wsX4_init wsX0_init := goodIn_r _ [42, 43, 2, 3, 44, 45, 62, 63, 64] (by decide +kernel) (by decide +kernel)
set_option maxRecDepth 20000 in
theorem gX4_init_X0_init_n25 : GoodIn wsX4_init (wsX0_init) := ggX4_init_X0_init
set_option maxRecDepth 20000 in
theorem ggX4_init_X1_init : GoodIn wsX4_init wsX1_init := goodIn_r _ [47, 48, 2, 3, 49, 50, 65, 66, 67, 68, 69, 70] (by decide +kernel) (by decide +kernel)
set_option maxRecDepth 20000 in
theorem gX4_init_X1_init_n32 : GoodIn wsX4_init (wsX1_init) := ggX4_init_X1_init
theorem dX4_init_0 : decode cX4_init 0 = .ok (.aload_n 0, 1) := by decide +kernel
theorem dX4_init_1 : decode cX4_init 1 = .ok (.invokespecial 1, 3) := by decide +kernel
theorem dX4_init_4 : decode cX4_init 4 = .ok (.aload_n 0, 1) := by decide +kernel
theorem dX4_init_5 : decode cX4_init 5 = .ok (.new 7, 3) := by decide +kernel
theorem dX4_init_8 : decode cX4_init 8 = .ok (.dup, 1) := by decide +kernel
theorem dX4_init_9 : decode cX4_init 9 = .ok (.invokespecial 9, 3) := by decide +kernel
theorem dX4_init_12 : decode cX4_init 12 = .ok (.putfield 10, 3) := by decide +kernel
theorem dX4_init_15 : decode cX4_init 15 = .ok (.aload_n 0, 1) := by decide +kernel
theorem dX4_init_16 : decode cX4_init 16 = .ok (.new 7, 3) := by decide +kernel
theorem dX4_init_19 : decode cX4_init 19 = .ok (.dup, 1) := by decide +kernel
theorem dX4_init_20 : decode cX4_init 20 = .ok (.invokespecial 9, 3) := by decide +kernel
theorem dX4_init_23 : decode cX4_init 23 = .ok (.putfield 16, 3) := by decide +kernel
theorem dX4_init_26 : decode cX4_init 26 = .ok (.aload_n 0, 1) := by decide +kernel
theorem dX4_init_27 : decode cX4_init 27 = .ok (.iconst 2, 1) := by decide +kernel
theorem dX4_init_28 : decode cX4_init 28 = .ok (.anewarray 7, 3) := by decide +kernel
theorem dX4_init_31 : decode cX4_init 31 = .ok (.putfield 19, 3) := by decide +kernel
theorem dX4_init_34 : decode cX4_init 34 = .ok (.aload_n 0, 1) := by decide +kernel
theorem dX4_init_35 : decode cX4_init 35 = .ok (.new 23, 3) := by decide +kernel
theorem dX4_init_38 : decode cX4_init 38 = .ok (.dup, 1) := by decide +kernel
theorem dX4_init_39 : decode cX4_init 39 = .ok (.invokespecial 25, 3) := by decide +kernel
theorem dX4_init_42 : decode cX4_init 42 = .ok (.putfield 26, 3) := by decide +kernel
theorem dX4_init_45 : decode cX4_init 45 = .ok (.aload_n 0, 1) := by decide +kernel
theorem dX4_init_46 : decode cX4_init 46 = .ok (.new 30, 3) := by decide +kernel
theorem dX4_init_49 : decode cX4_init 49 = .ok (.dup, 1) := by decide +kernel
theorem dX4_init_50 : decode cX4_init 50 = .ok (.invokespecial 32, 3) := by decide +kernel
theorem dX4_init_53 : decode cX4_init 53 = .ok (.putfield 33, 3) := by decide +kernel
theorem dX4_init_56 : decode cX4_init 56 = .ok (.return_, 1) := by decide +kernel
set_option maxRecDepth 20000 in
theorem ggX4_set_X0_prepare : GoodIn wsX4_set wsX0_prepare := goodIn_r _ [7, 8, 9, 10, 11, 12, 13, 14, 15, 16, 17, 18, 19, 20, 21, 22, 23, 24, 25, 26, 27, 28, 29, 30, 31, 32, 33, 34, 35, 36, 37, 38, 39, 40, 41, 42, 43, 44, 45, 46, 47, 48, 49, 50, 51, 52, 53, 54, 55, 56, 57, 58, 74, 75, 76, 77, 78, 79, 80, 81, 82, 83, 84] (by decide +kernel) (by decide +kernel)
set_option maxRecDepth 20000 in
theorem gX4_set_X0_prepare : GoodIn wsX4_set (wsV RX4 37 RX0 yX0_prepare wsX0_prepare) := goodIn_app (goodIn_of _ (by decide +kernel)) ggX4_set_X0_prepare
set_option maxRecDepth 20000 in
theorem ggX4_set_X2_changeSetting : GoodIn wsX4_set wsX2_changeSetting := goodIn_r _ [62, 24, 63, 12, 64, 77, 78, 79, 80, 81, 82] (by decide +kernel) (by decide +kernel)
set_option maxRecDepth 20000 in
theorem gX4_set_X2_changeSetting : GoodIn wsX4_set (wsV RX4 41 RX2 yX2_changeSetting wsX2_changeSetting) := goodIn_app (goodIn_of _ (by decide +kernel)) ggX4_set_X2_changeSetting
set_option maxRecDepth 20000 in
theorem ggX4_set_X0_keepIfDone : GoodIn wsX4_set wsX0_keepIfDone := goodIn_r _ [68, 10, 9, 74, 75, 76] (by decide +kernel) (by decide +kernel)
set_option maxRecDepth 20000 in
theorem gX4_set_X0_keepIfDone : GoodIn wsX4_set (wsV RX4 45 RX0 yX0_keepIfDone wsX0_keepIfDone) := goodIn_app (goodIn_of _ (by decide +kernel)) ggX4_set_X0_keepIfDone
theorem dX4_set_0 : decode cX4_set 0 = .ok (.aload_n 0, 1) := by decide +kernel
theorem dX4_set_1 : decode cX4_set 1 = .ok (.getfield 26, 3) := by decide +kernel
theorem dX4_set_4 : decode cX4_set 4 = .ok (.aload_n 0, 1) := by decide +kernel
theorem dX4_set_5 : decode cX4_set 5 = .ok (.getfield 10, 3) := by decide +kernel
theorem dX4_set_8 : decode cX4_set 8 = .ok (.invokevirtual 37, 3) := by decide +kernel
theorem dX4_set_11 : decode cX4_set 11 = .ok (.aload_n 0, 1) := by decide +kernel
theorem dX4_set_12 : decode cX4_set 12 = .ok (.getfield 26, 3) := by decide +kernel
theorem dX4_set_15 : decode cX4_set 15 = .ok (.aload_n 0, 1) := by decide +kernel
theorem dX4_set_16 : decode cX4_set 16 = .ok (.getfield 10, 3) := by decide +kernel
theorem dX4_set_19 : decode cX4_set 19 = .ok (.iload_n 1, 1) := by decide +kernel
theorem dX4_set_20 : decode cX4_set 20 = .ok (.iload_n 2, 1) := by decide +kernel
theorem dX4_set_21 : decode cX4_set 21 = .ok (.invokevirtual 41, 3) := by decide +kernel
theorem dX4_set_24 : decode cX4_set 24 = .ok (.invokevirtual 45, 3) := by decide +kernel
theorem dX4_set_27 : decode cX4_set 27 = .ok (.ireturn, 1) := by decide +kernel
set_option maxRecDepth 20000 in
theorem ggX4_value_X0_prepare : GoodIn wsX4_value wsX0_prepare := goodIn_r _ [7, 8, 9, 10, 11, 12, 13, 14, 15, 16, 17, 18, 19, 20, 21, 22, 23, 24, 25, 26, 27, 28, 29, 30, 31, 32, 33, 34, 35, 36, 37, 38, 39, 40, 41, 42, 43, 44, 45, 46, 47, 48, 49, 50, 51, 52, 53, 54, 55, 56, 57, 58, 74, 75, 76, 77, 78, 79, 80, 81, 82, 83, 84] (by decide +kernel) (by decide +kernel)
set_option maxRecDepth 20000 in
theorem gX4_value_X0_prepare : GoodIn wsX4_value (wsV RX4 37 RX0 yX0_prepare wsX0_prepare) := goodIn_app (goodIn_of _ (by decide +kernel)) ggX4_value_X0_prepare
set_option maxRecDepth 20000 in
theorem ggX4_value_X2_changeValue : GoodIn wsX4_value wsX2_changeValue := goodIn_r _ [62, 25, 63, 12, 64, 77, 78, 79, 80, 81, 82] (by decide +kernel) (by decide +kernel)
set_option maxRecDepth 20000 in
theorem gX4_value_X2_changeValue : GoodIn wsX4_value (wsV RX4 49 RX2 yX2_changeValue wsX2_changeValue) := goodIn_app (goodIn_of _ (by decide +kernel)) ggX4_value_X2_changeValue
set_option maxRecDepth 20000 in
theorem ggX4_value_X0_keepIfDone : GoodIn wsX4_value wsX0_keepIfDone := goodIn_r _ [68, 10, 9, 74, 75, 76] (by decide +kernel) (by decide +kernel)
set_option maxRecDepth 20000 in
theorem gX4_value_X0_keepIfDone : GoodIn wsX4_value (wsV RX4 45 RX0 yX0_keepIfDone wsX0_keepIfDone) := goodIn_app (goodIn_of _ (by decide +kernel)) ggX4_value_X0_keepIfDone
theorem dX4_value_0 : decode cX4_value 0 = .ok (.aload_n 0, 1) := by decide +kernel
theorem dX4_value_1 : decode cX4_value 1 = .ok (.getfield 26, 3) := by decide +kernel
theorem dX4_value_4 : decode cX4_value 4 = .ok (.aload_n 0, 1) := by decide +kernel
theorem dX4_value_5 : decode cX4_value 5 = .ok (.getfield 10, 3) := by decide +kernel
theorem dX4_value_8 : decode cX4_value 8 = .ok (.invokevirtual 37, 3) := by decide +kernel
theorem dX4_value_11 : decode cX4_value 11 = .ok (.aload_n 0, 1) := by decide +kernel
theorem dX4_value_12 : decode cX4_value 12 = .ok (.getfield 26, 3) := by decide +kernel
theorem dX4_value_15 : decode cX4_value 15 = .ok (.aload_n 0, 1) := by decide +kernel
theorem dX4_value_16 : decode cX4_value 16 = .ok (.getfield 10, 3) := by decide +kernel
theorem dX4_value_19 : decode cX4_value 19 = .ok (.iload_n 1, 1) := by decide +kernel
theorem dX4_value_20 : decode cX4_value 20 = .ok (.iload_n 2, 1) := by decide +kernel
theorem dX4_value_21 : decode cX4_value 21 = .ok (.invokevirtual 49, 3) := by decide +kernel
theorem dX4_value_24 : decode cX4_value 24 = .ok (.invokevirtual 45, 3) := by decide +kernel
theorem dX4_value_27 : decode cX4_value 27 = .ok (.ireturn, 1) := by decide +kernel
set_option maxRecDepth 20000 in
theorem ggX4_slip_X0_prepare : GoodIn wsX4_slip wsX0_prepare := goodIn_r _ [7, 8, 9, 10, 11, 12, 13, 14, 15, 16, 17, 18, 19, 20, 21, 22, 23, 24, 25, 26, 27, 28, 29, 30, 31, 32, 33, 34, 35, 36, 37, 38, 39, 40, 41, 42, 43, 44, 45, 46, 47, 48, 49, 50, 51, 52, 53, 54, 55, 56, 57, 58, 74, 75, 76, 77, 78, 79, 80, 81, 82, 83, 84] (by decide +kernel) (by decide +kernel)
set_option maxRecDepth 20000 in
theorem gX4_slip_X0_prepare : GoodIn wsX4_slip (wsV RX4 37 RX0 yX0_prepare wsX0_prepare) := goodIn_app (goodIn_of _ (by decide +kernel)) ggX4_slip_X0_prepare
set_option maxRecDepth 20000 in
theorem ggX4_slip_X2_delayClock : GoodIn wsX4_slip wsX2_delayClock := goodIn_r _ [62, 24, 63, 12, 64, 77, 78, 79, 80, 81, 82] (by decide +kernel) (by decide +kernel)
set_option maxRecDepth 20000 in
theorem gX4_slip_X2_delayClock : GoodIn wsX4_slip (wsV RX4 52 RX2 yX2_delayClock wsX2_delayClock) := goodIn_app (goodIn_of _ (by decide +kernel)) ggX4_slip_X2_delayClock
set_option maxRecDepth 20000 in
theorem ggX4_slip_X0_keepIfDone : GoodIn wsX4_slip wsX0_keepIfDone := goodIn_r _ [68, 10, 9, 74, 75, 76] (by decide +kernel) (by decide +kernel)
set_option maxRecDepth 20000 in
theorem gX4_slip_X0_keepIfDone : GoodIn wsX4_slip (wsV RX4 45 RX0 yX0_keepIfDone wsX0_keepIfDone) := goodIn_app (goodIn_of _ (by decide +kernel)) ggX4_slip_X0_keepIfDone
theorem dX4_slip_0 : decode cX4_slip 0 = .ok (.aload_n 0, 1) := by decide +kernel
theorem dX4_slip_1 : decode cX4_slip 1 = .ok (.getfield 26, 3) := by decide +kernel
theorem dX4_slip_4 : decode cX4_slip 4 = .ok (.aload_n 0, 1) := by decide +kernel
theorem dX4_slip_5 : decode cX4_slip 5 = .ok (.getfield 10, 3) := by decide +kernel
theorem dX4_slip_8 : decode cX4_slip 8 = .ok (.invokevirtual 37, 3) := by decide +kernel
theorem dX4_slip_11 : decode cX4_slip 11 = .ok (.aload_n 0, 1) := by decide +kernel
theorem dX4_slip_12 : decode cX4_slip 12 = .ok (.getfield 26, 3) := by decide +kernel
theorem dX4_slip_15 : decode cX4_slip 15 = .ok (.aload_n 0, 1) := by decide +kernel
theorem dX4_slip_16 : decode cX4_slip 16 = .ok (.getfield 10, 3) := by decide +kernel
theorem dX4_slip_19 : decode cX4_slip 19 = .ok (.iload_n 1, 1) := by decide +kernel
theorem dX4_slip_20 : decode cX4_slip 20 = .ok (.iload_n 2, 1) := by decide +kernel
theorem dX4_slip_21 : decode cX4_slip 21 = .ok (.invokevirtual 52, 3) := by decide +kernel
theorem dX4_slip_24 : decode cX4_slip 24 = .ok (.invokevirtual 45, 3) := by decide +kernel
theorem dX4_slip_27 : decode cX4_slip 27 = .ok (.ireturn, 1) := by decide +kernel
set_option maxRecDepth 20000 in
theorem ggX4_pass_X0_prepare : GoodIn wsX4_pass wsX0_prepare := goodIn_r _ [8, 9, 10, 11, 12, 13, 14, 15, 16, 17, 18, 19, 20, 21, 22, 23, 24, 25, 26, 27, 28, 29, 30, 31, 32, 33, 34, 35, 36, 37, 38, 39, 40, 41, 42, 43, 44, 45, 46, 47, 48, 49, 50, 51, 52, 53, 54, 55, 56, 57, 58, 59, 133, 134, 135, 136, 137, 138, 139, 140, 141, 142, 143] (by decide +kernel) (by decide +kernel)
set_option maxRecDepth 20000 in
theorem gX4_pass_X0_prepare : GoodIn wsX4_pass (wsV RX4 37 RX0 yX0_prepare wsX0_prepare) := goodIn_app (goodIn_of _ (by decide +kernel)) ggX4_pass_X0_prepare
set_option maxRecDepth 20000 in
theorem ggX4_pass_X2_passTicks : GoodIn wsX4_pass wsX2_passTicks := goodIn_r _ [63, 25, 64, 57, 40, 58, 65, 39, 41, 51, 66, 13, 67, 68, 69, 70, 17, 71, 72, 73, 74, 75, 26, 30, 76, 77, 78, 79, 80, 81, 82, 29, 83, 37, 42, 84, 85, 86, 87, 88, 89, 90, 91, 92, 93, 94, 95, 32, 96, 97, 98, 99, 59, 48, 49, 50, 100, 101, 102, 103, 104, 105, 106, 107, 108, 109, 110, 111, 112, 113, 114, 115, 31, 116, 117, 118, 119, 120, 121, 122, 123, 136, 137, 138, 139, 140, 141, 142, 143] (by decide +kernel) (by decide +kernel)
set_option maxRecDepth 20000 in
theorem gX4_pass_X2_passTicks : GoodIn wsX4_pass (wsV RX4 56 RX2 yX2_passTicks wsX2_passTicks) := goodIn_app (goodIn_of _ (by decide +kernel)) ggX4_pass_X2_passTicks
set_option maxRecDepth 20000 in
theorem ggX4_pass_X0_keepIfDone : GoodIn wsX4_pass wsX0_keepIfDone := goodIn_r _ [127, 11, 10, 133, 134, 135] (by decide +kernel) (by decide +kernel)
set_option maxRecDepth 20000 in
theorem gX4_pass_X0_keepIfDone : GoodIn wsX4_pass (wsV RX4 45 RX0 yX0_keepIfDone wsX0_keepIfDone) := goodIn_app (goodIn_of _ (by decide +kernel)) ggX4_pass_X0_keepIfDone
theorem dX4_pass_0 : decode cX4_pass 0 = .ok (.aload_n 0, 1) := by decide +kernel
theorem dX4_pass_1 : decode cX4_pass 1 = .ok (.getfield 26, 3) := by decide +kernel
theorem dX4_pass_4 : decode cX4_pass 4 = .ok (.aload_n 0, 1) := by decide +kernel
theorem dX4_pass_5 : decode cX4_pass 5 = .ok (.getfield 10, 3) := by decide +kernel
theorem dX4_pass_8 : decode cX4_pass 8 = .ok (.invokevirtual 37, 3) := by decide +kernel
theorem dX4_pass_11 : decode cX4_pass 11 = .ok (.aload_n 0, 1) := by decide +kernel
theorem dX4_pass_12 : decode cX4_pass 12 = .ok (.getfield 26, 3) := by decide +kernel
theorem dX4_pass_15 : decode cX4_pass 15 = .ok (.aload_n 0, 1) := by decide +kernel
theorem dX4_pass_16 : decode cX4_pass 16 = .ok (.getfield 10, 3) := by decide +kernel
theorem dX4_pass_19 : decode cX4_pass 19 = .ok (.iload_n 1, 1) := by decide +kernel
theorem dX4_pass_20 : decode cX4_pass 20 = .ok (.ldc 55, 2) := by decide +kernel
theorem dX4_pass_22 : decode cX4_pass 22 = .ok (.invokevirtual 56, 3) := by decide +kernel
theorem dX4_pass_25 : decode cX4_pass 25 = .ok (.invokevirtual 45, 3) := by decide +kernel
theorem dX4_pass_28 : decode cX4_pass 28 = .ok (.ireturn, 1) := by decide +kernel
set_option maxRecDepth 20000 in
theorem ggX4_flush_X0_prepare : GoodIn wsX4_flush wsX0_prepare := goodIn_r _ [7, 8, 9, 10, 11, 12, 13, 14, 15, 16, 17, 18, 19, 20, 21, 22, 23, 24, 25, 26, 27, 28, 29, 30, 31, 32, 33, 34, 35, 36, 37, 38, 39, 40, 41, 42, 43, 44, 45, 46, 47, 48, 49, 50, 51, 52, 53, 54, 55, 56, 57, 58, 88, 89, 90, 91, 92, 93, 94, 95, 96, 97, 98] (by decide +kernel) (by decide +kernel)
set_option maxRecDepth 20000 in
theorem gX4_flush_X0_prepare : GoodIn wsX4_flush (wsV RX4 37 RX0 yX0_prepare wsX0_prepare) := goodIn_app (goodIn_of _ (by decide +kernel)) ggX4_flush_X0_prepare
set_option maxRecDepth 20000 in
theorem ggX4_flush_X2_skipAll : GoodIn wsX4_flush wsX2_skipAll := goodIn_r _ [62, 24, 63, 64, 65, 16, 66, 31, 29, 67, 68, 69, 28, 70, 36, 41, 71, 72, 73, 74, 75, 76, 77, 78, 58, 47, 48, 49, 91, 92, 93, 94, 95, 96, 97, 98] (by decide +kernel) (by decide +kernel)
set_option maxRecDepth 20000 in
theorem gX4_flush_X2_skipAll : GoodIn wsX4_flush (wsV RX4 59 RX2 yX2_skipAll wsX2_skipAll) := goodIn_app (goodIn_of _ (by decide +kernel)) ggX4_flush_X2_skipAll
set_option maxRecDepth 20000 in
theorem ggX4_flush_X0_keepIfDone : GoodIn wsX4_flush wsX0_keepIfDone := goodIn_r _ [82, 10, 9, 88, 89, 90] (by decide +kernel) (by decide +kernel)
set_option maxRecDepth 20000 in
theorem gX4_flush_X0_keepIfDone : GoodIn wsX4_flush (wsV RX4 45 RX0 yX0_keepIfDone wsX0_keepIfDone) := goodIn_app (goodIn_of _ (by decide +kernel)) ggX4_flush_X0_keepIfDone
theorem dX4_flush_0 : decode cX4_flush 0 = .ok (.aload_n 0, 1) := by decide +kernel
theorem dX4_flush_1 : decode cX4_flush 1 = .ok (.getfield 26, 3) := by decide +kernel
theorem dX4_flush_4 : decode cX4_flush 4 = .ok (.aload_n 0, 1) := by decide +kernel
theorem dX4_flush_5 : decode cX4_flush 5 = .ok (.getfield 10, 3) := by decide +kernel
theorem dX4_flush_8 : decode cX4_flush 8 = .ok (.invokevirtual 37, 3) := by decide +kernel
theorem dX4_flush_11 : decode cX4_flush 11 = .ok (.aload_n 0, 1) := by decide +kernel
theorem dX4_flush_12 : decode cX4_flush 12 = .ok (.getfield 26, 3) := by decide +kernel
theorem dX4_flush_15 : decode cX4_flush 15 = .ok (.aload_n 0, 1) := by decide +kernel
theorem dX4_flush_16 : decode cX4_flush 16 = .ok (.getfield 10, 3) := by decide +kernel
theorem dX4_flush_19 : decode cX4_flush 19 = .ok (.invokevirtual 59, 3) := by decide +kernel
theorem dX4_flush_22 : decode cX4_flush 22 = .ok (.invokevirtual 45, 3) := by decide +kernel
theorem dX4_flush_25 : decode cX4_flush 25 = .ok (.ireturn, 1) := by decide +kernel
set_option maxRecDepth 20000 in
theorem ggX4_waiting_X4_isWithin : GoodIn wsX4_waiting wsX4_isWithin := goodIn_r _ [5] (by decide +kernel) (by decide +kernel)
set_option maxRecDepth 20000 in
theorem gX4_waiting_X4_isWithin : GoodIn wsX4_waiting (va_wsS RX4 67 yX4_isWithin wsX4_isWithin) := goodIn_app (goodIn_of _ (by decide +kernel)) ggX4_waiting_X4_isWithin
set_option maxRecDepth 20000 in
theorem ggX4_waiting_X3_read : GoodIn wsX4_waiting wsX3_read := goodIn_r _ [10, 11, 12, 24, 25] (by decide +kernel) (by decide +kernel)
set_option maxRecDepth 20000 in
theorem gX4_waiting_X3_read : GoodIn wsX4_waiting (wsV RX4 75 RX3 yX3_read wsX3_read) := goodIn_app (goodIn_of _ (by decide +kernel)) ggX4_waiting_X3_read
theorem dX4_waiting_0 : decode cX4_waiting 0 = .ok (.iload_n 1, 1) := by decide +kernel
theorem dX4_waiting_1 : decode cX4_waiting 1 = .ok (.ifCond .lt 16, 3) := by decide +kernel
theorem dX4_waiting_4 : decode cX4_waiting 4 = .ok (.iload_n 1, 1) := by decide +kernel
theorem dX4_waiting_5 : decode cX4_waiting 5 = .ok (.aload_n 0, 1) := by decide +kernel
theorem dX4_waiting_6 : decode cX4_waiting 6 = .ok (.getfield 10, 3) := by decide +kernel
theorem dX4_waiting_9 : decode cX4_waiting 9 = .ok (.getfield 63, 3) := by decide +kernel
theorem dX4_waiting_12 : decode cX4_waiting 12 = .ok (.iconst 2, 1) := by decide +kernel
theorem dX4_waiting_13 : decode cX4_waiting 13 = .ok (.iaload, 1) := by decide +kernel
theorem dX4_waiting_14 : decode cX4_waiting 14 = .ok (.if_icmp .lt 5, 3) := by decide +kernel
theorem dX4_waiting_17 : decode cX4_waiting 17 = .ok (.iconst (-1), 1) := by decide +kernel
theorem dX4_waiting_18 : decode cX4_waiting 18 = .ok (.ireturn, 1) := by decide +kernel
theorem dX4_waiting_19 : decode cX4_waiting 19 = .ok (.iload_n 2, 1) := by decide +kernel
theorem dX4_waiting_20 : decode cX4_waiting 20 = .ok (.iconst 0, 1) := by decide +kernel
theorem dX4_waiting_21 : decode cX4_waiting 21 = .ok (.iconst 3, 1) := by decide +kernel
theorem dX4_waiting_22 : decode cX4_waiting 22 = .ok (.invokestatic 67, 3) := by decide +kernel
theorem dX4_waiting_25 : decode cX4_waiting 25 = .ok (.ifCond .eq 18, 3) := by decide +kernel
theorem dX4_waiting_28 : decode cX4_waiting 28 = .ok (.aload_n 0, 1) := by decide +kernel
theorem dX4_waiting_29 : decode cX4_waiting 29 = .ok (.getfield 10, 3) := by decide +kernel
theorem dX4_waiting_32 : decode cX4_waiting 32 = .ok (.getfield 71, 3) := by decide +kernel
theorem dX4_waiting_35 : decode cX4_waiting 35 = .ok (.iload_n 1, 1) := by decide +kernel
theorem dX4_waiting_36 : decode cX4_waiting 36 = .ok (.iload_n 2, 1) := by decide +kernel
theorem dX4_waiting_37 : decode cX4_waiting 37 = .ok (.invokevirtual 75, 3) := by decide +kernel
theorem dX4_waiting_40 : decode cX4_waiting 40 = .ok (.goto 5, 3) := by decide +kernel
theorem dX4_waiting_43 : decode cX4_waiting 43 = .ok (.bipush (-2), 2) := by decide +kernel
theorem dX4_waiting_45 : decode cX4_waiting 45 = .ok (.ireturn, 1) := by decide +kernel
set_option maxRecDepth 20000 in
theorem ggX4_row_X2_rowsOfScreen : GoodIn wsX4_row wsX2_rowsOfScreen := goodIn_r _ [6, 7, 8, 9, 5, 10, 11, 12, 13, 14, 28, 29, 30, 31, 32, 33] (by decide +kernel) (by decide +kernel)
set_option maxRecDepth 20000 in
theorem gX4_row_X2_rowsOfScreen : GoodIn wsX4_row (wsV RX4 80 RX2 yX2_rowsOfScreen wsX2_rowsOfScreen) := goodIn_app (goodIn_of _ (by decide +kernel)) ggX4_row_X2_rowsOfScreen
set_option maxRecDepth 20000 in
theorem ggX4_row_X4_isWithin : GoodIn wsX4_row wsX4_isWithin := goodIn_r _ [14] (by decide +kernel) (by decide +kernel)
set_option maxRecDepth 20000 in
theorem gX4_row_X4_isWithin : GoodIn wsX4_row (va_wsS RX4 67 yX4_isWithin wsX4_isWithin) := goodIn_app (goodIn_of _ (by decide +kernel)) ggX4_row_X4_isWithin
set_option maxRecDepth 20000 in
theorem ggX4_row_X3_read : GoodIn wsX4_row wsX3_read := goodIn_r _ [20, 21, 22, 34, 35] (by decide +kernel) (by decide +kernel)
set_option maxRecDepth 20000 in
theorem gX4_row_X3_read : GoodIn wsX4_row (wsV RX4 75 RX3 yX3_read wsX3_read) := goodIn_app (goodIn_of _ (by decide +kernel)) ggX4_row_X3_read
theorem dX4_row_0 : decode cX4_row 0 = .ok (.iload_n 1, 1) := by decide +kernel
theorem dX4_row_1 : decode cX4_row 1 = .ok (.ifCond .lt 14, 3) := by decide +kernel
theorem dX4_row_4 : decode cX4_row 4 = .ok (.iload_n 1, 1) := by decide +kernel
theorem dX4_row_5 : decode cX4_row 5 = .ok (.aload_n 0, 1) := by decide +kernel
theorem dX4_row_6 : decode cX4_row 6 = .ok (.getfield 10, 3) := by decide +kernel
theorem dX4_row_9 : decode cX4_row 9 = .ok (.invokevirtual 80, 3) := by decide +kernel
theorem dX4_row_12 : decode cX4_row 12 = .ok (.if_icmp .lt 5, 3) := by decide +kernel
theorem dX4_row_15 : decode cX4_row 15 = .ok (.iconst (-1), 1) := by decide +kernel
theorem dX4_row_16 : decode cX4_row 16 = .ok (.ireturn, 1) := by decide +kernel
theorem dX4_row_17 : decode cX4_row 17 = .ok (.iload_n 2, 1) := by decide +kernel
theorem dX4_row_18 : decode cX4_row 18 = .ok (.iconst 0, 1) := by decide +kernel
theorem dX4_row_19 : decode cX4_row 19 = .ok (.iconst 2, 1) := by decide +kernel
theorem dX4_row_20 : decode cX4_row 20 = .ok (.invokestatic 67, 3) := by decide +kernel
theorem dX4_row_23 : decode cX4_row 23 = .ok (.ifCond .eq 18, 3) := by decide +kernel
theorem dX4_row_26 : decode cX4_row 26 = .ok (.aload_n 0, 1) := by decide +kernel
theorem dX4_row_27 : decode cX4_row 27 = .ok (.getfield 10, 3) := by decide +kernel
theorem dX4_row_30 : decode cX4_row 30 = .ok (.getfield 83, 3) := by decide +kernel
theorem dX4_row_33 : decode cX4_row 33 = .ok (.iload_n 1, 1) := by decide +kernel
theorem dX4_row_34 : decode cX4_row 34 = .ok (.iload_n 2, 1) := by decide +kernel
theorem dX4_row_35 : decode cX4_row 35 = .ok (.invokevirtual 75, 3) := by decide +kernel
theorem dX4_row_38 : decode cX4_row 38 = .ok (.goto 5, 3) := by decide +kernel
theorem dX4_row_41 : decode cX4_row 41 = .ok (.bipush (-2), 2) := by decide +kernel
theorem dX4_row_43 : decode cX4_row 43 = .ok (.ireturn, 1) := by decide +kernel
set_option maxRecDepth 20000 in
theorem ggX4_ofMissing_X4_isWithin : GoodIn wsX4_ofMissing wsX4_isWithin := goodIn_r _ [9] (by decide +kernel) (by decide +kernel)
set_option maxRecDepth 20000 in
theorem gX4_ofMissing_X4_isWithin : GoodIn wsX4_ofMissing (va_wsS RX4 67 yX4_isWithin wsX4_isWithin) := goodIn_app (goodIn_of _ (by decide +kernel)) ggX4_ofMissing_X4_isWithin
set_option maxRecDepth 20000 in
theorem ggX4_ofMissing_X3_read : GoodIn wsX4_ofMissing wsX3_read := goodIn_r _ [14, 15, 16, 28, 29] (by decide +kernel) (by decide +kernel)
set_option maxRecDepth 20000 in
theorem gX4_ofMissing_X3_read : GoodIn wsX4_ofMissing (wsV RX4 75 RX3 yX3_read wsX3_read) := goodIn_app (goodIn_of _ (by decide +kernel)) ggX4_ofMissing_X3_read
theorem dX4_ofMissing_0 : decode cX4_ofMissing 0 = .ok (.iload_n 1, 1) := by decide +kernel
theorem dX4_ofMissing_1 : decode cX4_ofMissing 1 = .ok (.ifCond .lt 21, 3) := by decide +kernel
theorem dX4_ofMissing_4 : decode cX4_ofMissing 4 = .ok (.iload_n 1, 1) := by decide +kernel
theorem dX4_ofMissing_5 : decode cX4_ofMissing 5 = .ok (.bipush 8, 2) := by decide +kernel
theorem dX4_ofMissing_7 : decode cX4_ofMissing 7 = .ok (.aload_n 0, 1) := by decide +kernel
theorem dX4_ofMissing_8 : decode cX4_ofMissing 8 = .ok (.getfield 10, 3) := by decide +kernel
theorem dX4_ofMissing_11 : decode cX4_ofMissing 11 = .ok (.getfield 63, 3) := by decide +kernel
theorem dX4_ofMissing_14 : decode cX4_ofMissing 14 = .ok (.iconst 4, 1) := by decide +kernel
theorem dX4_ofMissing_15 : decode cX4_ofMissing 15 = .ok (.iaload, 1) := by decide +kernel
theorem dX4_ofMissing_16 : decode cX4_ofMissing 16 = .ok (.invokestatic 86, 3) := by decide +kernel
theorem dX4_ofMissing_19 : decode cX4_ofMissing 19 = .ok (.if_icmp .lt 5, 3) := by decide +kernel
theorem dX4_ofMissing_22 : decode cX4_ofMissing 22 = .ok (.iconst (-1), 1) := by decide +kernel
theorem dX4_ofMissing_23 : decode cX4_ofMissing 23 = .ok (.ireturn, 1) := by decide +kernel
theorem dX4_ofMissing_24 : decode cX4_ofMissing 24 = .ok (.iload_n 2, 1) := by decide +kernel
theorem dX4_ofMissing_25 : decode cX4_ofMissing 25 = .ok (.iconst 0, 1) := by decide +kernel
theorem dX4_ofMissing_26 : decode cX4_ofMissing 26 = .ok (.iconst 3, 1) := by decide +kernel
theorem dX4_ofMissing_27 : decode cX4_ofMissing 27 = .ok (.invokestatic 67, 3) := by decide +kernel
theorem dX4_ofMissing_30 : decode cX4_ofMissing 30 = .ok (.ifCond .ne 6, 3) := by decide +kernel
theorem dX4_ofMissing_33 : decode cX4_ofMissing 33 = .ok (.bipush (-2), 2) := by decide +kernel
theorem dX4_ofMissing_35 : decode cX4_ofMissing 35 = .ok (.ireturn, 1) := by decide +kernel
theorem dX4_ofMissing_36 : decode cX4_ofMissing 36 = .ok (.aload_n 0, 1) := by decide +kernel
theorem dX4_ofMissing_37 : decode cX4_ofMissing 37 = .ok (.getfield 10, 3) := by decide +kernel
theorem dX4_ofMissing_40 : decode cX4_ofMissing 40 = .ok (.getfield 91, 3) := by decide +kernel
theorem dX4_ofMissing_43 : decode cX4_ofMissing 43 = .ok (.aload_n 0, 1) := by decide +kernel
theorem dX4_ofMissing_44 : decode cX4_ofMissing 44 = .ok (.getfield 10, 3) := by decide +kernel
theorem dX4_ofMissing_47 : decode cX4_ofMissing 47 = .ok (.getfield 63, 3) := by decide +kernel
theorem dX4_ofMissing_50 : decode cX4_ofMissing 50 = .ok (.iconst 4, 1) := by decide +kernel
theorem dX4_ofMissing_51 : decode cX4_ofMissing 51 = .ok (.iaload, 1) := by decide +kernel
theorem dX4_ofMissing_52 : decode cX4_ofMissing 52 = .ok (.iconst 1, 1) := by decide +kernel
theorem dX4_ofMissing_53 : decode cX4_ofMissing 53 = .ok (.isub, 1) := by decide +kernel
theorem dX4_ofMissing_54 : decode cX4_ofMissing 54 = .ok (.iload_n 1, 1) := by decide +kernel
theorem dX4_ofMissing_55 : decode cX4_ofMissing 55 = .ok (.isub, 1) := by decide +kernel
theorem dX4_ofMissing_56 : decode cX4_ofMissing 56 = .ok (.bipush 8, 2) := by decide +kernel
theorem dX4_ofMissing_58 : decode cX4_ofMissing 58 = .ok (.irem, 1) := by decide +kernel
theorem dX4_ofMissing_59 : decode cX4_ofMissing 59 = .ok (.iload_n 2, 1) := by decide +kernel
theorem dX4_ofMissing_60 : decode cX4_ofMissing 60 = .ok (.invokevirtual 75, 3) := by decide +kernel
theorem dX4_ofMissing_63 : decode cX4_ofMissing 63 = .ok (.ireturn, 1) := by decide +kernel
set_option maxRecDepth 20000 in
theorem ggX4_count_X4_isWithin : GoodIn wsX4_count wsX4_isWithin := goodIn_r _ [7] (by decide +kernel) (by decide +kernel)
set_option maxRecDepth 20000 in
theorem gX4_count_X4_isWithin : GoodIn wsX4_count (va_wsS RX4 67 yX4_isWithin wsX4_isWithin) := goodIn_app (goodIn_of _ (by decide +kernel)) ggX4_count_X4_isWithin
theorem dX4_count_0 : decode cX4_count 0 = .ok (.iload_n 1, 1) := by decide +kernel
theorem dX4_count_1 : decode cX4_count 1 = .ok (.bipush 24, 2) := by decide +kernel
theorem dX4_count_3 : decode cX4_count 3 = .ok (.if_icmp .ne 11, 3) := by decide +kernel
theorem dX4_count_6 : decode cX4_count 6 = .ok (.aload_n 0, 1) := by decide +kernel
theorem dX4_count_7 : decode cX4_count 7 = .ok (.getfield 33, 3) := by decide +kernel
theorem dX4_count_10 : decode cX4_count 10 = .ok (.getfield 94, 3) := by decide +kernel
theorem dX4_count_13 : decode cX4_count 13 = .ok (.ireturn, 1) := by decide +kernel
theorem dX4_count_14 : decode cX4_count 14 = .ok (.iload_n 1, 1) := by decide +kernel
theorem dX4_count_15 : decode cX4_count 15 = .ok (.bipush 25, 2) := by decide +kernel
theorem dX4_count_17 : decode cX4_count 17 = .ok (.if_icmp .ne 11, 3) := by decide +kernel
theorem dX4_count_20 : decode cX4_count 20 = .ok (.aload_n 0, 1) := by decide +kernel
theorem dX4_count_21 : decode cX4_count 21 = .ok (.getfield 26, 3) := by decide +kernel
theorem dX4_count_24 : decode cX4_count 24 = .ok (.getfield 98, 3) := by decide +kernel
theorem dX4_count_27 : decode cX4_count 27 = .ok (.ireturn, 1) := by decide +kernel
theorem dX4_count_28 : decode cX4_count 28 = .ok (.iload_n 1, 1) := by decide +kernel
theorem dX4_count_29 : decode cX4_count 29 = .ok (.iconst 0, 1) := by decide +kernel
theorem dX4_count_30 : decode cX4_count 30 = .ok (.bipush 23, 2) := by decide +kernel
theorem dX4_count_32 : decode cX4_count 32 = .ok (.invokestatic 67, 3) := by decide +kernel
theorem dX4_count_35 : decode cX4_count 35 = .ok (.ifCond .eq 15, 3) := by decide +kernel
theorem dX4_count_38 : decode cX4_count 38 = .ok (.aload_n 0, 1) := by decide +kernel
theorem dX4_count_39 : decode cX4_count 39 = .ok (.getfield 10, 3) := by decide +kernel
theorem dX4_count_42 : decode cX4_count 42 = .ok (.getfield 63, 3) := by decide +kernel
theorem dX4_count_45 : decode cX4_count 45 = .ok (.iload_n 1, 1) := by decide +kernel
theorem dX4_count_46 : decode cX4_count 46 = .ok (.iaload, 1) := by decide +kernel
theorem dX4_count_47 : decode cX4_count 47 = .ok (.goto 5, 3) := by decide +kernel
theorem dX4_count_50 : decode cX4_count 50 = .ok (.bipush (-2), 2) := by decide +kernel
theorem dX4_count_52 : decode cX4_count 52 = .ok (.ireturn, 1) := by decide +kernel
set_option maxRecDepth 20000 in
theorem ggX4_shown_X2_rowsOfScreen : GoodIn wsX4_shown wsX2_rowsOfScreen := goodIn_r _ [6, 7, 8, 9, 5, 10, 11, 12, 13, 14, 27, 28, 29, 30, 31, 32] (by decide +kernel) (by decide +kernel)
set_option maxRecDepth 20000 in
theorem gX4_shown_X2_rowsOfScreen : GoodIn wsX4_shown (wsV RX4 80 RX2 yX2_rowsOfScreen wsX2_rowsOfScreen) := goodIn_app (goodIn_of _ (by decide +kernel)) ggX4_shown_X2_rowsOfScreen
set_option maxRecDepth 20000 in
theorem ggX4_shown_X3_read : GoodIn wsX4_shown wsX3_read := goodIn_r _ [19, 20, 21, 33, 34] (by decide +kernel) (by decide +kernel)
set_option maxRecDepth 20000 in
theorem gX4_shown_X3_read : GoodIn wsX4_shown (wsV RX4 75 RX3 yX3_read wsX3_read) := goodIn_app (goodIn_of _ (by decide +kernel)) ggX4_shown_X3_read
theorem dX4_shown_0 : decode cX4_shown 0 = .ok (.aload_n 0, 1) := by decide +kernel
theorem dX4_shown_1 : decode cX4_shown 1 = .ok (.getfield 10, 3) := by decide +kernel
theorem dX4_shown_4 : decode cX4_shown 4 = .ok (.invokevirtual 80, 3) := by decide +kernel
theorem dX4_shown_7 : decode cX4_shown 7 = .ok (.istore_n 1, 1) := by decide +kernel
theorem dX4_shown_8 : decode cX4_shown 8 = .ok (.iconst 0, 1) := by decide +kernel
theorem dX4_shown_9 : decode cX4_shown 9 = .ok (.istore_n 2, 1) := by decide +kernel
theorem dX4_shown_10 : decode cX4_shown 10 = .ok (.iload_n 2, 1) := by decide +kernel
theorem dX4_shown_11 : decode cX4_shown 11 = .ok (.iload_n 1, 1) := by decide +kernel
theorem dX4_shown_12 : decode cX4_shown 12 = .ok (.if_icmp .ge 26, 3) := by decide +kernel
theorem dX4_shown_15 : decode cX4_shown 15 = .ok (.aload_n 0, 1) := by decide +kernel
theorem dX4_shown_16 : decode cX4_shown 16 = .ok (.getfield 10, 3) := by decide +kernel
theorem dX4_shown_19 : decode cX4_shown 19 = .ok (.getfield 83, 3) := by decide +kernel
theorem dX4_shown_22 : decode cX4_shown 22 = .ok (.iload_n 2, 1) := by decide +kernel
theorem dX4_shown_23 : decode cX4_shown 23 = .ok (.iconst 1, 1) := by decide +kernel
theorem dX4_shown_24 : decode cX4_shown 24 = .ok (.invokevirtual 75, 3) := by decide +kernel
theorem dX4_shown_27 : decode cX4_shown 27 = .ok (.bipush (-6), 2) := by decide +kernel
theorem dX4_shown_29 : decode cX4_shown 29 = .ok (.if_icmp .eq 9, 3) := by decide +kernel
theorem dX4_shown_32 : decode cX4_shown 32 = .ok (.iinc 2 1, 3) := by decide +kernel
theorem dX4_shown_35 : decode cX4_shown 35 = .ok (.goto (-25), 3) := by decide +kernel
theorem dX4_shown_38 : decode cX4_shown 38 = .ok (.iload_n 2, 1) := by decide +kernel
theorem dX4_shown_39 : decode cX4_shown 39 = .ok (.ireturn, 1) := by decide +kernel
set_option maxRecDepth 20000 in
theorem ggX4_would_X4_isWithin : GoodIn wsX4_would wsX4_isWithin := goodIn_r _ [7] (by decide +kernel) (by decide +kernel)
set_option maxRecDepth 20000 in
theorem gX4_would_X4_isWithin : GoodIn wsX4_would (va_wsS RX4 67 yX4_isWithin wsX4_isWithin) := goodIn_app (goodIn_of _ (by decide +kernel)) ggX4_would_X4_isWithin
set_option maxRecDepth 20000 in
theorem ggX4_would_X2_copyFrom : GoodIn wsX4_would wsX2_copyFrom := goodIn_r _ [12, 13, 14, 15, 16, 17, 18, 19, 20, 21, 22, 23, 24, 25, 26, 27, 28, 29, 30, 31, 32, 33, 108, 109, 110, 111, 112, 113, 114, 115] (by decide +kernel) (by decide +kernel)
set_option maxRecDepth 20000 in
theorem gX4_would_X2_copyFrom : GoodIn wsX4_would (wsV RX4 111 RX2 yX2_copyFrom wsX2_copyFrom) := goodIn_app (goodIn_of _ (by decide +kernel)) ggX4_would_X2_copyFrom
set_option maxRecDepth 20000 in
theorem ggX4_would_X2_passTicks : GoodIn wsX4_would wsX2_passTicks := goodIn_r _ [37, 13, 38, 30, 31, 32, 39, 40, 41, 22, 5, 6, 7, 42, 43, 44, 11, 45, 46, 47, 48, 49, 18, 19, 50, 51, 52, 53, 54, 55, 56, 26, 57, 58, 28, 59, 60, 61, 62, 63, 64, 65, 66, 67, 68, 69, 70, 21, 71, 72, 73, 74, 33, 15, 16, 17, 75, 76, 77, 78, 79, 80, 81, 82, 83, 84, 85, 86, 87, 88, 89, 90, 20, 91, 92, 93, 94, 95, 96, 97, 98, 108, 109, 110, 111, 112, 113, 114, 115] (by decide +kernel) (by decide +kernel)
set_option maxRecDepth 20000 in
theorem gX4_would_X2_passTicks : GoodIn wsX4_would (wsV RX4 56 RX2 yX2_passTicks wsX2_passTicks) := goodIn_app (goodIn_of _ (by decide +kernel)) ggX4_would_X2_passTicks
set_option maxRecDepth 20000 in
theorem ggX4_would_X4_gainOf : GoodIn wsX4_would wsX4_gainOf := goodIn_r _ [102, 1, 2, 4, 5, 6, 7, 103, 104, 105, 106, 107, 108, 109, 110, 111, 112, 113] (by decide +kernel) (by decide +kernel)
set_option maxRecDepth 20000 in
theorem gX4_would_X4_gainOf : GoodIn wsX4_would (wsV RX4 115 RX4 yX4_gainOf wsX4_gainOf) := goodIn_app (goodIn_of _ (by decide +kernel)) ggX4_would_X4_gainOf
