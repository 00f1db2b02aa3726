theorem dX3_read_0 : decode cX3_read 0 = .ok (.iload_n 1, 1) := by decide +kernel
theorem dX3_read_1 : decode cX3_read 1 = .ok (.aload_n 0, 1) := by decide +kernel
theorem dX3_read_2 : decode cX3_read 2 = .ok (.getfield 9, 3) := by decide +kernel
theorem dX3_read_5 : decode cX3_read 5 = .ok (.imul, 1) := by decide +kernel
theorem dX3_read_6 : decode cX3_read 6 = .ok (.iload_n 2, 1) := by decide +kernel
theorem dX3_read_7 : decode cX3_read 7 = .ok (.iadd, 1) := by decide +kernel
theorem dX3_read_8 : decode cX3_read 8 = .ok (.istore_n 3, 1) := by decide +kernel
theorem dX3_read_9 : decode cX3_read 9 = .ok (.iload_n 3, 1) := by decide +kernel
theorem dX3_read_10 : decode cX3_read 10 = .ok (.ifCond .lt 21, 3) := by decide +kernel
theorem dX3_read_13 : decode cX3_read 13 = .ok (.iload_n 3, 1) := by decide +kernel
theorem dX3_read_14 : decode cX3_read 14 = .ok (.aload_n 0, 1) := by decide +kernel
theorem dX3_read_15 : decode cX3_read 15 = .ok (.getfield 21, 3) := by decide +kernel
theorem dX3_read_18 : decode cX3_read 18 = .ok (.arraylength, 1) := by decide +kernel
theorem dX3_read_19 : decode cX3_read 19 = .ok (.if_icmp .ge 12, 3) := by decide +kernel
theorem dX3_read_22 : decode cX3_read 22 = .ok (.aload_n 0, 1) := by decide +kernel
theorem dX3_read_23 : decode cX3_read 23 = .ok (.getfield 21, 3) := by decide +kernel
theorem dX3_read_26 : decode cX3_read 26 = .ok (.iload_n 3, 1) := by decide +kernel
theorem dX3_read_27 : decode cX3_read 27 = .ok (.iaload, 1) := by decide +kernel
theorem dX3_read_28 : decode cX3_read 28 = .ok (.goto 5, 3) := by decide +kernel
theorem dX3_read_31 : decode cX3_read 31 = .ok (.bipush (-6), 2) := by decide +kernel
theorem dX3_read_33 : decode cX3_read 33 = .ok (.ireturn, 1) := by decide +kernel
theorem dX3_write_0 : decode cX3_write 0 = .ok (.iload_n 1, 1) := by decide +kernel
theorem dX3_write_1 : decode cX3_write 1 = .ok (.aload_n 0, 1) := by decide +kernel
theorem dX3_write_2 : decode cX3_write 2 = .ok (.getfield 9, 3) := by decide +kernel
theorem dX3_write_5 : decode cX3_write 5 = .ok (.imul, 1) := by decide +kernel
theorem dX3_write_6 : decode cX3_write 6 = .ok (.iload_n 2, 1) := by decide +kernel
theorem dX3_write_7 : decode cX3_write 7 = .ok (.iadd, 1) := by decide +kernel
theorem dX3_write_8 : decode cX3_write 8 = .ok (.istore 4, 2) := by decide +kernel
theorem dX3_write_10 : decode cX3_write 10 = .ok (.iload 4, 2) := by decide +kernel
theorem dX3_write_12 : decode cX3_write 12 = .ok (.ifCond .lt 21, 3) := by decide +kernel
theorem dX3_write_15 : decode cX3_write 15 = .ok (.iload 4, 2) := by decide +kernel
theorem dX3_write_17 : decode cX3_write 17 = .ok (.aload_n 0, 1) := by decide +kernel
theorem dX3_write_18 : decode cX3_write 18 = .ok (.getfield 21, 3) := by decide +kernel
theorem dX3_write_21 : decode cX3_write 21 = .ok (.arraylength, 1) := by decide +kernel
theorem dX3_write_22 : decode cX3_write 22 = .ok (.if_icmp .ge 11, 3) := by decide +kernel
theorem dX3_write_25 : decode cX3_write 25 = .ok (.aload_n 0, 1) := by decide +kernel
theorem dX3_write_26 : decode cX3_write 26 = .ok (.getfield 21, 3) := by decide +kernel
theorem dX3_write_29 : decode cX3_write 29 = .ok (.iload 4, 2) := by decide +kernel
theorem dX3_write_31 : decode cX3_write 31 = .ok (.iload_n 3, 1) := by decide +kernel
theorem dX3_write_32 : decode cX3_write 32 = .ok (.iastore, 1) := by decide +kernel
theorem dX3_write_33 : decode cX3_write 33 = .ok (.return_, 1) := by decide +kernel
theorem dX3_removeRow_0 : decode cX3_removeRow 0 = .ok (.iload_n 1, 1) := by decide +kernel
theorem dX3_removeRow_1 : decode cX3_removeRow 1 = .ok (.aload_n 0, 1) := by decide +kernel
theorem dX3_removeRow_2 : decode cX3_removeRow 2 = .ok (.getfield 9, 3) := by decide +kernel
theorem dX3_removeRow_5 : decode cX3_removeRow 5 = .ok (.imul, 1) := by decide +kernel
theorem dX3_removeRow_6 : decode cX3_removeRow 6 = .ok (.istore_n 2, 1) := by decide +kernel
theorem dX3_removeRow_7 : decode cX3_removeRow 7 = .ok (.iload_n 2, 1) := by decide +kernel
theorem dX3_removeRow_8 : decode cX3_removeRow 8 = .ok (.aload_n 0, 1) := by decide +kernel
theorem dX3_removeRow_9 : decode cX3_removeRow 9 = .ok (.getfield 9, 3) := by decide +kernel
theorem dX3_removeRow_12 : decode cX3_removeRow 12 = .ok (.iadd, 1) := by decide +kernel
theorem dX3_removeRow_13 : decode cX3_removeRow 13 = .ok (.istore_n 3, 1) := by decide +kernel
theorem dX3_removeRow_14 : decode cX3_removeRow 14 = .ok (.iload_n 2, 1) := by decide +kernel
theorem dX3_removeRow_15 : decode cX3_removeRow 15 = .ok (.ifCond .lt 32, 3) := by decide +kernel
theorem dX3_removeRow_18 : decode cX3_removeRow 18 = .ok (.iload_n 3, 1) := by decide +kernel
theorem dX3_removeRow_19 : decode cX3_removeRow 19 = .ok (.aload_n 0, 1) := by decide +kernel
theorem dX3_removeRow_20 : decode cX3_removeRow 20 = .ok (.getfield 21, 3) := by decide +kernel
theorem dX3_removeRow_23 : decode cX3_removeRow 23 = .ok (.arraylength, 1) := by decide +kernel
theorem dX3_removeRow_24 : decode cX3_removeRow 24 = .ok (.if_icmp .gt 23, 3) := by decide +kernel
theorem dX3_removeRow_27 : decode cX3_removeRow 27 = .ok (.aload_n 0, 1) := by decide +kernel
theorem dX3_removeRow_28 : decode cX3_removeRow 28 = .ok (.getfield 21, 3) := by decide +kernel
theorem dX3_removeRow_31 : decode cX3_removeRow 31 = .ok (.iload_n 3, 1) := by decide +kernel
theorem dX3_removeRow_32 : decode cX3_removeRow 32 = .ok (.aload_n 0, 1) := by decide +kernel
theorem dX3_removeRow_33 : decode cX3_removeRow 33 = .ok (.getfield 21, 3) := by decide +kernel
theorem dX3_removeRow_36 : decode cX3_removeRow 36 = .ok (.iload_n 2, 1) := by decide +kernel
theorem dX3_removeRow_37 : decode cX3_removeRow 37 = .ok (.aload_n 0, 1) := by decide +kernel
theorem dX3_removeRow_38 : decode cX3_removeRow 38 = .ok (.getfield 21, 3) := by decide +kernel
theorem dX3_removeRow_41 : decode cX3_removeRow 41 = .ok (.arraylength, 1) := by decide +kernel
theorem dX3_removeRow_42 : decode cX3_removeRow 42 = .ok (.iload_n 3, 1) := by decide +kernel
theorem dX3_removeRow_43 : decode cX3_removeRow 43 = .ok (.isub, 1) := by decide +kernel
theorem dX3_removeRow_44 : decode cX3_removeRow 44 = .ok (.invokestatic 25, 3) := by decide +kernel
theorem dX3_removeRow_47 : decode cX3_removeRow 47 = .ok (.return_, 1) := by decide +kernel
theorem dX3_copyFrom_0 : decode cX3_copyFrom 0 = .ok (.aload_n 1, 1) := by decide +kernel
theorem dX3_copyFrom_1 : decode cX3_copyFrom 1 = .ok (.getfield 21, 3) := by decide +kernel
theorem dX3_copyFrom_4 : decode cX3_copyFrom 4 = .ok (.iconst 0, 1) := by decide +kernel
theorem dX3_copyFrom_5 : decode cX3_copyFrom 5 = .ok (.aload_n 0, 1) := by decide +kernel
theorem dX3_copyFrom_6 : decode cX3_copyFrom 6 = .ok (.getfield 21, 3) := by decide +kernel
theorem dX3_copyFrom_9 : decode cX3_copyFrom 9 = .ok (.iconst 0, 1) := by decide +kernel
theorem dX3_copyFrom_10 : decode cX3_copyFrom 10 = .ok (.aload_n 1, 1) := by decide +kernel
theorem dX3_copyFrom_11 : decode cX3_copyFrom 11 = .ok (.getfield 21, 3) := by decide +kernel
theorem dX3_copyFrom_14 : decode cX3_copyFrom 14 = .ok (.arraylength, 1) := by decide +kernel
theorem dX3_copyFrom_15 : decode cX3_copyFrom 15 = .ok (.aload_n 0, 1) := by decide +kernel
theorem dX3_copyFrom_16 : decode cX3_copyFrom 16 = .ok (.getfield 21, 3) := by decide +kernel
theorem dX3_copyFrom_19 : decode cX3_copyFrom 19 = .ok (.arraylength, 1) := by decide +kernel
theorem dX3_copyFrom_20 : decode cX3_copyFrom 20 = .ok (.invokestatic 31, 3) := by decide +kernel
theorem dX3_copyFrom_23 : decode cX3_copyFrom 23 = .ok (.invokestatic 25, 3) := by decide +kernel
theorem dX3_copyFrom_26 : decode cX3_copyFrom 26 = .ok (.return_, 1) := by decide +kernel
set_option maxRecDepth 20000 in
theorem ggX4_init_X2_init : GoodIn wsX4_init wsX2_init := goodIn_r _ [20, 21, 2, 3, 22, 23, 24, 25, 26, 27, 28, 29, 30, 31, 32, 33, 34, 35, 36, 37, 38, 39, 40, 51, 52, 53, 54, 55, 56, 71, 72] (by decide +kernel) (by decide +kernel)
set_option maxRecDepth 20000 in
theorem gX4_init_X2_init : GoodIn wsX4_init (wsX2_init) := ggX4_init_X2_init
set_option maxRecDepth 20000 in
theorem ggX4_init_X0_init : GoodIn wsX4_init wsX0_init := goodIn_r _ [42, 43, 2, 3, 44, 45, 62, 63, 64] (by decide +kernel) (by decide +kernel)
set_option maxRecDepth 20000 in
theorem gX4_init_X0_init_n25 : GoodIn wsX4_init (wsX0_init) := ggX4_init_X0_init
set_option maxRecDepth 20000 in
theorem ggX4_init_X1_init : GoodIn wsX4_init wsX1_init := goodIn_r _ [47, 48, 2, 3, 49, 50, 65, 66, 67, 68, 69, 70] (by decide +kernel) (by decide +kernel)
set_option maxRecDepth 20000 in
theorem gX4_init_X1_init_n32 : GoodIn wsX4_init (wsX1_init) := ggX4_init_X1_init
theorem dX4_init_0 : decode cX4_init 0 = .ok (.aload_n 0, 1) := by decide +kernel
theorem dX4_init_1 : decode cX4_init 1 = .ok (.invokespecial 1, 3) := by decide +kernel
theorem dX4_init_4 : decode cX4_init 4 = .ok (.aload_n 0, 1) := by decide +kernel
theorem dX4_init_5 : decode cX4_init 5 = .ok (.new 7, 3) := by decide +kernel
theorem dX4_init_8 : decode cX4_init 8 = .ok (.dup, 1) := by decide +kernel
theorem dX4_init_9 : decode cX4_init 9 = .ok (.invokespecial 9, 3) := by decide +kernel
theorem dX4_init_12 : decode cX4_init 12 = .ok (.putfield 10, 3) := by decide +kernel
theorem dX4_init_15 : decode cX4_init 15 = .ok (.aload_n 0, 1) := by decide +kernel
theorem dX4_init_16 : decode cX4_init 16 = .ok (.new 7, 3) := by decide +kernel
theorem dX4_init_19 : decode cX4_init 19 = .ok (.dup, 1) := by decide +kernel
theorem dX4_init_20 : decode cX4_init 20 = .ok (.invokespecial 9, 3) := by decide +kernel
theorem dX4_init_23 : decode cX4_init 23 = .ok (.putfield 16, 3) := by decide +kernel
theorem dX4_init_26 : decode cX4_init 26 = .ok (.aload_n 0, 1) := by decide +kernel
theorem dX4_init_27 : decode cX4_init 27 = .ok (.iconst 2, 1) := by decide +kernel
theorem dX4_init_28 : decode cX4_init 28 = .ok (.anewarray 7, 3) := by decide +kernel
theorem dX4_init_31 : decode cX4_init 31 = .ok (.putfield 19, 3) := by decide +kernel
theorem dX4_init_34 : decode cX4_init 34 = .ok (.aload_n 0, 1) := by decide +kernel
theorem dX4_init_35 : decode cX4_init 35 = .ok (.new 23, 3) := by decide +kernel
theorem dX4_init_38 : decode cX4_init 38 = .ok (.dup, 1) := by decide +kernel
theorem dX4_init_39 : decode cX4_init 39 = .ok (.invokespecial 25, 3) := by decide +kernel
theorem dX4_init_42 : decode cX4_init 42 = .ok (.putfield 26, 3) := by decide +kernel
theorem dX4_init_45 : decode cX4_init 45 = .ok (.aload_n 0, 1) := by decide +kernel
theorem dX4_init_46 : decode cX4_init 46 = .ok (.new 30, 3) := by decide +kernel
theorem dX4_init_49 : decode cX4_init 49 = .ok (.dup, 1) := by decide +kernel
theorem dX4_init_50 : decode cX4_init 50 = .ok (.invokespecial 32, 3) := by decide +kernel
theorem dX4_init_53 : decode cX4_init 53 = .ok (.putfield 33, 3) := by decide +kernel
theorem dX4_init_56 : decode cX4_init 56 = .ok (.return_, 1) := by decide +kernel
set_option maxRecDepth 20000 in
theorem ggX4_set_X0_prepare : GoodIn wsX4_set wsX0_prepare := goodIn_r _ [7, 8, 9, 10, 11, 12, 13, 14, 15, 16, 17, 18, 19, 20, 21, 22, 23, 24, 25, 26, 27, 28, 29, 30, 31, 32, 33, 34, 35, 36, 37, 38, 39, 40, 41, 42, 43, 44, 45, 46, 47, 48, 49, 50, 51, 52, 53, 54, 55, 56, 57, 58, 74, 75, 76, 77, 78, 79, 80, 81, 82, 83, 84] (by decide +kernel) (by decide +kernel)
set_option maxRecDepth 20000 in
theorem gX4_set_X0_prepare : GoodIn wsX4_set (wsV RX4 37 RX0 yX0_prepare wsX0_prepare) := goodIn_app (goodIn_of _ (by decide +kernel)) ggX4_set_X0_prepare
set_option maxRecDepth 20000 in
theorem ggX4_set_X2_changeSetting : GoodIn wsX4_set wsX2_changeSetting := goodIn_r _ [62, 24, 63, 12, 64, 77, 78, 79, 80, 81, 82] (by decide +kernel) (by decide +kernel)
set_option maxRecDepth 20000 in
theorem gX4_set_X2_changeSetting : GoodIn wsX4_set (wsV RX4 41 RX2 yX2_changeSetting wsX2_changeSetting) := goodIn_app (goodIn_of _ (by decide +kernel)) ggX4_set_X2_changeSetting
set_option maxRecDepth 20000 in
theorem ggX4_set_X0_keepIfDone : GoodIn wsX4_set wsX0_keepIfDone := goodIn_r _ [68, 10, 9, 74, 75, 76] (by decide +kernel) (by decide +kernel)
set_option maxRecDepth 20000 in
theorem gX4_set_X0_keepIfDone : GoodIn wsX4_set (wsV RX4 45 RX0 yX0_keepIfDone wsX0_keepIfDone) := goodIn_app (goodIn_of _ (by decide +kernel)) ggX4_set_X0_keepIfDone
theorem dX4_set_0 : decode cX4_set 0 = .ok (.aload_n 0, 1) := by decide +kernel
theorem dX4_set_1 : decode cX4_set 1 = .ok (.getfield 26, 3) := by decide +kernel
theorem dX4_set_4 : decode cX4_set 4 = .ok (.aload_n 0, 1) := by decide +kernel
theorem dX4_set_5 : decode cX4_set 5 = .ok (.getfield 10, 3) := by decide +kernel
theorem dX4_set_8 : decode cX4_set 8 = .ok (.invokevirtual 37, 3) := by decide +kernel
theorem dX4_set_11 : decode cX4_set 11 = .ok (.aload_n 0, 1) := by decide +kernel
theorem dX4_set_12 : decode cX4_set 12 = .ok (.getfield 26, 3) := by decide +kernel
theorem dX4_set_15 : decode cX4_set 15 = .ok (.aload_n 0, 1) := by decide +kernel
theorem dX4_set_16 : decode cX4_set 16 = .ok (.getfield 10, 3) := by decide +kernel
theorem dX4_set_19 : decode cX4_set 19 = .ok (.iload_n 1, 1) := by decide +kernel
theorem dX4_set_20 : decode cX4_set 20 = .ok (.iload_n 2, 1) := by decide +kernel
theorem dX4_set_21 : decode cX4_set 21 = .ok (.invokevirtual 41, 3) := by decide +kernel
theorem dX4_set_24 : decode cX4_set 24 = .ok (.invokevirtual 45, 3) := by decide +kernel
theorem dX4_set_27 : decode cX4_set 27 = .ok (.ireturn, 1) := by decide +kernel
set_option maxRecDepth 20000 in
theorem ggX4_value_X0_prepare : GoodIn wsX4_value wsX0_prepare := goodIn_r _ [7, 8, 9, 10, 11, 12, 13, 14, 15, 16, 17, 18, 19, 20, 21, 22, 23, 24, 25, 26, 27, 28, 29, 30, 31, 32, 33, 34, 35, 36, 37, 38, 39, 40, 41, 42, 43, 44, 45, 46, 47, 48, 49, 50, 51, 52, 53, 54, 55, 56, 57, 58, 74, 75, 76, 77, 78, 79, 80, 81, 82, 83, 84] (by decide +kernel) (by decide +kernel)
set_option maxRecDepth 20000 in
theorem gX4_value_X0_prepare : GoodIn wsX4_value (wsV RX4 37 RX0 yX0_prepare wsX0_prepare) := goodIn_app (goodIn_of _ (by decide +kernel)) ggX4_value_X0_prepare
set_option maxRecDepth 20000 in
theorem ggX4_value_X2_changeValue : GoodIn wsX4_value wsX2_changeValue := goodIn_r _ [62, 25, 63, 12, 64, 77, 78, 79, 80, 81, 82] (by decide +kernel) (by decide +kernel)
set_option maxRecDepth 20000 in
theorem gX4_value_X2_changeValue : GoodIn wsX4_value (wsV RX4 49 RX2 yX2_changeValue wsX2_changeValue) := goodIn_app (goodIn_of _ (by decide +kernel)) ggX4_value_X2_changeValue
set_option maxRecDepth 20000 in
theorem ggX4_value_X0_keepIfDone : GoodIn wsX4_value wsX0_keepIfDone := goodIn_r _ [68, 10, 9, 74, 75, 76] (by decide +kernel) (by decide +kernel)
set_option maxRecDepth 20000 in
theorem gX4_value_X0_keepIfDone : GoodIn wsX4_value (wsV RX4 45 RX0 yX0_keepIfDone wsX0_keepIfDone) := goodIn_app (goodIn_of _ (by decide +kernel)) ggX4_value_X0_keepIfDone
theorem dX4_value_0 : decode cX4_value 0 = .ok (.aload_n 0, 1) := by decide +kernel
theorem dX4_value_1 : decode cX4_value 1 = .ok (.getfield 26, 3) := by decide +kernel
theorem dX4_value_4 : decode cX4_value 4 = .ok (.aload_n 0, 1) := by decide +kernel
theorem dX4_value_5 : decode cX4_value 5 = .ok (.getfield 10, 3) := by decide +kernel
theorem dX4_value_8 : decode cX4_value 8 = .ok (.invokevirtual 37, 3) := by decide +kernel
theorem dX4_value_11 : decode cX4_value 11 = .ok (.aload_n 0, 1) := by decide +kernel
theorem dX4_value_12 : decode cX4_value 12 = .ok (.getfield 26, 3) := by decide +kernel
theorem dX4_value_15 : decode cX4_value 15 = .ok (.aload_n 0, 1) := by decide +kernel
theorem dX4_value_16 : decode cX4_value 16 = .ok (.getfield 10, 3) := by decide +kernel
theorem dX4_value_19 : decode cX4_value 19 = .ok (.iload_n 1, 1) := by decide +kernel
theorem dX4_value_20 : decode cX4_value 20 = .ok (.iload_n 2, 1) := by decide +kernel
theorem dX4_value_21 : decode cX4_value 21 = .ok (.invokevirtual 49, 3) := by decide +kernel
theorem dX4_value_24 : decode cX4_value 24 = .ok (.invokevirtual 45, 3) := by decide +kernel
theorem dX4_value_27 : decode cX4_value 27 = .ok (.ireturn, 1) := by decide +kernel
set_option maxRecDepth 20000 in
theorem ggX4_slip_X0_prepare : GoodIn wsX4_slip wsX0_prepare := goodIn_r _ [7, 8, 9, 10, 11, 12, 13, 14, 15, 16, 17, 18, 19, 20, 21, 22, 23, 24, 25, 26, 27, 28, 29, 30, 31, 32, 33, 34, 35, 36, 37, 38, 39, 40, 41, 42, 43, 44, 45, 46, 47, 48, 49, 50, 51, 52, 53, 54, 55, 56, 57, 58, 74, 75, 76, 77, 78, 79, 80, 81, 82, 83, 84] (by decide +kernel) (by decide +kernel)
set_option maxRecDepth 20000 in
theorem gX4_slip_X0_prepare : GoodIn wsX4_slip (wsV RX4 37 RX0 yX0_prepare wsX0_prepare) := goodIn_app (goodIn_of _ (by decide +kernel)) ggX4_slip_X0_prepare
set_option maxRecDepth 20000 in
theorem ggX4_slip_X2_delayClock : GoodIn wsX4_slip wsX2_delayClock := goodIn_r _ [62, 24, 63, 12, 64, 77, 78, 79, 80, 81, 82] (by decide +kernel) (by decide +kernel)
set_option maxRecDepth 20000 in
theorem gX4_slip_X2_delayClock : GoodIn wsX4_slip (wsV RX4 52 RX2 yX2_delayClock wsX2_delayClock) := goodIn_app (goodIn_of _ (by decide +kernel)) ggX4_slip_X2_delayClock
set_option maxRecDepth 20000 in
theorem ggX4_slip_X0_keepIfDone : GoodIn wsX4_slip wsX0_keepIfDone := goodIn_r _ [68, 10, 9, 74, 75, 76] (by decide +kernel) (by decide +kernel)
set_option maxRecDepth 20000 in
theorem gX4_slip_X0_keepIfDone : GoodIn wsX4_slip (wsV RX4 45 RX0 yX0_keepIfDone wsX0_keepIfDone) := goodIn_app (goodIn_of _ (by decide +kernel)) ggX4_slip_X0_keepIfDone
theorem dX4_slip_0 : decode cX4_slip 0 = .ok (.aload_n 0, 1) := by decide +kernel
theorem dX4_slip_1 : decode cX4_slip 1 = .ok (.getfield 26, 3) := by decide +kernel
theorem dX4_slip_4 : decode cX4_slip 4 = .ok (.aload_n 0, 1) := by decide +kernel
theorem dX4_slip_5 : decode cX4_slip 5 = .ok (.getfield 10, 3) := by decide +kernel
theorem dX4_slip_8 : decode cX4_slip 8 = .ok (.invokevirtual 37, 3) := by decide +kernel
theorem dX4_slip_11 : decode cX4_slip 11 = .ok (.aload_n 0, 1) := by decide +kernel
theorem dX4_slip_12 : decode cX4_slip 12 = .ok (.getfield 26, 3) := by decide +kernel
theorem dX4_slip_15 : decode cX4_slip 15 = .ok (.aload_n 0, 1) := by decide +kernel
theorem dX4_slip_16 : decode cX4_slip 16 = .ok (.getfield 10, 3) := by decide +kernel
theorem dX4_slip_19 : decode cX4_slip 19 = .ok (.iload_n 1, 1) := by decide +kernel
theorem dX4_slip_20 : decode cX4_slip 20 = .ok (.iload_n 2, 1) := by decide +kernel
theorem dX4_slip_21 : decode cX4_slip 21 = .ok (.invokevirtual 52, 3) := by decide +kernel
theorem dX4_slip_24 : decode cX4_slip 24 = .ok (.invokevirtual 45, 3) := by decide +kernel
theorem dX4_slip_27 : decode cX4_slip 27 = .ok (.ireturn, 1) := by decide +kernel
set_option maxRecDepth 20000 in
theorem ggX4_pass_X0_prepare : GoodIn wsX4_pass wsX0_prepare := goodIn_r _ [8, 9, 10, 11, 12, 13, 14, 15, 16, 17, 18, 19, 20, 21, 22, 23, 24, 25, 26, 27, 28, 29, 30, 31, 32, 33, 34, 35, 36, 37, 38, 39, 40, 41, 42, 43, 44, 45, 46, 47, 48, 49, 50, 51, 52, 53, 54, 55, 56, 57, 58, 59, 133, 134, 135, 136, 137, 138, 139, 140, 141, 142, 143] (by decide +kernel) (by decide +kernel)
set_option maxRecDepth 20000 in
theorem gX4_pass_X0_prepare : GoodIn wsX4_pass (wsV RX4 37 RX0 yX0_prepare wsX0_prepare) := goodIn_app (goodIn_of _ (by decide +kernel)) ggX4_pass_X0_prepare
set_option maxRecDepth 20000 in
theorem ggX4_pass_X2_passTicks : GoodIn wsX4_pass wsX2_passTicks := goodIn_r _ [63, 25, 64, 57, 40, 58, 65, 39, 41, 51, 66, 13, 67, 68, 69, 70, 17, 71, 72, 73, 74, 75, 26, 30, 76, 77, 78, 79, 80, 81, 82, 29, 83, 37, 42, 84, 85, 86, 87, 88, 89, 90, 91, 92, 93, 94, 95, 32, 96, 97, 98, 99, 59, 48, 49, 50, 100, 101, 102, 103, 104, 105, 106, 107, 108, 109, 110, 111, 112, 113, 114, 115, 31, 116, 117, 118, 119, 120, 121, 122, 123, 136, 137, 138, 139, 140, 141, 142, 143] (by decide +kernel) (by decide +kernel)
set_option maxRecDepth 20000 in
theorem gX4_pass_X2_passTicks : GoodIn wsX4_pass (wsV RX4 56 RX2 yX2_passTicks wsX2_passTicks) := goodIn_app (goodIn_of _ (by decide +kernel)) ggX4_pass_X2_passTicks
set_option maxRecDepth 20000 in
theorem ggX4_pass_X0_keepIfDone : GoodIn wsX4_pass wsX0_keepIfDone := goodIn_r _ [127, 11, 10, 133, 134, 135] (by decide +kernel) (by decide +kernel)
set_option maxRecDepth 20000 in
theorem gX4_pass_X0_keepIfDone : GoodIn wsX4_pass (wsV RX4 45 RX0 yX0_keepIfDone wsX0_keepIfDone) := goodIn_app (goodIn_of _ (by decide +kernel)) ggX4_pass_X0_keepIfDone
theorem dX4_pass_0 : decode cX4_pass 0 = .ok (.aload_n 0, 1) := by decide +kernel
theorem dX4_pass_1 : decode cX4_pass 1 = .ok (.getfield 26, 3) := by decide +kernel
theorem dX4_pass_4 : decode cX4_pass 4 = .ok (.aload_n 0, 1) := by decide +kernel
theorem dX4_pass_5 : decode cX4_pass 5 = .ok (.getfield 10, 3) := by decide +kernel
theorem dX4_pass_8 : decode cX4_pass 8 = .ok (.invokevirtual 37, 3) := by decide +kernel
theorem dX4_pass_11 : decode cX4_pass 11 = .ok (.aload_n 0, 1) := by decide +kernel
theorem dX4_pass_12 : decode cX4_pass 12 = .ok (.getfield 26, 3) := by decide +kernel
theorem dX4_pass_15 : decode cX4_pass 15 = .ok (.aload_n 0, 1) := by decide +kernel
theorem dX4_pass_16 : decode cX4_pass 16 = .ok (.getfield 10, 3) := by decide +kernel
theorem dX4_pass_19 : decode cX4_pass 19 = .ok (.iload_n 1, 1) := by decide +kernel
theorem dX4_pass_20 : decode cX4_pass 20 = .ok (.ldc 55, 2) := by decide +kernel
theorem dX4_pass_22 : decode cX4_pass 22 = .ok (.invokevirtual 56, 3) := by decide +kernel
theorem dX4_pass_25 : decode cX4_pass 25 = .ok (.invokevirtual 45, 3) := by decide +kernel
theorem dX4_pass_28 : decode cX4_pass 28 = .ok (.ireturn, 1) := by decide +kernel
set_option maxRecDepth 20000 in
theorem ggX4_flush_X0_prepare : GoodIn wsX4_flush wsX0_prepare := goodIn_r _ [7, 8, 9, 10, 11, 12, 13, 14, 15, 16, 17, 18, 19, 20, 21, 22, 23, 24, 25, 26, 27, 28, 29, 30, 31, 32, 33, 34, 35, 36, 37, 38, 39, 40, 41, 42, 43, 44, 45, 46, 47, 48, 49, 50, 51, 52, 53, 54, 55, 56, 57, 58, 88, 89, 90, 91, 92, 93, 94, 95, 96, 97, 98] (by decide +kernel) (by decide +kernel)
set_option maxRecDepth 20000 in
theorem gX4_flush_X0_prepare : GoodIn wsX4_flush (wsV RX4 37 RX0 yX0_prepare wsX0_prepare) := goodIn_app (goodIn_of _ (by decide +kernel)) ggX4_flush_X0_prepare
set_option maxRecDepth 20000 in
theorem ggX4_flush_X2_skipAll : GoodIn wsX4_flush wsX2_skipAll := goodIn_r _ [62, 24, 63, 64, 65, 16, 66, 31, 29, 67, 68, 69, 28, 70, 36, 41, 71, 72, 73, 74, 75, 76, 77, 78, 58, 47, 48, 49, 91, 92, 93, 94, 95, 96, 97, 98] (by decide +kernel) (by decide +kernel)
set_option maxRecDepth 20000 in
theorem gX4_flush_X2_skipAll : GoodIn wsX4_flush (wsV RX4 59 RX2 yX2_skipAll wsX2_skipAll) := goodIn_app (goodIn_of _ (by decide +kernel)) ggX4_flush_X2_skipAll
set_option maxRecDepth 20000 in
theorem ggX4_flush_X0_keepIfDone : GoodIn wsX4_flush wsX0_keepIfDone := goodIn_r _ [82, 10, 9, 88, 89, 90] (by decide +kernel) (by decide +kernel)
set_option maxRecDepth 20000 in
theorem gX4_flush_X0_keepIfDone : GoodIn wsX4_flush (wsV RX4 45 RX0 yX0_keepIfDone wsX0_keepIfDone) := goodIn_app (goodIn_of _ (by decide +kernel)) ggX4_flush_X0_keepIfDone
theorem dX4_flush_0 : decode cX4_flush 0 = .ok (.aload_n 0, 1) := by decide +kernel
theorem dX4_flush_1 : decode cX4_flush 1 = .ok (.getfield 26, 3) := by decide +kernel
theorem dX4_flush_4 : decode cX4_flush 4 = .ok (.aload_n 0, 1) := by decide +kernel
theorem dX4_flush_5 : decode cX4_flush 5 = .ok (.getfield 10, 3) := by decide +kernel
theorem dX4_flush_8 : decode cX4_flush 8 = .ok (.invokevirtual 37, 3) := by decide +kernel
theorem dX4_flush_11 : decode cX4_flush 11 = .ok (.aload_n 0, 1) := by decide +kernel
theorem dX4_flush_12 : decode cX4_flush 12 = .ok (.getfield 26, 3) := by decide +kernel
theorem dX4_flush_15 : decode cX4_flush 15 = .ok (.aload_n 0, 1) := by decide +kernel
theorem dX4_flush_16 : decode cX4_flush 16 = .ok (.getfield 10, 3) := by decide +kernel
theorem dX4_flush_19 : decode cX4_flush 19 = .ok (.invokevirtual 59, 3) := by decide +kernel
theorem dX4_flush_22 : decode cX4_flush 22 = .ok (.invokevirtual 45, 3) := by decide +kernel
theorem dX4_flush_25 : decode cX4_flush 25 = .ok (.ireturn, 1) := by decide +kernel
set_option maxRecDepth 20000 in
theorem ggX4_waiting_X4_isWithin : GoodIn wsX4_waiting wsX4_isWithin := goodIn_r _ [5] (by decide +kernel) (by decide +kernel)
set_option maxRecDepth 20000 in
theorem gX4_waiting_X4_isWithin : GoodIn wsX4_waiting (va_wsS RX4 67 yX4_isWithin wsX4_isWithin) := goodIn_app (goodIn_of _ (by decide +kernel)) ggX4_waiting_X4_isWithin
set_option maxRecDepth 20000 in
theorem ggX4_waiting_X3_read : GoodIn wsX4_waiting wsX3_read := goodIn_r _ [10, 11, 12, 24, 25] (by decide +kernel) (by decide +kernel)
set_option maxRecDepth 20000 in
theorem gX4_waiting_X3_read : GoodIn wsX4_waiting (wsV RX4 75 RX3 yX3_read wsX3_read) := goodIn_app (goodIn_of _ (by decide +kernel)) ggX4_waiting_X3_read
theorem dX4_waiting_0 : decode cX4_waiting 0 = .ok (.iload_n 1, 1) := by decide +kernel
theorem dX4_waiting_1 : decode cX4_waiting 1 = .ok (.ifCond .lt 16, 3) := by decide +kernel
theorem dX4_waiting_4 : decode cX4_waiting 4 = .ok (.iload_n 1, 1) := by decide +kernel
theorem dX4_waiting_5 : decode cX4_waiting 5 = .ok (.aload_n 0, 1) := by decide +kernel
theorem dX4_waiting_6 : decode cX4_waiting 6 = .ok (.getfield 10, 3) := by decide +kernel
theorem dX4_waiting_9 : decode cX4_waiting 9 = .ok (.getfield 63, 3) := by decide +kernel
theorem dX4_waiting_12 : decode cX4_waiting 12 = .ok (.iconst 2, 1) := by decide +kernel
theorem dX4_waiting_13 : decode cX4_waiting 13 = .ok (.iaload, 1) := by decide +kernel
theorem dX4_waiting_14 : decode cX4_waiting 14 = .ok (.if_icmp .lt 5, 3) := by decide +kernel
theorem dX4_waiting_17 : decode cX4_waiting 17 = .ok (.iconst (-1), 1) := by decide +kernel
theorem dX4_waiting_18 : decode cX4_waiting 18 = .ok (.ireturn, 1) := by decide +kernel
theorem dX4_waiting_19 : decode cX4_waiting 19 = .ok (.iload_n 2, 1) := by decide +kernel
theorem dX4_waiting_20 : decode cX4_waiting 20 = .ok (.iconst 0, 1) := by decide +kernel
theorem dX4_waiting_21 : decode cX4_waiting 21 = .ok (.iconst 3, 1) := by decide +kernel
theorem dX4_waiting_22 : decode cX4_waiting 22 = .ok (.invokestatic 67, 3) := by decide +kernel
theorem dX4_waiting_25 : decode cX4_waiting 25 = .ok (.ifCond .eq 18, 3) := by decide +kernel
theorem dX4_waiting_28 : decode cX4_waiting 28 = .ok (.aload_n 0, 1) := by decide +kernel
theorem dX4_waiting_29 : decode cX4_waiting 29 = .ok (.getfield 10, 3) := by decide +kernel
theorem dX4_waiting_32 : decode cX4_waiting 32 = .ok (.getfield 71, 3) := by decide +kernel
theorem dX4_waiting_35 : decode cX4_waiting 35 = .ok (.iload_n 1, 1) := by decide +kernel
theorem dX4_waiting_36 : decode cX4_waiting 36 = .ok (.iload_n 2, 1) := by decide +kernel
theorem dX4_waiting_37 : decode cX4_waiting 37 = .ok (.invokevirtual 75, 3) := by decide +kernel
theorem dX4_waiting_40 : decode cX4_waiting 40 = .ok (.goto 5, 3) := by decide +kernel
theorem dX4_waiting_43 : decode cX4_waiting 43 = .ok (.bipush (-2), 2) := by decide +kernel
theorem dX4_waiting_45 : decode cX4_waiting 45 = .ok (.ireturn, 1) := by decide +kernel
set_option maxRecDepth 20000 in
theorem ggX4_row_X2_rowsOfScreen : GoodIn wsX4_row wsX2_rowsOfScreen := goodIn_r _ [6, 7, 8, 9, 5, 10, 11, 12, 13, 14, 28, 29, 30, 31, 32, 33] (by decide +kernel) (by decide +kernel)
set_option maxRecDepth 20000 in
theorem gX4_row_X2_rowsOfScreen : GoodIn wsX4_row (wsV RX4 80 RX2 yX2_rowsOfScreen wsX2_rowsOfScreen) := goodIn_app (goodIn_of _ (by decide +kernel)) ggX4_row_X2_rowsOfScreen
set_option maxRecDepth 20000 in
theorem ggX4_row_X4_isWithin : GoodIn wsX4_row wsX4_isWithin := goodIn_r _ [14] (by decide +kernel) (by decide +kernel)
set_option maxRecDepth 20000 in
theorem gX4_row_X4_isWithin : GoodIn wsX4_row (va_wsS RX4 67 yX4_isWithin wsX4_isWithin) := goodIn_app (goodIn_of _ (by decide +kernel)) ggX4_row_X4_isWithin
set_option maxRecDepth 20000 in
theorem ggX4_row_X3_read : GoodIn wsX4_row wsX3_read := goodIn_r _ [20, 21, 22, 34, 35] (by decide +kernel) (by decide +kernel)
set_option maxRecDepth 20000 in
theorem gX4_row_X3_read : GoodIn wsX4_row (wsV RX4 75 RX3 yX3_read wsX3_read) := goodIn_app (goodIn_of _ (by decide +kernel)) ggX4_row_X3_read
theorem dX4_row_0 : decode cX4_row 0 = .ok (.iload_n 1, 1) := by decide +kernel
theorem dX4_row_1 : decode cX4_row 1 = .ok (.ifCond .lt 14, 3) := by decide +kernel
theorem dX4_row_4 : decode cX4_row 4 = .ok (.iload_n 1, 1) := by decide +kernel
theorem dX4_row_5 : decode cX4_row 5 = .ok (.aload_n 0, 1) := by decide +kernel
theorem dX4_row_6 : decode cX4_row 6 = .ok (.getfield 10, 3) := by decide +kernel
theorem dX4_row_9 : decode cX4_row 9 = .ok (.invokevirtual 80, 3) := by decide +kernel
theorem dX4_row_12 : decode cX4_row 12 = .ok (.if_icmp .lt 5, 3) := by decide +kernel
theorem dX4_row_15 : decode cX4_row 15 = .ok (.iconst (-1), 1) := by decide +kernel
theorem dX4_row_16 : decode cX4_row 16 = .ok (.ireturn, 1) := by decide +kernel
theorem dX4_row_17 : decode cX4_row 17 = .ok (.iload_n 2, 1) := by decide +kernel
theorem dX4_row_18 : decode cX4_row 18 = .ok (.iconst 0, 1) := by decide +kernel
theorem dX4_row_19 : decode cX4_row 19 = .ok (.iconst 2, 1) := by decide +kernel
theorem dX4_row_20 : decode cX4_row 20 = .ok (.invokestatic 67, 3) := by decide +kernel
theorem dX4_row_23 : decode cX4_row 23 = .ok (.ifCond .eq 18, 3) := by decide +kernel
theorem dX4_row_26 : decode cX4_row 26 = .ok (.aload_n 0, 1) := by decide +kernel
theorem dX4_row_27 : decode cX4_row 27 = .ok (.getfield 10, 3) := by decide +kernel
theorem dX4_row_30 : decode cX4_row 30 = .ok (.getfield 83, 3) := by decide +kernel
theorem dX4_row_33 : decode cX4_row 33 = .ok (.iload_n 1, 1) := by decide +kernel
theorem dX4_row_34 : decode cX4_row 34 = .ok (.iload_n 2, 1) := by decide +kernel
theorem dX4_row_35 : decode cX4_row 35 = .ok (.invokevirtual 75, 3) := by decide +kernel
theorem dX4_row_38 : decode cX4_row 38 = .ok (.goto 5, 3) := by decide +kernel
theorem dX4_row_41 : decode cX4_row 41 = .ok (.bipush (-2), 2) := by decide +kernel
theorem dX4_row_43 : decode cX4_row 43 = .ok (.ireturn, 1) := by decide +kernel
set_option maxRecDepth 20000 in
theorem ggX4_ofMissing_X4_isWithin : GoodIn wsX4_ofMissing wsX4_isWithin := goodIn_r _ [9] (by decide +kernel) (by decide +kernel)
set_option maxRecDepth 20000 in
theorem gX4_ofMissing_X4_isWithin : GoodIn wsX4_ofMissing (va_wsS RX4 67 yX4_isWithin wsX4_isWithin) := goodIn_app (goodIn_of _ (by decide +kernel)) ggX4_ofMissing_X4_isWithin
set_option maxRecDepth 20000 in
theorem ggX4_ofMissing_X3_read : GoodIn wsX4_ofMissing wsX3_read := goodIn_r _ [14, 15, 16, 28, 29] (by decide +kernel) (by decide +kernel)
set_option maxRecDepth 20000 in
theorem gX4_ofMissing_X3_read : GoodIn wsX4_ofMissing (wsV RX4 75 RX3 yX3_read wsX3_read) := goodIn_app (goodIn_of _ (by decide +kernel)) ggX4_ofMissing_X3_read
theorem dX4_ofMissing_0 : decode cX4_ofMissing 0 = .ok (.iload_n 1, 1) := by decide +kernel
theorem dX4_ofMissing_1 : decode cX4_ofMissing 1 = .ok (.ifCond .lt 21, 3) := by decide +kernel
theorem dX4_ofMissing_4 : decode cX4_ofMissing 4 = .ok (.iload_n 1, 1) := by decide +kernel
theorem dX4_ofMissing_5 : decode cX4_ofMissing 5 = .ok (.bipush 8, 2) := by decide +kernel
theorem dX4_ofMissing_7 : decode cX4_ofMissing 7 = .ok (.aload_n 0, 1) := by decide +kernel
theorem dX4_ofMissing_8 : decode cX4_ofMissing 8 = .ok (.getfield 10, 3) := by decide +kernel
theorem dX4_ofMissing_11 : decode cX4_ofMissing 11 = .ok (.getfield 63, 3) := by decide +kernel
theorem dX4_ofMissing_14 : decode cX4_ofMissing 14 = .ok (.iconst 4, 1) := by decide +kernel
theorem dX4_ofMissing_15 : decode cX4_ofMissing 15 = .ok (.iaload, 1) := by decide +kernel
theorem dX4_ofMissing_16 : decode cX4_ofMissing 16 = .ok (.invokestatic 86, 3) := by decide +kernel
theorem dX4_ofMissing_19 : decode cX4_ofMissing 19 = .ok (.if_icmp .lt 5, 3) := by decide +kernel
theorem dX4_ofMissing_22 : decode cX4_ofMissing 22 = .ok (.iconst (-1), 1) := by decide +kernel
theorem dX4_ofMissing_23 : decode cX4_ofMissing 23 = .ok (.ireturn, 1) := by decide +kernel
theorem dX4_ofMissing_24 : decode cX4_ofMissing 24 = .ok (.iload_n 2, 1) := by decide +kernel
theorem dX4_ofMissing_25 : decode cX4_ofMissing 25 = .ok (.iconst 0, 1) := by decide +kernel
theorem dX4_ofMissing_26 : decode cX4_ofMissing 26 = .ok (.iconst 3, 1) := by decide +kernel
theorem dX4_ofMissing_27 : decode cX4_ofMissing 27 = .ok (.invokestatic 67, 3) := by decide +kernel
theorem dX4_ofMissing_30 : decode cX4_ofMissing 30 = .ok (.ifCond .ne 6, 3) := by decide +kernel
theorem dX4_ofMissing_33 : decode cX4_ofMissing 33 = .ok (.bipush (-2), 2) := by decide +kernel
theorem dX4_ofMissing_35 : decode cX4_ofMissing 35 = .ok (.ireturn, 1) := by decide +kernel
theorem dX4_ofMissing_36 : decode cX4_ofMissing 36 = .ok (.aload_n 0, 1) := by decide +kernel
theorem dX4_ofMissing_37 : decode cX4_ofMissing 37 = .ok (.getfield 10, 3) := by decide +kernel
theorem dX4_ofMissing_40 : decode cX4_ofMissing 40 = .ok (.getfield 91, 3) := by decide +kernel
theorem dX4_ofMissing_43 : decode cX4_ofMissing 43 = .ok (.aload_n 0, 1) := by decide +kernel
theorem dX4_ofMissing_44 : decode cX4_ofMissing 44 = .ok (.getfield 10, 3) := by decide +kernel
theorem dX4_ofMissing_47 : decode cX4_ofMissing 47 = .ok (.getfield 63, 3) := by decide +kernel
theorem dX4_ofMissing_50 : decode cX4_ofMissing 50 = .ok (.iconst 4, 1) := by decide +kernel
theorem dX4_ofMissing_51 : decode cX4_ofMissing 51 = .ok (.iaload, 1) := by decide +kernel
theorem dX4_ofMissing_52 : decode cX4_ofMissing 52 = .ok (.iconst 1, 1) := by decide +kernel
theorem dX4_ofMissing_53 : decode cX4_ofMissing 53 = .ok (.isub, 1) := by decide +kernel
theorem dX4_ofMissing_54 : decode cX4_ofMissing 54 = .ok (.iload_n 1, 1) := by decide +kernel
theorem dX4_ofMissing_55 : decode cX4_ofMissing 55 = .ok (.isub, 1) := by decide +kernel
theorem dX4_ofMissing_56 : decode cX4_ofMissing 56 = .ok (.bipush 8, 2) := by decide +kernel
theorem dX4_ofMissing_58 : decode cX4_ofMissing 58 = .ok (.irem, 1) := by decide +kernel
theorem dX4_ofMissing_59 : decode cX4_ofMissing 59 = .ok (.iload_n 2, 1) := by decide +kernel
theorem dX4_ofMissing_60 : decode cX4_ofMissing 60 = .ok (.invokevirtual 75, 3) := by decide +kernel
theorem dX4_ofMissing_63 : decode cX4_ofMissing 63 = .ok (.ireturn, 1) := by decide +kernel
set_option maxRecDepth 20000 in
theorem ggX4_count_X4_isWithin : GoodIn wsX4_count wsX4_isWithin := goodIn_r _ [7] (by decide +kernel) (by decide +kernel)
set_option maxRecDepth 20000 in
theorem gX4_count_X4_isWithin : GoodIn wsX4_count (va_wsS RX4 67 yX4_isWithin wsX4_isWithin) := goodIn_app (goodIn_of _ (by decide +kernel)) ggX4_count_X4_isWithin
theorem dX4_count_0 : decode cX4_count 0 = .ok (.iload_n 1, 1) := by decide +kernel
theorem dX4_count_1 : decode cX4_count 1 = .ok (.bipush 24, 2) := by decide +kernel
theorem dX4_count_3 : decode cX4_count 3 = .ok (.if_icmp .ne 11, 3) := by decide +kernel
theorem dX4_count_6 : decode cX4_count 6 = .ok (.aload_n 0, 1) := by decide +kernel
theorem dX4_count_7 : decode cX4_count 7 = .ok (.getfield 33, 3) := by decide +kernel
theorem dX4_count_10 : decode cX4_count 10 = .ok (.getfield 94, 3) := by decide +kernel
theorem dX4_count_13 : decode cX4_count 13 = .ok (.ireturn, 1) := by decide +kernel
theorem dX4_count_14 : decode cX4_count 14 = .ok (.iload_n 1, 1) := by decide +kernel
theorem dX4_count_15 : decode cX4_count 15 = .ok (.bipush 25, 2) := by decide +kernel
theorem dX4_count_17 : decode cX4_count 17 = .ok (.if_icmp .ne 11, 3) := by decide +kernel
theorem dX4_count_20 : decode cX4_count 20 = .ok (.aload_n 0, 1) := by decide +kernel
theorem dX4_count_21 : decode cX4_count 21 = .ok (.getfield 26, 3) := by decide +kernel
theorem dX4_count_24 : decode cX4_count 24 = .ok (.getfield 98, 3) := by decide +kernel
theorem dX4_count_27 : decode cX4_count 27 = .ok (.ireturn, 1) := by decide +kernel
theorem dX4_count_28 : decode cX4_count 28 = .ok (.iload_n 1, 1) := by decide +kernel
theorem dX4_count_29 : decode cX4_count 29 = .ok (.iconst 0, 1) := by decide +kernel
theorem dX4_count_30 : decode cX4_count 30 = .ok (.bipush 23, 2) := by decide +kernel
theorem dX4_count_32 : decode cX4_count 32 = .ok (.invokestatic 67, 3) := by decide +kernel
theorem dX4_count_35 : decode cX4_count 35 = .ok (.ifCond .eq 15, 3) := by decide +kernel
theorem dX4_count_38 : decode cX4_count 38 = .ok (.aload_n 0, 1) := by decide +kernel
theorem dX4_count_39 : decode cX4_count 39 = .ok (.getfield 10, 3) := by decide +kernel
theorem dX4_count_42 : decode cX4_count 42 = .ok (.getfield 63, 3) := by decide +kernel
theorem dX4_count_45 : decode cX4_count 45 = .ok (.iload_n 1, 1) := by decide +kernel
theorem dX4_count_46 : decode cX4_count 46 = .ok (.iaload, 1) := by decide +kernel
theorem dX4_count_47 : decode cX4_count 47 = .ok (.goto 5, 3) := by decide +kernel
theorem dX4_count_50 : decode cX4_count 50 = .ok (.bipush (-2), 2) := by decide +kernel
theorem dX4_count_52 : decode cX4_count 52 = .ok (.ireturn, 1) := by decide +kernel
set_option maxRecDepth 20000 in
theorem ggX4_shown_X2_rowsOfScreen : GoodIn wsX4_shown wsX2_rowsOfScreen := goodIn_r _ [6, 7, 8, 9, 5, 10, 11, 12, 13, 14, 27, 28, 29, 30, 31, 32] (by decide +kernel) (by decide +kernel)
set_option maxRecDepth 20000 in
theorem gX4_shown_X2_rowsOfScreen : GoodIn wsX4_shown (wsV RX4 80 RX2 yX2_rowsOfScreen wsX2_rowsOfScreen) := goodIn_app (goodIn_of _ (by decide +kernel)) ggX4_shown_X2_rowsOfScreen
set_option maxRecDepth 20000 in
theorem ggX4_shown_X3_read : GoodIn wsX4_shown wsX3_read := goodIn_r _ [19, 20, 21, 33, 34] (by decide +kernel) (by decide +kernel)
set_option maxRecDepth 20000 in
theorem gX4_shown_X3_read : GoodIn wsX4_shown (wsV RX4 75 RX3 yX3_read wsX3_read) := goodIn_app (goodIn_of _ (by decide +kernel)) ggX4_shown_X3_read
theorem dX4_shown_0 : decode cX4_shown 0 = .ok (.aload_n 0, 1) := by decide +kernel
theorem dX4_shown_1 : decode cX4_shown 1 = .ok (.getfield 10, 3) := by decide +kernel
theorem dX4_shown_4 : decode cX4_shown 4 = .ok (.invokevirtual 80, 3) := by decide +kernel
theorem dX4_shown_7 : decode cX4_shown 7 = .ok (.istore_n 1, 1) := by decide +kernel
theorem dX4_shown_8 : decode cX4_shown 8 = .ok (.iconst 0, 1) := by decide +kernel
theorem dX4_shown_9 : decode cX4_shown 9 = .ok (.istore_n 2, 1) := by decide +kernel
theorem dX4_shown_10 : decode cX4_shown 10 = .ok (.iload_n 2, 1) := by decide +kernel
theorem dX4_shown_11 : decode cX4_shown 11 = .ok (.iload_n 1, 1) := by decide +kernel
theorem dX4_shown_12 : decode cX4_shown 12 = .ok (.if_icmp .ge 26, 3) := by decide +kernel
theorem dX4_shown_15 : decode cX4_shown 15 = .ok (.aload_n 0, 1) := by decide +kernel
theorem dX4_shown_16 : decode cX4_shown 16 = .ok (.getfield 10, 3) := by decide +kernel
theorem dX4_shown_19 : decode cX4_shown 19 = .ok (.getfield 83, 3) := by decide +kernel
theorem dX4_shown_22 : decode cX4_shown 22 = .ok (.iload_n 2, 1) := by decide +kernel
theorem dX4_shown_23 : decode cX4_shown 23 = .ok (.iconst 1, 1) := by decide +kernel
theorem dX4_shown_24 : decode cX4_shown 24 = .ok (.invokevirtual 75, 3) := by decide +kernel
theorem dX4_shown_27 : decode cX4_shown 27 = .ok (.bipush (-6), 2) := by decide +kernel
theorem dX4_shown_29 : decode cX4_shown 29 = .ok (.if_icmp .eq 9, 3) := by decide +kernel
theorem dX4_shown_32 : decode cX4_shown 32 = .ok (.iinc 2 1, 3) := by decide +kernel
theorem dX4_shown_35 : decode cX4_shown 35 = .ok (.goto (-25), 3) := by decide +kernel
theorem dX4_shown_38 : decode cX4_shown 38 = .ok (.iload_n 2, 1) := by decide +kernel
theorem dX4_shown_39 : decode cX4_shown 39 = .ok (.ireturn, 1) := by decide +kernel
set_option maxRecDepth 20000 in
theorem ggX4_ratio_X2_setting : GoodIn wsX4_ratio wsX2_setting := goodIn_r _ [6, 7, 8, 9, 10, 20, 21, 22, 23, 24, 25] (by decide +kernel) (by decide +kernel)
set_option maxRecDepth 20000 in
theorem gX4_ratio_X2_setting : GoodIn wsX4_ratio (wsV RX4 101 RX2 yX2_setting wsX2_setting) := goodIn_app (goodIn_of _ (by decide +kernel)) ggX4_ratio_X2_setting
set_option maxRecDepth 20000 in
theorem ggX4_ratio_X4_bitsOf : GoodIn wsX4_ratio wsX4_bitsOf := goodIn_r _ [13, 14] (by decide +kernel) (by decide +kernel)
set_option maxRecDepth 20000 in
theorem gX4_ratio_X4_bitsOf : GoodIn wsX4_ratio (va_wsS RX4 104 yX4_bitsOf wsX4_bitsOf) := goodIn_app (goodIn_of _ (by decide +kernel)) ggX4_ratio_X4_bitsOf
theorem dX4_ratio_0 : decode cX4_ratio 0 = .ok (.iconst 2, 1) := by decide +kernel
theorem dX4_ratio_1 : decode cX4_ratio 1 = .ok (.aload_n 0, 1) := by decide +kernel
theorem dX4_ratio_2 : decode cX4_ratio 2 = .ok (.getfield 10, 3) := by decide +kernel
theorem dX4_ratio_5 : decode cX4_ratio 5 = .ok (.iconst 1, 1) := by decide +kernel
theorem dX4_ratio_6 : decode cX4_ratio 6 = .ok (.invokevirtual 101, 3) := by decide +kernel
theorem dX4_ratio_9 : decode cX4_ratio 9 = .ok (.imul, 1) := by decide +kernel
theorem dX4_ratio_10 : decode cX4_ratio 10 = .ok (.istore_n 1, 1) := by decide +kernel
theorem dX4_ratio_11 : decode cX4_ratio 11 = .ok (.iload_n 1, 1) := by decide +kernel
theorem dX4_ratio_12 : decode cX4_ratio 12 = .ok (.ifCond .gt 5, 3) := by decide +kernel
theorem dX4_ratio_15 : decode cX4_ratio 15 = .ok (.iconst 0, 1) := by decide +kernel
theorem dX4_ratio_16 : decode cX4_ratio 16 = .ok (.ireturn, 1) := by decide +kernel
theorem dX4_ratio_17 : decode cX4_ratio 17 = .ok (.aload_n 0, 1) := by decide +kernel
theorem dX4_ratio_18 : decode cX4_ratio 18 = .ok (.getfield 10, 3) := by decide +kernel
theorem dX4_ratio_21 : decode cX4_ratio 21 = .ok (.iconst 0, 1) := by decide +kernel
theorem dX4_ratio_22 : decode cX4_ratio 22 = .ok (.invokevirtual 101, 3) := by decide +kernel
theorem dX4_ratio_25 : decode cX4_ratio 25 = .ok (.i2d, 1) := by decide +kernel
theorem dX4_ratio_26 : decode cX4_ratio 26 = .ok (.iload_n 1, 1) := by decide +kernel
theorem dX4_ratio_27 : decode cX4_ratio 27 = .ok (.i2d, 1) := by decide +kernel
theorem dX4_ratio_28 : decode cX4_ratio 28 = .ok (.ddiv, 1) := by decide +kernel
theorem dX4_ratio_29 : decode cX4_ratio 29 = .ok (.d2f, 1) := by decide +kernel
theorem dX4_ratio_30 : decode cX4_ratio 30 = .ok (.fstore_n 2, 1) := by decide +kernel
theorem dX4_ratio_31 : decode cX4_ratio 31 = .ok (.fload_n 2, 1) := by decide +kernel
theorem dX4_ratio_32 : decode cX4_ratio 32 = .ok (.f2d, 1) := by decide +kernel
theorem dX4_ratio_33 : decode cX4_ratio 33 = .ok (.bipush 23, 2) := by decide +kernel
theorem dX4_ratio_35 : decode cX4_ratio 35 = .ok (.bipush 127, 2) := by decide +kernel
theorem dX4_ratio_37 : decode cX4_ratio 37 = .ok (.invokestatic 104, 3) := by decide +kernel
theorem dX4_ratio_40 : decode cX4_ratio 40 = .ok (.l2i, 1) := by decide +kernel
theorem dX4_ratio_41 : decode cX4_ratio 41 = .ok (.ireturn, 1) := by decide +kernel
set_option maxRecDepth 20000 in
theorem ggX4_fill_X4_bitsOf : GoodIn wsX4_fill wsX4_bitsOf := goodIn_r _ [5, 6] (by decide +kernel) (by decide +kernel)
set_option maxRecDepth 20000 in
theorem gX4_fill_X4_bitsOf : GoodIn wsX4_fill (va_wsS RX4 104 yX4_bitsOf wsX4_bitsOf) := goodIn_app (goodIn_of _ (by decide +kernel)) ggX4_fill_X4_bitsOf
theorem dX4_fill_0 : decode cX4_fill 0 = .ok (.aload_n 0, 1) := by decide +kernel
theorem dX4_fill_1 : decode cX4_fill 1 = .ok (.getfield 10, 3) := by decide +kernel
theorem dX4_fill_4 : decode cX4_fill 4 = .ok (.getfield 63, 3) := by decide +kernel
theorem dX4_fill_7 : decode cX4_fill 7 = .ok (.iconst 0, 1) := by decide +kernel
theorem dX4_fill_8 : decode cX4_fill 8 = .ok (.iaload, 1) := by decide +kernel
theorem dX4_fill_9 : decode cX4_fill 9 = .ok (.istore_n 1, 1) := by decide +kernel
theorem dX4_fill_10 : decode cX4_fill 10 = .ok (.iload_n 1, 1) := by decide +kernel
theorem dX4_fill_11 : decode cX4_fill 11 = .ok (.ifCond .gt 5, 3) := by decide +kernel
theorem dX4_fill_14 : decode cX4_fill 14 = .ok (.lconst 0, 1) := by decide +kernel
theorem dX4_fill_15 : decode cX4_fill 15 = .ok (.lreturn, 1) := by decide +kernel
theorem dX4_fill_16 : decode cX4_fill 16 = .ok (.aload_n 0, 1) := by decide +kernel
theorem dX4_fill_17 : decode cX4_fill 17 = .ok (.getfield 10, 3) := by decide +kernel
theorem dX4_fill_20 : decode cX4_fill 20 = .ok (.getfield 108, 3) := by decide +kernel
theorem dX4_fill_23 : decode cX4_fill 23 = .ok (.i2d, 1) := by decide +kernel
theorem dX4_fill_24 : decode cX4_fill 24 = .ok (.iload_n 1, 1) := by decide +kernel
theorem dX4_fill_25 : decode cX4_fill 25 = .ok (.i2d, 1) := by decide +kernel
theorem dX4_fill_26 : decode cX4_fill 26 = .ok (.ddiv, 1) := by decide +kernel
theorem dX4_fill_27 : decode cX4_fill 27 = .ok (.bipush 52, 2) := by decide +kernel
theorem dX4_fill_29 : decode cX4_fill 29 = .ok (.sipush 1023, 3) := by decide +kernel
theorem dX4_fill_32 : decode cX4_fill 32 = .ok (.invokestatic 104, 3) := by decide +kernel
theorem dX4_fill_35 : decode cX4_fill 35 = .ok (.lreturn, 1) := by decide +kernel
set_option maxRecDepth 20000 in
theorem ggX4_would_X4_isWithin : GoodIn wsX4_would wsX4_isWithin := goodIn_r _ [7] (by decide +kernel) (by decide +kernel)
set_option maxRecDepth 20000 in
theorem gX4_would_X4_isWithin : GoodIn wsX4_would (va_wsS RX4 67 yX4_isWithin wsX4_isWithin) := goodIn_app (goodIn_of _ (by decide +kernel)) ggX4_would_X4_isWithin
set_option maxRecDepth 20000 in
theorem ggX4_would_X2_copyFrom : GoodIn wsX4_would wsX2_copyFrom := goodIn_r _ [12, 13, 14, 15, 16, 17, 18, 19, 20, 21, 22, 23, 24, 25, 26, 27, 28, 29, 30, 31, 32, 33, 108, 109, 110, 111, 112, 113, 114, 115] (by decide +kernel) (by decide +kernel)
set_option maxRecDepth 20000 in
theorem gX4_would_X2_copyFrom : GoodIn wsX4_would (wsV RX4 111 RX2 yX2_copyFrom wsX2_copyFrom) := goodIn_app (goodIn_of _ (by decide +kernel)) ggX4_would_X2_copyFrom
set_option maxRecDepth 20000 in
theorem ggX4_would_X2_passTicks : GoodIn wsX4_would wsX2_passTicks := goodIn_r _ [37, 13, 38, 30, 31, 32, 39, 40, 41, 22, 5, 6, 7, 42, 43, 44, 11, 45, 46, 47, 48, 49, 18, 19, 50, 51, 52, 53, 54, 55, 56, 26, 57, 58, 28, 59, 60, 61, 62, 63, 64, 65, 66, 67, 68, 69, 70, 21, 71, 72, 73, 74, 33, 15, 16, 17, 75, 76, 77, 78, 79, 80, 81, 82, 83, 84, 85, 86, 87, 88, 89, 90, 20, 91, 92, 93, 94, 95, 96, 97, 98, 108, 109, 110, 111, 112, 113, 114, 115] (by decide +kernel) (by decide +kernel)
set_option maxRecDepth 20000 in
theorem gX4_would_X2_passTicks : GoodIn wsX4_would (wsV RX4 56 RX2 yX2_passTicks wsX2_passTicks) := goodIn_app (goodIn_of _ (by decide +kernel)) ggX4_would_X2_passTicks
set_option maxRecDepth 20000 in
theorem ggX4_would_X4_gainOf : GoodIn wsX4_would wsX4_gainOf := goodIn_r _ [102, 1, 2, 4, 5, 6, 7, 103, 104, 105, 106, 107, 108, 109, 110, 111, 112, 113] (by decide +kernel) (by decide +kernel)
set_option maxRecDepth 20000 in
theorem gX4_would_X4_gainOf : GoodIn wsX4_would (wsV RX4 115 RX4 yX4_gainOf wsX4_gainOf) := goodIn_app (goodIn_of _ (by decide +kernel)) ggX4_would_X4_gainOf
theorem dX4_would_0 : decode cX4_would 0 = .ok (.iload_n 1, 1) := by decide +kernel
theorem dX4_would_1 : decode cX4_would 1 = .ok (.iconst 1, 1) := by decide +kernel
theorem dX4_would_2 : decode cX4_would 2 = .ok (.sipush 999, 3) := by decide +kernel
theorem dX4_would_5 : decode cX4_would 5 = .ok (.invokestatic 67, 3) := by decide +kernel
theorem dX4_would_8 : decode cX4_would 8 = .ok (.ifCond .eq 12, 3) := by decide +kernel
theorem dX4_would_11 : decode cX4_would 11 = .ok (.iload_n 2, 1) := by decide +kernel
theorem dX4_would_12 : decode cX4_would 12 = .ok (.iconst 0, 1) := by decide +kernel
theorem dX4_would_13 : decode cX4_would 13 = .ok (.iconst 2, 1) := by decide +kernel
theorem dX4_would_14 : decode cX4_would 14 = .ok (.invokestatic 67, 3) := by decide +kernel
theorem dX4_would_17 : decode cX4_would 17 = .ok (.ifCond .ne 6, 3) := by decide +kernel
theorem dX4_would_20 : decode cX4_would 20 = .ok (.bipush (-2), 2) := by decide +kernel
theorem dX4_would_22 : decode cX4_would 22 = .ok (.ireturn, 1) := by decide +kernel
theorem dX4_would_23 : decode cX4_would 23 = .ok (.aload_n 0, 1) := by decide +kernel
theorem dX4_would_24 : decode cX4_would 24 = .ok (.getfield 16, 3) := by decide +kernel
theorem dX4_would_27 : decode cX4_would 27 = .ok (.aload_n 0, 1) := by decide +kernel
theorem dX4_would_28 : decode cX4_would 28 = .ok (.getfield 10, 3) := by decide +kernel
theorem dX4_would_31 : decode cX4_would 31 = .ok (.invokevirtual 111, 3) := by decide +kernel
theorem dX4_would_34 : decode cX4_would 34 = .ok (.aload_n 0, 1) := by decide +kernel
theorem dX4_would_35 : decode cX4_would 35 = .ok (.getfield 16, 3) := by decide +kernel
theorem dX4_would_38 : decode cX4_would 38 = .ok (.iload_n 1, 1) := by decide +kernel
theorem dX4_would_39 : decode cX4_would 39 = .ok (.ldc 114, 2) := by decide +kernel
theorem dX4_would_41 : decode cX4_would 41 = .ok (.invokevirtual 56, 3) := by decide +kernel
theorem dX4_would_44 : decode cX4_would 44 = .ok (.pop, 1) := by decide +kernel
theorem dX4_would_45 : decode cX4_would 45 = .ok (.iload_n 2, 1) := by decide +kernel
theorem dX4_would_46 : decode cX4_would 46 = .ok (.ifCond .ne 9, 3) := by decide +kernel
theorem dX4_would_49 : decode cX4_would 49 = .ok (.aload_n 0, 1) := by decide +kernel
theorem dX4_would_50 : decode cX4_would 50 = .ok (.iconst 4, 1) := by decide +kernel
theorem dX4_would_51 : decode cX4_would 51 = .ok (.invokevirtual 115, 3) := by decide +kernel
theorem dX4_would_54 : decode cX4_would 54 = .ok (.ireturn, 1) := by decide +kernel
theorem dX4_would_55 : decode cX4_would 55 = .ok (.iload_n 2, 1) := by decide +kernel
theorem dX4_would_56 : decode cX4_would 56 = .ok (.iconst 1, 1) := by decide +kernel
theorem dX4_would_57 : decode cX4_would 57 = .ok (.if_icmp .ne 12, 3) := by decide +kernel
theorem dX4_would_60 : decode cX4_would 60 = .ok (.aload_n 0, 1) := by decide +kernel
theorem dX4_would_61 : decode cX4_would 61 = .ok (.bipush 6, 2) := by decide +kernel
theorem dX4_would_63 : decode cX4_would 63 = .ok (.invokevirtual 115, 3) := by decide +kernel
theorem dX4_would_66 : decode cX4_would 66 = .ok (.goto 9, 3) := by decide +kernel
theorem dX4_would_69 : decode cX4_would 69 = .ok (.aload_n 0, 1) := by decide +kernel
theorem dX4_would_70 : decode cX4_would 70 = .ok (.bipush 12, 2) := by decide +kernel
theorem dX4_would_72 : decode cX4_would 72 = .ok (.invokevirtual 115, 3) := by decide +kernel
theorem dX4_would_75 : decode cX4_would 75 = .ok (.ireturn, 1) := by decide +kernel
set_option maxRecDepth 20000 in
theorem ggX4_leastRoom_X4_isWithin : GoodIn wsX4_leastRoom wsX4_isWithin := goodIn_r _ [9] (by decide +kernel) (by decide +kernel)
set_option maxRecDepth 20000 in
theorem gX4_leastRoom_X4_isWithin : GoodIn wsX4_leastRoom (va_wsS RX4 67 yX4_isWithin wsX4_isWithin) := goodIn_app (goodIn_of _ (by decide +kernel)) ggX4_leastRoom_X4_isWithin
set_option maxRecDepth 20000 in
theorem ggX4_leastRoom_X4_tryWith : GoodIn wsX4_leastRoom wsX4_tryWith := goodIn_r _ [13, 14, 1, 15, 16, 17, 18, 19, 20, 21, 22, 23, 24, 25, 26, 27, 28, 29, 30, 31, 32, 33, 34, 35, 36, 37, 38, 4, 39, 40, 6, 7, 8, 9, 41, 42, 43, 44, 45, 46, 3, 5, 47, 48, 49, 50, 51, 52, 53, 54, 55, 56, 57, 58, 59, 60, 61, 62, 63, 64, 65, 66, 67, 68, 69, 70, 71, 72, 73, 74, 75, 76, 77, 78, 79, 80, 81, 82, 83, 84, 85, 86, 87, 88, 89, 90, 91, 92, 93, 94, 95, 96, 97, 98, 99, 100, 101, 102, 103, 108, 109, 110, 111, 112, 113, 114, 115, 116, 117, 118, 119, 120] (by decide +kernel) (by decide +kernel)
set_option maxRecDepth 20000 in
theorem gX4_leastRoom_X4_tryWith : GoodIn wsX4_leastRoom (wsV RX4 121 RX4 yX4_tryWith wsX4_tryWith) := goodIn_app (goodIn_of _ (by decide +kernel)) ggX4_leastRoom_X4_tryWith
set_option maxRecDepth 20000 in
theorem ggX4_leastRoom_X4_gainOf : GoodIn wsX4_leastRoom wsX4_gainOf := goodIn_r _ [107, 14, 1, 6, 7, 8, 9, 108, 109, 110, 111, 112, 113, 114, 115, 116, 117, 118] (by decide +kernel) (by decide +kernel)
set_option maxRecDepth 20000 in
theorem gX4_leastRoom_X4_gainOf : GoodIn wsX4_leastRoom (wsV RX4 115 RX4 yX4_gainOf wsX4_gainOf) := goodIn_app (goodIn_of _ (by decide +kernel)) ggX4_leastRoom_X4_gainOf
theorem dX4_leastRoom_0 : decode cX4_leastRoom 0 = .ok (.iload_n 1, 1) := by decide +kernel
theorem dX4_leastRoom_1 : decode cX4_leastRoom 1 = .ok (.iconst 1, 1) := by decide +kernel
theorem dX4_leastRoom_2 : decode cX4_leastRoom 2 = .ok (.sipush 999, 3) := by decide +kernel
theorem dX4_leastRoom_5 : decode cX4_leastRoom 5 = .ok (.invokestatic 67, 3) := by decide +kernel
theorem dX4_leastRoom_8 : decode cX4_leastRoom 8 = .ok (.ifCond .ne 6, 3) := by decide +kernel
theorem dX4_leastRoom_11 : decode cX4_leastRoom 11 = .ok (.bipush (-2), 2) := by decide +kernel
theorem dX4_leastRoom_13 : decode cX4_leastRoom 13 = .ok (.ireturn, 1) := by decide +kernel
theorem dX4_leastRoom_14 : decode cX4_leastRoom 14 = .ok (.iconst 1, 1) := by decide +kernel
theorem dX4_leastRoom_15 : decode cX4_leastRoom 15 = .ok (.aload_n 0, 1) := by decide +kernel
theorem dX4_leastRoom_16 : decode cX4_leastRoom 16 = .ok (.getfield 10, 3) := by decide +kernel
theorem dX4_leastRoom_19 : decode cX4_leastRoom 19 = .ok (.getfield 63, 3) := by decide +kernel
theorem dX4_leastRoom_22 : decode cX4_leastRoom 22 = .ok (.iconst 2, 1) := by decide +kernel
theorem dX4_leastRoom_23 : decode cX4_leastRoom 23 = .ok (.iaload, 1) := by decide +kernel
theorem dX4_leastRoom_24 : decode cX4_leastRoom 24 = .ok (.invokestatic 118, 3) := by decide +kernel
theorem dX4_leastRoom_27 : decode cX4_leastRoom 27 = .ok (.istore_n 2, 1) := by decide +kernel
theorem dX4_leastRoom_28 : decode cX4_leastRoom 28 = .ok (.iload_n 2, 1) := by decide +kernel
theorem dX4_leastRoom_29 : decode cX4_leastRoom 29 = .ok (.bipush 16, 2) := by decide +kernel
theorem dX4_leastRoom_31 : decode cX4_leastRoom 31 = .ok (.if_icmp .gt 26, 3) := by decide +kernel
theorem dX4_leastRoom_34 : decode cX4_leastRoom 34 = .ok (.aload_n 0, 1) := by decide +kernel
theorem dX4_leastRoom_35 : decode cX4_leastRoom 35 = .ok (.iconst 2, 1) := by decide +kernel
theorem dX4_leastRoom_36 : decode cX4_leastRoom 36 = .ok (.iload_n 2, 1) := by decide +kernel
theorem dX4_leastRoom_37 : decode cX4_leastRoom 37 = .ok (.iload_n 1, 1) := by decide +kernel
theorem dX4_leastRoom_38 : decode cX4_leastRoom 38 = .ok (.invokevirtual 121, 3) := by decide +kernel
theorem dX4_leastRoom_41 : decode cX4_leastRoom 41 = .ok (.aload_n 0, 1) := by decide +kernel
theorem dX4_leastRoom_42 : decode cX4_leastRoom 42 = .ok (.iconst 4, 1) := by decide +kernel
theorem dX4_leastRoom_43 : decode cX4_leastRoom 43 = .ok (.invokevirtual 115, 3) := by decide +kernel
theorem dX4_leastRoom_46 : decode cX4_leastRoom 46 = .ok (.ifCond .ne 5, 3) := by decide +kernel
theorem dX4_leastRoom_49 : decode cX4_leastRoom 49 = .ok (.iload_n 2, 1) := by decide +kernel
theorem dX4_leastRoom_50 : decode cX4_leastRoom 50 = .ok (.ireturn, 1) := by decide +kernel
theorem dX4_leastRoom_51 : decode cX4_leastRoom 51 = .ok (.iinc 2 1, 3) := by decide +kernel
theorem dX4_leastRoom_54 : decode cX4_leastRoom 54 = .ok (.goto (-26), 3) := by decide +kernel
theorem dX4_leastRoom_57 : decode cX4_leastRoom 57 = .ok (.bipush (-6), 2) := by decide +kernel
theorem dX4_leastRoom_59 : decode cX4_leastRoom 59 = .ok (.ireturn, 1) := by decide +kernel
set_option maxRecDepth 20000 in
theorem ggX4_bestOut_X4_isWithin : GoodIn wsX4_bestOut wsX4_isWithin := goodIn_r _ [5] (by decide +kernel) (by decide +kernel)
set_option maxRecDepth 20000 in
theorem gX4_bestOut_X4_isWithin : GoodIn wsX4_bestOut (va_wsS RX4 67 yX4_isWithin wsX4_isWithin) := goodIn_app (goodIn_of _ (by decide +kernel)) ggX4_bestOut_X4_isWithin
set_option maxRecDepth 20000 in
theorem ggX4_bestOut_X4_tryWith : GoodIn wsX4_bestOut wsX4_tryWith := goodIn_r _ [9, 10, 11, 1, 12, 13, 14, 15, 16, 17, 18, 19, 20, 21, 22, 23, 24, 25, 26, 27, 28, 29, 30, 31, 32, 33, 34, 35, 36, 37, 2, 3, 4, 5, 38, 39, 40, 41, 42, 43, 44, 45, 46, 47, 48, 49, 50, 51, 52, 53, 54, 55, 56, 57, 58, 59, 60, 61, 62, 63, 64, 65, 66, 67, 68, 69, 70, 71, 72, 73, 74, 75, 76, 77, 78, 79, 80, 81, 82, 83, 84, 85, 86, 87, 88, 89, 90, 91, 92, 93, 94, 95, 96, 97, 98, 99, 100, 101, 102, 107, 108, 109, 110, 111, 112, 113, 114, 115, 116, 117, 118, 119] (by decide +kernel) (by decide +kernel)
set_option maxRecDepth 20000 in
theorem gX4_bestOut_X4_tryWith : GoodIn wsX4_bestOut (wsV RX4 121 RX4 yX4_tryWith wsX4_tryWith) := goodIn_app (goodIn_of _ (by decide +kernel)) ggX4_bestOut_X4_tryWith
set_option maxRecDepth 20000 in
theorem ggX4_bestOut_X4_gainOf : GoodIn wsX4_bestOut wsX4_gainOf := goodIn_r _ [106, 10, 11, 2, 3, 4, 5, 107, 108, 109, 110, 111, 112, 113, 114, 115, 116, 117] (by decide +kernel) (by decide +kernel)
set_option maxRecDepth 20000 in
theorem gX4_bestOut_X4_gainOf : GoodIn wsX4_bestOut (wsV RX4 115 RX4 yX4_gainOf wsX4_gainOf) := goodIn_app (goodIn_of _ (by decide +kernel)) ggX4_bestOut_X4_gainOf
theorem dX4_bestOut_0 : decode cX4_bestOut 0 = .ok (.iload_n 1, 1) := by decide +kernel
theorem dX4_bestOut_1 : decode cX4_bestOut 1 = .ok (.iconst 1, 1) := by decide +kernel
theorem dX4_bestOut_2 : decode cX4_bestOut 2 = .ok (.sipush 999, 3) := by decide +kernel
theorem dX4_bestOut_5 : decode cX4_bestOut 5 = .ok (.invokestatic 67, 3) := by decide +kernel
theorem dX4_bestOut_8 : decode cX4_bestOut 8 = .ok (.ifCond .eq 12, 3) := by decide +kernel
theorem dX4_bestOut_11 : decode cX4_bestOut 11 = .ok (.iload_n 2, 1) := by decide +kernel
theorem dX4_bestOut_12 : decode cX4_bestOut 12 = .ok (.iconst 0, 1) := by decide +kernel
theorem dX4_bestOut_13 : decode cX4_bestOut 13 = .ok (.iconst 1, 1) := by decide +kernel
theorem dX4_bestOut_14 : decode cX4_bestOut 14 = .ok (.invokestatic 67, 3) := by decide +kernel
theorem dX4_bestOut_17 : decode cX4_bestOut 17 = .ok (.ifCond .ne 6, 3) := by decide +kernel
theorem dX4_bestOut_20 : decode cX4_bestOut 20 = .ok (.bipush (-2), 2) := by decide +kernel
theorem dX4_bestOut_22 : decode cX4_bestOut 22 = .ok (.ireturn, 1) := by decide +kernel
theorem dX4_bestOut_23 : decode cX4_bestOut 23 = .ok (.iconst 0, 1) := by decide +kernel
theorem dX4_bestOut_24 : decode cX4_bestOut 24 = .ok (.istore_n 3, 1) := by decide +kernel
theorem dX4_bestOut_25 : decode cX4_bestOut 25 = .ok (.ldc 114, 2) := by decide +kernel
theorem dX4_bestOut_27 : decode cX4_bestOut 27 = .ok (.istore 4, 2) := by decide +kernel
theorem dX4_bestOut_29 : decode cX4_bestOut 29 = .ok (.iconst 1, 1) := by decide +kernel
theorem dX4_bestOut_30 : decode cX4_bestOut 30 = .ok (.istore 5, 2) := by decide +kernel
theorem dX4_bestOut_32 : decode cX4_bestOut 32 = .ok (.iload 5, 2) := by decide +kernel
theorem dX4_bestOut_34 : decode cX4_bestOut 34 = .ok (.bipush 99, 2) := by decide +kernel
theorem dX4_bestOut_36 : decode cX4_bestOut 36 = .ok (.if_icmp .gt 45, 3) := by decide +kernel
theorem dX4_bestOut_39 : decode cX4_bestOut 39 = .ok (.aload_n 0, 1) := by decide +kernel
theorem dX4_bestOut_40 : decode cX4_bestOut 40 = .ok (.iconst 1, 1) := by decide +kernel
theorem dX4_bestOut_41 : decode cX4_bestOut 41 = .ok (.iload 5, 2) := by decide +kernel
theorem dX4_bestOut_43 : decode cX4_bestOut 43 = .ok (.iload_n 1, 1) := by decide +kernel
theorem dX4_bestOut_44 : decode cX4_bestOut 44 = .ok (.invokevirtual 121, 3) := by decide +kernel
theorem dX4_bestOut_47 : decode cX4_bestOut 47 = .ok (.aload_n 0, 1) := by decide +kernel
theorem dX4_bestOut_48 : decode cX4_bestOut 48 = .ok (.iconst 4, 1) := by decide +kernel
theorem dX4_bestOut_49 : decode cX4_bestOut 49 = .ok (.invokevirtual 115, 3) := by decide +kernel
theorem dX4_bestOut_52 : decode cX4_bestOut 52 = .ok (.aload_n 0, 1) := by decide +kernel
theorem dX4_bestOut_53 : decode cX4_bestOut 53 = .ok (.bipush 6, 2) := by decide +kernel
theorem dX4_bestOut_55 : decode cX4_bestOut 55 = .ok (.invokevirtual 115, 3) := by decide +kernel
theorem dX4_bestOut_58 : decode cX4_bestOut 58 = .ok (.iadd, 1) := by decide +kernel
theorem dX4_bestOut_59 : decode cX4_bestOut 59 = .ok (.istore 6, 2) := by decide +kernel
theorem dX4_bestOut_61 : decode cX4_bestOut 61 = .ok (.iload 6, 2) := by decide +kernel
theorem dX4_bestOut_63 : decode cX4_bestOut 63 = .ok (.iload 4, 2) := by decide +kernel
theorem dX4_bestOut_65 : decode cX4_bestOut 65 = .ok (.if_icmp .ge 10, 3) := by decide +kernel
theorem dX4_bestOut_68 : decode cX4_bestOut 68 = .ok (.iload 5, 2) := by decide +kernel
theorem dX4_bestOut_70 : decode cX4_bestOut 70 = .ok (.istore_n 3, 1) := by decide +kernel
theorem dX4_bestOut_71 : decode cX4_bestOut 71 = .ok (.iload 6, 2) := by decide +kernel
theorem dX4_bestOut_73 : decode cX4_bestOut 73 = .ok (.istore 4, 2) := by decide +kernel
theorem dX4_bestOut_75 : decode cX4_bestOut 75 = .ok (.iinc 5 1, 3) := by decide +kernel
theorem dX4_bestOut_78 : decode cX4_bestOut 78 = .ok (.goto (-46), 3) := by decide +kernel
theorem dX4_bestOut_81 : decode cX4_bestOut 81 = .ok (.iload_n 2, 1) := by decide +kernel
theorem dX4_bestOut_82 : decode cX4_bestOut 82 = .ok (.ifCond .ne 7, 3) := by decide +kernel
theorem dX4_bestOut_85 : decode cX4_bestOut 85 = .ok (.iload_n 3, 1) := by decide +kernel
theorem dX4_bestOut_86 : decode cX4_bestOut 86 = .ok (.goto 5, 3) := by decide +kernel
theorem dX4_bestOut_89 : decode cX4_bestOut 89 = .ok (.iload 4, 2) := by decide +kernel
theorem dX4_bestOut_91 : decode cX4_bestOut 91 = .ok (.ireturn, 1) := by decide +kernel
set_option maxRecDepth 20000 in
theorem ggX4_put_X4_charactersIn : GoodIn wsX4_put wsX4_charactersIn := goodIn_r _ [5, 6, 7, 8, 4, 9] (by decide +kernel) (by decide +kernel)
set_option maxRecDepth 20000 in
theorem gX4_put_X4_charactersIn : GoodIn wsX4_put (va_wsS RX4 125 yX4_charactersIn wsX4_charactersIn) := goodIn_app (goodIn_of _ (by decide +kernel)) ggX4_put_X4_charactersIn
set_option maxRecDepth 20000 in
theorem ggX4_put_X1_append : GoodIn wsX4_put wsX1_append := goodIn_r _ [14, 15, 16, 17, 23, 24, 25, 26, 27, 28] (by decide +kernel) (by decide +kernel)
set_option maxRecDepth 20000 in
theorem gX4_put_X1_append : GoodIn wsX4_put (wsV RX4 129 RX1 yX1_append wsX1_append) := goodIn_app (goodIn_of _ (by decide +kernel)) ggX4_put_X1_append
theorem dX4_put_0 : decode cX4_put 0 = .ok (.lload_n 1, 1) := by decide +kernel
theorem dX4_put_1 : decode cX4_put 1 = .ok (.invokestatic 125, 3) := by decide +kernel
theorem dX4_put_4 : decode cX4_put 4 = .ok (.istore_n 3, 1) := by decide +kernel
theorem dX4_put_5 : decode cX4_put 5 = .ok (.iload_n 3, 1) := by decide +kernel
theorem dX4_put_6 : decode cX4_put 6 = .ok (.ifCond .ne 6, 3) := by decide +kernel
theorem dX4_put_9 : decode cX4_put 9 = .ok (.bipush (-2), 2) := by decide +kernel
theorem dX4_put_11 : decode cX4_put 11 = .ok (.ireturn, 1) := by decide +kernel
theorem dX4_put_12 : decode cX4_put 12 = .ok (.aload_n 0, 1) := by decide +kernel
theorem dX4_put_13 : decode cX4_put 13 = .ok (.getfield 33, 3) := by decide +kernel
theorem dX4_put_16 : decode cX4_put 16 = .ok (.getfield 94, 3) := by decide +kernel
theorem dX4_put_19 : decode cX4_put 19 = .ok (.iload_n 3, 1) := by decide +kernel
theorem dX4_put_20 : decode cX4_put 20 = .ok (.iadd, 1) := by decide +kernel
theorem dX4_put_21 : decode cX4_put 21 = .ok (.bipush 80, 2) := by decide +kernel
theorem dX4_put_23 : decode cX4_put 23 = .ok (.if_icmp .le 6, 3) := by decide +kernel
theorem dX4_put_26 : decode cX4_put 26 = .ok (.bipush (-4), 2) := by decide +kernel
theorem dX4_put_28 : decode cX4_put 28 = .ok (.ireturn, 1) := by decide +kernel
theorem dX4_put_29 : decode cX4_put 29 = .ok (.aload_n 0, 1) := by decide +kernel
theorem dX4_put_30 : decode cX4_put 30 = .ok (.getfield 33, 3) := by decide +kernel
theorem dX4_put_33 : decode cX4_put 33 = .ok (.lload_n 1, 1) := by decide +kernel
theorem dX4_put_34 : decode cX4_put 34 = .ok (.iload_n 3, 1) := by decide +kernel
theorem dX4_put_35 : decode cX4_put 35 = .ok (.invokevirtual 129, 3) := by decide +kernel
theorem dX4_put_38 : decode cX4_put 38 = .ok (.aload_n 0, 1) := by decide +kernel
theorem dX4_put_39 : decode cX4_put 39 = .ok (.getfield 33, 3) := by decide +kernel
theorem dX4_put_42 : decode cX4_put 42 = .ok (.getfield 94, 3) := by decide +kernel
theorem dX4_put_45 : decode cX4_put 45 = .ok (.ireturn, 1) := by decide +kernel
theorem dX4_wipe_0 : decode cX4_wipe 0 = .ok (.aload_n 0, 1) := by decide +kernel
theorem dX4_wipe_1 : decode cX4_wipe 1 = .ok (.getfield 33, 3) := by decide +kernel
theorem dX4_wipe_4 : decode cX4_wipe 4 = .ok (.getfield 94, 3) := by decide +kernel
theorem dX4_wipe_7 : decode cX4_wipe 7 = .ok (.istore_n 1, 1) := by decide +kernel
theorem dX4_wipe_8 : decode cX4_wipe 8 = .ok (.aload_n 0, 1) := by decide +kernel
theorem dX4_wipe_9 : decode cX4_wipe 9 = .ok (.getfield 33, 3) := by decide +kernel
theorem dX4_wipe_12 : decode cX4_wipe 12 = .ok (.iconst 0, 1) := by decide +kernel
theorem dX4_wipe_13 : decode cX4_wipe 13 = .ok (.putfield 94, 3) := by decide +kernel
theorem dX4_wipe_16 : decode cX4_wipe 16 = .ok (.iload_n 1, 1) := by decide +kernel
theorem dX4_wipe_17 : decode cX4_wipe 17 = .ok (.ireturn, 1) := by decide +kernel
set_option maxRecDepth 20000 in
theorem ggX4_fault_X1_findFault : GoodIn wsX4_fault wsX1_findFault := goodIn_r _ [6, 7, 8, 9, 10, 11, 5, 12, 13, 14, 15, 16, 17, 18, 19, 20, 21, 22, 23, 24, 25, 26, 27, 28, 29, 30, 31, 32, 33, 34, 40, 41, 42, 43, 44, 45] (by decide +kernel) (by decide +kernel)
set_option maxRecDepth 20000 in
theorem gX4_fault_X1_findFault : GoodIn wsX4_fault (wsV RX4 133 RX1 yX1_findFault wsX1_findFault) := goodIn_app (goodIn_of _ (by decide +kernel)) ggX4_fault_X1_findFault
theorem dX4_fault_0 : decode cX4_fault 0 = .ok (.aload_n 0, 1) := by decide +kernel
theorem dX4_fault_1 : decode cX4_fault 1 = .ok (.getfield 33, 3) := by decide +kernel
theorem dX4_fault_4 : decode cX4_fault 4 = .ok (.invokevirtual 133, 3) := by decide +kernel
theorem dX4_fault_7 : decode cX4_fault 7 = .ok (.ireturn, 1) := by decide +kernel
set_option maxRecDepth 20000 in
theorem ggX4_carryOut_X1_findFault : GoodIn wsX4_carryOut wsX1_findFault := goodIn_r _ [8, 9, 10, 11, 12, 13, 7, 14, 15, 16, 17, 18, 19, 20, 21, 22, 23, 24, 25, 26, 27, 28, 29, 30, 31, 32, 33, 34, 35, 36, 185, 186, 187, 188, 189, 190] (by decide +kernel) (by decide +kernel)
set_option maxRecDepth 20000 in
theorem gX4_carryOut_X1_findFault : GoodIn wsX4_carryOut (wsV RX4 133 RX1 yX1_findFault wsX1_findFault) := goodIn_app (goodIn_of _ (by decide +kernel)) ggX4_carryOut_X1_findFault
set_option maxRecDepth 20000 in
theorem ggX4_carryOut_X0_prepare : GoodIn wsX4_carryOut wsX0_prepare := goodIn_r _ [41, 42, 43, 44, 45, 46, 47, 48, 49, 50, 51, 52, 53, 54, 55, 56, 57, 58, 59, 60, 61, 62, 63, 64, 65, 66, 67, 68, 69, 70, 71, 72, 73, 74, 75, 76, 77, 78, 79, 80, 81, 82, 83, 84, 85, 86, 87, 88, 89, 90, 91, 92, 191, 192, 193, 194, 195, 196, 197, 198, 199, 200, 201] (by decide +kernel) (by decide +kernel)
set_option maxRecDepth 20000 in
theorem gX4_carryOut_X0_prepare : GoodIn wsX4_carryOut (wsV RX4 37 RX0 yX0_prepare wsX0_prepare) := goodIn_app (goodIn_of _ (by decide +kernel)) ggX4_carryOut_X0_prepare
set_option maxRecDepth 20000 in
theorem ggX4_carryOut_X1_readOrder : GoodIn wsX4_carryOut wsX1_readOrder := goodIn_r _ [14, 15, 9, 16, 17, 18, 19, 20, 7, 21, 10, 22, 23, 24, 25, 26, 27, 28, 29, 30, 31, 32, 33, 34, 35, 36, 185, 186, 187, 188, 189, 190] (by decide +kernel) (by decide +kernel)
set_option maxRecDepth 20000 in
theorem gX4_carryOut_X1_readOrder : GoodIn wsX4_carryOut (wsV RX4 139 RX1 yX1_readOrder wsX1_readOrder) := goodIn_app (goodIn_of _ (by decide +kernel)) ggX4_carryOut_X1_readOrder
set_option maxRecDepth 20000 in
theorem ggX4_carryOut_X4_carryOutOrder : GoodIn wsX4_carryOut wsX4_carryOutOrder := goodIn_r _ [97, 1, 3, 98, 99, 100, 101, 50, 102, 58, 103, 46, 104, 105, 106, 107, 108, 59, 109, 110, 111, 112, 113, 90, 73, 91, 114, 72, 74, 84, 115, 116, 117, 118, 119, 120, 121, 122, 63, 123, 124, 125, 126, 127, 128, 129, 62, 130, 70, 75, 131, 132, 133, 134, 135, 136, 137, 138, 139, 140, 141, 142, 65, 143, 144, 145, 146, 92, 81, 82, 83, 147, 148, 149, 150, 151, 152, 153, 154, 155, 156, 157, 158, 159, 160, 161, 162, 64, 163, 164, 165, 166, 167, 168, 169, 170, 171, 172, 173, 174, 180, 181, 182, 183, 184, 185, 186, 187, 188, 189, 190, 194, 195, 196, 197, 198, 199, 200, 201] (by decide +kernel) (by decide +kernel)
set_option maxRecDepth 20000 in
theorem gX4_carryOut_X4_carryOutOrder : GoodIn wsX4_carryOut (wsV RX4 143 RX4 yX4_carryOutOrder wsX4_carryOutOrder) := goodIn_app (goodIn_of _ (by decide +kernel)) ggX4_carryOut_X4_carryOutOrder
set_option maxRecDepth 20000 in
theorem ggX4_carryOut_X1_readSign : GoodIn wsX4_carryOut wsX1_readSign := goodIn_r _ [36, 9, 18, 19, 20, 7, 21, 10, 22, 185, 186, 187, 188, 189, 190] (by decide +kernel) (by decide +kernel)
set_option maxRecDepth 20000 in
theorem gX4_carryOut_X1_readSign : GoodIn wsX4_carryOut (wsV RX4 146 RX1 yX1_readSign wsX1_readSign) := goodIn_app (goodIn_of _ (by decide +kernel)) ggX4_carryOut_X1_readSign
set_option maxRecDepth 20000 in
theorem ggX4_carryOut_X0_keepIfDone : GoodIn wsX4_carryOut wsX0_keepIfDone := goodIn_r _ [179, 44, 43, 191, 192, 193] (by decide +kernel) (by decide +kernel)
set_option maxRecDepth 20000 in
theorem gX4_carryOut_X0_keepIfDone : GoodIn wsX4_carryOut (wsV RX4 45 RX0 yX0_keepIfDone wsX0_keepIfDone) := goodIn_app (goodIn_of _ (by decide +kernel)) ggX4_carryOut_X0_keepIfDone
theorem dX4_carryOut_0 : decode cX4_carryOut 0 = .ok (.aload_n 0, 1) := by decide +kernel
theorem dX4_carryOut_1 : decode cX4_carryOut 1 = .ok (.getfield 33, 3) := by decide +kernel
theorem dX4_carryOut_4 : decode cX4_carryOut 4 = .ok (.invokevirtual 133, 3) := by decide +kernel
theorem dX4_carryOut_7 : decode cX4_carryOut 7 = .ok (.bipush (-6), 2) := by decide +kernel
theorem dX4_carryOut_9 : decode cX4_carryOut 9 = .ok (.if_icmp .eq 6, 3) := by decide +kernel
theorem dX4_carryOut_12 : decode cX4_carryOut 12 = .ok (.bipush (-3), 2) := by decide +kernel
theorem dX4_carryOut_14 : decode cX4_carryOut 14 = .ok (.ireturn, 1) := by decide +kernel
theorem dX4_carryOut_15 : decode cX4_carryOut 15 = .ok (.aload_n 0, 1) := by decide +kernel
theorem dX4_carryOut_16 : decode cX4_carryOut 16 = .ok (.getfield 26, 3) := by decide +kernel
theorem dX4_carryOut_19 : decode cX4_carryOut 19 = .ok (.aload_n 0, 1) := by decide +kernel
theorem dX4_carryOut_20 : decode cX4_carryOut 20 = .ok (.getfield 10, 3) := by decide +kernel
theorem dX4_carryOut_23 : decode cX4_carryOut 23 = .ok (.invokevirtual 37, 3) := by decide +kernel
theorem dX4_carryOut_26 : decode cX4_carryOut 26 = .ok (.iconst 0, 1) := by decide +kernel
theorem dX4_carryOut_27 : decode cX4_carryOut 27 = .ok (.istore_n 1, 1) := by decide +kernel
theorem dX4_carryOut_28 : decode cX4_carryOut 28 = .ok (.iconst 1, 1) := by decide +kernel
theorem dX4_carryOut_29 : decode cX4_carryOut 29 = .ok (.istore_n 2, 1) := by decide +kernel
theorem dX4_carryOut_30 : decode cX4_carryOut 30 = .ok (.aload_n 0, 1) := by decide +kernel
theorem dX4_carryOut_31 : decode cX4_carryOut 31 = .ok (.getfield 33, 3) := by decide +kernel
theorem dX4_carryOut_34 : decode cX4_carryOut 34 = .ok (.iconst 0, 1) := by decide +kernel
theorem dX4_carryOut_35 : decode cX4_carryOut 35 = .ok (.putfield 136, 3) := by decide +kernel
theorem dX4_carryOut_38 : decode cX4_carryOut 38 = .ok (.iconst 0, 1) := by decide +kernel
theorem dX4_carryOut_39 : decode cX4_carryOut 39 = .ok (.istore_n 3, 1) := by decide +kernel
theorem dX4_carryOut_40 : decode cX4_carryOut 40 = .ok (.iload_n 2, 1) := by decide +kernel
theorem dX4_carryOut_41 : decode cX4_carryOut 41 = .ok (.ifCond .eq 55, 3) := by decide +kernel
theorem dX4_carryOut_44 : decode cX4_carryOut 44 = .ok (.iload_n 3, 1) := by decide +kernel
theorem dX4_carryOut_45 : decode cX4_carryOut 45 = .ok (.bipush 80, 2) := by decide +kernel
theorem dX4_carryOut_47 : decode cX4_carryOut 47 = .ok (.if_icmp .ge 49, 3) := by decide +kernel
theorem dX4_carryOut_50 : decode cX4_carryOut 50 = .ok (.aload_n 0, 1) := by decide +kernel
theorem dX4_carryOut_51 : decode cX4_carryOut 51 = .ok (.getfield 33, 3) := by decide +kernel
theorem dX4_carryOut_54 : decode cX4_carryOut 54 = .ok (.invokevirtual 139, 3) := by decide +kernel
theorem dX4_carryOut_57 : decode cX4_carryOut 57 = .ok (.ifCond .eq 14, 3) := by decide +kernel
theorem dX4_carryOut_60 : decode cX4_carryOut 60 = .ok (.aload_n 0, 1) := by decide +kernel
theorem dX4_carryOut_61 : decode cX4_carryOut 61 = .ok (.invokevirtual 143, 3) := by decide +kernel
theorem dX4_carryOut_64 : decode cX4_carryOut 64 = .ok (.ifCond .lt 7, 3) := by decide +kernel
theorem dX4_carryOut_67 : decode cX4_carryOut 67 = .ok (.iconst 1, 1) := by decide +kernel
theorem dX4_carryOut_68 : decode cX4_carryOut 68 = .ok (.goto 4, 3) := by decide +kernel
theorem dX4_carryOut_71 : decode cX4_carryOut 71 = .ok (.iconst 0, 1) := by decide +kernel
theorem dX4_carryOut_72 : decode cX4_carryOut 72 = .ok (.istore_n 2, 1) := by decide +kernel
theorem dX4_carryOut_73 : decode cX4_carryOut 73 = .ok (.iload_n 2, 1) := by decide +kernel
theorem dX4_carryOut_74 : decode cX4_carryOut 74 = .ok (.ifCond .eq 16, 3) := by decide +kernel
theorem dX4_carryOut_77 : decode cX4_carryOut 77 = .ok (.iinc 1 1, 3) := by decide +kernel
theorem dX4_carryOut_80 : decode cX4_carryOut 80 = .ok (.aload_n 0, 1) := by decide +kernel
theorem dX4_carryOut_81 : decode cX4_carryOut 81 = .ok (.getfield 33, 3) := by decide +kernel
theorem dX4_carryOut_84 : decode cX4_carryOut 84 = .ok (.bipush 59, 2) := by decide +kernel
theorem dX4_carryOut_86 : decode cX4_carryOut 86 = .ok (.invokevirtual 146, 3) := by decide +kernel
theorem dX4_carryOut_89 : decode cX4_carryOut 89 = .ok (.istore_n 2, 1) := by decide +kernel
theorem dX4_carryOut_90 : decode cX4_carryOut 90 = .ok (.iinc 3 1, 3) := by decide +kernel
theorem dX4_carryOut_93 : decode cX4_carryOut 93 = .ok (.goto (-53), 3) := by decide +kernel
theorem dX4_carryOut_96 : decode cX4_carryOut 96 = .ok (.aload_n 0, 1) := by decide +kernel
theorem dX4_carryOut_97 : decode cX4_carryOut 97 = .ok (.getfield 33, 3) := by decide +kernel
theorem dX4_carryOut_100 : decode cX4_carryOut 100 = .ok (.iconst 0, 1) := by decide +kernel
theorem dX4_carryOut_101 : decode cX4_carryOut 101 = .ok (.putfield 94, 3) := by decide +kernel
theorem dX4_carryOut_104 : decode cX4_carryOut 104 = .ok (.aload_n 0, 1) := by decide +kernel
theorem dX4_carryOut_105 : decode cX4_carryOut 105 = .ok (.getfield 26, 3) := by decide +kernel
theorem dX4_carryOut_108 : decode cX4_carryOut 108 = .ok (.iload_n 1, 1) := by decide +kernel
theorem dX4_carryOut_109 : decode cX4_carryOut 109 = .ok (.invokevirtual 45, 3) := by decide +kernel
theorem dX4_carryOut_112 : decode cX4_carryOut 112 = .ok (.ireturn, 1) := by decide +kernel
set_option maxRecDepth 20000 in
theorem ggX4_undo_X0_takeLatest : GoodIn wsX4_undo wsX0_takeLatest := goodIn_r _ [7, 8, 9, 10, 42, 43, 44] (by decide +kernel) (by decide +kernel)
set_option maxRecDepth 20000 in
theorem gX4_undo_X0_takeLatest : GoodIn wsX4_undo (wsV RX4 150 RX0 yX0_takeLatest wsX0_takeLatest) := goodIn_app (goodIn_of _ (by decide +kernel)) ggX4_undo_X0_takeLatest
set_option maxRecDepth 20000 in
theorem ggX4_undo_X2_copyFrom : GoodIn wsX4_undo wsX2_copyFrom := goodIn_r _ [15, 16, 17, 18, 19, 20, 21, 22, 23, 24, 25, 26, 27, 28, 29, 30, 31, 32, 33, 34, 35, 36, 45, 46, 47, 48, 49, 50, 51, 52] (by decide +kernel) (by decide +kernel)
set_option maxRecDepth 20000 in
theorem gX4_undo_X2_copyFrom : GoodIn wsX4_undo (wsV RX4 111 RX2 yX2_copyFrom wsX2_copyFrom) := goodIn_app (goodIn_of _ (by decide +kernel)) ggX4_undo_X2_copyFrom
theorem dX4_undo_0 : decode cX4_undo 0 = .ok (.aload_n 0, 1) := by decide +kernel
theorem dX4_undo_1 : decode cX4_undo 1 = .ok (.getfield 26, 3) := by decide +kernel
theorem dX4_undo_4 : decode cX4_undo 4 = .ok (.invokevirtual 150, 3) := by decide +kernel
theorem dX4_undo_7 : decode cX4_undo 7 = .ok (.astore_n 1, 1) := by decide +kernel
theorem dX4_undo_8 : decode cX4_undo 8 = .ok (.aload_n 1, 1) := by decide +kernel
theorem dX4_undo_9 : decode cX4_undo 9 = .ok (.ifnonnull 6, 3) := by decide +kernel
theorem dX4_undo_12 : decode cX4_undo 12 = .ok (.bipush (-5), 2) := by decide +kernel
theorem dX4_undo_14 : decode cX4_undo 14 = .ok (.ireturn, 1) := by decide +kernel
theorem dX4_undo_15 : decode cX4_undo 15 = .ok (.aload_n 0, 1) := by decide +kernel
theorem dX4_undo_16 : decode cX4_undo 16 = .ok (.getfield 10, 3) := by decide +kernel
theorem dX4_undo_19 : decode cX4_undo 19 = .ok (.aload_n 1, 1) := by decide +kernel
theorem dX4_undo_20 : decode cX4_undo 20 = .ok (.invokevirtual 111, 3) := by decide +kernel
theorem dX4_undo_23 : decode cX4_undo 23 = .ok (.aload_n 0, 1) := by decide +kernel
theorem dX4_undo_24 : decode cX4_undo 24 = .ok (.getfield 26, 3) := by decide +kernel
theorem dX4_undo_27 : decode cX4_undo 27 = .ok (.getfield 98, 3) := by decide +kernel
theorem dX4_undo_30 : decode cX4_undo 30 = .ok (.ireturn, 1) := by decide +kernel
set_option maxRecDepth 20000 in
theorem ggX4_save_X4_isWithin : GoodIn wsX4_save wsX4_isWithin := goodIn_r _ [6] (by decide +kernel) (by decide +kernel)
set_option maxRecDepth 20000 in
theorem gX4_save_X4_isWithin : GoodIn wsX4_save (va_wsS RX4 67 yX4_isWithin wsX4_isWithin) := goodIn_app (goodIn_of _ (by decide +kernel)) ggX4_save_X4_isWithin
set_option maxRecDepth 20000 in
theorem ggX4_save_X4_keepCopy : GoodIn wsX4_save wsX4_keepCopy := goodIn_r _ [9, 10, 11, 12, 13, 14, 15, 16, 17, 18, 19, 20, 21, 22, 23, 24, 25, 26, 27, 28, 29, 30, 31, 32, 33, 34, 35, 36, 37, 38, 39, 40, 41, 42, 43, 44, 45, 46, 47, 48, 49, 50, 51, 52, 53, 54, 60, 61, 62, 63, 64, 65, 66, 67] (by decide +kernel) (by decide +kernel)
set_option maxRecDepth 20000 in
theorem gX4_save_X4_keepCopy : GoodIn wsX4_save (va_wsS RX4 154 yX4_keepCopy wsX4_keepCopy) := goodIn_app (goodIn_of _ (by decide +kernel)) ggX4_save_X4_keepCopy
theorem dX4_save_0 : decode cX4_save 0 = .ok (.iload_n 1, 1) := by decide +kernel
theorem dX4_save_1 : decode cX4_save 1 = .ok (.iconst 0, 1) := by decide +kernel
theorem dX4_save_2 : decode cX4_save 2 = .ok (.iconst 1, 1) := by decide +kernel
theorem dX4_save_3 : decode cX4_save 3 = .ok (.invokestatic 67, 3) := by decide +kernel
theorem dX4_save_6 : decode cX4_save 6 = .ok (.ifCond .ne 6, 3) := by decide +kernel
theorem dX4_save_9 : decode cX4_save 9 = .ok (.bipush (-2), 2) := by decide +kernel
theorem dX4_save_11 : decode cX4_save 11 = .ok (.ireturn, 1) := by decide +kernel
theorem dX4_save_12 : decode cX4_save 12 = .ok (.aload_n 0, 1) := by decide +kernel
theorem dX4_save_13 : decode cX4_save 13 = .ok (.getfield 19, 3) := by decide +kernel
theorem dX4_save_16 : decode cX4_save 16 = .ok (.iload_n 1, 1) := by decide +kernel
theorem dX4_save_17 : decode cX4_save 17 = .ok (.aload_n 0, 1) := by decide +kernel
theorem dX4_save_18 : decode cX4_save 18 = .ok (.getfield 10, 3) := by decide +kernel
theorem dX4_save_21 : decode cX4_save 21 = .ok (.invokestatic 154, 3) := by decide +kernel
theorem dX4_save_24 : decode cX4_save 24 = .ok (.aload_n 0, 1) := by decide +kernel
theorem dX4_save_25 : decode cX4_save 25 = .ok (.getfield 10, 3) := by decide +kernel
theorem dX4_save_28 : decode cX4_save 28 = .ok (.getfield 63, 3) := by decide +kernel
theorem dX4_save_31 : decode cX4_save 31 = .ok (.iconst 0, 1) := by decide +kernel
theorem dX4_save_32 : decode cX4_save 32 = .ok (.iaload, 1) := by decide +kernel
theorem dX4_save_33 : decode cX4_save 33 = .ok (.ireturn, 1) := by decide +kernel
set_option maxRecDepth 20000 in
theorem ggX4_restore_X4_isWithin : GoodIn wsX4_restore wsX4_isWithin := goodIn_r _ [7] (by decide +kernel) (by decide +kernel)
set_option maxRecDepth 20000 in
theorem gX4_restore_X4_isWithin : GoodIn wsX4_restore (va_wsS RX4 67 yX4_isWithin wsX4_isWithin) := goodIn_app (goodIn_of _ (by decide +kernel)) ggX4_restore_X4_isWithin
set_option maxRecDepth 20000 in
theorem ggX4_restore_X0_prepare : GoodIn wsX4_restore wsX0_prepare := goodIn_r _ [12, 13, 14, 15, 16, 6, 17, 18, 19, 20, 21, 22, 23, 24, 25, 26, 27, 28, 29, 30, 31, 32, 33, 34, 35, 36, 37, 38, 39, 40, 41, 42, 43, 44, 45, 46, 47, 48, 49, 50, 51, 52, 53, 54, 55, 56, 57, 58, 59, 60, 61, 62, 78, 79, 80, 72, 73, 74, 75, 76, 77, 81, 82] (by decide +kernel) (by decide +kernel)
set_option maxRecDepth 20000 in
theorem gX4_restore_X0_prepare : GoodIn wsX4_restore (wsV RX4 37 RX0 yX0_prepare wsX0_prepare) := goodIn_app (goodIn_of _ (by decide +kernel)) ggX4_restore_X0_prepare
set_option maxRecDepth 20000 in
theorem ggX4_restore_X2_copyFrom : GoodIn wsX4_restore wsX2_copyFrom := goodIn_r _ [49, 28, 50, 51, 52, 53, 29, 33, 34, 35, 54, 55, 56, 57, 32, 58, 45, 59, 60, 43, 61, 62, 72, 73, 74, 75, 76, 77, 81, 82] (by decide +kernel) (by decide +kernel)
set_option maxRecDepth 20000 in
theorem gX4_restore_X2_copyFrom : GoodIn wsX4_restore (wsV RX4 111 RX2 yX2_copyFrom wsX2_copyFrom) := goodIn_app (goodIn_of _ (by decide +kernel)) ggX4_restore_X2_copyFrom
set_option maxRecDepth 20000 in
theorem ggX4_restore_X0_keepIfDone : GoodIn wsX4_restore wsX0_keepIfDone := goodIn_r _ [66, 15, 14, 78, 79, 80] (by decide +kernel) (by decide +kernel)
set_option maxRecDepth 20000 in
theorem gX4_restore_X0_keepIfDone : GoodIn wsX4_restore (wsV RX4 45 RX0 yX0_keepIfDone wsX0_keepIfDone) := goodIn_app (goodIn_of _ (by decide +kernel)) ggX4_restore_X0_keepIfDone
theorem dX4_restore_0 : decode cX4_restore 0 = .ok (.iload_n 1, 1) := by decide +kernel
theorem dX4_restore_1 : decode cX4_restore 1 = .ok (.iconst 0, 1) := by decide +kernel
theorem dX4_restore_2 : decode cX4_restore 2 = .ok (.iconst 1, 1) := by decide +kernel
theorem dX4_restore_3 : decode cX4_restore 3 = .ok (.invokestatic 67, 3) := by decide +kernel
theorem dX4_restore_6 : decode cX4_restore 6 = .ok (.ifCond .ne 6, 3) := by decide +kernel
theorem dX4_restore_9 : decode cX4_restore 9 = .ok (.bipush (-2), 2) := by decide +kernel
theorem dX4_restore_11 : decode cX4_restore 11 = .ok (.ireturn, 1) := by decide +kernel
theorem dX4_restore_12 : decode cX4_restore 12 = .ok (.aload_n 0, 1) := by decide +kernel
theorem dX4_restore_13 : decode cX4_restore 13 = .ok (.getfield 19, 3) := by decide +kernel
theorem dX4_restore_16 : decode cX4_restore 16 = .ok (.iload_n 1, 1) := by decide +kernel
theorem dX4_restore_17 : decode cX4_restore 17 = .ok (.aaload, 1) := by decide +kernel
theorem dX4_restore_18 : decode cX4_restore 18 = .ok (.ifnonnull 6, 3) := by decide +kernel
theorem dX4_restore_21 : decode cX4_restore 21 = .ok (.bipush (-5), 2) := by decide +kernel
theorem dX4_restore_23 : decode cX4_restore 23 = .ok (.ireturn, 1) := by decide +kernel
theorem dX4_restore_24 : decode cX4_restore 24 = .ok (.aload_n 0, 1) := by decide +kernel
theorem dX4_restore_25 : decode cX4_restore 25 = .ok (.getfield 26, 3) := by decide +kernel
theorem dX4_restore_28 : decode cX4_restore 28 = .ok (.aload_n 0, 1) := by decide +kernel
theorem dX4_restore_29 : decode cX4_restore 29 = .ok (.getfield 10, 3) := by decide +kernel
theorem dX4_restore_32 : decode cX4_restore 32 = .ok (.invokevirtual 37, 3) := by decide +kernel
theorem dX4_restore_35 : decode cX4_restore 35 = .ok (.aload_n 0, 1) := by decide +kernel
theorem dX4_restore_36 : decode cX4_restore 36 = .ok (.getfield 10, 3) := by decide +kernel
theorem dX4_restore_39 : decode cX4_restore 39 = .ok (.aload_n 0, 1) := by decide +kernel
theorem dX4_restore_40 : decode cX4_restore 40 = .ok (.getfield 19, 3) := by decide +kernel
theorem dX4_restore_43 : decode cX4_restore 43 = .ok (.iload_n 1, 1) := by decide +kernel
theorem dX4_restore_44 : decode cX4_restore 44 = .ok (.aaload, 1) := by decide +kernel
theorem dX4_restore_45 : decode cX4_restore 45 = .ok (.invokevirtual 111, 3) := by decide +kernel
theorem dX4_restore_48 : decode cX4_restore 48 = .ok (.aload_n 0, 1) := by decide +kernel
theorem dX4_restore_49 : decode cX4_restore 49 = .ok (.getfield 26, 3) := by decide +kernel
theorem dX4_restore_52 : decode cX4_restore 52 = .ok (.aload_n 0, 1) := by decide +kernel
theorem dX4_restore_53 : decode cX4_restore 53 = .ok (.getfield 10, 3) := by decide +kernel
theorem dX4_restore_56 : decode cX4_restore 56 = .ok (.getfield 63, 3) := by decide +kernel
theorem dX4_restore_59 : decode cX4_restore 59 = .ok (.iconst 0, 1) := by decide +kernel
theorem dX4_restore_60 : decode cX4_restore 60 = .ok (.iaload, 1) := by decide +kernel
theorem dX4_restore_61 : decode cX4_restore 61 = .ok (.invokevirtual 45, 3) := by decide +kernel
theorem dX4_restore_64 : decode cX4_restore 64 = .ok (.ireturn, 1) := by decide +kernel
theorem dX4_isWithin_0 : decode cX4_isWithin 0 = .ok (.iload_n 0, 1) := by decide +kernel
theorem dX4_isWithin_1 : decode cX4_isWithin 1 = .ok (.iload_n 1, 1) := by decide +kernel
theorem dX4_isWithin_2 : decode cX4_isWithin 2 = .ok (.if_icmp .lt 12, 3) := by decide +kernel
theorem dX4_isWithin_5 : decode cX4_isWithin 5 = .ok (.iload_n 0, 1) := by decide +kernel
theorem dX4_isWithin_6 : decode cX4_isWithin 6 = .ok (.iload_n 2, 1) := by decide +kernel
theorem dX4_isWithin_7 : decode cX4_isWithin 7 = .ok (.if_icmp .gt 7, 3) := by decide +kernel
theorem dX4_isWithin_10 : decode cX4_isWithin 10 = .ok (.iconst 1, 1) := by decide +kernel
theorem dX4_isWithin_11 : decode cX4_isWithin 11 = .ok (.goto 4, 3) := by decide +kernel
theorem dX4_isWithin_14 : decode cX4_isWithin 14 = .ok (.iconst 0, 1) := by decide +kernel
theorem dX4_isWithin_15 : decode cX4_isWithin 15 = .ok (.ireturn, 1) := by decide +kernel
set_option maxRecDepth 20000 in
theorem ggX4_keepCopy_X2_init : GoodIn wsX4_keepCopy wsX2_init := goodIn_r _ [6, 7, 8, 9, 10, 11, 12, 13, 14, 15, 16, 17, 18, 19, 20, 21, 22, 23, 24, 25, 26, 27, 28, 46, 47, 48, 49, 50, 51, 52, 53] (by decide +kernel) (by decide +kernel)
set_option maxRecDepth 20000 in
theorem gX4_keepCopy_X2_init : GoodIn wsX4_keepCopy (wsX2_init) := ggX4_keepCopy_X2_init
set_option maxRecDepth 20000 in
theorem ggX4_keepCopy_X2_copyFrom : GoodIn wsX4_keepCopy wsX2_copyFrom := goodIn_r _ [32, 11, 33, 34, 35, 36, 12, 16, 17, 18, 37, 38, 39, 40, 15, 41, 28, 42, 43, 26, 44, 45, 46, 47, 48, 49, 50, 51, 52, 53] (by decide +kernel) (by decide +kernel)
set_option maxRecDepth 20000 in
theorem gX4_keepCopy_X2_copyFrom : GoodIn wsX4_keepCopy (wsV RX4 111 RX2 yX2_copyFrom wsX2_copyFrom) := goodIn_app (goodIn_of _ (by decide +kernel)) ggX4_keepCopy_X2_copyFrom
theorem dX4_keepCopy_0 : decode cX4_keepCopy 0 = .ok (.iload_n 1, 1) := by decide +kernel
theorem dX4_keepCopy_1 : decode cX4_keepCopy 1 = .ok (.ifCond .lt 9, 3) := by decide +kernel
theorem dX4_keepCopy_4 : decode cX4_keepCopy 4 = .ok (.iload_n 1, 1) := by decide +kernel
theorem dX4_keepCopy_5 : decode cX4_keepCopy 5 = .ok (.aload_n 0, 1) := by decide +kernel
theorem dX4_keepCopy_6 : decode cX4_keepCopy 6 = .ok (.arraylength, 1) := by decide +kernel
theorem dX4_keepCopy_7 : decode cX4_keepCopy 7 = .ok (.if_icmp .lt 4, 3) := by decide +kernel
theorem dX4_keepCopy_10 : decode cX4_keepCopy 10 = .ok (.return_, 1) := by decide +kernel
theorem dX4_keepCopy_11 : decode cX4_keepCopy 11 = .ok (.aload_n 0, 1) := by decide +kernel
theorem dX4_keepCopy_12 : decode cX4_keepCopy 12 = .ok (.iload_n 1, 1) := by decide +kernel
theorem dX4_keepCopy_13 : decode cX4_keepCopy 13 = .ok (.aaload, 1) := by decide +kernel
theorem dX4_keepCopy_14 : decode cX4_keepCopy 14 = .ok (.ifnonnull 13, 3) := by decide +kernel
theorem dX4_keepCopy_17 : decode cX4_keepCopy 17 = .ok (.aload_n 0, 1) := by decide +kernel
theorem dX4_keepCopy_18 : decode cX4_keepCopy 18 = .ok (.iload_n 1, 1) := by decide +kernel
theorem dX4_keepCopy_19 : decode cX4_keepCopy 19 = .ok (.new 7, 3) := by decide +kernel
theorem dX4_keepCopy_22 : decode cX4_keepCopy 22 = .ok (.dup, 1) := by decide +kernel
theorem dX4_keepCopy_23 : decode cX4_keepCopy 23 = .ok (.invokespecial 9, 3) := by decide +kernel
theorem dX4_keepCopy_26 : decode cX4_keepCopy 26 = .ok (.aastore, 1) := by decide +kernel
theorem dX4_keepCopy_27 : decode cX4_keepCopy 27 = .ok (.aload_n 0, 1) := by decide +kernel
theorem dX4_keepCopy_28 : decode cX4_keepCopy 28 = .ok (.iload_n 1, 1) := by decide +kernel
theorem dX4_keepCopy_29 : decode cX4_keepCopy 29 = .ok (.aaload, 1) := by decide +kernel
theorem dX4_keepCopy_30 : decode cX4_keepCopy 30 = .ok (.aload_n 2, 1) := by decide +kernel
theorem dX4_keepCopy_31 : decode cX4_keepCopy 31 = .ok (.invokevirtual 111, 3) := by decide +kernel
theorem dX4_keepCopy_34 : decode cX4_keepCopy 34 = .ok (.return_, 1) := by decide +kernel
set_option maxRecDepth 20000 in
theorem ggX4_tryWith_X2_copyFrom : GoodIn wsX4_tryWith wsX2_copyFrom := goodIn_r _ [8, 9, 10, 11, 12, 13, 14, 15, 16, 17, 18, 19, 20, 21, 22, 23, 24, 25, 26, 27, 28, 29, 104, 105, 106, 107, 108, 109, 110, 111] (by decide +kernel) (by decide +kernel)
set_option maxRecDepth 20000 in
theorem gX4_tryWith_X2_copyFrom : GoodIn wsX4_tryWith (wsV RX4 111 RX2 yX2_copyFrom wsX2_copyFrom) := goodIn_app (goodIn_of _ (by decide +kernel)) ggX4_tryWith_X2_copyFrom
set_option maxRecDepth 20000 in
theorem ggX4_tryWith_X4_isWithin : GoodIn wsX4_tryWith wsX4_isWithin := goodIn_r _ [33] (by decide +kernel) (by decide +kernel)
set_option maxRecDepth 20000 in
theorem gX4_tryWith_X4_isWithin : GoodIn wsX4_tryWith (va_wsS RX4 67 yX4_isWithin wsX4_isWithin) := goodIn_app (goodIn_of _ (by decide +kernel)) ggX4_tryWith_X4_isWithin
set_option maxRecDepth 20000 in
theorem ggX4_tryWith_X2_passTicks : GoodIn wsX4_tryWith wsX2_passTicks := goodIn_r _ [37, 9, 38, 26, 27, 28, 39, 40, 41, 18, 31, 32, 33, 42, 43, 44, 7, 45, 46, 47, 48, 49, 14, 15, 50, 51, 52, 53, 54, 55, 56, 22, 57, 58, 24, 59, 60, 61, 62, 63, 64, 65, 66, 67, 68, 69, 70, 17, 71, 72, 73, 74, 29, 11, 12, 13, 75, 76, 77, 78, 79, 80, 81, 82, 83, 84, 85, 86, 87, 88, 89, 90, 16, 91, 92, 93, 94, 95, 96, 97, 98, 104, 105, 106, 107, 108, 109, 110, 111] (by decide +kernel) (by decide +kernel)
set_option maxRecDepth 20000 in
theorem gX4_tryWith_X2_passTicks : GoodIn wsX4_tryWith (wsV RX4 56 RX2 yX2_passTicks wsX2_passTicks) := goodIn_app (goodIn_of _ (by decide +kernel)) ggX4_tryWith_X2_passTicks
theorem dX4_tryWith_0 : decode cX4_tryWith 0 = .ok (.aload_n 0, 1) := by decide +kernel
theorem dX4_tryWith_1 : decode cX4_tryWith 1 = .ok (.getfield 16, 3) := by decide +kernel
theorem dX4_tryWith_4 : decode cX4_tryWith 4 = .ok (.aload_n 0, 1) := by decide +kernel
theorem dX4_tryWith_5 : decode cX4_tryWith 5 = .ok (.getfield 10, 3) := by decide +kernel
theorem dX4_tryWith_8 : decode cX4_tryWith 8 = .ok (.invokevirtual 111, 3) := by decide +kernel
theorem dX4_tryWith_11 : decode cX4_tryWith 11 = .ok (.iload_n 1, 1) := by decide +kernel
theorem dX4_tryWith_12 : decode cX4_tryWith 12 = .ok (.iconst 0, 1) := by decide +kernel
theorem dX4_tryWith_13 : decode cX4_tryWith 13 = .ok (.bipush 7, 2) := by decide +kernel
theorem dX4_tryWith_15 : decode cX4_tryWith 15 = .ok (.invokestatic 67, 3) := by decide +kernel
theorem dX4_tryWith_18 : decode cX4_tryWith 18 = .ok (.ifCond .eq 16, 3) := by decide +kernel
theorem dX4_tryWith_21 : decode cX4_tryWith 21 = .ok (.aload_n 0, 1) := by decide +kernel
theorem dX4_tryWith_22 : decode cX4_tryWith 22 = .ok (.getfield 16, 3) := by decide +kernel
theorem dX4_tryWith_25 : decode cX4_tryWith 25 = .ok (.getfield 63, 3) := by decide +kernel
theorem dX4_tryWith_28 : decode cX4_tryWith 28 = .ok (.bipush 16, 2) := by decide +kernel
theorem dX4_tryWith_30 : decode cX4_tryWith 30 = .ok (.iload_n 1, 1) := by decide +kernel
theorem dX4_tryWith_31 : decode cX4_tryWith 31 = .ok (.iadd, 1) := by decide +kernel
theorem dX4_tryWith_32 : decode cX4_tryWith 32 = .ok (.iload_n 2, 1) := by decide +kernel
theorem dX4_tryWith_33 : decode cX4_tryWith 33 = .ok (.iastore, 1) := by decide +kernel
theorem dX4_tryWith_34 : decode cX4_tryWith 34 = .ok (.aload_n 0, 1) := by decide +kernel
theorem dX4_tryWith_35 : decode cX4_tryWith 35 = .ok (.getfield 16, 3) := by decide +kernel
theorem dX4_tryWith_38 : decode cX4_tryWith 38 = .ok (.iload_n 3, 1) := by decide +kernel
theorem dX4_tryWith_39 : decode cX4_tryWith 39 = .ok (.ldc 114, 2) := by decide +kernel
theorem dX4_tryWith_41 : decode cX4_tryWith 41 = .ok (.invokevirtual 56, 3) := by decide +kernel
theorem dX4_tryWith_44 : decode cX4_tryWith 44 = .ok (.pop, 1) := by decide +kernel
theorem dX4_tryWith_45 : decode cX4_tryWith 45 = .ok (.return_, 1) := by decide +kernel
set_option maxRecDepth 20000 in
theorem ggX4_gainOf_X4_isWithin : GoodIn wsX4_gainOf wsX4_isWithin := goodIn_r _ [6] (by decide +kernel) (by decide +kernel)
set_option maxRecDepth 20000 in
theorem gX4_gainOf_X4_isWithin : GoodIn wsX4_gainOf (va_wsS RX4 67 yX4_isWithin wsX4_isWithin) := goodIn_app (goodIn_of _ (by decide +kernel)) ggX4_gainOf_X4_isWithin
theorem dX4_gainOf_0 : decode cX4_gainOf 0 = .ok (.iload_n 1, 1) := by decide +kernel
theorem dX4_gainOf_1 : decode cX4_gainOf 1 = .ok (.iconst 0, 1) := by decide +kernel
theorem dX4_gainOf_2 : decode cX4_gainOf 2 = .ok (.bipush 23, 2) := by decide +kernel
theorem dX4_gainOf_4 : decode cX4_gainOf 4 = .ok (.invokestatic 67, 3) := by decide +kernel
theorem dX4_gainOf_7 : decode cX4_gainOf 7 = .ok (.ifCond .eq 25, 3) := by decide +kernel
theorem dX4_gainOf_10 : decode cX4_gainOf 10 = .ok (.aload_n 0, 1) := by decide +kernel
theorem dX4_gainOf_11 : decode cX4_gainOf 11 = .ok (.getfield 16, 3) := by decide +kernel
theorem dX4_gainOf_14 : decode cX4_gainOf 14 = .ok (.getfield 63, 3) := by decide +kernel
theorem dX4_gainOf_17 : decode cX4_gainOf 17 = .ok (.iload_n 1, 1) := by decide +kernel
theorem dX4_gainOf_18 : decode cX4_gainOf 18 = .ok (.iaload, 1) := by decide +kernel
theorem dX4_gainOf_19 : decode cX4_gainOf 19 = .ok (.aload_n 0, 1) := by decide +kernel
theorem dX4_gainOf_20 : decode cX4_gainOf 20 = .ok (.getfield 10, 3) := by decide +kernel
theorem dX4_gainOf_23 : decode cX4_gainOf 23 = .ok (.getfield 63, 3) := by decide +kernel
theorem dX4_gainOf_26 : decode cX4_gainOf 26 = .ok (.iload_n 1, 1) := by decide +kernel
theorem dX4_gainOf_27 : decode cX4_gainOf 27 = .ok (.iaload, 1) := by decide +kernel
theorem dX4_gainOf_28 : decode cX4_gainOf 28 = .ok (.isub, 1) := by decide +kernel
theorem dX4_gainOf_29 : decode cX4_gainOf 29 = .ok (.goto 4, 3) := by decide +kernel
theorem dX4_gainOf_32 : decode cX4_gainOf 32 = .ok (.iconst 0, 1) := by decide +kernel
theorem dX4_gainOf_33 : decode cX4_gainOf 33 = .ok (.ireturn, 1) := by decide +kernel
set_option maxRecDepth 20000 in
theorem ggX4_carryOutOrder_X2_changeSetting : GoodIn wsX4_carryOutOrder wsX2_changeSetting := goodIn_r _ [8, 9, 10, 11, 12, 111, 112, 113, 114, 115, 116] (by decide +kernel) (by decide +kernel)
set_option maxRecDepth 20000 in
theorem gX4_carryOutOrder_X2_changeSetting : GoodIn wsX4_carryOutOrder (wsV RX4 41 RX2 yX2_changeSetting wsX2_changeSetting) := goodIn_app (goodIn_of _ (by decide +kernel)) ggX4_carryOutOrder_X2_changeSetting
set_option maxRecDepth 20000 in
theorem ggX4_carryOutOrder_X2_changeValue : GoodIn wsX4_carryOutOrder wsX2_changeValue := goodIn_r _ [16, 17, 10, 11, 12, 111, 112, 113, 114, 115, 116] (by decide +kernel) (by decide +kernel)
set_option maxRecDepth 20000 in
theorem gX4_carryOutOrder_X2_changeValue : GoodIn wsX4_carryOutOrder (wsV RX4 49 RX2 yX2_changeValue wsX2_changeValue) := goodIn_app (goodIn_of _ (by decide +kernel)) ggX4_carryOutOrder_X2_changeValue
set_option maxRecDepth 20000 in
theorem ggX4_carryOutOrder_X2_passTicks : GoodIn wsX4_carryOutOrder wsX2_passTicks := goodIn_r _ [21, 9, 22, 23, 24, 25, 26, 27, 28, 29, 10, 11, 12, 30, 31, 32, 7, 33, 34, 35, 36, 37, 17, 38, 39, 40, 41, 42, 43, 44, 45, 46, 47, 48, 49, 50, 51, 52, 53, 54, 55, 56, 57, 58, 59, 60, 61, 62, 63, 64, 65, 66, 67, 68, 69, 70, 71, 72, 73, 74, 75, 76, 77, 78, 79, 80, 81, 82, 83, 84, 85, 86, 87, 88, 89, 90, 91, 92, 93, 94, 95, 111, 112, 113, 114, 115, 116, 117, 118] (by decide +kernel) (by decide +kernel)
set_option maxRecDepth 20000 in
theorem gX4_carryOutOrder_X2_passTicks : GoodIn wsX4_carryOutOrder (wsV RX4 56 RX2 yX2_passTicks wsX2_passTicks) := goodIn_app (goodIn_of _ (by decide +kernel)) ggX4_carryOutOrder_X2_passTicks
set_option maxRecDepth 20000 in
theorem ggX4_carryOutOrder_X2_delayClock : GoodIn wsX4_carryOutOrder wsX2_delayClock := goodIn_r _ [99, 9, 10, 11, 12, 111, 112, 113, 114, 115, 116] (by decide +kernel) (by decide +kernel)
set_option maxRecDepth 20000 in
theorem gX4_carryOutOrder_X2_delayClock : GoodIn wsX4_carryOutOrder (wsV RX4 52 RX2 yX2_delayClock wsX2_delayClock) := goodIn_app (goodIn_of _ (by decide +kernel)) ggX4_carryOutOrder_X2_delayClock
theorem dX4_carryOutOrder_0 : decode cX4_carryOutOrder 0 = .ok (.aload_n 0, 1) := by decide +kernel
theorem dX4_carryOutOrder_1 : decode cX4_carryOutOrder 1 = .ok (.getfield 33, 3) := by decide +kernel
theorem dX4_carryOutOrder_4 : decode cX4_carryOutOrder 4 = .ok (.getfield 158, 3) := by decide +kernel
theorem dX4_carryOutOrder_7 : decode cX4_carryOutOrder 7 = .ok (.lookupswitch 160 #[(60, 128), (62, 144), (105, 57), (111, 73), (116, 111), (118, 89)], 57) := by decide +kernel
theorem dX4_carryOutOrder_64 : decode cX4_carryOutOrder 64 = .ok (.aload_n 0, 1) := by decide +kernel
theorem dX4_carryOutOrder_65 : decode cX4_carryOutOrder 65 = .ok (.getfield 10, 3) := by decide +kernel
theorem dX4_carryOutOrder_68 : decode cX4_carryOutOrder 68 = .ok (.iconst 0, 1) := by decide +kernel
theorem dX4_carryOutOrder_69 : decode cX4_carryOutOrder 69 = .ok (.aload_n 0, 1) := by decide +kernel
theorem dX4_carryOutOrder_70 : decode cX4_carryOutOrder 70 = .ok (.getfield 33, 3) := by decide +kernel
theorem dX4_carryOutOrder_73 : decode cX4_carryOutOrder 73 = .ok (.getfield 162, 3) := by decide +kernel
theorem dX4_carryOutOrder_76 : decode cX4_carryOutOrder 76 = .ok (.invokevirtual 41, 3) := by decide +kernel
theorem dX4_carryOutOrder_79 : decode cX4_carryOutOrder 79 = .ok (.ireturn, 1) := by decide +kernel
theorem dX4_carryOutOrder_80 : decode cX4_carryOutOrder 80 = .ok (.aload_n 0, 1) := by decide +kernel
theorem dX4_carryOutOrder_81 : decode cX4_carryOutOrder 81 = .ok (.getfield 10, 3) := by decide +kernel
theorem dX4_carryOutOrder_84 : decode cX4_carryOutOrder 84 = .ok (.iconst 1, 1) := by decide +kernel
theorem dX4_carryOutOrder_85 : decode cX4_carryOutOrder 85 = .ok (.aload_n 0, 1) := by decide +kernel
theorem dX4_carryOutOrder_86 : decode cX4_carryOutOrder 86 = .ok (.getfield 33, 3) := by decide +kernel
theorem dX4_carryOutOrder_89 : decode cX4_carryOutOrder 89 = .ok (.getfield 162, 3) := by decide +kernel
theorem dX4_carryOutOrder_92 : decode cX4_carryOutOrder 92 = .ok (.invokevirtual 41, 3) := by decide +kernel
theorem dX4_carryOutOrder_95 : decode cX4_carryOutOrder 95 = .ok (.ireturn, 1) := by decide +kernel
theorem dX4_carryOutOrder_96 : decode cX4_carryOutOrder 96 = .ok (.aload_n 0, 1) := by decide +kernel
theorem dX4_carryOutOrder_97 : decode cX4_carryOutOrder 97 = .ok (.getfield 10, 3) := by decide +kernel
theorem dX4_carryOutOrder_100 : decode cX4_carryOutOrder 100 = .ok (.aload_n 0, 1) := by decide +kernel
theorem dX4_carryOutOrder_101 : decode cX4_carryOutOrder 101 = .ok (.getfield 33, 3) := by decide +kernel
theorem dX4_carryOutOrder_104 : decode cX4_carryOutOrder 104 = .ok (.getfield 162, 3) := by decide +kernel
theorem dX4_carryOutOrder_107 : decode cX4_carryOutOrder 107 = .ok (.aload_n 0, 1) := by decide +kernel
theorem dX4_carryOutOrder_108 : decode cX4_carryOutOrder 108 = .ok (.getfield 33, 3) := by decide +kernel
theorem dX4_carryOutOrder_111 : decode cX4_carryOutOrder 111 = .ok (.getfield 165, 3) := by decide +kernel
theorem dX4_carryOutOrder_114 : decode cX4_carryOutOrder 114 = .ok (.invokevirtual 49, 3) := by decide +kernel
theorem dX4_carryOutOrder_117 : decode cX4_carryOutOrder 117 = .ok (.ireturn, 1) := by decide +kernel
theorem dX4_carryOutOrder_118 : decode cX4_carryOutOrder 118 = .ok (.aload_n 0, 1) := by decide +kernel
theorem dX4_carryOutOrder_119 : decode cX4_carryOutOrder 119 = .ok (.getfield 10, 3) := by decide +kernel
theorem dX4_carryOutOrder_122 : decode cX4_carryOutOrder 122 = .ok (.aload_n 0, 1) := by decide +kernel
theorem dX4_carryOutOrder_123 : decode cX4_carryOutOrder 123 = .ok (.getfield 33, 3) := by decide +kernel
theorem dX4_carryOutOrder_126 : decode cX4_carryOutOrder 126 = .ok (.getfield 162, 3) := by decide +kernel
theorem dX4_carryOutOrder_129 : decode cX4_carryOutOrder 129 = .ok (.ldc 55, 2) := by decide +kernel
theorem dX4_carryOutOrder_131 : decode cX4_carryOutOrder 131 = .ok (.invokevirtual 56, 3) := by decide +kernel
theorem dX4_carryOutOrder_134 : decode cX4_carryOutOrder 134 = .ok (.ireturn, 1) := by decide +kernel
theorem dX4_carryOutOrder_135 : decode cX4_carryOutOrder 135 = .ok (.aload_n 0, 1) := by decide +kernel
theorem dX4_carryOutOrder_136 : decode cX4_carryOutOrder 136 = .ok (.getfield 10, 3) := by decide +kernel
theorem dX4_carryOutOrder_139 : decode cX4_carryOutOrder 139 = .ok (.iconst 0, 1) := by decide +kernel
theorem dX4_carryOutOrder_140 : decode cX4_carryOutOrder 140 = .ok (.aload_n 0, 1) := by decide +kernel
theorem dX4_carryOutOrder_141 : decode cX4_carryOutOrder 141 = .ok (.getfield 33, 3) := by decide +kernel
theorem dX4_carryOutOrder_144 : decode cX4_carryOutOrder 144 = .ok (.getfield 162, 3) := by decide +kernel
theorem dX4_carryOutOrder_147 : decode cX4_carryOutOrder 147 = .ok (.invokevirtual 52, 3) := by decide +kernel
theorem dX4_carryOutOrder_150 : decode cX4_carryOutOrder 150 = .ok (.ireturn, 1) := by decide +kernel
theorem dX4_carryOutOrder_151 : decode cX4_carryOutOrder 151 = .ok (.aload_n 0, 1) := by decide +kernel
theorem dX4_carryOutOrder_152 : decode cX4_carryOutOrder 152 = .ok (.getfield 10, 3) := by decide +kernel
theorem dX4_carryOutOrder_155 : decode cX4_carryOutOrder 155 = .ok (.iconst 1, 1) := by decide +kernel
theorem dX4_carryOutOrder_156 : decode cX4_carryOutOrder 156 = .ok (.aload_n 0, 1) := by decide +kernel
theorem dX4_carryOutOrder_157 : decode cX4_carryOutOrder 157 = .ok (.getfield 33, 3) := by decide +kernel
theorem dX4_carryOutOrder_160 : decode cX4_carryOutOrder 160 = .ok (.getfield 162, 3) := by decide +kernel
theorem dX4_carryOutOrder_163 : decode cX4_carryOutOrder 163 = .ok (.invokevirtual 52, 3) := by decide +kernel
theorem dX4_carryOutOrder_166 : decode cX4_carryOutOrder 166 = .ok (.ireturn, 1) := by decide +kernel
theorem dX4_carryOutOrder_167 : decode cX4_carryOutOrder 167 = .ok (.bipush (-3), 2) := by decide +kernel
theorem dX4_carryOutOrder_169 : decode cX4_carryOutOrder 169 = .ok (.ireturn, 1) := by decide +kernel
set_option maxRecDepth 20000 in
theorem ggX4_charactersIn_X4_isWithin : GoodIn wsX4_charactersIn wsX4_isWithin := goodIn_r _ [5] (by decide +kernel) (by decide +kernel)
set_option maxRecDepth 20000 in
theorem gX4_charactersIn_X4_isWithin : GoodIn wsX4_charactersIn (va_wsS RX4 67 yX4_isWithin wsX4_isWithin) := goodIn_app (goodIn_of _ (by decide +kernel)) ggX4_charactersIn_X4_isWithin
theorem dX4_charactersIn_0 : decode cX4_charactersIn 0 = .ok (.lload_n 0, 1) := by decide +kernel
theorem dX4_charactersIn_1 : decode cX4_charactersIn 1 = .ok (.lstore_n 2, 1) := by decide +kernel
theorem dX4_charactersIn_2 : decode cX4_charactersIn 2 = .ok (.iconst 0, 1) := by decide +kernel
theorem dX4_charactersIn_3 : decode cX4_charactersIn 3 = .ok (.istore 4, 2) := by decide +kernel
theorem dX4_charactersIn_5 : decode cX4_charactersIn 5 = .ok (.iload 4, 2) := by decide +kernel
theorem dX4_charactersIn_7 : decode cX4_charactersIn 7 = .ok (.bipush 8, 2) := by decide +kernel
theorem dX4_charactersIn_9 : decode cX4_charactersIn 9 = .ok (.if_icmp .ge 42, 3) := by decide +kernel
theorem dX4_charactersIn_12 : decode cX4_charactersIn 12 = .ok (.lload_n 2, 1) := by decide +kernel
theorem dX4_charactersIn_13 : decode cX4_charactersIn 13 = .ok (.ldc2_w 168, 3) := by decide +kernel
theorem dX4_charactersIn_16 : decode cX4_charactersIn 16 = .ok (.land, 1) := by decide +kernel
theorem dX4_charactersIn_17 : decode cX4_charactersIn 17 = .ok (.lconst 0, 1) := by decide +kernel
theorem dX4_charactersIn_18 : decode cX4_charactersIn 18 = .ok (.lcmp, 1) := by decide +kernel
theorem dX4_charactersIn_19 : decode cX4_charactersIn 19 = .ok (.ifCond .eq 32, 3) := by decide +kernel
theorem dX4_charactersIn_22 : decode cX4_charactersIn 22 = .ok (.lload_n 2, 1) := by decide +kernel
theorem dX4_charactersIn_23 : decode cX4_charactersIn 23 = .ok (.ldc2_w 168, 3) := by decide +kernel
theorem dX4_charactersIn_26 : decode cX4_charactersIn 26 = .ok (.land, 1) := by decide +kernel
theorem dX4_charactersIn_27 : decode cX4_charactersIn 27 = .ok (.l2i, 1) := by decide +kernel
theorem dX4_charactersIn_28 : decode cX4_charactersIn 28 = .ok (.bipush 33, 2) := by decide +kernel
theorem dX4_charactersIn_30 : decode cX4_charactersIn 30 = .ok (.bipush 126, 2) := by decide +kernel
theorem dX4_charactersIn_32 : decode cX4_charactersIn 32 = .ok (.invokestatic 67, 3) := by decide +kernel
theorem dX4_charactersIn_35 : decode cX4_charactersIn 35 = .ok (.ifCond .ne 5, 3) := by decide +kernel
theorem dX4_charactersIn_38 : decode cX4_charactersIn 38 = .ok (.iconst 0, 1) := by decide +kernel
theorem dX4_charactersIn_39 : decode cX4_charactersIn 39 = .ok (.ireturn, 1) := by decide +kernel
theorem dX4_charactersIn_40 : decode cX4_charactersIn 40 = .ok (.lload_n 2, 1) := by decide +kernel
theorem dX4_charactersIn_41 : decode cX4_charactersIn 41 = .ok (.bipush 8, 2) := by decide +kernel
theorem dX4_charactersIn_43 : decode cX4_charactersIn 43 = .ok (.lushr, 1) := by decide +kernel
theorem dX4_charactersIn_44 : decode cX4_charactersIn 44 = .ok (.lstore_n 2, 1) := by decide +kernel
theorem dX4_charactersIn_45 : decode cX4_charactersIn 45 = .ok (.iinc 4 1, 3) := by decide +kernel
theorem dX4_charactersIn_48 : decode cX4_charactersIn 48 = .ok (.goto (-43), 3) := by decide +kernel
theorem dX4_charactersIn_51 : decode cX4_charactersIn 51 = .ok (.lload_n 2, 1) := by decide +kernel
theorem dX4_charactersIn_52 : decode cX4_charactersIn 52 = .ok (.lconst 0, 1) := by decide +kernel
theorem dX4_charactersIn_53 : decode cX4_charactersIn 53 = .ok (.lcmp, 1) := by decide +kernel
theorem dX4_charactersIn_54 : decode cX4_charactersIn 54 = .ok (.ifCond .ne 8, 3) := by decide +kernel
theorem dX4_charactersIn_57 : decode cX4_charactersIn 57 = .ok (.iload 4, 2) := by decide +kernel
theorem dX4_charactersIn_59 : decode cX4_charactersIn 59 = .ok (.goto 4, 3) := by decide +kernel
theorem dX4_charactersIn_62 : decode cX4_charactersIn 62 = .ok (.iconst 0, 1) := by decide +kernel
theorem dX4_charactersIn_63 : decode cX4_charactersIn 63 = .ok (.ireturn, 1) := by decide +kernel
theorem dX4_bitsOf_0 : decode cX4_bitsOf 0 = .ok (.dload_n 0, 1) := by decide +kernel
theorem dX4_bitsOf_1 : decode cX4_bitsOf 1 = .ok (.dconst 0, 1) := by decide +kernel
theorem dX4_bitsOf_2 : decode cX4_bitsOf 2 = .ok (.dcmp .l, 1) := by decide +kernel
theorem dX4_bitsOf_3 : decode cX4_bitsOf 3 = .ok (.ifCond .gt 5, 3) := by decide +kernel
theorem dX4_bitsOf_6 : decode cX4_bitsOf 6 = .ok (.lconst 0, 1) := by decide +kernel
theorem dX4_bitsOf_7 : decode cX4_bitsOf 7 = .ok (.lreturn, 1) := by decide +kernel
theorem dX4_bitsOf_8 : decode cX4_bitsOf 8 = .ok (.dload_n 0, 1) := by decide +kernel
theorem dX4_bitsOf_9 : decode cX4_bitsOf 9 = .ok (.dstore 4, 2) := by decide +kernel
theorem dX4_bitsOf_11 : decode cX4_bitsOf 11 = .ok (.iconst 0, 1) := by decide +kernel
theorem dX4_bitsOf_12 : decode cX4_bitsOf 12 = .ok (.istore 6, 2) := by decide +kernel
theorem dX4_bitsOf_14 : decode cX4_bitsOf 14 = .ok (.dload 4, 2) := by decide +kernel
theorem dX4_bitsOf_16 : decode cX4_bitsOf 16 = .ok (.ldc2_w 170, 3) := by decide +kernel
theorem dX4_bitsOf_19 : decode cX4_bitsOf 19 = .ok (.dcmp .l, 1) := by decide +kernel
theorem dX4_bitsOf_20 : decode cX4_bitsOf 20 = .ok (.ifCond .lt 23, 3) := by decide +kernel
theorem dX4_bitsOf_23 : decode cX4_bitsOf 23 = .ok (.iload 6, 2) := by decide +kernel
theorem dX4_bitsOf_25 : decode cX4_bitsOf 25 = .ok (.iload_n 3, 1) := by decide +kernel
theorem dX4_bitsOf_26 : decode cX4_bitsOf 26 = .ok (.if_icmp .ge 17, 3) := by decide +kernel
theorem dX4_bitsOf_29 : decode cX4_bitsOf 29 = .ok (.dload 4, 2) := by decide +kernel
theorem dX4_bitsOf_31 : decode cX4_bitsOf 31 = .ok (.ldc2_w 170, 3) := by decide +kernel
theorem dX4_bitsOf_34 : decode cX4_bitsOf 34 = .ok (.ddiv, 1) := by decide +kernel
theorem dX4_bitsOf_35 : decode cX4_bitsOf 35 = .ok (.dstore 4, 2) := by decide +kernel
theorem dX4_bitsOf_37 : decode cX4_bitsOf 37 = .ok (.iinc 6 1, 3) := by decide +kernel
theorem dX4_bitsOf_40 : decode cX4_bitsOf 40 = .ok (.goto (-26), 3) := by decide +kernel
theorem dX4_bitsOf_43 : decode cX4_bitsOf 43 = .ok (.dload 4, 2) := by decide +kernel
theorem dX4_bitsOf_45 : decode cX4_bitsOf 45 = .ok (.dconst 1, 1) := by decide +kernel
theorem dX4_bitsOf_46 : decode cX4_bitsOf 46 = .ok (.dcmp .g, 1) := by decide +kernel
theorem dX4_bitsOf_47 : decode cX4_bitsOf 47 = .ok (.ifCond .ge 25, 3) := by decide +kernel
theorem dX4_bitsOf_50 : decode cX4_bitsOf 50 = .ok (.iload 6, 2) := by decide +kernel
theorem dX4_bitsOf_52 : decode cX4_bitsOf 52 = .ok (.iconst 1, 1) := by decide +kernel
theorem dX4_bitsOf_53 : decode cX4_bitsOf 53 = .ok (.iload_n 3, 1) := by decide +kernel
theorem dX4_bitsOf_54 : decode cX4_bitsOf 54 = .ok (.isub, 1) := by decide +kernel
theorem dX4_bitsOf_55 : decode cX4_bitsOf 55 = .ok (.if_icmp .le 17, 3) := by decide +kernel
theorem dX4_bitsOf_58 : decode cX4_bitsOf 58 = .ok (.dload 4, 2) := by decide +kernel
theorem dX4_bitsOf_60 : decode cX4_bitsOf 60 = .ok (.ldc2_w 170, 3) := by decide +kernel
theorem dX4_bitsOf_63 : decode cX4_bitsOf 63 = .ok (.dmul, 1) := by decide +kernel
theorem dX4_bitsOf_64 : decode cX4_bitsOf 64 = .ok (.dstore 4, 2) := by decide +kernel
theorem dX4_bitsOf_66 : decode cX4_bitsOf 66 = .ok (.iinc 6 (-1), 3) := by decide +kernel
theorem dX4_bitsOf_69 : decode cX4_bitsOf 69 = .ok (.goto (-26), 3) := by decide +kernel
theorem dX4_bitsOf_72 : decode cX4_bitsOf 72 = .ok (.dload 4, 2) := by decide +kernel
theorem dX4_bitsOf_74 : decode cX4_bitsOf 74 = .ok (.dconst 1, 1) := by decide +kernel
theorem dX4_bitsOf_75 : decode cX4_bitsOf 75 = .ok (.dsub, 1) := by decide +kernel
theorem dX4_bitsOf_76 : decode cX4_bitsOf 76 = .ok (.lconst 1, 1) := by decide +kernel
theorem dX4_bitsOf_77 : decode cX4_bitsOf 77 = .ok (.iload_n 2, 1) := by decide +kernel
theorem dX4_bitsOf_78 : decode cX4_bitsOf 78 = .ok (.lshl, 1) := by decide +kernel
theorem dX4_bitsOf_79 : decode cX4_bitsOf 79 = .ok (.l2d, 1) := by decide +kernel
theorem dX4_bitsOf_80 : decode cX4_bitsOf 80 = .ok (.dmul, 1) := by decide +kernel
theorem dX4_bitsOf_81 : decode cX4_bitsOf 81 = .ok (.d2l, 1) := by decide +kernel
theorem dX4_bitsOf_82 : decode cX4_bitsOf 82 = .ok (.lstore 7, 2) := by decide +kernel
theorem dX4_bitsOf_84 : decode cX4_bitsOf 84 = .ok (.iload 6, 2) := by decide +kernel
theorem dX4_bitsOf_86 : decode cX4_bitsOf 86 = .ok (.iload_n 3, 1) := by decide +kernel
theorem dX4_bitsOf_87 : decode cX4_bitsOf 87 = .ok (.iadd, 1) := by decide +kernel
theorem dX4_bitsOf_88 : decode cX4_bitsOf 88 = .ok (.i2l, 1) := by decide +kernel
theorem dX4_bitsOf_89 : decode cX4_bitsOf 89 = .ok (.iload_n 2, 1) := by decide +kernel
theorem dX4_bitsOf_90 : decode cX4_bitsOf 90 = .ok (.lshl, 1) := by decide +kernel
theorem dX4_bitsOf_91 : decode cX4_bitsOf 91 = .ok (.lload 7, 2) := by decide +kernel
theorem dX4_bitsOf_93 : decode cX4_bitsOf 93 = .ok (.ladd, 1) := by decide +kernel
theorem dX4_bitsOf_94 : decode cX4_bitsOf 94 = .ok (.lreturn, 1) := by decide +kernel
theorem dX5_init_0 : decode cX5_init 0 = .ok (.aload_n 0, 1) := by decide +kernel
theorem dX5_init_1 : decode cX5_init 1 = .ok (.invokespecial 1, 3) := by decide +kernel
theorem dX5_init_4 : decode cX5_init 4 = .ok (.aload_n 0, 1) := by decide +kernel
theorem dX5_init_5 : decode cX5_init 5 = .ok (.sipush 234, 3) := by decide +kernel
theorem dX5_init_8 : decode cX5_init 8 = .ok (.newarray .int, 2) := by decide +kernel
theorem dX5_init_10 : decode cX5_init 10 = .ok (.putfield 7, 3) := by decide +kernel
theorem dX5_init_13 : decode cX5_init 13 = .ok (.aload_n 0, 1) := by decide +kernel
theorem dX5_init_14 : decode cX5_init 14 = .ok (.sipush 234, 3) := by decide +kernel
theorem dX5_init_17 : decode cX5_init 17 = .ok (.newarray .int, 2) := by decide +kernel
theorem dX5_init_19 : decode cX5_init 19 = .ok (.putfield 13, 3) := by decide +kernel
theorem dX5_init_22 : decode cX5_init 22 = .ok (.aload_n 0, 1) := by decide +kernel
theorem dX5_init_23 : decode cX5_init 23 = .ok (.sipush 1404, 3) := by decide +kernel
theorem dX5_init_26 : decode cX5_init 26 = .ok (.newarray .int, 2) := by decide +kernel
theorem dX5_init_28 : decode cX5_init 28 = .ok (.putfield 16, 3) := by decide +kernel
theorem dX5_init_31 : decode cX5_init 31 = .ok (.aload_n 0, 1) := by decide +kernel
theorem dX5_init_32 : decode cX5_init 32 = .ok (.sipush 468, 3) := by decide +kernel
theorem dX5_init_35 : decode cX5_init 35 = .ok (.newarray .int, 2) := by decide +kernel
theorem dX5_init_37 : decode cX5_init 37 = .ok (.putfield 19, 3) := by decide +kernel
theorem dX5_init_40 : decode cX5_init 40 = .ok (.aload_n 0, 1) := by decide +kernel
theorem dX5_init_41 : decode cX5_init 41 = .ok (.iconst 2, 1) := by decide +kernel
theorem dX5_init_42 : decode cX5_init 42 = .ok (.newarray .boolean, 2) := by decide +kernel
theorem dX5_init_44 : decode cX5_init 44 = .ok (.putfield 22, 3) := by decide +kernel
theorem dX5_init_47 : decode cX5_init 47 = .ok (.aload_n 0, 1) := by decide +kernel
theorem dX5_init_48 : decode cX5_init 48 = .ok (.bipush 80, 2) := by decide +kernel
theorem dX5_init_50 : decode cX5_init 50 = .ok (.newarray .int, 2) := by decide +kernel
theorem dX5_init_52 : decode cX5_init 52 = .ok (.putfield 26, 3) := by decide +kernel
theorem dX5_init_55 : decode cX5_init 55 = .ok (.aload_n 0, 1) := by decide +kernel
theorem dX5_init_56 : decode cX5_init 56 = .ok (.bipush 123, 2) := by decide +kernel
theorem dX5_init_58 : decode cX5_init 58 = .ok (.newarray .int, 2) := by decide +kernel
theorem dX5_init_60 : decode cX5_init 60 = .ok (.putfield 29, 3) := by decide +kernel
theorem dX5_init_63 : decode cX5_init 63 = .ok (.aload_n 0, 1) := by decide +kernel
theorem dX5_init_64 : decode cX5_init 64 = .ok (.getfield 7, 3) := by decide +kernel
theorem dX5_init_67 : decode cX5_init 67 = .ok (.iconst 1, 1) := by decide +kernel
theorem dX5_init_68 : decode cX5_init 68 = .ok (.bipush 10, 2) := by decide +kernel
theorem dX5_init_70 : decode cX5_init 70 = .ok (.iastore, 1) := by decide +kernel
theorem dX5_init_71 : decode cX5_init 71 = .ok (.aload_n 0, 1) := by decide +kernel
theorem dX5_init_72 : decode cX5_init 72 = .ok (.getfield 7, 3) := by decide +kernel
theorem dX5_init_75 : decode cX5_init 75 = .ok (.iconst 2, 1) := by decide +kernel
theorem dX5_init_76 : decode cX5_init 76 = .ok (.iconst 5, 1) := by decide +kernel
theorem dX5_init_77 : decode cX5_init 77 = .ok (.iastore, 1) := by decide +kernel
theorem dX5_init_78 : decode cX5_init 78 = .ok (.aload_n 0, 1) := by decide +kernel
theorem dX5_init_79 : decode cX5_init 79 = .ok (.getfield 7, 3) := by decide +kernel
theorem dX5_init_82 : decode cX5_init 82 = .ok (.iconst 3, 1) := by decide +kernel
theorem dX5_init_83 : decode cX5_init 83 = .ok (.iconst 4, 1) := by decide +kernel
theorem dX5_init_84 : decode cX5_init 84 = .ok (.iastore, 1) := by decide +kernel
theorem dX5_init_85 : decode cX5_init 85 = .ok (.aload_n 0, 1) := by decide +kernel
theorem dX5_init_86 : decode cX5_init 86 = .ok (.getfield 7, 3) := by decide +kernel
theorem dX5_init_89 : decode cX5_init 89 = .ok (.iconst 4, 1) := by decide +kernel
theorem dX5_init_90 : decode cX5_init 90 = .ok (.iconst 4, 1) := by decide +kernel
theorem dX5_init_91 : decode cX5_init 91 = .ok (.iastore, 1) := by decide +kernel
theorem dX5_init_92 : decode cX5_init 92 = .ok (.aload_n 0, 1) := by decide +kernel
theorem dX5_init_93 : decode cX5_init 93 = .ok (.getfield 7, 3) := by decide +kernel
theorem dX5_init_96 : decode cX5_init 96 = .ok (.bipush 7, 2) := by decide +kernel
theorem dX5_init_98 : decode cX5_init 98 = .ok (.sipush 255, 3) := by decide +kernel
theorem dX5_init_101 : decode cX5_init 101 = .ok (.iastore, 1) := by decide +kernel
theorem dX5_init_102 : decode cX5_init 102 = .ok (.aload_n 0, 1) := by decide +kernel
theorem dX5_init_103 : decode cX5_init 103 = .ok (.getfield 7, 3) := by decide +kernel
theorem dX5_init_106 : decode cX5_init 106 = .ok (.bipush 23, 2) := by decide +kernel
theorem dX5_init_108 : decode cX5_init 108 = .ok (.bipush (-6), 2) := by decide +kernel
theorem dX5_init_110 : decode cX5_init 110 = .ok (.iastore, 1) := by decide +kernel
theorem dX5_init_111 : decode cX5_init 111 = .ok (.iconst 0, 1) := by decide +kernel
theorem dX5_init_112 : decode cX5_init 112 = .ok (.istore_n 1, 1) := by decide +kernel
theorem dX5_init_113 : decode cX5_init 113 = .ok (.iload_n 1, 1) := by decide +kernel
theorem dX5_init_114 : decode cX5_init 114 = .ok (.bipush 16, 2) := by decide +kernel
theorem dX5_init_116 : decode cX5_init 116 = .ok (.if_icmp .ge 22, 3) := by decide +kernel
theorem dX5_init_119 : decode cX5_init 119 = .ok (.aload_n 0, 1) := by decide +kernel
theorem dX5_init_120 : decode cX5_init 120 = .ok (.getfield 7, 3) := by decide +kernel
theorem dX5_init_123 : decode cX5_init 123 = .ok (.bipush 26, 2) := by decide +kernel
theorem dX5_init_125 : decode cX5_init 125 = .ok (.iload_n 1, 1) := by decide +kernel
theorem dX5_init_126 : decode cX5_init 126 = .ok (.iadd, 1) := by decide +kernel
theorem dX5_init_127 : decode cX5_init 127 = .ok (.bipush 10, 2) := by decide +kernel
theorem dX5_init_129 : decode cX5_init 129 = .ok (.iload_n 1, 1) := by decide +kernel
theorem dX5_init_130 : decode cX5_init 130 = .ok (.imul, 1) := by decide +kernel
theorem dX5_init_131 : decode cX5_init 131 = .ok (.iastore, 1) := by decide +kernel
theorem dX5_init_132 : decode cX5_init 132 = .ok (.iinc 1 1, 3) := by decide +kernel
theorem dX5_init_135 : decode cX5_init 135 = .ok (.goto (-22), 3) := by decide +kernel
theorem dX5_init_138 : decode cX5_init 138 = .ok (.iconst 0, 1) := by decide +kernel
theorem dX5_init_139 : decode cX5_init 139 = .ok (.istore_n 1, 1) := by decide +kernel
theorem dX5_init_140 : decode cX5_init 140 = .ok (.iload_n 1, 1) := by decide +kernel
theorem dX5_init_141 : decode cX5_init 141 = .ok (.bipush 96, 2) := by decide +kernel
theorem dX5_init_143 : decode cX5_init 143 = .ok (.if_icmp .ge 20, 3) := by decide +kernel
theorem dX5_init_146 : decode cX5_init 146 = .ok (.aload_n 0, 1) := by decide +kernel
theorem dX5_init_147 : decode cX5_init 147 = .ok (.getfield 7, 3) := by decide +kernel
theorem dX5_init_150 : decode cX5_init 150 = .ok (.bipush 106, 2) := by decide +kernel
theorem dX5_init_152 : decode cX5_init 152 = .ok (.iload_n 1, 1) := by decide +kernel
theorem dX5_init_153 : decode cX5_init 153 = .ok (.iadd, 1) := by decide +kernel
theorem dX5_init_154 : decode cX5_init 154 = .ok (.bipush (-6), 2) := by decide +kernel
theorem dX5_init_156 : decode cX5_init 156 = .ok (.iastore, 1) := by decide +kernel
theorem dX5_init_157 : decode cX5_init 157 = .ok (.iinc 1 1, 3) := by decide +kernel
theorem dX5_init_160 : decode cX5_init 160 = .ok (.goto (-20), 3) := by decide +kernel
theorem dX5_init_163 : decode cX5_init 163 = .ok (.return_, 1) := by decide +kernel
theorem dX5_in_0 : decode cX5_in 0 = .ok (.iload_n 0, 1) := by decide +kernel
theorem dX5_in_1 : decode cX5_in 1 = .ok (.iload_n 1, 1) := by decide +kernel
theorem dX5_in_2 : decode cX5_in 2 = .ok (.if_icmp .lt 12, 3) := by decide +kernel
theorem dX5_in_5 : decode cX5_in 5 = .ok (.iload_n 0, 1) := by decide +kernel
theorem dX5_in_6 : decode cX5_in 6 = .ok (.iload_n 2, 1) := by decide +kernel
theorem dX5_in_7 : decode cX5_in 7 = .ok (.if_icmp .gt 7, 3) := by decide +kernel
theorem dX5_in_10 : decode cX5_in 10 = .ok (.iconst 1, 1) := by decide +kernel
theorem dX5_in_11 : decode cX5_in 11 = .ok (.goto 4, 3) := by decide +kernel
theorem dX5_in_14 : decode cX5_in 14 = .ok (.iconst 0, 1) := by decide +kernel
theorem dX5_in_15 : decode cX5_in 15 = .ok (.ireturn, 1) := by decide +kernel
theorem dX5_lays_0 : decode cX5_lays 0 = .ok (.iconst 0, 1) := by decide +kernel
theorem dX5_lays_1 : decode cX5_lays 1 = .ok (.istore 4, 2) := by decide +kernel
theorem dX5_lays_3 : decode cX5_lays 3 = .ok (.iload 4, 2) := by decide +kernel
theorem dX5_lays_5 : decode cX5_lays 5 = .ok (.sipush 234, 3) := by decide +kernel
theorem dX5_lays_8 : decode cX5_lays 8 = .ok (.if_icmp .ge 21, 3) := by decide +kernel
theorem dX5_lays_11 : decode cX5_lays 11 = .ok (.aload_n 2, 1) := by decide +kernel
theorem dX5_lays_12 : decode cX5_lays 12 = .ok (.iload_n 3, 1) := by decide +kernel
theorem dX5_lays_13 : decode cX5_lays 13 = .ok (.iload 4, 2) := by decide +kernel
theorem dX5_lays_15 : decode cX5_lays 15 = .ok (.iadd, 1) := by decide +kernel
theorem dX5_lays_16 : decode cX5_lays 16 = .ok (.aload_n 0, 1) := by decide +kernel
theorem dX5_lays_17 : decode cX5_lays 17 = .ok (.iload_n 1, 1) := by decide +kernel
theorem dX5_lays_18 : decode cX5_lays 18 = .ok (.iload 4, 2) := by decide +kernel
theorem dX5_lays_20 : decode cX5_lays 20 = .ok (.iadd, 1) := by decide +kernel
theorem dX5_lays_21 : decode cX5_lays 21 = .ok (.iaload, 1) := by decide +kernel
theorem dX5_lays_22 : decode cX5_lays 22 = .ok (.iastore, 1) := by decide +kernel
theorem dX5_lays_23 : decode cX5_lays 23 = .ok (.iinc 4 1, 3) := by decide +kernel
theorem dX5_lays_26 : decode cX5_lays 26 = .ok (.goto (-23), 3) := by decide +kernel
theorem dX5_lays_29 : decode cX5_lays 29 = .ok (.return_, 1) := by decide +kernel
set_option maxRecDepth 20000 in
theorem ggX5_records_X5_lays : GoodIn wsX5_records wsX5_lays := goodIn_r _ [7] (by decide +kernel) (by decide +kernel)
set_option maxRecDepth 20000 in
theorem gX5_records_X5_lays : GoodIn wsX5_records (va_wsS RX5 36 yX5_lays wsX5_lays) := goodIn_app (goodIn_of _ (by decide +kernel)) ggX5_records_X5_lays
theorem dX5_records_0 : decode cX5_records 0 = .ok (.aload_n 0, 1) := by decide +kernel
theorem dX5_records_1 : decode cX5_records 1 = .ok (.getfield 32, 3) := by decide +kernel
theorem dX5_records_4 : decode cX5_records 4 = .ok (.bipush 6, 2) := by decide +kernel
theorem dX5_records_6 : decode cX5_records 6 = .ok (.if_icmp .ne 44, 3) := by decide +kernel
theorem dX5_records_9 : decode cX5_records 9 = .ok (.iconst 0, 1) := by decide +kernel
theorem dX5_records_10 : decode cX5_records 10 = .ok (.istore_n 1, 1) := by decide +kernel
theorem dX5_records_11 : decode cX5_records 11 = .ok (.iload_n 1, 1) := by decide +kernel
theorem dX5_records_12 : decode cX5_records 12 = .ok (.sipush 1170, 3) := by decide +kernel
theorem dX5_records_15 : decode cX5_records 15 = .ok (.if_icmp .ge 25, 3) := by decide +kernel
theorem dX5_records_18 : decode cX5_records 18 = .ok (.aload_n 0, 1) := by decide +kernel
theorem dX5_records_19 : decode cX5_records 19 = .ok (.getfield 16, 3) := by decide +kernel
theorem dX5_records_22 : decode cX5_records 22 = .ok (.iload_n 1, 1) := by decide +kernel
theorem dX5_records_23 : decode cX5_records 23 = .ok (.aload_n 0, 1) := by decide +kernel
theorem dX5_records_24 : decode cX5_records 24 = .ok (.getfield 16, 3) := by decide +kernel
theorem dX5_records_27 : decode cX5_records 27 = .ok (.iload_n 1, 1) := by decide +kernel
theorem dX5_records_28 : decode cX5_records 28 = .ok (.sipush 234, 3) := by decide +kernel
theorem dX5_records_31 : decode cX5_records 31 = .ok (.iadd, 1) := by decide +kernel
theorem dX5_records_32 : decode cX5_records 32 = .ok (.iaload, 1) := by decide +kernel
theorem dX5_records_33 : decode cX5_records 33 = .ok (.iastore, 1) := by decide +kernel
theorem dX5_records_34 : decode cX5_records 34 = .ok (.iinc 1 1, 3) := by decide +kernel
theorem dX5_records_37 : decode cX5_records 37 = .ok (.goto (-26), 3) := by decide +kernel
theorem dX5_records_40 : decode cX5_records 40 = .ok (.aload_n 0, 1) := by decide +kernel
theorem dX5_records_41 : decode cX5_records 41 = .ok (.dup, 1) := by decide +kernel
theorem dX5_records_42 : decode cX5_records 42 = .ok (.getfield 32, 3) := by decide +kernel
theorem dX5_records_45 : decode cX5_records 45 = .ok (.iconst 1, 1) := by decide +kernel
theorem dX5_records_46 : decode cX5_records 46 = .ok (.isub, 1) := by decide +kernel
theorem dX5_records_47 : decode cX5_records 47 = .ok (.putfield 32, 3) := by decide +kernel
theorem dX5_records_50 : decode cX5_records 50 = .ok (.aload_n 0, 1) := by decide +kernel
theorem dX5_records_51 : decode cX5_records 51 = .ok (.getfield 7, 3) := by decide +kernel
theorem dX5_records_54 : decode cX5_records 54 = .ok (.iconst 0, 1) := by decide +kernel
theorem dX5_records_55 : decode cX5_records 55 = .ok (.aload_n 0, 1) := by decide +kernel
theorem dX5_records_56 : decode cX5_records 56 = .ok (.getfield 16, 3) := by decide +kernel
theorem dX5_records_59 : decode cX5_records 59 = .ok (.sipush 234, 3) := by decide +kernel
theorem dX5_records_62 : decode cX5_records 62 = .ok (.aload_n 0, 1) := by decide +kernel
theorem dX5_records_63 : decode cX5_records 63 = .ok (.getfield 32, 3) := by decide +kernel
theorem dX5_records_66 : decode cX5_records 66 = .ok (.imul, 1) := by decide +kernel
theorem dX5_records_67 : decode cX5_records 67 = .ok (.invokestatic 36, 3) := by decide +kernel
theorem dX5_records_70 : decode cX5_records 70 = .ok (.aload_n 0, 1) := by decide +kernel
theorem dX5_records_71 : decode cX5_records 71 = .ok (.dup, 1) := by decide +kernel
theorem dX5_records_72 : decode cX5_records 72 = .ok (.getfield 32, 3) := by decide +kernel
theorem dX5_records_75 : decode cX5_records 75 = .ok (.iconst 1, 1) := by decide +kernel
theorem dX5_records_76 : decode cX5_records 76 = .ok (.iadd, 1) := by decide +kernel
theorem dX5_records_77 : decode cX5_records 77 = .ok (.putfield 32, 3) := by decide +kernel
theorem dX5_records_80 : decode cX5_records 80 = .ok (.return_, 1) := by decide +kernel
set_option maxRecDepth 20000 in
theorem ggX5_undo_X5_lays : GoodIn wsX5_undo wsX5_lays := goodIn_r _ [7] (by decide +kernel) (by decide +kernel)
set_option maxRecDepth 20000 in
theorem gX5_undo_X5_lays : GoodIn wsX5_undo (va_wsS RX5 36 yX5_lays wsX5_lays) := goodIn_app (goodIn_of _ (by decide +kernel)) ggX5_undo_X5_lays
theorem dX5_undo_0 : decode cX5_undo 0 = .ok (.aload_n 0, 1) := by decide +kernel
theorem dX5_undo_1 : decode cX5_undo 1 = .ok (.getfield 32, 3) := by decide +kernel
theorem dX5_undo_4 : decode cX5_undo 4 = .ok (.ifCond .ne 6, 3) := by decide +kernel
theorem dX5_undo_7 : decode cX5_undo 7 = .ok (.bipush (-5), 2) := by decide +kernel
theorem dX5_undo_9 : decode cX5_undo 9 = .ok (.ireturn, 1) := by decide +kernel
theorem dX5_undo_10 : decode cX5_undo 10 = .ok (.aload_n 0, 1) := by decide +kernel
theorem dX5_undo_11 : decode cX5_undo 11 = .ok (.dup, 1) := by decide +kernel
theorem dX5_undo_12 : decode cX5_undo 12 = .ok (.getfield 32, 3) := by decide +kernel
theorem dX5_undo_15 : decode cX5_undo 15 = .ok (.iconst 1, 1) := by decide +kernel
theorem dX5_undo_16 : decode cX5_undo 16 = .ok (.isub, 1) := by decide +kernel
theorem dX5_undo_17 : decode cX5_undo 17 = .ok (.putfield 32, 3) := by decide +kernel
theorem dX5_undo_20 : decode cX5_undo 20 = .ok (.aload_n 0, 1) := by decide +kernel
theorem dX5_undo_21 : decode cX5_undo 21 = .ok (.getfield 16, 3) := by decide +kernel
theorem dX5_undo_24 : decode cX5_undo 24 = .ok (.sipush 234, 3) := by decide +kernel
theorem dX5_undo_27 : decode cX5_undo 27 = .ok (.aload_n 0, 1) := by decide +kernel
theorem dX5_undo_28 : decode cX5_undo 28 = .ok (.getfield 32, 3) := by decide +kernel
theorem dX5_undo_31 : decode cX5_undo 31 = .ok (.imul, 1) := by decide +kernel
theorem dX5_undo_32 : decode cX5_undo 32 = .ok (.aload_n 0, 1) := by decide +kernel
theorem dX5_undo_33 : decode cX5_undo 33 = .ok (.getfield 7, 3) := by decide +kernel
theorem dX5_undo_36 : decode cX5_undo 36 = .ok (.iconst 0, 1) := by decide +kernel
theorem dX5_undo_37 : decode cX5_undo 37 = .ok (.invokestatic 36, 3) := by decide +kernel
theorem dX5_undo_40 : decode cX5_undo 40 = .ok (.aload_n 0, 1) := by decide +kernel
theorem dX5_undo_41 : decode cX5_undo 41 = .ok (.getfield 32, 3) := by decide +kernel
theorem dX5_undo_44 : decode cX5_undo 44 = .ok (.ireturn, 1) := by decide +kernel
set_option maxRecDepth 20000 in
theorem ggX5_save_X5_in : GoodIn wsX5_save wsX5_in := goodIn_r _ [7] (by decide +kernel) (by decide +kernel)
set_option maxRecDepth 20000 in
theorem gX5_save_X5_in : GoodIn wsX5_save (va_wsS RX5 40 yX5_in wsX5_in) := goodIn_app (goodIn_of _ (by decide +kernel)) ggX5_save_X5_in
set_option maxRecDepth 20000 in
theorem ggX5_save_X5_lays : GoodIn wsX5_save wsX5_lays := goodIn_r _ [10] (by decide +kernel) (by decide +kernel)
set_option maxRecDepth 20000 in
theorem gX5_save_X5_lays : GoodIn wsX5_save (va_wsS RX5 36 yX5_lays wsX5_lays) := goodIn_app (goodIn_of _ (by decide +kernel)) ggX5_save_X5_lays
theorem dX5_save_0 : decode cX5_save 0 = .ok (.iload_n 1, 1) := by decide +kernel
theorem dX5_save_1 : decode cX5_save 1 = .ok (.iconst 0, 1) := by decide +kernel
theorem dX5_save_2 : decode cX5_save 2 = .ok (.iconst 1, 1) := by decide +kernel
theorem dX5_save_3 : decode cX5_save 3 = .ok (.invokestatic 40, 3) := by decide +kernel
theorem dX5_save_6 : decode cX5_save 6 = .ok (.ifCond .ne 6, 3) := by decide +kernel
theorem dX5_save_9 : decode cX5_save 9 = .ok (.bipush (-2), 2) := by decide +kernel
theorem dX5_save_11 : decode cX5_save 11 = .ok (.ireturn, 1) := by decide +kernel
theorem dX5_save_12 : decode cX5_save 12 = .ok (.aload_n 0, 1) := by decide +kernel
theorem dX5_save_13 : decode cX5_save 13 = .ok (.getfield 7, 3) := by decide +kernel
theorem dX5_save_16 : decode cX5_save 16 = .ok (.iconst 0, 1) := by decide +kernel
theorem dX5_save_17 : decode cX5_save 17 = .ok (.aload_n 0, 1) := by decide +kernel
theorem dX5_save_18 : decode cX5_save 18 = .ok (.getfield 19, 3) := by decide +kernel
theorem dX5_save_21 : decode cX5_save 21 = .ok (.sipush 234, 3) := by decide +kernel
theorem dX5_save_24 : decode cX5_save 24 = .ok (.iload_n 1, 1) := by decide +kernel
theorem dX5_save_25 : decode cX5_save 25 = .ok (.imul, 1) := by decide +kernel
theorem dX5_save_26 : decode cX5_save 26 = .ok (.invokestatic 36, 3) := by decide +kernel
theorem dX5_save_29 : decode cX5_save 29 = .ok (.aload_n 0, 1) := by decide +kernel
theorem dX5_save_30 : decode cX5_save 30 = .ok (.getfield 22, 3) := by decide +kernel
theorem dX5_save_33 : decode cX5_save 33 = .ok (.iload_n 1, 1) := by decide +kernel
theorem dX5_save_34 : decode cX5_save 34 = .ok (.iconst 1, 1) := by decide +kernel
theorem dX5_save_35 : decode cX5_save 35 = .ok (.bastore, 1) := by decide +kernel
theorem dX5_save_36 : decode cX5_save 36 = .ok (.aload_n 0, 1) := by decide +kernel
theorem dX5_save_37 : decode cX5_save 37 = .ok (.getfield 7, 3) := by decide +kernel
theorem dX5_save_40 : decode cX5_save 40 = .ok (.iconst 0, 1) := by decide +kernel
theorem dX5_save_41 : decode cX5_save 41 = .ok (.iaload, 1) := by decide +kernel
theorem dX5_save_42 : decode cX5_save 42 = .ok (.ireturn, 1) := by decide +kernel
set_option maxRecDepth 20000 in
theorem ggX5_restore_X5_in : GoodIn wsX5_restore wsX5_in := goodIn_r _ [7] (by decide +kernel) (by decide +kernel)
set_option maxRecDepth 20000 in
theorem gX5_restore_X5_in : GoodIn wsX5_restore (va_wsS RX5 40 yX5_in wsX5_in) := goodIn_app (goodIn_of _ (by decide +kernel)) ggX5_restore_X5_in
set_option maxRecDepth 20000 in
theorem ggX5_restore_X5_records : GoodIn wsX5_restore wsX5_records := goodIn_r _ [11, 12, 13, 3, 14, 15, 6, 16, 17, 18, 19, 20, 21, 22, 23, 24, 25, 26, 27] (by decide +kernel) (by decide +kernel)
set_option maxRecDepth 20000 in
theorem gX5_restore_X5_records : GoodIn wsX5_restore (wsV RX5 44 RX5 yX5_records wsX5_records) := goodIn_app (goodIn_of _ (by decide +kernel)) ggX5_restore_X5_records
set_option maxRecDepth 20000 in
theorem ggX5_restore_X5_lays : GoodIn wsX5_restore wsX5_lays := goodIn_r _ [16] (by decide +kernel) (by decide +kernel)
set_option maxRecDepth 20000 in
theorem gX5_restore_X5_lays : GoodIn wsX5_restore (va_wsS RX5 36 yX5_lays wsX5_lays) := goodIn_app (goodIn_of _ (by decide +kernel)) ggX5_restore_X5_lays
