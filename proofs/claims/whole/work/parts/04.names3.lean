theorem dX6_init_0 : decode cX6_init 0 = .ok (.aload_n 0, 1) := by decide +kernel
theorem dX6_init_1 : decode cX6_init 1 = .ok (.invokespecial 1, 3) := by decide +kernel
theorem dX6_init_4 : decode cX6_init 4 = .ok (.aload_n 0, 1) := by decide +kernel
theorem dX6_init_5 : decode cX6_init 5 = .ok (.new 7, 3) := by decide +kernel
theorem dX6_init_8 : decode cX6_init 8 = .ok (.dup, 1) := by decide +kernel
theorem dX6_init_9 : decode cX6_init 9 = .ok (.invokespecial 9, 3) := by decide +kernel
theorem dX6_init_12 : decode cX6_init 12 = .ok (.putfield 10, 3) := by decide +kernel
theorem dX6_init_15 : decode cX6_init 15 = .ok (.aload_n 0, 1) := by decide +kernel
theorem dX6_init_16 : decode cX6_init 16 = .ok (.new 16, 3) := by decide +kernel
theorem dX6_init_19 : decode cX6_init 19 = .ok (.dup, 1) := by decide +kernel
theorem dX6_init_20 : decode cX6_init 20 = .ok (.invokespecial 18, 3) := by decide +kernel
theorem dX6_init_23 : decode cX6_init 23 = .ok (.putfield 19, 3) := by decide +kernel
theorem dX6_init_26 : decode cX6_init 26 = .ok (.aload_n 0, 1) := by decide +kernel
theorem dX6_init_27 : decode cX6_init 27 = .ok (.new 23, 3) := by decide +kernel
theorem dX6_init_30 : decode cX6_init 30 = .ok (.dup, 1) := by decide +kernel
theorem dX6_init_31 : decode cX6_init 31 = .ok (.invokespecial 25, 3) := by decide +kernel
theorem dX6_init_34 : decode cX6_init 34 = .ok (.putfield 26, 3) := by decide +kernel
theorem dX6_init_37 : decode cX6_init 37 = .ok (.aload_n 0, 1) := by decide +kernel
theorem dX6_init_38 : decode cX6_init 38 = .ok (.new 30, 3) := by decide +kernel
theorem dX6_init_41 : decode cX6_init 41 = .ok (.dup, 1) := by decide +kernel
theorem dX6_init_42 : decode cX6_init 42 = .ok (.invokespecial 32, 3) := by decide +kernel
theorem dX6_init_45 : decode cX6_init 45 = .ok (.putfield 33, 3) := by decide +kernel
theorem dX6_init_48 : decode cX6_init 48 = .ok (.aload_n 0, 1) := by decide +kernel
theorem dX6_init_49 : decode cX6_init 49 = .ok (.getstatic 37, 3) := by decide +kernel
theorem dX6_init_52 : decode cX6_init 52 = .ok (.invokevirtual 41, 3) := by decide +kernel
theorem dX6_init_55 : decode cX6_init 55 = .ok (.checkcast 42, 3) := by decide +kernel
theorem dX6_init_58 : decode cX6_init 58 = .ok (.putfield 46, 3) := by decide +kernel
theorem dX6_init_61 : decode cX6_init 61 = .ok (.return_, 1) := by decide +kernel
set_option maxRecDepth 20000 in
theorem ggX6_line_X6_within : GoodIn wsX6_line wsX6_within := goodIn_r _ [5] (by decide +kernel) (by decide +kernel)
set_option maxRecDepth 20000 in
theorem gX6_line_X6_within : GoodIn wsX6_line (va_wsS RX6 49 yX6_within wsX6_within) := goodIn_app (goodIn_of _ (by decide +kernel)) ggX6_line_X6_within
set_option maxRecDepth 20000 in
theorem ggX6_line_X1_renew : GoodIn wsX6_line wsX1_renew := goodIn_r _ [10, 11, 12, 13, 14, 15, 16, 17, 18, 19, 20, 21, 22, 23, 24, 25, 26, 27, 28, 29, 30, 31, 32, 33, 34, 35, 36, 37, 38, 39, 40, 41, 42, 43, 44, 45, 46, 47, 48, 49, 50, 51, 58, 59, 60, 61, 62, 63, 64, 65, 66, 67, 68, 69, 70, 71, 72, 73, 74, 75, 76, 77, 78, 79, 80, 81, 82, 83, 84] (by decide +kernel) (by decide +kernel)
set_option maxRecDepth 20000 in
theorem gX6_line_X1_renew : GoodIn wsX6_line (wsV RX6 53 RX1 yX1_renew wsX1_renew) := goodIn_app (goodIn_of _ (by decide +kernel)) ggX6_line_X1_renew
theorem dX6_line_0 : decode cX6_line 0 = .ok (.iload_n 1, 1) := by decide +kernel
theorem dX6_line_1 : decode cX6_line 1 = .ok (.iconst 2, 1) := by decide +kernel
theorem dX6_line_2 : decode cX6_line 2 = .ok (.bipush 6, 2) := by decide +kernel
theorem dX6_line_4 : decode cX6_line 4 = .ok (.invokestatic 49, 3) := by decide +kernel
theorem dX6_line_7 : decode cX6_line 7 = .ok (.ifCond .ne 5, 3) := by decide +kernel
theorem dX6_line_10 : decode cX6_line 10 = .ok (.iconst (-1), 1) := by decide +kernel
theorem dX6_line_11 : decode cX6_line 11 = .ok (.ireturn, 1) := by decide +kernel
theorem dX6_line_12 : decode cX6_line 12 = .ok (.aload_n 0, 1) := by decide +kernel
theorem dX6_line_13 : decode cX6_line 13 = .ok (.getfield 10, 3) := by decide +kernel
theorem dX6_line_16 : decode cX6_line 16 = .ok (.iload_n 1, 1) := by decide +kernel
theorem dX6_line_17 : decode cX6_line 17 = .ok (.invokevirtual 53, 3) := by decide +kernel
theorem dX6_line_20 : decode cX6_line 20 = .ok (.iload_n 1, 1) := by decide +kernel
theorem dX6_line_21 : decode cX6_line 21 = .ok (.ireturn, 1) := by decide +kernel
set_option maxRecDepth 20000 in
theorem ggX6_set_X1_machineAt : GoodIn wsX6_set wsX1_machineAt := goodIn_r _ [7, 8, 9, 51, 52, 53, 54, 55, 56, 57, 58, 59] (by decide +kernel) (by decide +kernel)
set_option maxRecDepth 20000 in
theorem gX6_set_X1_machineAt : GoodIn wsX6_set (wsV RX6 57 RX1 yX1_machineAt wsX1_machineAt) := goodIn_app (goodIn_of _ (by decide +kernel)) ggX6_set_X1_machineAt
set_option maxRecDepth 20000 in
theorem ggX6_set_X3_mayBeSet : GoodIn wsX6_set wsX3_mayBeSet := goodIn_r _ [14, 15, 16, 17, 18, 19] (by decide +kernel) (by decide +kernel)
set_option maxRecDepth 20000 in
theorem gX6_set_X3_mayBeSet : GoodIn wsX6_set (wsV RX6 61 RX3 yX3_mayBeSet wsX3_mayBeSet) := goodIn_app (goodIn_of _ (by decide +kernel)) ggX6_set_X3_mayBeSet
set_option maxRecDepth 20000 in
theorem ggX6_set_X1_isLast : GoodIn wsX6_set wsX1_isLast := goodIn_r _ [23, 24, 8, 37, 38, 39, 40, 41, 42, 43, 44, 45, 46, 47, 48, 49, 50, 51, 52, 53, 54, 55, 56, 57, 58, 59] (by decide +kernel) (by decide +kernel)
set_option maxRecDepth 20000 in
theorem gX6_set_X1_isLast : GoodIn wsX6_set (wsV RX6 67 RX1 yX1_isLast wsX1_isLast) := goodIn_app (goodIn_of _ (by decide +kernel)) ggX6_set_X1_isLast
set_option maxRecDepth 20000 in
theorem ggX6_set_X3_put : GoodIn wsX6_set wsX3_put := goodIn_r _ [28, 29, 30, 11, 12, 13, 14, 15, 16, 17, 18, 19, 37, 38, 39, 40, 41, 42, 43, 44, 45, 46, 47, 48, 49, 50] (by decide +kernel) (by decide +kernel)
set_option maxRecDepth 20000 in
theorem gX6_set_X3_put : GoodIn wsX6_set (wsV RX6 75 RX3 yX3_put wsX3_put) := goodIn_app (goodIn_of _ (by decide +kernel)) ggX6_set_X3_put
theorem dX6_set_0 : decode cX6_set 0 = .ok (.aload_n 0, 1) := by decide +kernel
theorem dX6_set_1 : decode cX6_set 1 = .ok (.getfield 10, 3) := by decide +kernel
theorem dX6_set_4 : decode cX6_set 4 = .ok (.iload_n 1, 1) := by decide +kernel
theorem dX6_set_5 : decode cX6_set 5 = .ok (.invokevirtual 57, 3) := by decide +kernel
theorem dX6_set_8 : decode cX6_set 8 = .ok (.astore 4, 2) := by decide +kernel
theorem dX6_set_10 : decode cX6_set 10 = .ok (.aload 4, 2) := by decide +kernel
theorem dX6_set_12 : decode cX6_set 12 = .ok (.ifnull 30, 3) := by decide +kernel
theorem dX6_set_15 : decode cX6_set 15 = .ok (.aload 4, 2) := by decide +kernel
theorem dX6_set_17 : decode cX6_set 17 = .ok (.iload_n 2, 1) := by decide +kernel
theorem dX6_set_18 : decode cX6_set 18 = .ok (.iload_n 3, 1) := by decide +kernel
theorem dX6_set_19 : decode cX6_set 19 = .ok (.invokevirtual 61, 3) := by decide +kernel
theorem dX6_set_22 : decode cX6_set 22 = .ok (.ifCond .eq 20, 3) := by decide +kernel
theorem dX6_set_25 : decode cX6_set 25 = .ok (.iload_n 2, 1) := by decide +kernel
theorem dX6_set_26 : decode cX6_set 26 = .ok (.iconst 3, 1) := by decide +kernel
theorem dX6_set_27 : decode cX6_set 27 = .ok (.if_icmp .ne 17, 3) := by decide +kernel
theorem dX6_set_30 : decode cX6_set 30 = .ok (.aload_n 0, 1) := by decide +kernel
theorem dX6_set_31 : decode cX6_set 31 = .ok (.getfield 10, 3) := by decide +kernel
theorem dX6_set_34 : decode cX6_set 34 = .ok (.aload 4, 2) := by decide +kernel
theorem dX6_set_36 : decode cX6_set 36 = .ok (.invokevirtual 67, 3) := by decide +kernel
theorem dX6_set_39 : decode cX6_set 39 = .ok (.ifCond .eq 5, 3) := by decide +kernel
theorem dX6_set_42 : decode cX6_set 42 = .ok (.iconst (-1), 1) := by decide +kernel
theorem dX6_set_43 : decode cX6_set 43 = .ok (.ireturn, 1) := by decide +kernel
theorem dX6_set_44 : decode cX6_set 44 = .ok (.iload_n 2, 1) := by decide +kernel
theorem dX6_set_45 : decode cX6_set 45 = .ok (.iconst 3, 1) := by decide +kernel
theorem dX6_set_46 : decode cX6_set 46 = .ok (.if_icmp .ne 15, 3) := by decide +kernel
theorem dX6_set_49 : decode cX6_set 49 = .ok (.aload 4, 2) := by decide +kernel
theorem dX6_set_51 : decode cX6_set 51 = .ok (.getfield 71, 3) := by decide +kernel
theorem dX6_set_54 : decode cX6_set 54 = .ok (.iload_n 3, 1) := by decide +kernel
theorem dX6_set_55 : decode cX6_set 55 = .ok (.if_icmp .le 6, 3) := by decide +kernel
theorem dX6_set_58 : decode cX6_set 58 = .ok (.bipush (-2), 2) := by decide +kernel
theorem dX6_set_60 : decode cX6_set 60 = .ok (.ireturn, 1) := by decide +kernel
theorem dX6_set_61 : decode cX6_set 61 = .ok (.aload 4, 2) := by decide +kernel
theorem dX6_set_63 : decode cX6_set 63 = .ok (.iload_n 2, 1) := by decide +kernel
theorem dX6_set_64 : decode cX6_set 64 = .ok (.iload_n 3, 1) := by decide +kernel
theorem dX6_set_65 : decode cX6_set 65 = .ok (.invokevirtual 75, 3) := by decide +kernel
theorem dX6_set_68 : decode cX6_set 68 = .ok (.ireturn, 1) := by decide +kernel
set_option maxRecDepth 20000 in
theorem ggX6_fault_X1_machineAt : GoodIn wsX6_fault wsX1_machineAt := goodIn_r _ [8, 9, 10, 26, 27, 28, 29, 30, 31, 32, 33, 34] (by decide +kernel) (by decide +kernel)
set_option maxRecDepth 20000 in
theorem gX6_fault_X1_machineAt : GoodIn wsX6_fault (wsV RX6 57 RX1 yX1_machineAt wsX1_machineAt) := goodIn_app (goodIn_of _ (by decide +kernel)) ggX6_fault_X1_machineAt
set_option maxRecDepth 20000 in
theorem ggX6_fault_X2_add : GoodIn wsX6_fault wsX2_add := goodIn_r _ [15, 16, 17, 18, 19, 35, 36, 37, 38] (by decide +kernel) (by decide +kernel)
set_option maxRecDepth 20000 in
theorem gX6_fault_X2_add : GoodIn wsX6_fault (wsV RX6 86 RX2 yX2_add wsX2_add) := goodIn_app (goodIn_of _ (by decide +kernel)) ggX6_fault_X2_add
theorem dX6_fault_0 : decode cX6_fault 0 = .ok (.aload_n 0, 1) := by decide +kernel
theorem dX6_fault_1 : decode cX6_fault 1 = .ok (.getfield 10, 3) := by decide +kernel
theorem dX6_fault_4 : decode cX6_fault 4 = .ok (.iload_n 1, 1) := by decide +kernel
theorem dX6_fault_5 : decode cX6_fault 5 = .ok (.invokevirtual 57, 3) := by decide +kernel
theorem dX6_fault_8 : decode cX6_fault 8 = .ok (.ifnull 19, 3) := by decide +kernel
theorem dX6_fault_11 : decode cX6_fault 11 = .ok (.iload_n 2, 1) := by decide +kernel
theorem dX6_fault_12 : decode cX6_fault 12 = .ok (.ifCond .lt 15, 3) := by decide +kernel
theorem dX6_fault_15 : decode cX6_fault 15 = .ok (.iload_n 3, 1) := by decide +kernel
theorem dX6_fault_16 : decode cX6_fault 16 = .ok (.iload_n 2, 1) := by decide +kernel
theorem dX6_fault_17 : decode cX6_fault 17 = .ok (.if_icmp .lt 10, 3) := by decide +kernel
theorem dX6_fault_20 : decode cX6_fault 20 = .ok (.iload_n 3, 1) := by decide +kernel
theorem dX6_fault_21 : decode cX6_fault 21 = .ok (.sipush 10000, 3) := by decide +kernel
theorem dX6_fault_24 : decode cX6_fault 24 = .ok (.if_icmp .lt 5, 3) := by decide +kernel
theorem dX6_fault_27 : decode cX6_fault 27 = .ok (.iconst (-1), 1) := by decide +kernel
theorem dX6_fault_28 : decode cX6_fault 28 = .ok (.ireturn, 1) := by decide +kernel
theorem dX6_fault_29 : decode cX6_fault 29 = .ok (.iload_n 2, 1) := by decide +kernel
theorem dX6_fault_30 : decode cX6_fault 30 = .ok (.aload_n 0, 1) := by decide +kernel
theorem dX6_fault_31 : decode cX6_fault 31 = .ok (.getfield 10, 3) := by decide +kernel
theorem dX6_fault_34 : decode cX6_fault 34 = .ok (.getfield 79, 3) := by decide +kernel
theorem dX6_fault_37 : decode cX6_fault 37 = .ok (.if_icmp .ge 6, 3) := by decide +kernel
theorem dX6_fault_40 : decode cX6_fault 40 = .ok (.bipush (-2), 2) := by decide +kernel
theorem dX6_fault_42 : decode cX6_fault 42 = .ok (.ireturn, 1) := by decide +kernel
theorem dX6_fault_43 : decode cX6_fault 43 = .ok (.aload_n 0, 1) := by decide +kernel
theorem dX6_fault_44 : decode cX6_fault 44 = .ok (.getfield 10, 3) := by decide +kernel
theorem dX6_fault_47 : decode cX6_fault 47 = .ok (.getfield 82, 3) := by decide +kernel
theorem dX6_fault_50 : decode cX6_fault 50 = .ok (.iload_n 1, 1) := by decide +kernel
theorem dX6_fault_51 : decode cX6_fault 51 = .ok (.iload_n 2, 1) := by decide +kernel
theorem dX6_fault_52 : decode cX6_fault 52 = .ok (.iload_n 3, 1) := by decide +kernel
theorem dX6_fault_53 : decode cX6_fault 53 = .ok (.invokevirtual 86, 3) := by decide +kernel
theorem dX6_fault_56 : decode cX6_fault 56 = .ok (.ireturn, 1) := by decide +kernel
set_option maxRecDepth 20000 in
theorem ggX6_supply_X6_within : GoodIn wsX6_supply wsX6_within := goodIn_r _ [7] (by decide +kernel) (by decide +kernel)
set_option maxRecDepth 20000 in
theorem gX6_supply_X6_within : GoodIn wsX6_supply (va_wsS RX6 49 yX6_within wsX6_within) := goodIn_app (goodIn_of _ (by decide +kernel)) ggX6_supply_X6_within
theorem dX6_supply_0 : decode cX6_supply 0 = .ok (.iload_n 1, 1) := by decide +kernel
theorem dX6_supply_1 : decode cX6_supply 1 = .ok (.iconst 1, 1) := by decide +kernel
theorem dX6_supply_2 : decode cX6_supply 2 = .ok (.sipush 1000, 3) := by decide +kernel
theorem dX6_supply_5 : decode cX6_supply 5 = .ok (.invokestatic 49, 3) := by decide +kernel
theorem dX6_supply_8 : decode cX6_supply 8 = .ok (.ifCond .ne 5, 3) := by decide +kernel
theorem dX6_supply_11 : decode cX6_supply 11 = .ok (.iconst (-1), 1) := by decide +kernel
theorem dX6_supply_12 : decode cX6_supply 12 = .ok (.ireturn, 1) := by decide +kernel
theorem dX6_supply_13 : decode cX6_supply 13 = .ok (.aload_n 0, 1) := by decide +kernel
theorem dX6_supply_14 : decode cX6_supply 14 = .ok (.getfield 10, 3) := by decide +kernel
theorem dX6_supply_17 : decode cX6_supply 17 = .ok (.getfield 92, 3) := by decide +kernel
theorem dX6_supply_20 : decode cX6_supply 20 = .ok (.iload_n 1, 1) := by decide +kernel
theorem dX6_supply_21 : decode cX6_supply 21 = .ok (.iadd, 1) := by decide +kernel
theorem dX6_supply_22 : decode cX6_supply 22 = .ok (.ldc 95, 2) := by decide +kernel
theorem dX6_supply_24 : decode cX6_supply 24 = .ok (.if_icmp .le 6, 3) := by decide +kernel
theorem dX6_supply_27 : decode cX6_supply 27 = .ok (.bipush (-3), 2) := by decide +kernel
theorem dX6_supply_29 : decode cX6_supply 29 = .ok (.ireturn, 1) := by decide +kernel
theorem dX6_supply_30 : decode cX6_supply 30 = .ok (.aload_n 0, 1) := by decide +kernel
theorem dX6_supply_31 : decode cX6_supply 31 = .ok (.getfield 10, 3) := by decide +kernel
theorem dX6_supply_34 : decode cX6_supply 34 = .ok (.dup, 1) := by decide +kernel
theorem dX6_supply_35 : decode cX6_supply 35 = .ok (.getfield 92, 3) := by decide +kernel
theorem dX6_supply_38 : decode cX6_supply 38 = .ok (.iload_n 1, 1) := by decide +kernel
theorem dX6_supply_39 : decode cX6_supply 39 = .ok (.iadd, 1) := by decide +kernel
theorem dX6_supply_40 : decode cX6_supply 40 = .ok (.putfield 92, 3) := by decide +kernel
theorem dX6_supply_43 : decode cX6_supply 43 = .ok (.aload_n 0, 1) := by decide +kernel
theorem dX6_supply_44 : decode cX6_supply 44 = .ok (.getfield 10, 3) := by decide +kernel
theorem dX6_supply_47 : decode cX6_supply 47 = .ok (.getfield 92, 3) := by decide +kernel
theorem dX6_supply_50 : decode cX6_supply 50 = .ok (.ireturn, 1) := by decide +kernel
set_option maxRecDepth 20000 in
theorem ggX6_lot_X6_within : GoodIn wsX6_lot wsX6_within := goodIn_r _ [5] (by decide +kernel) (by decide +kernel)
set_option maxRecDepth 20000 in
theorem gX6_lot_X6_within : GoodIn wsX6_lot (va_wsS RX6 49 yX6_within wsX6_within) := goodIn_app (goodIn_of _ (by decide +kernel)) ggX6_lot_X6_within
theorem dX6_lot_0 : decode cX6_lot 0 = .ok (.iload_n 1, 1) := by decide +kernel
theorem dX6_lot_1 : decode cX6_lot 1 = .ok (.iconst 0, 1) := by decide +kernel
theorem dX6_lot_2 : decode cX6_lot 2 = .ok (.bipush 15, 2) := by decide +kernel
theorem dX6_lot_4 : decode cX6_lot 4 = .ok (.invokestatic 49, 3) := by decide +kernel
theorem dX6_lot_7 : decode cX6_lot 7 = .ok (.ifCond .ne 5, 3) := by decide +kernel
theorem dX6_lot_10 : decode cX6_lot 10 = .ok (.iconst (-1), 1) := by decide +kernel
theorem dX6_lot_11 : decode cX6_lot 11 = .ok (.ireturn, 1) := by decide +kernel
theorem dX6_lot_12 : decode cX6_lot 12 = .ok (.aload_n 0, 1) := by decide +kernel
theorem dX6_lot_13 : decode cX6_lot 13 = .ok (.getfield 96, 3) := by decide +kernel
theorem dX6_lot_16 : decode cX6_lot 16 = .ok (.istore_n 2, 1) := by decide +kernel
theorem dX6_lot_17 : decode cX6_lot 17 = .ok (.aload_n 0, 1) := by decide +kernel
theorem dX6_lot_18 : decode cX6_lot 18 = .ok (.iload_n 1, 1) := by decide +kernel
theorem dX6_lot_19 : decode cX6_lot 19 = .ok (.putfield 96, 3) := by decide +kernel
theorem dX6_lot_22 : decode cX6_lot 22 = .ok (.iload_n 2, 1) := by decide +kernel
theorem dX6_lot_23 : decode cX6_lot 23 = .ok (.ireturn, 1) := by decide +kernel
set_option maxRecDepth 20000 in
theorem ggX6_ticks_X6_within : GoodIn wsX6_ticks wsX6_within := goodIn_r _ [8] (by decide +kernel) (by decide +kernel)
set_option maxRecDepth 20000 in
theorem gX6_ticks_X6_within : GoodIn wsX6_ticks (va_wsS RX6 49 yX6_within wsX6_within) := goodIn_app (goodIn_of _ (by decide +kernel)) ggX6_ticks_X6_within
set_option maxRecDepth 20000 in
theorem ggX6_ticks_X1_step : GoodIn wsX6_ticks wsX1_step := goodIn_r _ [13, 14, 15, 16, 17, 18, 19, 20, 21, 12, 22, 23, 24, 25, 26, 27, 28, 29, 30, 31, 32, 33, 34, 35, 36, 37, 38, 39, 40, 41, 42, 43, 44, 45, 46, 6, 7, 8, 47, 48, 49, 50, 51, 52, 53, 54, 55, 56, 57, 58, 59, 60, 61, 62, 63, 64, 65, 66, 67, 68, 69, 70, 71, 72, 73, 74, 75, 76, 77, 78, 79, 80, 81, 82, 83, 84, 85, 86, 87, 88, 89, 90, 91, 92, 93, 94, 95, 96, 97, 98, 99, 100, 101, 102, 118, 119, 120, 121, 122, 123, 124, 125, 126, 127, 128, 129, 130, 131, 132, 133, 134, 135, 136, 137, 138, 139, 140, 141, 142, 143, 144] (by decide +kernel) (by decide +kernel)
set_option maxRecDepth 20000 in
theorem gX6_ticks_X1_step : GoodIn wsX6_ticks (wsV RX6 99 RX1 yX1_step wsX1_step) := goodIn_app (goodIn_of _ (by decide +kernel)) ggX6_ticks_X1_step
set_option maxRecDepth 20000 in
theorem ggX6_ticks_X0_add : GoodIn wsX6_ticks wsX0_add := goodIn_r _ [107, 108, 109, 110, 111, 145, 146, 147, 148, 149, 150, 151, 152, 153] (by decide +kernel) (by decide +kernel)
set_option maxRecDepth 20000 in
theorem gX6_ticks_X0_add : GoodIn wsX6_ticks (wsV RX6 103 RX0 yX0_add wsX0_add) := goodIn_app (goodIn_of _ (by decide +kernel)) ggX6_ticks_X0_add
theorem dX6_ticks_0 : decode cX6_ticks 0 = .ok (.iload_n 1, 1) := by decide +kernel
theorem dX6_ticks_1 : decode cX6_ticks 1 = .ok (.iconst 1, 1) := by decide +kernel
theorem dX6_ticks_2 : decode cX6_ticks 2 = .ok (.sipush 500, 3) := by decide +kernel
theorem dX6_ticks_5 : decode cX6_ticks 5 = .ok (.invokestatic 49, 3) := by decide +kernel
theorem dX6_ticks_8 : decode cX6_ticks 8 = .ok (.ifCond .ne 5, 3) := by decide +kernel
theorem dX6_ticks_11 : decode cX6_ticks 11 = .ok (.iconst (-1), 1) := by decide +kernel
theorem dX6_ticks_12 : decode cX6_ticks 12 = .ok (.ireturn, 1) := by decide +kernel
theorem dX6_ticks_13 : decode cX6_ticks 13 = .ok (.aload_n 0, 1) := by decide +kernel
theorem dX6_ticks_14 : decode cX6_ticks 14 = .ok (.getfield 10, 3) := by decide +kernel
theorem dX6_ticks_17 : decode cX6_ticks 17 = .ok (.getfield 79, 3) := by decide +kernel
theorem dX6_ticks_20 : decode cX6_ticks 20 = .ok (.iload_n 1, 1) := by decide +kernel
theorem dX6_ticks_21 : decode cX6_ticks 21 = .ok (.iadd, 1) := by decide +kernel
theorem dX6_ticks_22 : decode cX6_ticks 22 = .ok (.sipush 10000, 3) := by decide +kernel
theorem dX6_ticks_25 : decode cX6_ticks 25 = .ok (.if_icmp .le 6, 3) := by decide +kernel
theorem dX6_ticks_28 : decode cX6_ticks 28 = .ok (.bipush (-3), 2) := by decide +kernel
theorem dX6_ticks_30 : decode cX6_ticks 30 = .ok (.ireturn, 1) := by decide +kernel
theorem dX6_ticks_31 : decode cX6_ticks 31 = .ok (.iconst 0, 1) := by decide +kernel
theorem dX6_ticks_32 : decode cX6_ticks 32 = .ok (.istore_n 2, 1) := by decide +kernel
theorem dX6_ticks_33 : decode cX6_ticks 33 = .ok (.iload_n 2, 1) := by decide +kernel
theorem dX6_ticks_34 : decode cX6_ticks 34 = .ok (.iload_n 1, 1) := by decide +kernel
theorem dX6_ticks_35 : decode cX6_ticks 35 = .ok (.if_icmp .ge 30, 3) := by decide +kernel
theorem dX6_ticks_38 : decode cX6_ticks 38 = .ok (.aload_n 0, 1) := by decide +kernel
theorem dX6_ticks_39 : decode cX6_ticks 39 = .ok (.getfield 10, 3) := by decide +kernel
theorem dX6_ticks_42 : decode cX6_ticks 42 = .ok (.invokevirtual 99, 3) := by decide +kernel
theorem dX6_ticks_45 : decode cX6_ticks 45 = .ok (.ifCond .eq 14, 3) := by decide +kernel
theorem dX6_ticks_48 : decode cX6_ticks 48 = .ok (.aload_n 0, 1) := by decide +kernel
theorem dX6_ticks_49 : decode cX6_ticks 49 = .ok (.getfield 19, 3) := by decide +kernel
theorem dX6_ticks_52 : decode cX6_ticks 52 = .ok (.aload_n 0, 1) := by decide +kernel
theorem dX6_ticks_53 : decode cX6_ticks 53 = .ok (.getfield 96, 3) := by decide +kernel
theorem dX6_ticks_56 : decode cX6_ticks 56 = .ok (.invokevirtual 103, 3) := by decide +kernel
theorem dX6_ticks_59 : decode cX6_ticks 59 = .ok (.iinc 2 1, 3) := by decide +kernel
theorem dX6_ticks_62 : decode cX6_ticks 62 = .ok (.goto (-29), 3) := by decide +kernel
theorem dX6_ticks_65 : decode cX6_ticks 65 = .ok (.aload_n 0, 1) := by decide +kernel
theorem dX6_ticks_66 : decode cX6_ticks 66 = .ok (.getfield 10, 3) := by decide +kernel
theorem dX6_ticks_69 : decode cX6_ticks 69 = .ok (.getfield 79, 3) := by decide +kernel
theorem dX6_ticks_72 : decode cX6_ticks 72 = .ok (.ireturn, 1) := by decide +kernel
set_option maxRecDepth 20000 in
theorem ggX6_confirm_X1_machineAt : GoodIn wsX6_confirm wsX1_machineAt := goodIn_r _ [7, 8, 9, 30, 31, 32, 33, 34, 35, 36, 37, 38] (by decide +kernel) (by decide +kernel)
set_option maxRecDepth 20000 in
theorem gX6_confirm_X1_machineAt : GoodIn wsX6_confirm (wsV RX6 57 RX1 yX1_machineAt wsX1_machineAt) := goodIn_app (goodIn_of _ (by decide +kernel)) ggX6_confirm_X1_machineAt
theorem dX6_confirm_0 : decode cX6_confirm 0 = .ok (.aload_n 0, 1) := by decide +kernel
theorem dX6_confirm_1 : decode cX6_confirm 1 = .ok (.getfield 10, 3) := by decide +kernel
theorem dX6_confirm_4 : decode cX6_confirm 4 = .ok (.iload_n 1, 1) := by decide +kernel
theorem dX6_confirm_5 : decode cX6_confirm 5 = .ok (.invokevirtual 57, 3) := by decide +kernel
theorem dX6_confirm_8 : decode cX6_confirm 8 = .ok (.astore_n 2, 1) := by decide +kernel
theorem dX6_confirm_9 : decode cX6_confirm 9 = .ok (.aload_n 2, 1) := by decide +kernel
theorem dX6_confirm_10 : decode cX6_confirm 10 = .ok (.ifnonnull 5, 3) := by decide +kernel
theorem dX6_confirm_13 : decode cX6_confirm 13 = .ok (.iconst (-1), 1) := by decide +kernel
theorem dX6_confirm_14 : decode cX6_confirm 14 = .ok (.ireturn, 1) := by decide +kernel
theorem dX6_confirm_15 : decode cX6_confirm 15 = .ok (.aload_n 2, 1) := by decide +kernel
theorem dX6_confirm_16 : decode cX6_confirm 16 = .ok (.getfield 105, 3) := by decide +kernel
theorem dX6_confirm_19 : decode cX6_confirm 19 = .ok (.istore_n 3, 1) := by decide +kernel
theorem dX6_confirm_20 : decode cX6_confirm 20 = .ok (.aload_n 2, 1) := by decide +kernel
theorem dX6_confirm_21 : decode cX6_confirm 21 = .ok (.iconst 0, 1) := by decide +kernel
theorem dX6_confirm_22 : decode cX6_confirm 22 = .ok (.putfield 105, 3) := by decide +kernel
theorem dX6_confirm_25 : decode cX6_confirm 25 = .ok (.iload_n 3, 1) := by decide +kernel
theorem dX6_confirm_26 : decode cX6_confirm 26 = .ok (.ireturn, 1) := by decide +kernel
set_option maxRecDepth 20000 in
theorem ggX6_about_X1_machineAt : GoodIn wsX6_about wsX1_machineAt := goodIn_r _ [13, 14, 15, 43, 44, 45, 46, 47, 48, 49, 50, 51] (by decide +kernel) (by decide +kernel)
set_option maxRecDepth 20000 in
theorem gX6_about_X1_machineAt : GoodIn wsX6_about (wsV RX6 57 RX1 yX1_machineAt wsX1_machineAt) := goodIn_app (goodIn_of _ (by decide +kernel)) ggX6_about_X1_machineAt
set_option maxRecDepth 20000 in
theorem ggX6_about_X3_unitsInside : GoodIn wsX6_about wsX3_unitsInside := goodIn_r _ [20, 21, 22, 29, 30, 31, 32, 33, 34, 35, 36, 37, 38, 39, 40, 41, 42] (by decide +kernel) (by decide +kernel)
set_option maxRecDepth 20000 in
theorem gX6_about_X3_unitsInside : GoodIn wsX6_about (wsV RX6 120 RX3 yX3_unitsInside wsX3_unitsInside) := goodIn_app (goodIn_of _ (by decide +kernel)) ggX6_about_X3_unitsInside
theorem dX6_about_0 : decode cX6_about 0 = .ok (.aload_n 0, 1) := by decide +kernel
theorem dX6_about_1 : decode cX6_about 1 = .ok (.getfield 10, 3) := by decide +kernel
theorem dX6_about_4 : decode cX6_about 4 = .ok (.iload_n 1, 1) := by decide +kernel
theorem dX6_about_5 : decode cX6_about 5 = .ok (.invokevirtual 57, 3) := by decide +kernel
theorem dX6_about_8 : decode cX6_about 8 = .ok (.astore_n 3, 1) := by decide +kernel
theorem dX6_about_9 : decode cX6_about 9 = .ok (.aload_n 3, 1) := by decide +kernel
theorem dX6_about_10 : decode cX6_about 10 = .ok (.ifnonnull 5, 3) := by decide +kernel
theorem dX6_about_13 : decode cX6_about 13 = .ok (.iconst (-1), 1) := by decide +kernel
theorem dX6_about_14 : decode cX6_about 14 = .ok (.ireturn, 1) := by decide +kernel
theorem dX6_about_15 : decode cX6_about 15 = .ok (.iload_n 2, 1) := by decide +kernel
theorem dX6_about_16 : decode cX6_about 16 = .ok (.tableswitch 88 0 7 #[48, 53, 58, 63, 68, 73, 78, 83], 48) := by decide +kernel
theorem dX6_about_64 : decode cX6_about 64 = .ok (.aload_n 3, 1) := by decide +kernel
theorem dX6_about_65 : decode cX6_about 65 = .ok (.getfield 108, 3) := by decide +kernel
theorem dX6_about_68 : decode cX6_about 68 = .ok (.ireturn, 1) := by decide +kernel
theorem dX6_about_69 : decode cX6_about 69 = .ok (.aload_n 3, 1) := by decide +kernel
theorem dX6_about_70 : decode cX6_about 70 = .ok (.getfield 111, 3) := by decide +kernel
theorem dX6_about_73 : decode cX6_about 73 = .ok (.ireturn, 1) := by decide +kernel
theorem dX6_about_74 : decode cX6_about 74 = .ok (.aload_n 3, 1) := by decide +kernel
theorem dX6_about_75 : decode cX6_about 75 = .ok (.getfield 114, 3) := by decide +kernel
theorem dX6_about_78 : decode cX6_about 78 = .ok (.ireturn, 1) := by decide +kernel
theorem dX6_about_79 : decode cX6_about 79 = .ok (.aload_n 3, 1) := by decide +kernel
theorem dX6_about_80 : decode cX6_about 80 = .ok (.getfield 117, 3) := by decide +kernel
theorem dX6_about_83 : decode cX6_about 83 = .ok (.ireturn, 1) := by decide +kernel
theorem dX6_about_84 : decode cX6_about 84 = .ok (.aload_n 3, 1) := by decide +kernel
theorem dX6_about_85 : decode cX6_about 85 = .ok (.invokevirtual 120, 3) := by decide +kernel
theorem dX6_about_88 : decode cX6_about 88 = .ok (.ireturn, 1) := by decide +kernel
theorem dX6_about_89 : decode cX6_about 89 = .ok (.aload_n 3, 1) := by decide +kernel
theorem dX6_about_90 : decode cX6_about 90 = .ok (.getfield 71, 3) := by decide +kernel
theorem dX6_about_93 : decode cX6_about 93 = .ok (.ireturn, 1) := by decide +kernel
theorem dX6_about_94 : decode cX6_about 94 = .ok (.aload_n 3, 1) := by decide +kernel
theorem dX6_about_95 : decode cX6_about 95 = .ok (.getfield 105, 3) := by decide +kernel
theorem dX6_about_98 : decode cX6_about 98 = .ok (.ireturn, 1) := by decide +kernel
theorem dX6_about_99 : decode cX6_about 99 = .ok (.aload_n 3, 1) := by decide +kernel
theorem dX6_about_100 : decode cX6_about 100 = .ok (.getfield 124, 3) := by decide +kernel
theorem dX6_about_103 : decode cX6_about 103 = .ok (.ireturn, 1) := by decide +kernel
theorem dX6_about_104 : decode cX6_about 104 = .ok (.iconst (-1), 1) := by decide +kernel
theorem dX6_about_105 : decode cX6_about 105 = .ok (.ireturn, 1) := by decide +kernel
set_option maxRecDepth 20000 in
theorem ggX6_cause_X6_within : GoodIn wsX6_cause wsX6_within := goodIn_r _ [6] (by decide +kernel) (by decide +kernel)
set_option maxRecDepth 20000 in
theorem gX6_cause_X6_within : GoodIn wsX6_cause (va_wsS RX6 49 yX6_within wsX6_within) := goodIn_app (goodIn_of _ (by decide +kernel)) ggX6_cause_X6_within
theorem dX6_cause_0 : decode cX6_cause 0 = .ok (.iload_n 1, 1) := by decide +kernel
theorem dX6_cause_1 : decode cX6_cause 1 = .ok (.iconst 0, 1) := by decide +kernel
theorem dX6_cause_2 : decode cX6_cause 2 = .ok (.bipush 7, 2) := by decide +kernel
theorem dX6_cause_4 : decode cX6_cause 4 = .ok (.invokestatic 49, 3) := by decide +kernel
theorem dX6_cause_7 : decode cX6_cause 7 = .ok (.ifCond .ne 5, 3) := by decide +kernel
theorem dX6_cause_10 : decode cX6_cause 10 = .ok (.iconst (-1), 1) := by decide +kernel
theorem dX6_cause_11 : decode cX6_cause 11 = .ok (.ireturn, 1) := by decide +kernel
theorem dX6_cause_12 : decode cX6_cause 12 = .ok (.aload_n 0, 1) := by decide +kernel
theorem dX6_cause_13 : decode cX6_cause 13 = .ok (.getfield 10, 3) := by decide +kernel
theorem dX6_cause_16 : decode cX6_cause 16 = .ok (.getfield 127, 3) := by decide +kernel
theorem dX6_cause_19 : decode cX6_cause 19 = .ok (.iload_n 1, 1) := by decide +kernel
theorem dX6_cause_20 : decode cX6_cause 20 = .ok (.iaload, 1) := by decide +kernel
theorem dX6_cause_21 : decode cX6_cause 21 = .ok (.ireturn, 1) := by decide +kernel
set_option maxRecDepth 20000 in
theorem ggX6_book_X1_allRejected : GoodIn wsX6_book wsX1_allRejected := goodIn_r _ [11, 12, 13, 14, 15, 16, 10, 17, 18, 19, 20, 21, 22, 23, 56, 57, 58, 59, 60, 61, 62, 63, 64, 65, 66, 67, 68, 69, 47, 48, 49, 50, 51, 52, 53, 54, 55] (by decide +kernel) (by decide +kernel)
set_option maxRecDepth 20000 in
theorem gX6_book_X1_allRejected : GoodIn wsX6_book (wsV RX6 136 RX1 yX1_allRejected wsX1_allRejected) := goodIn_app (goodIn_of _ (by decide +kernel)) ggX6_book_X1_allRejected
set_option maxRecDepth 20000 in
theorem ggX6_book_X1_allSampled : GoodIn wsX6_book wsX1_allSampled := goodIn_r _ [27, 28, 13, 14, 15, 16, 10, 17, 18, 19, 20, 21, 22, 23, 56, 57, 58, 59, 60, 61, 62, 63, 64, 65, 66, 67, 68, 69, 47, 48, 49, 50, 51, 52, 53, 54, 55] (by decide +kernel) (by decide +kernel)
set_option maxRecDepth 20000 in
theorem gX6_book_X1_allSampled : GoodIn wsX6_book (wsV RX6 139 RX1 yX1_allSampled wsX1_allSampled) := goodIn_app (goodIn_of _ (by decide +kernel)) ggX6_book_X1_allSampled
set_option maxRecDepth 20000 in
theorem ggX6_book_X1_allOnLine : GoodIn wsX6_book wsX1_allOnLine := goodIn_r _ [32, 33, 13, 14, 15, 16, 10, 17, 18, 19, 20, 21, 22, 23, 34, 35, 36, 37, 38, 39, 40, 56, 57, 58, 59, 60, 61, 62, 63, 64, 65, 66, 67, 68, 69, 47, 48, 49, 50, 51, 52, 53, 54, 55] (by decide +kernel) (by decide +kernel)
set_option maxRecDepth 20000 in
theorem gX6_book_X1_allOnLine : GoodIn wsX6_book (wsV RX6 142 RX1 yX1_allOnLine wsX1_allOnLine) := goodIn_app (goodIn_of _ (by decide +kernel)) ggX6_book_X1_allOnLine
theorem dX6_book_0 : decode cX6_book 0 = .ok (.iload_n 1, 1) := by decide +kernel
theorem dX6_book_1 : decode cX6_book 1 = .ok (.tableswitch 111 0 7 #[47, 55, 63, 71, 79, 87, 95, 103], 47) := by decide +kernel
theorem dX6_book_48 : decode cX6_book 48 = .ok (.aload_n 0, 1) := by decide +kernel
theorem dX6_book_49 : decode cX6_book 49 = .ok (.getfield 10, 3) := by decide +kernel
theorem dX6_book_52 : decode cX6_book 52 = .ok (.getfield 79, 3) := by decide +kernel
theorem dX6_book_55 : decode cX6_book 55 = .ok (.ireturn, 1) := by decide +kernel
theorem dX6_book_56 : decode cX6_book 56 = .ok (.aload_n 0, 1) := by decide +kernel
theorem dX6_book_57 : decode cX6_book 57 = .ok (.getfield 10, 3) := by decide +kernel
theorem dX6_book_60 : decode cX6_book 60 = .ok (.getfield 92, 3) := by decide +kernel
theorem dX6_book_63 : decode cX6_book 63 = .ok (.ireturn, 1) := by decide +kernel
theorem dX6_book_64 : decode cX6_book 64 = .ok (.aload_n 0, 1) := by decide +kernel
theorem dX6_book_65 : decode cX6_book 65 = .ok (.getfield 10, 3) := by decide +kernel
theorem dX6_book_68 : decode cX6_book 68 = .ok (.getfield 130, 3) := by decide +kernel
theorem dX6_book_71 : decode cX6_book 71 = .ok (.ireturn, 1) := by decide +kernel
theorem dX6_book_72 : decode cX6_book 72 = .ok (.aload_n 0, 1) := by decide +kernel
theorem dX6_book_73 : decode cX6_book 73 = .ok (.getfield 10, 3) := by decide +kernel
theorem dX6_book_76 : decode cX6_book 76 = .ok (.getfield 133, 3) := by decide +kernel
theorem dX6_book_79 : decode cX6_book 79 = .ok (.ireturn, 1) := by decide +kernel
theorem dX6_book_80 : decode cX6_book 80 = .ok (.aload_n 0, 1) := by decide +kernel
theorem dX6_book_81 : decode cX6_book 81 = .ok (.getfield 10, 3) := by decide +kernel
theorem dX6_book_84 : decode cX6_book 84 = .ok (.invokevirtual 136, 3) := by decide +kernel
theorem dX6_book_87 : decode cX6_book 87 = .ok (.ireturn, 1) := by decide +kernel
theorem dX6_book_88 : decode cX6_book 88 = .ok (.aload_n 0, 1) := by decide +kernel
theorem dX6_book_89 : decode cX6_book 89 = .ok (.getfield 10, 3) := by decide +kernel
theorem dX6_book_92 : decode cX6_book 92 = .ok (.invokevirtual 139, 3) := by decide +kernel
theorem dX6_book_95 : decode cX6_book 95 = .ok (.ireturn, 1) := by decide +kernel
theorem dX6_book_96 : decode cX6_book 96 = .ok (.aload_n 0, 1) := by decide +kernel
theorem dX6_book_97 : decode cX6_book 97 = .ok (.getfield 10, 3) := by decide +kernel
theorem dX6_book_100 : decode cX6_book 100 = .ok (.invokevirtual 142, 3) := by decide +kernel
theorem dX6_book_103 : decode cX6_book 103 = .ok (.ireturn, 1) := by decide +kernel
theorem dX6_book_104 : decode cX6_book 104 = .ok (.aload_n 0, 1) := by decide +kernel
theorem dX6_book_105 : decode cX6_book 105 = .ok (.getfield 10, 3) := by decide +kernel
theorem dX6_book_108 : decode cX6_book 108 = .ok (.getfield 145, 3) := by decide +kernel
theorem dX6_book_111 : decode cX6_book 111 = .ok (.ireturn, 1) := by decide +kernel
theorem dX6_book_112 : decode cX6_book 112 = .ok (.iconst (-1), 1) := by decide +kernel
theorem dX6_book_113 : decode cX6_book 113 = .ok (.ireturn, 1) := by decide +kernel
set_option maxRecDepth 20000 in
theorem ggX6_rule_X6_within : GoodIn wsX6_rule wsX6_within := goodIn_r _ [8] (by decide +kernel) (by decide +kernel)
set_option maxRecDepth 20000 in
theorem gX6_rule_X6_within : GoodIn wsX6_rule (va_wsS RX6 49 yX6_within wsX6_within) := goodIn_app (goodIn_of _ (by decide +kernel)) ggX6_rule_X6_within
set_option maxRecDepth 20000 in
theorem ggX6_rule_X0_fullestCase : GoodIn wsX6_rule wsX0_fullestCase := goodIn_r _ [13, 14, 15, 16, 17, 18, 30, 31, 32, 33, 34, 35, 36, 37, 38] (by decide +kernel) (by decide +kernel)
set_option maxRecDepth 20000 in
theorem gX6_rule_X0_fullestCase : GoodIn wsX6_rule (wsV RX6 154 RX0 yX0_fullestCase wsX0_fullestCase) := goodIn_app (goodIn_of _ (by decide +kernel)) ggX6_rule_X0_fullestCase
set_option maxRecDepth 20000 in
theorem ggX6_rule_X0_fullestPallet : GoodIn wsX6_rule wsX0_fullestPallet := goodIn_r _ [22, 23, 15, 16, 17, 18, 30, 31, 32, 33, 34, 35, 36, 37, 38] (by decide +kernel) (by decide +kernel)
set_option maxRecDepth 20000 in
theorem gX6_rule_X0_fullestPallet : GoodIn wsX6_rule (wsV RX6 157 RX0 yX0_fullestPallet wsX0_fullestPallet) := goodIn_app (goodIn_of _ (by decide +kernel)) ggX6_rule_X0_fullestPallet
theorem dX6_rule_0 : decode cX6_rule 0 = .ok (.iload_n 1, 1) := by decide +kernel
theorem dX6_rule_1 : decode cX6_rule 1 = .ok (.iconst 0, 1) := by decide +kernel
theorem dX6_rule_2 : decode cX6_rule 2 = .ok (.iconst 5, 1) := by decide +kernel
theorem dX6_rule_3 : decode cX6_rule 3 = .ok (.invokestatic 49, 3) := by decide +kernel
theorem dX6_rule_6 : decode cX6_rule 6 = .ok (.ifCond .eq 20, 3) := by decide +kernel
theorem dX6_rule_9 : decode cX6_rule 9 = .ok (.iload_n 2, 1) := by decide +kernel
theorem dX6_rule_10 : decode cX6_rule 10 = .ok (.getstatic 148, 3) := by decide +kernel
theorem dX6_rule_13 : decode cX6_rule 13 = .ok (.iload_n 1, 1) := by decide +kernel
theorem dX6_rule_14 : decode cX6_rule 14 = .ok (.iaload, 1) := by decide +kernel
theorem dX6_rule_15 : decode cX6_rule 15 = .ok (.getstatic 151, 3) := by decide +kernel
theorem dX6_rule_18 : decode cX6_rule 18 = .ok (.iload_n 1, 1) := by decide +kernel
theorem dX6_rule_19 : decode cX6_rule 19 = .ok (.iaload, 1) := by decide +kernel
theorem dX6_rule_20 : decode cX6_rule 20 = .ok (.invokestatic 49, 3) := by decide +kernel
theorem dX6_rule_23 : decode cX6_rule 23 = .ok (.ifCond .ne 5, 3) := by decide +kernel
theorem dX6_rule_26 : decode cX6_rule 26 = .ok (.iconst (-1), 1) := by decide +kernel
theorem dX6_rule_27 : decode cX6_rule 27 = .ok (.ireturn, 1) := by decide +kernel
theorem dX6_rule_28 : decode cX6_rule 28 = .ok (.iload_n 1, 1) := by decide +kernel
theorem dX6_rule_29 : decode cX6_rule 29 = .ok (.ifCond .ne 14, 3) := by decide +kernel
theorem dX6_rule_32 : decode cX6_rule 32 = .ok (.aload_n 0, 1) := by decide +kernel
theorem dX6_rule_33 : decode cX6_rule 33 = .ok (.getfield 19, 3) := by decide +kernel
theorem dX6_rule_36 : decode cX6_rule 36 = .ok (.invokevirtual 154, 3) := by decide +kernel
theorem dX6_rule_39 : decode cX6_rule 39 = .ok (.iload_n 2, 1) := by decide +kernel
theorem dX6_rule_40 : decode cX6_rule 40 = .ok (.if_icmp .gt 19, 3) := by decide +kernel
theorem dX6_rule_43 : decode cX6_rule 43 = .ok (.iload_n 1, 1) := by decide +kernel
theorem dX6_rule_44 : decode cX6_rule 44 = .ok (.iconst 1, 1) := by decide +kernel
theorem dX6_rule_45 : decode cX6_rule 45 = .ok (.if_icmp .ne 17, 3) := by decide +kernel
theorem dX6_rule_48 : decode cX6_rule 48 = .ok (.aload_n 0, 1) := by decide +kernel
theorem dX6_rule_49 : decode cX6_rule 49 = .ok (.getfield 19, 3) := by decide +kernel
theorem dX6_rule_52 : decode cX6_rule 52 = .ok (.invokevirtual 157, 3) := by decide +kernel
theorem dX6_rule_55 : decode cX6_rule 55 = .ok (.iload_n 2, 1) := by decide +kernel
theorem dX6_rule_56 : decode cX6_rule 56 = .ok (.if_icmp .le 6, 3) := by decide +kernel
theorem dX6_rule_59 : decode cX6_rule 59 = .ok (.bipush (-2), 2) := by decide +kernel
theorem dX6_rule_61 : decode cX6_rule 61 = .ok (.ireturn, 1) := by decide +kernel
theorem dX6_rule_62 : decode cX6_rule 62 = .ok (.aload_n 0, 1) := by decide +kernel
theorem dX6_rule_63 : decode cX6_rule 63 = .ok (.getfield 46, 3) := by decide +kernel
theorem dX6_rule_66 : decode cX6_rule 66 = .ok (.iload_n 1, 1) := by decide +kernel
theorem dX6_rule_67 : decode cX6_rule 67 = .ok (.iaload, 1) := by decide +kernel
theorem dX6_rule_68 : decode cX6_rule 68 = .ok (.istore_n 3, 1) := by decide +kernel
theorem dX6_rule_69 : decode cX6_rule 69 = .ok (.aload_n 0, 1) := by decide +kernel
theorem dX6_rule_70 : decode cX6_rule 70 = .ok (.getfield 46, 3) := by decide +kernel
theorem dX6_rule_73 : decode cX6_rule 73 = .ok (.iload_n 1, 1) := by decide +kernel
theorem dX6_rule_74 : decode cX6_rule 74 = .ok (.iload_n 2, 1) := by decide +kernel
theorem dX6_rule_75 : decode cX6_rule 75 = .ok (.iastore, 1) := by decide +kernel
theorem dX6_rule_76 : decode cX6_rule 76 = .ok (.iload_n 3, 1) := by decide +kernel
theorem dX6_rule_77 : decode cX6_rule 77 = .ok (.ireturn, 1) := by decide +kernel
set_option maxRecDepth 20000 in
theorem ggX6_pack_X6_within : GoodIn wsX6_pack wsX6_within := goodIn_r _ [6] (by decide +kernel) (by decide +kernel)
set_option maxRecDepth 20000 in
theorem gX6_pack_X6_within : GoodIn wsX6_pack (va_wsS RX6 49 yX6_within wsX6_within) := goodIn_app (goodIn_of _ (by decide +kernel)) ggX6_pack_X6_within
set_option maxRecDepth 20000 in
theorem ggX6_pack_X6_isBox : GoodIn wsX6_pack wsX6_isBox := goodIn_r _ [9, 3, 4, 5, 6] (by decide +kernel) (by decide +kernel)
set_option maxRecDepth 20000 in
theorem gX6_pack_X6_isBox : GoodIn wsX6_pack (va_wsS RX6 160 yX6_isBox wsX6_isBox) := goodIn_app (goodIn_of _ (by decide +kernel)) ggX6_pack_X6_isBox
set_option maxRecDepth 20000 in
theorem ggX6_pack_X0_packInto : GoodIn wsX6_pack wsX0_packInto := goodIn_r _ [14, 15, 16, 17, 18, 19, 20, 13, 21, 22, 4, 5, 6, 29, 30, 31, 32, 33, 34, 35, 36, 37] (by decide +kernel) (by decide +kernel)
set_option maxRecDepth 20000 in
theorem gX6_pack_X0_packInto : GoodIn wsX6_pack (wsV RX6 164 RX0 yX0_packInto wsX0_packInto) := goodIn_app (goodIn_of _ (by decide +kernel)) ggX6_pack_X0_packInto
theorem dX6_pack_0 : decode cX6_pack 0 = .ok (.iload_n 1, 1) := by decide +kernel
theorem dX6_pack_1 : decode cX6_pack 1 = .ok (.iconst 0, 1) := by decide +kernel
theorem dX6_pack_2 : decode cX6_pack 2 = .ok (.sipush 199, 3) := by decide +kernel
theorem dX6_pack_5 : decode cX6_pack 5 = .ok (.invokestatic 49, 3) := by decide +kernel
theorem dX6_pack_8 : decode cX6_pack 8 = .ok (.ifCond .eq 10, 3) := by decide +kernel
theorem dX6_pack_11 : decode cX6_pack 11 = .ok (.iload_n 2, 1) := by decide +kernel
theorem dX6_pack_12 : decode cX6_pack 12 = .ok (.invokestatic 160, 3) := by decide +kernel
theorem dX6_pack_15 : decode cX6_pack 15 = .ok (.ifCond .ne 5, 3) := by decide +kernel
theorem dX6_pack_18 : decode cX6_pack 18 = .ok (.iconst (-1), 1) := by decide +kernel
theorem dX6_pack_19 : decode cX6_pack 19 = .ok (.ireturn, 1) := by decide +kernel
theorem dX6_pack_20 : decode cX6_pack 20 = .ok (.aload_n 0, 1) := by decide +kernel
theorem dX6_pack_21 : decode cX6_pack 21 = .ok (.getfield 19, 3) := by decide +kernel
theorem dX6_pack_24 : decode cX6_pack 24 = .ok (.iload_n 1, 1) := by decide +kernel
theorem dX6_pack_25 : decode cX6_pack 25 = .ok (.iload_n 2, 1) := by decide +kernel
theorem dX6_pack_26 : decode cX6_pack 26 = .ok (.aload_n 0, 1) := by decide +kernel
theorem dX6_pack_27 : decode cX6_pack 27 = .ok (.getfield 46, 3) := by decide +kernel
theorem dX6_pack_30 : decode cX6_pack 30 = .ok (.iconst 0, 1) := by decide +kernel
theorem dX6_pack_31 : decode cX6_pack 31 = .ok (.iaload, 1) := by decide +kernel
theorem dX6_pack_32 : decode cX6_pack 32 = .ok (.invokevirtual 164, 3) := by decide +kernel
theorem dX6_pack_35 : decode cX6_pack 35 = .ok (.ireturn, 1) := by decide +kernel
set_option maxRecDepth 20000 in
theorem ggX6_close_X6_isBox : GoodIn wsX6_close wsX6_isBox := goodIn_r _ [6, 7, 8, 5, 9] (by decide +kernel) (by decide +kernel)
set_option maxRecDepth 20000 in
theorem gX6_close_X6_isBox : GoodIn wsX6_close (va_wsS RX6 160 yX6_isBox wsX6_isBox) := goodIn_app (goodIn_of _ (by decide +kernel)) ggX6_close_X6_isBox
set_option maxRecDepth 20000 in
theorem ggX6_close_X0_closeBox : GoodIn wsX6_close wsX0_closeBox := goodIn_r _ [14, 15, 16, 23, 24, 25, 26, 27, 28, 29, 30, 31] (by decide +kernel) (by decide +kernel)
set_option maxRecDepth 20000 in
theorem gX6_close_X0_closeBox : GoodIn wsX6_close (wsV RX6 167 RX0 yX0_closeBox wsX0_closeBox) := goodIn_app (goodIn_of _ (by decide +kernel)) ggX6_close_X0_closeBox
theorem dX6_close_0 : decode cX6_close 0 = .ok (.iload_n 1, 1) := by decide +kernel
theorem dX6_close_1 : decode cX6_close 1 = .ok (.invokestatic 160, 3) := by decide +kernel
theorem dX6_close_4 : decode cX6_close 4 = .ok (.ifCond .ne 5, 3) := by decide +kernel
theorem dX6_close_7 : decode cX6_close 7 = .ok (.iconst (-1), 1) := by decide +kernel
theorem dX6_close_8 : decode cX6_close 8 = .ok (.ireturn, 1) := by decide +kernel
theorem dX6_close_9 : decode cX6_close 9 = .ok (.aload_n 0, 1) := by decide +kernel
theorem dX6_close_10 : decode cX6_close 10 = .ok (.getfield 19, 3) := by decide +kernel
theorem dX6_close_13 : decode cX6_close 13 = .ok (.iload_n 1, 1) := by decide +kernel
theorem dX6_close_14 : decode cX6_close 14 = .ok (.aload_n 0, 1) := by decide +kernel
theorem dX6_close_15 : decode cX6_close 15 = .ok (.getfield 46, 3) := by decide +kernel
theorem dX6_close_18 : decode cX6_close 18 = .ok (.iconst 0, 1) := by decide +kernel
theorem dX6_close_19 : decode cX6_close 19 = .ok (.iaload, 1) := by decide +kernel
theorem dX6_close_20 : decode cX6_close 20 = .ok (.invokevirtual 167, 3) := by decide +kernel
theorem dX6_close_23 : decode cX6_close 23 = .ok (.ireturn, 1) := by decide +kernel
set_option maxRecDepth 20000 in
theorem ggX6_weigh_X6_isBox : GoodIn wsX6_weigh wsX6_isBox := goodIn_r _ [11, 12, 13, 10, 14] (by decide +kernel) (by decide +kernel)
set_option maxRecDepth 20000 in
theorem gX6_weigh_X6_isBox : GoodIn wsX6_weigh (va_wsS RX6 160 yX6_isBox wsX6_isBox) := goodIn_app (goodIn_of _ (by decide +kernel)) ggX6_weigh_X6_isBox
set_option maxRecDepth 20000 in
theorem ggX6_weigh_X6_within : GoodIn wsX6_weigh wsX6_within := goodIn_r _ [14] (by decide +kernel) (by decide +kernel)
set_option maxRecDepth 20000 in
theorem gX6_weigh_X6_within : GoodIn wsX6_weigh (va_wsS RX6 49 yX6_within wsX6_within) := goodIn_app (goodIn_of _ (by decide +kernel)) ggX6_weigh_X6_within
set_option maxRecDepth 20000 in
theorem ggX6_weigh_X0_closeWithLost : GoodIn wsX6_weigh wsX0_closeWithLost := goodIn_r _ [19, 20, 21, 22, 23, 24, 25, 18, 26, 27, 28, 29, 30, 31, 32, 33, 34, 35, 36, 37, 5, 38, 39, 40, 41, 42, 13, 10, 14, 49, 50, 51, 52, 53, 54, 55, 56, 57] (by decide +kernel) (by decide +kernel)
set_option maxRecDepth 20000 in
theorem gX6_weigh_X0_closeWithLost : GoodIn wsX6_weigh (wsV RX6 177 RX0 yX0_closeWithLost wsX0_closeWithLost) := goodIn_app (goodIn_of _ (by decide +kernel)) ggX6_weigh_X0_closeWithLost
theorem dX6_weigh_0 : decode cX6_weigh 0 = .ok (.iload_n 1, 1) := by decide +kernel
theorem dX6_weigh_1 : decode cX6_weigh 1 = .ok (.invokestatic 160, 3) := by decide +kernel
theorem dX6_weigh_4 : decode cX6_weigh 4 = .ok (.ifCond .eq 13, 3) := by decide +kernel
theorem dX6_weigh_7 : decode cX6_weigh 7 = .ok (.iload_n 2, 1) := by decide +kernel
theorem dX6_weigh_8 : decode cX6_weigh 8 = .ok (.iconst 0, 1) := by decide +kernel
theorem dX6_weigh_9 : decode cX6_weigh 9 = .ok (.ldc 170, 2) := by decide +kernel
theorem dX6_weigh_11 : decode cX6_weigh 11 = .ok (.invokestatic 49, 3) := by decide +kernel
theorem dX6_weigh_14 : decode cX6_weigh 14 = .ok (.ifCond .ne 5, 3) := by decide +kernel
theorem dX6_weigh_17 : decode cX6_weigh 17 = .ok (.iconst (-1), 1) := by decide +kernel
theorem dX6_weigh_18 : decode cX6_weigh 18 = .ok (.ireturn, 1) := by decide +kernel
theorem dX6_weigh_19 : decode cX6_weigh 19 = .ok (.aload_n 0, 1) := by decide +kernel
theorem dX6_weigh_20 : decode cX6_weigh 20 = .ok (.getfield 46, 3) := by decide +kernel
theorem dX6_weigh_23 : decode cX6_weigh 23 = .ok (.iconst 0, 1) := by decide +kernel
theorem dX6_weigh_24 : decode cX6_weigh 24 = .ok (.iaload, 1) := by decide +kernel
theorem dX6_weigh_25 : decode cX6_weigh 25 = .ok (.aload_n 0, 1) := by decide +kernel
theorem dX6_weigh_26 : decode cX6_weigh 26 = .ok (.getfield 46, 3) := by decide +kernel
theorem dX6_weigh_29 : decode cX6_weigh 29 = .ok (.iconst 2, 1) := by decide +kernel
theorem dX6_weigh_30 : decode cX6_weigh 30 = .ok (.iaload, 1) := by decide +kernel
theorem dX6_weigh_31 : decode cX6_weigh 31 = .ok (.imul, 1) := by decide +kernel
theorem dX6_weigh_32 : decode cX6_weigh 32 = .ok (.aload_n 0, 1) := by decide +kernel
theorem dX6_weigh_33 : decode cX6_weigh 33 = .ok (.getfield 46, 3) := by decide +kernel
theorem dX6_weigh_36 : decode cX6_weigh 36 = .ok (.iconst 3, 1) := by decide +kernel
theorem dX6_weigh_37 : decode cX6_weigh 37 = .ok (.iaload, 1) := by decide +kernel
theorem dX6_weigh_38 : decode cX6_weigh 38 = .ok (.iadd, 1) := by decide +kernel
theorem dX6_weigh_39 : decode cX6_weigh 39 = .ok (.istore_n 3, 1) := by decide +kernel
theorem dX6_weigh_40 : decode cX6_weigh 40 = .ok (.iload_n 2, 1) := by decide +kernel
theorem dX6_weigh_41 : decode cX6_weigh 41 = .ok (.iload_n 3, 1) := by decide +kernel
theorem dX6_weigh_42 : decode cX6_weigh 42 = .ok (.isub, 1) := by decide +kernel
theorem dX6_weigh_43 : decode cX6_weigh 43 = .ok (.invokestatic 171, 3) := by decide +kernel
theorem dX6_weigh_46 : decode cX6_weigh 46 = .ok (.aload_n 0, 1) := by decide +kernel
theorem dX6_weigh_47 : decode cX6_weigh 47 = .ok (.getfield 46, 3) := by decide +kernel
theorem dX6_weigh_50 : decode cX6_weigh 50 = .ok (.iconst 4, 1) := by decide +kernel
theorem dX6_weigh_51 : decode cX6_weigh 51 = .ok (.iaload, 1) := by decide +kernel
theorem dX6_weigh_52 : decode cX6_weigh 52 = .ok (.if_icmp .le 6, 3) := by decide +kernel
theorem dX6_weigh_55 : decode cX6_weigh 55 = .ok (.bipush (-2), 2) := by decide +kernel
theorem dX6_weigh_57 : decode cX6_weigh 57 = .ok (.ireturn, 1) := by decide +kernel
theorem dX6_weigh_58 : decode cX6_weigh 58 = .ok (.aload_n 0, 1) := by decide +kernel
theorem dX6_weigh_59 : decode cX6_weigh 59 = .ok (.getfield 19, 3) := by decide +kernel
theorem dX6_weigh_62 : decode cX6_weigh 62 = .ok (.iload_n 1, 1) := by decide +kernel
theorem dX6_weigh_63 : decode cX6_weigh 63 = .ok (.aload_n 0, 1) := by decide +kernel
theorem dX6_weigh_64 : decode cX6_weigh 64 = .ok (.getfield 46, 3) := by decide +kernel
theorem dX6_weigh_67 : decode cX6_weigh 67 = .ok (.iconst 0, 1) := by decide +kernel
theorem dX6_weigh_68 : decode cX6_weigh 68 = .ok (.iaload, 1) := by decide +kernel
theorem dX6_weigh_69 : decode cX6_weigh 69 = .ok (.invokevirtual 177, 3) := by decide +kernel
theorem dX6_weigh_72 : decode cX6_weigh 72 = .ok (.ireturn, 1) := by decide +kernel
set_option maxRecDepth 20000 in
theorem ggX6_stack_X6_isBox : GoodIn wsX6_stack wsX6_isBox := goodIn_r _ [6, 7, 8, 5, 9] (by decide +kernel) (by decide +kernel)
set_option maxRecDepth 20000 in
theorem gX6_stack_X6_isBox : GoodIn wsX6_stack (va_wsS RX6 160 yX6_isBox wsX6_isBox) := goodIn_app (goodIn_of _ (by decide +kernel)) ggX6_stack_X6_isBox
set_option maxRecDepth 20000 in
theorem ggX6_stack_X6_isPallet : GoodIn wsX6_stack wsX6_isPallet := goodIn_r _ [12, 7, 8, 5, 9] (by decide +kernel) (by decide +kernel)
set_option maxRecDepth 20000 in
theorem gX6_stack_X6_isPallet : GoodIn wsX6_stack (va_wsS RX6 180 yX6_isPallet wsX6_isPallet) := goodIn_app (goodIn_of _ (by decide +kernel)) ggX6_stack_X6_isPallet
set_option maxRecDepth 20000 in
theorem ggX6_stack_X0_stackOn : GoodIn wsX6_stack wsX0_stackOn := goodIn_r _ [17, 18, 19, 20, 21, 28, 29, 30, 31, 32, 33, 34, 35, 36] (by decide +kernel) (by decide +kernel)
set_option maxRecDepth 20000 in
theorem gX6_stack_X0_stackOn : GoodIn wsX6_stack (wsV RX6 183 RX0 yX0_stackOn wsX0_stackOn) := goodIn_app (goodIn_of _ (by decide +kernel)) ggX6_stack_X0_stackOn
theorem dX6_stack_0 : decode cX6_stack 0 = .ok (.iload_n 1, 1) := by decide +kernel
theorem dX6_stack_1 : decode cX6_stack 1 = .ok (.invokestatic 160, 3) := by decide +kernel
theorem dX6_stack_4 : decode cX6_stack 4 = .ok (.ifCond .eq 10, 3) := by decide +kernel
theorem dX6_stack_7 : decode cX6_stack 7 = .ok (.iload_n 2, 1) := by decide +kernel
theorem dX6_stack_8 : decode cX6_stack 8 = .ok (.invokestatic 180, 3) := by decide +kernel
theorem dX6_stack_11 : decode cX6_stack 11 = .ok (.ifCond .ne 5, 3) := by decide +kernel
theorem dX6_stack_14 : decode cX6_stack 14 = .ok (.iconst (-1), 1) := by decide +kernel
theorem dX6_stack_15 : decode cX6_stack 15 = .ok (.ireturn, 1) := by decide +kernel
theorem dX6_stack_16 : decode cX6_stack 16 = .ok (.aload_n 0, 1) := by decide +kernel
theorem dX6_stack_17 : decode cX6_stack 17 = .ok (.getfield 19, 3) := by decide +kernel
theorem dX6_stack_20 : decode cX6_stack 20 = .ok (.iload_n 1, 1) := by decide +kernel
theorem dX6_stack_21 : decode cX6_stack 21 = .ok (.iload_n 2, 1) := by decide +kernel
theorem dX6_stack_22 : decode cX6_stack 22 = .ok (.aload_n 0, 1) := by decide +kernel
theorem dX6_stack_23 : decode cX6_stack 23 = .ok (.getfield 46, 3) := by decide +kernel
theorem dX6_stack_26 : decode cX6_stack 26 = .ok (.iconst 1, 1) := by decide +kernel
theorem dX6_stack_27 : decode cX6_stack 27 = .ok (.iaload, 1) := by decide +kernel
theorem dX6_stack_28 : decode cX6_stack 28 = .ok (.invokevirtual 183, 3) := by decide +kernel
theorem dX6_stack_31 : decode cX6_stack 31 = .ok (.ireturn, 1) := by decide +kernel
set_option maxRecDepth 20000 in
theorem ggX6_seal_X6_isPallet : GoodIn wsX6_seal wsX6_isPallet := goodIn_r _ [5, 6, 7, 4, 8] (by decide +kernel) (by decide +kernel)
set_option maxRecDepth 20000 in
theorem gX6_seal_X6_isPallet : GoodIn wsX6_seal (va_wsS RX6 180 yX6_isPallet wsX6_isPallet) := goodIn_app (goodIn_of _ (by decide +kernel)) ggX6_seal_X6_isPallet
set_option maxRecDepth 20000 in
theorem ggX6_seal_X0_sealPallet : GoodIn wsX6_seal wsX0_sealPallet := goodIn_r _ [13, 14, 15, 22, 23, 24, 25, 26, 27, 28, 29, 30] (by decide +kernel) (by decide +kernel)
set_option maxRecDepth 20000 in
theorem gX6_seal_X0_sealPallet : GoodIn wsX6_seal (wsV RX6 186 RX0 yX0_sealPallet wsX0_sealPallet) := goodIn_app (goodIn_of _ (by decide +kernel)) ggX6_seal_X0_sealPallet
theorem dX6_seal_0 : decode cX6_seal 0 = .ok (.iload_n 1, 1) := by decide +kernel
theorem dX6_seal_1 : decode cX6_seal 1 = .ok (.invokestatic 180, 3) := by decide +kernel
theorem dX6_seal_4 : decode cX6_seal 4 = .ok (.ifCond .ne 5, 3) := by decide +kernel
theorem dX6_seal_7 : decode cX6_seal 7 = .ok (.iconst (-1), 1) := by decide +kernel
theorem dX6_seal_8 : decode cX6_seal 8 = .ok (.ireturn, 1) := by decide +kernel
theorem dX6_seal_9 : decode cX6_seal 9 = .ok (.aload_n 0, 1) := by decide +kernel
theorem dX6_seal_10 : decode cX6_seal 10 = .ok (.getfield 19, 3) := by decide +kernel
theorem dX6_seal_13 : decode cX6_seal 13 = .ok (.iload_n 1, 1) := by decide +kernel
theorem dX6_seal_14 : decode cX6_seal 14 = .ok (.invokevirtual 186, 3) := by decide +kernel
theorem dX6_seal_17 : decode cX6_seal 17 = .ok (.ireturn, 1) := by decide +kernel
set_option maxRecDepth 20000 in
theorem ggX6_breakUp_X6_isBox : GoodIn wsX6_breakUp wsX6_isBox := goodIn_r _ [5, 6, 7, 4, 8] (by decide +kernel) (by decide +kernel)
set_option maxRecDepth 20000 in
theorem gX6_breakUp_X6_isBox : GoodIn wsX6_breakUp (va_wsS RX6 160 yX6_isBox wsX6_isBox) := goodIn_app (goodIn_of _ (by decide +kernel)) ggX6_breakUp_X6_isBox
set_option maxRecDepth 20000 in
theorem ggX6_breakUp_X0_breakBox : GoodIn wsX6_breakUp wsX0_breakBox := goodIn_r _ [13, 14, 15, 16, 17, 18, 34, 35, 36, 37, 38, 39, 40, 41, 42] (by decide +kernel) (by decide +kernel)
set_option maxRecDepth 20000 in
theorem gX6_breakUp_X0_breakBox : GoodIn wsX6_breakUp (wsV RX6 189 RX0 yX0_breakBox wsX0_breakBox) := goodIn_app (goodIn_of _ (by decide +kernel)) ggX6_breakUp_X0_breakBox
set_option maxRecDepth 20000 in
theorem ggX6_breakUp_X6_isPallet : GoodIn wsX6_breakUp wsX6_isPallet := goodIn_r _ [21, 6, 7, 4, 8] (by decide +kernel) (by decide +kernel)
set_option maxRecDepth 20000 in
theorem gX6_breakUp_X6_isPallet : GoodIn wsX6_breakUp (va_wsS RX6 180 yX6_isPallet wsX6_isPallet) := goodIn_app (goodIn_of _ (by decide +kernel)) ggX6_breakUp_X6_isPallet
set_option maxRecDepth 20000 in
theorem ggX6_breakUp_X0_breakPallet : GoodIn wsX6_breakUp wsX0_breakPallet := goodIn_r _ [25, 26, 14, 27, 34, 35, 36, 37, 38, 39, 40, 41, 42] (by decide +kernel) (by decide +kernel)
set_option maxRecDepth 20000 in
theorem gX6_breakUp_X0_breakPallet : GoodIn wsX6_breakUp (wsV RX6 192 RX0 yX0_breakPallet wsX0_breakPallet) := goodIn_app (goodIn_of _ (by decide +kernel)) ggX6_breakUp_X0_breakPallet
theorem dX6_breakUp_0 : decode cX6_breakUp 0 = .ok (.iload_n 1, 1) := by decide +kernel
theorem dX6_breakUp_1 : decode cX6_breakUp 1 = .ok (.ifCond .ne 19, 3) := by decide +kernel
theorem dX6_breakUp_4 : decode cX6_breakUp 4 = .ok (.iload_n 2, 1) := by decide +kernel
theorem dX6_breakUp_5 : decode cX6_breakUp 5 = .ok (.invokestatic 160, 3) := by decide +kernel
theorem dX6_breakUp_8 : decode cX6_breakUp 8 = .ok (.ifCond .eq 12, 3) := by decide +kernel
theorem dX6_breakUp_11 : decode cX6_breakUp 11 = .ok (.aload_n 0, 1) := by decide +kernel
theorem dX6_breakUp_12 : decode cX6_breakUp 12 = .ok (.getfield 19, 3) := by decide +kernel
theorem dX6_breakUp_15 : decode cX6_breakUp 15 = .ok (.iload_n 2, 1) := by decide +kernel
theorem dX6_breakUp_16 : decode cX6_breakUp 16 = .ok (.invokevirtual 189, 3) := by decide +kernel
theorem dX6_breakUp_19 : decode cX6_breakUp 19 = .ok (.ireturn, 1) := by decide +kernel
theorem dX6_breakUp_20 : decode cX6_breakUp 20 = .ok (.iload_n 1, 1) := by decide +kernel
theorem dX6_breakUp_21 : decode cX6_breakUp 21 = .ok (.iconst 1, 1) := by decide +kernel
theorem dX6_breakUp_22 : decode cX6_breakUp 22 = .ok (.if_icmp .ne 19, 3) := by decide +kernel
theorem dX6_breakUp_25 : decode cX6_breakUp 25 = .ok (.iload_n 2, 1) := by decide +kernel
theorem dX6_breakUp_26 : decode cX6_breakUp 26 = .ok (.invokestatic 180, 3) := by decide +kernel
theorem dX6_breakUp_29 : decode cX6_breakUp 29 = .ok (.ifCond .eq 12, 3) := by decide +kernel
theorem dX6_breakUp_32 : decode cX6_breakUp 32 = .ok (.aload_n 0, 1) := by decide +kernel
theorem dX6_breakUp_33 : decode cX6_breakUp 33 = .ok (.getfield 19, 3) := by decide +kernel
theorem dX6_breakUp_36 : decode cX6_breakUp 36 = .ok (.iload_n 2, 1) := by decide +kernel
theorem dX6_breakUp_37 : decode cX6_breakUp 37 = .ok (.invokevirtual 192, 3) := by decide +kernel
theorem dX6_breakUp_40 : decode cX6_breakUp 40 = .ok (.ireturn, 1) := by decide +kernel
theorem dX6_breakUp_41 : decode cX6_breakUp 41 = .ok (.iconst (-1), 1) := by decide +kernel
theorem dX6_breakUp_42 : decode cX6_breakUp 42 = .ok (.ireturn, 1) := by decide +kernel
set_option maxRecDepth 20000 in
theorem ggX6_code_X0_known : GoodIn wsX6_code wsX0_known := goodIn_r _ [9, 10, 11, 12, 13, 29, 30, 31, 32, 33, 34, 35, 36, 37] (by decide +kernel) (by decide +kernel)
set_option maxRecDepth 20000 in
theorem gX6_code_X0_known : GoodIn wsX6_code (wsV RX6 195 RX0 yX0_known wsX0_known) := goodIn_app (goodIn_of _ (by decide +kernel)) ggX6_code_X0_known
set_option maxRecDepth 20000 in
theorem ggX6_code_X0_palletOfCode : GoodIn wsX6_code wsX0_palletOfCode := goodIn_r _ [17, 18, 19, 20, 12, 21, 22, 11, 13, 29, 30, 31, 32, 33, 34, 35, 36, 37] (by decide +kernel) (by decide +kernel)
set_option maxRecDepth 20000 in
theorem gX6_code_X0_palletOfCode : GoodIn wsX6_code (wsV RX6 201 RX0 yX0_palletOfCode wsX0_palletOfCode) := goodIn_app (goodIn_of _ (by decide +kernel)) ggX6_code_X0_palletOfCode
theorem dX6_code_0 : decode cX6_code 0 = .ok (.aload_n 0, 1) := by decide +kernel
theorem dX6_code_1 : decode cX6_code 1 = .ok (.getfield 19, 3) := by decide +kernel
theorem dX6_code_4 : decode cX6_code 4 = .ok (.iload_n 1, 1) := by decide +kernel
theorem dX6_code_5 : decode cX6_code 5 = .ok (.invokevirtual 195, 3) := by decide +kernel
theorem dX6_code_8 : decode cX6_code 8 = .ok (.ifCond .ne 5, 3) := by decide +kernel
theorem dX6_code_11 : decode cX6_code 11 = .ok (.iconst (-1), 1) := by decide +kernel
theorem dX6_code_12 : decode cX6_code 12 = .ok (.ireturn, 1) := by decide +kernel
theorem dX6_code_13 : decode cX6_code 13 = .ok (.iload_n 2, 1) := by decide +kernel
theorem dX6_code_14 : decode cX6_code 14 = .ok (.tableswitch 69 0 3 #[30, 40, 49, 59], 30) := by decide +kernel
theorem dX6_code_44 : decode cX6_code 44 = .ok (.aload_n 0, 1) := by decide +kernel
theorem dX6_code_45 : decode cX6_code 45 = .ok (.getfield 19, 3) := by decide +kernel
theorem dX6_code_48 : decode cX6_code 48 = .ok (.getfield 198, 3) := by decide +kernel
theorem dX6_code_51 : decode cX6_code 51 = .ok (.iload_n 1, 1) := by decide +kernel
theorem dX6_code_52 : decode cX6_code 52 = .ok (.iaload, 1) := by decide +kernel
theorem dX6_code_53 : decode cX6_code 53 = .ok (.ireturn, 1) := by decide +kernel
theorem dX6_code_54 : decode cX6_code 54 = .ok (.aload_n 0, 1) := by decide +kernel
theorem dX6_code_55 : decode cX6_code 55 = .ok (.getfield 19, 3) := by decide +kernel
theorem dX6_code_58 : decode cX6_code 58 = .ok (.iload_n 1, 1) := by decide +kernel
theorem dX6_code_59 : decode cX6_code 59 = .ok (.invokevirtual 201, 3) := by decide +kernel
theorem dX6_code_62 : decode cX6_code 62 = .ok (.ireturn, 1) := by decide +kernel
theorem dX6_code_63 : decode cX6_code 63 = .ok (.aload_n 0, 1) := by decide +kernel
theorem dX6_code_64 : decode cX6_code 64 = .ok (.getfield 19, 3) := by decide +kernel
theorem dX6_code_67 : decode cX6_code 67 = .ok (.getfield 204, 3) := by decide +kernel
theorem dX6_code_70 : decode cX6_code 70 = .ok (.iload_n 1, 1) := by decide +kernel
theorem dX6_code_71 : decode cX6_code 71 = .ok (.iaload, 1) := by decide +kernel
theorem dX6_code_72 : decode cX6_code 72 = .ok (.ireturn, 1) := by decide +kernel
theorem dX6_code_73 : decode cX6_code 73 = .ok (.aload_n 0, 1) := by decide +kernel
theorem dX6_code_74 : decode cX6_code 74 = .ok (.getfield 19, 3) := by decide +kernel
theorem dX6_code_77 : decode cX6_code 77 = .ok (.getfield 207, 3) := by decide +kernel
theorem dX6_code_80 : decode cX6_code 80 = .ok (.iload_n 1, 1) := by decide +kernel
theorem dX6_code_81 : decode cX6_code 81 = .ok (.iaload, 1) := by decide +kernel
theorem dX6_code_82 : decode cX6_code 82 = .ok (.ireturn, 1) := by decide +kernel
theorem dX6_code_83 : decode cX6_code 83 = .ok (.iconst (-1), 1) := by decide +kernel
theorem dX6_code_84 : decode cX6_code 84 = .ok (.ireturn, 1) := by decide +kernel
set_option maxRecDepth 20000 in
theorem ggX6_box_X6_isBox : GoodIn wsX6_box wsX6_isBox := goodIn_r _ [8, 9, 10, 7, 11] (by decide +kernel) (by decide +kernel)
set_option maxRecDepth 20000 in
theorem gX6_box_X6_isBox : GoodIn wsX6_box (va_wsS RX6 160 yX6_isBox wsX6_isBox) := goodIn_app (goodIn_of _ (by decide +kernel)) ggX6_box_X6_isBox
set_option maxRecDepth 20000 in
theorem ggX6_box_X0_leastIn : GoodIn wsX6_box wsX0_leastIn := goodIn_r _ [16, 17, 18, 29, 30, 31, 32, 33, 34, 35, 36, 37] (by decide +kernel) (by decide +kernel)
set_option maxRecDepth 20000 in
theorem gX6_box_X0_leastIn : GoodIn wsX6_box (wsV RX6 220 RX0 yX0_leastIn wsX0_leastIn) := goodIn_app (goodIn_of _ (by decide +kernel)) ggX6_box_X0_leastIn
set_option maxRecDepth 20000 in
theorem ggX6_box_X0_greatestIn : GoodIn wsX6_box wsX0_greatestIn := goodIn_r _ [22, 17, 18, 29, 30, 31, 32, 33, 34, 35, 36, 37] (by decide +kernel) (by decide +kernel)
set_option maxRecDepth 20000 in
theorem gX6_box_X0_greatestIn : GoodIn wsX6_box (wsV RX6 223 RX0 yX0_greatestIn wsX0_greatestIn) := goodIn_app (goodIn_of _ (by decide +kernel)) ggX6_box_X0_greatestIn
theorem dX6_box_0 : decode cX6_box 0 = .ok (.iload_n 1, 1) := by decide +kernel
theorem dX6_box_1 : decode cX6_box 1 = .ok (.invokestatic 160, 3) := by decide +kernel
theorem dX6_box_4 : decode cX6_box 4 = .ok (.ifCond .ne 5, 3) := by decide +kernel
theorem dX6_box_7 : decode cX6_box 7 = .ok (.iconst (-1), 1) := by decide +kernel
theorem dX6_box_8 : decode cX6_box 8 = .ok (.ireturn, 1) := by decide +kernel
theorem dX6_box_9 : decode cX6_box 9 = .ok (.iload_n 2, 1) := by decide +kernel
theorem dX6_box_10 : decode cX6_box 10 = .ok (.tableswitch 90 0 4 #[34, 44, 62, 72, 81], 34) := by decide +kernel
theorem dX6_box_44 : decode cX6_box 44 = .ok (.aload_n 0, 1) := by decide +kernel
theorem dX6_box_45 : decode cX6_box 45 = .ok (.getfield 19, 3) := by decide +kernel
theorem dX6_box_48 : decode cX6_box 48 = .ok (.getfield 210, 3) := by decide +kernel
theorem dX6_box_51 : decode cX6_box 51 = .ok (.iload_n 1, 1) := by decide +kernel
theorem dX6_box_52 : decode cX6_box 52 = .ok (.iaload, 1) := by decide +kernel
theorem dX6_box_53 : decode cX6_box 53 = .ok (.ireturn, 1) := by decide +kernel
theorem dX6_box_54 : decode cX6_box 54 = .ok (.aload_n 0, 1) := by decide +kernel
theorem dX6_box_55 : decode cX6_box 55 = .ok (.getfield 19, 3) := by decide +kernel
theorem dX6_box_58 : decode cX6_box 58 = .ok (.getfield 213, 3) := by decide +kernel
theorem dX6_box_61 : decode cX6_box 61 = .ok (.iload_n 1, 1) := by decide +kernel
theorem dX6_box_62 : decode cX6_box 62 = .ok (.baload, 1) := by decide +kernel
theorem dX6_box_63 : decode cX6_box 63 = .ok (.ifCond .eq 7, 3) := by decide +kernel
theorem dX6_box_66 : decode cX6_box 66 = .ok (.iconst 1, 1) := by decide +kernel
theorem dX6_box_67 : decode cX6_box 67 = .ok (.goto 4, 3) := by decide +kernel
theorem dX6_box_70 : decode cX6_box 70 = .ok (.iconst 0, 1) := by decide +kernel
theorem dX6_box_71 : decode cX6_box 71 = .ok (.ireturn, 1) := by decide +kernel
theorem dX6_box_72 : decode cX6_box 72 = .ok (.aload_n 0, 1) := by decide +kernel
theorem dX6_box_73 : decode cX6_box 73 = .ok (.getfield 19, 3) := by decide +kernel
theorem dX6_box_76 : decode cX6_box 76 = .ok (.getfield 217, 3) := by decide +kernel
theorem dX6_box_79 : decode cX6_box 79 = .ok (.iload_n 1, 1) := by decide +kernel
theorem dX6_box_80 : decode cX6_box 80 = .ok (.iaload, 1) := by decide +kernel
theorem dX6_box_81 : decode cX6_box 81 = .ok (.ireturn, 1) := by decide +kernel
theorem dX6_box_82 : decode cX6_box 82 = .ok (.aload_n 0, 1) := by decide +kernel
theorem dX6_box_83 : decode cX6_box 83 = .ok (.getfield 19, 3) := by decide +kernel
theorem dX6_box_86 : decode cX6_box 86 = .ok (.iload_n 1, 1) := by decide +kernel
theorem dX6_box_87 : decode cX6_box 87 = .ok (.invokevirtual 220, 3) := by decide +kernel
theorem dX6_box_90 : decode cX6_box 90 = .ok (.ireturn, 1) := by decide +kernel
theorem dX6_box_91 : decode cX6_box 91 = .ok (.aload_n 0, 1) := by decide +kernel
theorem dX6_box_92 : decode cX6_box 92 = .ok (.getfield 19, 3) := by decide +kernel
theorem dX6_box_95 : decode cX6_box 95 = .ok (.iload_n 1, 1) := by decide +kernel
theorem dX6_box_96 : decode cX6_box 96 = .ok (.invokevirtual 223, 3) := by decide +kernel
theorem dX6_box_99 : decode cX6_box 99 = .ok (.ireturn, 1) := by decide +kernel
theorem dX6_box_100 : decode cX6_box 100 = .ok (.iconst (-1), 1) := by decide +kernel
theorem dX6_box_101 : decode cX6_box 101 = .ok (.ireturn, 1) := by decide +kernel
set_option maxRecDepth 20000 in
theorem ggX6_recall_X6_within : GoodIn wsX6_recall wsX6_within := goodIn_r _ [5] (by decide +kernel) (by decide +kernel)
set_option maxRecDepth 20000 in
theorem gX6_recall_X6_within : GoodIn wsX6_recall (va_wsS RX6 49 yX6_within wsX6_within) := goodIn_app (goodIn_of _ (by decide +kernel)) ggX6_recall_X6_within
set_option maxRecDepth 20000 in
theorem ggX6_recall_X0_boxesWith : GoodIn wsX6_recall wsX0_boxesWith := goodIn_r _ [10, 11, 12, 13, 14, 4, 15, 2, 3, 5, 37, 38, 39, 40, 41, 42, 43, 44, 45] (by decide +kernel) (by decide +kernel)
set_option maxRecDepth 20000 in
theorem gX6_recall_X0_boxesWith : GoodIn wsX6_recall (wsV RX6 226 RX0 yX0_boxesWith wsX0_boxesWith) := goodIn_app (goodIn_of _ (by decide +kernel)) ggX6_recall_X0_boxesWith
set_option maxRecDepth 20000 in
theorem ggX6_recall_X0_palletsWith : GoodIn wsX6_recall wsX0_palletsWith := goodIn_r _ [19, 11, 12, 20, 21, 22, 9, 23, 13, 24, 14, 4, 15, 2, 3, 5, 25, 26, 37, 38, 39, 40, 41, 42, 43, 44, 45] (by decide +kernel) (by decide +kernel)
set_option maxRecDepth 20000 in
theorem gX6_recall_X0_palletsWith : GoodIn wsX6_recall (wsV RX6 229 RX0 yX0_palletsWith wsX0_palletsWith) := goodIn_app (goodIn_of _ (by decide +kernel)) ggX6_recall_X0_palletsWith
set_option maxRecDepth 20000 in
theorem ggX6_recall_X0_looseOf : GoodIn wsX6_recall wsX0_looseOf := goodIn_r _ [30, 11, 12, 13, 37, 38, 39, 40, 41, 42, 43, 44, 45] (by decide +kernel) (by decide +kernel)
set_option maxRecDepth 20000 in
theorem gX6_recall_X0_looseOf : GoodIn wsX6_recall (wsV RX6 232 RX0 yX0_looseOf wsX0_looseOf) := goodIn_app (goodIn_of _ (by decide +kernel)) ggX6_recall_X0_looseOf
theorem dX6_recall_0 : decode cX6_recall 0 = .ok (.iload_n 1, 1) := by decide +kernel
theorem dX6_recall_1 : decode cX6_recall 1 = .ok (.iconst 0, 1) := by decide +kernel
theorem dX6_recall_2 : decode cX6_recall 2 = .ok (.bipush 15, 2) := by decide +kernel
theorem dX6_recall_4 : decode cX6_recall 4 = .ok (.invokestatic 49, 3) := by decide +kernel
theorem dX6_recall_7 : decode cX6_recall 7 = .ok (.ifCond .ne 5, 3) := by decide +kernel
theorem dX6_recall_10 : decode cX6_recall 10 = .ok (.iconst (-1), 1) := by decide +kernel
theorem dX6_recall_11 : decode cX6_recall 11 = .ok (.ireturn, 1) := by decide +kernel
theorem dX6_recall_12 : decode cX6_recall 12 = .ok (.iload_n 2, 1) := by decide +kernel
theorem dX6_recall_13 : decode cX6_recall 13 = .ok (.tableswitch 54 0 2 #[27, 36, 45], 27) := by decide +kernel
theorem dX6_recall_40 : decode cX6_recall 40 = .ok (.aload_n 0, 1) := by decide +kernel
theorem dX6_recall_41 : decode cX6_recall 41 = .ok (.getfield 19, 3) := by decide +kernel
theorem dX6_recall_44 : decode cX6_recall 44 = .ok (.iload_n 1, 1) := by decide +kernel
theorem dX6_recall_45 : decode cX6_recall 45 = .ok (.invokevirtual 226, 3) := by decide +kernel
theorem dX6_recall_48 : decode cX6_recall 48 = .ok (.ireturn, 1) := by decide +kernel
theorem dX6_recall_49 : decode cX6_recall 49 = .ok (.aload_n 0, 1) := by decide +kernel
theorem dX6_recall_50 : decode cX6_recall 50 = .ok (.getfield 19, 3) := by decide +kernel
theorem dX6_recall_53 : decode cX6_recall 53 = .ok (.iload_n 1, 1) := by decide +kernel
theorem dX6_recall_54 : decode cX6_recall 54 = .ok (.invokevirtual 229, 3) := by decide +kernel
theorem dX6_recall_57 : decode cX6_recall 57 = .ok (.ireturn, 1) := by decide +kernel
theorem dX6_recall_58 : decode cX6_recall 58 = .ok (.aload_n 0, 1) := by decide +kernel
theorem dX6_recall_59 : decode cX6_recall 59 = .ok (.getfield 19, 3) := by decide +kernel
theorem dX6_recall_62 : decode cX6_recall 62 = .ok (.iload_n 1, 1) := by decide +kernel
theorem dX6_recall_63 : decode cX6_recall 63 = .ok (.invokevirtual 232, 3) := by decide +kernel
theorem dX6_recall_66 : decode cX6_recall 66 = .ok (.ireturn, 1) := by decide +kernel
theorem dX6_recall_67 : decode cX6_recall 67 = .ok (.iconst (-1), 1) := by decide +kernel
theorem dX6_recall_68 : decode cX6_recall 68 = .ok (.ireturn, 1) := by decide +kernel
set_option maxRecDepth 20000 in
theorem ggX6_layer_X6_isSide : GoodIn wsX6_layer wsX6_isSide := goodIn_r _ [5, 6, 7, 4, 8] (by decide +kernel) (by decide +kernel)
set_option maxRecDepth 20000 in
theorem gX6_layer_X6_isSide : GoodIn wsX6_layer (va_wsS RX6 235 yX6_isSide wsX6_isSide) := goodIn_app (goodIn_of _ (by decide +kernel)) ggX6_layer_X6_isSide
set_option maxRecDepth 20000 in
theorem ggX6_layer_X4_make : GoodIn wsX6_layer wsX4_make := goodIn_r _ [13, 14, 15, 16, 17, 18, 19, 20, 21, 22, 23, 24, 25, 26, 12, 27, 28, 29, 30, 31, 32, 33, 34, 35, 36, 37, 38, 39, 40, 41, 42, 43, 44, 45, 46, 47, 48, 49, 50, 51, 52, 53, 54, 55, 56, 57, 58, 59, 60, 61, 62, 63, 64, 65, 66, 67, 68, 69, 70, 71, 72, 73, 74, 75, 76, 77, 78, 79, 80, 81, 82, 83, 84, 85, 86, 87, 88, 89, 90, 97, 98, 99, 100, 101, 102, 103, 104, 105, 106, 107, 108] (by decide +kernel) (by decide +kernel)
set_option maxRecDepth 20000 in
theorem gX6_layer_X4_make : GoodIn wsX6_layer (wsV RX6 238 RX4 yX4_make wsX4_make) := goodIn_app (goodIn_of _ (by decide +kernel)) ggX6_layer_X4_make
theorem dX6_layer_0 : decode cX6_layer 0 = .ok (.iload_n 1, 1) := by decide +kernel
theorem dX6_layer_1 : decode cX6_layer 1 = .ok (.invokestatic 235, 3) := by decide +kernel
theorem dX6_layer_4 : decode cX6_layer 4 = .ok (.ifCond .eq 25, 3) := by decide +kernel
theorem dX6_layer_7 : decode cX6_layer 7 = .ok (.iload_n 2, 1) := by decide +kernel
theorem dX6_layer_8 : decode cX6_layer 8 = .ok (.invokestatic 235, 3) := by decide +kernel
theorem dX6_layer_11 : decode cX6_layer 11 = .ok (.ifCond .eq 18, 3) := by decide +kernel
theorem dX6_layer_14 : decode cX6_layer 14 = .ok (.iload_n 3, 1) := by decide +kernel
theorem dX6_layer_15 : decode cX6_layer 15 = .ok (.invokestatic 235, 3) := by decide +kernel
theorem dX6_layer_18 : decode cX6_layer 18 = .ok (.ifCond .eq 11, 3) := by decide +kernel
theorem dX6_layer_21 : decode cX6_layer 21 = .ok (.iload 4, 2) := by decide +kernel
theorem dX6_layer_23 : decode cX6_layer 23 = .ok (.invokestatic 235, 3) := by decide +kernel
theorem dX6_layer_26 : decode cX6_layer 26 = .ok (.ifCond .ne 5, 3) := by decide +kernel
theorem dX6_layer_29 : decode cX6_layer 29 = .ok (.iconst (-1), 1) := by decide +kernel
theorem dX6_layer_30 : decode cX6_layer 30 = .ok (.ireturn, 1) := by decide +kernel
theorem dX6_layer_31 : decode cX6_layer 31 = .ok (.aload_n 0, 1) := by decide +kernel
theorem dX6_layer_32 : decode cX6_layer 32 = .ok (.getfield 26, 3) := by decide +kernel
theorem dX6_layer_35 : decode cX6_layer 35 = .ok (.iload_n 1, 1) := by decide +kernel
theorem dX6_layer_36 : decode cX6_layer 36 = .ok (.iload_n 2, 1) := by decide +kernel
theorem dX6_layer_37 : decode cX6_layer 37 = .ok (.iload_n 3, 1) := by decide +kernel
theorem dX6_layer_38 : decode cX6_layer 38 = .ok (.iload 4, 2) := by decide +kernel
theorem dX6_layer_40 : decode cX6_layer 40 = .ok (.invokevirtual 238, 3) := by decide +kernel
theorem dX6_layer_43 : decode cX6_layer 43 = .ok (.ireturn, 1) := by decide +kernel
set_option maxRecDepth 20000 in
theorem ggX6_planned_X6_within : GoodIn wsX6_planned wsX6_within := goodIn_r _ [6] (by decide +kernel) (by decide +kernel)
set_option maxRecDepth 20000 in
theorem gX6_planned_X6_within : GoodIn wsX6_planned (va_wsS RX6 49 yX6_within wsX6_within) := goodIn_app (goodIn_of _ (by decide +kernel)) ggX6_planned_X6_within
set_option maxRecDepth 20000 in
theorem ggX6_planned_X4_numberOf : GoodIn wsX6_planned wsX4_numberOf := goodIn_r _ [11, 12, 13, 20, 21, 22, 23, 24, 25, 26, 27, 28, 29, 30, 31] (by decide +kernel) (by decide +kernel)
set_option maxRecDepth 20000 in
theorem gX6_planned_X4_numberOf : GoodIn wsX6_planned (wsV RX6 246 RX4 yX4_numberOf wsX4_numberOf) := goodIn_app (goodIn_of _ (by decide +kernel)) ggX6_planned_X4_numberOf
theorem dX6_planned_0 : decode cX6_planned 0 = .ok (.iload_n 1, 1) := by decide +kernel
theorem dX6_planned_1 : decode cX6_planned 1 = .ok (.ifCond .lt 12, 3) := by decide +kernel
theorem dX6_planned_4 : decode cX6_planned 4 = .ok (.iload_n 2, 1) := by decide +kernel
theorem dX6_planned_5 : decode cX6_planned 5 = .ok (.iconst 0, 1) := by decide +kernel
theorem dX6_planned_6 : decode cX6_planned 6 = .ok (.iconst 3, 1) := by decide +kernel
theorem dX6_planned_7 : decode cX6_planned 7 = .ok (.invokestatic 49, 3) := by decide +kernel
theorem dX6_planned_10 : decode cX6_planned 10 = .ok (.ifCond .ne 5, 3) := by decide +kernel
theorem dX6_planned_13 : decode cX6_planned 13 = .ok (.iconst (-1), 1) := by decide +kernel
theorem dX6_planned_14 : decode cX6_planned 14 = .ok (.ireturn, 1) := by decide +kernel
theorem dX6_planned_15 : decode cX6_planned 15 = .ok (.aload_n 0, 1) := by decide +kernel
theorem dX6_planned_16 : decode cX6_planned 16 = .ok (.getfield 26, 3) := by decide +kernel
theorem dX6_planned_19 : decode cX6_planned 19 = .ok (.getfield 242, 3) := by decide +kernel
theorem dX6_planned_22 : decode cX6_planned 22 = .ok (.ifCond .eq 15, 3) := by decide +kernel
theorem dX6_planned_25 : decode cX6_planned 25 = .ok (.aload_n 0, 1) := by decide +kernel
theorem dX6_planned_26 : decode cX6_planned 26 = .ok (.getfield 26, 3) := by decide +kernel
theorem dX6_planned_29 : decode cX6_planned 29 = .ok (.iload_n 1, 1) := by decide +kernel
theorem dX6_planned_30 : decode cX6_planned 30 = .ok (.iload_n 2, 1) := by decide +kernel
theorem dX6_planned_31 : decode cX6_planned 31 = .ok (.invokevirtual 246, 3) := by decide +kernel
theorem dX6_planned_34 : decode cX6_planned 34 = .ok (.goto 5, 3) := by decide +kernel
theorem dX6_planned_37 : decode cX6_planned 37 = .ok (.bipush (-2), 2) := by decide +kernel
theorem dX6_planned_39 : decode cX6_planned 39 = .ok (.ireturn, 1) := by decide +kernel
set_option maxRecDepth 20000 in
theorem ggX6_holds_X4_holding : GoodIn wsX6_holds wsX4_holding := goodIn_r _ [7, 8, 9, 10, 11, 6, 12, 13, 14, 15, 16, 17, 18, 19, 20, 21, 22, 23, 24, 25, 26, 27, 28, 29, 30, 31, 32, 33, 34, 35, 36, 37, 38, 45, 46, 47, 48, 49, 50, 51, 52, 53, 54, 55, 56] (by decide +kernel) (by decide +kernel)
set_option maxRecDepth 20000 in
theorem gX6_holds_X4_holding : GoodIn wsX6_holds (wsV RX6 249 RX4 yX4_holding wsX4_holding) := goodIn_app (goodIn_of _ (by decide +kernel)) ggX6_holds_X4_holding
theorem dX6_holds_0 : decode cX6_holds 0 = .ok (.aload_n 0, 1) := by decide +kernel
theorem dX6_holds_1 : decode cX6_holds 1 = .ok (.getfield 26, 3) := by decide +kernel
theorem dX6_holds_4 : decode cX6_holds 4 = .ok (.getfield 242, 3) := by decide +kernel
theorem dX6_holds_7 : decode cX6_holds 7 = .ok (.ifCond .eq 13, 3) := by decide +kernel
theorem dX6_holds_10 : decode cX6_holds 10 = .ok (.aload_n 0, 1) := by decide +kernel
theorem dX6_holds_11 : decode cX6_holds 11 = .ok (.getfield 26, 3) := by decide +kernel
theorem dX6_holds_14 : decode cX6_holds 14 = .ok (.invokevirtual 249, 3) := by decide +kernel
theorem dX6_holds_17 : decode cX6_holds 17 = .ok (.goto 5, 3) := by decide +kernel
theorem dX6_holds_20 : decode cX6_holds 20 = .ok (.bipush (-2), 2) := by decide +kernel
theorem dX6_holds_22 : decode cX6_holds 22 = .ok (.ireturn, 1) := by decide +kernel
set_option maxRecDepth 20000 in
theorem ggX6_change_X6_isKind : GoodIn wsX6_change wsX6_isKind := goodIn_r _ [5] (by decide +kernel) (by decide +kernel)
set_option maxRecDepth 20000 in
theorem gX6_change_X6_isKind : GoodIn wsX6_change (va_wsS RX6 252 yX6_isKind wsX6_isKind) := goodIn_app (goodIn_of _ (by decide +kernel)) ggX6_change_X6_isKind
set_option maxRecDepth 20000 in
theorem ggX6_change_X6_within : GoodIn wsX6_change wsX6_within := goodIn_r _ [8] (by decide +kernel) (by decide +kernel)
set_option maxRecDepth 20000 in
theorem gX6_change_X6_within : GoodIn wsX6_change (va_wsS RX6 49 yX6_within wsX6_within) := goodIn_app (goodIn_of _ (by decide +kernel)) ggX6_change_X6_within
set_option maxRecDepth 20000 in
theorem ggX6_change_X5_putChange : GoodIn wsX6_change wsX5_putChange := goodIn_r _ [13, 14, 21, 22, 23, 24, 25] (by decide +kernel) (by decide +kernel)
set_option maxRecDepth 20000 in
theorem gX6_change_X5_putChange : GoodIn wsX6_change (wsV RX6 255 RX5 yX5_putChange wsX5_putChange) := goodIn_app (goodIn_of _ (by decide +kernel)) ggX6_change_X5_putChange
theorem dX6_change_0 : decode cX6_change 0 = .ok (.iload_n 1, 1) := by decide +kernel
theorem dX6_change_1 : decode cX6_change 1 = .ok (.invokestatic 252, 3) := by decide +kernel
theorem dX6_change_4 : decode cX6_change 4 = .ok (.ifCond .eq 26, 3) := by decide +kernel
theorem dX6_change_7 : decode cX6_change 7 = .ok (.iload_n 2, 1) := by decide +kernel
theorem dX6_change_8 : decode cX6_change 8 = .ok (.invokestatic 252, 3) := by decide +kernel
theorem dX6_change_11 : decode cX6_change 11 = .ok (.ifCond .eq 19, 3) := by decide +kernel
theorem dX6_change_14 : decode cX6_change 14 = .ok (.iload_n 1, 1) := by decide +kernel
theorem dX6_change_15 : decode cX6_change 15 = .ok (.iload_n 2, 1) := by decide +kernel
theorem dX6_change_16 : decode cX6_change 16 = .ok (.if_icmp .eq 14, 3) := by decide +kernel
theorem dX6_change_19 : decode cX6_change 19 = .ok (.iload_n 3, 1) := by decide +kernel
theorem dX6_change_20 : decode cX6_change 20 = .ok (.iconst 0, 1) := by decide +kernel
theorem dX6_change_21 : decode cX6_change 21 = .ok (.sipush 500, 3) := by decide +kernel
theorem dX6_change_24 : decode cX6_change 24 = .ok (.invokestatic 49, 3) := by decide +kernel
theorem dX6_change_27 : decode cX6_change 27 = .ok (.ifCond .ne 5, 3) := by decide +kernel
theorem dX6_change_30 : decode cX6_change 30 = .ok (.iconst (-1), 1) := by decide +kernel
theorem dX6_change_31 : decode cX6_change 31 = .ok (.ireturn, 1) := by decide +kernel
theorem dX6_change_32 : decode cX6_change 32 = .ok (.aload_n 0, 1) := by decide +kernel
theorem dX6_change_33 : decode cX6_change 33 = .ok (.getfield 33, 3) := by decide +kernel
theorem dX6_change_36 : decode cX6_change 36 = .ok (.iload_n 1, 1) := by decide +kernel
theorem dX6_change_37 : decode cX6_change 37 = .ok (.iload_n 2, 1) := by decide +kernel
theorem dX6_change_38 : decode cX6_change 38 = .ok (.iload_n 3, 1) := by decide +kernel
theorem dX6_change_39 : decode cX6_change 39 = .ok (.invokevirtual 255, 3) := by decide +kernel
theorem dX6_change_42 : decode cX6_change 42 = .ok (.ireturn, 1) := by decide +kernel
set_option maxRecDepth 20000 in
theorem ggX6_stain_X6_isKind : GoodIn wsX6_stain wsX6_isKind := goodIn_r _ [5] (by decide +kernel) (by decide +kernel)
set_option maxRecDepth 20000 in
theorem gX6_stain_X6_isKind : GoodIn wsX6_stain (va_wsS RX6 252 yX6_isKind wsX6_isKind) := goodIn_app (goodIn_of _ (by decide +kernel)) ggX6_stain_X6_isKind
set_option maxRecDepth 20000 in
theorem ggX6_stain_X6_within : GoodIn wsX6_stain wsX6_within := goodIn_r _ [8] (by decide +kernel) (by decide +kernel)
set_option maxRecDepth 20000 in
theorem gX6_stain_X6_within : GoodIn wsX6_stain (va_wsS RX6 49 yX6_within wsX6_within) := goodIn_app (goodIn_of _ (by decide +kernel)) ggX6_stain_X6_within
set_option maxRecDepth 20000 in
theorem ggX6_stain_X5_putStain : GoodIn wsX6_stain wsX5_putStain := goodIn_r _ [13, 14, 21, 22, 23, 24, 25] (by decide +kernel) (by decide +kernel)
set_option maxRecDepth 20000 in
theorem gX6_stain_X5_putStain : GoodIn wsX6_stain (wsV RX6 258 RX5 yX5_putStain wsX5_putStain) := goodIn_app (goodIn_of _ (by decide +kernel)) ggX6_stain_X5_putStain
theorem dX6_stain_0 : decode cX6_stain 0 = .ok (.iload_n 1, 1) := by decide +kernel
theorem dX6_stain_1 : decode cX6_stain 1 = .ok (.invokestatic 252, 3) := by decide +kernel
theorem dX6_stain_4 : decode cX6_stain 4 = .ok (.ifCond .eq 12, 3) := by decide +kernel
theorem dX6_stain_7 : decode cX6_stain 7 = .ok (.iload_n 2, 1) := by decide +kernel
theorem dX6_stain_8 : decode cX6_stain 8 = .ok (.iconst 0, 1) := by decide +kernel
theorem dX6_stain_9 : decode cX6_stain 9 = .ok (.iconst 3, 1) := by decide +kernel
theorem dX6_stain_10 : decode cX6_stain 10 = .ok (.invokestatic 49, 3) := by decide +kernel
theorem dX6_stain_13 : decode cX6_stain 13 = .ok (.ifCond .ne 5, 3) := by decide +kernel
theorem dX6_stain_16 : decode cX6_stain 16 = .ok (.iconst (-1), 1) := by decide +kernel
theorem dX6_stain_17 : decode cX6_stain 17 = .ok (.ireturn, 1) := by decide +kernel
theorem dX6_stain_18 : decode cX6_stain 18 = .ok (.aload_n 0, 1) := by decide +kernel
theorem dX6_stain_19 : decode cX6_stain 19 = .ok (.getfield 33, 3) := by decide +kernel
theorem dX6_stain_22 : decode cX6_stain 22 = .ok (.iload_n 1, 1) := by decide +kernel
theorem dX6_stain_23 : decode cX6_stain 23 = .ok (.iload_n 2, 1) := by decide +kernel
theorem dX6_stain_24 : decode cX6_stain 24 = .ok (.invokevirtual 258, 3) := by decide +kernel
theorem dX6_stain_27 : decode cX6_stain 27 = .ok (.ireturn, 1) := by decide +kernel
set_option maxRecDepth 20000 in
theorem ggX6_tour_X6_within : GoodIn wsX6_tour wsX6_within := goodIn_r _ [6] (by decide +kernel) (by decide +kernel)
set_option maxRecDepth 20000 in
theorem gX6_tour_X6_within : GoodIn wsX6_tour (va_wsS RX6 49 yX6_within wsX6_within) := goodIn_app (goodIn_of _ (by decide +kernel)) ggX6_tour_X6_within
set_option maxRecDepth 20000 in
theorem ggX6_tour_X6_isKind : GoodIn wsX6_tour wsX6_isKind := goodIn_r _ [9] (by decide +kernel) (by decide +kernel)
set_option maxRecDepth 20000 in
theorem gX6_tour_X6_isKind : GoodIn wsX6_tour (va_wsS RX6 252 yX6_isKind wsX6_isKind) := goodIn_app (goodIn_of _ (by decide +kernel)) ggX6_tour_X6_isKind
set_option maxRecDepth 20000 in
theorem ggX6_tour_X5_isIn : GoodIn wsX6_tour wsX5_isIn := goodIn_r _ [13] (by decide +kernel) (by decide +kernel)
set_option maxRecDepth 20000 in
theorem gX6_tour_X5_isIn : GoodIn wsX6_tour (va_wsS RX6 261 yX5_isIn wsX5_isIn) := goodIn_app (goodIn_of _ (by decide +kernel)) ggX6_tour_X5_isIn
set_option maxRecDepth 20000 in
theorem ggX6_tour_X5_find : GoodIn wsX6_tour wsX5_find := goodIn_r _ [17, 18, 19, 20, 21, 11, 12, 13, 22, 23, 24, 25, 26, 27, 28, 29, 30, 31, 32, 33, 34, 35, 36, 37, 38, 39, 8, 5, 9, 40, 41, 42, 43, 4, 6, 58, 59, 60, 61, 62] (by decide +kernel) (by decide +kernel)
set_option maxRecDepth 20000 in
theorem gX6_tour_X5_find : GoodIn wsX6_tour (wsV RX6 264 RX5 yX5_find wsX5_find) := goodIn_app (goodIn_of _ (by decide +kernel)) ggX6_tour_X5_find
set_option maxRecDepth 20000 in
theorem ggX6_tour_X5_least : GoodIn wsX6_tour wsX5_least := goodIn_r _ [47, 40, 41, 42, 12, 43, 20, 4, 5, 6, 58, 59, 60, 61, 62] (by decide +kernel) (by decide +kernel)
set_option maxRecDepth 20000 in
theorem gX6_tour_X5_least : GoodIn wsX6_tour (wsV RX6 268 RX5 yX5_least wsX5_least) := goodIn_app (goodIn_of _ (by decide +kernel)) ggX6_tour_X5_least
set_option maxRecDepth 20000 in
theorem ggX6_tour_X5_kindAt : GoodIn wsX6_tour wsX5_kindAt := goodIn_r _ [51, 26, 27, 28, 12, 29, 18, 21, 11, 13, 30, 31, 32, 33, 34, 35, 36, 37, 38, 19, 39, 8, 5, 9, 40, 41, 42, 43, 20, 4, 6, 58, 59, 60, 61, 62] (by decide +kernel) (by decide +kernel)
set_option maxRecDepth 20000 in
theorem gX6_tour_X5_kindAt : GoodIn wsX6_tour (wsV RX6 271 RX5 yX5_kindAt wsX5_kindAt) := goodIn_app (goodIn_of _ (by decide +kernel)) ggX6_tour_X5_kindAt
theorem dX6_tour_0 : decode cX6_tour 0 = .ok (.iload_n 1, 1) := by decide +kernel
theorem dX6_tour_1 : decode cX6_tour 1 = .ok (.iconst 1, 1) := by decide +kernel
theorem dX6_tour_2 : decode cX6_tour 2 = .ok (.bipush 63, 2) := by decide +kernel
theorem dX6_tour_4 : decode cX6_tour 4 = .ok (.invokestatic 49, 3) := by decide +kernel
theorem dX6_tour_7 : decode cX6_tour 7 = .ok (.ifCond .eq 23, 3) := by decide +kernel
theorem dX6_tour_10 : decode cX6_tour 10 = .ok (.iload_n 2, 1) := by decide +kernel
theorem dX6_tour_11 : decode cX6_tour 11 = .ok (.invokestatic 252, 3) := by decide +kernel
theorem dX6_tour_14 : decode cX6_tour 14 = .ok (.ifCond .eq 16, 3) := by decide +kernel
theorem dX6_tour_17 : decode cX6_tour 17 = .ok (.iload_n 1, 1) := by decide +kernel
theorem dX6_tour_18 : decode cX6_tour 18 = .ok (.iload_n 2, 1) := by decide +kernel
theorem dX6_tour_19 : decode cX6_tour 19 = .ok (.invokestatic 261, 3) := by decide +kernel
theorem dX6_tour_22 : decode cX6_tour 22 = .ok (.ifCond .eq 8, 3) := by decide +kernel
theorem dX6_tour_25 : decode cX6_tour 25 = .ok (.iload_n 3, 1) := by decide +kernel
theorem dX6_tour_26 : decode cX6_tour 26 = .ok (.iconst (-1), 1) := by decide +kernel
theorem dX6_tour_27 : decode cX6_tour 27 = .ok (.if_icmp .ge 5, 3) := by decide +kernel
theorem dX6_tour_30 : decode cX6_tour 30 = .ok (.iconst (-1), 1) := by decide +kernel
theorem dX6_tour_31 : decode cX6_tour 31 = .ok (.ireturn, 1) := by decide +kernel
theorem dX6_tour_32 : decode cX6_tour 32 = .ok (.aload_n 0, 1) := by decide +kernel
theorem dX6_tour_33 : decode cX6_tour 33 = .ok (.getfield 33, 3) := by decide +kernel
theorem dX6_tour_36 : decode cX6_tour 36 = .ok (.iload_n 1, 1) := by decide +kernel
theorem dX6_tour_37 : decode cX6_tour 37 = .ok (.aload_n 0, 1) := by decide +kernel
theorem dX6_tour_38 : decode cX6_tour 38 = .ok (.getfield 46, 3) := by decide +kernel
theorem dX6_tour_41 : decode cX6_tour 41 = .ok (.iconst 5, 1) := by decide +kernel
theorem dX6_tour_42 : decode cX6_tour 42 = .ok (.iaload, 1) := by decide +kernel
theorem dX6_tour_43 : decode cX6_tour 43 = .ok (.invokevirtual 264, 3) := by decide +kernel
theorem dX6_tour_46 : decode cX6_tour 46 = .ok (.iload_n 3, 1) := by decide +kernel
theorem dX6_tour_47 : decode cX6_tour 47 = .ok (.iconst (-1), 1) := by decide +kernel
theorem dX6_tour_48 : decode cX6_tour 48 = .ok (.if_icmp .ne 14, 3) := by decide +kernel
theorem dX6_tour_51 : decode cX6_tour 51 = .ok (.aload_n 0, 1) := by decide +kernel
theorem dX6_tour_52 : decode cX6_tour 52 = .ok (.getfield 33, 3) := by decide +kernel
theorem dX6_tour_55 : decode cX6_tour 55 = .ok (.iload_n 2, 1) := by decide +kernel
theorem dX6_tour_56 : decode cX6_tour 56 = .ok (.invokevirtual 268, 3) := by decide +kernel
theorem dX6_tour_59 : decode cX6_tour 59 = .ok (.goto 12, 3) := by decide +kernel
theorem dX6_tour_62 : decode cX6_tour 62 = .ok (.aload_n 0, 1) := by decide +kernel
theorem dX6_tour_63 : decode cX6_tour 63 = .ok (.getfield 33, 3) := by decide +kernel
theorem dX6_tour_66 : decode cX6_tour 66 = .ok (.iload_n 2, 1) := by decide +kernel
theorem dX6_tour_67 : decode cX6_tour 67 = .ok (.iload_n 3, 1) := by decide +kernel
theorem dX6_tour_68 : decode cX6_tour 68 = .ok (.invokevirtual 271, 3) := by decide +kernel
theorem dX6_tour_71 : decode cX6_tour 71 = .ok (.ireturn, 1) := by decide +kernel
set_option maxRecDepth 20000 in
theorem ggX6_scale_X0_known : GoodIn wsX6_scale wsX0_known := goodIn_r _ [6, 7, 8, 9, 10, 23, 24, 25, 26, 27, 28, 29, 30, 31] (by decide +kernel) (by decide +kernel)
set_option maxRecDepth 20000 in
theorem gX6_scale_X0_known : GoodIn wsX6_scale (wsV RX6 195 RX0 yX0_known wsX0_known) := goodIn_app (goodIn_of _ (by decide +kernel)) ggX6_scale_X0_known
set_option maxRecDepth 20000 in
theorem ggX6_scale_X6_within : GoodIn wsX6_scale wsX6_within := goodIn_r _ [10] (by decide +kernel) (by decide +kernel)
set_option maxRecDepth 20000 in
theorem gX6_scale_X6_within : GoodIn wsX6_scale (va_wsS RX6 49 yX6_within wsX6_within) := goodIn_app (goodIn_of _ (by decide +kernel)) ggX6_scale_X6_within
set_option maxRecDepth 20000 in
theorem ggX6_scale_X0_putWeight : GoodIn wsX6_scale wsX0_putWeight := goodIn_r _ [15, 16, 23, 24, 25, 26, 27, 28, 29, 30, 31] (by decide +kernel) (by decide +kernel)
set_option maxRecDepth 20000 in
theorem gX6_scale_X0_putWeight : GoodIn wsX6_scale (wsV RX6 274 RX0 yX0_putWeight wsX0_putWeight) := goodIn_app (goodIn_of _ (by decide +kernel)) ggX6_scale_X0_putWeight
theorem dX6_scale_0 : decode cX6_scale 0 = .ok (.aload_n 0, 1) := by decide +kernel
theorem dX6_scale_1 : decode cX6_scale 1 = .ok (.getfield 19, 3) := by decide +kernel
theorem dX6_scale_4 : decode cX6_scale 4 = .ok (.iload_n 1, 1) := by decide +kernel
theorem dX6_scale_5 : decode cX6_scale 5 = .ok (.invokevirtual 195, 3) := by decide +kernel
theorem dX6_scale_8 : decode cX6_scale 8 = .ok (.ifCond .eq 14, 3) := by decide +kernel
theorem dX6_scale_11 : decode cX6_scale 11 = .ok (.iload_n 2, 1) := by decide +kernel
theorem dX6_scale_12 : decode cX6_scale 12 = .ok (.iconst 0, 1) := by decide +kernel
theorem dX6_scale_13 : decode cX6_scale 13 = .ok (.sipush 10000, 3) := by decide +kernel
theorem dX6_scale_16 : decode cX6_scale 16 = .ok (.invokestatic 49, 3) := by decide +kernel
theorem dX6_scale_19 : decode cX6_scale 19 = .ok (.ifCond .ne 5, 3) := by decide +kernel
theorem dX6_scale_22 : decode cX6_scale 22 = .ok (.iconst (-1), 1) := by decide +kernel
theorem dX6_scale_23 : decode cX6_scale 23 = .ok (.ireturn, 1) := by decide +kernel
theorem dX6_scale_24 : decode cX6_scale 24 = .ok (.aload_n 0, 1) := by decide +kernel
theorem dX6_scale_25 : decode cX6_scale 25 = .ok (.getfield 19, 3) := by decide +kernel
theorem dX6_scale_28 : decode cX6_scale 28 = .ok (.iload_n 1, 1) := by decide +kernel
theorem dX6_scale_29 : decode cX6_scale 29 = .ok (.iload_n 2, 1) := by decide +kernel
theorem dX6_scale_30 : decode cX6_scale 30 = .ok (.invokevirtual 274, 3) := by decide +kernel
theorem dX6_scale_33 : decode cX6_scale 33 = .ok (.ireturn, 1) := by decide +kernel
set_option maxRecDepth 20000 in
theorem ggX6_scales_X0_givenAway : GoodIn wsX6_scales wsX0_givenAway := goodIn_r _ [7, 8, 9, 10, 11, 12, 13, 28, 29, 30, 31, 32, 33, 34, 35, 36] (by decide +kernel) (by decide +kernel)
set_option maxRecDepth 20000 in
theorem gX6_scales_X0_givenAway : GoodIn wsX6_scales (wsV RX6 277 RX0 yX0_givenAway wsX0_givenAway) := goodIn_app (goodIn_of _ (by decide +kernel)) ggX6_scales_X0_givenAway
set_option maxRecDepth 20000 in
theorem ggX6_scales_X0_lighterThan : GoodIn wsX6_scales wsX0_lighterThan := goodIn_r _ [17, 8, 9, 28, 29, 30, 31, 32, 33, 34, 35, 36] (by decide +kernel) (by decide +kernel)
set_option maxRecDepth 20000 in
theorem gX6_scales_X0_lighterThan : GoodIn wsX6_scales (wsV RX6 280 RX0 yX0_lighterThan wsX0_lighterThan) := goodIn_app (goodIn_of _ (by decide +kernel)) ggX6_scales_X0_lighterThan
set_option maxRecDepth 20000 in
theorem ggX6_scales_X0_weighed : GoodIn wsX6_scales wsX0_weighed := goodIn_r _ [21, 8, 9, 28, 29, 30, 31, 32, 33, 34, 35, 36] (by decide +kernel) (by decide +kernel)
set_option maxRecDepth 20000 in
theorem gX6_scales_X0_weighed : GoodIn wsX6_scales (wsV RX6 283 RX0 yX0_weighed wsX0_weighed) := goodIn_app (goodIn_of _ (by decide +kernel)) ggX6_scales_X0_weighed
theorem dX6_scales_0 : decode cX6_scales 0 = .ok (.iload_n 1, 1) := by decide +kernel
theorem dX6_scales_1 : decode cX6_scales 1 = .ok (.tableswitch 70 0 2 #[27, 41, 62], 27) := by decide +kernel
theorem dX6_scales_28 : decode cX6_scales 28 = .ok (.aload_n 0, 1) := by decide +kernel
theorem dX6_scales_29 : decode cX6_scales 29 = .ok (.getfield 19, 3) := by decide +kernel
theorem dX6_scales_32 : decode cX6_scales 32 = .ok (.aload_n 0, 1) := by decide +kernel
theorem dX6_scales_33 : decode cX6_scales 33 = .ok (.getfield 46, 3) := by decide +kernel
theorem dX6_scales_36 : decode cX6_scales 36 = .ok (.iconst 2, 1) := by decide +kernel
theorem dX6_scales_37 : decode cX6_scales 37 = .ok (.iaload, 1) := by decide +kernel
theorem dX6_scales_38 : decode cX6_scales 38 = .ok (.invokevirtual 277, 3) := by decide +kernel
theorem dX6_scales_41 : decode cX6_scales 41 = .ok (.ireturn, 1) := by decide +kernel
theorem dX6_scales_42 : decode cX6_scales 42 = .ok (.aload_n 0, 1) := by decide +kernel
theorem dX6_scales_43 : decode cX6_scales 43 = .ok (.getfield 19, 3) := by decide +kernel
theorem dX6_scales_46 : decode cX6_scales 46 = .ok (.aload_n 0, 1) := by decide +kernel
theorem dX6_scales_47 : decode cX6_scales 47 = .ok (.getfield 46, 3) := by decide +kernel
theorem dX6_scales_50 : decode cX6_scales 50 = .ok (.iconst 2, 1) := by decide +kernel
theorem dX6_scales_51 : decode cX6_scales 51 = .ok (.iaload, 1) := by decide +kernel
theorem dX6_scales_52 : decode cX6_scales 52 = .ok (.aload_n 0, 1) := by decide +kernel
theorem dX6_scales_53 : decode cX6_scales 53 = .ok (.getfield 46, 3) := by decide +kernel
theorem dX6_scales_56 : decode cX6_scales 56 = .ok (.iconst 4, 1) := by decide +kernel
theorem dX6_scales_57 : decode cX6_scales 57 = .ok (.iaload, 1) := by decide +kernel
theorem dX6_scales_58 : decode cX6_scales 58 = .ok (.isub, 1) := by decide +kernel
theorem dX6_scales_59 : decode cX6_scales 59 = .ok (.invokevirtual 280, 3) := by decide +kernel
theorem dX6_scales_62 : decode cX6_scales 62 = .ok (.ireturn, 1) := by decide +kernel
theorem dX6_scales_63 : decode cX6_scales 63 = .ok (.aload_n 0, 1) := by decide +kernel
theorem dX6_scales_64 : decode cX6_scales 64 = .ok (.getfield 19, 3) := by decide +kernel
theorem dX6_scales_67 : decode cX6_scales 67 = .ok (.invokevirtual 283, 3) := by decide +kernel
theorem dX6_scales_70 : decode cX6_scales 70 = .ok (.ireturn, 1) := by decide +kernel
theorem dX6_scales_71 : decode cX6_scales 71 = .ok (.iconst (-1), 1) := by decide +kernel
theorem dX6_scales_72 : decode cX6_scales 72 = .ok (.ireturn, 1) := by decide +kernel
theorem dX6_within_0 : decode cX6_within 0 = .ok (.iload_n 1, 1) := by decide +kernel
theorem dX6_within_1 : decode cX6_within 1 = .ok (.iload_n 0, 1) := by decide +kernel
theorem dX6_within_2 : decode cX6_within 2 = .ok (.if_icmp .gt 12, 3) := by decide +kernel
theorem dX6_within_5 : decode cX6_within 5 = .ok (.iload_n 0, 1) := by decide +kernel
theorem dX6_within_6 : decode cX6_within 6 = .ok (.iload_n 2, 1) := by decide +kernel
theorem dX6_within_7 : decode cX6_within 7 = .ok (.if_icmp .gt 7, 3) := by decide +kernel
theorem dX6_within_10 : decode cX6_within 10 = .ok (.iconst 1, 1) := by decide +kernel
theorem dX6_within_11 : decode cX6_within 11 = .ok (.goto 4, 3) := by decide +kernel
theorem dX6_within_14 : decode cX6_within 14 = .ok (.iconst 0, 1) := by decide +kernel
theorem dX6_within_15 : decode cX6_within 15 = .ok (.ireturn, 1) := by decide +kernel
set_option maxRecDepth 20000 in
theorem ggX6_isBox_X6_within : GoodIn wsX6_isBox wsX6_within := goodIn_r _ [4] (by decide +kernel) (by decide +kernel)
set_option maxRecDepth 20000 in
theorem gX6_isBox_X6_within : GoodIn wsX6_isBox (va_wsS RX6 49 yX6_within wsX6_within) := goodIn_app (goodIn_of _ (by decide +kernel)) ggX6_isBox_X6_within
theorem dX6_isBox_0 : decode cX6_isBox 0 = .ok (.iload_n 0, 1) := by decide +kernel
theorem dX6_isBox_1 : decode cX6_isBox 1 = .ok (.iconst 0, 1) := by decide +kernel
theorem dX6_isBox_2 : decode cX6_isBox 2 = .ok (.bipush 29, 2) := by decide +kernel
theorem dX6_isBox_4 : decode cX6_isBox 4 = .ok (.invokestatic 49, 3) := by decide +kernel
theorem dX6_isBox_7 : decode cX6_isBox 7 = .ok (.ireturn, 1) := by decide +kernel
set_option maxRecDepth 20000 in
theorem ggX6_isPallet_X6_within : GoodIn wsX6_isPallet wsX6_within := goodIn_r _ [4] (by decide +kernel) (by decide +kernel)
set_option maxRecDepth 20000 in
theorem gX6_isPallet_X6_within : GoodIn wsX6_isPallet (va_wsS RX6 49 yX6_within wsX6_within) := goodIn_app (goodIn_of _ (by decide +kernel)) ggX6_isPallet_X6_within
theorem dX6_isPallet_0 : decode cX6_isPallet 0 = .ok (.iload_n 0, 1) := by decide +kernel
theorem dX6_isPallet_1 : decode cX6_isPallet 1 = .ok (.iconst 0, 1) := by decide +kernel
theorem dX6_isPallet_2 : decode cX6_isPallet 2 = .ok (.iconst 5, 1) := by decide +kernel
theorem dX6_isPallet_3 : decode cX6_isPallet 3 = .ok (.invokestatic 49, 3) := by decide +kernel
theorem dX6_isPallet_6 : decode cX6_isPallet 6 = .ok (.ireturn, 1) := by decide +kernel
set_option maxRecDepth 20000 in
theorem ggX6_isSide_X6_within : GoodIn wsX6_isSide wsX6_within := goodIn_r _ [4] (by decide +kernel) (by decide +kernel)
set_option maxRecDepth 20000 in
theorem gX6_isSide_X6_within : GoodIn wsX6_isSide (va_wsS RX6 49 yX6_within wsX6_within) := goodIn_app (goodIn_of _ (by decide +kernel)) ggX6_isSide_X6_within
theorem dX6_isSide_0 : decode cX6_isSide 0 = .ok (.iload_n 0, 1) := by decide +kernel
theorem dX6_isSide_1 : decode cX6_isSide 1 = .ok (.iconst 1, 1) := by decide +kernel
theorem dX6_isSide_2 : decode cX6_isSide 2 = .ok (.bipush 12, 2) := by decide +kernel
theorem dX6_isSide_4 : decode cX6_isSide 4 = .ok (.invokestatic 49, 3) := by decide +kernel
theorem dX6_isSide_7 : decode cX6_isSide 7 = .ok (.ireturn, 1) := by decide +kernel
theorem dX6_isKind_0 : decode cX6_isKind 0 = .ok (.iload_n 0, 1) := by decide +kernel
theorem dX6_isKind_1 : decode cX6_isKind 1 = .ok (.ifCond .lt 13, 3) := by decide +kernel
theorem dX6_isKind_4 : decode cX6_isKind 4 = .ok (.iload_n 0, 1) := by decide +kernel
theorem dX6_isKind_5 : decode cX6_isKind 5 = .ok (.bipush 6, 2) := by decide +kernel
theorem dX6_isKind_7 : decode cX6_isKind 7 = .ok (.if_icmp .ge 7, 3) := by decide +kernel
theorem dX6_isKind_10 : decode cX6_isKind 10 = .ok (.iconst 1, 1) := by decide +kernel
theorem dX6_isKind_11 : decode cX6_isKind 11 = .ok (.goto 4, 3) := by decide +kernel
theorem dX6_isKind_14 : decode cX6_isKind 14 = .ok (.iconst 0, 1) := by decide +kernel
theorem dX6_isKind_15 : decode cX6_isKind 15 = .ok (.ireturn, 1) := by decide +kernel
set_option maxRecDepth 20000 in
theorem ggX7_init_X7_begins : GoodIn wsX7_init wsX7_begins := goodIn_r _ [41, 4, 6, 7, 8, 9, 10, 11, 12, 13, 14, 15, 16, 17, 22, 42, 43, 44, 45, 46, 47, 48, 49, 50, 51, 52, 53, 54, 55, 56, 57, 58, 59, 60, 61, 62, 63, 64, 65, 66, 67, 68, 69, 70, 71, 72, 73, 74, 75, 76, 77, 78, 79, 80, 81, 82, 83, 84, 85, 86, 87, 88, 89, 90] (by decide +kernel) (by decide +kernel)
set_option maxRecDepth 20000 in
theorem gX7_init_X7_begins : GoodIn wsX7_init (wsV RX7 105 RX7 yX7_begins wsX7_begins) := goodIn_app (goodIn_of _ (by decide +kernel)) ggX7_init_X7_begins
