theorem dX4_init_0 : decode cX4_init 0 = .ok (.aload_n 0, 1) := by decide +kernel
theorem dX4_init_1 : decode cX4_init 1 = .ok (.invokespecial 5, 3) := by decide +kernel
theorem dX4_init_4 : decode cX4_init 4 = .ok (.aload_n 0, 1) := by decide +kernel
theorem dX4_init_5 : decode cX4_init 5 = .ok (.sipush 169, 3) := by decide +kernel
theorem dX4_init_8 : decode cX4_init 8 = .ok (.newarray .int, 2) := by decide +kernel
theorem dX4_init_10 : decode cX4_init 10 = .ok (.putfield 11, 3) := by decide +kernel
theorem dX4_init_13 : decode cX4_init 13 = .ok (.aload_n 0, 1) := by decide +kernel
theorem dX4_init_14 : decode cX4_init 14 = .ok (.sipush 576, 3) := by decide +kernel
theorem dX4_init_17 : decode cX4_init 17 = .ok (.newarray .int, 2) := by decide +kernel
theorem dX4_init_19 : decode cX4_init 19 = .ok (.putfield 15, 3) := by decide +kernel
theorem dX4_init_22 : decode cX4_init 22 = .ok (.aload_n 0, 1) := by decide +kernel
theorem dX4_init_23 : decode cX4_init 23 = .ok (.sipush 576, 3) := by decide +kernel
theorem dX4_init_26 : decode cX4_init 26 = .ok (.newarray .int, 2) := by decide +kernel
theorem dX4_init_28 : decode cX4_init 28 = .ok (.putfield 18, 3) := by decide +kernel
theorem dX4_init_31 : decode cX4_init 31 = .ok (.aload_n 0, 1) := by decide +kernel
theorem dX4_init_32 : decode cX4_init 32 = .ok (.sipush 144, 3) := by decide +kernel
theorem dX4_init_35 : decode cX4_init 35 = .ok (.newarray .int, 2) := by decide +kernel
theorem dX4_init_37 : decode cX4_init 37 = .ok (.putfield 21, 3) := by decide +kernel
theorem dX4_init_40 : decode cX4_init 40 = .ok (.return_, 1) := by decide +kernel
set_option maxRecDepth 20000 in
theorem ggX4_make_X4_findMost : GoodIn wsX4_make wsX4_findMost := goodIn_r _ [15, 1, 2, 16, 17, 18, 19, 14, 20, 3, 4, 21, 22, 7, 23, 24, 25, 26, 27, 28, 29, 30, 31, 32, 33, 34, 35, 36, 37, 38, 39, 40, 41, 42, 9, 43, 44, 45, 46, 79, 80, 81, 82, 83, 84, 85, 86, 87, 88, 89, 90] (by decide +kernel) (by decide +kernel)
set_option maxRecDepth 20000 in
theorem gX4_make_X4_findMost : GoodIn wsX4_make (wsV RX4 50 RX4 yX4_findMost wsX4_findMost) := goodIn_app (goodIn_of _ (by decide +kernel)) ggX4_make_X4_findMost
set_option maxRecDepth 20000 in
theorem ggX4_make_X4_layCases : GoodIn wsX4_make wsX4_layCases := goodIn_r _ [50, 51, 52, 1, 2, 53, 54, 55, 56, 14, 57, 58, 59, 60, 61, 3, 4, 31, 32, 33, 34, 16, 24, 25, 26, 62, 63, 64, 65, 66, 67, 68, 69, 70, 27, 28, 29, 30, 71, 72, 73, 74, 35, 36, 37, 38, 75, 76, 77, 78, 9, 43, 44, 45, 46, 79, 80, 81, 82, 83, 84, 85, 86, 87, 88, 89, 90] (by decide +kernel) (by decide +kernel)
set_option maxRecDepth 20000 in
theorem gX4_make_X4_layCases : GoodIn wsX4_make (wsV RX4 53 RX4 yX4_layCases wsX4_layCases) := goodIn_app (goodIn_of _ (by decide +kernel)) ggX4_make_X4_layCases
set_option maxRecDepth 20000 in
theorem ggX4_make_X4_mostOf : GoodIn wsX4_make wsX4_mostOf := goodIn_r _ [34, 16, 79, 80, 81, 82, 83, 84, 85, 86, 87, 88, 89, 90] (by decide +kernel) (by decide +kernel)
set_option maxRecDepth 20000 in
theorem gX4_make_X4_mostOf : GoodIn wsX4_make (wsV RX4 56 RX4 yX4_mostOf wsX4_mostOf) := goodIn_app (goodIn_of _ (by decide +kernel)) ggX4_make_X4_mostOf
theorem dX4_make_0 : decode cX4_make 0 = .ok (.aload_n 0, 1) := by decide +kernel
theorem dX4_make_1 : decode cX4_make 1 = .ok (.iload_n 1, 1) := by decide +kernel
theorem dX4_make_2 : decode cX4_make 2 = .ok (.putfield 24, 3) := by decide +kernel
theorem dX4_make_5 : decode cX4_make 5 = .ok (.aload_n 0, 1) := by decide +kernel
theorem dX4_make_6 : decode cX4_make 6 = .ok (.iload_n 2, 1) := by decide +kernel
theorem dX4_make_7 : decode cX4_make 7 = .ok (.putfield 28, 3) := by decide +kernel
theorem dX4_make_10 : decode cX4_make 10 = .ok (.aload_n 0, 1) := by decide +kernel
theorem dX4_make_11 : decode cX4_make 11 = .ok (.iload_n 3, 1) := by decide +kernel
theorem dX4_make_12 : decode cX4_make 12 = .ok (.putfield 31, 3) := by decide +kernel
theorem dX4_make_15 : decode cX4_make 15 = .ok (.aload_n 0, 1) := by decide +kernel
theorem dX4_make_16 : decode cX4_make 16 = .ok (.iload 4, 2) := by decide +kernel
theorem dX4_make_18 : decode cX4_make 18 = .ok (.putfield 34, 3) := by decide +kernel
theorem dX4_make_21 : decode cX4_make 21 = .ok (.aload_n 0, 1) := by decide +kernel
theorem dX4_make_22 : decode cX4_make 22 = .ok (.iload_n 3, 1) := by decide +kernel
theorem dX4_make_23 : decode cX4_make 23 = .ok (.iload 4, 2) := by decide +kernel
theorem dX4_make_25 : decode cX4_make 25 = .ok (.invokestatic 37, 3) := by decide +kernel
theorem dX4_make_28 : decode cX4_make 28 = .ok (.putfield 43, 3) := by decide +kernel
theorem dX4_make_31 : decode cX4_make 31 = .ok (.aload_n 0, 1) := by decide +kernel
theorem dX4_make_32 : decode cX4_make 32 = .ok (.iconst 1, 1) := by decide +kernel
theorem dX4_make_33 : decode cX4_make 33 = .ok (.putfield 46, 3) := by decide +kernel
theorem dX4_make_36 : decode cX4_make 36 = .ok (.aload_n 0, 1) := by decide +kernel
theorem dX4_make_37 : decode cX4_make 37 = .ok (.invokevirtual 50, 3) := by decide +kernel
theorem dX4_make_40 : decode cX4_make 40 = .ok (.aload_n 0, 1) := by decide +kernel
theorem dX4_make_41 : decode cX4_make 41 = .ok (.invokevirtual 53, 3) := by decide +kernel
theorem dX4_make_44 : decode cX4_make 44 = .ok (.aload_n 0, 1) := by decide +kernel
theorem dX4_make_45 : decode cX4_make 45 = .ok (.iload_n 1, 1) := by decide +kernel
theorem dX4_make_46 : decode cX4_make 46 = .ok (.iload_n 2, 1) := by decide +kernel
theorem dX4_make_47 : decode cX4_make 47 = .ok (.invokevirtual 56, 3) := by decide +kernel
theorem dX4_make_50 : decode cX4_make 50 = .ok (.ireturn, 1) := by decide +kernel
theorem dX4_numberOf_0 : decode cX4_numberOf 0 = .ok (.iload_n 1, 1) := by decide +kernel
theorem dX4_numberOf_1 : decode cX4_numberOf 1 = .ok (.aload_n 0, 1) := by decide +kernel
theorem dX4_numberOf_2 : decode cX4_numberOf 2 = .ok (.getfield 59, 3) := by decide +kernel
theorem dX4_numberOf_5 : decode cX4_numberOf 5 = .ok (.if_icmp .ge 16, 3) := by decide +kernel
theorem dX4_numberOf_8 : decode cX4_numberOf 8 = .ok (.aload_n 0, 1) := by decide +kernel
theorem dX4_numberOf_9 : decode cX4_numberOf 9 = .ok (.getfield 15, 3) := by decide +kernel
theorem dX4_numberOf_12 : decode cX4_numberOf 12 = .ok (.iconst 4, 1) := by decide +kernel
theorem dX4_numberOf_13 : decode cX4_numberOf 13 = .ok (.iload_n 1, 1) := by decide +kernel
theorem dX4_numberOf_14 : decode cX4_numberOf 14 = .ok (.imul, 1) := by decide +kernel
theorem dX4_numberOf_15 : decode cX4_numberOf 15 = .ok (.iload_n 2, 1) := by decide +kernel
theorem dX4_numberOf_16 : decode cX4_numberOf 16 = .ok (.iadd, 1) := by decide +kernel
theorem dX4_numberOf_17 : decode cX4_numberOf 17 = .ok (.iaload, 1) := by decide +kernel
theorem dX4_numberOf_18 : decode cX4_numberOf 18 = .ok (.goto 5, 3) := by decide +kernel
theorem dX4_numberOf_21 : decode cX4_numberOf 21 = .ok (.bipush (-4), 2) := by decide +kernel
theorem dX4_numberOf_23 : decode cX4_numberOf 23 = .ok (.ireturn, 1) := by decide +kernel
set_option maxRecDepth 20000 in
theorem ggX4_findMost_X4_mostIn : GoodIn wsX4_findMost wsX4_mostIn := goodIn_r _ [8, 9, 10, 11, 12, 13, 14, 15, 16, 7, 17, 18, 19, 20, 21, 22, 23, 24, 25, 3, 26, 27, 28, 29, 30, 31, 32, 33, 34, 35, 36, 37, 38, 39, 40, 41, 42, 43, 44, 45, 46, 47, 48, 49, 50] (by decide +kernel) (by decide +kernel)
set_option maxRecDepth 20000 in
theorem gX4_findMost_X4_mostIn : GoodIn wsX4_findMost (wsV RX4 62 RX4 yX4_mostIn wsX4_mostIn) := goodIn_app (goodIn_of _ (by decide +kernel)) ggX4_findMost_X4_mostIn
theorem dX4_findMost_0 : decode cX4_findMost 0 = .ok (.iconst 1, 1) := by decide +kernel
theorem dX4_findMost_1 : decode cX4_findMost 1 = .ok (.istore_n 1, 1) := by decide +kernel
theorem dX4_findMost_2 : decode cX4_findMost 2 = .ok (.iload_n 1, 1) := by decide +kernel
theorem dX4_findMost_3 : decode cX4_findMost 3 = .ok (.aload_n 0, 1) := by decide +kernel
theorem dX4_findMost_4 : decode cX4_findMost 4 = .ok (.getfield 24, 3) := by decide +kernel
theorem dX4_findMost_7 : decode cX4_findMost 7 = .ok (.if_icmp .gt 42, 3) := by decide +kernel
theorem dX4_findMost_10 : decode cX4_findMost 10 = .ok (.iconst 1, 1) := by decide +kernel
theorem dX4_findMost_11 : decode cX4_findMost 11 = .ok (.istore_n 2, 1) := by decide +kernel
theorem dX4_findMost_12 : decode cX4_findMost 12 = .ok (.iload_n 2, 1) := by decide +kernel
theorem dX4_findMost_13 : decode cX4_findMost 13 = .ok (.aload_n 0, 1) := by decide +kernel
theorem dX4_findMost_14 : decode cX4_findMost 14 = .ok (.getfield 28, 3) := by decide +kernel
theorem dX4_findMost_17 : decode cX4_findMost 17 = .ok (.if_icmp .gt 26, 3) := by decide +kernel
theorem dX4_findMost_20 : decode cX4_findMost 20 = .ok (.aload_n 0, 1) := by decide +kernel
theorem dX4_findMost_21 : decode cX4_findMost 21 = .ok (.getfield 11, 3) := by decide +kernel
theorem dX4_findMost_24 : decode cX4_findMost 24 = .ok (.iload_n 1, 1) := by decide +kernel
theorem dX4_findMost_25 : decode cX4_findMost 25 = .ok (.bipush 13, 2) := by decide +kernel
theorem dX4_findMost_27 : decode cX4_findMost 27 = .ok (.imul, 1) := by decide +kernel
theorem dX4_findMost_28 : decode cX4_findMost 28 = .ok (.iload_n 2, 1) := by decide +kernel
theorem dX4_findMost_29 : decode cX4_findMost 29 = .ok (.iadd, 1) := by decide +kernel
theorem dX4_findMost_30 : decode cX4_findMost 30 = .ok (.aload_n 0, 1) := by decide +kernel
theorem dX4_findMost_31 : decode cX4_findMost 31 = .ok (.iload_n 1, 1) := by decide +kernel
theorem dX4_findMost_32 : decode cX4_findMost 32 = .ok (.iload_n 2, 1) := by decide +kernel
theorem dX4_findMost_33 : decode cX4_findMost 33 = .ok (.invokevirtual 62, 3) := by decide +kernel
theorem dX4_findMost_36 : decode cX4_findMost 36 = .ok (.iastore, 1) := by decide +kernel
theorem dX4_findMost_37 : decode cX4_findMost 37 = .ok (.iinc 2 1, 3) := by decide +kernel
theorem dX4_findMost_40 : decode cX4_findMost 40 = .ok (.goto (-28), 3) := by decide +kernel
theorem dX4_findMost_43 : decode cX4_findMost 43 = .ok (.iinc 1 1, 3) := by decide +kernel
theorem dX4_findMost_46 : decode cX4_findMost 46 = .ok (.goto (-44), 3) := by decide +kernel
theorem dX4_findMost_49 : decode cX4_findMost 49 = .ok (.return_, 1) := by decide +kernel
theorem dX4_mostOf_0 : decode cX4_mostOf 0 = .ok (.iload_n 1, 1) := by decide +kernel
theorem dX4_mostOf_1 : decode cX4_mostOf 1 = .ok (.ifCond .lt 33, 3) := by decide +kernel
theorem dX4_mostOf_4 : decode cX4_mostOf 4 = .ok (.iload_n 1, 1) := by decide +kernel
theorem dX4_mostOf_5 : decode cX4_mostOf 5 = .ok (.bipush 12, 2) := by decide +kernel
theorem dX4_mostOf_7 : decode cX4_mostOf 7 = .ok (.if_icmp .gt 27, 3) := by decide +kernel
theorem dX4_mostOf_10 : decode cX4_mostOf 10 = .ok (.iload_n 2, 1) := by decide +kernel
theorem dX4_mostOf_11 : decode cX4_mostOf 11 = .ok (.ifCond .lt 23, 3) := by decide +kernel
theorem dX4_mostOf_14 : decode cX4_mostOf 14 = .ok (.iload_n 2, 1) := by decide +kernel
theorem dX4_mostOf_15 : decode cX4_mostOf 15 = .ok (.bipush 12, 2) := by decide +kernel
theorem dX4_mostOf_17 : decode cX4_mostOf 17 = .ok (.if_icmp .gt 17, 3) := by decide +kernel
theorem dX4_mostOf_20 : decode cX4_mostOf 20 = .ok (.aload_n 0, 1) := by decide +kernel
theorem dX4_mostOf_21 : decode cX4_mostOf 21 = .ok (.getfield 11, 3) := by decide +kernel
theorem dX4_mostOf_24 : decode cX4_mostOf 24 = .ok (.iload_n 1, 1) := by decide +kernel
theorem dX4_mostOf_25 : decode cX4_mostOf 25 = .ok (.bipush 13, 2) := by decide +kernel
theorem dX4_mostOf_27 : decode cX4_mostOf 27 = .ok (.imul, 1) := by decide +kernel
theorem dX4_mostOf_28 : decode cX4_mostOf 28 = .ok (.iload_n 2, 1) := by decide +kernel
theorem dX4_mostOf_29 : decode cX4_mostOf 29 = .ok (.iadd, 1) := by decide +kernel
theorem dX4_mostOf_30 : decode cX4_mostOf 30 = .ok (.iaload, 1) := by decide +kernel
theorem dX4_mostOf_31 : decode cX4_mostOf 31 = .ok (.goto 4, 3) := by decide +kernel
theorem dX4_mostOf_34 : decode cX4_mostOf 34 = .ok (.iconst 0, 1) := by decide +kernel
theorem dX4_mostOf_35 : decode cX4_mostOf 35 = .ok (.ireturn, 1) := by decide +kernel
set_option maxRecDepth 20000 in
theorem ggX4_mostIn_X4_fits : GoodIn wsX4_mostIn wsX4_fits := goodIn_r _ [10] (by decide +kernel) (by decide +kernel)
set_option maxRecDepth 20000 in
theorem gX4_mostIn_X4_fits : GoodIn wsX4_mostIn (va_wsS RX4 65 yX4_fits wsX4_fits) := goodIn_app (goodIn_of _ (by decide +kernel)) ggX4_mostIn_X4_fits
set_option maxRecDepth 20000 in
theorem ggX4_mostIn_X4_byUprightCut : GoodIn wsX4_mostIn wsX4_byUprightCut := goodIn_r _ [14, 15, 16, 17, 9, 18, 19, 33, 34, 35, 36, 37, 38, 39, 40, 41, 42, 43, 44] (by decide +kernel) (by decide +kernel)
set_option maxRecDepth 20000 in
theorem gX4_mostIn_X4_byUprightCut : GoodIn wsX4_mostIn (wsV RX4 69 RX4 yX4_byUprightCut wsX4_byUprightCut) := goodIn_app (goodIn_of _ (by decide +kernel)) ggX4_mostIn_X4_byUprightCut
set_option maxRecDepth 20000 in
theorem ggX4_mostIn_X4_byLevelCut : GoodIn wsX4_mostIn wsX4_byLevelCut := goodIn_r _ [23, 15, 16, 17, 9, 18, 19, 33, 34, 35, 36, 37, 38, 39, 40, 41, 42, 43, 44] (by decide +kernel) (by decide +kernel)
set_option maxRecDepth 20000 in
theorem gX4_mostIn_X4_byLevelCut : GoodIn wsX4_mostIn (wsV RX4 76 RX4 yX4_byLevelCut wsX4_byLevelCut) := goodIn_app (goodIn_of _ (by decide +kernel)) ggX4_mostIn_X4_byLevelCut
set_option maxRecDepth 20000 in
theorem ggX4_mostIn_X4_mostByPinwheel : GoodIn wsX4_mostIn wsX4_mostByPinwheel := goodIn_r _ [27, 28, 3, 4, 5, 6, 29, 30, 31, 9, 32, 15, 16, 17, 18, 19, 33, 34, 35, 36, 37, 38, 39, 40, 41, 42, 43, 44] (by decide +kernel) (by decide +kernel)
set_option maxRecDepth 20000 in
theorem gX4_mostIn_X4_mostByPinwheel : GoodIn wsX4_mostIn (wsV RX4 79 RX4 yX4_mostByPinwheel wsX4_mostByPinwheel) := goodIn_app (goodIn_of _ (by decide +kernel)) ggX4_mostIn_X4_mostByPinwheel
theorem dX4_mostIn_0 : decode cX4_mostIn 0 = .ok (.aload_n 0, 1) := by decide +kernel
theorem dX4_mostIn_1 : decode cX4_mostIn 1 = .ok (.getfield 31, 3) := by decide +kernel
theorem dX4_mostIn_4 : decode cX4_mostIn 4 = .ok (.aload_n 0, 1) := by decide +kernel
theorem dX4_mostIn_5 : decode cX4_mostIn 5 = .ok (.getfield 34, 3) := by decide +kernel
theorem dX4_mostIn_8 : decode cX4_mostIn 8 = .ok (.iload_n 1, 1) := by decide +kernel
theorem dX4_mostIn_9 : decode cX4_mostIn 9 = .ok (.iload_n 2, 1) := by decide +kernel
theorem dX4_mostIn_10 : decode cX4_mostIn 10 = .ok (.invokestatic 65, 3) := by decide +kernel
theorem dX4_mostIn_13 : decode cX4_mostIn 13 = .ok (.ifCond .ne 19, 3) := by decide +kernel
theorem dX4_mostIn_16 : decode cX4_mostIn 16 = .ok (.aload_n 0, 1) := by decide +kernel
theorem dX4_mostIn_17 : decode cX4_mostIn 17 = .ok (.getfield 34, 3) := by decide +kernel
theorem dX4_mostIn_20 : decode cX4_mostIn 20 = .ok (.aload_n 0, 1) := by decide +kernel
theorem dX4_mostIn_21 : decode cX4_mostIn 21 = .ok (.getfield 31, 3) := by decide +kernel
theorem dX4_mostIn_24 : decode cX4_mostIn 24 = .ok (.iload_n 1, 1) := by decide +kernel
theorem dX4_mostIn_25 : decode cX4_mostIn 25 = .ok (.iload_n 2, 1) := by decide +kernel
theorem dX4_mostIn_26 : decode cX4_mostIn 26 = .ok (.invokestatic 65, 3) := by decide +kernel
theorem dX4_mostIn_29 : decode cX4_mostIn 29 = .ok (.ifCond .eq 7, 3) := by decide +kernel
theorem dX4_mostIn_32 : decode cX4_mostIn 32 = .ok (.iconst 1, 1) := by decide +kernel
theorem dX4_mostIn_33 : decode cX4_mostIn 33 = .ok (.goto 4, 3) := by decide +kernel
theorem dX4_mostIn_36 : decode cX4_mostIn 36 = .ok (.iconst 0, 1) := by decide +kernel
theorem dX4_mostIn_37 : decode cX4_mostIn 37 = .ok (.istore_n 3, 1) := by decide +kernel
theorem dX4_mostIn_38 : decode cX4_mostIn 38 = .ok (.iconst 1, 1) := by decide +kernel
theorem dX4_mostIn_39 : decode cX4_mostIn 39 = .ok (.istore 4, 2) := by decide +kernel
theorem dX4_mostIn_41 : decode cX4_mostIn 41 = .ok (.iload 4, 2) := by decide +kernel
theorem dX4_mostIn_43 : decode cX4_mostIn 43 = .ok (.iload_n 1, 1) := by decide +kernel
theorem dX4_mostIn_44 : decode cX4_mostIn 44 = .ok (.if_icmp .ge 22, 3) := by decide +kernel
theorem dX4_mostIn_47 : decode cX4_mostIn 47 = .ok (.iload_n 3, 1) := by decide +kernel
theorem dX4_mostIn_48 : decode cX4_mostIn 48 = .ok (.aload_n 0, 1) := by decide +kernel
theorem dX4_mostIn_49 : decode cX4_mostIn 49 = .ok (.iload_n 1, 1) := by decide +kernel
theorem dX4_mostIn_50 : decode cX4_mostIn 50 = .ok (.iload_n 2, 1) := by decide +kernel
theorem dX4_mostIn_51 : decode cX4_mostIn 51 = .ok (.iload 4, 2) := by decide +kernel
theorem dX4_mostIn_53 : decode cX4_mostIn 53 = .ok (.invokevirtual 69, 3) := by decide +kernel
theorem dX4_mostIn_56 : decode cX4_mostIn 56 = .ok (.invokestatic 73, 3) := by decide +kernel
theorem dX4_mostIn_59 : decode cX4_mostIn 59 = .ok (.istore_n 3, 1) := by decide +kernel
theorem dX4_mostIn_60 : decode cX4_mostIn 60 = .ok (.iinc 4 1, 3) := by decide +kernel
theorem dX4_mostIn_63 : decode cX4_mostIn 63 = .ok (.goto (-22), 3) := by decide +kernel
theorem dX4_mostIn_66 : decode cX4_mostIn 66 = .ok (.iconst 1, 1) := by decide +kernel
theorem dX4_mostIn_67 : decode cX4_mostIn 67 = .ok (.istore 4, 2) := by decide +kernel
theorem dX4_mostIn_69 : decode cX4_mostIn 69 = .ok (.iload 4, 2) := by decide +kernel
theorem dX4_mostIn_71 : decode cX4_mostIn 71 = .ok (.iload_n 2, 1) := by decide +kernel
theorem dX4_mostIn_72 : decode cX4_mostIn 72 = .ok (.if_icmp .ge 22, 3) := by decide +kernel
theorem dX4_mostIn_75 : decode cX4_mostIn 75 = .ok (.iload_n 3, 1) := by decide +kernel
theorem dX4_mostIn_76 : decode cX4_mostIn 76 = .ok (.aload_n 0, 1) := by decide +kernel
theorem dX4_mostIn_77 : decode cX4_mostIn 77 = .ok (.iload_n 1, 1) := by decide +kernel
theorem dX4_mostIn_78 : decode cX4_mostIn 78 = .ok (.iload_n 2, 1) := by decide +kernel
theorem dX4_mostIn_79 : decode cX4_mostIn 79 = .ok (.iload 4, 2) := by decide +kernel
theorem dX4_mostIn_81 : decode cX4_mostIn 81 = .ok (.invokevirtual 76, 3) := by decide +kernel
theorem dX4_mostIn_84 : decode cX4_mostIn 84 = .ok (.invokestatic 73, 3) := by decide +kernel
theorem dX4_mostIn_87 : decode cX4_mostIn 87 = .ok (.istore_n 3, 1) := by decide +kernel
theorem dX4_mostIn_88 : decode cX4_mostIn 88 = .ok (.iinc 4 1, 3) := by decide +kernel
theorem dX4_mostIn_91 : decode cX4_mostIn 91 = .ok (.goto (-22), 3) := by decide +kernel
theorem dX4_mostIn_94 : decode cX4_mostIn 94 = .ok (.iload_n 3, 1) := by decide +kernel
theorem dX4_mostIn_95 : decode cX4_mostIn 95 = .ok (.iconst 1, 1) := by decide +kernel
theorem dX4_mostIn_96 : decode cX4_mostIn 96 = .ok (.iadd, 1) := by decide +kernel
theorem dX4_mostIn_97 : decode cX4_mostIn 97 = .ok (.aload_n 0, 1) := by decide +kernel
theorem dX4_mostIn_98 : decode cX4_mostIn 98 = .ok (.getfield 31, 3) := by decide +kernel
theorem dX4_mostIn_101 : decode cX4_mostIn 101 = .ok (.imul, 1) := by decide +kernel
theorem dX4_mostIn_102 : decode cX4_mostIn 102 = .ok (.aload_n 0, 1) := by decide +kernel
theorem dX4_mostIn_103 : decode cX4_mostIn 103 = .ok (.getfield 34, 3) := by decide +kernel
theorem dX4_mostIn_106 : decode cX4_mostIn 106 = .ok (.imul, 1) := by decide +kernel
theorem dX4_mostIn_107 : decode cX4_mostIn 107 = .ok (.iload_n 1, 1) := by decide +kernel
theorem dX4_mostIn_108 : decode cX4_mostIn 108 = .ok (.iload_n 2, 1) := by decide +kernel
theorem dX4_mostIn_109 : decode cX4_mostIn 109 = .ok (.imul, 1) := by decide +kernel
theorem dX4_mostIn_110 : decode cX4_mostIn 110 = .ok (.if_icmp .le 5, 3) := by decide +kernel
theorem dX4_mostIn_113 : decode cX4_mostIn 113 = .ok (.iload_n 3, 1) := by decide +kernel
theorem dX4_mostIn_114 : decode cX4_mostIn 114 = .ok (.ireturn, 1) := by decide +kernel
theorem dX4_mostIn_115 : decode cX4_mostIn 115 = .ok (.iload_n 3, 1) := by decide +kernel
theorem dX4_mostIn_116 : decode cX4_mostIn 116 = .ok (.aload_n 0, 1) := by decide +kernel
theorem dX4_mostIn_117 : decode cX4_mostIn 117 = .ok (.iload_n 1, 1) := by decide +kernel
theorem dX4_mostIn_118 : decode cX4_mostIn 118 = .ok (.iload_n 2, 1) := by decide +kernel
theorem dX4_mostIn_119 : decode cX4_mostIn 119 = .ok (.invokevirtual 79, 3) := by decide +kernel
theorem dX4_mostIn_122 : decode cX4_mostIn 122 = .ok (.invokestatic 73, 3) := by decide +kernel
theorem dX4_mostIn_125 : decode cX4_mostIn 125 = .ok (.ireturn, 1) := by decide +kernel
theorem dX4_fits_0 : decode cX4_fits 0 = .ok (.iload_n 0, 1) := by decide +kernel
theorem dX4_fits_1 : decode cX4_fits 1 = .ok (.iload_n 2, 1) := by decide +kernel
theorem dX4_fits_2 : decode cX4_fits 2 = .ok (.if_icmp .gt 12, 3) := by decide +kernel
theorem dX4_fits_5 : decode cX4_fits 5 = .ok (.iload_n 1, 1) := by decide +kernel
theorem dX4_fits_6 : decode cX4_fits 6 = .ok (.iload_n 3, 1) := by decide +kernel
theorem dX4_fits_7 : decode cX4_fits 7 = .ok (.if_icmp .gt 7, 3) := by decide +kernel
theorem dX4_fits_10 : decode cX4_fits 10 = .ok (.iconst 1, 1) := by decide +kernel
theorem dX4_fits_11 : decode cX4_fits 11 = .ok (.goto 4, 3) := by decide +kernel
theorem dX4_fits_14 : decode cX4_fits 14 = .ok (.iconst 0, 1) := by decide +kernel
theorem dX4_fits_15 : decode cX4_fits 15 = .ok (.ireturn, 1) := by decide +kernel
set_option maxRecDepth 20000 in
theorem ggX4_byUprightCut_X4_mostOf : GoodIn wsX4_byUprightCut wsX4_mostOf := goodIn_r _ [5, 6, 7, 8, 9, 10, 11, 12, 13, 14, 15, 16, 17, 18] (by decide +kernel) (by decide +kernel)
set_option maxRecDepth 20000 in
theorem gX4_byUprightCut_X4_mostOf : GoodIn wsX4_byUprightCut (wsV RX4 56 RX4 yX4_mostOf wsX4_mostOf) := goodIn_app (goodIn_of _ (by decide +kernel)) ggX4_byUprightCut_X4_mostOf
theorem dX4_byUprightCut_0 : decode cX4_byUprightCut 0 = .ok (.aload_n 0, 1) := by decide +kernel
theorem dX4_byUprightCut_1 : decode cX4_byUprightCut 1 = .ok (.iload_n 3, 1) := by decide +kernel
theorem dX4_byUprightCut_2 : decode cX4_byUprightCut 2 = .ok (.iload_n 2, 1) := by decide +kernel
theorem dX4_byUprightCut_3 : decode cX4_byUprightCut 3 = .ok (.invokevirtual 56, 3) := by decide +kernel
theorem dX4_byUprightCut_6 : decode cX4_byUprightCut 6 = .ok (.aload_n 0, 1) := by decide +kernel
theorem dX4_byUprightCut_7 : decode cX4_byUprightCut 7 = .ok (.iload_n 1, 1) := by decide +kernel
theorem dX4_byUprightCut_8 : decode cX4_byUprightCut 8 = .ok (.iload_n 3, 1) := by decide +kernel
theorem dX4_byUprightCut_9 : decode cX4_byUprightCut 9 = .ok (.isub, 1) := by decide +kernel
theorem dX4_byUprightCut_10 : decode cX4_byUprightCut 10 = .ok (.iload_n 2, 1) := by decide +kernel
theorem dX4_byUprightCut_11 : decode cX4_byUprightCut 11 = .ok (.invokevirtual 56, 3) := by decide +kernel
theorem dX4_byUprightCut_14 : decode cX4_byUprightCut 14 = .ok (.iadd, 1) := by decide +kernel
theorem dX4_byUprightCut_15 : decode cX4_byUprightCut 15 = .ok (.ireturn, 1) := by decide +kernel
set_option maxRecDepth 20000 in
theorem ggX4_byLevelCut_X4_mostOf : GoodIn wsX4_byLevelCut wsX4_mostOf := goodIn_r _ [5, 6, 7, 8, 9, 10, 11, 12, 13, 14, 15, 16, 17, 18] (by decide +kernel) (by decide +kernel)
set_option maxRecDepth 20000 in
theorem gX4_byLevelCut_X4_mostOf : GoodIn wsX4_byLevelCut (wsV RX4 56 RX4 yX4_mostOf wsX4_mostOf) := goodIn_app (goodIn_of _ (by decide +kernel)) ggX4_byLevelCut_X4_mostOf
theorem dX4_byLevelCut_0 : decode cX4_byLevelCut 0 = .ok (.aload_n 0, 1) := by decide +kernel
theorem dX4_byLevelCut_1 : decode cX4_byLevelCut 1 = .ok (.iload_n 1, 1) := by decide +kernel
theorem dX4_byLevelCut_2 : decode cX4_byLevelCut 2 = .ok (.iload_n 3, 1) := by decide +kernel
theorem dX4_byLevelCut_3 : decode cX4_byLevelCut 3 = .ok (.invokevirtual 56, 3) := by decide +kernel
theorem dX4_byLevelCut_6 : decode cX4_byLevelCut 6 = .ok (.aload_n 0, 1) := by decide +kernel
theorem dX4_byLevelCut_7 : decode cX4_byLevelCut 7 = .ok (.iload_n 1, 1) := by decide +kernel
theorem dX4_byLevelCut_8 : decode cX4_byLevelCut 8 = .ok (.iload_n 2, 1) := by decide +kernel
theorem dX4_byLevelCut_9 : decode cX4_byLevelCut 9 = .ok (.iload_n 3, 1) := by decide +kernel
theorem dX4_byLevelCut_10 : decode cX4_byLevelCut 10 = .ok (.isub, 1) := by decide +kernel
theorem dX4_byLevelCut_11 : decode cX4_byLevelCut 11 = .ok (.invokevirtual 56, 3) := by decide +kernel
theorem dX4_byLevelCut_14 : decode cX4_byLevelCut 14 = .ok (.iadd, 1) := by decide +kernel
theorem dX4_byLevelCut_15 : decode cX4_byLevelCut 15 = .ok (.ireturn, 1) := by decide +kernel
set_option maxRecDepth 20000 in
theorem ggX4_byPinwheel_X4_mostOf : GoodIn wsX4_byPinwheel wsX4_mostOf := goodIn_r _ [5, 6, 7, 8, 9, 10, 11, 12, 13, 14, 15, 16, 17, 18] (by decide +kernel) (by decide +kernel)
set_option maxRecDepth 20000 in
theorem gX4_byPinwheel_X4_mostOf : GoodIn wsX4_byPinwheel (wsV RX4 56 RX4 yX4_mostOf wsX4_mostOf) := goodIn_app (goodIn_of _ (by decide +kernel)) ggX4_byPinwheel_X4_mostOf
theorem dX4_byPinwheel_0 : decode cX4_byPinwheel 0 = .ok (.aload_n 0, 1) := by decide +kernel
theorem dX4_byPinwheel_1 : decode cX4_byPinwheel 1 = .ok (.iload_n 3, 1) := by decide +kernel
theorem dX4_byPinwheel_2 : decode cX4_byPinwheel 2 = .ok (.iload 6, 2) := by decide +kernel
theorem dX4_byPinwheel_4 : decode cX4_byPinwheel 4 = .ok (.invokevirtual 56, 3) := by decide +kernel
theorem dX4_byPinwheel_7 : decode cX4_byPinwheel 7 = .ok (.aload_n 0, 1) := by decide +kernel
theorem dX4_byPinwheel_8 : decode cX4_byPinwheel 8 = .ok (.iload_n 1, 1) := by decide +kernel
theorem dX4_byPinwheel_9 : decode cX4_byPinwheel 9 = .ok (.iload_n 3, 1) := by decide +kernel
theorem dX4_byPinwheel_10 : decode cX4_byPinwheel 10 = .ok (.isub, 1) := by decide +kernel
theorem dX4_byPinwheel_11 : decode cX4_byPinwheel 11 = .ok (.iload 5, 2) := by decide +kernel
theorem dX4_byPinwheel_13 : decode cX4_byPinwheel 13 = .ok (.invokevirtual 56, 3) := by decide +kernel
theorem dX4_byPinwheel_16 : decode cX4_byPinwheel 16 = .ok (.iadd, 1) := by decide +kernel
theorem dX4_byPinwheel_17 : decode cX4_byPinwheel 17 = .ok (.aload_n 0, 1) := by decide +kernel
theorem dX4_byPinwheel_18 : decode cX4_byPinwheel 18 = .ok (.iload_n 1, 1) := by decide +kernel
theorem dX4_byPinwheel_19 : decode cX4_byPinwheel 19 = .ok (.iload 4, 2) := by decide +kernel
theorem dX4_byPinwheel_21 : decode cX4_byPinwheel 21 = .ok (.isub, 1) := by decide +kernel
theorem dX4_byPinwheel_22 : decode cX4_byPinwheel 22 = .ok (.iload_n 2, 1) := by decide +kernel
theorem dX4_byPinwheel_23 : decode cX4_byPinwheel 23 = .ok (.iload 5, 2) := by decide +kernel
theorem dX4_byPinwheel_25 : decode cX4_byPinwheel 25 = .ok (.isub, 1) := by decide +kernel
theorem dX4_byPinwheel_26 : decode cX4_byPinwheel 26 = .ok (.invokevirtual 56, 3) := by decide +kernel
theorem dX4_byPinwheel_29 : decode cX4_byPinwheel 29 = .ok (.iadd, 1) := by decide +kernel
theorem dX4_byPinwheel_30 : decode cX4_byPinwheel 30 = .ok (.aload_n 0, 1) := by decide +kernel
theorem dX4_byPinwheel_31 : decode cX4_byPinwheel 31 = .ok (.iload 4, 2) := by decide +kernel
theorem dX4_byPinwheel_33 : decode cX4_byPinwheel 33 = .ok (.iload_n 2, 1) := by decide +kernel
theorem dX4_byPinwheel_34 : decode cX4_byPinwheel 34 = .ok (.iload 6, 2) := by decide +kernel
theorem dX4_byPinwheel_36 : decode cX4_byPinwheel 36 = .ok (.isub, 1) := by decide +kernel
theorem dX4_byPinwheel_37 : decode cX4_byPinwheel 37 = .ok (.invokevirtual 56, 3) := by decide +kernel
theorem dX4_byPinwheel_40 : decode cX4_byPinwheel 40 = .ok (.iadd, 1) := by decide +kernel
theorem dX4_byPinwheel_41 : decode cX4_byPinwheel 41 = .ok (.aload_n 0, 1) := by decide +kernel
theorem dX4_byPinwheel_42 : decode cX4_byPinwheel 42 = .ok (.iload 4, 2) := by decide +kernel
theorem dX4_byPinwheel_44 : decode cX4_byPinwheel 44 = .ok (.iload_n 3, 1) := by decide +kernel
theorem dX4_byPinwheel_45 : decode cX4_byPinwheel 45 = .ok (.isub, 1) := by decide +kernel
theorem dX4_byPinwheel_46 : decode cX4_byPinwheel 46 = .ok (.iload 6, 2) := by decide +kernel
theorem dX4_byPinwheel_48 : decode cX4_byPinwheel 48 = .ok (.iload 5, 2) := by decide +kernel
theorem dX4_byPinwheel_50 : decode cX4_byPinwheel 50 = .ok (.isub, 1) := by decide +kernel
theorem dX4_byPinwheel_51 : decode cX4_byPinwheel 51 = .ok (.invokevirtual 56, 3) := by decide +kernel
theorem dX4_byPinwheel_54 : decode cX4_byPinwheel 54 = .ok (.iadd, 1) := by decide +kernel
theorem dX4_byPinwheel_55 : decode cX4_byPinwheel 55 = .ok (.ireturn, 1) := by decide +kernel
set_option maxRecDepth 20000 in
theorem ggX4_mostByPinwheel_X4_byPinwheel : GoodIn wsX4_mostByPinwheel wsX4_byPinwheel := goodIn_r _ [10, 11, 12, 13, 9, 14, 15, 16, 17, 18, 19, 20, 21, 22, 23, 24, 25, 26, 27] (by decide +kernel) (by decide +kernel)
set_option maxRecDepth 20000 in
theorem gX4_mostByPinwheel_X4_byPinwheel : GoodIn wsX4_mostByPinwheel (wsV RX4 82 RX4 yX4_byPinwheel wsX4_byPinwheel) := goodIn_app (goodIn_of _ (by decide +kernel)) ggX4_mostByPinwheel_X4_byPinwheel
theorem dX4_mostByPinwheel_0 : decode cX4_mostByPinwheel 0 = .ok (.iconst 0, 1) := by decide +kernel
theorem dX4_mostByPinwheel_1 : decode cX4_mostByPinwheel 1 = .ok (.istore_n 3, 1) := by decide +kernel
theorem dX4_mostByPinwheel_2 : decode cX4_mostByPinwheel 2 = .ok (.aload_n 0, 1) := by decide +kernel
theorem dX4_mostByPinwheel_3 : decode cX4_mostByPinwheel 3 = .ok (.getfield 43, 3) := by decide +kernel
theorem dX4_mostByPinwheel_6 : decode cX4_mostByPinwheel 6 = .ok (.istore 4, 2) := by decide +kernel
theorem dX4_mostByPinwheel_8 : decode cX4_mostByPinwheel 8 = .ok (.iload 4, 2) := by decide +kernel
theorem dX4_mostByPinwheel_10 : decode cX4_mostByPinwheel 10 = .ok (.iload_n 1, 1) := by decide +kernel
theorem dX4_mostByPinwheel_11 : decode cX4_mostByPinwheel 11 = .ok (.aload_n 0, 1) := by decide +kernel
theorem dX4_mostByPinwheel_12 : decode cX4_mostByPinwheel 12 = .ok (.getfield 43, 3) := by decide +kernel
theorem dX4_mostByPinwheel_15 : decode cX4_mostByPinwheel 15 = .ok (.isub, 1) := by decide +kernel
theorem dX4_mostByPinwheel_16 : decode cX4_mostByPinwheel 16 = .ok (.if_icmp .ge 97, 3) := by decide +kernel
theorem dX4_mostByPinwheel_19 : decode cX4_mostByPinwheel 19 = .ok (.iload 4, 2) := by decide +kernel
theorem dX4_mostByPinwheel_21 : decode cX4_mostByPinwheel 21 = .ok (.iconst 1, 1) := by decide +kernel
theorem dX4_mostByPinwheel_22 : decode cX4_mostByPinwheel 22 = .ok (.iadd, 1) := by decide +kernel
theorem dX4_mostByPinwheel_23 : decode cX4_mostByPinwheel 23 = .ok (.istore 5, 2) := by decide +kernel
theorem dX4_mostByPinwheel_25 : decode cX4_mostByPinwheel 25 = .ok (.iload 5, 2) := by decide +kernel
theorem dX4_mostByPinwheel_27 : decode cX4_mostByPinwheel 27 = .ok (.iload_n 1, 1) := by decide +kernel
theorem dX4_mostByPinwheel_28 : decode cX4_mostByPinwheel 28 = .ok (.aload_n 0, 1) := by decide +kernel
theorem dX4_mostByPinwheel_29 : decode cX4_mostByPinwheel 29 = .ok (.getfield 43, 3) := by decide +kernel
theorem dX4_mostByPinwheel_32 : decode cX4_mostByPinwheel 32 = .ok (.isub, 1) := by decide +kernel
theorem dX4_mostByPinwheel_33 : decode cX4_mostByPinwheel 33 = .ok (.if_icmp .gt 74, 3) := by decide +kernel
theorem dX4_mostByPinwheel_36 : decode cX4_mostByPinwheel 36 = .ok (.aload_n 0, 1) := by decide +kernel
theorem dX4_mostByPinwheel_37 : decode cX4_mostByPinwheel 37 = .ok (.getfield 43, 3) := by decide +kernel
theorem dX4_mostByPinwheel_40 : decode cX4_mostByPinwheel 40 = .ok (.istore 6, 2) := by decide +kernel
theorem dX4_mostByPinwheel_42 : decode cX4_mostByPinwheel 42 = .ok (.iload 6, 2) := by decide +kernel
theorem dX4_mostByPinwheel_44 : decode cX4_mostByPinwheel 44 = .ok (.iload_n 2, 1) := by decide +kernel
theorem dX4_mostByPinwheel_45 : decode cX4_mostByPinwheel 45 = .ok (.aload_n 0, 1) := by decide +kernel
theorem dX4_mostByPinwheel_46 : decode cX4_mostByPinwheel 46 = .ok (.getfield 43, 3) := by decide +kernel
theorem dX4_mostByPinwheel_49 : decode cX4_mostByPinwheel 49 = .ok (.isub, 1) := by decide +kernel
theorem dX4_mostByPinwheel_50 : decode cX4_mostByPinwheel 50 = .ok (.if_icmp .ge 51, 3) := by decide +kernel
theorem dX4_mostByPinwheel_53 : decode cX4_mostByPinwheel 53 = .ok (.iload 6, 2) := by decide +kernel
theorem dX4_mostByPinwheel_55 : decode cX4_mostByPinwheel 55 = .ok (.iconst 1, 1) := by decide +kernel
theorem dX4_mostByPinwheel_56 : decode cX4_mostByPinwheel 56 = .ok (.iadd, 1) := by decide +kernel
theorem dX4_mostByPinwheel_57 : decode cX4_mostByPinwheel 57 = .ok (.istore 7, 2) := by decide +kernel
theorem dX4_mostByPinwheel_59 : decode cX4_mostByPinwheel 59 = .ok (.iload 7, 2) := by decide +kernel
theorem dX4_mostByPinwheel_61 : decode cX4_mostByPinwheel 61 = .ok (.iload_n 2, 1) := by decide +kernel
theorem dX4_mostByPinwheel_62 : decode cX4_mostByPinwheel 62 = .ok (.aload_n 0, 1) := by decide +kernel
theorem dX4_mostByPinwheel_63 : decode cX4_mostByPinwheel 63 = .ok (.getfield 43, 3) := by decide +kernel
theorem dX4_mostByPinwheel_66 : decode cX4_mostByPinwheel 66 = .ok (.isub, 1) := by decide +kernel
theorem dX4_mostByPinwheel_67 : decode cX4_mostByPinwheel 67 = .ok (.if_icmp .gt 28, 3) := by decide +kernel
theorem dX4_mostByPinwheel_70 : decode cX4_mostByPinwheel 70 = .ok (.iload_n 3, 1) := by decide +kernel
theorem dX4_mostByPinwheel_71 : decode cX4_mostByPinwheel 71 = .ok (.aload_n 0, 1) := by decide +kernel
theorem dX4_mostByPinwheel_72 : decode cX4_mostByPinwheel 72 = .ok (.iload_n 1, 1) := by decide +kernel
theorem dX4_mostByPinwheel_73 : decode cX4_mostByPinwheel 73 = .ok (.iload_n 2, 1) := by decide +kernel
theorem dX4_mostByPinwheel_74 : decode cX4_mostByPinwheel 74 = .ok (.iload 4, 2) := by decide +kernel
theorem dX4_mostByPinwheel_76 : decode cX4_mostByPinwheel 76 = .ok (.iload 5, 2) := by decide +kernel
theorem dX4_mostByPinwheel_78 : decode cX4_mostByPinwheel 78 = .ok (.iload 6, 2) := by decide +kernel
theorem dX4_mostByPinwheel_80 : decode cX4_mostByPinwheel 80 = .ok (.iload 7, 2) := by decide +kernel
theorem dX4_mostByPinwheel_82 : decode cX4_mostByPinwheel 82 = .ok (.invokevirtual 82, 3) := by decide +kernel
theorem dX4_mostByPinwheel_85 : decode cX4_mostByPinwheel 85 = .ok (.invokestatic 73, 3) := by decide +kernel
theorem dX4_mostByPinwheel_88 : decode cX4_mostByPinwheel 88 = .ok (.istore_n 3, 1) := by decide +kernel
theorem dX4_mostByPinwheel_89 : decode cX4_mostByPinwheel 89 = .ok (.iinc 7 1, 3) := by decide +kernel
theorem dX4_mostByPinwheel_92 : decode cX4_mostByPinwheel 92 = .ok (.goto (-33), 3) := by decide +kernel
theorem dX4_mostByPinwheel_95 : decode cX4_mostByPinwheel 95 = .ok (.iinc 6 1, 3) := by decide +kernel
theorem dX4_mostByPinwheel_98 : decode cX4_mostByPinwheel 98 = .ok (.goto (-56), 3) := by decide +kernel
theorem dX4_mostByPinwheel_101 : decode cX4_mostByPinwheel 101 = .ok (.iinc 5 1, 3) := by decide +kernel
theorem dX4_mostByPinwheel_104 : decode cX4_mostByPinwheel 104 = .ok (.goto (-79), 3) := by decide +kernel
theorem dX4_mostByPinwheel_107 : decode cX4_mostByPinwheel 107 = .ok (.iinc 4 1, 3) := by decide +kernel
theorem dX4_mostByPinwheel_110 : decode cX4_mostByPinwheel 110 = .ok (.goto (-102), 3) := by decide +kernel
theorem dX4_mostByPinwheel_113 : decode cX4_mostByPinwheel 113 = .ok (.iload_n 3, 1) := by decide +kernel
theorem dX4_mostByPinwheel_114 : decode cX4_mostByPinwheel 114 = .ok (.ireturn, 1) := by decide +kernel
set_option maxRecDepth 20000 in
theorem ggX4_layCases_X4_putPart : GoodIn wsX4_layCases wsX4_putPart := goodIn_r _ [10, 2, 5, 55, 56, 57, 58, 59, 60, 61, 62, 63, 64, 65, 66] (by decide +kernel) (by decide +kernel)
set_option maxRecDepth 20000 in
theorem gX4_layCases_X4_putPart : GoodIn wsX4_layCases (wsV RX4 89 RX4 yX4_putPart wsX4_putPart) := goodIn_app (goodIn_of _ (by decide +kernel)) ggX4_layCases_X4_putPart
set_option maxRecDepth 20000 in
theorem ggX4_layCases_X4_layPart : GoodIn wsX4_layCases wsX4_layPart := goodIn_r _ [14, 15, 16, 17, 18, 19, 9, 20, 21, 22, 23, 24, 25, 26, 27, 28, 1, 29, 30, 31, 32, 33, 34, 35, 36, 37, 6, 7, 8, 10, 2, 5, 38, 39, 40, 41, 42, 43, 44, 45, 46, 47, 48, 49, 50, 51, 52, 53, 54, 55, 56, 57, 58, 59, 60, 61, 62, 63, 64, 65, 66] (by decide +kernel) (by decide +kernel)
set_option maxRecDepth 20000 in
theorem gX4_layCases_X4_layPart : GoodIn wsX4_layCases (wsV RX4 93 RX4 yX4_layPart wsX4_layPart) := goodIn_app (goodIn_of _ (by decide +kernel)) ggX4_layCases_X4_layPart
theorem dX4_layCases_0 : decode cX4_layCases 0 = .ok (.aload_n 0, 1) := by decide +kernel
theorem dX4_layCases_1 : decode cX4_layCases 1 = .ok (.iconst 0, 1) := by decide +kernel
theorem dX4_layCases_2 : decode cX4_layCases 2 = .ok (.putfield 59, 3) := by decide +kernel
theorem dX4_layCases_5 : decode cX4_layCases 5 = .ok (.aload_n 0, 1) := by decide +kernel
theorem dX4_layCases_6 : decode cX4_layCases 6 = .ok (.iconst 0, 1) := by decide +kernel
theorem dX4_layCases_7 : decode cX4_layCases 7 = .ok (.putfield 86, 3) := by decide +kernel
theorem dX4_layCases_10 : decode cX4_layCases 10 = .ok (.aload_n 0, 1) := by decide +kernel
theorem dX4_layCases_11 : decode cX4_layCases 11 = .ok (.iconst 0, 1) := by decide +kernel
theorem dX4_layCases_12 : decode cX4_layCases 12 = .ok (.iconst 0, 1) := by decide +kernel
theorem dX4_layCases_13 : decode cX4_layCases 13 = .ok (.aload_n 0, 1) := by decide +kernel
theorem dX4_layCases_14 : decode cX4_layCases 14 = .ok (.getfield 24, 3) := by decide +kernel
theorem dX4_layCases_17 : decode cX4_layCases 17 = .ok (.aload_n 0, 1) := by decide +kernel
theorem dX4_layCases_18 : decode cX4_layCases 18 = .ok (.getfield 28, 3) := by decide +kernel
theorem dX4_layCases_21 : decode cX4_layCases 21 = .ok (.invokevirtual 89, 3) := by decide +kernel
theorem dX4_layCases_24 : decode cX4_layCases 24 = .ok (.iconst 0, 1) := by decide +kernel
theorem dX4_layCases_25 : decode cX4_layCases 25 = .ok (.istore_n 1, 1) := by decide +kernel
theorem dX4_layCases_26 : decode cX4_layCases 26 = .ok (.iload_n 1, 1) := by decide +kernel
theorem dX4_layCases_27 : decode cX4_layCases 27 = .ok (.sipush 288, 3) := by decide +kernel
theorem dX4_layCases_30 : decode cX4_layCases 30 = .ok (.if_icmp .ge 67, 3) := by decide +kernel
theorem dX4_layCases_33 : decode cX4_layCases 33 = .ok (.aload_n 0, 1) := by decide +kernel
theorem dX4_layCases_34 : decode cX4_layCases 34 = .ok (.getfield 86, 3) := by decide +kernel
theorem dX4_layCases_37 : decode cX4_layCases 37 = .ok (.ifCond .le 60, 3) := by decide +kernel
theorem dX4_layCases_40 : decode cX4_layCases 40 = .ok (.aload_n 0, 1) := by decide +kernel
theorem dX4_layCases_41 : decode cX4_layCases 41 = .ok (.dup, 1) := by decide +kernel
theorem dX4_layCases_42 : decode cX4_layCases 42 = .ok (.getfield 86, 3) := by decide +kernel
theorem dX4_layCases_45 : decode cX4_layCases 45 = .ok (.iconst 1, 1) := by decide +kernel
theorem dX4_layCases_46 : decode cX4_layCases 46 = .ok (.isub, 1) := by decide +kernel
theorem dX4_layCases_47 : decode cX4_layCases 47 = .ok (.putfield 86, 3) := by decide +kernel
theorem dX4_layCases_50 : decode cX4_layCases 50 = .ok (.iconst 4, 1) := by decide +kernel
theorem dX4_layCases_51 : decode cX4_layCases 51 = .ok (.aload_n 0, 1) := by decide +kernel
theorem dX4_layCases_52 : decode cX4_layCases 52 = .ok (.getfield 86, 3) := by decide +kernel
theorem dX4_layCases_55 : decode cX4_layCases 55 = .ok (.imul, 1) := by decide +kernel
theorem dX4_layCases_56 : decode cX4_layCases 56 = .ok (.istore_n 2, 1) := by decide +kernel
theorem dX4_layCases_57 : decode cX4_layCases 57 = .ok (.aload_n 0, 1) := by decide +kernel
theorem dX4_layCases_58 : decode cX4_layCases 58 = .ok (.aload_n 0, 1) := by decide +kernel
theorem dX4_layCases_59 : decode cX4_layCases 59 = .ok (.getfield 18, 3) := by decide +kernel
theorem dX4_layCases_62 : decode cX4_layCases 62 = .ok (.iload_n 2, 1) := by decide +kernel
theorem dX4_layCases_63 : decode cX4_layCases 63 = .ok (.iaload, 1) := by decide +kernel
theorem dX4_layCases_64 : decode cX4_layCases 64 = .ok (.aload_n 0, 1) := by decide +kernel
theorem dX4_layCases_65 : decode cX4_layCases 65 = .ok (.getfield 18, 3) := by decide +kernel
theorem dX4_layCases_68 : decode cX4_layCases 68 = .ok (.iload_n 2, 1) := by decide +kernel
theorem dX4_layCases_69 : decode cX4_layCases 69 = .ok (.iconst 1, 1) := by decide +kernel
theorem dX4_layCases_70 : decode cX4_layCases 70 = .ok (.iadd, 1) := by decide +kernel
theorem dX4_layCases_71 : decode cX4_layCases 71 = .ok (.iaload, 1) := by decide +kernel
theorem dX4_layCases_72 : decode cX4_layCases 72 = .ok (.aload_n 0, 1) := by decide +kernel
theorem dX4_layCases_73 : decode cX4_layCases 73 = .ok (.getfield 18, 3) := by decide +kernel
theorem dX4_layCases_76 : decode cX4_layCases 76 = .ok (.iload_n 2, 1) := by decide +kernel
theorem dX4_layCases_77 : decode cX4_layCases 77 = .ok (.iconst 2, 1) := by decide +kernel
theorem dX4_layCases_78 : decode cX4_layCases 78 = .ok (.iadd, 1) := by decide +kernel
theorem dX4_layCases_79 : decode cX4_layCases 79 = .ok (.iaload, 1) := by decide +kernel
theorem dX4_layCases_80 : decode cX4_layCases 80 = .ok (.aload_n 0, 1) := by decide +kernel
theorem dX4_layCases_81 : decode cX4_layCases 81 = .ok (.getfield 18, 3) := by decide +kernel
theorem dX4_layCases_84 : decode cX4_layCases 84 = .ok (.iload_n 2, 1) := by decide +kernel
theorem dX4_layCases_85 : decode cX4_layCases 85 = .ok (.iconst 3, 1) := by decide +kernel
theorem dX4_layCases_86 : decode cX4_layCases 86 = .ok (.iadd, 1) := by decide +kernel
theorem dX4_layCases_87 : decode cX4_layCases 87 = .ok (.iaload, 1) := by decide +kernel
theorem dX4_layCases_88 : decode cX4_layCases 88 = .ok (.invokevirtual 93, 3) := by decide +kernel
theorem dX4_layCases_91 : decode cX4_layCases 91 = .ok (.iinc 1 1, 3) := by decide +kernel
theorem dX4_layCases_94 : decode cX4_layCases 94 = .ok (.goto (-68), 3) := by decide +kernel
theorem dX4_layCases_97 : decode cX4_layCases 97 = .ok (.return_, 1) := by decide +kernel
theorem dX4_putPart_0 : decode cX4_putPart 0 = .ok (.aload_n 0, 1) := by decide +kernel
theorem dX4_putPart_1 : decode cX4_putPart 1 = .ok (.getfield 86, 3) := by decide +kernel
theorem dX4_putPart_4 : decode cX4_putPart 4 = .ok (.sipush 144, 3) := by decide +kernel
theorem dX4_putPart_7 : decode cX4_putPart 7 = .ok (.if_icmp .lt 4, 3) := by decide +kernel
theorem dX4_putPart_10 : decode cX4_putPart 10 = .ok (.return_, 1) := by decide +kernel
theorem dX4_putPart_11 : decode cX4_putPart 11 = .ok (.iconst 4, 1) := by decide +kernel
theorem dX4_putPart_12 : decode cX4_putPart 12 = .ok (.aload_n 0, 1) := by decide +kernel
theorem dX4_putPart_13 : decode cX4_putPart 13 = .ok (.getfield 86, 3) := by decide +kernel
theorem dX4_putPart_16 : decode cX4_putPart 16 = .ok (.imul, 1) := by decide +kernel
theorem dX4_putPart_17 : decode cX4_putPart 17 = .ok (.istore 5, 2) := by decide +kernel
theorem dX4_putPart_19 : decode cX4_putPart 19 = .ok (.aload_n 0, 1) := by decide +kernel
theorem dX4_putPart_20 : decode cX4_putPart 20 = .ok (.getfield 18, 3) := by decide +kernel
theorem dX4_putPart_23 : decode cX4_putPart 23 = .ok (.iload 5, 2) := by decide +kernel
theorem dX4_putPart_25 : decode cX4_putPart 25 = .ok (.iload_n 1, 1) := by decide +kernel
theorem dX4_putPart_26 : decode cX4_putPart 26 = .ok (.iastore, 1) := by decide +kernel
theorem dX4_putPart_27 : decode cX4_putPart 27 = .ok (.aload_n 0, 1) := by decide +kernel
theorem dX4_putPart_28 : decode cX4_putPart 28 = .ok (.getfield 18, 3) := by decide +kernel
theorem dX4_putPart_31 : decode cX4_putPart 31 = .ok (.iload 5, 2) := by decide +kernel
theorem dX4_putPart_33 : decode cX4_putPart 33 = .ok (.iconst 1, 1) := by decide +kernel
theorem dX4_putPart_34 : decode cX4_putPart 34 = .ok (.iadd, 1) := by decide +kernel
theorem dX4_putPart_35 : decode cX4_putPart 35 = .ok (.iload_n 2, 1) := by decide +kernel
theorem dX4_putPart_36 : decode cX4_putPart 36 = .ok (.iastore, 1) := by decide +kernel
theorem dX4_putPart_37 : decode cX4_putPart 37 = .ok (.aload_n 0, 1) := by decide +kernel
theorem dX4_putPart_38 : decode cX4_putPart 38 = .ok (.getfield 18, 3) := by decide +kernel
theorem dX4_putPart_41 : decode cX4_putPart 41 = .ok (.iload 5, 2) := by decide +kernel
theorem dX4_putPart_43 : decode cX4_putPart 43 = .ok (.iconst 2, 1) := by decide +kernel
theorem dX4_putPart_44 : decode cX4_putPart 44 = .ok (.iadd, 1) := by decide +kernel
theorem dX4_putPart_45 : decode cX4_putPart 45 = .ok (.iload_n 3, 1) := by decide +kernel
theorem dX4_putPart_46 : decode cX4_putPart 46 = .ok (.iastore, 1) := by decide +kernel
theorem dX4_putPart_47 : decode cX4_putPart 47 = .ok (.aload_n 0, 1) := by decide +kernel
theorem dX4_putPart_48 : decode cX4_putPart 48 = .ok (.getfield 18, 3) := by decide +kernel
theorem dX4_putPart_51 : decode cX4_putPart 51 = .ok (.iload 5, 2) := by decide +kernel
theorem dX4_putPart_53 : decode cX4_putPart 53 = .ok (.iconst 3, 1) := by decide +kernel
theorem dX4_putPart_54 : decode cX4_putPart 54 = .ok (.iadd, 1) := by decide +kernel
theorem dX4_putPart_55 : decode cX4_putPart 55 = .ok (.iload 4, 2) := by decide +kernel
theorem dX4_putPart_57 : decode cX4_putPart 57 = .ok (.iastore, 1) := by decide +kernel
theorem dX4_putPart_58 : decode cX4_putPart 58 = .ok (.aload_n 0, 1) := by decide +kernel
theorem dX4_putPart_59 : decode cX4_putPart 59 = .ok (.dup, 1) := by decide +kernel
theorem dX4_putPart_60 : decode cX4_putPart 60 = .ok (.getfield 86, 3) := by decide +kernel
theorem dX4_putPart_63 : decode cX4_putPart 63 = .ok (.iconst 1, 1) := by decide +kernel
theorem dX4_putPart_64 : decode cX4_putPart 64 = .ok (.iadd, 1) := by decide +kernel
theorem dX4_putPart_65 : decode cX4_putPart 65 = .ok (.putfield 86, 3) := by decide +kernel
theorem dX4_putPart_68 : decode cX4_putPart 68 = .ok (.return_, 1) := by decide +kernel
set_option maxRecDepth 20000 in
theorem ggX4_layPart_X4_mostOf : GoodIn wsX4_layPart wsX4_mostOf := goodIn_r _ [7, 8, 49, 50, 51, 52, 53, 54, 55, 56, 57, 58, 59, 60] (by decide +kernel) (by decide +kernel)
set_option maxRecDepth 20000 in
theorem gX4_layPart_X4_mostOf : GoodIn wsX4_layPart (wsV RX4 56 RX4 yX4_mostOf wsX4_mostOf) := goodIn_app (goodIn_of _ (by decide +kernel)) ggX4_layPart_X4_mostOf
set_option maxRecDepth 20000 in
theorem ggX4_layPart_X4_fits : GoodIn wsX4_layPart wsX4_fits := goodIn_r _ [11] (by decide +kernel) (by decide +kernel)
set_option maxRecDepth 20000 in
theorem gX4_layPart_X4_fits : GoodIn wsX4_layPart (va_wsS RX4 65 yX4_fits wsX4_fits) := goodIn_app (goodIn_of _ (by decide +kernel)) ggX4_layPart_X4_fits
set_option maxRecDepth 20000 in
theorem ggX4_layPart_X4_layCase : GoodIn wsX4_layPart wsX4_layCase := goodIn_r _ [15, 16, 17, 1, 2, 49, 50, 51, 52, 53, 54, 55, 56, 57, 58, 59, 60] (by decide +kernel) (by decide +kernel)
set_option maxRecDepth 20000 in
theorem gX4_layPart_X4_layCase : GoodIn wsX4_layPart (wsV RX4 96 RX4 yX4_layCase wsX4_layCase) := goodIn_app (goodIn_of _ (by decide +kernel)) ggX4_layPart_X4_layCase
set_option maxRecDepth 20000 in
theorem ggX4_layPart_X4_cutUpright : GoodIn wsX4_layPart wsX4_cutUpright := goodIn_r _ [21, 22, 23, 24, 6, 25, 3, 4, 5, 7, 8, 26, 27, 28, 29, 30, 31, 49, 50, 51, 52, 53, 54, 55, 56, 57, 58, 59, 60] (by decide +kernel) (by decide +kernel)
set_option maxRecDepth 20000 in
theorem gX4_layPart_X4_cutUpright : GoodIn wsX4_layPart (wsV RX4 100 RX4 yX4_cutUpright wsX4_cutUpright) := goodIn_app (goodIn_of _ (by decide +kernel)) ggX4_layPart_X4_cutUpright
set_option maxRecDepth 20000 in
theorem ggX4_layPart_X4_cutLevel : GoodIn wsX4_layPart wsX4_cutLevel := goodIn_r _ [35, 36, 37, 38, 6, 39, 3, 4, 5, 7, 8, 26, 27, 28, 29, 30, 31, 49, 50, 51, 52, 53, 54, 55, 56, 57, 58, 59, 60] (by decide +kernel) (by decide +kernel)
set_option maxRecDepth 20000 in
theorem gX4_layPart_X4_cutLevel : GoodIn wsX4_layPart (wsV RX4 103 RX4 yX4_cutLevel wsX4_cutLevel) := goodIn_app (goodIn_of _ (by decide +kernel)) ggX4_layPart_X4_cutLevel
set_option maxRecDepth 20000 in
theorem ggX4_layPart_X4_cutPinwheel : GoodIn wsX4_layPart wsX4_cutPinwheel := goodIn_r _ [43, 44, 45, 46, 47, 6, 48, 3, 4, 5, 7, 8, 26, 27, 28, 29, 30, 31, 49, 50, 51, 52, 53, 54, 55, 56, 57, 58, 59, 60] (by decide +kernel) (by decide +kernel)
set_option maxRecDepth 20000 in
theorem gX4_layPart_X4_cutPinwheel : GoodIn wsX4_layPart (wsV RX4 106 RX4 yX4_cutPinwheel wsX4_cutPinwheel) := goodIn_app (goodIn_of _ (by decide +kernel)) ggX4_layPart_X4_cutPinwheel
theorem dX4_layPart_0 : decode cX4_layPart 0 = .ok (.aload_n 0, 1) := by decide +kernel
theorem dX4_layPart_1 : decode cX4_layPart 1 = .ok (.iload_n 3, 1) := by decide +kernel
theorem dX4_layPart_2 : decode cX4_layPart 2 = .ok (.iload 4, 2) := by decide +kernel
theorem dX4_layPart_4 : decode cX4_layPart 4 = .ok (.invokevirtual 56, 3) := by decide +kernel
theorem dX4_layPart_7 : decode cX4_layPart 7 = .ok (.istore 5, 2) := by decide +kernel
theorem dX4_layPart_9 : decode cX4_layPart 9 = .ok (.iload 5, 2) := by decide +kernel
theorem dX4_layPart_11 : decode cX4_layPart 11 = .ok (.iconst 1, 1) := by decide +kernel
theorem dX4_layPart_12 : decode cX4_layPart 12 = .ok (.if_icmp .ne 26, 3) := by decide +kernel
theorem dX4_layPart_15 : decode cX4_layPart 15 = .ok (.aload_n 0, 1) := by decide +kernel
theorem dX4_layPart_16 : decode cX4_layPart 16 = .ok (.iload_n 1, 1) := by decide +kernel
theorem dX4_layPart_17 : decode cX4_layPart 17 = .ok (.iload_n 2, 1) := by decide +kernel
theorem dX4_layPart_18 : decode cX4_layPart 18 = .ok (.aload_n 0, 1) := by decide +kernel
theorem dX4_layPart_19 : decode cX4_layPart 19 = .ok (.getfield 31, 3) := by decide +kernel
theorem dX4_layPart_22 : decode cX4_layPart 22 = .ok (.aload_n 0, 1) := by decide +kernel
theorem dX4_layPart_23 : decode cX4_layPart 23 = .ok (.getfield 34, 3) := by decide +kernel
theorem dX4_layPart_26 : decode cX4_layPart 26 = .ok (.iload_n 3, 1) := by decide +kernel
theorem dX4_layPart_27 : decode cX4_layPart 27 = .ok (.iload 4, 2) := by decide +kernel
theorem dX4_layPart_29 : decode cX4_layPart 29 = .ok (.invokestatic 65, 3) := by decide +kernel
theorem dX4_layPart_32 : decode cX4_layPart 32 = .ok (.invokevirtual 96, 3) := by decide +kernel
theorem dX4_layPart_35 : decode cX4_layPart 35 = .ok (.goto 42, 3) := by decide +kernel
theorem dX4_layPart_38 : decode cX4_layPart 38 = .ok (.iload 5, 2) := by decide +kernel
theorem dX4_layPart_40 : decode cX4_layPart 40 = .ok (.iconst 1, 1) := by decide +kernel
theorem dX4_layPart_41 : decode cX4_layPart 41 = .ok (.if_icmp .le 36, 3) := by decide +kernel
theorem dX4_layPart_44 : decode cX4_layPart 44 = .ok (.aload_n 0, 1) := by decide +kernel
theorem dX4_layPart_45 : decode cX4_layPart 45 = .ok (.iload_n 1, 1) := by decide +kernel
theorem dX4_layPart_46 : decode cX4_layPart 46 = .ok (.iload_n 2, 1) := by decide +kernel
theorem dX4_layPart_47 : decode cX4_layPart 47 = .ok (.iload_n 3, 1) := by decide +kernel
theorem dX4_layPart_48 : decode cX4_layPart 48 = .ok (.iload 4, 2) := by decide +kernel
theorem dX4_layPart_50 : decode cX4_layPart 50 = .ok (.invokevirtual 100, 3) := by decide +kernel
theorem dX4_layPart_53 : decode cX4_layPart 53 = .ok (.ifCond .ne 24, 3) := by decide +kernel
theorem dX4_layPart_56 : decode cX4_layPart 56 = .ok (.aload_n 0, 1) := by decide +kernel
theorem dX4_layPart_57 : decode cX4_layPart 57 = .ok (.iload_n 1, 1) := by decide +kernel
theorem dX4_layPart_58 : decode cX4_layPart 58 = .ok (.iload_n 2, 1) := by decide +kernel
theorem dX4_layPart_59 : decode cX4_layPart 59 = .ok (.iload_n 3, 1) := by decide +kernel
theorem dX4_layPart_60 : decode cX4_layPart 60 = .ok (.iload 4, 2) := by decide +kernel
theorem dX4_layPart_62 : decode cX4_layPart 62 = .ok (.invokevirtual 103, 3) := by decide +kernel
theorem dX4_layPart_65 : decode cX4_layPart 65 = .ok (.ifCond .ne 12, 3) := by decide +kernel
theorem dX4_layPart_68 : decode cX4_layPart 68 = .ok (.aload_n 0, 1) := by decide +kernel
theorem dX4_layPart_69 : decode cX4_layPart 69 = .ok (.iload_n 1, 1) := by decide +kernel
theorem dX4_layPart_70 : decode cX4_layPart 70 = .ok (.iload_n 2, 1) := by decide +kernel
theorem dX4_layPart_71 : decode cX4_layPart 71 = .ok (.iload_n 3, 1) := by decide +kernel
theorem dX4_layPart_72 : decode cX4_layPart 72 = .ok (.iload 4, 2) := by decide +kernel
theorem dX4_layPart_74 : decode cX4_layPart 74 = .ok (.invokevirtual 106, 3) := by decide +kernel
theorem dX4_layPart_77 : decode cX4_layPart 77 = .ok (.return_, 1) := by decide +kernel
theorem dX4_layCase_0 : decode cX4_layCase 0 = .ok (.aload_n 0, 1) := by decide +kernel
theorem dX4_layCase_1 : decode cX4_layCase 1 = .ok (.getfield 59, 3) := by decide +kernel
theorem dX4_layCase_4 : decode cX4_layCase 4 = .ok (.sipush 144, 3) := by decide +kernel
theorem dX4_layCase_7 : decode cX4_layCase 7 = .ok (.if_icmp .lt 4, 3) := by decide +kernel
theorem dX4_layCase_10 : decode cX4_layCase 10 = .ok (.return_, 1) := by decide +kernel
theorem dX4_layCase_11 : decode cX4_layCase 11 = .ok (.iconst 4, 1) := by decide +kernel
theorem dX4_layCase_12 : decode cX4_layCase 12 = .ok (.aload_n 0, 1) := by decide +kernel
theorem dX4_layCase_13 : decode cX4_layCase 13 = .ok (.getfield 59, 3) := by decide +kernel
theorem dX4_layCase_16 : decode cX4_layCase 16 = .ok (.imul, 1) := by decide +kernel
theorem dX4_layCase_17 : decode cX4_layCase 17 = .ok (.istore 4, 2) := by decide +kernel
theorem dX4_layCase_19 : decode cX4_layCase 19 = .ok (.aload_n 0, 1) := by decide +kernel
theorem dX4_layCase_20 : decode cX4_layCase 20 = .ok (.getfield 15, 3) := by decide +kernel
theorem dX4_layCase_23 : decode cX4_layCase 23 = .ok (.iload 4, 2) := by decide +kernel
theorem dX4_layCase_25 : decode cX4_layCase 25 = .ok (.iload_n 1, 1) := by decide +kernel
theorem dX4_layCase_26 : decode cX4_layCase 26 = .ok (.iastore, 1) := by decide +kernel
theorem dX4_layCase_27 : decode cX4_layCase 27 = .ok (.aload_n 0, 1) := by decide +kernel
theorem dX4_layCase_28 : decode cX4_layCase 28 = .ok (.getfield 15, 3) := by decide +kernel
theorem dX4_layCase_31 : decode cX4_layCase 31 = .ok (.iload 4, 2) := by decide +kernel
theorem dX4_layCase_33 : decode cX4_layCase 33 = .ok (.iconst 1, 1) := by decide +kernel
theorem dX4_layCase_34 : decode cX4_layCase 34 = .ok (.iadd, 1) := by decide +kernel
theorem dX4_layCase_35 : decode cX4_layCase 35 = .ok (.iload_n 2, 1) := by decide +kernel
theorem dX4_layCase_36 : decode cX4_layCase 36 = .ok (.iastore, 1) := by decide +kernel
theorem dX4_layCase_37 : decode cX4_layCase 37 = .ok (.aload_n 0, 1) := by decide +kernel
theorem dX4_layCase_38 : decode cX4_layCase 38 = .ok (.getfield 15, 3) := by decide +kernel
theorem dX4_layCase_41 : decode cX4_layCase 41 = .ok (.iload 4, 2) := by decide +kernel
theorem dX4_layCase_43 : decode cX4_layCase 43 = .ok (.iconst 2, 1) := by decide +kernel
theorem dX4_layCase_44 : decode cX4_layCase 44 = .ok (.iadd, 1) := by decide +kernel
theorem dX4_layCase_45 : decode cX4_layCase 45 = .ok (.iload_n 3, 1) := by decide +kernel
theorem dX4_layCase_46 : decode cX4_layCase 46 = .ok (.ifCond .eq 10, 3) := by decide +kernel
theorem dX4_layCase_49 : decode cX4_layCase 49 = .ok (.aload_n 0, 1) := by decide +kernel
theorem dX4_layCase_50 : decode cX4_layCase 50 = .ok (.getfield 31, 3) := by decide +kernel
theorem dX4_layCase_53 : decode cX4_layCase 53 = .ok (.goto 7, 3) := by decide +kernel
theorem dX4_layCase_56 : decode cX4_layCase 56 = .ok (.aload_n 0, 1) := by decide +kernel
theorem dX4_layCase_57 : decode cX4_layCase 57 = .ok (.getfield 34, 3) := by decide +kernel
theorem dX4_layCase_60 : decode cX4_layCase 60 = .ok (.iastore, 1) := by decide +kernel
theorem dX4_layCase_61 : decode cX4_layCase 61 = .ok (.aload_n 0, 1) := by decide +kernel
theorem dX4_layCase_62 : decode cX4_layCase 62 = .ok (.getfield 15, 3) := by decide +kernel
theorem dX4_layCase_65 : decode cX4_layCase 65 = .ok (.iload 4, 2) := by decide +kernel
theorem dX4_layCase_67 : decode cX4_layCase 67 = .ok (.iconst 3, 1) := by decide +kernel
theorem dX4_layCase_68 : decode cX4_layCase 68 = .ok (.iadd, 1) := by decide +kernel
theorem dX4_layCase_69 : decode cX4_layCase 69 = .ok (.iload_n 3, 1) := by decide +kernel
theorem dX4_layCase_70 : decode cX4_layCase 70 = .ok (.ifCond .eq 10, 3) := by decide +kernel
theorem dX4_layCase_73 : decode cX4_layCase 73 = .ok (.aload_n 0, 1) := by decide +kernel
theorem dX4_layCase_74 : decode cX4_layCase 74 = .ok (.getfield 34, 3) := by decide +kernel
theorem dX4_layCase_77 : decode cX4_layCase 77 = .ok (.goto 7, 3) := by decide +kernel
theorem dX4_layCase_80 : decode cX4_layCase 80 = .ok (.aload_n 0, 1) := by decide +kernel
theorem dX4_layCase_81 : decode cX4_layCase 81 = .ok (.getfield 31, 3) := by decide +kernel
theorem dX4_layCase_84 : decode cX4_layCase 84 = .ok (.iastore, 1) := by decide +kernel
theorem dX4_layCase_85 : decode cX4_layCase 85 = .ok (.aload_n 0, 1) := by decide +kernel
theorem dX4_layCase_86 : decode cX4_layCase 86 = .ok (.dup, 1) := by decide +kernel
theorem dX4_layCase_87 : decode cX4_layCase 87 = .ok (.getfield 59, 3) := by decide +kernel
theorem dX4_layCase_90 : decode cX4_layCase 90 = .ok (.iconst 1, 1) := by decide +kernel
theorem dX4_layCase_91 : decode cX4_layCase 91 = .ok (.iadd, 1) := by decide +kernel
theorem dX4_layCase_92 : decode cX4_layCase 92 = .ok (.putfield 59, 3) := by decide +kernel
theorem dX4_layCase_95 : decode cX4_layCase 95 = .ok (.return_, 1) := by decide +kernel
set_option maxRecDepth 20000 in
theorem ggX4_cutUpright_X4_byUprightCut : GoodIn wsX4_cutUpright wsX4_byUprightCut := goodIn_r _ [5, 6, 7, 8, 4, 9, 10, 17, 18, 19, 20, 21, 22, 23, 24, 25, 26, 27, 28] (by decide +kernel) (by decide +kernel)
set_option maxRecDepth 20000 in
theorem gX4_cutUpright_X4_byUprightCut : GoodIn wsX4_cutUpright (wsV RX4 69 RX4 yX4_byUprightCut wsX4_byUprightCut) := goodIn_app (goodIn_of _ (by decide +kernel)) ggX4_cutUpright_X4_byUprightCut
set_option maxRecDepth 20000 in
theorem ggX4_cutUpright_X4_mostOf : GoodIn wsX4_cutUpright wsX4_mostOf := goodIn_r _ [9, 10, 17, 18, 19, 20, 21, 22, 23, 24, 25, 26, 27, 28] (by decide +kernel) (by decide +kernel)
set_option maxRecDepth 20000 in
theorem gX4_cutUpright_X4_mostOf : GoodIn wsX4_cutUpright (wsV RX4 56 RX4 yX4_mostOf wsX4_mostOf) := goodIn_app (goodIn_of _ (by decide +kernel)) ggX4_cutUpright_X4_mostOf
set_option maxRecDepth 20000 in
theorem ggX4_cutUpright_X4_putPart : GoodIn wsX4_cutUpright wsX4_putPart := goodIn_r _ [14, 15, 16, 17, 18, 19, 20, 21, 22, 23, 24, 25, 26, 27, 28] (by decide +kernel) (by decide +kernel)
set_option maxRecDepth 20000 in
theorem gX4_cutUpright_X4_putPart : GoodIn wsX4_cutUpright (wsV RX4 89 RX4 yX4_putPart wsX4_putPart) := goodIn_app (goodIn_of _ (by decide +kernel)) ggX4_cutUpright_X4_putPart
theorem dX4_cutUpright_0 : decode cX4_cutUpright 0 = .ok (.iconst 1, 1) := by decide +kernel
theorem dX4_cutUpright_1 : decode cX4_cutUpright 1 = .ok (.istore 5, 2) := by decide +kernel
theorem dX4_cutUpright_3 : decode cX4_cutUpright 3 = .ok (.iload 5, 2) := by decide +kernel
theorem dX4_cutUpright_5 : decode cX4_cutUpright 5 = .ok (.iload_n 3, 1) := by decide +kernel
theorem dX4_cutUpright_6 : decode cX4_cutUpright 6 = .ok (.if_icmp .ge 55, 3) := by decide +kernel
theorem dX4_cutUpright_9 : decode cX4_cutUpright 9 = .ok (.aload_n 0, 1) := by decide +kernel
theorem dX4_cutUpright_10 : decode cX4_cutUpright 10 = .ok (.iload_n 3, 1) := by decide +kernel
theorem dX4_cutUpright_11 : decode cX4_cutUpright 11 = .ok (.iload 4, 2) := by decide +kernel
theorem dX4_cutUpright_13 : decode cX4_cutUpright 13 = .ok (.iload 5, 2) := by decide +kernel
theorem dX4_cutUpright_15 : decode cX4_cutUpright 15 = .ok (.invokevirtual 69, 3) := by decide +kernel
theorem dX4_cutUpright_18 : decode cX4_cutUpright 18 = .ok (.aload_n 0, 1) := by decide +kernel
theorem dX4_cutUpright_19 : decode cX4_cutUpright 19 = .ok (.iload_n 3, 1) := by decide +kernel
theorem dX4_cutUpright_20 : decode cX4_cutUpright 20 = .ok (.iload 4, 2) := by decide +kernel
theorem dX4_cutUpright_22 : decode cX4_cutUpright 22 = .ok (.invokevirtual 56, 3) := by decide +kernel
theorem dX4_cutUpright_25 : decode cX4_cutUpright 25 = .ok (.if_icmp .ne 30, 3) := by decide +kernel
theorem dX4_cutUpright_28 : decode cX4_cutUpright 28 = .ok (.aload_n 0, 1) := by decide +kernel
theorem dX4_cutUpright_29 : decode cX4_cutUpright 29 = .ok (.iload_n 1, 1) := by decide +kernel
theorem dX4_cutUpright_30 : decode cX4_cutUpright 30 = .ok (.iload 5, 2) := by decide +kernel
theorem dX4_cutUpright_32 : decode cX4_cutUpright 32 = .ok (.iadd, 1) := by decide +kernel
theorem dX4_cutUpright_33 : decode cX4_cutUpright 33 = .ok (.iload_n 2, 1) := by decide +kernel
theorem dX4_cutUpright_34 : decode cX4_cutUpright 34 = .ok (.iload_n 3, 1) := by decide +kernel
theorem dX4_cutUpright_35 : decode cX4_cutUpright 35 = .ok (.iload 5, 2) := by decide +kernel
theorem dX4_cutUpright_37 : decode cX4_cutUpright 37 = .ok (.isub, 1) := by decide +kernel
theorem dX4_cutUpright_38 : decode cX4_cutUpright 38 = .ok (.iload 4, 2) := by decide +kernel
theorem dX4_cutUpright_40 : decode cX4_cutUpright 40 = .ok (.invokevirtual 89, 3) := by decide +kernel
theorem dX4_cutUpright_43 : decode cX4_cutUpright 43 = .ok (.aload_n 0, 1) := by decide +kernel
theorem dX4_cutUpright_44 : decode cX4_cutUpright 44 = .ok (.iload_n 1, 1) := by decide +kernel
theorem dX4_cutUpright_45 : decode cX4_cutUpright 45 = .ok (.iload_n 2, 1) := by decide +kernel
theorem dX4_cutUpright_46 : decode cX4_cutUpright 46 = .ok (.iload 5, 2) := by decide +kernel
theorem dX4_cutUpright_48 : decode cX4_cutUpright 48 = .ok (.iload 4, 2) := by decide +kernel
theorem dX4_cutUpright_50 : decode cX4_cutUpright 50 = .ok (.invokevirtual 89, 3) := by decide +kernel
theorem dX4_cutUpright_53 : decode cX4_cutUpright 53 = .ok (.iconst 1, 1) := by decide +kernel
theorem dX4_cutUpright_54 : decode cX4_cutUpright 54 = .ok (.ireturn, 1) := by decide +kernel
theorem dX4_cutUpright_55 : decode cX4_cutUpright 55 = .ok (.iinc 5 1, 3) := by decide +kernel
theorem dX4_cutUpright_58 : decode cX4_cutUpright 58 = .ok (.goto (-55), 3) := by decide +kernel
theorem dX4_cutUpright_61 : decode cX4_cutUpright 61 = .ok (.iconst 0, 1) := by decide +kernel
theorem dX4_cutUpright_62 : decode cX4_cutUpright 62 = .ok (.ireturn, 1) := by decide +kernel
set_option maxRecDepth 20000 in
theorem ggX4_cutLevel_X4_byLevelCut : GoodIn wsX4_cutLevel wsX4_byLevelCut := goodIn_r _ [5, 6, 7, 8, 4, 9, 10, 17, 18, 19, 20, 21, 22, 23, 24, 25, 26, 27, 28] (by decide +kernel) (by decide +kernel)
set_option maxRecDepth 20000 in
theorem gX4_cutLevel_X4_byLevelCut : GoodIn wsX4_cutLevel (wsV RX4 76 RX4 yX4_byLevelCut wsX4_byLevelCut) := goodIn_app (goodIn_of _ (by decide +kernel)) ggX4_cutLevel_X4_byLevelCut
set_option maxRecDepth 20000 in
theorem ggX4_cutLevel_X4_mostOf : GoodIn wsX4_cutLevel wsX4_mostOf := goodIn_r _ [9, 10, 17, 18, 19, 20, 21, 22, 23, 24, 25, 26, 27, 28] (by decide +kernel) (by decide +kernel)
set_option maxRecDepth 20000 in
theorem gX4_cutLevel_X4_mostOf : GoodIn wsX4_cutLevel (wsV RX4 56 RX4 yX4_mostOf wsX4_mostOf) := goodIn_app (goodIn_of _ (by decide +kernel)) ggX4_cutLevel_X4_mostOf
set_option maxRecDepth 20000 in
theorem ggX4_cutLevel_X4_putPart : GoodIn wsX4_cutLevel wsX4_putPart := goodIn_r _ [14, 15, 16, 17, 18, 19, 20, 21, 22, 23, 24, 25, 26, 27, 28] (by decide +kernel) (by decide +kernel)
set_option maxRecDepth 20000 in
theorem gX4_cutLevel_X4_putPart : GoodIn wsX4_cutLevel (wsV RX4 89 RX4 yX4_putPart wsX4_putPart) := goodIn_app (goodIn_of _ (by decide +kernel)) ggX4_cutLevel_X4_putPart
theorem dX4_cutLevel_0 : decode cX4_cutLevel 0 = .ok (.iconst 1, 1) := by decide +kernel
theorem dX4_cutLevel_1 : decode cX4_cutLevel 1 = .ok (.istore 5, 2) := by decide +kernel
theorem dX4_cutLevel_3 : decode cX4_cutLevel 3 = .ok (.iload 5, 2) := by decide +kernel
theorem dX4_cutLevel_5 : decode cX4_cutLevel 5 = .ok (.iload 4, 2) := by decide +kernel
theorem dX4_cutLevel_7 : decode cX4_cutLevel 7 = .ok (.if_icmp .ge 54, 3) := by decide +kernel
theorem dX4_cutLevel_10 : decode cX4_cutLevel 10 = .ok (.aload_n 0, 1) := by decide +kernel
theorem dX4_cutLevel_11 : decode cX4_cutLevel 11 = .ok (.iload_n 3, 1) := by decide +kernel
theorem dX4_cutLevel_12 : decode cX4_cutLevel 12 = .ok (.iload 4, 2) := by decide +kernel
theorem dX4_cutLevel_14 : decode cX4_cutLevel 14 = .ok (.iload 5, 2) := by decide +kernel
theorem dX4_cutLevel_16 : decode cX4_cutLevel 16 = .ok (.invokevirtual 76, 3) := by decide +kernel
theorem dX4_cutLevel_19 : decode cX4_cutLevel 19 = .ok (.aload_n 0, 1) := by decide +kernel
theorem dX4_cutLevel_20 : decode cX4_cutLevel 20 = .ok (.iload_n 3, 1) := by decide +kernel
theorem dX4_cutLevel_21 : decode cX4_cutLevel 21 = .ok (.iload 4, 2) := by decide +kernel
theorem dX4_cutLevel_23 : decode cX4_cutLevel 23 = .ok (.invokevirtual 56, 3) := by decide +kernel
theorem dX4_cutLevel_26 : decode cX4_cutLevel 26 = .ok (.if_icmp .ne 29, 3) := by decide +kernel
theorem dX4_cutLevel_29 : decode cX4_cutLevel 29 = .ok (.aload_n 0, 1) := by decide +kernel
theorem dX4_cutLevel_30 : decode cX4_cutLevel 30 = .ok (.iload_n 1, 1) := by decide +kernel
theorem dX4_cutLevel_31 : decode cX4_cutLevel 31 = .ok (.iload_n 2, 1) := by decide +kernel
theorem dX4_cutLevel_32 : decode cX4_cutLevel 32 = .ok (.iload 5, 2) := by decide +kernel
theorem dX4_cutLevel_34 : decode cX4_cutLevel 34 = .ok (.iadd, 1) := by decide +kernel
theorem dX4_cutLevel_35 : decode cX4_cutLevel 35 = .ok (.iload_n 3, 1) := by decide +kernel
theorem dX4_cutLevel_36 : decode cX4_cutLevel 36 = .ok (.iload 4, 2) := by decide +kernel
theorem dX4_cutLevel_38 : decode cX4_cutLevel 38 = .ok (.iload 5, 2) := by decide +kernel
theorem dX4_cutLevel_40 : decode cX4_cutLevel 40 = .ok (.isub, 1) := by decide +kernel
theorem dX4_cutLevel_41 : decode cX4_cutLevel 41 = .ok (.invokevirtual 89, 3) := by decide +kernel
theorem dX4_cutLevel_44 : decode cX4_cutLevel 44 = .ok (.aload_n 0, 1) := by decide +kernel
theorem dX4_cutLevel_45 : decode cX4_cutLevel 45 = .ok (.iload_n 1, 1) := by decide +kernel
theorem dX4_cutLevel_46 : decode cX4_cutLevel 46 = .ok (.iload_n 2, 1) := by decide +kernel
theorem dX4_cutLevel_47 : decode cX4_cutLevel 47 = .ok (.iload_n 3, 1) := by decide +kernel
theorem dX4_cutLevel_48 : decode cX4_cutLevel 48 = .ok (.iload 5, 2) := by decide +kernel
theorem dX4_cutLevel_50 : decode cX4_cutLevel 50 = .ok (.invokevirtual 89, 3) := by decide +kernel
theorem dX4_cutLevel_53 : decode cX4_cutLevel 53 = .ok (.iconst 1, 1) := by decide +kernel
theorem dX4_cutLevel_54 : decode cX4_cutLevel 54 = .ok (.ireturn, 1) := by decide +kernel
theorem dX4_cutLevel_55 : decode cX4_cutLevel 55 = .ok (.iinc 5 1, 3) := by decide +kernel
theorem dX4_cutLevel_58 : decode cX4_cutLevel 58 = .ok (.goto (-55), 3) := by decide +kernel
theorem dX4_cutLevel_61 : decode cX4_cutLevel 61 = .ok (.iconst 0, 1) := by decide +kernel
theorem dX4_cutLevel_62 : decode cX4_cutLevel 62 = .ok (.ireturn, 1) := by decide +kernel
set_option maxRecDepth 20000 in
theorem ggX4_cutPinwheel_X4_byPinwheel : GoodIn wsX4_cutPinwheel wsX4_byPinwheel := goodIn_r _ [6, 7, 8, 9, 5, 10, 11, 18, 19, 20, 21, 22, 23, 24, 25, 26, 27, 28, 29] (by decide +kernel) (by decide +kernel)
set_option maxRecDepth 20000 in
theorem gX4_cutPinwheel_X4_byPinwheel : GoodIn wsX4_cutPinwheel (wsV RX4 82 RX4 yX4_byPinwheel wsX4_byPinwheel) := goodIn_app (goodIn_of _ (by decide +kernel)) ggX4_cutPinwheel_X4_byPinwheel
set_option maxRecDepth 20000 in
theorem ggX4_cutPinwheel_X4_mostOf : GoodIn wsX4_cutPinwheel wsX4_mostOf := goodIn_r _ [10, 11, 18, 19, 20, 21, 22, 23, 24, 25, 26, 27, 28, 29] (by decide +kernel) (by decide +kernel)
set_option maxRecDepth 20000 in
theorem gX4_cutPinwheel_X4_mostOf : GoodIn wsX4_cutPinwheel (wsV RX4 56 RX4 yX4_mostOf wsX4_mostOf) := goodIn_app (goodIn_of _ (by decide +kernel)) ggX4_cutPinwheel_X4_mostOf
set_option maxRecDepth 20000 in
theorem ggX4_cutPinwheel_X4_putPart : GoodIn wsX4_cutPinwheel wsX4_putPart := goodIn_r _ [15, 16, 17, 18, 19, 20, 21, 22, 23, 24, 25, 26, 27, 28, 29] (by decide +kernel) (by decide +kernel)
set_option maxRecDepth 20000 in
theorem gX4_cutPinwheel_X4_putPart : GoodIn wsX4_cutPinwheel (wsV RX4 89 RX4 yX4_putPart wsX4_putPart) := goodIn_app (goodIn_of _ (by decide +kernel)) ggX4_cutPinwheel_X4_putPart
theorem dX4_cutPinwheel_0 : decode cX4_cutPinwheel 0 = .ok (.aload_n 0, 1) := by decide +kernel
theorem dX4_cutPinwheel_1 : decode cX4_cutPinwheel 1 = .ok (.getfield 43, 3) := by decide +kernel
theorem dX4_cutPinwheel_4 : decode cX4_cutPinwheel 4 = .ok (.istore 5, 2) := by decide +kernel
theorem dX4_cutPinwheel_6 : decode cX4_cutPinwheel 6 = .ok (.iload 5, 2) := by decide +kernel
theorem dX4_cutPinwheel_8 : decode cX4_cutPinwheel 8 = .ok (.iload_n 3, 1) := by decide +kernel
theorem dX4_cutPinwheel_9 : decode cX4_cutPinwheel 9 = .ok (.aload_n 0, 1) := by decide +kernel
theorem dX4_cutPinwheel_10 : decode cX4_cutPinwheel 10 = .ok (.getfield 43, 3) := by decide +kernel
theorem dX4_cutPinwheel_13 : decode cX4_cutPinwheel 13 = .ok (.isub, 1) := by decide +kernel
theorem dX4_cutPinwheel_14 : decode cX4_cutPinwheel 14 = .ok (.if_icmp .ge 190, 3) := by decide +kernel
theorem dX4_cutPinwheel_17 : decode cX4_cutPinwheel 17 = .ok (.iload 5, 2) := by decide +kernel
theorem dX4_cutPinwheel_19 : decode cX4_cutPinwheel 19 = .ok (.iconst 1, 1) := by decide +kernel
theorem dX4_cutPinwheel_20 : decode cX4_cutPinwheel 20 = .ok (.iadd, 1) := by decide +kernel
theorem dX4_cutPinwheel_21 : decode cX4_cutPinwheel 21 = .ok (.istore 6, 2) := by decide +kernel
theorem dX4_cutPinwheel_23 : decode cX4_cutPinwheel 23 = .ok (.iload 6, 2) := by decide +kernel
theorem dX4_cutPinwheel_25 : decode cX4_cutPinwheel 25 = .ok (.iload_n 3, 1) := by decide +kernel
theorem dX4_cutPinwheel_26 : decode cX4_cutPinwheel 26 = .ok (.aload_n 0, 1) := by decide +kernel
theorem dX4_cutPinwheel_27 : decode cX4_cutPinwheel 27 = .ok (.getfield 43, 3) := by decide +kernel
theorem dX4_cutPinwheel_30 : decode cX4_cutPinwheel 30 = .ok (.isub, 1) := by decide +kernel
theorem dX4_cutPinwheel_31 : decode cX4_cutPinwheel 31 = .ok (.if_icmp .gt 167, 3) := by decide +kernel
theorem dX4_cutPinwheel_34 : decode cX4_cutPinwheel 34 = .ok (.aload_n 0, 1) := by decide +kernel
theorem dX4_cutPinwheel_35 : decode cX4_cutPinwheel 35 = .ok (.getfield 43, 3) := by decide +kernel
theorem dX4_cutPinwheel_38 : decode cX4_cutPinwheel 38 = .ok (.istore 7, 2) := by decide +kernel
theorem dX4_cutPinwheel_40 : decode cX4_cutPinwheel 40 = .ok (.iload 7, 2) := by decide +kernel
theorem dX4_cutPinwheel_42 : decode cX4_cutPinwheel 42 = .ok (.iload 4, 2) := by decide +kernel
theorem dX4_cutPinwheel_44 : decode cX4_cutPinwheel 44 = .ok (.aload_n 0, 1) := by decide +kernel
theorem dX4_cutPinwheel_45 : decode cX4_cutPinwheel 45 = .ok (.getfield 43, 3) := by decide +kernel
theorem dX4_cutPinwheel_48 : decode cX4_cutPinwheel 48 = .ok (.isub, 1) := by decide +kernel
theorem dX4_cutPinwheel_49 : decode cX4_cutPinwheel 49 = .ok (.if_icmp .ge 143, 3) := by decide +kernel
theorem dX4_cutPinwheel_52 : decode cX4_cutPinwheel 52 = .ok (.iload 7, 2) := by decide +kernel
theorem dX4_cutPinwheel_54 : decode cX4_cutPinwheel 54 = .ok (.iconst 1, 1) := by decide +kernel
theorem dX4_cutPinwheel_55 : decode cX4_cutPinwheel 55 = .ok (.iadd, 1) := by decide +kernel
theorem dX4_cutPinwheel_56 : decode cX4_cutPinwheel 56 = .ok (.istore 8, 2) := by decide +kernel
theorem dX4_cutPinwheel_58 : decode cX4_cutPinwheel 58 = .ok (.iload 8, 2) := by decide +kernel
theorem dX4_cutPinwheel_60 : decode cX4_cutPinwheel 60 = .ok (.iload 4, 2) := by decide +kernel
theorem dX4_cutPinwheel_62 : decode cX4_cutPinwheel 62 = .ok (.aload_n 0, 1) := by decide +kernel
theorem dX4_cutPinwheel_63 : decode cX4_cutPinwheel 63 = .ok (.getfield 43, 3) := by decide +kernel
theorem dX4_cutPinwheel_66 : decode cX4_cutPinwheel 66 = .ok (.isub, 1) := by decide +kernel
theorem dX4_cutPinwheel_67 : decode cX4_cutPinwheel 67 = .ok (.if_icmp .gt 119, 3) := by decide +kernel
theorem dX4_cutPinwheel_70 : decode cX4_cutPinwheel 70 = .ok (.aload_n 0, 1) := by decide +kernel
theorem dX4_cutPinwheel_71 : decode cX4_cutPinwheel 71 = .ok (.iload_n 3, 1) := by decide +kernel
theorem dX4_cutPinwheel_72 : decode cX4_cutPinwheel 72 = .ok (.iload 4, 2) := by decide +kernel
theorem dX4_cutPinwheel_74 : decode cX4_cutPinwheel 74 = .ok (.iload 5, 2) := by decide +kernel
theorem dX4_cutPinwheel_76 : decode cX4_cutPinwheel 76 = .ok (.iload 6, 2) := by decide +kernel
theorem dX4_cutPinwheel_78 : decode cX4_cutPinwheel 78 = .ok (.iload 7, 2) := by decide +kernel
theorem dX4_cutPinwheel_80 : decode cX4_cutPinwheel 80 = .ok (.iload 8, 2) := by decide +kernel
theorem dX4_cutPinwheel_82 : decode cX4_cutPinwheel 82 = .ok (.invokevirtual 82, 3) := by decide +kernel
theorem dX4_cutPinwheel_85 : decode cX4_cutPinwheel 85 = .ok (.aload_n 0, 1) := by decide +kernel
theorem dX4_cutPinwheel_86 : decode cX4_cutPinwheel 86 = .ok (.iload_n 3, 1) := by decide +kernel
theorem dX4_cutPinwheel_87 : decode cX4_cutPinwheel 87 = .ok (.iload 4, 2) := by decide +kernel
theorem dX4_cutPinwheel_89 : decode cX4_cutPinwheel 89 = .ok (.invokevirtual 56, 3) := by decide +kernel
theorem dX4_cutPinwheel_92 : decode cX4_cutPinwheel 92 = .ok (.if_icmp .ne 88, 3) := by decide +kernel
theorem dX4_cutPinwheel_95 : decode cX4_cutPinwheel 95 = .ok (.aload_n 0, 1) := by decide +kernel
theorem dX4_cutPinwheel_96 : decode cX4_cutPinwheel 96 = .ok (.iload_n 1, 1) := by decide +kernel
theorem dX4_cutPinwheel_97 : decode cX4_cutPinwheel 97 = .ok (.iload 5, 2) := by decide +kernel
theorem dX4_cutPinwheel_99 : decode cX4_cutPinwheel 99 = .ok (.iadd, 1) := by decide +kernel
theorem dX4_cutPinwheel_100 : decode cX4_cutPinwheel 100 = .ok (.iload_n 2, 1) := by decide +kernel
theorem dX4_cutPinwheel_101 : decode cX4_cutPinwheel 101 = .ok (.iload 7, 2) := by decide +kernel
theorem dX4_cutPinwheel_103 : decode cX4_cutPinwheel 103 = .ok (.iadd, 1) := by decide +kernel
theorem dX4_cutPinwheel_104 : decode cX4_cutPinwheel 104 = .ok (.iload 6, 2) := by decide +kernel
theorem dX4_cutPinwheel_106 : decode cX4_cutPinwheel 106 = .ok (.iload 5, 2) := by decide +kernel
theorem dX4_cutPinwheel_108 : decode cX4_cutPinwheel 108 = .ok (.isub, 1) := by decide +kernel
theorem dX4_cutPinwheel_109 : decode cX4_cutPinwheel 109 = .ok (.iload 8, 2) := by decide +kernel
theorem dX4_cutPinwheel_111 : decode cX4_cutPinwheel 111 = .ok (.iload 7, 2) := by decide +kernel
theorem dX4_cutPinwheel_113 : decode cX4_cutPinwheel 113 = .ok (.isub, 1) := by decide +kernel
theorem dX4_cutPinwheel_114 : decode cX4_cutPinwheel 114 = .ok (.invokevirtual 89, 3) := by decide +kernel
theorem dX4_cutPinwheel_117 : decode cX4_cutPinwheel 117 = .ok (.aload_n 0, 1) := by decide +kernel
theorem dX4_cutPinwheel_118 : decode cX4_cutPinwheel 118 = .ok (.iload_n 1, 1) := by decide +kernel
theorem dX4_cutPinwheel_119 : decode cX4_cutPinwheel 119 = .ok (.iload_n 2, 1) := by decide +kernel
theorem dX4_cutPinwheel_120 : decode cX4_cutPinwheel 120 = .ok (.iload 8, 2) := by decide +kernel
theorem dX4_cutPinwheel_122 : decode cX4_cutPinwheel 122 = .ok (.iadd, 1) := by decide +kernel
theorem dX4_cutPinwheel_123 : decode cX4_cutPinwheel 123 = .ok (.iload 6, 2) := by decide +kernel
theorem dX4_cutPinwheel_125 : decode cX4_cutPinwheel 125 = .ok (.iload 4, 2) := by decide +kernel
theorem dX4_cutPinwheel_127 : decode cX4_cutPinwheel 127 = .ok (.iload 8, 2) := by decide +kernel
theorem dX4_cutPinwheel_129 : decode cX4_cutPinwheel 129 = .ok (.isub, 1) := by decide +kernel
theorem dX4_cutPinwheel_130 : decode cX4_cutPinwheel 130 = .ok (.invokevirtual 89, 3) := by decide +kernel
theorem dX4_cutPinwheel_133 : decode cX4_cutPinwheel 133 = .ok (.aload_n 0, 1) := by decide +kernel
theorem dX4_cutPinwheel_134 : decode cX4_cutPinwheel 134 = .ok (.iload_n 1, 1) := by decide +kernel
theorem dX4_cutPinwheel_135 : decode cX4_cutPinwheel 135 = .ok (.iload 6, 2) := by decide +kernel
theorem dX4_cutPinwheel_137 : decode cX4_cutPinwheel 137 = .ok (.iadd, 1) := by decide +kernel
theorem dX4_cutPinwheel_138 : decode cX4_cutPinwheel 138 = .ok (.iload_n 2, 1) := by decide +kernel
theorem dX4_cutPinwheel_139 : decode cX4_cutPinwheel 139 = .ok (.iload 7, 2) := by decide +kernel
theorem dX4_cutPinwheel_141 : decode cX4_cutPinwheel 141 = .ok (.iadd, 1) := by decide +kernel
theorem dX4_cutPinwheel_142 : decode cX4_cutPinwheel 142 = .ok (.iload_n 3, 1) := by decide +kernel
theorem dX4_cutPinwheel_143 : decode cX4_cutPinwheel 143 = .ok (.iload 6, 2) := by decide +kernel
theorem dX4_cutPinwheel_145 : decode cX4_cutPinwheel 145 = .ok (.isub, 1) := by decide +kernel
theorem dX4_cutPinwheel_146 : decode cX4_cutPinwheel 146 = .ok (.iload 4, 2) := by decide +kernel
theorem dX4_cutPinwheel_148 : decode cX4_cutPinwheel 148 = .ok (.iload 7, 2) := by decide +kernel
theorem dX4_cutPinwheel_150 : decode cX4_cutPinwheel 150 = .ok (.isub, 1) := by decide +kernel
theorem dX4_cutPinwheel_151 : decode cX4_cutPinwheel 151 = .ok (.invokevirtual 89, 3) := by decide +kernel
theorem dX4_cutPinwheel_154 : decode cX4_cutPinwheel 154 = .ok (.aload_n 0, 1) := by decide +kernel
theorem dX4_cutPinwheel_155 : decode cX4_cutPinwheel 155 = .ok (.iload_n 1, 1) := by decide +kernel
theorem dX4_cutPinwheel_156 : decode cX4_cutPinwheel 156 = .ok (.iload 5, 2) := by decide +kernel
theorem dX4_cutPinwheel_158 : decode cX4_cutPinwheel 158 = .ok (.iadd, 1) := by decide +kernel
theorem dX4_cutPinwheel_159 : decode cX4_cutPinwheel 159 = .ok (.iload_n 2, 1) := by decide +kernel
theorem dX4_cutPinwheel_160 : decode cX4_cutPinwheel 160 = .ok (.iload_n 3, 1) := by decide +kernel
theorem dX4_cutPinwheel_161 : decode cX4_cutPinwheel 161 = .ok (.iload 5, 2) := by decide +kernel
theorem dX4_cutPinwheel_163 : decode cX4_cutPinwheel 163 = .ok (.isub, 1) := by decide +kernel
theorem dX4_cutPinwheel_164 : decode cX4_cutPinwheel 164 = .ok (.iload 7, 2) := by decide +kernel
theorem dX4_cutPinwheel_166 : decode cX4_cutPinwheel 166 = .ok (.invokevirtual 89, 3) := by decide +kernel
theorem dX4_cutPinwheel_169 : decode cX4_cutPinwheel 169 = .ok (.aload_n 0, 1) := by decide +kernel
theorem dX4_cutPinwheel_170 : decode cX4_cutPinwheel 170 = .ok (.iload_n 1, 1) := by decide +kernel
theorem dX4_cutPinwheel_171 : decode cX4_cutPinwheel 171 = .ok (.iload_n 2, 1) := by decide +kernel
theorem dX4_cutPinwheel_172 : decode cX4_cutPinwheel 172 = .ok (.iload 5, 2) := by decide +kernel
theorem dX4_cutPinwheel_174 : decode cX4_cutPinwheel 174 = .ok (.iload 8, 2) := by decide +kernel
theorem dX4_cutPinwheel_176 : decode cX4_cutPinwheel 176 = .ok (.invokevirtual 89, 3) := by decide +kernel
theorem dX4_cutPinwheel_179 : decode cX4_cutPinwheel 179 = .ok (.return_, 1) := by decide +kernel
theorem dX4_cutPinwheel_180 : decode cX4_cutPinwheel 180 = .ok (.iinc 8 1, 3) := by decide +kernel
theorem dX4_cutPinwheel_183 : decode cX4_cutPinwheel 183 = .ok (.goto (-125), 3) := by decide +kernel
theorem dX4_cutPinwheel_186 : decode cX4_cutPinwheel 186 = .ok (.iinc 7 1, 3) := by decide +kernel
theorem dX4_cutPinwheel_189 : decode cX4_cutPinwheel 189 = .ok (.goto (-149), 3) := by decide +kernel
theorem dX4_cutPinwheel_192 : decode cX4_cutPinwheel 192 = .ok (.iinc 6 1, 3) := by decide +kernel
theorem dX4_cutPinwheel_195 : decode cX4_cutPinwheel 195 = .ok (.goto (-172), 3) := by decide +kernel
theorem dX4_cutPinwheel_198 : decode cX4_cutPinwheel 198 = .ok (.iinc 5 1, 3) := by decide +kernel
theorem dX4_cutPinwheel_201 : decode cX4_cutPinwheel 201 = .ok (.goto (-195), 3) := by decide +kernel
theorem dX4_cutPinwheel_204 : decode cX4_cutPinwheel 204 = .ok (.return_, 1) := by decide +kernel
set_option maxRecDepth 20000 in
theorem ggX4_holding_X4_markOwners : GoodIn wsX4_holding wsX4_markOwners := goodIn_r _ [6, 7, 1, 8, 9, 10, 11, 12, 13, 14, 5, 15, 16, 17, 18, 19, 20, 21, 22, 33, 34, 35, 36, 37, 38, 39, 40, 41, 42, 43, 44] (by decide +kernel) (by decide +kernel)
set_option maxRecDepth 20000 in
theorem gX4_holding_X4_markOwners : GoodIn wsX4_holding (wsV RX4 109 RX4 yX4_markOwners wsX4_markOwners) := goodIn_app (goodIn_of _ (by decide +kernel)) ggX4_holding_X4_markOwners
set_option maxRecDepth 20000 in
theorem ggX4_holding_X4_liesOnTwo : GoodIn wsX4_holding wsX4_liesOnTwo := goodIn_r _ [26, 27, 28, 12, 13, 14, 5, 15, 1, 16, 29, 30, 31, 32, 7, 17, 18, 19, 20, 21, 22, 33, 34, 35, 36, 37, 38, 39, 40, 41, 42, 43, 44] (by decide +kernel) (by decide +kernel)
set_option maxRecDepth 20000 in
theorem gX4_holding_X4_liesOnTwo : GoodIn wsX4_holding (wsV RX4 112 RX4 yX4_liesOnTwo wsX4_liesOnTwo) := goodIn_app (goodIn_of _ (by decide +kernel)) ggX4_holding_X4_liesOnTwo
theorem dX4_holding_0 : decode cX4_holding 0 = .ok (.aload_n 0, 1) := by decide +kernel
theorem dX4_holding_1 : decode cX4_holding 1 = .ok (.invokevirtual 109, 3) := by decide +kernel
theorem dX4_holding_4 : decode cX4_holding 4 = .ok (.iconst 0, 1) := by decide +kernel
theorem dX4_holding_5 : decode cX4_holding 5 = .ok (.istore_n 1, 1) := by decide +kernel
theorem dX4_holding_6 : decode cX4_holding 6 = .ok (.iconst 0, 1) := by decide +kernel
theorem dX4_holding_7 : decode cX4_holding 7 = .ok (.istore_n 2, 1) := by decide +kernel
theorem dX4_holding_8 : decode cX4_holding 8 = .ok (.iload_n 2, 1) := by decide +kernel
theorem dX4_holding_9 : decode cX4_holding 9 = .ok (.aload_n 0, 1) := by decide +kernel
theorem dX4_holding_10 : decode cX4_holding 10 = .ok (.getfield 59, 3) := by decide +kernel
theorem dX4_holding_13 : decode cX4_holding 13 = .ok (.if_icmp .ge 20, 3) := by decide +kernel
theorem dX4_holding_16 : decode cX4_holding 16 = .ok (.aload_n 0, 1) := by decide +kernel
theorem dX4_holding_17 : decode cX4_holding 17 = .ok (.iload_n 2, 1) := by decide +kernel
theorem dX4_holding_18 : decode cX4_holding 18 = .ok (.invokevirtual 112, 3) := by decide +kernel
theorem dX4_holding_21 : decode cX4_holding 21 = .ok (.ifCond .eq 6, 3) := by decide +kernel
theorem dX4_holding_24 : decode cX4_holding 24 = .ok (.iinc 1 1, 3) := by decide +kernel
theorem dX4_holding_27 : decode cX4_holding 27 = .ok (.iinc 2 1, 3) := by decide +kernel
theorem dX4_holding_30 : decode cX4_holding 30 = .ok (.goto (-22), 3) := by decide +kernel
theorem dX4_holding_33 : decode cX4_holding 33 = .ok (.iload_n 1, 1) := by decide +kernel
theorem dX4_holding_34 : decode cX4_holding 34 = .ok (.ireturn, 1) := by decide +kernel
set_option maxRecDepth 20000 in
theorem ggX4_markOwners_J7_fill_53178 : GoodIn wsX4_markOwners wsJ7_fill_53178 := goodIn_r _ [6] (by decide +kernel) (by decide +kernel)
set_option maxRecDepth 20000 in
theorem gX4_markOwners_J7_fill_53178 : GoodIn wsX4_markOwners (va_wsS RX4 116 yJ7_fill_53178 wsJ7_fill_53178) := goodIn_app (goodIn_of _ (by decide +kernel)) ggX4_markOwners_J7_fill_53178
set_option maxRecDepth 20000 in
theorem ggX4_markOwners_X4_numberOf : GoodIn wsX4_markOwners wsX4_numberOf := goodIn_r _ [11, 2, 12, 19, 20, 21, 22, 23, 24, 25, 26, 27, 28, 29, 30] (by decide +kernel) (by decide +kernel)
set_option maxRecDepth 20000 in
theorem gX4_markOwners_X4_numberOf : GoodIn wsX4_markOwners (wsV RX4 122 RX4 yX4_numberOf wsX4_numberOf) := goodIn_app (goodIn_of _ (by decide +kernel)) ggX4_markOwners_X4_numberOf
set_option maxRecDepth 20000 in
theorem ggX4_markOwners_X4_isSquare : GoodIn wsX4_markOwners wsX4_isSquare := goodIn_r _ [15, 16, 17, 18] (by decide +kernel) (by decide +kernel)
set_option maxRecDepth 20000 in
theorem gX4_markOwners_X4_isSquare : GoodIn wsX4_markOwners (va_wsS RX4 125 yX4_isSquare wsX4_isSquare) := goodIn_app (goodIn_of _ (by decide +kernel)) ggX4_markOwners_X4_isSquare
theorem dX4_markOwners_0 : decode cX4_markOwners 0 = .ok (.aload_n 0, 1) := by decide +kernel
theorem dX4_markOwners_1 : decode cX4_markOwners 1 = .ok (.getfield 21, 3) := by decide +kernel
theorem dX4_markOwners_4 : decode cX4_markOwners 4 = .ok (.iconst 0, 1) := by decide +kernel
theorem dX4_markOwners_5 : decode cX4_markOwners 5 = .ok (.invokestatic 116, 3) := by decide +kernel
theorem dX4_markOwners_8 : decode cX4_markOwners 8 = .ok (.iconst 0, 1) := by decide +kernel
theorem dX4_markOwners_9 : decode cX4_markOwners 9 = .ok (.istore_n 1, 1) := by decide +kernel
theorem dX4_markOwners_10 : decode cX4_markOwners 10 = .ok (.iload_n 1, 1) := by decide +kernel
theorem dX4_markOwners_11 : decode cX4_markOwners 11 = .ok (.aload_n 0, 1) := by decide +kernel
theorem dX4_markOwners_12 : decode cX4_markOwners 12 = .ok (.getfield 59, 3) := by decide +kernel
theorem dX4_markOwners_15 : decode cX4_markOwners 15 = .ok (.if_icmp .ge 93, 3) := by decide +kernel
theorem dX4_markOwners_18 : decode cX4_markOwners 18 = .ok (.aload_n 0, 1) := by decide +kernel
theorem dX4_markOwners_19 : decode cX4_markOwners 19 = .ok (.iload_n 1, 1) := by decide +kernel
theorem dX4_markOwners_20 : decode cX4_markOwners 20 = .ok (.iconst 0, 1) := by decide +kernel
theorem dX4_markOwners_21 : decode cX4_markOwners 21 = .ok (.invokevirtual 122, 3) := by decide +kernel
theorem dX4_markOwners_24 : decode cX4_markOwners 24 = .ok (.istore_n 2, 1) := by decide +kernel
theorem dX4_markOwners_25 : decode cX4_markOwners 25 = .ok (.aload_n 0, 1) := by decide +kernel
theorem dX4_markOwners_26 : decode cX4_markOwners 26 = .ok (.iload_n 1, 1) := by decide +kernel
theorem dX4_markOwners_27 : decode cX4_markOwners 27 = .ok (.iconst 1, 1) := by decide +kernel
theorem dX4_markOwners_28 : decode cX4_markOwners 28 = .ok (.invokevirtual 122, 3) := by decide +kernel
theorem dX4_markOwners_31 : decode cX4_markOwners 31 = .ok (.istore_n 3, 1) := by decide +kernel
theorem dX4_markOwners_32 : decode cX4_markOwners 32 = .ok (.iload_n 3, 1) := by decide +kernel
theorem dX4_markOwners_33 : decode cX4_markOwners 33 = .ok (.istore 4, 2) := by decide +kernel
theorem dX4_markOwners_35 : decode cX4_markOwners 35 = .ok (.iload 4, 2) := by decide +kernel
theorem dX4_markOwners_37 : decode cX4_markOwners 37 = .ok (.iload_n 3, 1) := by decide +kernel
theorem dX4_markOwners_38 : decode cX4_markOwners 38 = .ok (.aload_n 0, 1) := by decide +kernel
theorem dX4_markOwners_39 : decode cX4_markOwners 39 = .ok (.iload_n 1, 1) := by decide +kernel
theorem dX4_markOwners_40 : decode cX4_markOwners 40 = .ok (.iconst 3, 1) := by decide +kernel
theorem dX4_markOwners_41 : decode cX4_markOwners 41 = .ok (.invokevirtual 122, 3) := by decide +kernel
theorem dX4_markOwners_44 : decode cX4_markOwners 44 = .ok (.iadd, 1) := by decide +kernel
theorem dX4_markOwners_45 : decode cX4_markOwners 45 = .ok (.if_icmp .ge 57, 3) := by decide +kernel
theorem dX4_markOwners_48 : decode cX4_markOwners 48 = .ok (.iload_n 2, 1) := by decide +kernel
theorem dX4_markOwners_49 : decode cX4_markOwners 49 = .ok (.istore 5, 2) := by decide +kernel
theorem dX4_markOwners_51 : decode cX4_markOwners 51 = .ok (.iload 5, 2) := by decide +kernel
theorem dX4_markOwners_53 : decode cX4_markOwners 53 = .ok (.iload_n 2, 1) := by decide +kernel
theorem dX4_markOwners_54 : decode cX4_markOwners 54 = .ok (.aload_n 0, 1) := by decide +kernel
theorem dX4_markOwners_55 : decode cX4_markOwners 55 = .ok (.iload_n 1, 1) := by decide +kernel
theorem dX4_markOwners_56 : decode cX4_markOwners 56 = .ok (.iconst 2, 1) := by decide +kernel
theorem dX4_markOwners_57 : decode cX4_markOwners 57 = .ok (.invokevirtual 122, 3) := by decide +kernel
theorem dX4_markOwners_60 : decode cX4_markOwners 60 = .ok (.iadd, 1) := by decide +kernel
theorem dX4_markOwners_61 : decode cX4_markOwners 61 = .ok (.if_icmp .ge 35, 3) := by decide +kernel
theorem dX4_markOwners_64 : decode cX4_markOwners 64 = .ok (.iload 5, 2) := by decide +kernel
theorem dX4_markOwners_66 : decode cX4_markOwners 66 = .ok (.iload 4, 2) := by decide +kernel
theorem dX4_markOwners_68 : decode cX4_markOwners 68 = .ok (.invokestatic 125, 3) := by decide +kernel
theorem dX4_markOwners_71 : decode cX4_markOwners 71 = .ok (.ifCond .eq 19, 3) := by decide +kernel
theorem dX4_markOwners_74 : decode cX4_markOwners 74 = .ok (.aload_n 0, 1) := by decide +kernel
theorem dX4_markOwners_75 : decode cX4_markOwners 75 = .ok (.getfield 21, 3) := by decide +kernel
theorem dX4_markOwners_78 : decode cX4_markOwners 78 = .ok (.iload 4, 2) := by decide +kernel
theorem dX4_markOwners_80 : decode cX4_markOwners 80 = .ok (.bipush 12, 2) := by decide +kernel
theorem dX4_markOwners_82 : decode cX4_markOwners 82 = .ok (.imul, 1) := by decide +kernel
theorem dX4_markOwners_83 : decode cX4_markOwners 83 = .ok (.iload 5, 2) := by decide +kernel
theorem dX4_markOwners_85 : decode cX4_markOwners 85 = .ok (.iadd, 1) := by decide +kernel
theorem dX4_markOwners_86 : decode cX4_markOwners 86 = .ok (.iload_n 1, 1) := by decide +kernel
theorem dX4_markOwners_87 : decode cX4_markOwners 87 = .ok (.iconst 1, 1) := by decide +kernel
theorem dX4_markOwners_88 : decode cX4_markOwners 88 = .ok (.iadd, 1) := by decide +kernel
theorem dX4_markOwners_89 : decode cX4_markOwners 89 = .ok (.iastore, 1) := by decide +kernel
theorem dX4_markOwners_90 : decode cX4_markOwners 90 = .ok (.iinc 5 1, 3) := by decide +kernel
theorem dX4_markOwners_93 : decode cX4_markOwners 93 = .ok (.goto (-42), 3) := by decide +kernel
theorem dX4_markOwners_96 : decode cX4_markOwners 96 = .ok (.iinc 4 1, 3) := by decide +kernel
theorem dX4_markOwners_99 : decode cX4_markOwners 99 = .ok (.goto (-64), 3) := by decide +kernel
theorem dX4_markOwners_102 : decode cX4_markOwners 102 = .ok (.iinc 1 1, 3) := by decide +kernel
theorem dX4_markOwners_105 : decode cX4_markOwners 105 = .ok (.goto (-95), 3) := by decide +kernel
theorem dX4_markOwners_108 : decode cX4_markOwners 108 = .ok (.return_, 1) := by decide +kernel
set_option maxRecDepth 20000 in
theorem ggX4_liesOnTwo_X4_numberOf : GoodIn wsX4_liesOnTwo wsX4_numberOf := goodIn_r _ [7, 8, 9, 21, 22, 23, 24, 25, 26, 27, 28, 29, 30, 31, 32] (by decide +kernel) (by decide +kernel)
set_option maxRecDepth 20000 in
theorem gX4_liesOnTwo_X4_numberOf : GoodIn wsX4_liesOnTwo (wsV RX4 122 RX4 yX4_numberOf wsX4_numberOf) := goodIn_app (goodIn_of _ (by decide +kernel)) ggX4_liesOnTwo_X4_numberOf
set_option maxRecDepth 20000 in
theorem ggX4_liesOnTwo_X4_ownerOf : GoodIn wsX4_liesOnTwo wsX4_ownerOf := goodIn_r _ [13, 14, 15, 16, 6, 17, 18, 19, 20, 21, 22, 23, 24, 25, 26, 27, 28, 29, 30, 31, 32] (by decide +kernel) (by decide +kernel)
set_option maxRecDepth 20000 in
theorem gX4_liesOnTwo_X4_ownerOf : GoodIn wsX4_liesOnTwo (wsV RX4 129 RX4 yX4_ownerOf wsX4_ownerOf) := goodIn_app (goodIn_of _ (by decide +kernel)) ggX4_liesOnTwo_X4_ownerOf
theorem dX4_liesOnTwo_0 : decode cX4_liesOnTwo 0 = .ok (.aload_n 0, 1) := by decide +kernel
theorem dX4_liesOnTwo_1 : decode cX4_liesOnTwo 1 = .ok (.iload_n 1, 1) := by decide +kernel
theorem dX4_liesOnTwo_2 : decode cX4_liesOnTwo 2 = .ok (.iconst 0, 1) := by decide +kernel
theorem dX4_liesOnTwo_3 : decode cX4_liesOnTwo 3 = .ok (.invokevirtual 122, 3) := by decide +kernel
theorem dX4_liesOnTwo_6 : decode cX4_liesOnTwo 6 = .ok (.istore_n 2, 1) := by decide +kernel
theorem dX4_liesOnTwo_7 : decode cX4_liesOnTwo 7 = .ok (.aload_n 0, 1) := by decide +kernel
theorem dX4_liesOnTwo_8 : decode cX4_liesOnTwo 8 = .ok (.iload_n 1, 1) := by decide +kernel
theorem dX4_liesOnTwo_9 : decode cX4_liesOnTwo 9 = .ok (.iconst 1, 1) := by decide +kernel
theorem dX4_liesOnTwo_10 : decode cX4_liesOnTwo 10 = .ok (.invokevirtual 122, 3) := by decide +kernel
theorem dX4_liesOnTwo_13 : decode cX4_liesOnTwo 13 = .ok (.istore_n 3, 1) := by decide +kernel
theorem dX4_liesOnTwo_14 : decode cX4_liesOnTwo 14 = .ok (.iconst 0, 1) := by decide +kernel
theorem dX4_liesOnTwo_15 : decode cX4_liesOnTwo 15 = .ok (.istore 4, 2) := by decide +kernel
theorem dX4_liesOnTwo_17 : decode cX4_liesOnTwo 17 = .ok (.iload_n 3, 1) := by decide +kernel
theorem dX4_liesOnTwo_18 : decode cX4_liesOnTwo 18 = .ok (.istore 5, 2) := by decide +kernel
theorem dX4_liesOnTwo_20 : decode cX4_liesOnTwo 20 = .ok (.iload 5, 2) := by decide +kernel
theorem dX4_liesOnTwo_22 : decode cX4_liesOnTwo 22 = .ok (.iload_n 3, 1) := by decide +kernel
theorem dX4_liesOnTwo_23 : decode cX4_liesOnTwo 23 = .ok (.aload_n 0, 1) := by decide +kernel
theorem dX4_liesOnTwo_24 : decode cX4_liesOnTwo 24 = .ok (.iload_n 1, 1) := by decide +kernel
theorem dX4_liesOnTwo_25 : decode cX4_liesOnTwo 25 = .ok (.iconst 3, 1) := by decide +kernel
theorem dX4_liesOnTwo_26 : decode cX4_liesOnTwo 26 = .ok (.invokevirtual 122, 3) := by decide +kernel
theorem dX4_liesOnTwo_29 : decode cX4_liesOnTwo 29 = .ok (.iadd, 1) := by decide +kernel
theorem dX4_liesOnTwo_30 : decode cX4_liesOnTwo 30 = .ok (.if_icmp .ge 81, 3) := by decide +kernel
theorem dX4_liesOnTwo_33 : decode cX4_liesOnTwo 33 = .ok (.iload_n 2, 1) := by decide +kernel
theorem dX4_liesOnTwo_34 : decode cX4_liesOnTwo 34 = .ok (.istore 6, 2) := by decide +kernel
theorem dX4_liesOnTwo_36 : decode cX4_liesOnTwo 36 = .ok (.iload 6, 2) := by decide +kernel
theorem dX4_liesOnTwo_38 : decode cX4_liesOnTwo 38 = .ok (.iload_n 2, 1) := by decide +kernel
theorem dX4_liesOnTwo_39 : decode cX4_liesOnTwo 39 = .ok (.aload_n 0, 1) := by decide +kernel
theorem dX4_liesOnTwo_40 : decode cX4_liesOnTwo 40 = .ok (.iload_n 1, 1) := by decide +kernel
theorem dX4_liesOnTwo_41 : decode cX4_liesOnTwo 41 = .ok (.iconst 2, 1) := by decide +kernel
theorem dX4_liesOnTwo_42 : decode cX4_liesOnTwo 42 = .ok (.invokevirtual 122, 3) := by decide +kernel
theorem dX4_liesOnTwo_45 : decode cX4_liesOnTwo 45 = .ok (.iadd, 1) := by decide +kernel
theorem dX4_liesOnTwo_46 : decode cX4_liesOnTwo 46 = .ok (.if_icmp .ge 59, 3) := by decide +kernel
theorem dX4_liesOnTwo_49 : decode cX4_liesOnTwo 49 = .ok (.aload_n 0, 1) := by decide +kernel
theorem dX4_liesOnTwo_50 : decode cX4_liesOnTwo 50 = .ok (.aload_n 0, 1) := by decide +kernel
theorem dX4_liesOnTwo_51 : decode cX4_liesOnTwo 51 = .ok (.getfield 24, 3) := by decide +kernel
theorem dX4_liesOnTwo_54 : decode cX4_liesOnTwo 54 = .ok (.iconst 1, 1) := by decide +kernel
theorem dX4_liesOnTwo_55 : decode cX4_liesOnTwo 55 = .ok (.isub, 1) := by decide +kernel
theorem dX4_liesOnTwo_56 : decode cX4_liesOnTwo 56 = .ok (.iload 6, 2) := by decide +kernel
theorem dX4_liesOnTwo_58 : decode cX4_liesOnTwo 58 = .ok (.isub, 1) := by decide +kernel
theorem dX4_liesOnTwo_59 : decode cX4_liesOnTwo 59 = .ok (.aload_n 0, 1) := by decide +kernel
theorem dX4_liesOnTwo_60 : decode cX4_liesOnTwo 60 = .ok (.getfield 28, 3) := by decide +kernel
theorem dX4_liesOnTwo_63 : decode cX4_liesOnTwo 63 = .ok (.iconst 1, 1) := by decide +kernel
theorem dX4_liesOnTwo_64 : decode cX4_liesOnTwo 64 = .ok (.isub, 1) := by decide +kernel
theorem dX4_liesOnTwo_65 : decode cX4_liesOnTwo 65 = .ok (.iload 5, 2) := by decide +kernel
theorem dX4_liesOnTwo_67 : decode cX4_liesOnTwo 67 = .ok (.isub, 1) := by decide +kernel
theorem dX4_liesOnTwo_68 : decode cX4_liesOnTwo 68 = .ok (.invokevirtual 129, 3) := by decide +kernel
theorem dX4_liesOnTwo_71 : decode cX4_liesOnTwo 71 = .ok (.istore 7, 2) := by decide +kernel
theorem dX4_liesOnTwo_73 : decode cX4_liesOnTwo 73 = .ok (.iload 4, 2) := by decide +kernel
theorem dX4_liesOnTwo_75 : decode cX4_liesOnTwo 75 = .ok (.ifCond .ne 10, 3) := by decide +kernel
theorem dX4_liesOnTwo_78 : decode cX4_liesOnTwo 78 = .ok (.iload 7, 2) := by decide +kernel
theorem dX4_liesOnTwo_80 : decode cX4_liesOnTwo 80 = .ok (.istore 4, 2) := by decide +kernel
theorem dX4_liesOnTwo_82 : decode cX4_liesOnTwo 82 = .ok (.goto 17, 3) := by decide +kernel
theorem dX4_liesOnTwo_85 : decode cX4_liesOnTwo 85 = .ok (.iload 7, 2) := by decide +kernel
theorem dX4_liesOnTwo_87 : decode cX4_liesOnTwo 87 = .ok (.ifCond .eq 12, 3) := by decide +kernel
theorem dX4_liesOnTwo_90 : decode cX4_liesOnTwo 90 = .ok (.iload 7, 2) := by decide +kernel
theorem dX4_liesOnTwo_92 : decode cX4_liesOnTwo 92 = .ok (.iload 4, 2) := by decide +kernel
theorem dX4_liesOnTwo_94 : decode cX4_liesOnTwo 94 = .ok (.if_icmp .eq 5, 3) := by decide +kernel
theorem dX4_liesOnTwo_97 : decode cX4_liesOnTwo 97 = .ok (.iconst 1, 1) := by decide +kernel
theorem dX4_liesOnTwo_98 : decode cX4_liesOnTwo 98 = .ok (.ireturn, 1) := by decide +kernel
theorem dX4_liesOnTwo_99 : decode cX4_liesOnTwo 99 = .ok (.iinc 6 1, 3) := by decide +kernel
theorem dX4_liesOnTwo_102 : decode cX4_liesOnTwo 102 = .ok (.goto (-66), 3) := by decide +kernel
theorem dX4_liesOnTwo_105 : decode cX4_liesOnTwo 105 = .ok (.iinc 5 1, 3) := by decide +kernel
theorem dX4_liesOnTwo_108 : decode cX4_liesOnTwo 108 = .ok (.goto (-88), 3) := by decide +kernel
theorem dX4_liesOnTwo_111 : decode cX4_liesOnTwo 111 = .ok (.iconst 0, 1) := by decide +kernel
theorem dX4_liesOnTwo_112 : decode cX4_liesOnTwo 112 = .ok (.ireturn, 1) := by decide +kernel
set_option maxRecDepth 20000 in
theorem ggX4_ownerOf_X4_isSquare : GoodIn wsX4_ownerOf wsX4_isSquare := goodIn_r _ [5, 6, 7, 8] (by decide +kernel) (by decide +kernel)
set_option maxRecDepth 20000 in
theorem gX4_ownerOf_X4_isSquare : GoodIn wsX4_ownerOf (va_wsS RX4 125 yX4_isSquare wsX4_isSquare) := goodIn_app (goodIn_of _ (by decide +kernel)) ggX4_ownerOf_X4_isSquare
theorem dX4_ownerOf_0 : decode cX4_ownerOf 0 = .ok (.iload_n 1, 1) := by decide +kernel
theorem dX4_ownerOf_1 : decode cX4_ownerOf 1 = .ok (.iload_n 2, 1) := by decide +kernel
theorem dX4_ownerOf_2 : decode cX4_ownerOf 2 = .ok (.invokestatic 125, 3) := by decide +kernel
theorem dX4_ownerOf_5 : decode cX4_ownerOf 5 = .ok (.ifCond .eq 17, 3) := by decide +kernel
theorem dX4_ownerOf_8 : decode cX4_ownerOf 8 = .ok (.aload_n 0, 1) := by decide +kernel
theorem dX4_ownerOf_9 : decode cX4_ownerOf 9 = .ok (.getfield 21, 3) := by decide +kernel
theorem dX4_ownerOf_12 : decode cX4_ownerOf 12 = .ok (.iload_n 2, 1) := by decide +kernel
theorem dX4_ownerOf_13 : decode cX4_ownerOf 13 = .ok (.bipush 12, 2) := by decide +kernel
theorem dX4_ownerOf_15 : decode cX4_ownerOf 15 = .ok (.imul, 1) := by decide +kernel
theorem dX4_ownerOf_16 : decode cX4_ownerOf 16 = .ok (.iload_n 1, 1) := by decide +kernel
theorem dX4_ownerOf_17 : decode cX4_ownerOf 17 = .ok (.iadd, 1) := by decide +kernel
theorem dX4_ownerOf_18 : decode cX4_ownerOf 18 = .ok (.iaload, 1) := by decide +kernel
theorem dX4_ownerOf_19 : decode cX4_ownerOf 19 = .ok (.goto 4, 3) := by decide +kernel
theorem dX4_ownerOf_22 : decode cX4_ownerOf 22 = .ok (.iconst 0, 1) := by decide +kernel
theorem dX4_ownerOf_23 : decode cX4_ownerOf 23 = .ok (.ireturn, 1) := by decide +kernel
set_option maxRecDepth 20000 in
theorem ggX4_isSquare_X6_within : GoodIn wsX4_isSquare wsX6_within := goodIn_r _ [3] (by decide +kernel) (by decide +kernel)
set_option maxRecDepth 20000 in
theorem gX4_isSquare_X6_within_n132 : GoodIn wsX4_isSquare (wsX6_within) := ggX4_isSquare_X6_within
theorem dX4_isSquare_0 : decode cX4_isSquare 0 = .ok (.iload_n 0, 1) := by decide +kernel
theorem dX4_isSquare_1 : decode cX4_isSquare 1 = .ok (.iconst 0, 1) := by decide +kernel
theorem dX4_isSquare_2 : decode cX4_isSquare 2 = .ok (.bipush 11, 2) := by decide +kernel
theorem dX4_isSquare_4 : decode cX4_isSquare 4 = .ok (.invokestatic 132, 3) := by decide +kernel
theorem dX4_isSquare_7 : decode cX4_isSquare 7 = .ok (.ifCond .eq 17, 3) := by decide +kernel
theorem dX4_isSquare_10 : decode cX4_isSquare 10 = .ok (.iload_n 1, 1) := by decide +kernel
theorem dX4_isSquare_11 : decode cX4_isSquare 11 = .ok (.iconst 0, 1) := by decide +kernel
theorem dX4_isSquare_12 : decode cX4_isSquare 12 = .ok (.bipush 11, 2) := by decide +kernel
theorem dX4_isSquare_14 : decode cX4_isSquare 14 = .ok (.invokestatic 132, 3) := by decide +kernel
theorem dX4_isSquare_17 : decode cX4_isSquare 17 = .ok (.ifCond .eq 7, 3) := by decide +kernel
theorem dX4_isSquare_20 : decode cX4_isSquare 20 = .ok (.iconst 1, 1) := by decide +kernel
theorem dX4_isSquare_21 : decode cX4_isSquare 21 = .ok (.goto 4, 3) := by decide +kernel
theorem dX4_isSquare_24 : decode cX4_isSquare 24 = .ok (.iconst 0, 1) := by decide +kernel
theorem dX4_isSquare_25 : decode cX4_isSquare 25 = .ok (.ireturn, 1) := by decide +kernel
set_option maxRecDepth 20000 in
theorem ggX5_init_J7_fill_53178 : GoodIn wsX5_init wsJ7_fill_53178 := goodIn_r _ [11] (by decide +kernel) (by decide +kernel)
set_option maxRecDepth 20000 in
theorem gX5_init_J7_fill_53178 : GoodIn wsX5_init (va_wsS RX5 21 yJ7_fill_53178 wsJ7_fill_53178) := goodIn_app (goodIn_of _ (by decide +kernel)) ggX5_init_J7_fill_53178
theorem dX5_init_0 : decode cX5_init 0 = .ok (.aload_n 0, 1) := by decide +kernel
theorem dX5_init_1 : decode cX5_init 1 = .ok (.invokespecial 5, 3) := by decide +kernel
theorem dX5_init_4 : decode cX5_init 4 = .ok (.aload_n 0, 1) := by decide +kernel
theorem dX5_init_5 : decode cX5_init 5 = .ok (.bipush 36, 2) := by decide +kernel
theorem dX5_init_7 : decode cX5_init 7 = .ok (.newarray .int, 2) := by decide +kernel
theorem dX5_init_9 : decode cX5_init 9 = .ok (.putfield 11, 3) := by decide +kernel
theorem dX5_init_12 : decode cX5_init 12 = .ok (.aload_n 0, 1) := by decide +kernel
theorem dX5_init_13 : decode cX5_init 13 = .ok (.bipush 6, 2) := by decide +kernel
theorem dX5_init_15 : decode cX5_init 15 = .ok (.newarray .int, 2) := by decide +kernel
theorem dX5_init_17 : decode cX5_init 17 = .ok (.putfield 15, 3) := by decide +kernel
theorem dX5_init_20 : decode cX5_init 20 = .ok (.aload_n 0, 1) := by decide +kernel
theorem dX5_init_21 : decode cX5_init 21 = .ok (.sipush 384, 3) := by decide +kernel
theorem dX5_init_24 : decode cX5_init 24 = .ok (.newarray .int, 2) := by decide +kernel
theorem dX5_init_26 : decode cX5_init 26 = .ok (.putfield 18, 3) := by decide +kernel
theorem dX5_init_29 : decode cX5_init 29 = .ok (.aload_n 0, 1) := by decide +kernel
theorem dX5_init_30 : decode cX5_init 30 = .ok (.getfield 11, 3) := by decide +kernel
theorem dX5_init_33 : decode cX5_init 33 = .ok (.bipush 30, 2) := by decide +kernel
theorem dX5_init_35 : decode cX5_init 35 = .ok (.invokestatic 21, 3) := by decide +kernel
theorem dX5_init_38 : decode cX5_init 38 = .ok (.return_, 1) := by decide +kernel
theorem dX5_putChange_0 : decode cX5_putChange 0 = .ok (.aload_n 0, 1) := by decide +kernel
theorem dX5_putChange_1 : decode cX5_putChange 1 = .ok (.getfield 11, 3) := by decide +kernel
theorem dX5_putChange_4 : decode cX5_putChange 4 = .ok (.iload_n 1, 1) := by decide +kernel
theorem dX5_putChange_5 : decode cX5_putChange 5 = .ok (.bipush 6, 2) := by decide +kernel
theorem dX5_putChange_7 : decode cX5_putChange 7 = .ok (.imul, 1) := by decide +kernel
theorem dX5_putChange_8 : decode cX5_putChange 8 = .ok (.iload_n 2, 1) := by decide +kernel
theorem dX5_putChange_9 : decode cX5_putChange 9 = .ok (.iadd, 1) := by decide +kernel
theorem dX5_putChange_10 : decode cX5_putChange 10 = .ok (.iaload, 1) := by decide +kernel
theorem dX5_putChange_11 : decode cX5_putChange 11 = .ok (.istore 4, 2) := by decide +kernel
theorem dX5_putChange_13 : decode cX5_putChange 13 = .ok (.aload_n 0, 1) := by decide +kernel
theorem dX5_putChange_14 : decode cX5_putChange 14 = .ok (.getfield 11, 3) := by decide +kernel
theorem dX5_putChange_17 : decode cX5_putChange 17 = .ok (.iload_n 1, 1) := by decide +kernel
theorem dX5_putChange_18 : decode cX5_putChange 18 = .ok (.bipush 6, 2) := by decide +kernel
theorem dX5_putChange_20 : decode cX5_putChange 20 = .ok (.imul, 1) := by decide +kernel
theorem dX5_putChange_21 : decode cX5_putChange 21 = .ok (.iload_n 2, 1) := by decide +kernel
theorem dX5_putChange_22 : decode cX5_putChange 22 = .ok (.iadd, 1) := by decide +kernel
theorem dX5_putChange_23 : decode cX5_putChange 23 = .ok (.iload_n 3, 1) := by decide +kernel
theorem dX5_putChange_24 : decode cX5_putChange 24 = .ok (.iastore, 1) := by decide +kernel
theorem dX5_putChange_25 : decode cX5_putChange 25 = .ok (.iload 4, 2) := by decide +kernel
theorem dX5_putChange_27 : decode cX5_putChange 27 = .ok (.ireturn, 1) := by decide +kernel
theorem dX5_putStain_0 : decode cX5_putStain 0 = .ok (.aload_n 0, 1) := by decide +kernel
theorem dX5_putStain_1 : decode cX5_putStain 1 = .ok (.getfield 15, 3) := by decide +kernel
theorem dX5_putStain_4 : decode cX5_putStain 4 = .ok (.iload_n 1, 1) := by decide +kernel
theorem dX5_putStain_5 : decode cX5_putStain 5 = .ok (.iaload, 1) := by decide +kernel
theorem dX5_putStain_6 : decode cX5_putStain 6 = .ok (.istore_n 3, 1) := by decide +kernel
theorem dX5_putStain_7 : decode cX5_putStain 7 = .ok (.aload_n 0, 1) := by decide +kernel
theorem dX5_putStain_8 : decode cX5_putStain 8 = .ok (.getfield 15, 3) := by decide +kernel
theorem dX5_putStain_11 : decode cX5_putStain 11 = .ok (.iload_n 1, 1) := by decide +kernel
theorem dX5_putStain_12 : decode cX5_putStain 12 = .ok (.iload_n 2, 1) := by decide +kernel
theorem dX5_putStain_13 : decode cX5_putStain 13 = .ok (.iastore, 1) := by decide +kernel
theorem dX5_putStain_14 : decode cX5_putStain 14 = .ok (.iload_n 3, 1) := by decide +kernel
theorem dX5_putStain_15 : decode cX5_putStain 15 = .ok (.ireturn, 1) := by decide +kernel
theorem dX5_isIn_0 : decode cX5_isIn 0 = .ok (.iload_n 0, 1) := by decide +kernel
theorem dX5_isIn_1 : decode cX5_isIn 1 = .ok (.iload_n 1, 1) := by decide +kernel
theorem dX5_isIn_2 : decode cX5_isIn 2 = .ok (.ishr, 1) := by decide +kernel
theorem dX5_isIn_3 : decode cX5_isIn 3 = .ok (.iconst 1, 1) := by decide +kernel
theorem dX5_isIn_4 : decode cX5_isIn 4 = .ok (.iand, 1) := by decide +kernel
theorem dX5_isIn_5 : decode cX5_isIn 5 = .ok (.ifCond .eq 7, 3) := by decide +kernel
theorem dX5_isIn_8 : decode cX5_isIn 8 = .ok (.iconst 1, 1) := by decide +kernel
theorem dX5_isIn_9 : decode cX5_isIn 9 = .ok (.goto 4, 3) := by decide +kernel
theorem dX5_isIn_12 : decode cX5_isIn 12 = .ok (.iconst 0, 1) := by decide +kernel
theorem dX5_isIn_13 : decode cX5_isIn 13 = .ok (.ireturn, 1) := by decide +kernel
set_option maxRecDepth 20000 in
theorem ggX5_find_X5_isIn : GoodIn wsX5_find wsX5_isIn := goodIn_r _ [7] (by decide +kernel) (by decide +kernel)
set_option maxRecDepth 20000 in
theorem gX5_find_X5_isIn : GoodIn wsX5_find (va_wsS RX5 34 yX5_isIn wsX5_isIn) := goodIn_app (goodIn_of _ (by decide +kernel)) ggX5_find_X5_isIn
set_option maxRecDepth 20000 in
theorem ggX5_find_X5_leastRest : GoodIn wsX5_find wsX5_leastRest := goodIn_r _ [11, 12, 13, 14, 6, 15, 1, 4, 5, 7, 16, 17, 18, 19, 20, 21, 22, 23, 24, 2, 25, 26, 27, 28, 29, 30, 31, 32, 3, 33, 34, 35, 36, 37, 38, 39] (by decide +kernel) (by decide +kernel)
set_option maxRecDepth 20000 in
theorem gX5_find_X5_leastRest : GoodIn wsX5_find (wsV RX5 38 RX5 yX5_leastRest wsX5_leastRest) := goodIn_app (goodIn_of _ (by decide +kernel)) ggX5_find_X5_leastRest
theorem dX5_find_0 : decode cX5_find 0 = .ok (.aload_n 0, 1) := by decide +kernel
theorem dX5_find_1 : decode cX5_find 1 = .ok (.iload_n 1, 1) := by decide +kernel
theorem dX5_find_2 : decode cX5_find 2 = .ok (.putfield 27, 3) := by decide +kernel
theorem dX5_find_5 : decode cX5_find 5 = .ok (.aload_n 0, 1) := by decide +kernel
theorem dX5_find_6 : decode cX5_find 6 = .ok (.iload_n 2, 1) := by decide +kernel
theorem dX5_find_7 : decode cX5_find 7 = .ok (.putfield 31, 3) := by decide +kernel
theorem dX5_find_10 : decode cX5_find 10 = .ok (.bipush 63, 2) := by decide +kernel
theorem dX5_find_12 : decode cX5_find 12 = .ok (.istore_n 3, 1) := by decide +kernel
theorem dX5_find_13 : decode cX5_find 13 = .ok (.iload_n 3, 1) := by decide +kernel
theorem dX5_find_14 : decode cX5_find 14 = .ok (.ifCond .le 61, 3) := by decide +kernel
theorem dX5_find_17 : decode cX5_find 17 = .ok (.iconst 0, 1) := by decide +kernel
theorem dX5_find_18 : decode cX5_find 18 = .ok (.istore 4, 2) := by decide +kernel
theorem dX5_find_20 : decode cX5_find 20 = .ok (.iload 4, 2) := by decide +kernel
theorem dX5_find_22 : decode cX5_find 22 = .ok (.bipush 6, 2) := by decide +kernel
theorem dX5_find_24 : decode cX5_find 24 = .ok (.if_icmp .ge 45, 3) := by decide +kernel
theorem dX5_find_27 : decode cX5_find 27 = .ok (.iload_n 3, 1) := by decide +kernel
theorem dX5_find_28 : decode cX5_find 28 = .ok (.iload_n 1, 1) := by decide +kernel
theorem dX5_find_29 : decode cX5_find 29 = .ok (.iconst (-1), 1) := by decide +kernel
theorem dX5_find_30 : decode cX5_find 30 = .ok (.ixor, 1) := by decide +kernel
theorem dX5_find_31 : decode cX5_find 31 = .ok (.iand, 1) := by decide +kernel
theorem dX5_find_32 : decode cX5_find 32 = .ok (.ifCond .ne 31, 3) := by decide +kernel
theorem dX5_find_35 : decode cX5_find 35 = .ok (.iload_n 3, 1) := by decide +kernel
theorem dX5_find_36 : decode cX5_find 36 = .ok (.iload 4, 2) := by decide +kernel
theorem dX5_find_38 : decode cX5_find 38 = .ok (.invokestatic 34, 3) := by decide +kernel
theorem dX5_find_41 : decode cX5_find 41 = .ok (.ifCond .eq 22, 3) := by decide +kernel
theorem dX5_find_44 : decode cX5_find 44 = .ok (.aload_n 0, 1) := by decide +kernel
theorem dX5_find_45 : decode cX5_find 45 = .ok (.getfield 18, 3) := by decide +kernel
theorem dX5_find_48 : decode cX5_find 48 = .ok (.iload_n 3, 1) := by decide +kernel
theorem dX5_find_49 : decode cX5_find 49 = .ok (.bipush 6, 2) := by decide +kernel
theorem dX5_find_51 : decode cX5_find 51 = .ok (.imul, 1) := by decide +kernel
theorem dX5_find_52 : decode cX5_find 52 = .ok (.iload 4, 2) := by decide +kernel
theorem dX5_find_54 : decode cX5_find 54 = .ok (.iadd, 1) := by decide +kernel
theorem dX5_find_55 : decode cX5_find 55 = .ok (.aload_n 0, 1) := by decide +kernel
theorem dX5_find_56 : decode cX5_find 56 = .ok (.iload_n 3, 1) := by decide +kernel
theorem dX5_find_57 : decode cX5_find 57 = .ok (.iload 4, 2) := by decide +kernel
theorem dX5_find_59 : decode cX5_find 59 = .ok (.invokevirtual 38, 3) := by decide +kernel
theorem dX5_find_62 : decode cX5_find 62 = .ok (.iastore, 1) := by decide +kernel
theorem dX5_find_63 : decode cX5_find 63 = .ok (.iinc 4 1, 3) := by decide +kernel
theorem dX5_find_66 : decode cX5_find 66 = .ok (.goto (-46), 3) := by decide +kernel
theorem dX5_find_69 : decode cX5_find 69 = .ok (.iinc 3 (-1), 3) := by decide +kernel
theorem dX5_find_72 : decode cX5_find 72 = .ok (.goto (-59), 3) := by decide +kernel
theorem dX5_find_75 : decode cX5_find 75 = .ok (.return_, 1) := by decide +kernel
set_option maxRecDepth 20000 in
theorem ggX5_least_X5_restOf : GoodIn wsX5_least wsX5_restOf := goodIn_r _ [5, 6, 7, 8, 9, 10, 11, 12, 13, 14] (by decide +kernel) (by decide +kernel)
set_option maxRecDepth 20000 in
theorem gX5_least_X5_restOf : GoodIn wsX5_least (wsV RX5 42 RX5 yX5_restOf wsX5_restOf) := goodIn_app (goodIn_of _ (by decide +kernel)) ggX5_least_X5_restOf
theorem dX5_least_0 : decode cX5_least 0 = .ok (.aload_n 0, 1) := by decide +kernel
theorem dX5_least_1 : decode cX5_least 1 = .ok (.iconst 1, 1) := by decide +kernel
theorem dX5_least_2 : decode cX5_least 2 = .ok (.iload_n 1, 1) := by decide +kernel
theorem dX5_least_3 : decode cX5_least 3 = .ok (.ishl, 1) := by decide +kernel
theorem dX5_least_4 : decode cX5_least 4 = .ok (.iload_n 1, 1) := by decide +kernel
theorem dX5_least_5 : decode cX5_least 5 = .ok (.invokevirtual 42, 3) := by decide +kernel
theorem dX5_least_8 : decode cX5_least 8 = .ok (.ireturn, 1) := by decide +kernel
set_option maxRecDepth 20000 in
theorem ggX5_kindAt_X5_nextKind : GoodIn wsX5_kindAt wsX5_nextKind := goodIn_r _ [5, 6, 7, 8, 4, 9, 10, 11, 12, 13, 14, 15, 16, 17, 18, 19, 20, 21, 22, 23, 24, 25, 26, 27, 28, 29, 30, 31, 32, 33, 34, 35] (by decide +kernel) (by decide +kernel)
set_option maxRecDepth 20000 in
theorem gX5_kindAt_X5_nextKind : GoodIn wsX5_kindAt (wsV RX5 45 RX5 yX5_nextKind wsX5_nextKind) := goodIn_app (goodIn_of _ (by decide +kernel)) ggX5_kindAt_X5_nextKind
theorem dX5_kindAt_0 : decode cX5_kindAt 0 = .ok (.iload_n 2, 1) := by decide +kernel
theorem dX5_kindAt_1 : decode cX5_kindAt 1 = .ok (.bipush 6, 2) := by decide +kernel
theorem dX5_kindAt_3 : decode cX5_kindAt 3 = .ok (.if_icmp .lt 6, 3) := by decide +kernel
theorem dX5_kindAt_6 : decode cX5_kindAt 6 = .ok (.bipush (-4), 2) := by decide +kernel
theorem dX5_kindAt_8 : decode cX5_kindAt 8 = .ok (.ireturn, 1) := by decide +kernel
theorem dX5_kindAt_9 : decode cX5_kindAt 9 = .ok (.iload_n 1, 1) := by decide +kernel
theorem dX5_kindAt_10 : decode cX5_kindAt 10 = .ok (.istore_n 3, 1) := by decide +kernel
theorem dX5_kindAt_11 : decode cX5_kindAt 11 = .ok (.iconst 1, 1) := by decide +kernel
theorem dX5_kindAt_12 : decode cX5_kindAt 12 = .ok (.iload_n 1, 1) := by decide +kernel
theorem dX5_kindAt_13 : decode cX5_kindAt 13 = .ok (.ishl, 1) := by decide +kernel
theorem dX5_kindAt_14 : decode cX5_kindAt 14 = .ok (.istore 4, 2) := by decide +kernel
theorem dX5_kindAt_16 : decode cX5_kindAt 16 = .ok (.iconst 0, 1) := by decide +kernel
theorem dX5_kindAt_17 : decode cX5_kindAt 17 = .ok (.istore 5, 2) := by decide +kernel
theorem dX5_kindAt_19 : decode cX5_kindAt 19 = .ok (.iload 5, 2) := by decide +kernel
theorem dX5_kindAt_21 : decode cX5_kindAt 21 = .ok (.iload_n 2, 1) := by decide +kernel
theorem dX5_kindAt_22 : decode cX5_kindAt 22 = .ok (.if_icmp .ge 34, 3) := by decide +kernel
theorem dX5_kindAt_25 : decode cX5_kindAt 25 = .ok (.aload_n 0, 1) := by decide +kernel
theorem dX5_kindAt_26 : decode cX5_kindAt 26 = .ok (.iload 4, 2) := by decide +kernel
theorem dX5_kindAt_28 : decode cX5_kindAt 28 = .ok (.iload_n 3, 1) := by decide +kernel
theorem dX5_kindAt_29 : decode cX5_kindAt 29 = .ok (.invokevirtual 45, 3) := by decide +kernel
theorem dX5_kindAt_32 : decode cX5_kindAt 32 = .ok (.istore_n 3, 1) := by decide +kernel
theorem dX5_kindAt_33 : decode cX5_kindAt 33 = .ok (.iload_n 3, 1) := by decide +kernel
theorem dX5_kindAt_34 : decode cX5_kindAt 34 = .ok (.bipush (-4), 2) := by decide +kernel
theorem dX5_kindAt_36 : decode cX5_kindAt 36 = .ok (.if_icmp .ne 6, 3) := by decide +kernel
theorem dX5_kindAt_39 : decode cX5_kindAt 39 = .ok (.bipush (-4), 2) := by decide +kernel
theorem dX5_kindAt_41 : decode cX5_kindAt 41 = .ok (.ireturn, 1) := by decide +kernel
theorem dX5_kindAt_42 : decode cX5_kindAt 42 = .ok (.iload 4, 2) := by decide +kernel
theorem dX5_kindAt_44 : decode cX5_kindAt 44 = .ok (.iconst 1, 1) := by decide +kernel
theorem dX5_kindAt_45 : decode cX5_kindAt 45 = .ok (.iload_n 3, 1) := by decide +kernel
theorem dX5_kindAt_46 : decode cX5_kindAt 46 = .ok (.ishl, 1) := by decide +kernel
theorem dX5_kindAt_47 : decode cX5_kindAt 47 = .ok (.ior, 1) := by decide +kernel
theorem dX5_kindAt_48 : decode cX5_kindAt 48 = .ok (.istore 4, 2) := by decide +kernel
theorem dX5_kindAt_50 : decode cX5_kindAt 50 = .ok (.iinc 5 1, 3) := by decide +kernel
theorem dX5_kindAt_53 : decode cX5_kindAt 53 = .ok (.goto (-34), 3) := by decide +kernel
theorem dX5_kindAt_56 : decode cX5_kindAt 56 = .ok (.iload_n 3, 1) := by decide +kernel
theorem dX5_kindAt_57 : decode cX5_kindAt 57 = .ok (.ireturn, 1) := by decide +kernel
set_option maxRecDepth 20000 in
theorem ggX5_leastRest_X5_nextKind : GoodIn wsX5_leastRest wsX5_nextKind := goodIn_r _ [5, 6, 7, 8, 4, 9, 10, 11, 12, 13, 14, 15, 16, 17, 18, 19, 20, 21, 22, 23, 24, 25, 26, 27, 28, 29, 30, 31, 32, 33, 34, 35] (by decide +kernel) (by decide +kernel)
set_option maxRecDepth 20000 in
theorem gX5_leastRest_X5_nextKind : GoodIn wsX5_leastRest (wsV RX5 45 RX5 yX5_nextKind wsX5_nextKind) := goodIn_app (goodIn_of _ (by decide +kernel)) ggX5_leastRest_X5_nextKind
set_option maxRecDepth 20000 in
theorem ggX5_leastRest_X5_minutesBy : GoodIn wsX5_leastRest wsX5_minutesBy := goodIn_r _ [13, 14, 15, 16, 4, 17, 18, 19, 20, 21, 22, 23, 24, 25, 26, 27, 28, 29, 30, 31, 32, 33, 34, 35] (by decide +kernel) (by decide +kernel)
set_option maxRecDepth 20000 in
theorem gX5_leastRest_X5_minutesBy : GoodIn wsX5_leastRest (wsV RX5 48 RX5 yX5_minutesBy wsX5_minutesBy) := goodIn_app (goodIn_of _ (by decide +kernel)) ggX5_leastRest_X5_minutesBy
theorem dX5_leastRest_0 : decode cX5_leastRest 0 = .ok (.aload_n 0, 1) := by decide +kernel
theorem dX5_leastRest_1 : decode cX5_leastRest 1 = .ok (.iload_n 1, 1) := by decide +kernel
theorem dX5_leastRest_2 : decode cX5_leastRest 2 = .ok (.iload_n 2, 1) := by decide +kernel
theorem dX5_leastRest_3 : decode cX5_leastRest 3 = .ok (.invokevirtual 45, 3) := by decide +kernel
theorem dX5_leastRest_6 : decode cX5_leastRest 6 = .ok (.istore_n 3, 1) := by decide +kernel
theorem dX5_leastRest_7 : decode cX5_leastRest 7 = .ok (.iload_n 3, 1) := by decide +kernel
theorem dX5_leastRest_8 : decode cX5_leastRest 8 = .ok (.bipush (-4), 2) := by decide +kernel
theorem dX5_leastRest_10 : decode cX5_leastRest 10 = .ok (.if_icmp .ne 7, 3) := by decide +kernel
theorem dX5_leastRest_13 : decode cX5_leastRest 13 = .ok (.iconst 0, 1) := by decide +kernel
theorem dX5_leastRest_14 : decode cX5_leastRest 14 = .ok (.goto 10, 3) := by decide +kernel
theorem dX5_leastRest_17 : decode cX5_leastRest 17 = .ok (.aload_n 0, 1) := by decide +kernel
theorem dX5_leastRest_18 : decode cX5_leastRest 18 = .ok (.iload_n 1, 1) := by decide +kernel
theorem dX5_leastRest_19 : decode cX5_leastRest 19 = .ok (.iload_n 2, 1) := by decide +kernel
theorem dX5_leastRest_20 : decode cX5_leastRest 20 = .ok (.iload_n 3, 1) := by decide +kernel
theorem dX5_leastRest_21 : decode cX5_leastRest 21 = .ok (.invokevirtual 48, 3) := by decide +kernel
theorem dX5_leastRest_24 : decode cX5_leastRest 24 = .ok (.ireturn, 1) := by decide +kernel
set_option maxRecDepth 20000 in
theorem ggX5_nextKind_X5_isIn : GoodIn wsX5_nextKind wsX5_isIn := goodIn_r _ [5] (by decide +kernel) (by decide +kernel)
set_option maxRecDepth 20000 in
theorem gX5_nextKind_X5_isIn : GoodIn wsX5_nextKind (va_wsS RX5 34 yX5_isIn wsX5_isIn) := goodIn_app (goodIn_of _ (by decide +kernel)) ggX5_nextKind_X5_isIn
set_option maxRecDepth 20000 in
theorem ggX5_nextKind_X5_minutesBy : GoodIn wsX5_nextKind wsX5_minutesBy := goodIn_r _ [9, 10, 11, 12, 4, 13, 14, 15, 16, 17, 18, 19, 20, 21, 22, 23, 24, 25, 26, 27, 28, 29, 30, 31] (by decide +kernel) (by decide +kernel)
set_option maxRecDepth 20000 in
theorem gX5_nextKind_X5_minutesBy : GoodIn wsX5_nextKind (wsV RX5 48 RX5 yX5_minutesBy wsX5_minutesBy) := goodIn_app (goodIn_of _ (by decide +kernel)) ggX5_nextKind_X5_minutesBy
theorem dX5_nextKind_0 : decode cX5_nextKind 0 = .ok (.bipush (-4), 2) := by decide +kernel
theorem dX5_nextKind_2 : decode cX5_nextKind 2 = .ok (.istore_n 3, 1) := by decide +kernel
theorem dX5_nextKind_3 : decode cX5_nextKind 3 = .ok (.iconst 0, 1) := by decide +kernel
theorem dX5_nextKind_4 : decode cX5_nextKind 4 = .ok (.istore 4, 2) := by decide +kernel
theorem dX5_nextKind_6 : decode cX5_nextKind 6 = .ok (.iload 4, 2) := by decide +kernel
theorem dX5_nextKind_8 : decode cX5_nextKind 8 = .ok (.bipush 6, 2) := by decide +kernel
theorem dX5_nextKind_10 : decode cX5_nextKind 10 = .ok (.if_icmp .ge 52, 3) := by decide +kernel
theorem dX5_nextKind_13 : decode cX5_nextKind 13 = .ok (.aload_n 0, 1) := by decide +kernel
theorem dX5_nextKind_14 : decode cX5_nextKind 14 = .ok (.getfield 27, 3) := by decide +kernel
theorem dX5_nextKind_17 : decode cX5_nextKind 17 = .ok (.iload_n 1, 1) := by decide +kernel
theorem dX5_nextKind_18 : decode cX5_nextKind 18 = .ok (.iconst (-1), 1) := by decide +kernel
theorem dX5_nextKind_19 : decode cX5_nextKind 19 = .ok (.ixor, 1) := by decide +kernel
theorem dX5_nextKind_20 : decode cX5_nextKind 20 = .ok (.iand, 1) := by decide +kernel
theorem dX5_nextKind_21 : decode cX5_nextKind 21 = .ok (.iload 4, 2) := by decide +kernel
theorem dX5_nextKind_23 : decode cX5_nextKind 23 = .ok (.invokestatic 34, 3) := by decide +kernel
theorem dX5_nextKind_26 : decode cX5_nextKind 26 = .ok (.ifCond .eq 30, 3) := by decide +kernel
theorem dX5_nextKind_29 : decode cX5_nextKind 29 = .ok (.iload_n 3, 1) := by decide +kernel
theorem dX5_nextKind_30 : decode cX5_nextKind 30 = .ok (.bipush (-4), 2) := by decide +kernel
theorem dX5_nextKind_32 : decode cX5_nextKind 32 = .ok (.if_icmp .eq 21, 3) := by decide +kernel
theorem dX5_nextKind_35 : decode cX5_nextKind 35 = .ok (.aload_n 0, 1) := by decide +kernel
theorem dX5_nextKind_36 : decode cX5_nextKind 36 = .ok (.iload_n 1, 1) := by decide +kernel
theorem dX5_nextKind_37 : decode cX5_nextKind 37 = .ok (.iload_n 2, 1) := by decide +kernel
theorem dX5_nextKind_38 : decode cX5_nextKind 38 = .ok (.iload 4, 2) := by decide +kernel
theorem dX5_nextKind_40 : decode cX5_nextKind 40 = .ok (.invokevirtual 48, 3) := by decide +kernel
theorem dX5_nextKind_43 : decode cX5_nextKind 43 = .ok (.aload_n 0, 1) := by decide +kernel
theorem dX5_nextKind_44 : decode cX5_nextKind 44 = .ok (.iload_n 1, 1) := by decide +kernel
theorem dX5_nextKind_45 : decode cX5_nextKind 45 = .ok (.iload_n 2, 1) := by decide +kernel
theorem dX5_nextKind_46 : decode cX5_nextKind 46 = .ok (.iload_n 3, 1) := by decide +kernel
theorem dX5_nextKind_47 : decode cX5_nextKind 47 = .ok (.invokevirtual 48, 3) := by decide +kernel
theorem dX5_nextKind_50 : decode cX5_nextKind 50 = .ok (.if_icmp .ge 6, 3) := by decide +kernel
theorem dX5_nextKind_53 : decode cX5_nextKind 53 = .ok (.iload 4, 2) := by decide +kernel
theorem dX5_nextKind_55 : decode cX5_nextKind 55 = .ok (.istore_n 3, 1) := by decide +kernel
theorem dX5_nextKind_56 : decode cX5_nextKind 56 = .ok (.iinc 4 1, 3) := by decide +kernel
theorem dX5_nextKind_59 : decode cX5_nextKind 59 = .ok (.goto (-53), 3) := by decide +kernel
theorem dX5_nextKind_62 : decode cX5_nextKind 62 = .ok (.iload_n 3, 1) := by decide +kernel
theorem dX5_nextKind_63 : decode cX5_nextKind 63 = .ok (.ireturn, 1) := by decide +kernel
set_option maxRecDepth 20000 in
theorem ggX5_minutesBy_X5_minutes : GoodIn wsX5_minutesBy wsX5_minutes := goodIn_r _ [5, 6, 7, 8, 9, 10, 11, 19, 20, 21, 22, 23] (by decide +kernel) (by decide +kernel)
set_option maxRecDepth 20000 in
theorem gX5_minutesBy_X5_minutes : GoodIn wsX5_minutesBy (wsV RX5 52 RX5 yX5_minutes wsX5_minutes) := goodIn_app (goodIn_of _ (by decide +kernel)) ggX5_minutesBy_X5_minutes
set_option maxRecDepth 20000 in
theorem ggX5_minutesBy_X5_restOf : GoodIn wsX5_minutesBy wsX5_restOf := goodIn_r _ [15, 16, 17, 10, 18, 19, 20, 21, 22, 23] (by decide +kernel) (by decide +kernel)
set_option maxRecDepth 20000 in
theorem gX5_minutesBy_X5_restOf : GoodIn wsX5_minutesBy (wsV RX5 42 RX5 yX5_restOf wsX5_restOf) := goodIn_app (goodIn_of _ (by decide +kernel)) ggX5_minutesBy_X5_restOf
theorem dX5_minutesBy_0 : decode cX5_minutesBy 0 = .ok (.aload_n 0, 1) := by decide +kernel
theorem dX5_minutesBy_1 : decode cX5_minutesBy 1 = .ok (.iload_n 2, 1) := by decide +kernel
theorem dX5_minutesBy_2 : decode cX5_minutesBy 2 = .ok (.iload_n 3, 1) := by decide +kernel
theorem dX5_minutesBy_3 : decode cX5_minutesBy 3 = .ok (.invokevirtual 52, 3) := by decide +kernel
theorem dX5_minutesBy_6 : decode cX5_minutesBy 6 = .ok (.aload_n 0, 1) := by decide +kernel
theorem dX5_minutesBy_7 : decode cX5_minutesBy 7 = .ok (.iload_n 1, 1) := by decide +kernel
theorem dX5_minutesBy_8 : decode cX5_minutesBy 8 = .ok (.iconst 1, 1) := by decide +kernel
theorem dX5_minutesBy_9 : decode cX5_minutesBy 9 = .ok (.iload_n 3, 1) := by decide +kernel
theorem dX5_minutesBy_10 : decode cX5_minutesBy 10 = .ok (.ishl, 1) := by decide +kernel
theorem dX5_minutesBy_11 : decode cX5_minutesBy 11 = .ok (.ior, 1) := by decide +kernel
theorem dX5_minutesBy_12 : decode cX5_minutesBy 12 = .ok (.iload_n 3, 1) := by decide +kernel
theorem dX5_minutesBy_13 : decode cX5_minutesBy 13 = .ok (.invokevirtual 42, 3) := by decide +kernel
theorem dX5_minutesBy_16 : decode cX5_minutesBy 16 = .ok (.iadd, 1) := by decide +kernel
theorem dX5_minutesBy_17 : decode cX5_minutesBy 17 = .ok (.ireturn, 1) := by decide +kernel
set_option maxRecDepth 20000 in
theorem ggX5_restOf_X6_within : GoodIn wsX5_restOf wsX6_within := goodIn_r _ [4] (by decide +kernel) (by decide +kernel)
set_option maxRecDepth 20000 in
theorem gX5_restOf_X6_within_n55 : GoodIn wsX5_restOf (wsX6_within) := ggX5_restOf_X6_within
theorem dX5_restOf_0 : decode cX5_restOf 0 = .ok (.iload_n 1, 1) := by decide +kernel
theorem dX5_restOf_1 : decode cX5_restOf 1 = .ok (.iconst 0, 1) := by decide +kernel
theorem dX5_restOf_2 : decode cX5_restOf 2 = .ok (.bipush 63, 2) := by decide +kernel
theorem dX5_restOf_4 : decode cX5_restOf 4 = .ok (.invokestatic 55, 3) := by decide +kernel
theorem dX5_restOf_7 : decode cX5_restOf 7 = .ok (.ifCond .eq 26, 3) := by decide +kernel
theorem dX5_restOf_10 : decode cX5_restOf 10 = .ok (.iload_n 2, 1) := by decide +kernel
theorem dX5_restOf_11 : decode cX5_restOf 11 = .ok (.iconst 0, 1) := by decide +kernel
theorem dX5_restOf_12 : decode cX5_restOf 12 = .ok (.iconst 5, 1) := by decide +kernel
theorem dX5_restOf_13 : decode cX5_restOf 13 = .ok (.invokestatic 55, 3) := by decide +kernel
theorem dX5_restOf_16 : decode cX5_restOf 16 = .ok (.ifCond .eq 17, 3) := by decide +kernel
theorem dX5_restOf_19 : decode cX5_restOf 19 = .ok (.aload_n 0, 1) := by decide +kernel
theorem dX5_restOf_20 : decode cX5_restOf 20 = .ok (.getfield 18, 3) := by decide +kernel
theorem dX5_restOf_23 : decode cX5_restOf 23 = .ok (.iload_n 1, 1) := by decide +kernel
theorem dX5_restOf_24 : decode cX5_restOf 24 = .ok (.bipush 6, 2) := by decide +kernel
theorem dX5_restOf_26 : decode cX5_restOf 26 = .ok (.imul, 1) := by decide +kernel
theorem dX5_restOf_27 : decode cX5_restOf 27 = .ok (.iload_n 2, 1) := by decide +kernel
theorem dX5_restOf_28 : decode cX5_restOf 28 = .ok (.iadd, 1) := by decide +kernel
theorem dX5_restOf_29 : decode cX5_restOf 29 = .ok (.iaload, 1) := by decide +kernel
theorem dX5_restOf_30 : decode cX5_restOf 30 = .ok (.goto 4, 3) := by decide +kernel
theorem dX5_restOf_33 : decode cX5_restOf 33 = .ok (.iconst 0, 1) := by decide +kernel
theorem dX5_restOf_34 : decode cX5_restOf 34 = .ok (.ireturn, 1) := by decide +kernel
set_option maxRecDepth 20000 in
theorem ggX5_minutes_X6_isKind : GoodIn wsX5_minutes wsX6_isKind := goodIn_r _ [6] (by decide +kernel) (by decide +kernel)
set_option maxRecDepth 20000 in
theorem gX5_minutes_X6_isKind_n59 : GoodIn wsX5_minutes (wsX6_isKind) := ggX5_minutes_X6_isKind
theorem dX5_minutes_0 : decode cX5_minutes 0 = .ok (.iload_n 1, 1) := by decide +kernel
theorem dX5_minutes_1 : decode cX5_minutes 1 = .ok (.invokestatic 59, 3) := by decide +kernel
theorem dX5_minutes_4 : decode cX5_minutes 4 = .ok (.ifCond .eq 10, 3) := by decide +kernel
theorem dX5_minutes_7 : decode cX5_minutes 7 = .ok (.iload_n 2, 1) := by decide +kernel
theorem dX5_minutes_8 : decode cX5_minutes 8 = .ok (.invokestatic 59, 3) := by decide +kernel
theorem dX5_minutes_11 : decode cX5_minutes 11 = .ok (.ifCond .ne 5, 3) := by decide +kernel
theorem dX5_minutes_14 : decode cX5_minutes 14 = .ok (.iconst 0, 1) := by decide +kernel
theorem dX5_minutes_15 : decode cX5_minutes 15 = .ok (.ireturn, 1) := by decide +kernel
theorem dX5_minutes_16 : decode cX5_minutes 16 = .ok (.aload_n 0, 1) := by decide +kernel
theorem dX5_minutes_17 : decode cX5_minutes 17 = .ok (.getfield 15, 3) := by decide +kernel
theorem dX5_minutes_20 : decode cX5_minutes 20 = .ok (.iload_n 1, 1) := by decide +kernel
theorem dX5_minutes_21 : decode cX5_minutes 21 = .ok (.iaload, 1) := by decide +kernel
theorem dX5_minutes_22 : decode cX5_minutes 22 = .ok (.aload_n 0, 1) := by decide +kernel
theorem dX5_minutes_23 : decode cX5_minutes 23 = .ok (.getfield 15, 3) := by decide +kernel
theorem dX5_minutes_26 : decode cX5_minutes 26 = .ok (.iload_n 2, 1) := by decide +kernel
theorem dX5_minutes_27 : decode cX5_minutes 27 = .ok (.iaload, 1) := by decide +kernel
theorem dX5_minutes_28 : decode cX5_minutes 28 = .ok (.if_icmp .le 10, 3) := by decide +kernel
theorem dX5_minutes_31 : decode cX5_minutes 31 = .ok (.aload_n 0, 1) := by decide +kernel
theorem dX5_minutes_32 : decode cX5_minutes 32 = .ok (.getfield 31, 3) := by decide +kernel
theorem dX5_minutes_35 : decode cX5_minutes 35 = .ok (.goto 4, 3) := by decide +kernel
theorem dX5_minutes_38 : decode cX5_minutes 38 = .ok (.iconst 0, 1) := by decide +kernel
theorem dX5_minutes_39 : decode cX5_minutes 39 = .ok (.istore_n 3, 1) := by decide +kernel
theorem dX5_minutes_40 : decode cX5_minutes 40 = .ok (.aload_n 0, 1) := by decide +kernel
theorem dX5_minutes_41 : decode cX5_minutes 41 = .ok (.getfield 11, 3) := by decide +kernel
theorem dX5_minutes_44 : decode cX5_minutes 44 = .ok (.iload_n 1, 1) := by decide +kernel
theorem dX5_minutes_45 : decode cX5_minutes 45 = .ok (.bipush 6, 2) := by decide +kernel
theorem dX5_minutes_47 : decode cX5_minutes 47 = .ok (.imul, 1) := by decide +kernel
theorem dX5_minutes_48 : decode cX5_minutes 48 = .ok (.iload_n 2, 1) := by decide +kernel
theorem dX5_minutes_49 : decode cX5_minutes 49 = .ok (.iadd, 1) := by decide +kernel
theorem dX5_minutes_50 : decode cX5_minutes 50 = .ok (.iaload, 1) := by decide +kernel
theorem dX5_minutes_51 : decode cX5_minutes 51 = .ok (.iload_n 3, 1) := by decide +kernel
theorem dX5_minutes_52 : decode cX5_minutes 52 = .ok (.iadd, 1) := by decide +kernel
theorem dX5_minutes_53 : decode cX5_minutes 53 = .ok (.ireturn, 1) := by decide +kernel
set_option maxRecDepth 20000 in
theorem ggX6_init_X1_init : GoodIn wsX6_init wsX1_init := goodIn_r _ [30, 31, 2, 3, 32, 33, 34, 35, 36, 37, 38, 39, 40, 41, 42, 43, 44, 45, 46, 47, 48, 49, 50, 51, 52, 53, 54, 55, 56, 57, 58, 59, 60, 61, 62, 63, 64, 65, 66, 67, 68, 69, 70, 71, 72, 73, 74, 75, 108, 109, 110, 111, 112, 113, 114, 115, 116, 149, 150, 151, 152, 153, 154, 155, 156, 157, 158, 159, 160, 161, 162, 163, 164, 165, 166] (by decide +kernel) (by decide +kernel)
set_option maxRecDepth 20000 in
theorem gX6_init_X1_init : GoodIn wsX6_init (wsX1_init) := ggX6_init_X1_init
set_option maxRecDepth 20000 in
theorem ggX6_init_X0_init : GoodIn wsX6_init wsX0_init := goodIn_r _ [78, 79, 2, 3, 38, 80, 81, 82, 83, 84, 85, 86, 87, 88, 89, 90, 91, 92, 123, 124, 125, 126, 127, 128, 129, 130, 131] (by decide +kernel) (by decide +kernel)
set_option maxRecDepth 20000 in
theorem gX6_init_X0_init : GoodIn wsX6_init (wsX0_init) := ggX6_init_X0_init
set_option maxRecDepth 20000 in
theorem ggX6_init_X4_init : GoodIn wsX6_init wsX4_init := goodIn_r _ [94, 95, 2, 3, 38, 96, 97, 98, 99, 132, 133, 134, 135, 136, 137, 138, 139, 140, 141, 142, 143] (by decide +kernel) (by decide +kernel)
set_option maxRecDepth 20000 in
theorem gX6_init_X4_init_n25 : GoodIn wsX6_init (wsX4_init) := ggX6_init_X4_init
set_option maxRecDepth 20000 in
theorem ggX6_init_X5_init : GoodIn wsX6_init wsX5_init := goodIn_r _ [102, 103, 2, 3, 38, 104, 105, 106, 107, 90, 91, 92, 144, 145, 146, 147, 148] (by decide +kernel) (by decide +kernel)
set_option maxRecDepth 20000 in
theorem gX6_init_X5_init : GoodIn wsX6_init (wsX5_init) := ggX6_init_X5_init
