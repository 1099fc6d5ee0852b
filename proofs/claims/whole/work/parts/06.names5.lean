theorem dX7_rule_0 : decode cX7_rule 0 = .ok (.iload_n 1, 1) := by decide +kernel
theorem dX7_rule_1 : decode cX7_rule 1 = .ok (.iconst 0, 1) := by decide +kernel
theorem dX7_rule_2 : decode cX7_rule 2 = .ok (.iconst 5, 1) := by decide +kernel
theorem dX7_rule_3 : decode cX7_rule 3 = .ok (.invokestatic 127, 3) := by decide +kernel
theorem dX7_rule_6 : decode cX7_rule 6 = .ok (.ifCond .eq 64, 3) := by decide +kernel
theorem dX7_rule_9 : decode cX7_rule 9 = .ok (.iload_n 2, 1) := by decide +kernel
theorem dX7_rule_10 : decode cX7_rule 10 = .ok (.iload_n 1, 1) := by decide +kernel
theorem dX7_rule_11 : decode cX7_rule 11 = .ok (.iconst 2, 1) := by decide +kernel
theorem dX7_rule_12 : decode cX7_rule 12 = .ok (.if_icmp .ge 7, 3) := by decide +kernel
theorem dX7_rule_15 : decode cX7_rule 15 = .ok (.iconst 1, 1) := by decide +kernel
theorem dX7_rule_16 : decode cX7_rule 16 = .ok (.goto 4, 3) := by decide +kernel
theorem dX7_rule_19 : decode cX7_rule 19 = .ok (.iconst 0, 1) := by decide +kernel
theorem dX7_rule_20 : decode cX7_rule 20 = .ok (.iload_n 1, 1) := by decide +kernel
theorem dX7_rule_21 : decode cX7_rule 21 = .ok (.ifCond .ne 8, 3) := by decide +kernel
theorem dX7_rule_24 : decode cX7_rule 24 = .ok (.bipush 12, 2) := by decide +kernel
theorem dX7_rule_26 : decode cX7_rule 26 = .ok (.goto 38, 3) := by decide +kernel
theorem dX7_rule_29 : decode cX7_rule 29 = .ok (.iload_n 1, 1) := by decide +kernel
theorem dX7_rule_30 : decode cX7_rule 30 = .ok (.iconst 1, 1) := by decide +kernel
theorem dX7_rule_31 : decode cX7_rule 31 = .ok (.if_icmp .ne 8, 3) := by decide +kernel
theorem dX7_rule_34 : decode cX7_rule 34 = .ok (.bipush 20, 2) := by decide +kernel
theorem dX7_rule_36 : decode cX7_rule 36 = .ok (.goto 28, 3) := by decide +kernel
theorem dX7_rule_39 : decode cX7_rule 39 = .ok (.iload_n 1, 1) := by decide +kernel
theorem dX7_rule_40 : decode cX7_rule 40 = .ok (.iconst 4, 1) := by decide +kernel
theorem dX7_rule_41 : decode cX7_rule 41 = .ok (.if_icmp .ge 9, 3) := by decide +kernel
theorem dX7_rule_44 : decode cX7_rule 44 = .ok (.sipush 10000, 3) := by decide +kernel
theorem dX7_rule_47 : decode cX7_rule 47 = .ok (.goto 17, 3) := by decide +kernel
theorem dX7_rule_50 : decode cX7_rule 50 = .ok (.iload_n 1, 1) := by decide +kernel
theorem dX7_rule_51 : decode cX7_rule 51 = .ok (.iconst 4, 1) := by decide +kernel
theorem dX7_rule_52 : decode cX7_rule 52 = .ok (.if_icmp .ne 9, 3) := by decide +kernel
theorem dX7_rule_55 : decode cX7_rule 55 = .ok (.sipush 1000, 3) := by decide +kernel
theorem dX7_rule_58 : decode cX7_rule 58 = .ok (.goto 6, 3) := by decide +kernel
theorem dX7_rule_61 : decode cX7_rule 61 = .ok (.sipush 500, 3) := by decide +kernel
theorem dX7_rule_64 : decode cX7_rule 64 = .ok (.invokestatic 127, 3) := by decide +kernel
theorem dX7_rule_67 : decode cX7_rule 67 = .ok (.ifCond .ne 5, 3) := by decide +kernel
theorem dX7_rule_70 : decode cX7_rule 70 = .ok (.iconst (-1), 1) := by decide +kernel
theorem dX7_rule_71 : decode cX7_rule 71 = .ok (.ireturn, 1) := by decide +kernel
theorem dX7_rule_72 : decode cX7_rule 72 = .ok (.iconst 0, 1) := by decide +kernel
theorem dX7_rule_73 : decode cX7_rule 73 = .ok (.istore_n 3, 1) := by decide +kernel
theorem dX7_rule_74 : decode cX7_rule 74 = .ok (.iload_n 3, 1) := by decide +kernel
theorem dX7_rule_75 : decode cX7_rule 75 = .ok (.bipush 30, 2) := by decide +kernel
theorem dX7_rule_77 : decode cX7_rule 77 = .ok (.if_icmp .ge 25, 3) := by decide +kernel
theorem dX7_rule_80 : decode cX7_rule 80 = .ok (.iload_n 1, 1) := by decide +kernel
theorem dX7_rule_81 : decode cX7_rule 81 = .ok (.ifCond .ne 15, 3) := by decide +kernel
theorem dX7_rule_84 : decode cX7_rule 84 = .ok (.aload_n 0, 1) := by decide +kernel
theorem dX7_rule_85 : decode cX7_rule 85 = .ok (.iload_n 3, 1) := by decide +kernel
theorem dX7_rule_86 : decode cX7_rule 86 = .ok (.invokevirtual 158, 3) := by decide +kernel
theorem dX7_rule_89 : decode cX7_rule 89 = .ok (.iload_n 2, 1) := by decide +kernel
theorem dX7_rule_90 : decode cX7_rule 90 = .ok (.if_icmp .le 6, 3) := by decide +kernel
theorem dX7_rule_93 : decode cX7_rule 93 = .ok (.bipush (-2), 2) := by decide +kernel
theorem dX7_rule_95 : decode cX7_rule 95 = .ok (.ireturn, 1) := by decide +kernel
theorem dX7_rule_96 : decode cX7_rule 96 = .ok (.iinc 3 1, 3) := by decide +kernel
theorem dX7_rule_99 : decode cX7_rule 99 = .ok (.goto (-25), 3) := by decide +kernel
theorem dX7_rule_102 : decode cX7_rule 102 = .ok (.iconst 0, 1) := by decide +kernel
theorem dX7_rule_103 : decode cX7_rule 103 = .ok (.istore_n 3, 1) := by decide +kernel
theorem dX7_rule_104 : decode cX7_rule 104 = .ok (.iload_n 3, 1) := by decide +kernel
theorem dX7_rule_105 : decode cX7_rule 105 = .ok (.bipush 6, 2) := by decide +kernel
theorem dX7_rule_107 : decode cX7_rule 107 = .ok (.if_icmp .ge 26, 3) := by decide +kernel
theorem dX7_rule_110 : decode cX7_rule 110 = .ok (.iload_n 1, 1) := by decide +kernel
theorem dX7_rule_111 : decode cX7_rule 111 = .ok (.iconst 1, 1) := by decide +kernel
theorem dX7_rule_112 : decode cX7_rule 112 = .ok (.if_icmp .ne 15, 3) := by decide +kernel
theorem dX7_rule_115 : decode cX7_rule 115 = .ok (.aload_n 0, 1) := by decide +kernel
theorem dX7_rule_116 : decode cX7_rule 116 = .ok (.iload_n 3, 1) := by decide +kernel
theorem dX7_rule_117 : decode cX7_rule 117 = .ok (.invokevirtual 161, 3) := by decide +kernel
theorem dX7_rule_120 : decode cX7_rule 120 = .ok (.iload_n 2, 1) := by decide +kernel
theorem dX7_rule_121 : decode cX7_rule 121 = .ok (.if_icmp .le 6, 3) := by decide +kernel
theorem dX7_rule_124 : decode cX7_rule 124 = .ok (.bipush (-2), 2) := by decide +kernel
theorem dX7_rule_126 : decode cX7_rule 126 = .ok (.ireturn, 1) := by decide +kernel
theorem dX7_rule_127 : decode cX7_rule 127 = .ok (.iinc 3 1, 3) := by decide +kernel
theorem dX7_rule_130 : decode cX7_rule 130 = .ok (.goto (-26), 3) := by decide +kernel
theorem dX7_rule_133 : decode cX7_rule 133 = .ok (.aload_n 0, 1) := by decide +kernel
theorem dX7_rule_134 : decode cX7_rule 134 = .ok (.getfield 84, 3) := by decide +kernel
theorem dX7_rule_137 : decode cX7_rule 137 = .ok (.iload_n 1, 1) := by decide +kernel
theorem dX7_rule_138 : decode cX7_rule 138 = .ok (.iaload, 1) := by decide +kernel
theorem dX7_rule_139 : decode cX7_rule 139 = .ok (.istore_n 3, 1) := by decide +kernel
theorem dX7_rule_140 : decode cX7_rule 140 = .ok (.aload_n 0, 1) := by decide +kernel
theorem dX7_rule_141 : decode cX7_rule 141 = .ok (.getfield 84, 3) := by decide +kernel
theorem dX7_rule_144 : decode cX7_rule 144 = .ok (.iload_n 1, 1) := by decide +kernel
theorem dX7_rule_145 : decode cX7_rule 145 = .ok (.iload_n 2, 1) := by decide +kernel
theorem dX7_rule_146 : decode cX7_rule 146 = .ok (.iastore, 1) := by decide +kernel
theorem dX7_rule_147 : decode cX7_rule 147 = .ok (.iload_n 3, 1) := by decide +kernel
theorem dX7_rule_148 : decode cX7_rule 148 = .ok (.ireturn, 1) := by decide +kernel
set_option maxRecDepth 20000 in
theorem ggX7_pack_X7_in : GoodIn wsX7_pack wsX7_in := goodIn_r _ [7] (by decide +kernel) (by decide +kernel)
set_option maxRecDepth 20000 in
theorem gX7_pack_X7_in : GoodIn wsX7_pack (va_wsS RX7 127 yX7_in wsX7_in) := goodIn_app (goodIn_of _ (by decide +kernel)) ggX7_pack_X7_in
set_option maxRecDepth 20000 in
theorem ggX7_pack_X7_isCase : GoodIn wsX7_pack wsX7_isCase := goodIn_r _ [10, 4, 5, 6, 7] (by decide +kernel) (by decide +kernel)
set_option maxRecDepth 20000 in
theorem gX7_pack_X7_isCase : GoodIn wsX7_pack (va_wsS RX7 164 yX7_isCase wsX7_isCase) := goodIn_app (goodIn_of _ (by decide +kernel)) ggX7_pack_X7_isCase
set_option maxRecDepth 20000 in
theorem ggX7_pack_X7_isCode : GoodIn wsX7_pack wsX7_isCode := goodIn_r _ [14, 15, 4, 5, 6, 7, 20, 21, 22, 23, 24, 25, 26, 27, 28, 29, 30, 31, 32, 33, 34, 35, 36, 37, 38, 39, 40, 41, 42, 43, 44, 45, 46, 47, 48, 49, 50, 51, 52, 53, 54, 55, 56, 57, 58, 59, 60, 61, 62] (by decide +kernel) (by decide +kernel)
set_option maxRecDepth 20000 in
theorem gX7_pack_X7_isCode : GoodIn wsX7_pack (wsV RX7 167 RX7 yX7_isCode wsX7_isCode) := goodIn_app (goodIn_of _ (by decide +kernel)) ggX7_pack_X7_isCode
set_option maxRecDepth 20000 in
theorem ggX7_pack_X7_units : GoodIn wsX7_pack wsX7_units := goodIn_r _ [19, 15, 1, 20, 21, 22, 23, 24, 25, 26, 27, 28, 29, 30, 31, 32, 33, 34, 35, 36, 37, 38, 39, 40, 41, 42, 43, 44, 45, 46, 47, 48, 49, 50, 51, 52, 53, 54, 55, 56, 57, 58, 59, 60, 61, 62] (by decide +kernel) (by decide +kernel)
set_option maxRecDepth 20000 in
theorem gX7_pack_X7_units : GoodIn wsX7_pack (wsV RX7 158 RX7 yX7_units wsX7_units) := goodIn_app (goodIn_of _ (by decide +kernel)) ggX7_pack_X7_units
theorem dX7_pack_0 : decode cX7_pack 0 = .ok (.iload_n 1, 1) := by decide +kernel
theorem dX7_pack_1 : decode cX7_pack 1 = .ok (.iconst 0, 1) := by decide +kernel
theorem dX7_pack_2 : decode cX7_pack 2 = .ok (.sipush 199, 3) := by decide +kernel
theorem dX7_pack_5 : decode cX7_pack 5 = .ok (.invokestatic 127, 3) := by decide +kernel
theorem dX7_pack_8 : decode cX7_pack 8 = .ok (.ifCond .eq 10, 3) := by decide +kernel
theorem dX7_pack_11 : decode cX7_pack 11 = .ok (.iload_n 2, 1) := by decide +kernel
theorem dX7_pack_12 : decode cX7_pack 12 = .ok (.invokestatic 164, 3) := by decide +kernel
theorem dX7_pack_15 : decode cX7_pack 15 = .ok (.ifCond .ne 5, 3) := by decide +kernel
theorem dX7_pack_18 : decode cX7_pack 18 = .ok (.iconst (-1), 1) := by decide +kernel
theorem dX7_pack_19 : decode cX7_pack 19 = .ok (.ireturn, 1) := by decide +kernel
theorem dX7_pack_20 : decode cX7_pack 20 = .ok (.aload_n 0, 1) := by decide +kernel
theorem dX7_pack_21 : decode cX7_pack 21 = .ok (.iload_n 1, 1) := by decide +kernel
theorem dX7_pack_22 : decode cX7_pack 22 = .ok (.invokevirtual 167, 3) := by decide +kernel
theorem dX7_pack_25 : decode cX7_pack 25 = .ok (.ifCond .eq 21, 3) := by decide +kernel
theorem dX7_pack_28 : decode cX7_pack 28 = .ok (.aload_n 0, 1) := by decide +kernel
theorem dX7_pack_29 : decode cX7_pack 29 = .ok (.getfield 68, 3) := by decide +kernel
theorem dX7_pack_32 : decode cX7_pack 32 = .ok (.iload_n 1, 1) := by decide +kernel
theorem dX7_pack_33 : decode cX7_pack 33 = .ok (.iaload, 1) := by decide +kernel
theorem dX7_pack_34 : decode cX7_pack 34 = .ok (.ifCond .ge 12, 3) := by decide +kernel
theorem dX7_pack_37 : decode cX7_pack 37 = .ok (.aload_n 0, 1) := by decide +kernel
theorem dX7_pack_38 : decode cX7_pack 38 = .ok (.getfield 74, 3) := by decide +kernel
theorem dX7_pack_41 : decode cX7_pack 41 = .ok (.iload_n 2, 1) := by decide +kernel
theorem dX7_pack_42 : decode cX7_pack 42 = .ok (.baload, 1) := by decide +kernel
theorem dX7_pack_43 : decode cX7_pack 43 = .ok (.ifCond .eq 6, 3) := by decide +kernel
theorem dX7_pack_46 : decode cX7_pack 46 = .ok (.bipush (-2), 2) := by decide +kernel
theorem dX7_pack_48 : decode cX7_pack 48 = .ok (.ireturn, 1) := by decide +kernel
theorem dX7_pack_49 : decode cX7_pack 49 = .ok (.aload_n 0, 1) := by decide +kernel
theorem dX7_pack_50 : decode cX7_pack 50 = .ok (.iload_n 2, 1) := by decide +kernel
theorem dX7_pack_51 : decode cX7_pack 51 = .ok (.invokevirtual 158, 3) := by decide +kernel
theorem dX7_pack_54 : decode cX7_pack 54 = .ok (.aload_n 0, 1) := by decide +kernel
theorem dX7_pack_55 : decode cX7_pack 55 = .ok (.getfield 84, 3) := by decide +kernel
theorem dX7_pack_58 : decode cX7_pack 58 = .ok (.iconst 0, 1) := by decide +kernel
theorem dX7_pack_59 : decode cX7_pack 59 = .ok (.iaload, 1) := by decide +kernel
theorem dX7_pack_60 : decode cX7_pack 60 = .ok (.if_icmp .lt 6, 3) := by decide +kernel
theorem dX7_pack_63 : decode cX7_pack 63 = .ok (.bipush (-3), 2) := by decide +kernel
theorem dX7_pack_65 : decode cX7_pack 65 = .ok (.ireturn, 1) := by decide +kernel
theorem dX7_pack_66 : decode cX7_pack 66 = .ok (.aload_n 0, 1) := by decide +kernel
theorem dX7_pack_67 : decode cX7_pack 67 = .ok (.getfield 68, 3) := by decide +kernel
theorem dX7_pack_70 : decode cX7_pack 70 = .ok (.iload_n 1, 1) := by decide +kernel
theorem dX7_pack_71 : decode cX7_pack 71 = .ok (.iload_n 2, 1) := by decide +kernel
theorem dX7_pack_72 : decode cX7_pack 72 = .ok (.iastore, 1) := by decide +kernel
theorem dX7_pack_73 : decode cX7_pack 73 = .ok (.aload_n 0, 1) := by decide +kernel
theorem dX7_pack_74 : decode cX7_pack 74 = .ok (.iload_n 2, 1) := by decide +kernel
theorem dX7_pack_75 : decode cX7_pack 75 = .ok (.invokevirtual 158, 3) := by decide +kernel
theorem dX7_pack_78 : decode cX7_pack 78 = .ok (.ireturn, 1) := by decide +kernel
set_option maxRecDepth 20000 in
theorem ggX7_close_X7_isCase : GoodIn wsX7_close wsX7_isCase := goodIn_r _ [6, 7, 8, 5, 9] (by decide +kernel) (by decide +kernel)
set_option maxRecDepth 20000 in
theorem gX7_close_X7_isCase : GoodIn wsX7_close (va_wsS RX7 164 yX7_isCase wsX7_isCase) := goodIn_app (goodIn_of _ (by decide +kernel)) ggX7_close_X7_isCase
set_option maxRecDepth 20000 in
theorem ggX7_close_X7_units : GoodIn wsX7_close wsX7_units := goodIn_r _ [13, 14, 15, 16, 17, 18, 19, 20, 21, 22, 23, 24, 25, 26, 27, 28, 29, 30, 31, 32, 33, 34, 35, 36, 37, 38, 39, 40, 41, 42, 43, 44, 45, 46, 47, 48, 49, 50, 51, 52, 53, 54, 55, 56, 57, 58] (by decide +kernel) (by decide +kernel)
set_option maxRecDepth 20000 in
theorem gX7_close_X7_units : GoodIn wsX7_close (wsV RX7 158 RX7 yX7_units wsX7_units) := goodIn_app (goodIn_of _ (by decide +kernel)) ggX7_close_X7_units
theorem dX7_close_0 : decode cX7_close 0 = .ok (.iload_n 1, 1) := by decide +kernel
theorem dX7_close_1 : decode cX7_close 1 = .ok (.invokestatic 164, 3) := by decide +kernel
theorem dX7_close_4 : decode cX7_close 4 = .ok (.ifCond .ne 5, 3) := by decide +kernel
theorem dX7_close_7 : decode cX7_close 7 = .ok (.iconst (-1), 1) := by decide +kernel
theorem dX7_close_8 : decode cX7_close 8 = .ok (.ireturn, 1) := by decide +kernel
theorem dX7_close_9 : decode cX7_close 9 = .ok (.aload_n 0, 1) := by decide +kernel
theorem dX7_close_10 : decode cX7_close 10 = .ok (.getfield 74, 3) := by decide +kernel
theorem dX7_close_13 : decode cX7_close 13 = .ok (.iload_n 1, 1) := by decide +kernel
theorem dX7_close_14 : decode cX7_close 14 = .ok (.baload, 1) := by decide +kernel
theorem dX7_close_15 : decode cX7_close 15 = .ok (.ifCond .ne 17, 3) := by decide +kernel
theorem dX7_close_18 : decode cX7_close 18 = .ok (.aload_n 0, 1) := by decide +kernel
theorem dX7_close_19 : decode cX7_close 19 = .ok (.iload_n 1, 1) := by decide +kernel
theorem dX7_close_20 : decode cX7_close 20 = .ok (.invokevirtual 158, 3) := by decide +kernel
theorem dX7_close_23 : decode cX7_close 23 = .ok (.aload_n 0, 1) := by decide +kernel
theorem dX7_close_24 : decode cX7_close 24 = .ok (.getfield 84, 3) := by decide +kernel
theorem dX7_close_27 : decode cX7_close 27 = .ok (.iconst 0, 1) := by decide +kernel
theorem dX7_close_28 : decode cX7_close 28 = .ok (.iaload, 1) := by decide +kernel
theorem dX7_close_29 : decode cX7_close 29 = .ok (.if_icmp .eq 6, 3) := by decide +kernel
theorem dX7_close_32 : decode cX7_close 32 = .ok (.bipush (-2), 2) := by decide +kernel
theorem dX7_close_34 : decode cX7_close 34 = .ok (.ireturn, 1) := by decide +kernel
theorem dX7_close_35 : decode cX7_close 35 = .ok (.aload_n 0, 1) := by decide +kernel
theorem dX7_close_36 : decode cX7_close 36 = .ok (.getfield 74, 3) := by decide +kernel
theorem dX7_close_39 : decode cX7_close 39 = .ok (.iload_n 1, 1) := by decide +kernel
theorem dX7_close_40 : decode cX7_close 40 = .ok (.iconst 1, 1) := by decide +kernel
theorem dX7_close_41 : decode cX7_close 41 = .ok (.bastore, 1) := by decide +kernel
theorem dX7_close_42 : decode cX7_close 42 = .ok (.iconst 0, 1) := by decide +kernel
theorem dX7_close_43 : decode cX7_close 43 = .ok (.ireturn, 1) := by decide +kernel
theorem dX7_leastIn_0 : decode cX7_leastIn 0 = .ok (.bipush (-4), 2) := by decide +kernel
theorem dX7_leastIn_2 : decode cX7_leastIn 2 = .ok (.istore_n 2, 1) := by decide +kernel
theorem dX7_leastIn_3 : decode cX7_leastIn 3 = .ok (.aload_n 0, 1) := by decide +kernel
theorem dX7_leastIn_4 : decode cX7_leastIn 4 = .ok (.getfield 139, 3) := by decide +kernel
theorem dX7_leastIn_7 : decode cX7_leastIn 7 = .ok (.iconst 1, 1) := by decide +kernel
theorem dX7_leastIn_8 : decode cX7_leastIn 8 = .ok (.isub, 1) := by decide +kernel
theorem dX7_leastIn_9 : decode cX7_leastIn 9 = .ok (.istore_n 3, 1) := by decide +kernel
theorem dX7_leastIn_10 : decode cX7_leastIn 10 = .ok (.iload_n 3, 1) := by decide +kernel
theorem dX7_leastIn_11 : decode cX7_leastIn 11 = .ok (.ifCond .lt 25, 3) := by decide +kernel
theorem dX7_leastIn_14 : decode cX7_leastIn 14 = .ok (.aload_n 0, 1) := by decide +kernel
theorem dX7_leastIn_15 : decode cX7_leastIn 15 = .ok (.getfield 68, 3) := by decide +kernel
theorem dX7_leastIn_18 : decode cX7_leastIn 18 = .ok (.iload_n 3, 1) := by decide +kernel
theorem dX7_leastIn_19 : decode cX7_leastIn 19 = .ok (.iaload, 1) := by decide +kernel
theorem dX7_leastIn_20 : decode cX7_leastIn 20 = .ok (.iload_n 1, 1) := by decide +kernel
theorem dX7_leastIn_21 : decode cX7_leastIn 21 = .ok (.if_icmp .ne 7, 3) := by decide +kernel
theorem dX7_leastIn_24 : decode cX7_leastIn 24 = .ok (.iload_n 3, 1) := by decide +kernel
theorem dX7_leastIn_25 : decode cX7_leastIn 25 = .ok (.goto 4, 3) := by decide +kernel
theorem dX7_leastIn_28 : decode cX7_leastIn 28 = .ok (.iload_n 2, 1) := by decide +kernel
theorem dX7_leastIn_29 : decode cX7_leastIn 29 = .ok (.istore_n 2, 1) := by decide +kernel
theorem dX7_leastIn_30 : decode cX7_leastIn 30 = .ok (.iinc 3 (-1), 3) := by decide +kernel
theorem dX7_leastIn_33 : decode cX7_leastIn 33 = .ok (.goto (-23), 3) := by decide +kernel
theorem dX7_leastIn_36 : decode cX7_leastIn 36 = .ok (.iload_n 2, 1) := by decide +kernel
theorem dX7_leastIn_37 : decode cX7_leastIn 37 = .ok (.ireturn, 1) := by decide +kernel
theorem dX7_greatestIn_0 : decode cX7_greatestIn 0 = .ok (.bipush (-4), 2) := by decide +kernel
theorem dX7_greatestIn_2 : decode cX7_greatestIn 2 = .ok (.istore_n 2, 1) := by decide +kernel
theorem dX7_greatestIn_3 : decode cX7_greatestIn 3 = .ok (.iconst 0, 1) := by decide +kernel
theorem dX7_greatestIn_4 : decode cX7_greatestIn 4 = .ok (.istore_n 3, 1) := by decide +kernel
theorem dX7_greatestIn_5 : decode cX7_greatestIn 5 = .ok (.iload_n 3, 1) := by decide +kernel
theorem dX7_greatestIn_6 : decode cX7_greatestIn 6 = .ok (.aload_n 0, 1) := by decide +kernel
theorem dX7_greatestIn_7 : decode cX7_greatestIn 7 = .ok (.getfield 139, 3) := by decide +kernel
theorem dX7_greatestIn_10 : decode cX7_greatestIn 10 = .ok (.if_icmp .ge 25, 3) := by decide +kernel
theorem dX7_greatestIn_13 : decode cX7_greatestIn 13 = .ok (.aload_n 0, 1) := by decide +kernel
theorem dX7_greatestIn_14 : decode cX7_greatestIn 14 = .ok (.getfield 68, 3) := by decide +kernel
theorem dX7_greatestIn_17 : decode cX7_greatestIn 17 = .ok (.iload_n 3, 1) := by decide +kernel
theorem dX7_greatestIn_18 : decode cX7_greatestIn 18 = .ok (.iaload, 1) := by decide +kernel
theorem dX7_greatestIn_19 : decode cX7_greatestIn 19 = .ok (.iload_n 1, 1) := by decide +kernel
theorem dX7_greatestIn_20 : decode cX7_greatestIn 20 = .ok (.if_icmp .ne 7, 3) := by decide +kernel
theorem dX7_greatestIn_23 : decode cX7_greatestIn 23 = .ok (.iload_n 3, 1) := by decide +kernel
theorem dX7_greatestIn_24 : decode cX7_greatestIn 24 = .ok (.goto 4, 3) := by decide +kernel
theorem dX7_greatestIn_27 : decode cX7_greatestIn 27 = .ok (.iload_n 2, 1) := by decide +kernel
theorem dX7_greatestIn_28 : decode cX7_greatestIn 28 = .ok (.istore_n 2, 1) := by decide +kernel
theorem dX7_greatestIn_29 : decode cX7_greatestIn 29 = .ok (.iinc 3 1, 3) := by decide +kernel
theorem dX7_greatestIn_32 : decode cX7_greatestIn 32 = .ok (.goto (-27), 3) := by decide +kernel
theorem dX7_greatestIn_35 : decode cX7_greatestIn 35 = .ok (.iload_n 2, 1) := by decide +kernel
theorem dX7_greatestIn_36 : decode cX7_greatestIn 36 = .ok (.ireturn, 1) := by decide +kernel
set_option maxRecDepth 20000 in
theorem ggX7_weigh_X7_isCase : GoodIn wsX7_weigh wsX7_isCase := goodIn_r _ [8, 9, 10, 7, 11] (by decide +kernel) (by decide +kernel)
set_option maxRecDepth 20000 in
theorem gX7_weigh_X7_isCase : GoodIn wsX7_weigh (va_wsS RX7 164 yX7_isCase wsX7_isCase) := goodIn_app (goodIn_of _ (by decide +kernel)) ggX7_weigh_X7_isCase
set_option maxRecDepth 20000 in
theorem ggX7_weigh_X7_in : GoodIn wsX7_weigh wsX7_in := goodIn_r _ [11] (by decide +kernel) (by decide +kernel)
set_option maxRecDepth 20000 in
theorem gX7_weigh_X7_in : GoodIn wsX7_weigh (va_wsS RX7 127 yX7_in wsX7_in) := goodIn_app (goodIn_of _ (by decide +kernel)) ggX7_weigh_X7_in
set_option maxRecDepth 20000 in
theorem ggX7_weigh_X7_units : GoodIn wsX7_weigh wsX7_units := goodIn_r _ [15, 16, 4, 25, 26, 27, 28, 29, 30, 31, 32, 33, 34, 35, 36, 37, 38, 39, 40, 41, 42, 43, 44, 45, 46, 47, 48, 49, 50, 51, 52, 53, 54, 55, 56, 57, 58, 59, 60, 61, 62, 63, 64, 65, 66, 67] (by decide +kernel) (by decide +kernel)
set_option maxRecDepth 20000 in
theorem gX7_weigh_X7_units : GoodIn wsX7_weigh (wsV RX7 158 RX7 yX7_units wsX7_units) := goodIn_app (goodIn_of _ (by decide +kernel)) ggX7_weigh_X7_units
set_option maxRecDepth 20000 in
theorem ggX7_weigh_X7_leastIn : GoodIn wsX7_weigh wsX7_leastIn := goodIn_r _ [20, 16, 4, 25, 26, 27, 28, 29, 30, 31, 32, 33, 34, 35, 36, 37, 38, 39, 40, 41, 42, 43, 44, 45, 46, 47, 48, 49, 50, 51, 52, 53, 54, 55, 56, 57, 58, 59, 60, 61, 62, 63, 64, 65, 66, 67] (by decide +kernel) (by decide +kernel)
set_option maxRecDepth 20000 in
theorem gX7_weigh_X7_leastIn : GoodIn wsX7_weigh (wsV RX7 171 RX7 yX7_leastIn wsX7_leastIn) := goodIn_app (goodIn_of _ (by decide +kernel)) ggX7_weigh_X7_leastIn
set_option maxRecDepth 20000 in
theorem ggX7_weigh_X7_greatestIn : GoodIn wsX7_weigh wsX7_greatestIn := goodIn_r _ [24, 16, 4, 25, 26, 27, 28, 29, 30, 31, 32, 33, 34, 35, 36, 37, 38, 39, 40, 41, 42, 43, 44, 45, 46, 47, 48, 49, 50, 51, 52, 53, 54, 55, 56, 57, 58, 59, 60, 61, 62, 63, 64, 65, 66, 67] (by decide +kernel) (by decide +kernel)
set_option maxRecDepth 20000 in
theorem gX7_weigh_X7_greatestIn : GoodIn wsX7_weigh (wsV RX7 174 RX7 yX7_greatestIn wsX7_greatestIn) := goodIn_app (goodIn_of _ (by decide +kernel)) ggX7_weigh_X7_greatestIn
theorem dX7_weigh_0 : decode cX7_weigh 0 = .ok (.iload_n 1, 1) := by decide +kernel
theorem dX7_weigh_1 : decode cX7_weigh 1 = .ok (.invokestatic 164, 3) := by decide +kernel
theorem dX7_weigh_4 : decode cX7_weigh 4 = .ok (.ifCond .eq 13, 3) := by decide +kernel
theorem dX7_weigh_7 : decode cX7_weigh 7 = .ok (.iload_n 2, 1) := by decide +kernel
theorem dX7_weigh_8 : decode cX7_weigh 8 = .ok (.iconst 0, 1) := by decide +kernel
theorem dX7_weigh_9 : decode cX7_weigh 9 = .ok (.ldc 170, 2) := by decide +kernel
theorem dX7_weigh_11 : decode cX7_weigh 11 = .ok (.invokestatic 127, 3) := by decide +kernel
theorem dX7_weigh_14 : decode cX7_weigh 14 = .ok (.ifCond .ne 5, 3) := by decide +kernel
theorem dX7_weigh_17 : decode cX7_weigh 17 = .ok (.iconst (-1), 1) := by decide +kernel
theorem dX7_weigh_18 : decode cX7_weigh 18 = .ok (.ireturn, 1) := by decide +kernel
theorem dX7_weigh_19 : decode cX7_weigh 19 = .ok (.iload_n 2, 1) := by decide +kernel
theorem dX7_weigh_20 : decode cX7_weigh 20 = .ok (.aload_n 0, 1) := by decide +kernel
theorem dX7_weigh_21 : decode cX7_weigh 21 = .ok (.getfield 84, 3) := by decide +kernel
theorem dX7_weigh_24 : decode cX7_weigh 24 = .ok (.iconst 0, 1) := by decide +kernel
theorem dX7_weigh_25 : decode cX7_weigh 25 = .ok (.iaload, 1) := by decide +kernel
theorem dX7_weigh_26 : decode cX7_weigh 26 = .ok (.aload_n 0, 1) := by decide +kernel
theorem dX7_weigh_27 : decode cX7_weigh 27 = .ok (.getfield 84, 3) := by decide +kernel
theorem dX7_weigh_30 : decode cX7_weigh 30 = .ok (.iconst 2, 1) := by decide +kernel
theorem dX7_weigh_31 : decode cX7_weigh 31 = .ok (.iaload, 1) := by decide +kernel
theorem dX7_weigh_32 : decode cX7_weigh 32 = .ok (.imul, 1) := by decide +kernel
theorem dX7_weigh_33 : decode cX7_weigh 33 = .ok (.isub, 1) := by decide +kernel
theorem dX7_weigh_34 : decode cX7_weigh 34 = .ok (.aload_n 0, 1) := by decide +kernel
theorem dX7_weigh_35 : decode cX7_weigh 35 = .ok (.getfield 84, 3) := by decide +kernel
theorem dX7_weigh_38 : decode cX7_weigh 38 = .ok (.iconst 3, 1) := by decide +kernel
theorem dX7_weigh_39 : decode cX7_weigh 39 = .ok (.iaload, 1) := by decide +kernel
theorem dX7_weigh_40 : decode cX7_weigh 40 = .ok (.isub, 1) := by decide +kernel
theorem dX7_weigh_41 : decode cX7_weigh 41 = .ok (.istore_n 3, 1) := by decide +kernel
theorem dX7_weigh_42 : decode cX7_weigh 42 = .ok (.aload_n 0, 1) := by decide +kernel
theorem dX7_weigh_43 : decode cX7_weigh 43 = .ok (.getfield 74, 3) := by decide +kernel
theorem dX7_weigh_46 : decode cX7_weigh 46 = .ok (.iload_n 1, 1) := by decide +kernel
theorem dX7_weigh_47 : decode cX7_weigh 47 = .ok (.baload, 1) := by decide +kernel
theorem dX7_weigh_48 : decode cX7_weigh 48 = .ok (.ifCond .ne 47, 3) := by decide +kernel
theorem dX7_weigh_51 : decode cX7_weigh 51 = .ok (.aload_n 0, 1) := by decide +kernel
theorem dX7_weigh_52 : decode cX7_weigh 52 = .ok (.iload_n 1, 1) := by decide +kernel
theorem dX7_weigh_53 : decode cX7_weigh 53 = .ok (.invokevirtual 158, 3) := by decide +kernel
theorem dX7_weigh_56 : decode cX7_weigh 56 = .ok (.aload_n 0, 1) := by decide +kernel
theorem dX7_weigh_57 : decode cX7_weigh 57 = .ok (.getfield 84, 3) := by decide +kernel
theorem dX7_weigh_60 : decode cX7_weigh 60 = .ok (.iconst 0, 1) := by decide +kernel
theorem dX7_weigh_61 : decode cX7_weigh 61 = .ok (.iaload, 1) := by decide +kernel
theorem dX7_weigh_62 : decode cX7_weigh 62 = .ok (.iconst 1, 1) := by decide +kernel
theorem dX7_weigh_63 : decode cX7_weigh 63 = .ok (.isub, 1) := by decide +kernel
theorem dX7_weigh_64 : decode cX7_weigh 64 = .ok (.if_icmp .ne 31, 3) := by decide +kernel
theorem dX7_weigh_67 : decode cX7_weigh 67 = .ok (.aload_n 0, 1) := by decide +kernel
theorem dX7_weigh_68 : decode cX7_weigh 68 = .ok (.iload_n 1, 1) := by decide +kernel
theorem dX7_weigh_69 : decode cX7_weigh 69 = .ok (.invokevirtual 158, 3) := by decide +kernel
theorem dX7_weigh_72 : decode cX7_weigh 72 = .ok (.ifCond .eq 23, 3) := by decide +kernel
theorem dX7_weigh_75 : decode cX7_weigh 75 = .ok (.iload_n 3, 1) := by decide +kernel
theorem dX7_weigh_76 : decode cX7_weigh 76 = .ok (.aload_n 0, 1) := by decide +kernel
theorem dX7_weigh_77 : decode cX7_weigh 77 = .ok (.getfield 84, 3) := by decide +kernel
theorem dX7_weigh_80 : decode cX7_weigh 80 = .ok (.iconst 4, 1) := by decide +kernel
theorem dX7_weigh_81 : decode cX7_weigh 81 = .ok (.iaload, 1) := by decide +kernel
theorem dX7_weigh_82 : decode cX7_weigh 82 = .ok (.ineg, 1) := by decide +kernel
theorem dX7_weigh_83 : decode cX7_weigh 83 = .ok (.aload_n 0, 1) := by decide +kernel
theorem dX7_weigh_84 : decode cX7_weigh 84 = .ok (.getfield 84, 3) := by decide +kernel
theorem dX7_weigh_87 : decode cX7_weigh 87 = .ok (.iconst 4, 1) := by decide +kernel
theorem dX7_weigh_88 : decode cX7_weigh 88 = .ok (.iaload, 1) := by decide +kernel
theorem dX7_weigh_89 : decode cX7_weigh 89 = .ok (.invokestatic 127, 3) := by decide +kernel
theorem dX7_weigh_92 : decode cX7_weigh 92 = .ok (.ifCond .ne 6, 3) := by decide +kernel
theorem dX7_weigh_95 : decode cX7_weigh 95 = .ok (.bipush (-2), 2) := by decide +kernel
theorem dX7_weigh_97 : decode cX7_weigh 97 = .ok (.ireturn, 1) := by decide +kernel
theorem dX7_weigh_98 : decode cX7_weigh 98 = .ok (.bipush (-4), 2) := by decide +kernel
theorem dX7_weigh_100 : decode cX7_weigh 100 = .ok (.istore 4, 2) := by decide +kernel
theorem dX7_weigh_102 : decode cX7_weigh 102 = .ok (.iconst 0, 1) := by decide +kernel
theorem dX7_weigh_103 : decode cX7_weigh 103 = .ok (.istore 5, 2) := by decide +kernel
theorem dX7_weigh_105 : decode cX7_weigh 105 = .ok (.aload_n 0, 1) := by decide +kernel
theorem dX7_weigh_106 : decode cX7_weigh 106 = .ok (.iload_n 1, 1) := by decide +kernel
theorem dX7_weigh_107 : decode cX7_weigh 107 = .ok (.invokevirtual 171, 3) := by decide +kernel
theorem dX7_weigh_110 : decode cX7_weigh 110 = .ok (.iconst 1, 1) := by decide +kernel
theorem dX7_weigh_111 : decode cX7_weigh 111 = .ok (.iadd, 1) := by decide +kernel
theorem dX7_weigh_112 : decode cX7_weigh 112 = .ok (.istore 6, 2) := by decide +kernel
theorem dX7_weigh_114 : decode cX7_weigh 114 = .ok (.iload 6, 2) := by decide +kernel
theorem dX7_weigh_116 : decode cX7_weigh 116 = .ok (.aload_n 0, 1) := by decide +kernel
theorem dX7_weigh_117 : decode cX7_weigh 117 = .ok (.iload_n 1, 1) := by decide +kernel
theorem dX7_weigh_118 : decode cX7_weigh 118 = .ok (.invokevirtual 174, 3) := by decide +kernel
theorem dX7_weigh_121 : decode cX7_weigh 121 = .ok (.if_icmp .ge 26, 3) := by decide +kernel
theorem dX7_weigh_124 : decode cX7_weigh 124 = .ok (.aload_n 0, 1) := by decide +kernel
theorem dX7_weigh_125 : decode cX7_weigh 125 = .ok (.getfield 68, 3) := by decide +kernel
theorem dX7_weigh_128 : decode cX7_weigh 128 = .ok (.iload 6, 2) := by decide +kernel
theorem dX7_weigh_130 : decode cX7_weigh 130 = .ok (.iaload, 1) := by decide +kernel
theorem dX7_weigh_131 : decode cX7_weigh 131 = .ok (.ifCond .ge 10, 3) := by decide +kernel
theorem dX7_weigh_134 : decode cX7_weigh 134 = .ok (.iload 6, 2) := by decide +kernel
theorem dX7_weigh_136 : decode cX7_weigh 136 = .ok (.istore 4, 2) := by decide +kernel
theorem dX7_weigh_138 : decode cX7_weigh 138 = .ok (.iinc 5 1, 3) := by decide +kernel
theorem dX7_weigh_141 : decode cX7_weigh 141 = .ok (.iinc 6 1, 3) := by decide +kernel
theorem dX7_weigh_144 : decode cX7_weigh 144 = .ok (.goto (-30), 3) := by decide +kernel
theorem dX7_weigh_147 : decode cX7_weigh 147 = .ok (.iload 5, 2) := by decide +kernel
theorem dX7_weigh_149 : decode cX7_weigh 149 = .ok (.iconst 1, 1) := by decide +kernel
theorem dX7_weigh_150 : decode cX7_weigh 150 = .ok (.if_icmp .eq 6, 3) := by decide +kernel
theorem dX7_weigh_153 : decode cX7_weigh 153 = .ok (.bipush (-2), 2) := by decide +kernel
theorem dX7_weigh_155 : decode cX7_weigh 155 = .ok (.ireturn, 1) := by decide +kernel
theorem dX7_weigh_156 : decode cX7_weigh 156 = .ok (.aload_n 0, 1) := by decide +kernel
theorem dX7_weigh_157 : decode cX7_weigh 157 = .ok (.getfield 68, 3) := by decide +kernel
theorem dX7_weigh_160 : decode cX7_weigh 160 = .ok (.iload 4, 2) := by decide +kernel
theorem dX7_weigh_162 : decode cX7_weigh 162 = .ok (.iload_n 1, 1) := by decide +kernel
theorem dX7_weigh_163 : decode cX7_weigh 163 = .ok (.iastore, 1) := by decide +kernel
theorem dX7_weigh_164 : decode cX7_weigh 164 = .ok (.aload_n 0, 1) := by decide +kernel
theorem dX7_weigh_165 : decode cX7_weigh 165 = .ok (.getfield 74, 3) := by decide +kernel
theorem dX7_weigh_168 : decode cX7_weigh 168 = .ok (.iload_n 1, 1) := by decide +kernel
theorem dX7_weigh_169 : decode cX7_weigh 169 = .ok (.iconst 1, 1) := by decide +kernel
theorem dX7_weigh_170 : decode cX7_weigh 170 = .ok (.bastore, 1) := by decide +kernel
theorem dX7_weigh_171 : decode cX7_weigh 171 = .ok (.iload 4, 2) := by decide +kernel
theorem dX7_weigh_173 : decode cX7_weigh 173 = .ok (.ireturn, 1) := by decide +kernel
set_option maxRecDepth 20000 in
theorem ggX7_stack_X7_isCase : GoodIn wsX7_stack wsX7_isCase := goodIn_r _ [8, 9, 10, 7, 11] (by decide +kernel) (by decide +kernel)
set_option maxRecDepth 20000 in
theorem gX7_stack_X7_isCase : GoodIn wsX7_stack (va_wsS RX7 164 yX7_isCase wsX7_isCase) := goodIn_app (goodIn_of _ (by decide +kernel)) ggX7_stack_X7_isCase
set_option maxRecDepth 20000 in
theorem ggX7_stack_X7_isPallet : GoodIn wsX7_stack wsX7_isPallet := goodIn_r _ [14, 9, 10, 7, 11] (by decide +kernel) (by decide +kernel)
set_option maxRecDepth 20000 in
theorem gX7_stack_X7_isPallet : GoodIn wsX7_stack (va_wsS RX7 177 yX7_isPallet wsX7_isPallet) := goodIn_app (goodIn_of _ (by decide +kernel)) ggX7_stack_X7_isPallet
set_option maxRecDepth 20000 in
theorem ggX7_stack_X7_casesOn : GoodIn wsX7_stack wsX7_casesOn := goodIn_r _ [18, 2, 19, 20, 21, 22, 23, 24, 25, 26, 27, 28, 29, 30, 31, 32, 33, 34, 35, 36, 37, 38, 39, 40, 41, 42, 43, 44, 45, 46, 47, 48, 49, 50, 51, 52, 53, 54, 55, 56, 57, 58, 59, 60, 61] (by decide +kernel) (by decide +kernel)
set_option maxRecDepth 20000 in
theorem gX7_stack_X7_casesOn : GoodIn wsX7_stack (wsV RX7 161 RX7 yX7_casesOn wsX7_casesOn) := goodIn_app (goodIn_of _ (by decide +kernel)) ggX7_stack_X7_casesOn
theorem dX7_stack_0 : decode cX7_stack 0 = .ok (.iload_n 1, 1) := by decide +kernel
theorem dX7_stack_1 : decode cX7_stack 1 = .ok (.invokestatic 164, 3) := by decide +kernel
theorem dX7_stack_4 : decode cX7_stack 4 = .ok (.ifCond .eq 10, 3) := by decide +kernel
theorem dX7_stack_7 : decode cX7_stack 7 = .ok (.iload_n 2, 1) := by decide +kernel
theorem dX7_stack_8 : decode cX7_stack 8 = .ok (.invokestatic 177, 3) := by decide +kernel
theorem dX7_stack_11 : decode cX7_stack 11 = .ok (.ifCond .ne 5, 3) := by decide +kernel
theorem dX7_stack_14 : decode cX7_stack 14 = .ok (.iconst (-1), 1) := by decide +kernel
theorem dX7_stack_15 : decode cX7_stack 15 = .ok (.ireturn, 1) := by decide +kernel
theorem dX7_stack_16 : decode cX7_stack 16 = .ok (.aload_n 0, 1) := by decide +kernel
theorem dX7_stack_17 : decode cX7_stack 17 = .ok (.getfield 74, 3) := by decide +kernel
theorem dX7_stack_20 : decode cX7_stack 20 = .ok (.iload_n 1, 1) := by decide +kernel
theorem dX7_stack_21 : decode cX7_stack 21 = .ok (.baload, 1) := by decide +kernel
theorem dX7_stack_22 : decode cX7_stack 22 = .ok (.ifCond .eq 21, 3) := by decide +kernel
theorem dX7_stack_25 : decode cX7_stack 25 = .ok (.aload_n 0, 1) := by decide +kernel
theorem dX7_stack_26 : decode cX7_stack 26 = .ok (.getfield 78, 3) := by decide +kernel
theorem dX7_stack_29 : decode cX7_stack 29 = .ok (.iload_n 1, 1) := by decide +kernel
theorem dX7_stack_30 : decode cX7_stack 30 = .ok (.iaload, 1) := by decide +kernel
theorem dX7_stack_31 : decode cX7_stack 31 = .ok (.ifCond .ge 12, 3) := by decide +kernel
theorem dX7_stack_34 : decode cX7_stack 34 = .ok (.aload_n 0, 1) := by decide +kernel
theorem dX7_stack_35 : decode cX7_stack 35 = .ok (.getfield 81, 3) := by decide +kernel
theorem dX7_stack_38 : decode cX7_stack 38 = .ok (.iload_n 2, 1) := by decide +kernel
theorem dX7_stack_39 : decode cX7_stack 39 = .ok (.baload, 1) := by decide +kernel
theorem dX7_stack_40 : decode cX7_stack 40 = .ok (.ifCond .eq 6, 3) := by decide +kernel
theorem dX7_stack_43 : decode cX7_stack 43 = .ok (.bipush (-2), 2) := by decide +kernel
theorem dX7_stack_45 : decode cX7_stack 45 = .ok (.ireturn, 1) := by decide +kernel
theorem dX7_stack_46 : decode cX7_stack 46 = .ok (.aload_n 0, 1) := by decide +kernel
theorem dX7_stack_47 : decode cX7_stack 47 = .ok (.iload_n 2, 1) := by decide +kernel
theorem dX7_stack_48 : decode cX7_stack 48 = .ok (.invokevirtual 161, 3) := by decide +kernel
theorem dX7_stack_51 : decode cX7_stack 51 = .ok (.aload_n 0, 1) := by decide +kernel
theorem dX7_stack_52 : decode cX7_stack 52 = .ok (.getfield 84, 3) := by decide +kernel
theorem dX7_stack_55 : decode cX7_stack 55 = .ok (.iconst 1, 1) := by decide +kernel
theorem dX7_stack_56 : decode cX7_stack 56 = .ok (.iaload, 1) := by decide +kernel
theorem dX7_stack_57 : decode cX7_stack 57 = .ok (.if_icmp .lt 6, 3) := by decide +kernel
theorem dX7_stack_60 : decode cX7_stack 60 = .ok (.bipush (-3), 2) := by decide +kernel
theorem dX7_stack_62 : decode cX7_stack 62 = .ok (.ireturn, 1) := by decide +kernel
theorem dX7_stack_63 : decode cX7_stack 63 = .ok (.aload_n 0, 1) := by decide +kernel
theorem dX7_stack_64 : decode cX7_stack 64 = .ok (.getfield 78, 3) := by decide +kernel
theorem dX7_stack_67 : decode cX7_stack 67 = .ok (.iload_n 1, 1) := by decide +kernel
theorem dX7_stack_68 : decode cX7_stack 68 = .ok (.iload_n 2, 1) := by decide +kernel
theorem dX7_stack_69 : decode cX7_stack 69 = .ok (.iastore, 1) := by decide +kernel
theorem dX7_stack_70 : decode cX7_stack 70 = .ok (.aload_n 0, 1) := by decide +kernel
theorem dX7_stack_71 : decode cX7_stack 71 = .ok (.iload_n 2, 1) := by decide +kernel
theorem dX7_stack_72 : decode cX7_stack 72 = .ok (.invokevirtual 161, 3) := by decide +kernel
theorem dX7_stack_75 : decode cX7_stack 75 = .ok (.ireturn, 1) := by decide +kernel
set_option maxRecDepth 20000 in
theorem ggX7_seal_X7_isPallet : GoodIn wsX7_seal wsX7_isPallet := goodIn_r _ [5, 6, 7, 4, 8] (by decide +kernel) (by decide +kernel)
set_option maxRecDepth 20000 in
theorem gX7_seal_X7_isPallet : GoodIn wsX7_seal (va_wsS RX7 177 yX7_isPallet wsX7_isPallet) := goodIn_app (goodIn_of _ (by decide +kernel)) ggX7_seal_X7_isPallet
set_option maxRecDepth 20000 in
theorem ggX7_seal_X7_casesOn : GoodIn wsX7_seal wsX7_casesOn := goodIn_r _ [12, 13, 14, 15, 16, 17, 18, 19, 20, 21, 22, 23, 24, 25, 26, 27, 28, 29, 30, 31, 32, 33, 34, 35, 36, 37, 38, 39, 40, 41, 42, 43, 44, 45, 46, 47, 48, 49, 50, 51, 52, 53, 54, 55, 56] (by decide +kernel) (by decide +kernel)
set_option maxRecDepth 20000 in
theorem gX7_seal_X7_casesOn : GoodIn wsX7_seal (wsV RX7 161 RX7 yX7_casesOn wsX7_casesOn) := goodIn_app (goodIn_of _ (by decide +kernel)) ggX7_seal_X7_casesOn
theorem dX7_seal_0 : decode cX7_seal 0 = .ok (.iload_n 1, 1) := by decide +kernel
theorem dX7_seal_1 : decode cX7_seal 1 = .ok (.invokestatic 177, 3) := by decide +kernel
theorem dX7_seal_4 : decode cX7_seal 4 = .ok (.ifCond .ne 5, 3) := by decide +kernel
theorem dX7_seal_7 : decode cX7_seal 7 = .ok (.iconst (-1), 1) := by decide +kernel
theorem dX7_seal_8 : decode cX7_seal 8 = .ok (.ireturn, 1) := by decide +kernel
theorem dX7_seal_9 : decode cX7_seal 9 = .ok (.aload_n 0, 1) := by decide +kernel
theorem dX7_seal_10 : decode cX7_seal 10 = .ok (.iload_n 1, 1) := by decide +kernel
theorem dX7_seal_11 : decode cX7_seal 11 = .ok (.invokevirtual 161, 3) := by decide +kernel
theorem dX7_seal_14 : decode cX7_seal 14 = .ok (.istore_n 2, 1) := by decide +kernel
theorem dX7_seal_15 : decode cX7_seal 15 = .ok (.aload_n 0, 1) := by decide +kernel
theorem dX7_seal_16 : decode cX7_seal 16 = .ok (.getfield 81, 3) := by decide +kernel
theorem dX7_seal_19 : decode cX7_seal 19 = .ok (.iload_n 1, 1) := by decide +kernel
theorem dX7_seal_20 : decode cX7_seal 20 = .ok (.baload, 1) := by decide +kernel
theorem dX7_seal_21 : decode cX7_seal 21 = .ok (.ifCond .ne 7, 3) := by decide +kernel
theorem dX7_seal_24 : decode cX7_seal 24 = .ok (.iload_n 2, 1) := by decide +kernel
theorem dX7_seal_25 : decode cX7_seal 25 = .ok (.ifCond .ne 6, 3) := by decide +kernel
theorem dX7_seal_28 : decode cX7_seal 28 = .ok (.bipush (-2), 2) := by decide +kernel
theorem dX7_seal_30 : decode cX7_seal 30 = .ok (.ireturn, 1) := by decide +kernel
theorem dX7_seal_31 : decode cX7_seal 31 = .ok (.aload_n 0, 1) := by decide +kernel
theorem dX7_seal_32 : decode cX7_seal 32 = .ok (.getfield 81, 3) := by decide +kernel
theorem dX7_seal_35 : decode cX7_seal 35 = .ok (.iload_n 1, 1) := by decide +kernel
theorem dX7_seal_36 : decode cX7_seal 36 = .ok (.iconst 1, 1) := by decide +kernel
theorem dX7_seal_37 : decode cX7_seal 37 = .ok (.bastore, 1) := by decide +kernel
theorem dX7_seal_38 : decode cX7_seal 38 = .ok (.iload_n 2, 1) := by decide +kernel
theorem dX7_seal_39 : decode cX7_seal 39 = .ok (.ireturn, 1) := by decide +kernel
set_option maxRecDepth 20000 in
theorem ggX7_breakUp_X7_in : GoodIn wsX7_breakUp wsX7_in := goodIn_r _ [9] (by decide +kernel) (by decide +kernel)
set_option maxRecDepth 20000 in
theorem gX7_breakUp_X7_in : GoodIn wsX7_breakUp (va_wsS RX7 127 yX7_in wsX7_in) := goodIn_app (goodIn_of _ (by decide +kernel)) ggX7_breakUp_X7_in
set_option maxRecDepth 20000 in
theorem ggX7_breakUp_X7_isCase : GoodIn wsX7_breakUp wsX7_isCase := goodIn_r _ [12, 6, 7, 8, 9] (by decide +kernel) (by decide +kernel)
set_option maxRecDepth 20000 in
theorem gX7_breakUp_X7_isCase : GoodIn wsX7_breakUp (va_wsS RX7 164 yX7_isCase wsX7_isCase) := goodIn_app (goodIn_of _ (by decide +kernel)) ggX7_breakUp_X7_isCase
set_option maxRecDepth 20000 in
theorem ggX7_breakUp_X7_isPallet : GoodIn wsX7_breakUp wsX7_isPallet := goodIn_r _ [15, 6, 7, 8, 9] (by decide +kernel) (by decide +kernel)
set_option maxRecDepth 20000 in
theorem gX7_breakUp_X7_isPallet : GoodIn wsX7_breakUp (va_wsS RX7 177 yX7_isPallet wsX7_isPallet) := goodIn_app (goodIn_of _ (by decide +kernel)) ggX7_breakUp_X7_isPallet
set_option maxRecDepth 20000 in
theorem ggX7_breakUp_X7_units : GoodIn wsX7_breakUp wsX7_units := goodIn_r _ [19, 2, 3, 24, 25, 26, 27, 28, 29, 30, 31, 32, 33, 34, 35, 36, 37, 38, 39, 40, 41, 42, 43, 44, 45, 46, 47, 48, 49, 50, 51, 52, 53, 54, 55, 56, 57, 58, 59, 60, 61, 62, 63, 64, 65, 66] (by decide +kernel) (by decide +kernel)
set_option maxRecDepth 20000 in
theorem gX7_breakUp_X7_units : GoodIn wsX7_breakUp (wsV RX7 158 RX7 yX7_units wsX7_units) := goodIn_app (goodIn_of _ (by decide +kernel)) ggX7_breakUp_X7_units
set_option maxRecDepth 20000 in
theorem ggX7_breakUp_X7_casesOn : GoodIn wsX7_breakUp wsX7_casesOn := goodIn_r _ [23, 1, 24, 25, 26, 27, 28, 29, 30, 31, 32, 33, 34, 35, 36, 37, 38, 39, 40, 41, 42, 43, 44, 45, 46, 47, 48, 49, 50, 51, 52, 53, 54, 55, 56, 57, 58, 59, 60, 61, 62, 63, 64, 65, 66] (by decide +kernel) (by decide +kernel)
set_option maxRecDepth 20000 in
theorem gX7_breakUp_X7_casesOn : GoodIn wsX7_breakUp (wsV RX7 161 RX7 yX7_casesOn wsX7_casesOn) := goodIn_app (goodIn_of _ (by decide +kernel)) ggX7_breakUp_X7_casesOn
theorem dX7_breakUp_0 : decode cX7_breakUp 0 = .ok (.iload_n 1, 1) := by decide +kernel
theorem dX7_breakUp_1 : decode cX7_breakUp 1 = .ok (.iconst 0, 1) := by decide +kernel
theorem dX7_breakUp_2 : decode cX7_breakUp 2 = .ok (.iconst 1, 1) := by decide +kernel
theorem dX7_breakUp_3 : decode cX7_breakUp 3 = .ok (.invokestatic 127, 3) := by decide +kernel
theorem dX7_breakUp_6 : decode cX7_breakUp 6 = .ok (.ifCond .eq 24, 3) := by decide +kernel
theorem dX7_breakUp_9 : decode cX7_breakUp 9 = .ok (.iload_n 1, 1) := by decide +kernel
theorem dX7_breakUp_10 : decode cX7_breakUp 10 = .ok (.ifCond .ne 13, 3) := by decide +kernel
theorem dX7_breakUp_13 : decode cX7_breakUp 13 = .ok (.iload_n 2, 1) := by decide +kernel
theorem dX7_breakUp_14 : decode cX7_breakUp 14 = .ok (.invokestatic 164, 3) := by decide +kernel
theorem dX7_breakUp_17 : decode cX7_breakUp 17 = .ok (.ifCond .eq 13, 3) := by decide +kernel
theorem dX7_breakUp_20 : decode cX7_breakUp 20 = .ok (.goto 12, 3) := by decide +kernel
theorem dX7_breakUp_23 : decode cX7_breakUp 23 = .ok (.iload_n 2, 1) := by decide +kernel
theorem dX7_breakUp_24 : decode cX7_breakUp 24 = .ok (.invokestatic 177, 3) := by decide +kernel
theorem dX7_breakUp_27 : decode cX7_breakUp 27 = .ok (.ifCond .ne 5, 3) := by decide +kernel
theorem dX7_breakUp_30 : decode cX7_breakUp 30 = .ok (.iconst (-1), 1) := by decide +kernel
theorem dX7_breakUp_31 : decode cX7_breakUp 31 = .ok (.ireturn, 1) := by decide +kernel
theorem dX7_breakUp_32 : decode cX7_breakUp 32 = .ok (.iload_n 1, 1) := by decide +kernel
theorem dX7_breakUp_33 : decode cX7_breakUp 33 = .ok (.ifCond .ne 15, 3) := by decide +kernel
theorem dX7_breakUp_36 : decode cX7_breakUp 36 = .ok (.aload_n 0, 1) := by decide +kernel
theorem dX7_breakUp_37 : decode cX7_breakUp 37 = .ok (.getfield 78, 3) := by decide +kernel
theorem dX7_breakUp_40 : decode cX7_breakUp 40 = .ok (.iload_n 2, 1) := by decide +kernel
theorem dX7_breakUp_41 : decode cX7_breakUp 41 = .ok (.iaload, 1) := by decide +kernel
theorem dX7_breakUp_42 : decode cX7_breakUp 42 = .ok (.ifCond .lt 6, 3) := by decide +kernel
theorem dX7_breakUp_45 : decode cX7_breakUp 45 = .ok (.bipush (-2), 2) := by decide +kernel
theorem dX7_breakUp_47 : decode cX7_breakUp 47 = .ok (.ireturn, 1) := by decide +kernel
theorem dX7_breakUp_48 : decode cX7_breakUp 48 = .ok (.iload_n 1, 1) := by decide +kernel
theorem dX7_breakUp_49 : decode cX7_breakUp 49 = .ok (.ifCond .ne 11, 3) := by decide +kernel
theorem dX7_breakUp_52 : decode cX7_breakUp 52 = .ok (.aload_n 0, 1) := by decide +kernel
theorem dX7_breakUp_53 : decode cX7_breakUp 53 = .ok (.iload_n 2, 1) := by decide +kernel
theorem dX7_breakUp_54 : decode cX7_breakUp 54 = .ok (.invokevirtual 158, 3) := by decide +kernel
theorem dX7_breakUp_57 : decode cX7_breakUp 57 = .ok (.goto 8, 3) := by decide +kernel
theorem dX7_breakUp_60 : decode cX7_breakUp 60 = .ok (.aload_n 0, 1) := by decide +kernel
theorem dX7_breakUp_61 : decode cX7_breakUp 61 = .ok (.iload_n 2, 1) := by decide +kernel
theorem dX7_breakUp_62 : decode cX7_breakUp 62 = .ok (.invokevirtual 161, 3) := by decide +kernel
theorem dX7_breakUp_65 : decode cX7_breakUp 65 = .ok (.istore_n 3, 1) := by decide +kernel
theorem dX7_breakUp_66 : decode cX7_breakUp 66 = .ok (.iload_n 1, 1) := by decide +kernel
theorem dX7_breakUp_67 : decode cX7_breakUp 67 = .ok (.ifCond .ne 61, 3) := by decide +kernel
theorem dX7_breakUp_70 : decode cX7_breakUp 70 = .ok (.iconst 0, 1) := by decide +kernel
theorem dX7_breakUp_71 : decode cX7_breakUp 71 = .ok (.istore 4, 2) := by decide +kernel
theorem dX7_breakUp_73 : decode cX7_breakUp 73 = .ok (.iload 4, 2) := by decide +kernel
theorem dX7_breakUp_75 : decode cX7_breakUp 75 = .ok (.aload_n 0, 1) := by decide +kernel
theorem dX7_breakUp_76 : decode cX7_breakUp 76 = .ok (.getfield 139, 3) := by decide +kernel
theorem dX7_breakUp_79 : decode cX7_breakUp 79 = .ok (.if_icmp .ge 39, 3) := by decide +kernel
theorem dX7_breakUp_82 : decode cX7_breakUp 82 = .ok (.aload_n 0, 1) := by decide +kernel
theorem dX7_breakUp_83 : decode cX7_breakUp 83 = .ok (.getfield 68, 3) := by decide +kernel
theorem dX7_breakUp_86 : decode cX7_breakUp 86 = .ok (.iload 4, 2) := by decide +kernel
theorem dX7_breakUp_88 : decode cX7_breakUp 88 = .ok (.aload_n 0, 1) := by decide +kernel
theorem dX7_breakUp_89 : decode cX7_breakUp 89 = .ok (.getfield 68, 3) := by decide +kernel
theorem dX7_breakUp_92 : decode cX7_breakUp 92 = .ok (.iload 4, 2) := by decide +kernel
theorem dX7_breakUp_94 : decode cX7_breakUp 94 = .ok (.iaload, 1) := by decide +kernel
theorem dX7_breakUp_95 : decode cX7_breakUp 95 = .ok (.iload_n 2, 1) := by decide +kernel
theorem dX7_breakUp_96 : decode cX7_breakUp 96 = .ok (.if_icmp .ne 8, 3) := by decide +kernel
theorem dX7_breakUp_99 : decode cX7_breakUp 99 = .ok (.bipush (-4), 2) := by decide +kernel
theorem dX7_breakUp_101 : decode cX7_breakUp 101 = .ok (.goto 10, 3) := by decide +kernel
theorem dX7_breakUp_104 : decode cX7_breakUp 104 = .ok (.aload_n 0, 1) := by decide +kernel
theorem dX7_breakUp_105 : decode cX7_breakUp 105 = .ok (.getfield 68, 3) := by decide +kernel
theorem dX7_breakUp_108 : decode cX7_breakUp 108 = .ok (.iload 4, 2) := by decide +kernel
theorem dX7_breakUp_110 : decode cX7_breakUp 110 = .ok (.iaload, 1) := by decide +kernel
theorem dX7_breakUp_111 : decode cX7_breakUp 111 = .ok (.iastore, 1) := by decide +kernel
theorem dX7_breakUp_112 : decode cX7_breakUp 112 = .ok (.iinc 4 1, 3) := by decide +kernel
theorem dX7_breakUp_115 : decode cX7_breakUp 115 = .ok (.goto (-42), 3) := by decide +kernel
theorem dX7_breakUp_118 : decode cX7_breakUp 118 = .ok (.aload_n 0, 1) := by decide +kernel
theorem dX7_breakUp_119 : decode cX7_breakUp 119 = .ok (.getfield 74, 3) := by decide +kernel
theorem dX7_breakUp_122 : decode cX7_breakUp 122 = .ok (.iload_n 2, 1) := by decide +kernel
theorem dX7_breakUp_123 : decode cX7_breakUp 123 = .ok (.iconst 0, 1) := by decide +kernel
theorem dX7_breakUp_124 : decode cX7_breakUp 124 = .ok (.bastore, 1) := by decide +kernel
theorem dX7_breakUp_125 : decode cX7_breakUp 125 = .ok (.goto 56, 3) := by decide +kernel
theorem dX7_breakUp_128 : decode cX7_breakUp 128 = .ok (.iconst 0, 1) := by decide +kernel
theorem dX7_breakUp_129 : decode cX7_breakUp 129 = .ok (.istore 4, 2) := by decide +kernel
theorem dX7_breakUp_131 : decode cX7_breakUp 131 = .ok (.iload 4, 2) := by decide +kernel
theorem dX7_breakUp_133 : decode cX7_breakUp 133 = .ok (.bipush 30, 2) := by decide +kernel
theorem dX7_breakUp_135 : decode cX7_breakUp 135 = .ok (.if_icmp .ge 39, 3) := by decide +kernel
theorem dX7_breakUp_138 : decode cX7_breakUp 138 = .ok (.aload_n 0, 1) := by decide +kernel
theorem dX7_breakUp_139 : decode cX7_breakUp 139 = .ok (.getfield 78, 3) := by decide +kernel
theorem dX7_breakUp_142 : decode cX7_breakUp 142 = .ok (.iload 4, 2) := by decide +kernel
theorem dX7_breakUp_144 : decode cX7_breakUp 144 = .ok (.aload_n 0, 1) := by decide +kernel
theorem dX7_breakUp_145 : decode cX7_breakUp 145 = .ok (.getfield 78, 3) := by decide +kernel
theorem dX7_breakUp_148 : decode cX7_breakUp 148 = .ok (.iload 4, 2) := by decide +kernel
theorem dX7_breakUp_150 : decode cX7_breakUp 150 = .ok (.iaload, 1) := by decide +kernel
theorem dX7_breakUp_151 : decode cX7_breakUp 151 = .ok (.iload_n 2, 1) := by decide +kernel
theorem dX7_breakUp_152 : decode cX7_breakUp 152 = .ok (.if_icmp .ne 8, 3) := by decide +kernel
theorem dX7_breakUp_155 : decode cX7_breakUp 155 = .ok (.bipush (-4), 2) := by decide +kernel
theorem dX7_breakUp_157 : decode cX7_breakUp 157 = .ok (.goto 10, 3) := by decide +kernel
theorem dX7_breakUp_160 : decode cX7_breakUp 160 = .ok (.aload_n 0, 1) := by decide +kernel
theorem dX7_breakUp_161 : decode cX7_breakUp 161 = .ok (.getfield 78, 3) := by decide +kernel
theorem dX7_breakUp_164 : decode cX7_breakUp 164 = .ok (.iload 4, 2) := by decide +kernel
theorem dX7_breakUp_166 : decode cX7_breakUp 166 = .ok (.iaload, 1) := by decide +kernel
theorem dX7_breakUp_167 : decode cX7_breakUp 167 = .ok (.iastore, 1) := by decide +kernel
theorem dX7_breakUp_168 : decode cX7_breakUp 168 = .ok (.iinc 4 1, 3) := by decide +kernel
theorem dX7_breakUp_171 : decode cX7_breakUp 171 = .ok (.goto (-40), 3) := by decide +kernel
theorem dX7_breakUp_174 : decode cX7_breakUp 174 = .ok (.aload_n 0, 1) := by decide +kernel
theorem dX7_breakUp_175 : decode cX7_breakUp 175 = .ok (.getfield 81, 3) := by decide +kernel
theorem dX7_breakUp_178 : decode cX7_breakUp 178 = .ok (.iload_n 2, 1) := by decide +kernel
theorem dX7_breakUp_179 : decode cX7_breakUp 179 = .ok (.iconst 0, 1) := by decide +kernel
theorem dX7_breakUp_180 : decode cX7_breakUp 180 = .ok (.bastore, 1) := by decide +kernel
theorem dX7_breakUp_181 : decode cX7_breakUp 181 = .ok (.iload_n 3, 1) := by decide +kernel
theorem dX7_breakUp_182 : decode cX7_breakUp 182 = .ok (.ireturn, 1) := by decide +kernel
set_option maxRecDepth 20000 in
theorem ggX7_code_X7_isCode : GoodIn wsX7_code wsX7_isCode := goodIn_r _ [9, 10, 11, 12, 8, 13, 14, 15, 16, 17, 18, 19, 20, 21, 22, 23, 24, 25, 26, 27, 28, 29, 30, 31, 32, 33, 34, 35, 36, 37, 38, 39, 40, 41, 42, 43, 44, 45, 46, 47, 48, 49, 50, 51, 52, 53, 54, 55, 56] (by decide +kernel) (by decide +kernel)
set_option maxRecDepth 20000 in
theorem gX7_code_X7_isCode : GoodIn wsX7_code (wsV RX7 167 RX7 yX7_isCode wsX7_isCode) := goodIn_app (goodIn_of _ (by decide +kernel)) ggX7_code_X7_isCode
set_option maxRecDepth 20000 in
theorem ggX7_code_X7_in : GoodIn wsX7_code wsX7_in := goodIn_r _ [13] (by decide +kernel) (by decide +kernel)
set_option maxRecDepth 20000 in
theorem gX7_code_X7_in : GoodIn wsX7_code (va_wsS RX7 127 yX7_in wsX7_in) := goodIn_app (goodIn_of _ (by decide +kernel)) ggX7_code_X7_in
theorem dX7_code_0 : decode cX7_code 0 = .ok (.aload_n 0, 1) := by decide +kernel
theorem dX7_code_1 : decode cX7_code 1 = .ok (.iload_n 1, 1) := by decide +kernel
theorem dX7_code_2 : decode cX7_code 2 = .ok (.invokevirtual 167, 3) := by decide +kernel
theorem dX7_code_5 : decode cX7_code 5 = .ok (.ifCond .eq 12, 3) := by decide +kernel
theorem dX7_code_8 : decode cX7_code 8 = .ok (.iload_n 2, 1) := by decide +kernel
theorem dX7_code_9 : decode cX7_code 9 = .ok (.iconst 0, 1) := by decide +kernel
theorem dX7_code_10 : decode cX7_code 10 = .ok (.iconst 3, 1) := by decide +kernel
theorem dX7_code_11 : decode cX7_code 11 = .ok (.invokestatic 127, 3) := by decide +kernel
theorem dX7_code_14 : decode cX7_code 14 = .ok (.ifCond .ne 5, 3) := by decide +kernel
theorem dX7_code_17 : decode cX7_code 17 = .ok (.iconst (-1), 1) := by decide +kernel
theorem dX7_code_18 : decode cX7_code 18 = .ok (.ireturn, 1) := by decide +kernel
theorem dX7_code_19 : decode cX7_code 19 = .ok (.aload_n 0, 1) := by decide +kernel
theorem dX7_code_20 : decode cX7_code 20 = .ok (.getfield 68, 3) := by decide +kernel
theorem dX7_code_23 : decode cX7_code 23 = .ok (.iload_n 1, 1) := by decide +kernel
theorem dX7_code_24 : decode cX7_code 24 = .ok (.iaload, 1) := by decide +kernel
theorem dX7_code_25 : decode cX7_code 25 = .ok (.istore_n 3, 1) := by decide +kernel
theorem dX7_code_26 : decode cX7_code 26 = .ok (.iload_n 2, 1) := by decide +kernel
theorem dX7_code_27 : decode cX7_code 27 = .ok (.ifCond .ne 7, 3) := by decide +kernel
theorem dX7_code_30 : decode cX7_code 30 = .ok (.iload_n 3, 1) := by decide +kernel
theorem dX7_code_31 : decode cX7_code 31 = .ok (.goto 46, 3) := by decide +kernel
theorem dX7_code_34 : decode cX7_code 34 = .ok (.iload_n 2, 1) := by decide +kernel
theorem dX7_code_35 : decode cX7_code 35 = .ok (.iconst 1, 1) := by decide +kernel
theorem dX7_code_36 : decode cX7_code 36 = .ok (.if_icmp .ne 21, 3) := by decide +kernel
theorem dX7_code_39 : decode cX7_code 39 = .ok (.iload_n 3, 1) := by decide +kernel
theorem dX7_code_40 : decode cX7_code 40 = .ok (.ifCond .ge 8, 3) := by decide +kernel
theorem dX7_code_43 : decode cX7_code 43 = .ok (.bipush (-4), 2) := by decide +kernel
theorem dX7_code_45 : decode cX7_code 45 = .ok (.goto 32, 3) := by decide +kernel
theorem dX7_code_48 : decode cX7_code 48 = .ok (.aload_n 0, 1) := by decide +kernel
theorem dX7_code_49 : decode cX7_code 49 = .ok (.getfield 78, 3) := by decide +kernel
theorem dX7_code_52 : decode cX7_code 52 = .ok (.iload_n 3, 1) := by decide +kernel
theorem dX7_code_53 : decode cX7_code 53 = .ok (.iaload, 1) := by decide +kernel
theorem dX7_code_54 : decode cX7_code 54 = .ok (.goto 23, 3) := by decide +kernel
theorem dX7_code_57 : decode cX7_code 57 = .ok (.iload_n 2, 1) := by decide +kernel
theorem dX7_code_58 : decode cX7_code 58 = .ok (.iconst 2, 1) := by decide +kernel
theorem dX7_code_59 : decode cX7_code 59 = .ok (.if_icmp .ne 12, 3) := by decide +kernel
theorem dX7_code_62 : decode cX7_code 62 = .ok (.aload_n 0, 1) := by decide +kernel
theorem dX7_code_63 : decode cX7_code 63 = .ok (.getfield 65, 3) := by decide +kernel
theorem dX7_code_66 : decode cX7_code 66 = .ok (.iload_n 1, 1) := by decide +kernel
theorem dX7_code_67 : decode cX7_code 67 = .ok (.iaload, 1) := by decide +kernel
theorem dX7_code_68 : decode cX7_code 68 = .ok (.goto 9, 3) := by decide +kernel
theorem dX7_code_71 : decode cX7_code 71 = .ok (.aload_n 0, 1) := by decide +kernel
theorem dX7_code_72 : decode cX7_code 72 = .ok (.getfield 71, 3) := by decide +kernel
theorem dX7_code_75 : decode cX7_code 75 = .ok (.iload_n 1, 1) := by decide +kernel
theorem dX7_code_76 : decode cX7_code 76 = .ok (.iaload, 1) := by decide +kernel
theorem dX7_code_77 : decode cX7_code 77 = .ok (.ireturn, 1) := by decide +kernel
set_option maxRecDepth 20000 in
theorem ggX7_box_X7_isCase : GoodIn wsX7_box wsX7_isCase := goodIn_r _ [6, 7, 8, 5, 9] (by decide +kernel) (by decide +kernel)
set_option maxRecDepth 20000 in
theorem gX7_box_X7_isCase : GoodIn wsX7_box (va_wsS RX7 164 yX7_isCase wsX7_isCase) := goodIn_app (goodIn_of _ (by decide +kernel)) ggX7_box_X7_isCase
set_option maxRecDepth 20000 in
theorem ggX7_box_X7_in : GoodIn wsX7_box wsX7_in := goodIn_r _ [9] (by decide +kernel) (by decide +kernel)
set_option maxRecDepth 20000 in
theorem gX7_box_X7_in : GoodIn wsX7_box (va_wsS RX7 127 yX7_in wsX7_in) := goodIn_app (goodIn_of _ (by decide +kernel)) ggX7_box_X7_in
set_option maxRecDepth 20000 in
theorem ggX7_box_X7_units : GoodIn wsX7_box wsX7_units := goodIn_r _ [13, 14, 15, 24, 25, 26, 27, 28, 29, 30, 31, 32, 33, 34, 35, 36, 37, 38, 39, 40, 41, 42, 43, 44, 45, 46, 47, 48, 49, 50, 51, 52, 53, 54, 55, 56, 57, 58, 59, 60, 61, 62, 63, 64, 65, 66] (by decide +kernel) (by decide +kernel)
set_option maxRecDepth 20000 in
theorem gX7_box_X7_units : GoodIn wsX7_box (wsV RX7 158 RX7 yX7_units wsX7_units) := goodIn_app (goodIn_of _ (by decide +kernel)) ggX7_box_X7_units
set_option maxRecDepth 20000 in
theorem ggX7_box_X7_leastIn : GoodIn wsX7_box wsX7_leastIn := goodIn_r _ [19, 14, 15, 24, 25, 26, 27, 28, 29, 30, 31, 32, 33, 34, 35, 36, 37, 38, 39, 40, 41, 42, 43, 44, 45, 46, 47, 48, 49, 50, 51, 52, 53, 54, 55, 56, 57, 58, 59, 60, 61, 62, 63, 64, 65, 66] (by decide +kernel) (by decide +kernel)
set_option maxRecDepth 20000 in
theorem gX7_box_X7_leastIn : GoodIn wsX7_box (wsV RX7 171 RX7 yX7_leastIn wsX7_leastIn) := goodIn_app (goodIn_of _ (by decide +kernel)) ggX7_box_X7_leastIn
set_option maxRecDepth 20000 in
theorem ggX7_box_X7_greatestIn : GoodIn wsX7_box wsX7_greatestIn := goodIn_r _ [23, 14, 15, 24, 25, 26, 27, 28, 29, 30, 31, 32, 33, 34, 35, 36, 37, 38, 39, 40, 41, 42, 43, 44, 45, 46, 47, 48, 49, 50, 51, 52, 53, 54, 55, 56, 57, 58, 59, 60, 61, 62, 63, 64, 65, 66] (by decide +kernel) (by decide +kernel)
set_option maxRecDepth 20000 in
theorem gX7_box_X7_greatestIn : GoodIn wsX7_box (wsV RX7 174 RX7 yX7_greatestIn wsX7_greatestIn) := goodIn_app (goodIn_of _ (by decide +kernel)) ggX7_box_X7_greatestIn
theorem dX7_box_0 : decode cX7_box 0 = .ok (.iload_n 1, 1) := by decide +kernel
theorem dX7_box_1 : decode cX7_box 1 = .ok (.invokestatic 164, 3) := by decide +kernel
theorem dX7_box_4 : decode cX7_box 4 = .ok (.ifCond .eq 12, 3) := by decide +kernel
theorem dX7_box_7 : decode cX7_box 7 = .ok (.iload_n 2, 1) := by decide +kernel
theorem dX7_box_8 : decode cX7_box 8 = .ok (.iconst 0, 1) := by decide +kernel
theorem dX7_box_9 : decode cX7_box 9 = .ok (.iconst 4, 1) := by decide +kernel
theorem dX7_box_10 : decode cX7_box 10 = .ok (.invokestatic 127, 3) := by decide +kernel
theorem dX7_box_13 : decode cX7_box 13 = .ok (.ifCond .ne 5, 3) := by decide +kernel
theorem dX7_box_16 : decode cX7_box 16 = .ok (.iconst (-1), 1) := by decide +kernel
theorem dX7_box_17 : decode cX7_box 17 = .ok (.ireturn, 1) := by decide +kernel
theorem dX7_box_18 : decode cX7_box 18 = .ok (.iload_n 2, 1) := by decide +kernel
theorem dX7_box_19 : decode cX7_box 19 = .ok (.tableswitch 63 0 3 #[29, 35, 50, 57], 29) := by decide +kernel
theorem dX7_box_48 : decode cX7_box 48 = .ok (.aload_n 0, 1) := by decide +kernel
theorem dX7_box_49 : decode cX7_box 49 = .ok (.iload_n 1, 1) := by decide +kernel
theorem dX7_box_50 : decode cX7_box 50 = .ok (.invokevirtual 158, 3) := by decide +kernel
theorem dX7_box_53 : decode cX7_box 53 = .ok (.ireturn, 1) := by decide +kernel
theorem dX7_box_54 : decode cX7_box 54 = .ok (.aload_n 0, 1) := by decide +kernel
theorem dX7_box_55 : decode cX7_box 55 = .ok (.getfield 74, 3) := by decide +kernel
theorem dX7_box_58 : decode cX7_box 58 = .ok (.iload_n 1, 1) := by decide +kernel
theorem dX7_box_59 : decode cX7_box 59 = .ok (.baload, 1) := by decide +kernel
theorem dX7_box_60 : decode cX7_box 60 = .ok (.ifCond .eq 7, 3) := by decide +kernel
theorem dX7_box_63 : decode cX7_box 63 = .ok (.iconst 1, 1) := by decide +kernel
theorem dX7_box_64 : decode cX7_box 64 = .ok (.goto 4, 3) := by decide +kernel
theorem dX7_box_67 : decode cX7_box 67 = .ok (.iconst 0, 1) := by decide +kernel
theorem dX7_box_68 : decode cX7_box 68 = .ok (.ireturn, 1) := by decide +kernel
theorem dX7_box_69 : decode cX7_box 69 = .ok (.aload_n 0, 1) := by decide +kernel
theorem dX7_box_70 : decode cX7_box 70 = .ok (.getfield 78, 3) := by decide +kernel
theorem dX7_box_73 : decode cX7_box 73 = .ok (.iload_n 1, 1) := by decide +kernel
theorem dX7_box_74 : decode cX7_box 74 = .ok (.iaload, 1) := by decide +kernel
theorem dX7_box_75 : decode cX7_box 75 = .ok (.ireturn, 1) := by decide +kernel
theorem dX7_box_76 : decode cX7_box 76 = .ok (.aload_n 0, 1) := by decide +kernel
theorem dX7_box_77 : decode cX7_box 77 = .ok (.iload_n 1, 1) := by decide +kernel
theorem dX7_box_78 : decode cX7_box 78 = .ok (.invokevirtual 171, 3) := by decide +kernel
theorem dX7_box_81 : decode cX7_box 81 = .ok (.ireturn, 1) := by decide +kernel
theorem dX7_box_82 : decode cX7_box 82 = .ok (.aload_n 0, 1) := by decide +kernel
theorem dX7_box_83 : decode cX7_box 83 = .ok (.iload_n 1, 1) := by decide +kernel
theorem dX7_box_84 : decode cX7_box 84 = .ok (.invokevirtual 174, 3) := by decide +kernel
theorem dX7_box_87 : decode cX7_box 87 = .ok (.ireturn, 1) := by decide +kernel
set_option maxRecDepth 20000 in
theorem ggX7_recall_X7_in : GoodIn wsX7_recall wsX7_in := goodIn_r _ [8] (by decide +kernel) (by decide +kernel)
set_option maxRecDepth 20000 in
theorem gX7_recall_X7_in : GoodIn wsX7_recall (va_wsS RX7 127 yX7_in wsX7_in) := goodIn_app (goodIn_of _ (by decide +kernel)) ggX7_recall_X7_in
theorem dX7_recall_0 : decode cX7_recall 0 = .ok (.iload_n 1, 1) := by decide +kernel
theorem dX7_recall_1 : decode cX7_recall 1 = .ok (.iconst 0, 1) := by decide +kernel
theorem dX7_recall_2 : decode cX7_recall 2 = .ok (.bipush 15, 2) := by decide +kernel
theorem dX7_recall_4 : decode cX7_recall 4 = .ok (.invokestatic 127, 3) := by decide +kernel
theorem dX7_recall_7 : decode cX7_recall 7 = .ok (.ifCond .eq 12, 3) := by decide +kernel
theorem dX7_recall_10 : decode cX7_recall 10 = .ok (.iload_n 2, 1) := by decide +kernel
theorem dX7_recall_11 : decode cX7_recall 11 = .ok (.iconst 0, 1) := by decide +kernel
theorem dX7_recall_12 : decode cX7_recall 12 = .ok (.iconst 2, 1) := by decide +kernel
theorem dX7_recall_13 : decode cX7_recall 13 = .ok (.invokestatic 127, 3) := by decide +kernel
theorem dX7_recall_16 : decode cX7_recall 16 = .ok (.ifCond .ne 5, 3) := by decide +kernel
theorem dX7_recall_19 : decode cX7_recall 19 = .ok (.iconst (-1), 1) := by decide +kernel
theorem dX7_recall_20 : decode cX7_recall 20 = .ok (.ireturn, 1) := by decide +kernel
theorem dX7_recall_21 : decode cX7_recall 21 = .ok (.iconst 0, 1) := by decide +kernel
theorem dX7_recall_22 : decode cX7_recall 22 = .ok (.istore_n 3, 1) := by decide +kernel
theorem dX7_recall_23 : decode cX7_recall 23 = .ok (.iconst 0, 1) := by decide +kernel
theorem dX7_recall_24 : decode cX7_recall 24 = .ok (.istore 4, 2) := by decide +kernel
theorem dX7_recall_26 : decode cX7_recall 26 = .ok (.iconst 0, 1) := by decide +kernel
theorem dX7_recall_27 : decode cX7_recall 27 = .ok (.istore 5, 2) := by decide +kernel
theorem dX7_recall_29 : decode cX7_recall 29 = .ok (.iconst 0, 1) := by decide +kernel
theorem dX7_recall_30 : decode cX7_recall 30 = .ok (.istore 6, 2) := by decide +kernel
theorem dX7_recall_32 : decode cX7_recall 32 = .ok (.iload 6, 2) := by decide +kernel
theorem dX7_recall_34 : decode cX7_recall 34 = .ok (.aload_n 0, 1) := by decide +kernel
theorem dX7_recall_35 : decode cX7_recall 35 = .ok (.getfield 139, 3) := by decide +kernel
theorem dX7_recall_38 : decode cX7_recall 38 = .ok (.if_icmp .ge 93, 3) := by decide +kernel
theorem dX7_recall_41 : decode cX7_recall 41 = .ok (.aload_n 0, 1) := by decide +kernel
theorem dX7_recall_42 : decode cX7_recall 42 = .ok (.getfield 65, 3) := by decide +kernel
theorem dX7_recall_45 : decode cX7_recall 45 = .ok (.iload 6, 2) := by decide +kernel
theorem dX7_recall_47 : decode cX7_recall 47 = .ok (.iaload, 1) := by decide +kernel
theorem dX7_recall_48 : decode cX7_recall 48 = .ok (.iload_n 1, 1) := by decide +kernel
theorem dX7_recall_49 : decode cX7_recall 49 = .ok (.if_icmp .ne 76, 3) := by decide +kernel
theorem dX7_recall_52 : decode cX7_recall 52 = .ok (.aload_n 0, 1) := by decide +kernel
theorem dX7_recall_53 : decode cX7_recall 53 = .ok (.getfield 68, 3) := by decide +kernel
theorem dX7_recall_56 : decode cX7_recall 56 = .ok (.iload 6, 2) := by decide +kernel
theorem dX7_recall_58 : decode cX7_recall 58 = .ok (.iaload, 1) := by decide +kernel
theorem dX7_recall_59 : decode cX7_recall 59 = .ok (.istore 7, 2) := by decide +kernel
theorem dX7_recall_61 : decode cX7_recall 61 = .ok (.iload 5, 2) := by decide +kernel
theorem dX7_recall_63 : decode cX7_recall 63 = .ok (.iload 7, 2) := by decide +kernel
theorem dX7_recall_65 : decode cX7_recall 65 = .ok (.ifCond .ge 7, 3) := by decide +kernel
theorem dX7_recall_68 : decode cX7_recall 68 = .ok (.iconst 1, 1) := by decide +kernel
theorem dX7_recall_69 : decode cX7_recall 69 = .ok (.goto 4, 3) := by decide +kernel
theorem dX7_recall_72 : decode cX7_recall 72 = .ok (.iconst 0, 1) := by decide +kernel
theorem dX7_recall_73 : decode cX7_recall 73 = .ok (.iadd, 1) := by decide +kernel
theorem dX7_recall_74 : decode cX7_recall 74 = .ok (.istore 5, 2) := by decide +kernel
theorem dX7_recall_76 : decode cX7_recall 76 = .ok (.iload_n 3, 1) := by decide +kernel
theorem dX7_recall_77 : decode cX7_recall 77 = .ok (.iload 7, 2) := by decide +kernel
theorem dX7_recall_79 : decode cX7_recall 79 = .ok (.ifCond .ge 7, 3) := by decide +kernel
theorem dX7_recall_82 : decode cX7_recall 82 = .ok (.iconst 0, 1) := by decide +kernel
theorem dX7_recall_83 : decode cX7_recall 83 = .ok (.goto 7, 3) := by decide +kernel
theorem dX7_recall_86 : decode cX7_recall 86 = .ok (.iconst 1, 1) := by decide +kernel
theorem dX7_recall_87 : decode cX7_recall 87 = .ok (.iload 7, 2) := by decide +kernel
theorem dX7_recall_89 : decode cX7_recall 89 = .ok (.ishl, 1) := by decide +kernel
theorem dX7_recall_90 : decode cX7_recall 90 = .ok (.ior, 1) := by decide +kernel
theorem dX7_recall_91 : decode cX7_recall 91 = .ok (.istore_n 3, 1) := by decide +kernel
theorem dX7_recall_92 : decode cX7_recall 92 = .ok (.iload 4, 2) := by decide +kernel
theorem dX7_recall_94 : decode cX7_recall 94 = .ok (.iload 7, 2) := by decide +kernel
theorem dX7_recall_96 : decode cX7_recall 96 = .ok (.ifCond .lt 13, 3) := by decide +kernel
theorem dX7_recall_99 : decode cX7_recall 99 = .ok (.aload_n 0, 1) := by decide +kernel
theorem dX7_recall_100 : decode cX7_recall 100 = .ok (.getfield 78, 3) := by decide +kernel
theorem dX7_recall_103 : decode cX7_recall 103 = .ok (.iload 7, 2) := by decide +kernel
theorem dX7_recall_105 : decode cX7_recall 105 = .ok (.iaload, 1) := by decide +kernel
theorem dX7_recall_106 : decode cX7_recall 106 = .ok (.ifCond .ge 7, 3) := by decide +kernel
theorem dX7_recall_109 : decode cX7_recall 109 = .ok (.iconst 0, 1) := by decide +kernel
theorem dX7_recall_110 : decode cX7_recall 110 = .ok (.goto 12, 3) := by decide +kernel
theorem dX7_recall_113 : decode cX7_recall 113 = .ok (.iconst 1, 1) := by decide +kernel
theorem dX7_recall_114 : decode cX7_recall 114 = .ok (.aload_n 0, 1) := by decide +kernel
theorem dX7_recall_115 : decode cX7_recall 115 = .ok (.getfield 78, 3) := by decide +kernel
theorem dX7_recall_118 : decode cX7_recall 118 = .ok (.iload 7, 2) := by decide +kernel
theorem dX7_recall_120 : decode cX7_recall 120 = .ok (.iaload, 1) := by decide +kernel
theorem dX7_recall_121 : decode cX7_recall 121 = .ok (.ishl, 1) := by decide +kernel
theorem dX7_recall_122 : decode cX7_recall 122 = .ok (.ior, 1) := by decide +kernel
theorem dX7_recall_123 : decode cX7_recall 123 = .ok (.istore 4, 2) := by decide +kernel
theorem dX7_recall_125 : decode cX7_recall 125 = .ok (.iinc 6 1, 3) := by decide +kernel
theorem dX7_recall_128 : decode cX7_recall 128 = .ok (.goto (-96), 3) := by decide +kernel
theorem dX7_recall_131 : decode cX7_recall 131 = .ok (.iload_n 2, 1) := by decide +kernel
theorem dX7_recall_132 : decode cX7_recall 132 = .ok (.ifCond .ne 7, 3) := by decide +kernel
theorem dX7_recall_135 : decode cX7_recall 135 = .ok (.iload_n 3, 1) := by decide +kernel
theorem dX7_recall_136 : decode cX7_recall 136 = .ok (.goto 15, 3) := by decide +kernel
theorem dX7_recall_139 : decode cX7_recall 139 = .ok (.iload_n 2, 1) := by decide +kernel
theorem dX7_recall_140 : decode cX7_recall 140 = .ok (.iconst 1, 1) := by decide +kernel
theorem dX7_recall_141 : decode cX7_recall 141 = .ok (.if_icmp .ne 8, 3) := by decide +kernel
theorem dX7_recall_144 : decode cX7_recall 144 = .ok (.iload 4, 2) := by decide +kernel
theorem dX7_recall_146 : decode cX7_recall 146 = .ok (.goto 5, 3) := by decide +kernel
theorem dX7_recall_149 : decode cX7_recall 149 = .ok (.iload 5, 2) := by decide +kernel
theorem dX7_recall_151 : decode cX7_recall 151 = .ok (.ireturn, 1) := by decide +kernel
theorem dX7_mostOf_0 : decode cX7_mostOf 0 = .ok (.aload_n 0, 1) := by decide +kernel
theorem dX7_mostOf_1 : decode cX7_mostOf 1 = .ok (.getfield 93, 3) := by decide +kernel
theorem dX7_mostOf_4 : decode cX7_mostOf 4 = .ok (.bipush 13, 2) := by decide +kernel
theorem dX7_mostOf_6 : decode cX7_mostOf 6 = .ok (.iload_n 1, 1) := by decide +kernel
theorem dX7_mostOf_7 : decode cX7_mostOf 7 = .ok (.imul, 1) := by decide +kernel
theorem dX7_mostOf_8 : decode cX7_mostOf 8 = .ok (.iload_n 2, 1) := by decide +kernel
theorem dX7_mostOf_9 : decode cX7_mostOf 9 = .ok (.iadd, 1) := by decide +kernel
theorem dX7_mostOf_10 : decode cX7_mostOf 10 = .ok (.iaload, 1) := by decide +kernel
theorem dX7_mostOf_11 : decode cX7_mostOf 11 = .ok (.ireturn, 1) := by decide +kernel
set_option maxRecDepth 20000 in
theorem ggX7_wheel_X7_mostOf : GoodIn wsX7_wheel wsX7_mostOf := goodIn_r _ [5, 6, 7, 8, 9, 10, 11, 12, 13, 14, 15, 16, 17, 18, 19, 20, 21, 22, 23, 24, 25, 26, 27, 28, 29, 30, 31, 32, 33, 34, 35, 36, 37, 38, 39, 40, 41, 42, 43, 44, 45, 46, 47, 48, 49] (by decide +kernel) (by decide +kernel)
set_option maxRecDepth 20000 in
theorem gX7_wheel_X7_mostOf : GoodIn wsX7_wheel (wsV RX7 180 RX7 yX7_mostOf wsX7_mostOf) := goodIn_app (goodIn_of _ (by decide +kernel)) ggX7_wheel_X7_mostOf
theorem dX7_wheel_0 : decode cX7_wheel 0 = .ok (.aload_n 0, 1) := by decide +kernel
theorem dX7_wheel_1 : decode cX7_wheel 1 = .ok (.iload_n 3, 1) := by decide +kernel
theorem dX7_wheel_2 : decode cX7_wheel 2 = .ok (.iload 6, 2) := by decide +kernel
theorem dX7_wheel_4 : decode cX7_wheel 4 = .ok (.invokevirtual 180, 3) := by decide +kernel
theorem dX7_wheel_7 : decode cX7_wheel 7 = .ok (.aload_n 0, 1) := by decide +kernel
theorem dX7_wheel_8 : decode cX7_wheel 8 = .ok (.iload_n 1, 1) := by decide +kernel
theorem dX7_wheel_9 : decode cX7_wheel 9 = .ok (.iload_n 3, 1) := by decide +kernel
theorem dX7_wheel_10 : decode cX7_wheel 10 = .ok (.isub, 1) := by decide +kernel
theorem dX7_wheel_11 : decode cX7_wheel 11 = .ok (.iload 5, 2) := by decide +kernel
theorem dX7_wheel_13 : decode cX7_wheel 13 = .ok (.invokevirtual 180, 3) := by decide +kernel
theorem dX7_wheel_16 : decode cX7_wheel 16 = .ok (.iadd, 1) := by decide +kernel
theorem dX7_wheel_17 : decode cX7_wheel 17 = .ok (.aload_n 0, 1) := by decide +kernel
theorem dX7_wheel_18 : decode cX7_wheel 18 = .ok (.iload_n 1, 1) := by decide +kernel
theorem dX7_wheel_19 : decode cX7_wheel 19 = .ok (.iload 4, 2) := by decide +kernel
theorem dX7_wheel_21 : decode cX7_wheel 21 = .ok (.isub, 1) := by decide +kernel
theorem dX7_wheel_22 : decode cX7_wheel 22 = .ok (.iload_n 2, 1) := by decide +kernel
theorem dX7_wheel_23 : decode cX7_wheel 23 = .ok (.iload 5, 2) := by decide +kernel
theorem dX7_wheel_25 : decode cX7_wheel 25 = .ok (.isub, 1) := by decide +kernel
theorem dX7_wheel_26 : decode cX7_wheel 26 = .ok (.invokevirtual 180, 3) := by decide +kernel
theorem dX7_wheel_29 : decode cX7_wheel 29 = .ok (.iadd, 1) := by decide +kernel
theorem dX7_wheel_30 : decode cX7_wheel 30 = .ok (.aload_n 0, 1) := by decide +kernel
theorem dX7_wheel_31 : decode cX7_wheel 31 = .ok (.iload 4, 2) := by decide +kernel
theorem dX7_wheel_33 : decode cX7_wheel 33 = .ok (.iload_n 2, 1) := by decide +kernel
theorem dX7_wheel_34 : decode cX7_wheel 34 = .ok (.iload 6, 2) := by decide +kernel
theorem dX7_wheel_36 : decode cX7_wheel 36 = .ok (.isub, 1) := by decide +kernel
theorem dX7_wheel_37 : decode cX7_wheel 37 = .ok (.invokevirtual 180, 3) := by decide +kernel
theorem dX7_wheel_40 : decode cX7_wheel 40 = .ok (.iadd, 1) := by decide +kernel
theorem dX7_wheel_41 : decode cX7_wheel 41 = .ok (.aload_n 0, 1) := by decide +kernel
theorem dX7_wheel_42 : decode cX7_wheel 42 = .ok (.iload 4, 2) := by decide +kernel
theorem dX7_wheel_44 : decode cX7_wheel 44 = .ok (.iload_n 3, 1) := by decide +kernel
theorem dX7_wheel_45 : decode cX7_wheel 45 = .ok (.isub, 1) := by decide +kernel
theorem dX7_wheel_46 : decode cX7_wheel 46 = .ok (.iload 6, 2) := by decide +kernel
theorem dX7_wheel_48 : decode cX7_wheel 48 = .ok (.iload 5, 2) := by decide +kernel
theorem dX7_wheel_50 : decode cX7_wheel 50 = .ok (.isub, 1) := by decide +kernel
theorem dX7_wheel_51 : decode cX7_wheel 51 = .ok (.invokevirtual 180, 3) := by decide +kernel
theorem dX7_wheel_54 : decode cX7_wheel 54 = .ok (.iadd, 1) := by decide +kernel
theorem dX7_wheel_55 : decode cX7_wheel 55 = .ok (.ireturn, 1) := by decide +kernel
set_option maxRecDepth 20000 in
theorem ggX7_best_X7_mostOf : GoodIn wsX7_best wsX7_mostOf := goodIn_r _ [5, 6, 11, 12, 13, 14, 15, 16, 17, 18, 19, 20, 21, 22, 23, 24, 25, 26, 27, 28, 29, 30, 31, 32, 33, 34, 35, 36, 37, 38, 39, 40, 41, 42, 43, 44, 45, 46, 47, 48, 49, 50, 51, 52, 53] (by decide +kernel) (by decide +kernel)
set_option maxRecDepth 20000 in
theorem gX7_best_X7_mostOf : GoodIn wsX7_best (wsV RX7 180 RX7 yX7_mostOf wsX7_mostOf) := goodIn_app (goodIn_of _ (by decide +kernel)) ggX7_best_X7_mostOf
set_option maxRecDepth 20000 in
theorem ggX7_best_X7_wheel : GoodIn wsX7_best wsX7_wheel := goodIn_r _ [10, 1, 2, 3, 4, 5, 6, 11, 12, 13, 14, 15, 16, 17, 18, 19, 20, 21, 22, 23, 24, 25, 26, 27, 28, 29, 30, 31, 32, 33, 34, 35, 36, 37, 38, 39, 40, 41, 42, 43, 44, 45, 46, 47, 48, 49, 50, 51, 52, 53] (by decide +kernel) (by decide +kernel)
set_option maxRecDepth 20000 in
theorem gX7_best_X7_wheel : GoodIn wsX7_best (wsV RX7 184 RX7 yX7_wheel wsX7_wheel) := goodIn_app (goodIn_of _ (by decide +kernel)) ggX7_best_X7_wheel
theorem dX7_best_0 : decode cX7_best 0 = .ok (.iload_n 3, 1) := by decide +kernel
theorem dX7_best_1 : decode cX7_best 1 = .ok (.iload_n 1, 1) := by decide +kernel
theorem dX7_best_2 : decode cX7_best 2 = .ok (.if_icmp .gt 9, 3) := by decide +kernel
theorem dX7_best_5 : decode cX7_best 5 = .ok (.iload 4, 2) := by decide +kernel
theorem dX7_best_7 : decode cX7_best 7 = .ok (.iload_n 2, 1) := by decide +kernel
theorem dX7_best_8 : decode cX7_best 8 = .ok (.if_icmp .le 14, 3) := by decide +kernel
theorem dX7_best_11 : decode cX7_best 11 = .ok (.iload 4, 2) := by decide +kernel
theorem dX7_best_13 : decode cX7_best 13 = .ok (.iload_n 1, 1) := by decide +kernel
theorem dX7_best_14 : decode cX7_best 14 = .ok (.if_icmp .gt 12, 3) := by decide +kernel
theorem dX7_best_17 : decode cX7_best 17 = .ok (.iload_n 3, 1) := by decide +kernel
theorem dX7_best_18 : decode cX7_best 18 = .ok (.iload_n 2, 1) := by decide +kernel
theorem dX7_best_19 : decode cX7_best 19 = .ok (.if_icmp .gt 7, 3) := by decide +kernel
theorem dX7_best_22 : decode cX7_best 22 = .ok (.iconst 1, 1) := by decide +kernel
theorem dX7_best_23 : decode cX7_best 23 = .ok (.goto 4, 3) := by decide +kernel
theorem dX7_best_26 : decode cX7_best 26 = .ok (.iconst 0, 1) := by decide +kernel
theorem dX7_best_27 : decode cX7_best 27 = .ok (.istore 5, 2) := by decide +kernel
theorem dX7_best_29 : decode cX7_best 29 = .ok (.iconst 1, 1) := by decide +kernel
theorem dX7_best_30 : decode cX7_best 30 = .ok (.istore 6, 2) := by decide +kernel
theorem dX7_best_32 : decode cX7_best 32 = .ok (.iload 6, 2) := by decide +kernel
theorem dX7_best_34 : decode cX7_best 34 = .ok (.iload_n 1, 1) := by decide +kernel
theorem dX7_best_35 : decode cX7_best 35 = .ok (.if_icmp .ge 44, 3) := by decide +kernel
theorem dX7_best_38 : decode cX7_best 38 = .ok (.aload_n 0, 1) := by decide +kernel
theorem dX7_best_39 : decode cX7_best 39 = .ok (.iload 6, 2) := by decide +kernel
theorem dX7_best_41 : decode cX7_best 41 = .ok (.iload_n 2, 1) := by decide +kernel
theorem dX7_best_42 : decode cX7_best 42 = .ok (.invokevirtual 180, 3) := by decide +kernel
theorem dX7_best_45 : decode cX7_best 45 = .ok (.aload_n 0, 1) := by decide +kernel
theorem dX7_best_46 : decode cX7_best 46 = .ok (.iload_n 1, 1) := by decide +kernel
theorem dX7_best_47 : decode cX7_best 47 = .ok (.iload 6, 2) := by decide +kernel
theorem dX7_best_49 : decode cX7_best 49 = .ok (.isub, 1) := by decide +kernel
theorem dX7_best_50 : decode cX7_best 50 = .ok (.iload_n 2, 1) := by decide +kernel
theorem dX7_best_51 : decode cX7_best 51 = .ok (.invokevirtual 180, 3) := by decide +kernel
theorem dX7_best_54 : decode cX7_best 54 = .ok (.iadd, 1) := by decide +kernel
theorem dX7_best_55 : decode cX7_best 55 = .ok (.istore 7, 2) := by decide +kernel
theorem dX7_best_57 : decode cX7_best 57 = .ok (.iload 7, 2) := by decide +kernel
theorem dX7_best_59 : decode cX7_best 59 = .ok (.iload 5, 2) := by decide +kernel
theorem dX7_best_61 : decode cX7_best 61 = .ok (.if_icmp .le 8, 3) := by decide +kernel
theorem dX7_best_64 : decode cX7_best 64 = .ok (.iload 7, 2) := by decide +kernel
theorem dX7_best_66 : decode cX7_best 66 = .ok (.goto 5, 3) := by decide +kernel
theorem dX7_best_69 : decode cX7_best 69 = .ok (.iload 5, 2) := by decide +kernel
theorem dX7_best_71 : decode cX7_best 71 = .ok (.istore 5, 2) := by decide +kernel
theorem dX7_best_73 : decode cX7_best 73 = .ok (.iinc 6 1, 3) := by decide +kernel
theorem dX7_best_76 : decode cX7_best 76 = .ok (.goto (-44), 3) := by decide +kernel
theorem dX7_best_79 : decode cX7_best 79 = .ok (.iconst 1, 1) := by decide +kernel
theorem dX7_best_80 : decode cX7_best 80 = .ok (.istore 6, 2) := by decide +kernel
theorem dX7_best_82 : decode cX7_best 82 = .ok (.iload 6, 2) := by decide +kernel
theorem dX7_best_84 : decode cX7_best 84 = .ok (.iload_n 2, 1) := by decide +kernel
theorem dX7_best_85 : decode cX7_best 85 = .ok (.if_icmp .ge 44, 3) := by decide +kernel
theorem dX7_best_88 : decode cX7_best 88 = .ok (.aload_n 0, 1) := by decide +kernel
theorem dX7_best_89 : decode cX7_best 89 = .ok (.iload_n 1, 1) := by decide +kernel
theorem dX7_best_90 : decode cX7_best 90 = .ok (.iload 6, 2) := by decide +kernel
theorem dX7_best_92 : decode cX7_best 92 = .ok (.invokevirtual 180, 3) := by decide +kernel
theorem dX7_best_95 : decode cX7_best 95 = .ok (.aload_n 0, 1) := by decide +kernel
theorem dX7_best_96 : decode cX7_best 96 = .ok (.iload_n 1, 1) := by decide +kernel
theorem dX7_best_97 : decode cX7_best 97 = .ok (.iload_n 2, 1) := by decide +kernel
theorem dX7_best_98 : decode cX7_best 98 = .ok (.iload 6, 2) := by decide +kernel
theorem dX7_best_100 : decode cX7_best 100 = .ok (.isub, 1) := by decide +kernel
theorem dX7_best_101 : decode cX7_best 101 = .ok (.invokevirtual 180, 3) := by decide +kernel
theorem dX7_best_104 : decode cX7_best 104 = .ok (.iadd, 1) := by decide +kernel
theorem dX7_best_105 : decode cX7_best 105 = .ok (.istore 7, 2) := by decide +kernel
theorem dX7_best_107 : decode cX7_best 107 = .ok (.iload 7, 2) := by decide +kernel
theorem dX7_best_109 : decode cX7_best 109 = .ok (.iload 5, 2) := by decide +kernel
theorem dX7_best_111 : decode cX7_best 111 = .ok (.if_icmp .le 8, 3) := by decide +kernel
theorem dX7_best_114 : decode cX7_best 114 = .ok (.iload 7, 2) := by decide +kernel
theorem dX7_best_116 : decode cX7_best 116 = .ok (.goto 5, 3) := by decide +kernel
theorem dX7_best_119 : decode cX7_best 119 = .ok (.iload 5, 2) := by decide +kernel
theorem dX7_best_121 : decode cX7_best 121 = .ok (.istore 5, 2) := by decide +kernel
theorem dX7_best_123 : decode cX7_best 123 = .ok (.iinc 6 1, 3) := by decide +kernel
theorem dX7_best_126 : decode cX7_best 126 = .ok (.goto (-44), 3) := by decide +kernel
theorem dX7_best_129 : decode cX7_best 129 = .ok (.iconst 1, 1) := by decide +kernel
theorem dX7_best_130 : decode cX7_best 130 = .ok (.istore 6, 2) := by decide +kernel
theorem dX7_best_132 : decode cX7_best 132 = .ok (.iload 6, 2) := by decide +kernel
theorem dX7_best_134 : decode cX7_best 134 = .ok (.iload_n 1, 1) := by decide +kernel
theorem dX7_best_135 : decode cX7_best 135 = .ok (.if_icmp .ge 92, 3) := by decide +kernel
theorem dX7_best_138 : decode cX7_best 138 = .ok (.iload 6, 2) := by decide +kernel
theorem dX7_best_140 : decode cX7_best 140 = .ok (.iconst 1, 1) := by decide +kernel
theorem dX7_best_141 : decode cX7_best 141 = .ok (.iadd, 1) := by decide +kernel
theorem dX7_best_142 : decode cX7_best 142 = .ok (.istore 7, 2) := by decide +kernel
theorem dX7_best_144 : decode cX7_best 144 = .ok (.iload 7, 2) := by decide +kernel
theorem dX7_best_146 : decode cX7_best 146 = .ok (.iload_n 1, 1) := by decide +kernel
theorem dX7_best_147 : decode cX7_best 147 = .ok (.if_icmp .ge 74, 3) := by decide +kernel
theorem dX7_best_150 : decode cX7_best 150 = .ok (.iconst 1, 1) := by decide +kernel
theorem dX7_best_151 : decode cX7_best 151 = .ok (.istore 8, 2) := by decide +kernel
theorem dX7_best_153 : decode cX7_best 153 = .ok (.iload 8, 2) := by decide +kernel
theorem dX7_best_155 : decode cX7_best 155 = .ok (.iload_n 2, 1) := by decide +kernel
theorem dX7_best_156 : decode cX7_best 156 = .ok (.if_icmp .ge 59, 3) := by decide +kernel
theorem dX7_best_159 : decode cX7_best 159 = .ok (.iload 8, 2) := by decide +kernel
theorem dX7_best_161 : decode cX7_best 161 = .ok (.iconst 1, 1) := by decide +kernel
theorem dX7_best_162 : decode cX7_best 162 = .ok (.iadd, 1) := by decide +kernel
theorem dX7_best_163 : decode cX7_best 163 = .ok (.istore 9, 2) := by decide +kernel
theorem dX7_best_165 : decode cX7_best 165 = .ok (.iload 9, 2) := by decide +kernel
theorem dX7_best_167 : decode cX7_best 167 = .ok (.iload_n 2, 1) := by decide +kernel
theorem dX7_best_168 : decode cX7_best 168 = .ok (.if_icmp .ge 41, 3) := by decide +kernel
theorem dX7_best_171 : decode cX7_best 171 = .ok (.aload_n 0, 1) := by decide +kernel
theorem dX7_best_172 : decode cX7_best 172 = .ok (.iload_n 1, 1) := by decide +kernel
theorem dX7_best_173 : decode cX7_best 173 = .ok (.iload_n 2, 1) := by decide +kernel
theorem dX7_best_174 : decode cX7_best 174 = .ok (.iload 6, 2) := by decide +kernel
theorem dX7_best_176 : decode cX7_best 176 = .ok (.iload 7, 2) := by decide +kernel
theorem dX7_best_178 : decode cX7_best 178 = .ok (.iload 8, 2) := by decide +kernel
theorem dX7_best_180 : decode cX7_best 180 = .ok (.iload 9, 2) := by decide +kernel
theorem dX7_best_182 : decode cX7_best 182 = .ok (.invokevirtual 184, 3) := by decide +kernel
theorem dX7_best_185 : decode cX7_best 185 = .ok (.istore 10, 2) := by decide +kernel
theorem dX7_best_187 : decode cX7_best 187 = .ok (.iload 10, 2) := by decide +kernel
theorem dX7_best_189 : decode cX7_best 189 = .ok (.iload 5, 2) := by decide +kernel
theorem dX7_best_191 : decode cX7_best 191 = .ok (.if_icmp .le 8, 3) := by decide +kernel
theorem dX7_best_194 : decode cX7_best 194 = .ok (.iload 10, 2) := by decide +kernel
theorem dX7_best_196 : decode cX7_best 196 = .ok (.goto 5, 3) := by decide +kernel
theorem dX7_best_199 : decode cX7_best 199 = .ok (.iload 5, 2) := by decide +kernel
theorem dX7_best_201 : decode cX7_best 201 = .ok (.istore 5, 2) := by decide +kernel
theorem dX7_best_203 : decode cX7_best 203 = .ok (.iinc 9 1, 3) := by decide +kernel
theorem dX7_best_206 : decode cX7_best 206 = .ok (.goto (-41), 3) := by decide +kernel
theorem dX7_best_209 : decode cX7_best 209 = .ok (.iinc 8 1, 3) := by decide +kernel
theorem dX7_best_212 : decode cX7_best 212 = .ok (.goto (-59), 3) := by decide +kernel
theorem dX7_best_215 : decode cX7_best 215 = .ok (.iinc 7 1, 3) := by decide +kernel
theorem dX7_best_218 : decode cX7_best 218 = .ok (.goto (-74), 3) := by decide +kernel
theorem dX7_best_221 : decode cX7_best 221 = .ok (.iinc 6 1, 3) := by decide +kernel
theorem dX7_best_224 : decode cX7_best 224 = .ok (.goto (-92), 3) := by decide +kernel
theorem dX7_best_227 : decode cX7_best 227 = .ok (.iload 5, 2) := by decide +kernel
theorem dX7_best_229 : decode cX7_best 229 = .ok (.ireturn, 1) := by decide +kernel
theorem dX7_piles_0 : decode cX7_piles 0 = .ok (.aload_n 0, 1) := by decide +kernel
theorem dX7_piles_1 : decode cX7_piles 1 = .ok (.getfield 99, 3) := by decide +kernel
theorem dX7_piles_4 : decode cX7_piles 4 = .ok (.iconst 4, 1) := by decide +kernel
theorem dX7_piles_5 : decode cX7_piles 5 = .ok (.aload_n 0, 1) := by decide +kernel
theorem dX7_piles_6 : decode cX7_piles 6 = .ok (.getfield 188, 3) := by decide +kernel
theorem dX7_piles_9 : decode cX7_piles 9 = .ok (.imul, 1) := by decide +kernel
theorem dX7_piles_10 : decode cX7_piles 10 = .ok (.iload_n 1, 1) := by decide +kernel
theorem dX7_piles_11 : decode cX7_piles 11 = .ok (.iastore, 1) := by decide +kernel
theorem dX7_piles_12 : decode cX7_piles 12 = .ok (.aload_n 0, 1) := by decide +kernel
theorem dX7_piles_13 : decode cX7_piles 13 = .ok (.getfield 99, 3) := by decide +kernel
theorem dX7_piles_16 : decode cX7_piles 16 = .ok (.iconst 4, 1) := by decide +kernel
theorem dX7_piles_17 : decode cX7_piles 17 = .ok (.aload_n 0, 1) := by decide +kernel
theorem dX7_piles_18 : decode cX7_piles 18 = .ok (.getfield 188, 3) := by decide +kernel
theorem dX7_piles_21 : decode cX7_piles 21 = .ok (.imul, 1) := by decide +kernel
theorem dX7_piles_22 : decode cX7_piles 22 = .ok (.iconst 1, 1) := by decide +kernel
theorem dX7_piles_23 : decode cX7_piles 23 = .ok (.iadd, 1) := by decide +kernel
theorem dX7_piles_24 : decode cX7_piles 24 = .ok (.iload_n 2, 1) := by decide +kernel
theorem dX7_piles_25 : decode cX7_piles 25 = .ok (.iastore, 1) := by decide +kernel
theorem dX7_piles_26 : decode cX7_piles 26 = .ok (.aload_n 0, 1) := by decide +kernel
theorem dX7_piles_27 : decode cX7_piles 27 = .ok (.getfield 99, 3) := by decide +kernel
theorem dX7_piles_30 : decode cX7_piles 30 = .ok (.iconst 4, 1) := by decide +kernel
theorem dX7_piles_31 : decode cX7_piles 31 = .ok (.aload_n 0, 1) := by decide +kernel
theorem dX7_piles_32 : decode cX7_piles 32 = .ok (.getfield 188, 3) := by decide +kernel
theorem dX7_piles_35 : decode cX7_piles 35 = .ok (.imul, 1) := by decide +kernel
theorem dX7_piles_36 : decode cX7_piles 36 = .ok (.iconst 2, 1) := by decide +kernel
theorem dX7_piles_37 : decode cX7_piles 37 = .ok (.iadd, 1) := by decide +kernel
theorem dX7_piles_38 : decode cX7_piles 38 = .ok (.iload_n 3, 1) := by decide +kernel
theorem dX7_piles_39 : decode cX7_piles 39 = .ok (.iastore, 1) := by decide +kernel
theorem dX7_piles_40 : decode cX7_piles 40 = .ok (.aload_n 0, 1) := by decide +kernel
theorem dX7_piles_41 : decode cX7_piles 41 = .ok (.getfield 99, 3) := by decide +kernel
theorem dX7_piles_44 : decode cX7_piles 44 = .ok (.iconst 4, 1) := by decide +kernel
theorem dX7_piles_45 : decode cX7_piles 45 = .ok (.aload_n 0, 1) := by decide +kernel
theorem dX7_piles_46 : decode cX7_piles 46 = .ok (.getfield 188, 3) := by decide +kernel
theorem dX7_piles_49 : decode cX7_piles 49 = .ok (.imul, 1) := by decide +kernel
theorem dX7_piles_50 : decode cX7_piles 50 = .ok (.iconst 3, 1) := by decide +kernel
theorem dX7_piles_51 : decode cX7_piles 51 = .ok (.iadd, 1) := by decide +kernel
theorem dX7_piles_52 : decode cX7_piles 52 = .ok (.iload 4, 2) := by decide +kernel
theorem dX7_piles_54 : decode cX7_piles 54 = .ok (.iastore, 1) := by decide +kernel
theorem dX7_piles_55 : decode cX7_piles 55 = .ok (.aload_n 0, 1) := by decide +kernel
theorem dX7_piles_56 : decode cX7_piles 56 = .ok (.dup, 1) := by decide +kernel
theorem dX7_piles_57 : decode cX7_piles 57 = .ok (.getfield 188, 3) := by decide +kernel
theorem dX7_piles_60 : decode cX7_piles 60 = .ok (.iconst 1, 1) := by decide +kernel
theorem dX7_piles_61 : decode cX7_piles 61 = .ok (.iadd, 1) := by decide +kernel
theorem dX7_piles_62 : decode cX7_piles 62 = .ok (.putfield 188, 3) := by decide +kernel
theorem dX7_piles_65 : decode cX7_piles 65 = .ok (.return_, 1) := by decide +kernel
set_option maxRecDepth 20000 in
theorem ggX7_layer_X7_in : GoodIn wsX7_layer wsX7_in := goodIn_r _ [10] (by decide +kernel) (by decide +kernel)
set_option maxRecDepth 20000 in
theorem gX7_layer_X7_in : GoodIn wsX7_layer (va_wsS RX7 127 yX7_in wsX7_in) := goodIn_app (goodIn_of _ (by decide +kernel)) ggX7_layer_X7_in
set_option maxRecDepth 20000 in
theorem ggX7_layer_X7_best : GoodIn wsX7_layer wsX7_best := goodIn_r _ [14, 15, 16, 17, 9, 18, 1, 19, 20, 21, 22, 40, 41, 42, 43, 44, 45, 46, 47, 48, 49, 50, 51, 52, 53, 54, 55, 56, 57, 58, 59, 60, 61, 62, 63, 64, 65, 66, 67, 68, 69, 70, 71, 72, 73, 74, 75, 76, 77, 78, 79, 80, 81, 82] (by decide +kernel) (by decide +kernel)
set_option maxRecDepth 20000 in
theorem gX7_layer_X7_best : GoodIn wsX7_layer (wsV RX7 191 RX7 yX7_best wsX7_best) := goodIn_app (goodIn_of _ (by decide +kernel)) ggX7_layer_X7_best
set_option maxRecDepth 20000 in
theorem ggX7_layer_X7_piles : GoodIn wsX7_layer wsX7_piles := goodIn_r _ [26, 6, 5, 40, 41, 42, 43, 44, 45, 46, 47, 48, 49, 50, 51, 52, 53, 54, 55, 56, 57, 58, 59, 60, 61, 62, 63, 64, 65, 66, 67, 68, 69, 70, 71, 72, 73, 74, 75, 76, 77, 78, 79, 80, 81, 82] (by decide +kernel) (by decide +kernel)
set_option maxRecDepth 20000 in
theorem gX7_layer_X7_piles : GoodIn wsX7_layer (wsV RX7 204 RX7 yX7_piles wsX7_piles) := goodIn_app (goodIn_of _ (by decide +kernel)) ggX7_layer_X7_piles
set_option maxRecDepth 20000 in
theorem ggX7_layer_X7_plans : GoodIn wsX7_layer wsX7_plans := goodIn_r _ [30, 31, 4, 15, 16, 17, 9, 18, 1, 32, 33, 34, 35, 23, 24, 25, 26, 6, 5, 36, 37, 38, 39, 19, 20, 21, 22, 40, 41, 42, 43, 44, 45, 46, 47, 48, 49, 50, 51, 52, 53, 54, 55, 56, 57, 58, 59, 60, 61, 62, 63, 64, 65, 66, 67, 68, 69, 70, 71, 72, 73, 74, 75, 76, 77, 78, 79, 80, 81, 82] (by decide +kernel) (by decide +kernel)
set_option maxRecDepth 20000 in
theorem gX7_layer_X7_plans : GoodIn wsX7_layer (wsV RX7 208 RX7 yX7_plans wsX7_plans) := goodIn_app (goodIn_of _ (by decide +kernel)) ggX7_layer_X7_plans
theorem dX7_layer_0 : decode cX7_layer 0 = .ok (.iload_n 1, 1) := by decide +kernel
theorem dX7_layer_1 : decode cX7_layer 1 = .ok (.iconst 1, 1) := by decide +kernel
theorem dX7_layer_2 : decode cX7_layer 2 = .ok (.bipush 12, 2) := by decide +kernel
theorem dX7_layer_4 : decode cX7_layer 4 = .ok (.invokestatic 127, 3) := by decide +kernel
theorem dX7_layer_7 : decode cX7_layer 7 = .ok (.ifCond .eq 34, 3) := by decide +kernel
theorem dX7_layer_10 : decode cX7_layer 10 = .ok (.iload_n 2, 1) := by decide +kernel
theorem dX7_layer_11 : decode cX7_layer 11 = .ok (.iconst 1, 1) := by decide +kernel
theorem dX7_layer_12 : decode cX7_layer 12 = .ok (.bipush 12, 2) := by decide +kernel
theorem dX7_layer_14 : decode cX7_layer 14 = .ok (.invokestatic 127, 3) := by decide +kernel
theorem dX7_layer_17 : decode cX7_layer 17 = .ok (.ifCond .eq 24, 3) := by decide +kernel
theorem dX7_layer_20 : decode cX7_layer 20 = .ok (.iload_n 3, 1) := by decide +kernel
theorem dX7_layer_21 : decode cX7_layer 21 = .ok (.iconst 1, 1) := by decide +kernel
theorem dX7_layer_22 : decode cX7_layer 22 = .ok (.bipush 12, 2) := by decide +kernel
theorem dX7_layer_24 : decode cX7_layer 24 = .ok (.invokestatic 127, 3) := by decide +kernel
theorem dX7_layer_27 : decode cX7_layer 27 = .ok (.ifCond .eq 14, 3) := by decide +kernel
theorem dX7_layer_30 : decode cX7_layer 30 = .ok (.iload 4, 2) := by decide +kernel
theorem dX7_layer_32 : decode cX7_layer 32 = .ok (.iconst 1, 1) := by decide +kernel
theorem dX7_layer_33 : decode cX7_layer 33 = .ok (.bipush 12, 2) := by decide +kernel
theorem dX7_layer_35 : decode cX7_layer 35 = .ok (.invokestatic 127, 3) := by decide +kernel
theorem dX7_layer_38 : decode cX7_layer 38 = .ok (.ifCond .ne 5, 3) := by decide +kernel
theorem dX7_layer_41 : decode cX7_layer 41 = .ok (.iconst (-1), 1) := by decide +kernel
theorem dX7_layer_42 : decode cX7_layer 42 = .ok (.ireturn, 1) := by decide +kernel
theorem dX7_layer_43 : decode cX7_layer 43 = .ok (.iconst 1, 1) := by decide +kernel
theorem dX7_layer_44 : decode cX7_layer 44 = .ok (.istore 5, 2) := by decide +kernel
theorem dX7_layer_46 : decode cX7_layer 46 = .ok (.iload 5, 2) := by decide +kernel
theorem dX7_layer_48 : decode cX7_layer 48 = .ok (.iload_n 1, 1) := by decide +kernel
theorem dX7_layer_49 : decode cX7_layer 49 = .ok (.if_icmp .gt 48, 3) := by decide +kernel
theorem dX7_layer_52 : decode cX7_layer 52 = .ok (.iconst 1, 1) := by decide +kernel
theorem dX7_layer_53 : decode cX7_layer 53 = .ok (.istore 6, 2) := by decide +kernel
theorem dX7_layer_55 : decode cX7_layer 55 = .ok (.iload 6, 2) := by decide +kernel
theorem dX7_layer_57 : decode cX7_layer 57 = .ok (.iload_n 2, 1) := by decide +kernel
theorem dX7_layer_58 : decode cX7_layer 58 = .ok (.if_icmp .gt 33, 3) := by decide +kernel
theorem dX7_layer_61 : decode cX7_layer 61 = .ok (.aload_n 0, 1) := by decide +kernel
theorem dX7_layer_62 : decode cX7_layer 62 = .ok (.getfield 93, 3) := by decide +kernel
theorem dX7_layer_65 : decode cX7_layer 65 = .ok (.bipush 13, 2) := by decide +kernel
theorem dX7_layer_67 : decode cX7_layer 67 = .ok (.iload 5, 2) := by decide +kernel
theorem dX7_layer_69 : decode cX7_layer 69 = .ok (.imul, 1) := by decide +kernel
theorem dX7_layer_70 : decode cX7_layer 70 = .ok (.iload 6, 2) := by decide +kernel
theorem dX7_layer_72 : decode cX7_layer 72 = .ok (.iadd, 1) := by decide +kernel
theorem dX7_layer_73 : decode cX7_layer 73 = .ok (.aload_n 0, 1) := by decide +kernel
theorem dX7_layer_74 : decode cX7_layer 74 = .ok (.iload 5, 2) := by decide +kernel
theorem dX7_layer_76 : decode cX7_layer 76 = .ok (.iload 6, 2) := by decide +kernel
theorem dX7_layer_78 : decode cX7_layer 78 = .ok (.iload_n 3, 1) := by decide +kernel
theorem dX7_layer_79 : decode cX7_layer 79 = .ok (.iload 4, 2) := by decide +kernel
theorem dX7_layer_81 : decode cX7_layer 81 = .ok (.invokevirtual 191, 3) := by decide +kernel
theorem dX7_layer_84 : decode cX7_layer 84 = .ok (.iastore, 1) := by decide +kernel
theorem dX7_layer_85 : decode cX7_layer 85 = .ok (.iinc 6 1, 3) := by decide +kernel
theorem dX7_layer_88 : decode cX7_layer 88 = .ok (.goto (-33), 3) := by decide +kernel
theorem dX7_layer_91 : decode cX7_layer 91 = .ok (.iinc 5 1, 3) := by decide +kernel
theorem dX7_layer_94 : decode cX7_layer 94 = .ok (.goto (-48), 3) := by decide +kernel
theorem dX7_layer_97 : decode cX7_layer 97 = .ok (.aload_n 0, 1) := by decide +kernel
theorem dX7_layer_98 : decode cX7_layer 98 = .ok (.iload_n 1, 1) := by decide +kernel
theorem dX7_layer_99 : decode cX7_layer 99 = .ok (.putfield 195, 3) := by decide +kernel
theorem dX7_layer_102 : decode cX7_layer 102 = .ok (.aload_n 0, 1) := by decide +kernel
theorem dX7_layer_103 : decode cX7_layer 103 = .ok (.iload_n 2, 1) := by decide +kernel
theorem dX7_layer_104 : decode cX7_layer 104 = .ok (.putfield 198, 3) := by decide +kernel
theorem dX7_layer_107 : decode cX7_layer 107 = .ok (.aload_n 0, 1) := by decide +kernel
theorem dX7_layer_108 : decode cX7_layer 108 = .ok (.iconst 0, 1) := by decide +kernel
theorem dX7_layer_109 : decode cX7_layer 109 = .ok (.putfield 201, 3) := by decide +kernel
theorem dX7_layer_112 : decode cX7_layer 112 = .ok (.aload_n 0, 1) := by decide +kernel
theorem dX7_layer_113 : decode cX7_layer 113 = .ok (.iconst 0, 1) := by decide +kernel
theorem dX7_layer_114 : decode cX7_layer 114 = .ok (.putfield 188, 3) := by decide +kernel
theorem dX7_layer_117 : decode cX7_layer 117 = .ok (.aload_n 0, 1) := by decide +kernel
theorem dX7_layer_118 : decode cX7_layer 118 = .ok (.iconst 0, 1) := by decide +kernel
theorem dX7_layer_119 : decode cX7_layer 119 = .ok (.iconst 0, 1) := by decide +kernel
theorem dX7_layer_120 : decode cX7_layer 120 = .ok (.iload_n 1, 1) := by decide +kernel
theorem dX7_layer_121 : decode cX7_layer 121 = .ok (.iload_n 2, 1) := by decide +kernel
theorem dX7_layer_122 : decode cX7_layer 122 = .ok (.invokevirtual 204, 3) := by decide +kernel
theorem dX7_layer_125 : decode cX7_layer 125 = .ok (.aload_n 0, 1) := by decide +kernel
theorem dX7_layer_126 : decode cX7_layer 126 = .ok (.getfield 188, 3) := by decide +kernel
theorem dX7_layer_129 : decode cX7_layer 129 = .ok (.ifCond .le 65, 3) := by decide +kernel
theorem dX7_layer_132 : decode cX7_layer 132 = .ok (.aload_n 0, 1) := by decide +kernel
theorem dX7_layer_133 : decode cX7_layer 133 = .ok (.dup, 1) := by decide +kernel
theorem dX7_layer_134 : decode cX7_layer 134 = .ok (.getfield 188, 3) := by decide +kernel
theorem dX7_layer_137 : decode cX7_layer 137 = .ok (.iconst 1, 1) := by decide +kernel
theorem dX7_layer_138 : decode cX7_layer 138 = .ok (.isub, 1) := by decide +kernel
theorem dX7_layer_139 : decode cX7_layer 139 = .ok (.putfield 188, 3) := by decide +kernel
theorem dX7_layer_142 : decode cX7_layer 142 = .ok (.iconst 4, 1) := by decide +kernel
theorem dX7_layer_143 : decode cX7_layer 143 = .ok (.aload_n 0, 1) := by decide +kernel
theorem dX7_layer_144 : decode cX7_layer 144 = .ok (.getfield 188, 3) := by decide +kernel
theorem dX7_layer_147 : decode cX7_layer 147 = .ok (.imul, 1) := by decide +kernel
theorem dX7_layer_148 : decode cX7_layer 148 = .ok (.istore 5, 2) := by decide +kernel
theorem dX7_layer_150 : decode cX7_layer 150 = .ok (.aload_n 0, 1) := by decide +kernel
theorem dX7_layer_151 : decode cX7_layer 151 = .ok (.aload_n 0, 1) := by decide +kernel
theorem dX7_layer_152 : decode cX7_layer 152 = .ok (.getfield 99, 3) := by decide +kernel
theorem dX7_layer_155 : decode cX7_layer 155 = .ok (.iload 5, 2) := by decide +kernel
theorem dX7_layer_157 : decode cX7_layer 157 = .ok (.iaload, 1) := by decide +kernel
theorem dX7_layer_158 : decode cX7_layer 158 = .ok (.aload_n 0, 1) := by decide +kernel
theorem dX7_layer_159 : decode cX7_layer 159 = .ok (.getfield 99, 3) := by decide +kernel
theorem dX7_layer_162 : decode cX7_layer 162 = .ok (.iload 5, 2) := by decide +kernel
theorem dX7_layer_164 : decode cX7_layer 164 = .ok (.iconst 1, 1) := by decide +kernel
theorem dX7_layer_165 : decode cX7_layer 165 = .ok (.iadd, 1) := by decide +kernel
theorem dX7_layer_166 : decode cX7_layer 166 = .ok (.iaload, 1) := by decide +kernel
theorem dX7_layer_167 : decode cX7_layer 167 = .ok (.aload_n 0, 1) := by decide +kernel
theorem dX7_layer_168 : decode cX7_layer 168 = .ok (.getfield 99, 3) := by decide +kernel
theorem dX7_layer_171 : decode cX7_layer 171 = .ok (.iload 5, 2) := by decide +kernel
theorem dX7_layer_173 : decode cX7_layer 173 = .ok (.iconst 2, 1) := by decide +kernel
theorem dX7_layer_174 : decode cX7_layer 174 = .ok (.iadd, 1) := by decide +kernel
theorem dX7_layer_175 : decode cX7_layer 175 = .ok (.iaload, 1) := by decide +kernel
theorem dX7_layer_176 : decode cX7_layer 176 = .ok (.aload_n 0, 1) := by decide +kernel
theorem dX7_layer_177 : decode cX7_layer 177 = .ok (.getfield 99, 3) := by decide +kernel
theorem dX7_layer_180 : decode cX7_layer 180 = .ok (.iload 5, 2) := by decide +kernel
theorem dX7_layer_182 : decode cX7_layer 182 = .ok (.iconst 3, 1) := by decide +kernel
theorem dX7_layer_183 : decode cX7_layer 183 = .ok (.iadd, 1) := by decide +kernel
theorem dX7_layer_184 : decode cX7_layer 184 = .ok (.iaload, 1) := by decide +kernel
theorem dX7_layer_185 : decode cX7_layer 185 = .ok (.iload_n 3, 1) := by decide +kernel
theorem dX7_layer_186 : decode cX7_layer 186 = .ok (.iload 4, 2) := by decide +kernel
theorem dX7_layer_188 : decode cX7_layer 188 = .ok (.invokevirtual 208, 3) := by decide +kernel
theorem dX7_layer_191 : decode cX7_layer 191 = .ok (.goto (-66), 3) := by decide +kernel
theorem dX7_layer_194 : decode cX7_layer 194 = .ok (.aload_n 0, 1) := by decide +kernel
theorem dX7_layer_195 : decode cX7_layer 195 = .ok (.getfield 201, 3) := by decide +kernel
theorem dX7_layer_198 : decode cX7_layer 198 = .ok (.ireturn, 1) := by decide +kernel
set_option maxRecDepth 20000 in
theorem ggX7_plans_X7_mostOf : GoodIn wsX7_plans wsX7_mostOf := goodIn_r _ [7, 8, 27, 28, 29, 30, 31, 32, 33, 34, 35, 36, 37, 38, 39, 40, 41, 42, 43, 44, 45, 46, 47, 48, 49, 50, 51, 52, 53, 54, 55, 56, 57, 58, 59, 60, 61, 62, 63, 64, 65, 66, 67, 68, 69] (by decide +kernel) (by decide +kernel)
set_option maxRecDepth 20000 in
theorem gX7_plans_X7_mostOf : GoodIn wsX7_plans (wsV RX7 180 RX7 yX7_mostOf wsX7_mostOf) := goodIn_app (goodIn_of _ (by decide +kernel)) ggX7_plans_X7_mostOf
set_option maxRecDepth 20000 in
theorem ggX7_plans_X7_cuts : GoodIn wsX7_plans wsX7_cuts := goodIn_r _ [12, 3, 4, 5, 6, 7, 8, 13, 14, 15, 16, 17, 18, 27, 28, 29, 30, 31, 32, 33, 34, 35, 36, 37, 38, 39, 40, 41, 42, 43, 44, 45, 46, 47, 48, 49, 50, 51, 52, 53, 54, 55, 56, 57, 58, 59, 60, 61, 62, 63, 64, 65, 66, 67, 68, 69] (by decide +kernel) (by decide +kernel)
set_option maxRecDepth 20000 in
theorem gX7_plans_X7_cuts : GoodIn wsX7_plans (wsV RX7 212 RX7 yX7_cuts wsX7_cuts) := goodIn_app (goodIn_of _ (by decide +kernel)) ggX7_plans_X7_cuts
set_option maxRecDepth 20000 in
theorem ggX7_plans_X7_wheels : GoodIn wsX7_plans wsX7_wheels := goodIn_r _ [22, 23, 24, 25, 6, 26, 3, 4, 5, 7, 8, 13, 14, 15, 16, 17, 18, 27, 28, 29, 30, 31, 32, 33, 34, 35, 36, 37, 38, 39, 40, 41, 42, 43, 44, 45, 46, 47, 48, 49, 50, 51, 52, 53, 54, 55, 56, 57, 58, 59, 60, 61, 62, 63, 64, 65, 66, 67, 68, 69] (by decide +kernel) (by decide +kernel)
set_option maxRecDepth 20000 in
theorem gX7_plans_X7_wheels : GoodIn wsX7_plans (wsV RX7 216 RX7 yX7_wheels wsX7_wheels) := goodIn_app (goodIn_of _ (by decide +kernel)) ggX7_plans_X7_wheels
theorem dX7_plans_0 : decode cX7_plans 0 = .ok (.aload_n 0, 1) := by decide +kernel
theorem dX7_plans_1 : decode cX7_plans 1 = .ok (.iload_n 3, 1) := by decide +kernel
theorem dX7_plans_2 : decode cX7_plans 2 = .ok (.iload 4, 2) := by decide +kernel
theorem dX7_plans_4 : decode cX7_plans 4 = .ok (.invokevirtual 180, 3) := by decide +kernel
theorem dX7_plans_7 : decode cX7_plans 7 = .ok (.istore 7, 2) := by decide +kernel
theorem dX7_plans_9 : decode cX7_plans 9 = .ok (.iload 7, 2) := by decide +kernel
theorem dX7_plans_11 : decode cX7_plans 11 = .ok (.iconst 1, 1) := by decide +kernel
theorem dX7_plans_12 : decode cX7_plans 12 = .ok (.if_icmp .ne 109, 3) := by decide +kernel
theorem dX7_plans_15 : decode cX7_plans 15 = .ok (.iload 5, 2) := by decide +kernel
theorem dX7_plans_17 : decode cX7_plans 17 = .ok (.iload_n 3, 1) := by decide +kernel
theorem dX7_plans_18 : decode cX7_plans 18 = .ok (.if_icmp .gt 14, 3) := by decide +kernel
theorem dX7_plans_21 : decode cX7_plans 21 = .ok (.iload 6, 2) := by decide +kernel
theorem dX7_plans_23 : decode cX7_plans 23 = .ok (.iload 4, 2) := by decide +kernel
theorem dX7_plans_25 : decode cX7_plans 25 = .ok (.if_icmp .gt 7, 3) := by decide +kernel
theorem dX7_plans_28 : decode cX7_plans 28 = .ok (.iconst 1, 1) := by decide +kernel
theorem dX7_plans_29 : decode cX7_plans 29 = .ok (.goto 4, 3) := by decide +kernel
theorem dX7_plans_32 : decode cX7_plans 32 = .ok (.iconst 0, 1) := by decide +kernel
theorem dX7_plans_33 : decode cX7_plans 33 = .ok (.istore 8, 2) := by decide +kernel
theorem dX7_plans_35 : decode cX7_plans 35 = .ok (.aload_n 0, 1) := by decide +kernel
theorem dX7_plans_36 : decode cX7_plans 36 = .ok (.getfield 96, 3) := by decide +kernel
theorem dX7_plans_39 : decode cX7_plans 39 = .ok (.iconst 4, 1) := by decide +kernel
theorem dX7_plans_40 : decode cX7_plans 40 = .ok (.aload_n 0, 1) := by decide +kernel
theorem dX7_plans_41 : decode cX7_plans 41 = .ok (.getfield 201, 3) := by decide +kernel
theorem dX7_plans_44 : decode cX7_plans 44 = .ok (.imul, 1) := by decide +kernel
theorem dX7_plans_45 : decode cX7_plans 45 = .ok (.iload_n 1, 1) := by decide +kernel
theorem dX7_plans_46 : decode cX7_plans 46 = .ok (.iastore, 1) := by decide +kernel
theorem dX7_plans_47 : decode cX7_plans 47 = .ok (.aload_n 0, 1) := by decide +kernel
theorem dX7_plans_48 : decode cX7_plans 48 = .ok (.getfield 96, 3) := by decide +kernel
theorem dX7_plans_51 : decode cX7_plans 51 = .ok (.iconst 4, 1) := by decide +kernel
theorem dX7_plans_52 : decode cX7_plans 52 = .ok (.aload_n 0, 1) := by decide +kernel
theorem dX7_plans_53 : decode cX7_plans 53 = .ok (.getfield 201, 3) := by decide +kernel
theorem dX7_plans_56 : decode cX7_plans 56 = .ok (.imul, 1) := by decide +kernel
theorem dX7_plans_57 : decode cX7_plans 57 = .ok (.iconst 1, 1) := by decide +kernel
theorem dX7_plans_58 : decode cX7_plans 58 = .ok (.iadd, 1) := by decide +kernel
theorem dX7_plans_59 : decode cX7_plans 59 = .ok (.iload_n 2, 1) := by decide +kernel
theorem dX7_plans_60 : decode cX7_plans 60 = .ok (.iastore, 1) := by decide +kernel
theorem dX7_plans_61 : decode cX7_plans 61 = .ok (.aload_n 0, 1) := by decide +kernel
theorem dX7_plans_62 : decode cX7_plans 62 = .ok (.getfield 96, 3) := by decide +kernel
theorem dX7_plans_65 : decode cX7_plans 65 = .ok (.iconst 4, 1) := by decide +kernel
theorem dX7_plans_66 : decode cX7_plans 66 = .ok (.aload_n 0, 1) := by decide +kernel
theorem dX7_plans_67 : decode cX7_plans 67 = .ok (.getfield 201, 3) := by decide +kernel
theorem dX7_plans_70 : decode cX7_plans 70 = .ok (.imul, 1) := by decide +kernel
theorem dX7_plans_71 : decode cX7_plans 71 = .ok (.iconst 2, 1) := by decide +kernel
theorem dX7_plans_72 : decode cX7_plans 72 = .ok (.iadd, 1) := by decide +kernel
theorem dX7_plans_73 : decode cX7_plans 73 = .ok (.iload 8, 2) := by decide +kernel
theorem dX7_plans_75 : decode cX7_plans 75 = .ok (.ifCond .eq 8, 3) := by decide +kernel
theorem dX7_plans_78 : decode cX7_plans 78 = .ok (.iload 5, 2) := by decide +kernel
theorem dX7_plans_80 : decode cX7_plans 80 = .ok (.goto 5, 3) := by decide +kernel
theorem dX7_plans_83 : decode cX7_plans 83 = .ok (.iload 6, 2) := by decide +kernel
theorem dX7_plans_85 : decode cX7_plans 85 = .ok (.iastore, 1) := by decide +kernel
theorem dX7_plans_86 : decode cX7_plans 86 = .ok (.aload_n 0, 1) := by decide +kernel
theorem dX7_plans_87 : decode cX7_plans 87 = .ok (.getfield 96, 3) := by decide +kernel
theorem dX7_plans_90 : decode cX7_plans 90 = .ok (.iconst 4, 1) := by decide +kernel
theorem dX7_plans_91 : decode cX7_plans 91 = .ok (.aload_n 0, 1) := by decide +kernel
theorem dX7_plans_92 : decode cX7_plans 92 = .ok (.getfield 201, 3) := by decide +kernel
theorem dX7_plans_95 : decode cX7_plans 95 = .ok (.imul, 1) := by decide +kernel
theorem dX7_plans_96 : decode cX7_plans 96 = .ok (.iconst 3, 1) := by decide +kernel
theorem dX7_plans_97 : decode cX7_plans 97 = .ok (.iadd, 1) := by decide +kernel
theorem dX7_plans_98 : decode cX7_plans 98 = .ok (.iload 8, 2) := by decide +kernel
theorem dX7_plans_100 : decode cX7_plans 100 = .ok (.ifCond .eq 8, 3) := by decide +kernel
theorem dX7_plans_103 : decode cX7_plans 103 = .ok (.iload 6, 2) := by decide +kernel
theorem dX7_plans_105 : decode cX7_plans 105 = .ok (.goto 5, 3) := by decide +kernel
theorem dX7_plans_108 : decode cX7_plans 108 = .ok (.iload 5, 2) := by decide +kernel
theorem dX7_plans_110 : decode cX7_plans 110 = .ok (.iastore, 1) := by decide +kernel
theorem dX7_plans_111 : decode cX7_plans 111 = .ok (.aload_n 0, 1) := by decide +kernel
theorem dX7_plans_112 : decode cX7_plans 112 = .ok (.dup, 1) := by decide +kernel
theorem dX7_plans_113 : decode cX7_plans 113 = .ok (.getfield 201, 3) := by decide +kernel
theorem dX7_plans_116 : decode cX7_plans 116 = .ok (.iconst 1, 1) := by decide +kernel
theorem dX7_plans_117 : decode cX7_plans 117 = .ok (.iadd, 1) := by decide +kernel
theorem dX7_plans_118 : decode cX7_plans 118 = .ok (.putfield 201, 3) := by decide +kernel
theorem dX7_plans_121 : decode cX7_plans 121 = .ok (.iload 7, 2) := by decide +kernel
theorem dX7_plans_123 : decode cX7_plans 123 = .ok (.iconst 1, 1) := by decide +kernel
theorem dX7_plans_124 : decode cX7_plans 124 = .ok (.if_icmp .le 28, 3) := by decide +kernel
theorem dX7_plans_127 : decode cX7_plans 127 = .ok (.aload_n 0, 1) := by decide +kernel
theorem dX7_plans_128 : decode cX7_plans 128 = .ok (.iload_n 1, 1) := by decide +kernel
theorem dX7_plans_129 : decode cX7_plans 129 = .ok (.iload_n 2, 1) := by decide +kernel
theorem dX7_plans_130 : decode cX7_plans 130 = .ok (.iload_n 3, 1) := by decide +kernel
theorem dX7_plans_131 : decode cX7_plans 131 = .ok (.iload 4, 2) := by decide +kernel
theorem dX7_plans_133 : decode cX7_plans 133 = .ok (.iload 7, 2) := by decide +kernel
theorem dX7_plans_135 : decode cX7_plans 135 = .ok (.invokevirtual 212, 3) := by decide +kernel
theorem dX7_plans_138 : decode cX7_plans 138 = .ok (.ifCond .ne 14, 3) := by decide +kernel
theorem dX7_plans_141 : decode cX7_plans 141 = .ok (.aload_n 0, 1) := by decide +kernel
theorem dX7_plans_142 : decode cX7_plans 142 = .ok (.iload_n 1, 1) := by decide +kernel
theorem dX7_plans_143 : decode cX7_plans 143 = .ok (.iload_n 2, 1) := by decide +kernel
theorem dX7_plans_144 : decode cX7_plans 144 = .ok (.iload_n 3, 1) := by decide +kernel
theorem dX7_plans_145 : decode cX7_plans 145 = .ok (.iload 4, 2) := by decide +kernel
theorem dX7_plans_147 : decode cX7_plans 147 = .ok (.iload 7, 2) := by decide +kernel
theorem dX7_plans_149 : decode cX7_plans 149 = .ok (.invokevirtual 216, 3) := by decide +kernel
theorem dX7_plans_152 : decode cX7_plans 152 = .ok (.return_, 1) := by decide +kernel
set_option maxRecDepth 20000 in
theorem ggX7_cuts_X7_mostOf : GoodIn wsX7_cuts wsX7_mostOf := goodIn_r _ [5, 6, 13, 14, 15, 16, 17, 18, 19, 20, 21, 22, 23, 24, 25, 26, 27, 28, 29, 30, 31, 32, 33, 34, 35, 36, 37, 38, 39, 40, 41, 42, 43, 44, 45, 46, 47, 48, 49, 50, 51, 52, 53, 54, 55] (by decide +kernel) (by decide +kernel)
set_option maxRecDepth 20000 in
theorem gX7_cuts_X7_mostOf : GoodIn wsX7_cuts (wsV RX7 180 RX7 yX7_mostOf wsX7_mostOf) := goodIn_app (goodIn_of _ (by decide +kernel)) ggX7_cuts_X7_mostOf
set_option maxRecDepth 20000 in
theorem ggX7_cuts_X7_piles : GoodIn wsX7_cuts wsX7_piles := goodIn_r _ [10, 11, 12, 13, 14, 15, 16, 17, 18, 19, 20, 21, 22, 23, 24, 25, 26, 27, 28, 29, 30, 31, 32, 33, 34, 35, 36, 37, 38, 39, 40, 41, 42, 43, 44, 45, 46, 47, 48, 49, 50, 51, 52, 53, 54, 55] (by decide +kernel) (by decide +kernel)
set_option maxRecDepth 20000 in
theorem gX7_cuts_X7_piles : GoodIn wsX7_cuts (wsV RX7 204 RX7 yX7_piles wsX7_piles) := goodIn_app (goodIn_of _ (by decide +kernel)) ggX7_cuts_X7_piles
theorem dX7_cuts_0 : decode cX7_cuts 0 = .ok (.iconst 1, 1) := by decide +kernel
theorem dX7_cuts_1 : decode cX7_cuts 1 = .ok (.istore 6, 2) := by decide +kernel
theorem dX7_cuts_3 : decode cX7_cuts 3 = .ok (.iload 6, 2) := by decide +kernel
theorem dX7_cuts_5 : decode cX7_cuts 5 = .ok (.iload_n 3, 1) := by decide +kernel
theorem dX7_cuts_6 : decode cX7_cuts 6 = .ok (.if_icmp .ge 60, 3) := by decide +kernel
theorem dX7_cuts_9 : decode cX7_cuts 9 = .ok (.aload_n 0, 1) := by decide +kernel
theorem dX7_cuts_10 : decode cX7_cuts 10 = .ok (.iload 6, 2) := by decide +kernel
theorem dX7_cuts_12 : decode cX7_cuts 12 = .ok (.iload 4, 2) := by decide +kernel
theorem dX7_cuts_14 : decode cX7_cuts 14 = .ok (.invokevirtual 180, 3) := by decide +kernel
theorem dX7_cuts_17 : decode cX7_cuts 17 = .ok (.aload_n 0, 1) := by decide +kernel
theorem dX7_cuts_18 : decode cX7_cuts 18 = .ok (.iload_n 3, 1) := by decide +kernel
theorem dX7_cuts_19 : decode cX7_cuts 19 = .ok (.iload 6, 2) := by decide +kernel
theorem dX7_cuts_21 : decode cX7_cuts 21 = .ok (.isub, 1) := by decide +kernel
theorem dX7_cuts_22 : decode cX7_cuts 22 = .ok (.iload 4, 2) := by decide +kernel
theorem dX7_cuts_24 : decode cX7_cuts 24 = .ok (.invokevirtual 180, 3) := by decide +kernel
theorem dX7_cuts_27 : decode cX7_cuts 27 = .ok (.iadd, 1) := by decide +kernel
theorem dX7_cuts_28 : decode cX7_cuts 28 = .ok (.iload 5, 2) := by decide +kernel
theorem dX7_cuts_30 : decode cX7_cuts 30 = .ok (.if_icmp .ne 30, 3) := by decide +kernel
theorem dX7_cuts_33 : decode cX7_cuts 33 = .ok (.aload_n 0, 1) := by decide +kernel
theorem dX7_cuts_34 : decode cX7_cuts 34 = .ok (.iload_n 1, 1) := by decide +kernel
theorem dX7_cuts_35 : decode cX7_cuts 35 = .ok (.iload 6, 2) := by decide +kernel
theorem dX7_cuts_37 : decode cX7_cuts 37 = .ok (.iadd, 1) := by decide +kernel
theorem dX7_cuts_38 : decode cX7_cuts 38 = .ok (.iload_n 2, 1) := by decide +kernel
theorem dX7_cuts_39 : decode cX7_cuts 39 = .ok (.iload_n 3, 1) := by decide +kernel
theorem dX7_cuts_40 : decode cX7_cuts 40 = .ok (.iload 6, 2) := by decide +kernel
theorem dX7_cuts_42 : decode cX7_cuts 42 = .ok (.isub, 1) := by decide +kernel
theorem dX7_cuts_43 : decode cX7_cuts 43 = .ok (.iload 4, 2) := by decide +kernel
theorem dX7_cuts_45 : decode cX7_cuts 45 = .ok (.invokevirtual 204, 3) := by decide +kernel
theorem dX7_cuts_48 : decode cX7_cuts 48 = .ok (.aload_n 0, 1) := by decide +kernel
theorem dX7_cuts_49 : decode cX7_cuts 49 = .ok (.iload_n 1, 1) := by decide +kernel
theorem dX7_cuts_50 : decode cX7_cuts 50 = .ok (.iload_n 2, 1) := by decide +kernel
theorem dX7_cuts_51 : decode cX7_cuts 51 = .ok (.iload 6, 2) := by decide +kernel
theorem dX7_cuts_53 : decode cX7_cuts 53 = .ok (.iload 4, 2) := by decide +kernel
theorem dX7_cuts_55 : decode cX7_cuts 55 = .ok (.invokevirtual 204, 3) := by decide +kernel
theorem dX7_cuts_58 : decode cX7_cuts 58 = .ok (.iconst 1, 1) := by decide +kernel
theorem dX7_cuts_59 : decode cX7_cuts 59 = .ok (.ireturn, 1) := by decide +kernel
theorem dX7_cuts_60 : decode cX7_cuts 60 = .ok (.iinc 6 1, 3) := by decide +kernel
theorem dX7_cuts_63 : decode cX7_cuts 63 = .ok (.goto (-60), 3) := by decide +kernel
theorem dX7_cuts_66 : decode cX7_cuts 66 = .ok (.iconst 1, 1) := by decide +kernel
theorem dX7_cuts_67 : decode cX7_cuts 67 = .ok (.istore 6, 2) := by decide +kernel
theorem dX7_cuts_69 : decode cX7_cuts 69 = .ok (.iload 6, 2) := by decide +kernel
theorem dX7_cuts_71 : decode cX7_cuts 71 = .ok (.iload 4, 2) := by decide +kernel
theorem dX7_cuts_73 : decode cX7_cuts 73 = .ok (.if_icmp .ge 58, 3) := by decide +kernel
theorem dX7_cuts_76 : decode cX7_cuts 76 = .ok (.aload_n 0, 1) := by decide +kernel
theorem dX7_cuts_77 : decode cX7_cuts 77 = .ok (.iload_n 3, 1) := by decide +kernel
theorem dX7_cuts_78 : decode cX7_cuts 78 = .ok (.iload 6, 2) := by decide +kernel
theorem dX7_cuts_80 : decode cX7_cuts 80 = .ok (.invokevirtual 180, 3) := by decide +kernel
theorem dX7_cuts_83 : decode cX7_cuts 83 = .ok (.aload_n 0, 1) := by decide +kernel
theorem dX7_cuts_84 : decode cX7_cuts 84 = .ok (.iload_n 3, 1) := by decide +kernel
theorem dX7_cuts_85 : decode cX7_cuts 85 = .ok (.iload 4, 2) := by decide +kernel
theorem dX7_cuts_87 : decode cX7_cuts 87 = .ok (.iload 6, 2) := by decide +kernel
theorem dX7_cuts_89 : decode cX7_cuts 89 = .ok (.isub, 1) := by decide +kernel
theorem dX7_cuts_90 : decode cX7_cuts 90 = .ok (.invokevirtual 180, 3) := by decide +kernel
theorem dX7_cuts_93 : decode cX7_cuts 93 = .ok (.iadd, 1) := by decide +kernel
theorem dX7_cuts_94 : decode cX7_cuts 94 = .ok (.iload 5, 2) := by decide +kernel
theorem dX7_cuts_96 : decode cX7_cuts 96 = .ok (.if_icmp .ne 29, 3) := by decide +kernel
theorem dX7_cuts_99 : decode cX7_cuts 99 = .ok (.aload_n 0, 1) := by decide +kernel
theorem dX7_cuts_100 : decode cX7_cuts 100 = .ok (.iload_n 1, 1) := by decide +kernel
theorem dX7_cuts_101 : decode cX7_cuts 101 = .ok (.iload_n 2, 1) := by decide +kernel
theorem dX7_cuts_102 : decode cX7_cuts 102 = .ok (.iload 6, 2) := by decide +kernel
theorem dX7_cuts_104 : decode cX7_cuts 104 = .ok (.iadd, 1) := by decide +kernel
theorem dX7_cuts_105 : decode cX7_cuts 105 = .ok (.iload_n 3, 1) := by decide +kernel
theorem dX7_cuts_106 : decode cX7_cuts 106 = .ok (.iload 4, 2) := by decide +kernel
theorem dX7_cuts_108 : decode cX7_cuts 108 = .ok (.iload 6, 2) := by decide +kernel
theorem dX7_cuts_110 : decode cX7_cuts 110 = .ok (.isub, 1) := by decide +kernel
theorem dX7_cuts_111 : decode cX7_cuts 111 = .ok (.invokevirtual 204, 3) := by decide +kernel
theorem dX7_cuts_114 : decode cX7_cuts 114 = .ok (.aload_n 0, 1) := by decide +kernel
theorem dX7_cuts_115 : decode cX7_cuts 115 = .ok (.iload_n 1, 1) := by decide +kernel
theorem dX7_cuts_116 : decode cX7_cuts 116 = .ok (.iload_n 2, 1) := by decide +kernel
theorem dX7_cuts_117 : decode cX7_cuts 117 = .ok (.iload_n 3, 1) := by decide +kernel
theorem dX7_cuts_118 : decode cX7_cuts 118 = .ok (.iload 6, 2) := by decide +kernel
theorem dX7_cuts_120 : decode cX7_cuts 120 = .ok (.invokevirtual 204, 3) := by decide +kernel
theorem dX7_cuts_123 : decode cX7_cuts 123 = .ok (.iconst 1, 1) := by decide +kernel
theorem dX7_cuts_124 : decode cX7_cuts 124 = .ok (.ireturn, 1) := by decide +kernel
theorem dX7_cuts_125 : decode cX7_cuts 125 = .ok (.iinc 6 1, 3) := by decide +kernel
theorem dX7_cuts_128 : decode cX7_cuts 128 = .ok (.goto (-59), 3) := by decide +kernel
theorem dX7_cuts_131 : decode cX7_cuts 131 = .ok (.iconst 0, 1) := by decide +kernel
theorem dX7_cuts_132 : decode cX7_cuts 132 = .ok (.ireturn, 1) := by decide +kernel
set_option maxRecDepth 20000 in
theorem ggX7_wheels_X7_wheel : GoodIn wsX7_wheels wsX7_wheel := goodIn_r _ [5, 6, 7, 8, 4, 9, 10, 17, 18, 19, 20, 21, 22, 23, 24, 25, 26, 27, 28, 29, 30, 31, 32, 33, 34, 35, 36, 37, 38, 39, 40, 41, 42, 43, 44, 45, 46, 47, 48, 49, 50, 51, 52, 53, 54, 55, 56, 57, 58, 59] (by decide +kernel) (by decide +kernel)
set_option maxRecDepth 20000 in
theorem gX7_wheels_X7_wheel : GoodIn wsX7_wheels (wsV RX7 184 RX7 yX7_wheel wsX7_wheel) := goodIn_app (goodIn_of _ (by decide +kernel)) ggX7_wheels_X7_wheel
set_option maxRecDepth 20000 in
theorem ggX7_wheels_X7_piles : GoodIn wsX7_wheels wsX7_piles := goodIn_r _ [14, 15, 16, 17, 18, 19, 20, 21, 22, 23, 24, 25, 26, 27, 28, 29, 30, 31, 32, 33, 34, 35, 36, 37, 38, 39, 40, 41, 42, 43, 44, 45, 46, 47, 48, 49, 50, 51, 52, 53, 54, 55, 56, 57, 58, 59] (by decide +kernel) (by decide +kernel)
set_option maxRecDepth 20000 in
theorem gX7_wheels_X7_piles : GoodIn wsX7_wheels (wsV RX7 204 RX7 yX7_piles wsX7_piles) := goodIn_app (goodIn_of _ (by decide +kernel)) ggX7_wheels_X7_piles
theorem dX7_wheels_0 : decode cX7_wheels 0 = .ok (.iconst 1, 1) := by decide +kernel
theorem dX7_wheels_1 : decode cX7_wheels 1 = .ok (.istore 6, 2) := by decide +kernel
theorem dX7_wheels_3 : decode cX7_wheels 3 = .ok (.iload 6, 2) := by decide +kernel
theorem dX7_wheels_5 : decode cX7_wheels 5 = .ok (.iload_n 3, 1) := by decide +kernel
theorem dX7_wheels_6 : decode cX7_wheels 6 = .ok (.if_icmp .ge 167, 3) := by decide +kernel
theorem dX7_wheels_9 : decode cX7_wheels 9 = .ok (.iload 6, 2) := by decide +kernel
theorem dX7_wheels_11 : decode cX7_wheels 11 = .ok (.iconst 1, 1) := by decide +kernel
theorem dX7_wheels_12 : decode cX7_wheels 12 = .ok (.iadd, 1) := by decide +kernel
theorem dX7_wheels_13 : decode cX7_wheels 13 = .ok (.istore 7, 2) := by decide +kernel
theorem dX7_wheels_15 : decode cX7_wheels 15 = .ok (.iload 7, 2) := by decide +kernel
theorem dX7_wheels_17 : decode cX7_wheels 17 = .ok (.iload_n 3, 1) := by decide +kernel
theorem dX7_wheels_18 : decode cX7_wheels 18 = .ok (.if_icmp .ge 149, 3) := by decide +kernel
theorem dX7_wheels_21 : decode cX7_wheels 21 = .ok (.iconst 1, 1) := by decide +kernel
theorem dX7_wheels_22 : decode cX7_wheels 22 = .ok (.istore 8, 2) := by decide +kernel
theorem dX7_wheels_24 : decode cX7_wheels 24 = .ok (.iload 8, 2) := by decide +kernel
theorem dX7_wheels_26 : decode cX7_wheels 26 = .ok (.iload 4, 2) := by decide +kernel
theorem dX7_wheels_28 : decode cX7_wheels 28 = .ok (.if_icmp .ge 133, 3) := by decide +kernel
theorem dX7_wheels_31 : decode cX7_wheels 31 = .ok (.iload 8, 2) := by decide +kernel
theorem dX7_wheels_33 : decode cX7_wheels 33 = .ok (.iconst 1, 1) := by decide +kernel
theorem dX7_wheels_34 : decode cX7_wheels 34 = .ok (.iadd, 1) := by decide +kernel
theorem dX7_wheels_35 : decode cX7_wheels 35 = .ok (.istore 9, 2) := by decide +kernel
theorem dX7_wheels_37 : decode cX7_wheels 37 = .ok (.iload 9, 2) := by decide +kernel
theorem dX7_wheels_39 : decode cX7_wheels 39 = .ok (.iload 4, 2) := by decide +kernel
theorem dX7_wheels_41 : decode cX7_wheels 41 = .ok (.if_icmp .ge 114, 3) := by decide +kernel
theorem dX7_wheels_44 : decode cX7_wheels 44 = .ok (.aload_n 0, 1) := by decide +kernel
theorem dX7_wheels_45 : decode cX7_wheels 45 = .ok (.iload_n 3, 1) := by decide +kernel
theorem dX7_wheels_46 : decode cX7_wheels 46 = .ok (.iload 4, 2) := by decide +kernel
theorem dX7_wheels_48 : decode cX7_wheels 48 = .ok (.iload 6, 2) := by decide +kernel
theorem dX7_wheels_50 : decode cX7_wheels 50 = .ok (.iload 7, 2) := by decide +kernel
theorem dX7_wheels_52 : decode cX7_wheels 52 = .ok (.iload 8, 2) := by decide +kernel
theorem dX7_wheels_54 : decode cX7_wheels 54 = .ok (.iload 9, 2) := by decide +kernel
theorem dX7_wheels_56 : decode cX7_wheels 56 = .ok (.invokevirtual 184, 3) := by decide +kernel
theorem dX7_wheels_59 : decode cX7_wheels 59 = .ok (.iload 5, 2) := by decide +kernel
theorem dX7_wheels_61 : decode cX7_wheels 61 = .ok (.if_icmp .ne 88, 3) := by decide +kernel
theorem dX7_wheels_64 : decode cX7_wheels 64 = .ok (.aload_n 0, 1) := by decide +kernel
theorem dX7_wheels_65 : decode cX7_wheels 65 = .ok (.iload_n 1, 1) := by decide +kernel
theorem dX7_wheels_66 : decode cX7_wheels 66 = .ok (.iload 6, 2) := by decide +kernel
theorem dX7_wheels_68 : decode cX7_wheels 68 = .ok (.iadd, 1) := by decide +kernel
theorem dX7_wheels_69 : decode cX7_wheels 69 = .ok (.iload_n 2, 1) := by decide +kernel
theorem dX7_wheels_70 : decode cX7_wheels 70 = .ok (.iload 8, 2) := by decide +kernel
theorem dX7_wheels_72 : decode cX7_wheels 72 = .ok (.iadd, 1) := by decide +kernel
theorem dX7_wheels_73 : decode cX7_wheels 73 = .ok (.iload 7, 2) := by decide +kernel
theorem dX7_wheels_75 : decode cX7_wheels 75 = .ok (.iload 6, 2) := by decide +kernel
theorem dX7_wheels_77 : decode cX7_wheels 77 = .ok (.isub, 1) := by decide +kernel
theorem dX7_wheels_78 : decode cX7_wheels 78 = .ok (.iload 9, 2) := by decide +kernel
theorem dX7_wheels_80 : decode cX7_wheels 80 = .ok (.iload 8, 2) := by decide +kernel
theorem dX7_wheels_82 : decode cX7_wheels 82 = .ok (.isub, 1) := by decide +kernel
theorem dX7_wheels_83 : decode cX7_wheels 83 = .ok (.invokevirtual 204, 3) := by decide +kernel
theorem dX7_wheels_86 : decode cX7_wheels 86 = .ok (.aload_n 0, 1) := by decide +kernel
theorem dX7_wheels_87 : decode cX7_wheels 87 = .ok (.iload_n 1, 1) := by decide +kernel
theorem dX7_wheels_88 : decode cX7_wheels 88 = .ok (.iload_n 2, 1) := by decide +kernel
theorem dX7_wheels_89 : decode cX7_wheels 89 = .ok (.iload 9, 2) := by decide +kernel
theorem dX7_wheels_91 : decode cX7_wheels 91 = .ok (.iadd, 1) := by decide +kernel
theorem dX7_wheels_92 : decode cX7_wheels 92 = .ok (.iload 7, 2) := by decide +kernel
theorem dX7_wheels_94 : decode cX7_wheels 94 = .ok (.iload 4, 2) := by decide +kernel
theorem dX7_wheels_96 : decode cX7_wheels 96 = .ok (.iload 9, 2) := by decide +kernel
theorem dX7_wheels_98 : decode cX7_wheels 98 = .ok (.isub, 1) := by decide +kernel
theorem dX7_wheels_99 : decode cX7_wheels 99 = .ok (.invokevirtual 204, 3) := by decide +kernel
theorem dX7_wheels_102 : decode cX7_wheels 102 = .ok (.aload_n 0, 1) := by decide +kernel
theorem dX7_wheels_103 : decode cX7_wheels 103 = .ok (.iload_n 1, 1) := by decide +kernel
theorem dX7_wheels_104 : decode cX7_wheels 104 = .ok (.iload 7, 2) := by decide +kernel
theorem dX7_wheels_106 : decode cX7_wheels 106 = .ok (.iadd, 1) := by decide +kernel
theorem dX7_wheels_107 : decode cX7_wheels 107 = .ok (.iload_n 2, 1) := by decide +kernel
theorem dX7_wheels_108 : decode cX7_wheels 108 = .ok (.iload 8, 2) := by decide +kernel
theorem dX7_wheels_110 : decode cX7_wheels 110 = .ok (.iadd, 1) := by decide +kernel
theorem dX7_wheels_111 : decode cX7_wheels 111 = .ok (.iload_n 3, 1) := by decide +kernel
theorem dX7_wheels_112 : decode cX7_wheels 112 = .ok (.iload 7, 2) := by decide +kernel
theorem dX7_wheels_114 : decode cX7_wheels 114 = .ok (.isub, 1) := by decide +kernel
theorem dX7_wheels_115 : decode cX7_wheels 115 = .ok (.iload 4, 2) := by decide +kernel
theorem dX7_wheels_117 : decode cX7_wheels 117 = .ok (.iload 8, 2) := by decide +kernel
theorem dX7_wheels_119 : decode cX7_wheels 119 = .ok (.isub, 1) := by decide +kernel
theorem dX7_wheels_120 : decode cX7_wheels 120 = .ok (.invokevirtual 204, 3) := by decide +kernel
theorem dX7_wheels_123 : decode cX7_wheels 123 = .ok (.aload_n 0, 1) := by decide +kernel
theorem dX7_wheels_124 : decode cX7_wheels 124 = .ok (.iload_n 1, 1) := by decide +kernel
theorem dX7_wheels_125 : decode cX7_wheels 125 = .ok (.iload 6, 2) := by decide +kernel
theorem dX7_wheels_127 : decode cX7_wheels 127 = .ok (.iadd, 1) := by decide +kernel
theorem dX7_wheels_128 : decode cX7_wheels 128 = .ok (.iload_n 2, 1) := by decide +kernel
theorem dX7_wheels_129 : decode cX7_wheels 129 = .ok (.iload_n 3, 1) := by decide +kernel
theorem dX7_wheels_130 : decode cX7_wheels 130 = .ok (.iload 6, 2) := by decide +kernel
theorem dX7_wheels_132 : decode cX7_wheels 132 = .ok (.isub, 1) := by decide +kernel
theorem dX7_wheels_133 : decode cX7_wheels 133 = .ok (.iload 8, 2) := by decide +kernel
theorem dX7_wheels_135 : decode cX7_wheels 135 = .ok (.invokevirtual 204, 3) := by decide +kernel
theorem dX7_wheels_138 : decode cX7_wheels 138 = .ok (.aload_n 0, 1) := by decide +kernel
theorem dX7_wheels_139 : decode cX7_wheels 139 = .ok (.iload_n 1, 1) := by decide +kernel
theorem dX7_wheels_140 : decode cX7_wheels 140 = .ok (.iload_n 2, 1) := by decide +kernel
theorem dX7_wheels_141 : decode cX7_wheels 141 = .ok (.iload 6, 2) := by decide +kernel
theorem dX7_wheels_143 : decode cX7_wheels 143 = .ok (.iload 9, 2) := by decide +kernel
theorem dX7_wheels_145 : decode cX7_wheels 145 = .ok (.invokevirtual 204, 3) := by decide +kernel
theorem dX7_wheels_148 : decode cX7_wheels 148 = .ok (.return_, 1) := by decide +kernel
theorem dX7_wheels_149 : decode cX7_wheels 149 = .ok (.iinc 9 1, 3) := by decide +kernel
theorem dX7_wheels_152 : decode cX7_wheels 152 = .ok (.goto (-115), 3) := by decide +kernel
theorem dX7_wheels_155 : decode cX7_wheels 155 = .ok (.iinc 8 1, 3) := by decide +kernel
theorem dX7_wheels_158 : decode cX7_wheels 158 = .ok (.goto (-134), 3) := by decide +kernel
theorem dX7_wheels_161 : decode cX7_wheels 161 = .ok (.iinc 7 1, 3) := by decide +kernel
theorem dX7_wheels_164 : decode cX7_wheels 164 = .ok (.goto (-149), 3) := by decide +kernel
theorem dX7_wheels_167 : decode cX7_wheels 167 = .ok (.iinc 6 1, 3) := by decide +kernel
theorem dX7_wheels_170 : decode cX7_wheels 170 = .ok (.goto (-167), 3) := by decide +kernel
theorem dX7_wheels_173 : decode cX7_wheels 173 = .ok (.return_, 1) := by decide +kernel
set_option maxRecDepth 20000 in
theorem ggX7_planned_X7_in : GoodIn wsX7_planned wsX7_in := goodIn_r _ [7] (by decide +kernel) (by decide +kernel)
set_option maxRecDepth 20000 in
theorem gX7_planned_X7_in : GoodIn wsX7_planned (va_wsS RX7 127 yX7_in wsX7_in) := goodIn_app (goodIn_of _ (by decide +kernel)) ggX7_planned_X7_in
theorem dX7_planned_0 : decode cX7_planned 0 = .ok (.iload_n 1, 1) := by decide +kernel
theorem dX7_planned_1 : decode cX7_planned 1 = .ok (.ifCond .lt 12, 3) := by decide +kernel
theorem dX7_planned_4 : decode cX7_planned 4 = .ok (.iload_n 2, 1) := by decide +kernel
theorem dX7_planned_5 : decode cX7_planned 5 = .ok (.iconst 0, 1) := by decide +kernel
theorem dX7_planned_6 : decode cX7_planned 6 = .ok (.iconst 3, 1) := by decide +kernel
theorem dX7_planned_7 : decode cX7_planned 7 = .ok (.invokestatic 127, 3) := by decide +kernel
theorem dX7_planned_10 : decode cX7_planned 10 = .ok (.ifCond .ne 5, 3) := by decide +kernel
theorem dX7_planned_13 : decode cX7_planned 13 = .ok (.iconst (-1), 1) := by decide +kernel
theorem dX7_planned_14 : decode cX7_planned 14 = .ok (.ireturn, 1) := by decide +kernel
theorem dX7_planned_15 : decode cX7_planned 15 = .ok (.aload_n 0, 1) := by decide +kernel
theorem dX7_planned_16 : decode cX7_planned 16 = .ok (.getfield 195, 3) := by decide +kernel
theorem dX7_planned_19 : decode cX7_planned 19 = .ok (.ifCond .ne 6, 3) := by decide +kernel
theorem dX7_planned_22 : decode cX7_planned 22 = .ok (.bipush (-2), 2) := by decide +kernel
theorem dX7_planned_24 : decode cX7_planned 24 = .ok (.ireturn, 1) := by decide +kernel
theorem dX7_planned_25 : decode cX7_planned 25 = .ok (.iload_n 1, 1) := by decide +kernel
theorem dX7_planned_26 : decode cX7_planned 26 = .ok (.aload_n 0, 1) := by decide +kernel
theorem dX7_planned_27 : decode cX7_planned 27 = .ok (.getfield 201, 3) := by decide +kernel
theorem dX7_planned_30 : decode cX7_planned 30 = .ok (.if_icmp .ge 16, 3) := by decide +kernel
theorem dX7_planned_33 : decode cX7_planned 33 = .ok (.aload_n 0, 1) := by decide +kernel
theorem dX7_planned_34 : decode cX7_planned 34 = .ok (.getfield 96, 3) := by decide +kernel
theorem dX7_planned_37 : decode cX7_planned 37 = .ok (.iconst 4, 1) := by decide +kernel
theorem dX7_planned_38 : decode cX7_planned 38 = .ok (.iload_n 1, 1) := by decide +kernel
theorem dX7_planned_39 : decode cX7_planned 39 = .ok (.imul, 1) := by decide +kernel
theorem dX7_planned_40 : decode cX7_planned 40 = .ok (.iload_n 2, 1) := by decide +kernel
theorem dX7_planned_41 : decode cX7_planned 41 = .ok (.iadd, 1) := by decide +kernel
theorem dX7_planned_42 : decode cX7_planned 42 = .ok (.iaload, 1) := by decide +kernel
theorem dX7_planned_43 : decode cX7_planned 43 = .ok (.goto 5, 3) := by decide +kernel
theorem dX7_planned_46 : decode cX7_planned 46 = .ok (.bipush (-4), 2) := by decide +kernel
theorem dX7_planned_48 : decode cX7_planned 48 = .ok (.ireturn, 1) := by decide +kernel
theorem dX7_holds_0 : decode cX7_holds 0 = .ok (.aload_n 0, 1) := by decide +kernel
theorem dX7_holds_1 : decode cX7_holds 1 = .ok (.getfield 195, 3) := by decide +kernel
theorem dX7_holds_4 : decode cX7_holds 4 = .ok (.ifCond .ne 6, 3) := by decide +kernel
theorem dX7_holds_7 : decode cX7_holds 7 = .ok (.bipush (-2), 2) := by decide +kernel
theorem dX7_holds_9 : decode cX7_holds 9 = .ok (.ireturn, 1) := by decide +kernel
theorem dX7_holds_10 : decode cX7_holds 10 = .ok (.iconst 0, 1) := by decide +kernel
theorem dX7_holds_11 : decode cX7_holds 11 = .ok (.istore_n 1, 1) := by decide +kernel
theorem dX7_holds_12 : decode cX7_holds 12 = .ok (.iconst 0, 1) := by decide +kernel
theorem dX7_holds_13 : decode cX7_holds 13 = .ok (.istore_n 2, 1) := by decide +kernel
theorem dX7_holds_14 : decode cX7_holds 14 = .ok (.iload_n 2, 1) := by decide +kernel
theorem dX7_holds_15 : decode cX7_holds 15 = .ok (.aload_n 0, 1) := by decide +kernel
theorem dX7_holds_16 : decode cX7_holds 16 = .ok (.getfield 201, 3) := by decide +kernel
theorem dX7_holds_19 : decode cX7_holds 19 = .ok (.if_icmp .ge 215, 3) := by decide +kernel
theorem dX7_holds_22 : decode cX7_holds 22 = .ok (.aload_n 0, 1) := by decide +kernel
theorem dX7_holds_23 : decode cX7_holds 23 = .ok (.getfield 96, 3) := by decide +kernel
theorem dX7_holds_26 : decode cX7_holds 26 = .ok (.iconst 4, 1) := by decide +kernel
theorem dX7_holds_27 : decode cX7_holds 27 = .ok (.iload_n 2, 1) := by decide +kernel
theorem dX7_holds_28 : decode cX7_holds 28 = .ok (.imul, 1) := by decide +kernel
theorem dX7_holds_29 : decode cX7_holds 29 = .ok (.iconst 2, 1) := by decide +kernel
theorem dX7_holds_30 : decode cX7_holds 30 = .ok (.iadd, 1) := by decide +kernel
theorem dX7_holds_31 : decode cX7_holds 31 = .ok (.iaload, 1) := by decide +kernel
theorem dX7_holds_32 : decode cX7_holds 32 = .ok (.istore_n 3, 1) := by decide +kernel
theorem dX7_holds_33 : decode cX7_holds 33 = .ok (.aload_n 0, 1) := by decide +kernel
theorem dX7_holds_34 : decode cX7_holds 34 = .ok (.getfield 96, 3) := by decide +kernel
theorem dX7_holds_37 : decode cX7_holds 37 = .ok (.iconst 4, 1) := by decide +kernel
theorem dX7_holds_38 : decode cX7_holds 38 = .ok (.iload_n 2, 1) := by decide +kernel
theorem dX7_holds_39 : decode cX7_holds 39 = .ok (.imul, 1) := by decide +kernel
theorem dX7_holds_40 : decode cX7_holds 40 = .ok (.iconst 3, 1) := by decide +kernel
theorem dX7_holds_41 : decode cX7_holds 41 = .ok (.iadd, 1) := by decide +kernel
theorem dX7_holds_42 : decode cX7_holds 42 = .ok (.iaload, 1) := by decide +kernel
theorem dX7_holds_43 : decode cX7_holds 43 = .ok (.istore 4, 2) := by decide +kernel
theorem dX7_holds_45 : decode cX7_holds 45 = .ok (.aload_n 0, 1) := by decide +kernel
theorem dX7_holds_46 : decode cX7_holds 46 = .ok (.getfield 195, 3) := by decide +kernel
theorem dX7_holds_49 : decode cX7_holds 49 = .ok (.aload_n 0, 1) := by decide +kernel
theorem dX7_holds_50 : decode cX7_holds 50 = .ok (.getfield 96, 3) := by decide +kernel
theorem dX7_holds_53 : decode cX7_holds 53 = .ok (.iconst 4, 1) := by decide +kernel
theorem dX7_holds_54 : decode cX7_holds 54 = .ok (.iload_n 2, 1) := by decide +kernel
theorem dX7_holds_55 : decode cX7_holds 55 = .ok (.imul, 1) := by decide +kernel
theorem dX7_holds_56 : decode cX7_holds 56 = .ok (.iaload, 1) := by decide +kernel
theorem dX7_holds_57 : decode cX7_holds 57 = .ok (.isub, 1) := by decide +kernel
theorem dX7_holds_58 : decode cX7_holds 58 = .ok (.iload_n 3, 1) := by decide +kernel
theorem dX7_holds_59 : decode cX7_holds 59 = .ok (.isub, 1) := by decide +kernel
theorem dX7_holds_60 : decode cX7_holds 60 = .ok (.istore 5, 2) := by decide +kernel
theorem dX7_holds_62 : decode cX7_holds 62 = .ok (.aload_n 0, 1) := by decide +kernel
theorem dX7_holds_63 : decode cX7_holds 63 = .ok (.getfield 198, 3) := by decide +kernel
theorem dX7_holds_66 : decode cX7_holds 66 = .ok (.aload_n 0, 1) := by decide +kernel
theorem dX7_holds_67 : decode cX7_holds 67 = .ok (.getfield 96, 3) := by decide +kernel
theorem dX7_holds_70 : decode cX7_holds 70 = .ok (.iconst 4, 1) := by decide +kernel
theorem dX7_holds_71 : decode cX7_holds 71 = .ok (.iload_n 2, 1) := by decide +kernel
theorem dX7_holds_72 : decode cX7_holds 72 = .ok (.imul, 1) := by decide +kernel
theorem dX7_holds_73 : decode cX7_holds 73 = .ok (.iconst 1, 1) := by decide +kernel
theorem dX7_holds_74 : decode cX7_holds 74 = .ok (.iadd, 1) := by decide +kernel
theorem dX7_holds_75 : decode cX7_holds 75 = .ok (.iaload, 1) := by decide +kernel
theorem dX7_holds_76 : decode cX7_holds 76 = .ok (.isub, 1) := by decide +kernel
theorem dX7_holds_77 : decode cX7_holds 77 = .ok (.iload 4, 2) := by decide +kernel
theorem dX7_holds_79 : decode cX7_holds 79 = .ok (.isub, 1) := by decide +kernel
theorem dX7_holds_80 : decode cX7_holds 80 = .ok (.istore 6, 2) := by decide +kernel
theorem dX7_holds_82 : decode cX7_holds 82 = .ok (.iconst 0, 1) := by decide +kernel
theorem dX7_holds_83 : decode cX7_holds 83 = .ok (.istore 7, 2) := by decide +kernel
theorem dX7_holds_85 : decode cX7_holds 85 = .ok (.iconst 0, 1) := by decide +kernel
theorem dX7_holds_86 : decode cX7_holds 86 = .ok (.istore 8, 2) := by decide +kernel
theorem dX7_holds_88 : decode cX7_holds 88 = .ok (.iload 8, 2) := by decide +kernel
theorem dX7_holds_90 : decode cX7_holds 90 = .ok (.aload_n 0, 1) := by decide +kernel
theorem dX7_holds_91 : decode cX7_holds 91 = .ok (.getfield 201, 3) := by decide +kernel
theorem dX7_holds_94 : decode cX7_holds 94 = .ok (.if_icmp .ge 120, 3) := by decide +kernel
theorem dX7_holds_97 : decode cX7_holds 97 = .ok (.aload_n 0, 1) := by decide +kernel
theorem dX7_holds_98 : decode cX7_holds 98 = .ok (.getfield 96, 3) := by decide +kernel
theorem dX7_holds_101 : decode cX7_holds 101 = .ok (.iconst 4, 1) := by decide +kernel
theorem dX7_holds_102 : decode cX7_holds 102 = .ok (.iload 8, 2) := by decide +kernel
theorem dX7_holds_104 : decode cX7_holds 104 = .ok (.imul, 1) := by decide +kernel
theorem dX7_holds_105 : decode cX7_holds 105 = .ok (.iaload, 1) := by decide +kernel
theorem dX7_holds_106 : decode cX7_holds 106 = .ok (.iload 5, 2) := by decide +kernel
theorem dX7_holds_108 : decode cX7_holds 108 = .ok (.iload_n 3, 1) := by decide +kernel
theorem dX7_holds_109 : decode cX7_holds 109 = .ok (.iadd, 1) := by decide +kernel
theorem dX7_holds_110 : decode cX7_holds 110 = .ok (.if_icmp .ge 80, 3) := by decide +kernel
theorem dX7_holds_113 : decode cX7_holds 113 = .ok (.aload_n 0, 1) := by decide +kernel
theorem dX7_holds_114 : decode cX7_holds 114 = .ok (.getfield 96, 3) := by decide +kernel
theorem dX7_holds_117 : decode cX7_holds 117 = .ok (.iconst 4, 1) := by decide +kernel
theorem dX7_holds_118 : decode cX7_holds 118 = .ok (.iload 8, 2) := by decide +kernel
theorem dX7_holds_120 : decode cX7_holds 120 = .ok (.imul, 1) := by decide +kernel
theorem dX7_holds_121 : decode cX7_holds 121 = .ok (.iaload, 1) := by decide +kernel
theorem dX7_holds_122 : decode cX7_holds 122 = .ok (.aload_n 0, 1) := by decide +kernel
theorem dX7_holds_123 : decode cX7_holds 123 = .ok (.getfield 96, 3) := by decide +kernel
theorem dX7_holds_126 : decode cX7_holds 126 = .ok (.iconst 4, 1) := by decide +kernel
theorem dX7_holds_127 : decode cX7_holds 127 = .ok (.iload 8, 2) := by decide +kernel
theorem dX7_holds_129 : decode cX7_holds 129 = .ok (.imul, 1) := by decide +kernel
theorem dX7_holds_130 : decode cX7_holds 130 = .ok (.iconst 2, 1) := by decide +kernel
theorem dX7_holds_131 : decode cX7_holds 131 = .ok (.iadd, 1) := by decide +kernel
theorem dX7_holds_132 : decode cX7_holds 132 = .ok (.iaload, 1) := by decide +kernel
theorem dX7_holds_133 : decode cX7_holds 133 = .ok (.iadd, 1) := by decide +kernel
theorem dX7_holds_134 : decode cX7_holds 134 = .ok (.iload 5, 2) := by decide +kernel
theorem dX7_holds_136 : decode cX7_holds 136 = .ok (.if_icmp .le 54, 3) := by decide +kernel
theorem dX7_holds_139 : decode cX7_holds 139 = .ok (.aload_n 0, 1) := by decide +kernel
theorem dX7_holds_140 : decode cX7_holds 140 = .ok (.getfield 96, 3) := by decide +kernel
theorem dX7_holds_143 : decode cX7_holds 143 = .ok (.iconst 4, 1) := by decide +kernel
theorem dX7_holds_144 : decode cX7_holds 144 = .ok (.iload 8, 2) := by decide +kernel
theorem dX7_holds_146 : decode cX7_holds 146 = .ok (.imul, 1) := by decide +kernel
theorem dX7_holds_147 : decode cX7_holds 147 = .ok (.iconst 1, 1) := by decide +kernel
theorem dX7_holds_148 : decode cX7_holds 148 = .ok (.iadd, 1) := by decide +kernel
theorem dX7_holds_149 : decode cX7_holds 149 = .ok (.iaload, 1) := by decide +kernel
theorem dX7_holds_150 : decode cX7_holds 150 = .ok (.iload 6, 2) := by decide +kernel
theorem dX7_holds_152 : decode cX7_holds 152 = .ok (.iload 4, 2) := by decide +kernel
theorem dX7_holds_154 : decode cX7_holds 154 = .ok (.iadd, 1) := by decide +kernel
theorem dX7_holds_155 : decode cX7_holds 155 = .ok (.if_icmp .ge 35, 3) := by decide +kernel
theorem dX7_holds_158 : decode cX7_holds 158 = .ok (.aload_n 0, 1) := by decide +kernel
theorem dX7_holds_159 : decode cX7_holds 159 = .ok (.getfield 96, 3) := by decide +kernel
theorem dX7_holds_162 : decode cX7_holds 162 = .ok (.iconst 4, 1) := by decide +kernel
theorem dX7_holds_163 : decode cX7_holds 163 = .ok (.iload 8, 2) := by decide +kernel
theorem dX7_holds_165 : decode cX7_holds 165 = .ok (.imul, 1) := by decide +kernel
theorem dX7_holds_166 : decode cX7_holds 166 = .ok (.iconst 1, 1) := by decide +kernel
theorem dX7_holds_167 : decode cX7_holds 167 = .ok (.iadd, 1) := by decide +kernel
theorem dX7_holds_168 : decode cX7_holds 168 = .ok (.iaload, 1) := by decide +kernel
theorem dX7_holds_169 : decode cX7_holds 169 = .ok (.aload_n 0, 1) := by decide +kernel
theorem dX7_holds_170 : decode cX7_holds 170 = .ok (.getfield 96, 3) := by decide +kernel
theorem dX7_holds_173 : decode cX7_holds 173 = .ok (.iconst 4, 1) := by decide +kernel
theorem dX7_holds_174 : decode cX7_holds 174 = .ok (.iload 8, 2) := by decide +kernel
theorem dX7_holds_176 : decode cX7_holds 176 = .ok (.imul, 1) := by decide +kernel
theorem dX7_holds_177 : decode cX7_holds 177 = .ok (.iconst 3, 1) := by decide +kernel
theorem dX7_holds_178 : decode cX7_holds 178 = .ok (.iadd, 1) := by decide +kernel
theorem dX7_holds_179 : decode cX7_holds 179 = .ok (.iaload, 1) := by decide +kernel
theorem dX7_holds_180 : decode cX7_holds 180 = .ok (.iadd, 1) := by decide +kernel
theorem dX7_holds_181 : decode cX7_holds 181 = .ok (.iload 6, 2) := by decide +kernel
theorem dX7_holds_183 : decode cX7_holds 183 = .ok (.if_icmp .le 7, 3) := by decide +kernel
theorem dX7_holds_186 : decode cX7_holds 186 = .ok (.iconst 1, 1) := by decide +kernel
theorem dX7_holds_187 : decode cX7_holds 187 = .ok (.goto 4, 3) := by decide +kernel
theorem dX7_holds_190 : decode cX7_holds 190 = .ok (.iconst 0, 1) := by decide +kernel
theorem dX7_holds_191 : decode cX7_holds 191 = .ok (.istore 9, 2) := by decide +kernel
theorem dX7_holds_193 : decode cX7_holds 193 = .ok (.iload 7, 2) := by decide +kernel
theorem dX7_holds_195 : decode cX7_holds 195 = .ok (.iload 9, 2) := by decide +kernel
theorem dX7_holds_197 : decode cX7_holds 197 = .ok (.ifCond .eq 7, 3) := by decide +kernel
theorem dX7_holds_200 : decode cX7_holds 200 = .ok (.iconst 1, 1) := by decide +kernel
theorem dX7_holds_201 : decode cX7_holds 201 = .ok (.goto 4, 3) := by decide +kernel
theorem dX7_holds_204 : decode cX7_holds 204 = .ok (.iconst 0, 1) := by decide +kernel
theorem dX7_holds_205 : decode cX7_holds 205 = .ok (.iadd, 1) := by decide +kernel
theorem dX7_holds_206 : decode cX7_holds 206 = .ok (.istore 7, 2) := by decide +kernel
theorem dX7_holds_208 : decode cX7_holds 208 = .ok (.iinc 8 1, 3) := by decide +kernel
theorem dX7_holds_211 : decode cX7_holds 211 = .ok (.goto (-123), 3) := by decide +kernel
theorem dX7_holds_214 : decode cX7_holds 214 = .ok (.iload_n 1, 1) := by decide +kernel
theorem dX7_holds_215 : decode cX7_holds 215 = .ok (.iload 7, 2) := by decide +kernel
theorem dX7_holds_217 : decode cX7_holds 217 = .ok (.iconst 1, 1) := by decide +kernel
theorem dX7_holds_218 : decode cX7_holds 218 = .ok (.if_icmp .le 7, 3) := by decide +kernel
theorem dX7_holds_221 : decode cX7_holds 221 = .ok (.iconst 1, 1) := by decide +kernel
theorem dX7_holds_222 : decode cX7_holds 222 = .ok (.goto 4, 3) := by decide +kernel
theorem dX7_holds_225 : decode cX7_holds 225 = .ok (.iconst 0, 1) := by decide +kernel
theorem dX7_holds_226 : decode cX7_holds 226 = .ok (.iadd, 1) := by decide +kernel
theorem dX7_holds_227 : decode cX7_holds 227 = .ok (.istore_n 1, 1) := by decide +kernel
theorem dX7_holds_228 : decode cX7_holds 228 = .ok (.iinc 2 1, 3) := by decide +kernel
theorem dX7_holds_231 : decode cX7_holds 231 = .ok (.goto (-217), 3) := by decide +kernel
theorem dX7_holds_234 : decode cX7_holds 234 = .ok (.iload_n 1, 1) := by decide +kernel
theorem dX7_holds_235 : decode cX7_holds 235 = .ok (.ireturn, 1) := by decide +kernel
set_option maxRecDepth 20000 in
theorem ggX7_change_X7_in : GoodIn wsX7_change wsX7_in := goodIn_r _ [5] (by decide +kernel) (by decide +kernel)
set_option maxRecDepth 20000 in
theorem gX7_change_X7_in : GoodIn wsX7_change (va_wsS RX7 127 yX7_in wsX7_in) := goodIn_app (goodIn_of _ (by decide +kernel)) ggX7_change_X7_in
theorem dX7_change_0 : decode cX7_change 0 = .ok (.iload_n 1, 1) := by decide +kernel
theorem dX7_change_1 : decode cX7_change 1 = .ok (.iconst 0, 1) := by decide +kernel
theorem dX7_change_2 : decode cX7_change 2 = .ok (.iconst 5, 1) := by decide +kernel
theorem dX7_change_3 : decode cX7_change 3 = .ok (.invokestatic 127, 3) := by decide +kernel
theorem dX7_change_6 : decode cX7_change 6 = .ok (.ifCond .eq 28, 3) := by decide +kernel
theorem dX7_change_9 : decode cX7_change 9 = .ok (.iload_n 2, 1) := by decide +kernel
theorem dX7_change_10 : decode cX7_change 10 = .ok (.iconst 0, 1) := by decide +kernel
theorem dX7_change_11 : decode cX7_change 11 = .ok (.iconst 5, 1) := by decide +kernel
theorem dX7_change_12 : decode cX7_change 12 = .ok (.invokestatic 127, 3) := by decide +kernel
theorem dX7_change_15 : decode cX7_change 15 = .ok (.ifCond .eq 19, 3) := by decide +kernel
theorem dX7_change_18 : decode cX7_change 18 = .ok (.iload_n 1, 1) := by decide +kernel
theorem dX7_change_19 : decode cX7_change 19 = .ok (.iload_n 2, 1) := by decide +kernel
theorem dX7_change_20 : decode cX7_change 20 = .ok (.if_icmp .eq 14, 3) := by decide +kernel
theorem dX7_change_23 : decode cX7_change 23 = .ok (.iload_n 3, 1) := by decide +kernel
theorem dX7_change_24 : decode cX7_change 24 = .ok (.iconst 0, 1) := by decide +kernel
theorem dX7_change_25 : decode cX7_change 25 = .ok (.sipush 500, 3) := by decide +kernel
theorem dX7_change_28 : decode cX7_change 28 = .ok (.invokestatic 127, 3) := by decide +kernel
theorem dX7_change_31 : decode cX7_change 31 = .ok (.ifCond .ne 5, 3) := by decide +kernel
theorem dX7_change_34 : decode cX7_change 34 = .ok (.iconst (-1), 1) := by decide +kernel
theorem dX7_change_35 : decode cX7_change 35 = .ok (.ireturn, 1) := by decide +kernel
theorem dX7_change_36 : decode cX7_change 36 = .ok (.aload_n 0, 1) := by decide +kernel
theorem dX7_change_37 : decode cX7_change 37 = .ok (.getfield 87, 3) := by decide +kernel
theorem dX7_change_40 : decode cX7_change 40 = .ok (.bipush 6, 2) := by decide +kernel
theorem dX7_change_42 : decode cX7_change 42 = .ok (.iload_n 1, 1) := by decide +kernel
theorem dX7_change_43 : decode cX7_change 43 = .ok (.imul, 1) := by decide +kernel
theorem dX7_change_44 : decode cX7_change 44 = .ok (.iload_n 2, 1) := by decide +kernel
theorem dX7_change_45 : decode cX7_change 45 = .ok (.iadd, 1) := by decide +kernel
theorem dX7_change_46 : decode cX7_change 46 = .ok (.iaload, 1) := by decide +kernel
theorem dX7_change_47 : decode cX7_change 47 = .ok (.istore 4, 2) := by decide +kernel
theorem dX7_change_49 : decode cX7_change 49 = .ok (.aload_n 0, 1) := by decide +kernel
theorem dX7_change_50 : decode cX7_change 50 = .ok (.getfield 87, 3) := by decide +kernel
theorem dX7_change_53 : decode cX7_change 53 = .ok (.bipush 6, 2) := by decide +kernel
theorem dX7_change_55 : decode cX7_change 55 = .ok (.iload_n 1, 1) := by decide +kernel
theorem dX7_change_56 : decode cX7_change 56 = .ok (.imul, 1) := by decide +kernel
theorem dX7_change_57 : decode cX7_change 57 = .ok (.iload_n 2, 1) := by decide +kernel
theorem dX7_change_58 : decode cX7_change 58 = .ok (.iadd, 1) := by decide +kernel
theorem dX7_change_59 : decode cX7_change 59 = .ok (.iload_n 3, 1) := by decide +kernel
theorem dX7_change_60 : decode cX7_change 60 = .ok (.iastore, 1) := by decide +kernel
theorem dX7_change_61 : decode cX7_change 61 = .ok (.iload 4, 2) := by decide +kernel
theorem dX7_change_63 : decode cX7_change 63 = .ok (.ireturn, 1) := by decide +kernel
set_option maxRecDepth 20000 in
theorem ggX7_stain_X7_in : GoodIn wsX7_stain wsX7_in := goodIn_r _ [5] (by decide +kernel) (by decide +kernel)
set_option maxRecDepth 20000 in
theorem gX7_stain_X7_in : GoodIn wsX7_stain (va_wsS RX7 127 yX7_in wsX7_in) := goodIn_app (goodIn_of _ (by decide +kernel)) ggX7_stain_X7_in
theorem dX7_stain_0 : decode cX7_stain 0 = .ok (.iload_n 1, 1) := by decide +kernel
theorem dX7_stain_1 : decode cX7_stain 1 = .ok (.iconst 0, 1) := by decide +kernel
theorem dX7_stain_2 : decode cX7_stain 2 = .ok (.iconst 5, 1) := by decide +kernel
theorem dX7_stain_3 : decode cX7_stain 3 = .ok (.invokestatic 127, 3) := by decide +kernel
theorem dX7_stain_6 : decode cX7_stain 6 = .ok (.ifCond .eq 12, 3) := by decide +kernel
theorem dX7_stain_9 : decode cX7_stain 9 = .ok (.iload_n 2, 1) := by decide +kernel
theorem dX7_stain_10 : decode cX7_stain 10 = .ok (.iconst 0, 1) := by decide +kernel
theorem dX7_stain_11 : decode cX7_stain 11 = .ok (.iconst 3, 1) := by decide +kernel
theorem dX7_stain_12 : decode cX7_stain 12 = .ok (.invokestatic 127, 3) := by decide +kernel
theorem dX7_stain_15 : decode cX7_stain 15 = .ok (.ifCond .ne 5, 3) := by decide +kernel
theorem dX7_stain_18 : decode cX7_stain 18 = .ok (.iconst (-1), 1) := by decide +kernel
theorem dX7_stain_19 : decode cX7_stain 19 = .ok (.ireturn, 1) := by decide +kernel
theorem dX7_stain_20 : decode cX7_stain 20 = .ok (.aload_n 0, 1) := by decide +kernel
theorem dX7_stain_21 : decode cX7_stain 21 = .ok (.getfield 90, 3) := by decide +kernel
theorem dX7_stain_24 : decode cX7_stain 24 = .ok (.iload_n 1, 1) := by decide +kernel
theorem dX7_stain_25 : decode cX7_stain 25 = .ok (.iaload, 1) := by decide +kernel
theorem dX7_stain_26 : decode cX7_stain 26 = .ok (.istore_n 3, 1) := by decide +kernel
theorem dX7_stain_27 : decode cX7_stain 27 = .ok (.aload_n 0, 1) := by decide +kernel
theorem dX7_stain_28 : decode cX7_stain 28 = .ok (.getfield 90, 3) := by decide +kernel
theorem dX7_stain_31 : decode cX7_stain 31 = .ok (.iload_n 1, 1) := by decide +kernel
theorem dX7_stain_32 : decode cX7_stain 32 = .ok (.iload_n 2, 1) := by decide +kernel
theorem dX7_stain_33 : decode cX7_stain 33 = .ok (.iastore, 1) := by decide +kernel
theorem dX7_stain_34 : decode cX7_stain 34 = .ok (.iload_n 3, 1) := by decide +kernel
theorem dX7_stain_35 : decode cX7_stain 35 = .ok (.ireturn, 1) := by decide +kernel
theorem dX7_minutes_0 : decode cX7_minutes 0 = .ok (.aload_n 0, 1) := by decide +kernel
theorem dX7_minutes_1 : decode cX7_minutes 1 = .ok (.getfield 87, 3) := by decide +kernel
theorem dX7_minutes_4 : decode cX7_minutes 4 = .ok (.bipush 6, 2) := by decide +kernel
theorem dX7_minutes_6 : decode cX7_minutes 6 = .ok (.iload_n 1, 1) := by decide +kernel
theorem dX7_minutes_7 : decode cX7_minutes 7 = .ok (.imul, 1) := by decide +kernel
theorem dX7_minutes_8 : decode cX7_minutes 8 = .ok (.iload_n 2, 1) := by decide +kernel
theorem dX7_minutes_9 : decode cX7_minutes 9 = .ok (.iadd, 1) := by decide +kernel
theorem dX7_minutes_10 : decode cX7_minutes 10 = .ok (.iaload, 1) := by decide +kernel
theorem dX7_minutes_11 : decode cX7_minutes 11 = .ok (.aload_n 0, 1) := by decide +kernel
theorem dX7_minutes_12 : decode cX7_minutes 12 = .ok (.getfield 90, 3) := by decide +kernel
theorem dX7_minutes_15 : decode cX7_minutes 15 = .ok (.iload_n 1, 1) := by decide +kernel
theorem dX7_minutes_16 : decode cX7_minutes 16 = .ok (.iaload, 1) := by decide +kernel
theorem dX7_minutes_17 : decode cX7_minutes 17 = .ok (.aload_n 0, 1) := by decide +kernel
theorem dX7_minutes_18 : decode cX7_minutes 18 = .ok (.getfield 90, 3) := by decide +kernel
theorem dX7_minutes_21 : decode cX7_minutes 21 = .ok (.iload_n 2, 1) := by decide +kernel
theorem dX7_minutes_22 : decode cX7_minutes 22 = .ok (.iaload, 1) := by decide +kernel
theorem dX7_minutes_23 : decode cX7_minutes 23 = .ok (.if_icmp .le 12, 3) := by decide +kernel
theorem dX7_minutes_26 : decode cX7_minutes 26 = .ok (.aload_n 0, 1) := by decide +kernel
theorem dX7_minutes_27 : decode cX7_minutes 27 = .ok (.getfield 84, 3) := by decide +kernel
theorem dX7_minutes_30 : decode cX7_minutes 30 = .ok (.iconst 5, 1) := by decide +kernel
theorem dX7_minutes_31 : decode cX7_minutes 31 = .ok (.iaload, 1) := by decide +kernel
theorem dX7_minutes_32 : decode cX7_minutes 32 = .ok (.goto 4, 3) := by decide +kernel
theorem dX7_minutes_35 : decode cX7_minutes 35 = .ok (.iconst 0, 1) := by decide +kernel
theorem dX7_minutes_36 : decode cX7_minutes 36 = .ok (.iadd, 1) := by decide +kernel
theorem dX7_minutes_37 : decode cX7_minutes 37 = .ok (.ireturn, 1) := by decide +kernel
set_option maxRecDepth 20000 in
theorem ggX7_tour_X7_in : GoodIn wsX7_tour wsX7_in := goodIn_r _ [6] (by decide +kernel) (by decide +kernel)
set_option maxRecDepth 20000 in
theorem gX7_tour_X7_in : GoodIn wsX7_tour (va_wsS RX7 127 yX7_in wsX7_in) := goodIn_app (goodIn_of _ (by decide +kernel)) ggX7_tour_X7_in
set_option maxRecDepth 20000 in
theorem ggX7_tour_X7_minutes : GoodIn wsX7_tour wsX7_minutes := goodIn_r _ [10, 11, 12, 13, 14, 15, 16, 17, 18, 19, 20, 21, 22, 23, 24, 25, 26, 27, 28, 29, 30, 31, 32, 33, 34, 35, 36, 37, 38, 39, 40, 41, 42, 43, 44, 45, 46, 47, 48, 49, 50, 51, 52, 53, 54, 55, 56] (by decide +kernel) (by decide +kernel)
set_option maxRecDepth 20000 in
theorem gX7_tour_X7_minutes : GoodIn wsX7_tour (wsV RX7 221 RX7 yX7_minutes wsX7_minutes) := goodIn_app (goodIn_of _ (by decide +kernel)) ggX7_tour_X7_minutes
theorem dX7_tour_0 : decode cX7_tour 0 = .ok (.iload_n 1, 1) := by decide +kernel
theorem dX7_tour_1 : decode cX7_tour 1 = .ok (.iconst 1, 1) := by decide +kernel
theorem dX7_tour_2 : decode cX7_tour 2 = .ok (.bipush 63, 2) := by decide +kernel
theorem dX7_tour_4 : decode cX7_tour 4 = .ok (.invokestatic 127, 3) := by decide +kernel
theorem dX7_tour_7 : decode cX7_tour 7 = .ok (.ifCond .eq 25, 3) := by decide +kernel
theorem dX7_tour_10 : decode cX7_tour 10 = .ok (.iload_n 2, 1) := by decide +kernel
theorem dX7_tour_11 : decode cX7_tour 11 = .ok (.iconst 0, 1) := by decide +kernel
theorem dX7_tour_12 : decode cX7_tour 12 = .ok (.iconst 5, 1) := by decide +kernel
theorem dX7_tour_13 : decode cX7_tour 13 = .ok (.invokestatic 127, 3) := by decide +kernel
theorem dX7_tour_16 : decode cX7_tour 16 = .ok (.ifCond .eq 16, 3) := by decide +kernel
theorem dX7_tour_19 : decode cX7_tour 19 = .ok (.iload_n 1, 1) := by decide +kernel
theorem dX7_tour_20 : decode cX7_tour 20 = .ok (.iload_n 2, 1) := by decide +kernel
theorem dX7_tour_21 : decode cX7_tour 21 = .ok (.ishr, 1) := by decide +kernel
theorem dX7_tour_22 : decode cX7_tour 22 = .ok (.iconst 1, 1) := by decide +kernel
theorem dX7_tour_23 : decode cX7_tour 23 = .ok (.iand, 1) := by decide +kernel
theorem dX7_tour_24 : decode cX7_tour 24 = .ok (.ifCond .eq 8, 3) := by decide +kernel
theorem dX7_tour_27 : decode cX7_tour 27 = .ok (.iload_n 3, 1) := by decide +kernel
theorem dX7_tour_28 : decode cX7_tour 28 = .ok (.iconst (-1), 1) := by decide +kernel
theorem dX7_tour_29 : decode cX7_tour 29 = .ok (.if_icmp .ge 5, 3) := by decide +kernel
theorem dX7_tour_32 : decode cX7_tour 32 = .ok (.iconst (-1), 1) := by decide +kernel
theorem dX7_tour_33 : decode cX7_tour 33 = .ok (.ireturn, 1) := by decide +kernel
theorem dX7_tour_34 : decode cX7_tour 34 = .ok (.iconst 0, 1) := by decide +kernel
theorem dX7_tour_35 : decode cX7_tour 35 = .ok (.istore 4, 2) := by decide +kernel
theorem dX7_tour_37 : decode cX7_tour 37 = .ok (.iload 4, 2) := by decide +kernel
theorem dX7_tour_39 : decode cX7_tour 39 = .ok (.bipush 64, 2) := by decide +kernel
theorem dX7_tour_41 : decode cX7_tour 41 = .ok (.if_icmp .ge 127, 3) := by decide +kernel
theorem dX7_tour_44 : decode cX7_tour 44 = .ok (.iconst 0, 1) := by decide +kernel
theorem dX7_tour_45 : decode cX7_tour 45 = .ok (.istore 5, 2) := by decide +kernel
theorem dX7_tour_47 : decode cX7_tour 47 = .ok (.iload 5, 2) := by decide +kernel
theorem dX7_tour_49 : decode cX7_tour 49 = .ok (.bipush 6, 2) := by decide +kernel
theorem dX7_tour_51 : decode cX7_tour 51 = .ok (.if_icmp .ge 111, 3) := by decide +kernel
theorem dX7_tour_54 : decode cX7_tour 54 = .ok (.iload 4, 2) := by decide +kernel
theorem dX7_tour_56 : decode cX7_tour 56 = .ok (.ifCond .ne 7, 3) := by decide +kernel
theorem dX7_tour_59 : decode cX7_tour 59 = .ok (.iconst 0, 1) := by decide +kernel
theorem dX7_tour_60 : decode cX7_tour 60 = .ok (.goto 5, 3) := by decide +kernel
theorem dX7_tour_63 : decode cX7_tour 63 = .ok (.ldc 220, 2) := by decide +kernel
theorem dX7_tour_65 : decode cX7_tour 65 = .ok (.istore 6, 2) := by decide +kernel
theorem dX7_tour_67 : decode cX7_tour 67 = .ok (.iconst 0, 1) := by decide +kernel
theorem dX7_tour_68 : decode cX7_tour 68 = .ok (.istore 7, 2) := by decide +kernel
theorem dX7_tour_70 : decode cX7_tour 70 = .ok (.iload 7, 2) := by decide +kernel
theorem dX7_tour_72 : decode cX7_tour 72 = .ok (.bipush 6, 2) := by decide +kernel
theorem dX7_tour_74 : decode cX7_tour 74 = .ok (.if_icmp .ge 67, 3) := by decide +kernel
theorem dX7_tour_77 : decode cX7_tour 77 = .ok (.iload 4, 2) := by decide +kernel
theorem dX7_tour_79 : decode cX7_tour 79 = .ok (.iload 7, 2) := by decide +kernel
theorem dX7_tour_81 : decode cX7_tour 81 = .ok (.ishr, 1) := by decide +kernel
theorem dX7_tour_82 : decode cX7_tour 82 = .ok (.iconst 1, 1) := by decide +kernel
theorem dX7_tour_83 : decode cX7_tour 83 = .ok (.iand, 1) := by decide +kernel
theorem dX7_tour_84 : decode cX7_tour 84 = .ok (.iconst 1, 1) := by decide +kernel
theorem dX7_tour_85 : decode cX7_tour 85 = .ok (.if_icmp .ne 50, 3) := by decide +kernel
theorem dX7_tour_88 : decode cX7_tour 88 = .ok (.aload_n 0, 1) := by decide +kernel
theorem dX7_tour_89 : decode cX7_tour 89 = .ok (.iload 5, 2) := by decide +kernel
theorem dX7_tour_91 : decode cX7_tour 91 = .ok (.iload 7, 2) := by decide +kernel
theorem dX7_tour_93 : decode cX7_tour 93 = .ok (.invokevirtual 221, 3) := by decide +kernel
theorem dX7_tour_96 : decode cX7_tour 96 = .ok (.aload_n 0, 1) := by decide +kernel
theorem dX7_tour_97 : decode cX7_tour 97 = .ok (.getfield 102, 3) := by decide +kernel
theorem dX7_tour_100 : decode cX7_tour 100 = .ok (.bipush 64, 2) := by decide +kernel
theorem dX7_tour_102 : decode cX7_tour 102 = .ok (.iload 7, 2) := by decide +kernel
theorem dX7_tour_104 : decode cX7_tour 104 = .ok (.imul, 1) := by decide +kernel
theorem dX7_tour_105 : decode cX7_tour 105 = .ok (.iload 4, 2) := by decide +kernel
theorem dX7_tour_107 : decode cX7_tour 107 = .ok (.iconst 1, 1) := by decide +kernel
theorem dX7_tour_108 : decode cX7_tour 108 = .ok (.iload 7, 2) := by decide +kernel
theorem dX7_tour_110 : decode cX7_tour 110 = .ok (.ishl, 1) := by decide +kernel
theorem dX7_tour_111 : decode cX7_tour 111 = .ok (.iconst (-1), 1) := by decide +kernel
theorem dX7_tour_112 : decode cX7_tour 112 = .ok (.ixor, 1) := by decide +kernel
theorem dX7_tour_113 : decode cX7_tour 113 = .ok (.iand, 1) := by decide +kernel
theorem dX7_tour_114 : decode cX7_tour 114 = .ok (.iadd, 1) := by decide +kernel
theorem dX7_tour_115 : decode cX7_tour 115 = .ok (.iaload, 1) := by decide +kernel
theorem dX7_tour_116 : decode cX7_tour 116 = .ok (.iadd, 1) := by decide +kernel
theorem dX7_tour_117 : decode cX7_tour 117 = .ok (.istore 8, 2) := by decide +kernel
theorem dX7_tour_119 : decode cX7_tour 119 = .ok (.iload 8, 2) := by decide +kernel
theorem dX7_tour_121 : decode cX7_tour 121 = .ok (.iload 6, 2) := by decide +kernel
theorem dX7_tour_123 : decode cX7_tour 123 = .ok (.if_icmp .ge 8, 3) := by decide +kernel
theorem dX7_tour_126 : decode cX7_tour 126 = .ok (.iload 8, 2) := by decide +kernel
theorem dX7_tour_128 : decode cX7_tour 128 = .ok (.goto 5, 3) := by decide +kernel
theorem dX7_tour_131 : decode cX7_tour 131 = .ok (.iload 6, 2) := by decide +kernel
theorem dX7_tour_133 : decode cX7_tour 133 = .ok (.istore 6, 2) := by decide +kernel
theorem dX7_tour_135 : decode cX7_tour 135 = .ok (.iinc 7 1, 3) := by decide +kernel
theorem dX7_tour_138 : decode cX7_tour 138 = .ok (.goto (-68), 3) := by decide +kernel
theorem dX7_tour_141 : decode cX7_tour 141 = .ok (.aload_n 0, 1) := by decide +kernel
theorem dX7_tour_142 : decode cX7_tour 142 = .ok (.getfield 102, 3) := by decide +kernel
theorem dX7_tour_145 : decode cX7_tour 145 = .ok (.bipush 64, 2) := by decide +kernel
theorem dX7_tour_147 : decode cX7_tour 147 = .ok (.iload 5, 2) := by decide +kernel
theorem dX7_tour_149 : decode cX7_tour 149 = .ok (.imul, 1) := by decide +kernel
theorem dX7_tour_150 : decode cX7_tour 150 = .ok (.iload 4, 2) := by decide +kernel
theorem dX7_tour_152 : decode cX7_tour 152 = .ok (.iadd, 1) := by decide +kernel
theorem dX7_tour_153 : decode cX7_tour 153 = .ok (.iload 6, 2) := by decide +kernel
theorem dX7_tour_155 : decode cX7_tour 155 = .ok (.iastore, 1) := by decide +kernel
theorem dX7_tour_156 : decode cX7_tour 156 = .ok (.iinc 5 1, 3) := by decide +kernel
theorem dX7_tour_159 : decode cX7_tour 159 = .ok (.goto (-112), 3) := by decide +kernel
theorem dX7_tour_162 : decode cX7_tour 162 = .ok (.iinc 4 1, 3) := by decide +kernel
theorem dX7_tour_165 : decode cX7_tour 165 = .ok (.goto (-128), 3) := by decide +kernel
theorem dX7_tour_168 : decode cX7_tour 168 = .ok (.iload_n 1, 1) := by decide +kernel
theorem dX7_tour_169 : decode cX7_tour 169 = .ok (.iconst 1, 1) := by decide +kernel
theorem dX7_tour_170 : decode cX7_tour 170 = .ok (.iload_n 2, 1) := by decide +kernel
theorem dX7_tour_171 : decode cX7_tour 171 = .ok (.ishl, 1) := by decide +kernel
theorem dX7_tour_172 : decode cX7_tour 172 = .ok (.iconst (-1), 1) := by decide +kernel
theorem dX7_tour_173 : decode cX7_tour 173 = .ok (.ixor, 1) := by decide +kernel
theorem dX7_tour_174 : decode cX7_tour 174 = .ok (.iand, 1) := by decide +kernel
theorem dX7_tour_175 : decode cX7_tour 175 = .ok (.istore 4, 2) := by decide +kernel
theorem dX7_tour_177 : decode cX7_tour 177 = .ok (.iload_n 2, 1) := by decide +kernel
theorem dX7_tour_178 : decode cX7_tour 178 = .ok (.istore 5, 2) := by decide +kernel
theorem dX7_tour_180 : decode cX7_tour 180 = .ok (.iload_n 3, 1) := by decide +kernel
theorem dX7_tour_181 : decode cX7_tour 181 = .ok (.ifCond .ge 17, 3) := by decide +kernel
theorem dX7_tour_184 : decode cX7_tour 184 = .ok (.aload_n 0, 1) := by decide +kernel
theorem dX7_tour_185 : decode cX7_tour 185 = .ok (.getfield 102, 3) := by decide +kernel
theorem dX7_tour_188 : decode cX7_tour 188 = .ok (.bipush 64, 2) := by decide +kernel
theorem dX7_tour_190 : decode cX7_tour 190 = .ok (.iload 5, 2) := by decide +kernel
theorem dX7_tour_192 : decode cX7_tour 192 = .ok (.imul, 1) := by decide +kernel
theorem dX7_tour_193 : decode cX7_tour 193 = .ok (.iload 4, 2) := by decide +kernel
theorem dX7_tour_195 : decode cX7_tour 195 = .ok (.iadd, 1) := by decide +kernel
theorem dX7_tour_196 : decode cX7_tour 196 = .ok (.iaload, 1) := by decide +kernel
theorem dX7_tour_197 : decode cX7_tour 197 = .ok (.ireturn, 1) := by decide +kernel
theorem dX7_tour_198 : decode cX7_tour 198 = .ok (.iconst 0, 1) := by decide +kernel
theorem dX7_tour_199 : decode cX7_tour 199 = .ok (.istore 6, 2) := by decide +kernel
theorem dX7_tour_201 : decode cX7_tour 201 = .ok (.iload 6, 2) := by decide +kernel
theorem dX7_tour_203 : decode cX7_tour 203 = .ok (.iload_n 3, 1) := by decide +kernel
theorem dX7_tour_204 : decode cX7_tour 204 = .ok (.if_icmp .ge 96, 3) := by decide +kernel
theorem dX7_tour_207 : decode cX7_tour 207 = .ok (.iload 4, 2) := by decide +kernel
theorem dX7_tour_209 : decode cX7_tour 209 = .ok (.ifCond .ne 6, 3) := by decide +kernel
theorem dX7_tour_212 : decode cX7_tour 212 = .ok (.bipush (-4), 2) := by decide +kernel
theorem dX7_tour_214 : decode cX7_tour 214 = .ok (.ireturn, 1) := by decide +kernel
theorem dX7_tour_215 : decode cX7_tour 215 = .ok (.iconst 0, 1) := by decide +kernel
theorem dX7_tour_216 : decode cX7_tour 216 = .ok (.istore 7, 2) := by decide +kernel
theorem dX7_tour_218 : decode cX7_tour 218 = .ok (.iload 4, 2) := by decide +kernel
theorem dX7_tour_220 : decode cX7_tour 220 = .ok (.iload 7, 2) := by decide +kernel
theorem dX7_tour_222 : decode cX7_tour 222 = .ok (.ishr, 1) := by decide +kernel
theorem dX7_tour_223 : decode cX7_tour 223 = .ok (.iconst 1, 1) := by decide +kernel
theorem dX7_tour_224 : decode cX7_tour 224 = .ok (.iand, 1) := by decide +kernel
theorem dX7_tour_225 : decode cX7_tour 225 = .ok (.ifCond .eq 48, 3) := by decide +kernel
theorem dX7_tour_228 : decode cX7_tour 228 = .ok (.aload_n 0, 1) := by decide +kernel
theorem dX7_tour_229 : decode cX7_tour 229 = .ok (.iload 5, 2) := by decide +kernel
theorem dX7_tour_231 : decode cX7_tour 231 = .ok (.iload 7, 2) := by decide +kernel
theorem dX7_tour_233 : decode cX7_tour 233 = .ok (.invokevirtual 221, 3) := by decide +kernel
theorem dX7_tour_236 : decode cX7_tour 236 = .ok (.aload_n 0, 1) := by decide +kernel
theorem dX7_tour_237 : decode cX7_tour 237 = .ok (.getfield 102, 3) := by decide +kernel
theorem dX7_tour_240 : decode cX7_tour 240 = .ok (.bipush 64, 2) := by decide +kernel
theorem dX7_tour_242 : decode cX7_tour 242 = .ok (.iload 7, 2) := by decide +kernel
theorem dX7_tour_244 : decode cX7_tour 244 = .ok (.imul, 1) := by decide +kernel
theorem dX7_tour_245 : decode cX7_tour 245 = .ok (.iload 4, 2) := by decide +kernel
theorem dX7_tour_247 : decode cX7_tour 247 = .ok (.iconst 1, 1) := by decide +kernel
theorem dX7_tour_248 : decode cX7_tour 248 = .ok (.iload 7, 2) := by decide +kernel
theorem dX7_tour_250 : decode cX7_tour 250 = .ok (.ishl, 1) := by decide +kernel
theorem dX7_tour_251 : decode cX7_tour 251 = .ok (.iconst (-1), 1) := by decide +kernel
theorem dX7_tour_252 : decode cX7_tour 252 = .ok (.ixor, 1) := by decide +kernel
theorem dX7_tour_253 : decode cX7_tour 253 = .ok (.iand, 1) := by decide +kernel
theorem dX7_tour_254 : decode cX7_tour 254 = .ok (.iadd, 1) := by decide +kernel
theorem dX7_tour_255 : decode cX7_tour 255 = .ok (.iaload, 1) := by decide +kernel
theorem dX7_tour_256 : decode cX7_tour 256 = .ok (.iadd, 1) := by decide +kernel
theorem dX7_tour_257 : decode cX7_tour 257 = .ok (.aload_n 0, 1) := by decide +kernel
theorem dX7_tour_258 : decode cX7_tour 258 = .ok (.getfield 102, 3) := by decide +kernel
theorem dX7_tour_261 : decode cX7_tour 261 = .ok (.bipush 64, 2) := by decide +kernel
theorem dX7_tour_263 : decode cX7_tour 263 = .ok (.iload 5, 2) := by decide +kernel
theorem dX7_tour_265 : decode cX7_tour 265 = .ok (.imul, 1) := by decide +kernel
theorem dX7_tour_266 : decode cX7_tour 266 = .ok (.iload 4, 2) := by decide +kernel
theorem dX7_tour_268 : decode cX7_tour 268 = .ok (.iadd, 1) := by decide +kernel
theorem dX7_tour_269 : decode cX7_tour 269 = .ok (.iaload, 1) := by decide +kernel
theorem dX7_tour_270 : decode cX7_tour 270 = .ok (.if_icmp .eq 9, 3) := by decide +kernel
theorem dX7_tour_273 : decode cX7_tour 273 = .ok (.iinc 7 1, 3) := by decide +kernel
theorem dX7_tour_276 : decode cX7_tour 276 = .ok (.goto (-58), 3) := by decide +kernel
theorem dX7_tour_279 : decode cX7_tour 279 = .ok (.iload 4, 2) := by decide +kernel
theorem dX7_tour_281 : decode cX7_tour 281 = .ok (.iconst 1, 1) := by decide +kernel
theorem dX7_tour_282 : decode cX7_tour 282 = .ok (.iload 7, 2) := by decide +kernel
theorem dX7_tour_284 : decode cX7_tour 284 = .ok (.ishl, 1) := by decide +kernel
theorem dX7_tour_285 : decode cX7_tour 285 = .ok (.iconst (-1), 1) := by decide +kernel
theorem dX7_tour_286 : decode cX7_tour 286 = .ok (.ixor, 1) := by decide +kernel
theorem dX7_tour_287 : decode cX7_tour 287 = .ok (.iand, 1) := by decide +kernel
theorem dX7_tour_288 : decode cX7_tour 288 = .ok (.istore 4, 2) := by decide +kernel
theorem dX7_tour_290 : decode cX7_tour 290 = .ok (.iload 7, 2) := by decide +kernel
theorem dX7_tour_292 : decode cX7_tour 292 = .ok (.istore 5, 2) := by decide +kernel
theorem dX7_tour_294 : decode cX7_tour 294 = .ok (.iinc 6 1, 3) := by decide +kernel
theorem dX7_tour_297 : decode cX7_tour 297 = .ok (.goto (-96), 3) := by decide +kernel
theorem dX7_tour_300 : decode cX7_tour 300 = .ok (.iload 5, 2) := by decide +kernel
theorem dX7_tour_302 : decode cX7_tour 302 = .ok (.ireturn, 1) := by decide +kernel
set_option maxRecDepth 20000 in
theorem ggX7_scale_X7_isCode : GoodIn wsX7_scale wsX7_isCode := goodIn_r _ [6, 7, 8, 9, 5, 10, 11, 12, 13, 14, 15, 16, 17, 18, 19, 20, 21, 22, 23, 24, 25, 26, 27, 28, 29, 30, 31, 32, 33, 34, 35, 36, 37, 38, 39, 40, 41, 42, 43, 44, 45, 46, 47, 48, 49, 50, 51, 52, 53] (by decide +kernel) (by decide +kernel)
set_option maxRecDepth 20000 in
theorem gX7_scale_X7_isCode : GoodIn wsX7_scale (wsV RX7 167 RX7 yX7_isCode wsX7_isCode) := goodIn_app (goodIn_of _ (by decide +kernel)) ggX7_scale_X7_isCode
set_option maxRecDepth 20000 in
theorem ggX7_scale_X7_in : GoodIn wsX7_scale wsX7_in := goodIn_r _ [10] (by decide +kernel) (by decide +kernel)
set_option maxRecDepth 20000 in
theorem gX7_scale_X7_in : GoodIn wsX7_scale (va_wsS RX7 127 yX7_in wsX7_in) := goodIn_app (goodIn_of _ (by decide +kernel)) ggX7_scale_X7_in
theorem dX7_scale_0 : decode cX7_scale 0 = .ok (.aload_n 0, 1) := by decide +kernel
theorem dX7_scale_1 : decode cX7_scale 1 = .ok (.iload_n 1, 1) := by decide +kernel
theorem dX7_scale_2 : decode cX7_scale 2 = .ok (.invokevirtual 167, 3) := by decide +kernel
theorem dX7_scale_5 : decode cX7_scale 5 = .ok (.ifCond .eq 14, 3) := by decide +kernel
theorem dX7_scale_8 : decode cX7_scale 8 = .ok (.iload_n 2, 1) := by decide +kernel
theorem dX7_scale_9 : decode cX7_scale 9 = .ok (.iconst 0, 1) := by decide +kernel
theorem dX7_scale_10 : decode cX7_scale 10 = .ok (.sipush 10000, 3) := by decide +kernel
theorem dX7_scale_13 : decode cX7_scale 13 = .ok (.invokestatic 127, 3) := by decide +kernel
theorem dX7_scale_16 : decode cX7_scale 16 = .ok (.ifCond .ne 5, 3) := by decide +kernel
theorem dX7_scale_19 : decode cX7_scale 19 = .ok (.iconst (-1), 1) := by decide +kernel
theorem dX7_scale_20 : decode cX7_scale 20 = .ok (.ireturn, 1) := by decide +kernel
theorem dX7_scale_21 : decode cX7_scale 21 = .ok (.aload_n 0, 1) := by decide +kernel
theorem dX7_scale_22 : decode cX7_scale 22 = .ok (.getfield 71, 3) := by decide +kernel
theorem dX7_scale_25 : decode cX7_scale 25 = .ok (.iload_n 1, 1) := by decide +kernel
theorem dX7_scale_26 : decode cX7_scale 26 = .ok (.iaload, 1) := by decide +kernel
theorem dX7_scale_27 : decode cX7_scale 27 = .ok (.istore_n 3, 1) := by decide +kernel
theorem dX7_scale_28 : decode cX7_scale 28 = .ok (.aload_n 0, 1) := by decide +kernel
theorem dX7_scale_29 : decode cX7_scale 29 = .ok (.getfield 71, 3) := by decide +kernel
theorem dX7_scale_32 : decode cX7_scale 32 = .ok (.iload_n 1, 1) := by decide +kernel
theorem dX7_scale_33 : decode cX7_scale 33 = .ok (.iload_n 2, 1) := by decide +kernel
theorem dX7_scale_34 : decode cX7_scale 34 = .ok (.iastore, 1) := by decide +kernel
theorem dX7_scale_35 : decode cX7_scale 35 = .ok (.iload_n 3, 1) := by decide +kernel
theorem dX7_scale_36 : decode cX7_scale 36 = .ok (.ireturn, 1) := by decide +kernel
set_option maxRecDepth 20000 in
theorem ggX7_scales_X7_in : GoodIn wsX7_scales wsX7_in := goodIn_r _ [7] (by decide +kernel) (by decide +kernel)
set_option maxRecDepth 20000 in
theorem gX7_scales_X7_in : GoodIn wsX7_scales (va_wsS RX7 127 yX7_in wsX7_in) := goodIn_app (goodIn_of _ (by decide +kernel)) ggX7_scales_X7_in
theorem dX7_scales_0 : decode cX7_scales 0 = .ok (.iload_n 1, 1) := by decide +kernel
theorem dX7_scales_1 : decode cX7_scales 1 = .ok (.iconst 0, 1) := by decide +kernel
theorem dX7_scales_2 : decode cX7_scales 2 = .ok (.iconst 2, 1) := by decide +kernel
theorem dX7_scales_3 : decode cX7_scales 3 = .ok (.invokestatic 127, 3) := by decide +kernel
theorem dX7_scales_6 : decode cX7_scales 6 = .ok (.ifCond .ne 5, 3) := by decide +kernel
theorem dX7_scales_9 : decode cX7_scales 9 = .ok (.iconst (-1), 1) := by decide +kernel
theorem dX7_scales_10 : decode cX7_scales 10 = .ok (.ireturn, 1) := by decide +kernel
theorem dX7_scales_11 : decode cX7_scales 11 = .ok (.iconst 0, 1) := by decide +kernel
theorem dX7_scales_12 : decode cX7_scales 12 = .ok (.istore_n 2, 1) := by decide +kernel
theorem dX7_scales_13 : decode cX7_scales 13 = .ok (.iconst 0, 1) := by decide +kernel
theorem dX7_scales_14 : decode cX7_scales 14 = .ok (.istore_n 3, 1) := by decide +kernel
theorem dX7_scales_15 : decode cX7_scales 15 = .ok (.iconst 0, 1) := by decide +kernel
theorem dX7_scales_16 : decode cX7_scales 16 = .ok (.istore 4, 2) := by decide +kernel
theorem dX7_scales_18 : decode cX7_scales 18 = .ok (.iconst 0, 1) := by decide +kernel
theorem dX7_scales_19 : decode cX7_scales 19 = .ok (.istore 5, 2) := by decide +kernel
theorem dX7_scales_21 : decode cX7_scales 21 = .ok (.iload 5, 2) := by decide +kernel
theorem dX7_scales_23 : decode cX7_scales 23 = .ok (.aload_n 0, 1) := by decide +kernel
theorem dX7_scales_24 : decode cX7_scales 24 = .ok (.getfield 139, 3) := by decide +kernel
theorem dX7_scales_27 : decode cX7_scales 27 = .ok (.if_icmp .ge 90, 3) := by decide +kernel
theorem dX7_scales_30 : decode cX7_scales 30 = .ok (.aload_n 0, 1) := by decide +kernel
theorem dX7_scales_31 : decode cX7_scales 31 = .ok (.getfield 71, 3) := by decide +kernel
theorem dX7_scales_34 : decode cX7_scales 34 = .ok (.iload 5, 2) := by decide +kernel
theorem dX7_scales_36 : decode cX7_scales 36 = .ok (.iaload, 1) := by decide +kernel
theorem dX7_scales_37 : decode cX7_scales 37 = .ok (.ifCond .lt 74, 3) := by decide +kernel
theorem dX7_scales_40 : decode cX7_scales 40 = .ok (.iload_n 2, 1) := by decide +kernel
theorem dX7_scales_41 : decode cX7_scales 41 = .ok (.aload_n 0, 1) := by decide +kernel
theorem dX7_scales_42 : decode cX7_scales 42 = .ok (.getfield 71, 3) := by decide +kernel
theorem dX7_scales_45 : decode cX7_scales 45 = .ok (.iload 5, 2) := by decide +kernel
theorem dX7_scales_47 : decode cX7_scales 47 = .ok (.iaload, 1) := by decide +kernel
theorem dX7_scales_48 : decode cX7_scales 48 = .ok (.aload_n 0, 1) := by decide +kernel
theorem dX7_scales_49 : decode cX7_scales 49 = .ok (.getfield 84, 3) := by decide +kernel
theorem dX7_scales_52 : decode cX7_scales 52 = .ok (.iconst 2, 1) := by decide +kernel
theorem dX7_scales_53 : decode cX7_scales 53 = .ok (.iaload, 1) := by decide +kernel
theorem dX7_scales_54 : decode cX7_scales 54 = .ok (.if_icmp .le 20, 3) := by decide +kernel
theorem dX7_scales_57 : decode cX7_scales 57 = .ok (.aload_n 0, 1) := by decide +kernel
theorem dX7_scales_58 : decode cX7_scales 58 = .ok (.getfield 71, 3) := by decide +kernel
theorem dX7_scales_61 : decode cX7_scales 61 = .ok (.iload 5, 2) := by decide +kernel
theorem dX7_scales_63 : decode cX7_scales 63 = .ok (.iaload, 1) := by decide +kernel
theorem dX7_scales_64 : decode cX7_scales 64 = .ok (.aload_n 0, 1) := by decide +kernel
theorem dX7_scales_65 : decode cX7_scales 65 = .ok (.getfield 84, 3) := by decide +kernel
theorem dX7_scales_68 : decode cX7_scales 68 = .ok (.iconst 2, 1) := by decide +kernel
theorem dX7_scales_69 : decode cX7_scales 69 = .ok (.iaload, 1) := by decide +kernel
theorem dX7_scales_70 : decode cX7_scales 70 = .ok (.isub, 1) := by decide +kernel
theorem dX7_scales_71 : decode cX7_scales 71 = .ok (.goto 4, 3) := by decide +kernel
theorem dX7_scales_74 : decode cX7_scales 74 = .ok (.iconst 0, 1) := by decide +kernel
theorem dX7_scales_75 : decode cX7_scales 75 = .ok (.iadd, 1) := by decide +kernel
theorem dX7_scales_76 : decode cX7_scales 76 = .ok (.istore_n 2, 1) := by decide +kernel
theorem dX7_scales_77 : decode cX7_scales 77 = .ok (.iload_n 3, 1) := by decide +kernel
theorem dX7_scales_78 : decode cX7_scales 78 = .ok (.aload_n 0, 1) := by decide +kernel
theorem dX7_scales_79 : decode cX7_scales 79 = .ok (.getfield 71, 3) := by decide +kernel
theorem dX7_scales_82 : decode cX7_scales 82 = .ok (.iload 5, 2) := by decide +kernel
theorem dX7_scales_84 : decode cX7_scales 84 = .ok (.iaload, 1) := by decide +kernel
theorem dX7_scales_85 : decode cX7_scales 85 = .ok (.aload_n 0, 1) := by decide +kernel
theorem dX7_scales_86 : decode cX7_scales 86 = .ok (.getfield 84, 3) := by decide +kernel
theorem dX7_scales_89 : decode cX7_scales 89 = .ok (.iconst 2, 1) := by decide +kernel
theorem dX7_scales_90 : decode cX7_scales 90 = .ok (.iaload, 1) := by decide +kernel
theorem dX7_scales_91 : decode cX7_scales 91 = .ok (.aload_n 0, 1) := by decide +kernel
theorem dX7_scales_92 : decode cX7_scales 92 = .ok (.getfield 84, 3) := by decide +kernel
theorem dX7_scales_95 : decode cX7_scales 95 = .ok (.iconst 4, 1) := by decide +kernel
theorem dX7_scales_96 : decode cX7_scales 96 = .ok (.iaload, 1) := by decide +kernel
theorem dX7_scales_97 : decode cX7_scales 97 = .ok (.isub, 1) := by decide +kernel
theorem dX7_scales_98 : decode cX7_scales 98 = .ok (.if_icmp .ge 7, 3) := by decide +kernel
theorem dX7_scales_101 : decode cX7_scales 101 = .ok (.iconst 1, 1) := by decide +kernel
theorem dX7_scales_102 : decode cX7_scales 102 = .ok (.goto 4, 3) := by decide +kernel
theorem dX7_scales_105 : decode cX7_scales 105 = .ok (.iconst 0, 1) := by decide +kernel
theorem dX7_scales_106 : decode cX7_scales 106 = .ok (.iadd, 1) := by decide +kernel
theorem dX7_scales_107 : decode cX7_scales 107 = .ok (.istore_n 3, 1) := by decide +kernel
theorem dX7_scales_108 : decode cX7_scales 108 = .ok (.iinc 4 1, 3) := by decide +kernel
theorem dX7_scales_111 : decode cX7_scales 111 = .ok (.iinc 5 1, 3) := by decide +kernel
theorem dX7_scales_114 : decode cX7_scales 114 = .ok (.goto (-93), 3) := by decide +kernel
theorem dX7_scales_117 : decode cX7_scales 117 = .ok (.iload_n 1, 1) := by decide +kernel
theorem dX7_scales_118 : decode cX7_scales 118 = .ok (.ifCond .ne 7, 3) := by decide +kernel
theorem dX7_scales_121 : decode cX7_scales 121 = .ok (.iload_n 2, 1) := by decide +kernel
theorem dX7_scales_122 : decode cX7_scales 122 = .ok (.goto 14, 3) := by decide +kernel
theorem dX7_scales_125 : decode cX7_scales 125 = .ok (.iload_n 1, 1) := by decide +kernel
theorem dX7_scales_126 : decode cX7_scales 126 = .ok (.iconst 1, 1) := by decide +kernel
theorem dX7_scales_127 : decode cX7_scales 127 = .ok (.if_icmp .ne 7, 3) := by decide +kernel
theorem dX7_scales_130 : decode cX7_scales 130 = .ok (.iload_n 3, 1) := by decide +kernel
theorem dX7_scales_131 : decode cX7_scales 131 = .ok (.goto 5, 3) := by decide +kernel
theorem dX7_scales_134 : decode cX7_scales 134 = .ok (.iload 4, 2) := by decide +kernel
theorem dX7_scales_136 : decode cX7_scales 136 = .ok (.ireturn, 1) := by decide +kernel
