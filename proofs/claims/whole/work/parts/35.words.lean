/-! THE TABLES' WORDS of the law: by its lists -/
set_option maxRecDepth 100000 in
theorem wl_r1 : GoodIn lw_tbl wsL_law_r1 := goodIn_p wsL_law_r1 [66, 69] rfl (by decide +kernel)
set_option maxRecDepth 100000 in
theorem wl_r2 : GoodIn lw_tbl wsL_law_r2 := goodIn_p wsL_law_r2 [74] rfl (by decide +kernel)
set_option maxRecDepth 100000 in
theorem wl_r3 : GoodIn lw_tbl wsL_law_r3 := goodIn_p wsL_law_r3 [82, 101, 106] rfl (by decide +kernel)
set_option maxRecDepth 100000 in
theorem wl_r4 : GoodIn lw_tbl wsL_law_r4 := goodIn_p wsL_law_r4 [211] rfl (by decide +kernel)
set_option maxRecDepth 100000 in
theorem wl_r5 : GoodIn lw_tbl wsL_law_r5 := goodIn_p wsL_law_r5 [215, 255, 299, 832] rfl (by decide +kernel)
set_option maxRecDepth 100000 in
theorem wl_r6 : GoodIn lw_tbl wsL_law_r6 := goodIn_p wsL_law_r6 [] rfl (by decide +kernel)
set_option maxRecDepth 100000 in
theorem wl_r7 : GoodIn lw_tbl wsL_law_r7 := goodIn_p wsL_law_r7 [837, 349, 352] rfl (by decide +kernel)
set_option maxRecDepth 100000 in
theorem wl_r8 : GoodIn lw_tbl wsL_law_r8 := goodIn_p wsL_law_r8 [356, 361, 971, 974] rfl (by decide +kernel)
set_option maxRecDepth 100000 in
theorem wl_r9 : GoodIn lw_tbl wsL_law_r9 := goodIn_p wsL_law_r9 [366, 370, 374, 383, 387] rfl (by decide +kernel)
set_option maxRecDepth 100000 in
theorem wl_r10 : GoodIn lw_tbl wsL_law_r10 := goodIn_p wsL_law_r10 [978, 982, 392, 396, 986] rfl (by decide +kernel)
set_option maxRecDepth 100000 in
theorem wl_r11 : GoodIn lw_tbl wsL_law_r11 := goodIn_p wsL_law_r11 [400, 990, 405, 995, 409] rfl (by decide +kernel)
set_option maxRecDepth 100000 in
theorem wl_r12 : GoodIn lw_tbl wsL_law_r12 := goodIn_p wsL_law_r12 [413, 417, 422, 426] rfl (by decide +kernel)
set_option maxRecDepth 100000 in
theorem wl_r13 : GoodIn lw_tbl wsL_law_r13 := goodIn_p wsL_law_r13 [431, 435, 439, 443, 447, 451] rfl (by decide +kernel)
set_option maxRecDepth 100000 in
theorem wl_r14 : GoodIn lw_tbl wsL_law_r14 := goodIn_p wsL_law_r14 [455, 459, 464, 469, 999] rfl (by decide +kernel)
set_option maxRecDepth 100000 in
theorem wl_r15 : GoodIn lw_tbl wsL_law_r15 := goodIn_p wsL_law_r15 [1003, 1007, 1011, 1015, 1019, 473] rfl (by decide +kernel)
set_option maxRecDepth 100000 in
theorem wl_r16 : GoodIn lw_tbl wsL_law_r16 := goodIn_p wsL_law_r16 [1023, 477, 481, 1027, 485] rfl (by decide +kernel)
set_option maxRecDepth 100000 in
theorem wl_r17 : GoodIn lw_tbl wsL_law_r17 := goodIn_p wsL_law_r17 [1031, 489, 493, 497] rfl (by decide +kernel)
set_option maxRecDepth 100000 in
theorem wl_r18 : GoodIn lw_tbl wsL_law_r18 := goodIn_p wsL_law_r18 [501, 1035, 506, 514, 517] rfl (by decide +kernel)
set_option maxRecDepth 100000 in
theorem wl_r19 : GoodIn lw_tbl wsL_law_r19 := goodIn_p wsL_law_r19 [521, 1039, 1043, 1047, 525, 528, 532] rfl (by decide +kernel)
set_option maxRecDepth 100000 in
theorem wl_r20 : GoodIn lw_tbl wsL_law_r20 := goodIn_p wsL_law_r20 [536, 1051, 1054, 1058, 541, 545] rfl (by decide +kernel)
set_option maxRecDepth 100000 in
theorem wl_r21 : GoodIn lw_tbl wsL_law_r21 := goodIn_p wsL_law_r21 [1062, 549, 553, 557, 561, 565] rfl (by decide +kernel)
set_option maxRecDepth 100000 in
theorem wl_r22 : GoodIn lw_tbl wsL_law_r22 := goodIn_p wsL_law_r22 [569, 1066, 1071, 1075, 573, 576] rfl (by decide +kernel)
set_option maxRecDepth 100000 in
theorem wl_r23 : GoodIn lw_tbl wsL_law_r23 := goodIn_p wsL_law_r23 [580, 1079, 1082, 584, 588, 1086] rfl (by decide +kernel)
set_option maxRecDepth 100000 in
theorem wl_r24 : GoodIn lw_tbl wsL_law_r24 := goodIn_p wsL_law_r24 [592, 596, 600, 1090, 604] rfl (by decide +kernel)
set_option maxRecDepth 100000 in
theorem wl_r25 : GoodIn lw_tbl wsL_law_r25 := goodIn_p wsL_law_r25 [609, 1094, 614, 1098, 620] rfl (by decide +kernel)
set_option maxRecDepth 100000 in
theorem wl_r26 : GoodIn lw_tbl wsL_law_r26 := goodIn_p wsL_law_r26 [624, 628, 634, 1102, 638, 641] rfl (by decide +kernel)
set_option maxRecDepth 100000 in
theorem wl_r27 : GoodIn lw_tbl wsL_law_r27 := goodIn_p wsL_law_r27 [645, 648, 652, 656, 659] rfl (by decide +kernel)
set_option maxRecDepth 100000 in
theorem wl_r28 : GoodIn lw_tbl wsL_law_r28 := goodIn_p wsL_law_r28 [663, 667, 672, 676, 680, 684] rfl (by decide +kernel)
set_option maxRecDepth 100000 in
theorem wl_r29 : GoodIn lw_tbl wsL_law_r29 := goodIn_p wsL_law_r29 [688, 692, 696, 700, 704] rfl (by decide +kernel)
set_option maxRecDepth 100000 in
theorem wl_r30 : GoodIn lw_tbl wsL_law_r30 := goodIn_p wsL_law_r30 [708, 1106, 1110, 1114, 1118] rfl (by decide +kernel)
set_option maxRecDepth 100000 in
theorem wl_r31 : GoodIn lw_tbl wsL_law_r31 := goodIn_p wsL_law_r31 [1122, 1126, 1130, 1134, 712, 716] rfl (by decide +kernel)
set_option maxRecDepth 100000 in
theorem wl_r32 : GoodIn lw_tbl wsL_law_r32 := goodIn_p wsL_law_r32 [1138, 720, 724, 728, 733, 738] rfl (by decide +kernel)
set_option maxRecDepth 100000 in
theorem wl_r33 : GoodIn lw_tbl wsL_law_r33 := goodIn_p wsL_law_r33 [742, 1142, 746, 749, 753, 1146] rfl (by decide +kernel)
set_option maxRecDepth 100000 in
theorem wl_r34 : GoodIn lw_tbl wsL_law_r34 := goodIn_p wsL_law_r34 [757, 761, 1150, 765, 768, 772] rfl (by decide +kernel)
set_option maxRecDepth 100000 in
theorem wl_r35 : GoodIn lw_tbl wsL_law_r35 := goodIn_p wsL_law_r35 [777, 781, 785, 789, 794] rfl (by decide +kernel)
set_option maxRecDepth 100000 in
theorem wl_r36 : GoodIn lw_tbl wsL_law_r36 := goodIn_p wsL_law_r36 [799, 803, 1154, 1159, 807, 811] rfl (by decide +kernel)
set_option maxRecDepth 100000 in
theorem wl_r37 : GoodIn lw_tbl wsL_law_r37 := goodIn_p wsL_law_r37 [1163, 815, 819, 823, 827, 1167] rfl (by decide +kernel)
set_option maxRecDepth 100000 in
theorem wl_X60 : GoodIn lw_tbl wsX60 := goodIn_p wsX60 [] rfl (by decide +kernel)
set_option maxRecDepth 100000 in
theorem wl_X70 : GoodIn lw_tbl wsX70 := goodIn_p wsX70 [] rfl (by decide +kernel)
set_option maxRecDepth 100000 in
theorem wl_X10 : GoodIn lw_tbl wsX10 := goodIn_p wsX10 [] rfl (by decide +kernel)
set_option maxRecDepth 100000 in
theorem wl_X00 : GoodIn lw_tbl wsX00 := goodIn_p wsX00 [] rfl (by decide +kernel)
set_option maxRecDepth 100000 in
theorem wl_X40 : GoodIn lw_tbl wsX40 := goodIn_p wsX40 [] rfl (by decide +kernel)
set_option maxRecDepth 100000 in
theorem wl_X50 : GoodIn lw_tbl wsX50 := goodIn_p wsX50 [] rfl (by decide +kernel)
set_option maxRecDepth 100000 in
theorem wl_X20 : GoodIn lw_tbl wsX20 := goodIn_p wsX20 [] rfl (by decide +kernel)
set_option maxRecDepth 100000 in
theorem wl_X30 : GoodIn lw_tbl wsX30 := goodIn_p wsX30 [] rfl (by decide +kernel)
set_option maxRecDepth 100000 in
theorem wsL_law_in : ∀ w ∈ wsL_law, w ∈ lw_tbl := fun w h => ((goodIn_app (goodIn_app (goodIn_app (goodIn_app (goodIn_app (goodIn_app (goodIn_app (goodIn_app (goodIn_app ((goodIn_app wl_r1 (goodIn_app wl_r2 (goodIn_app wl_r3 (goodIn_app wl_r4 (goodIn_app wl_r5 (goodIn_app wl_r6 (goodIn_app wl_r7 (goodIn_app wl_r8 (goodIn_app wl_r9 (goodIn_app wl_r10 (goodIn_app wl_r11 (goodIn_app wl_r12 (goodIn_app wl_r13 (goodIn_app wl_r14 (goodIn_app wl_r15 (goodIn_app wl_r16 (goodIn_app wl_r17 (goodIn_app wl_r18 (goodIn_app wl_r19 (goodIn_app wl_r20 (goodIn_app wl_r21 (goodIn_app wl_r22 (goodIn_app wl_r23 (goodIn_app wl_r24 (goodIn_app wl_r25 (goodIn_app wl_r26 (goodIn_app wl_r27 (goodIn_app wl_r28 (goodIn_app wl_r29 (goodIn_app wl_r30 (goodIn_app wl_r31 (goodIn_app wl_r32 (goodIn_app wl_r33 (goodIn_app wl_r34 (goodIn_app wl_r35 (goodIn_app wl_r36 (wl_r37)))))))))))))))))))))))))))))))))))))) wl_X60) wl_X70) wl_X10) wl_X00) wl_X40) wl_X50) wl_X20) wl_X30) (fun _ h => absurd h List.not_mem_nil) : GoodIn lw_tbl wsL_law) w h).1
