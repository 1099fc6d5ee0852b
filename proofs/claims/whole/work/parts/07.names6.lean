theorem dJ9_abs_0f7a4_0 : decode cJ9_abs_0f7a4 0 = .ok (.iload_n 0, 1) := by decide +kernel
theorem dJ9_abs_0f7a4_1 : decode cJ9_abs_0f7a4 1 = .ok (.ifCond .ge 8, 3) := by decide +kernel
theorem dJ9_abs_0f7a4_4 : decode cJ9_abs_0f7a4 4 = .ok (.iload_n 0, 1) := by decide +kernel
theorem dJ9_abs_0f7a4_5 : decode cJ9_abs_0f7a4 5 = .ok (.ineg, 1) := by decide +kernel
theorem dJ9_abs_0f7a4_6 : decode cJ9_abs_0f7a4 6 = .ok (.goto 4, 3) := by decide +kernel
theorem dJ9_abs_0f7a4_9 : decode cJ9_abs_0f7a4 9 = .ok (.iload_n 0, 1) := by decide +kernel
theorem dJ9_abs_0f7a4_10 : decode cJ9_abs_0f7a4 10 = .ok (.ireturn, 1) := by decide +kernel
theorem dJ9_max_7cf53_0 : decode cJ9_max_7cf53 0 = .ok (.iload_n 0, 1) := by decide +kernel
theorem dJ9_max_7cf53_1 : decode cJ9_max_7cf53 1 = .ok (.iload_n 1, 1) := by decide +kernel
theorem dJ9_max_7cf53_2 : decode cJ9_max_7cf53 2 = .ok (.if_icmp .lt 7, 3) := by decide +kernel
theorem dJ9_max_7cf53_5 : decode cJ9_max_7cf53 5 = .ok (.iload_n 0, 1) := by decide +kernel
theorem dJ9_max_7cf53_6 : decode cJ9_max_7cf53 6 = .ok (.goto 4, 3) := by decide +kernel
theorem dJ9_max_7cf53_9 : decode cJ9_max_7cf53 9 = .ok (.iload_n 1, 1) := by decide +kernel
theorem dJ9_max_7cf53_10 : decode cJ9_max_7cf53 10 = .ok (.ireturn, 1) := by decide +kernel
theorem dJ9_min_7cf53_0 : decode cJ9_min_7cf53 0 = .ok (.iload_n 0, 1) := by decide +kernel
theorem dJ9_min_7cf53_1 : decode cJ9_min_7cf53 1 = .ok (.iload_n 1, 1) := by decide +kernel
theorem dJ9_min_7cf53_2 : decode cJ9_min_7cf53 2 = .ok (.if_icmp .gt 7, 3) := by decide +kernel
theorem dJ9_min_7cf53_5 : decode cJ9_min_7cf53 5 = .ok (.iload_n 0, 1) := by decide +kernel
theorem dJ9_min_7cf53_6 : decode cJ9_min_7cf53 6 = .ok (.goto 4, 3) := by decide +kernel
theorem dJ9_min_7cf53_9 : decode cJ9_min_7cf53 9 = .ok (.iload_n 1, 1) := by decide +kernel
theorem dJ9_min_7cf53_10 : decode cJ9_min_7cf53 10 = .ok (.ireturn, 1) := by decide +kernel
theorem dJ7_fill_53178_0 : decode cJ7_fill_53178 0 = .ok (.iconst 0, 1) := by decide +kernel
theorem dJ7_fill_53178_1 : decode cJ7_fill_53178 1 = .ok (.istore_n 2, 1) := by decide +kernel
theorem dJ7_fill_53178_2 : decode cJ7_fill_53178 2 = .ok (.aload_n 0, 1) := by decide +kernel
theorem dJ7_fill_53178_3 : decode cJ7_fill_53178 3 = .ok (.arraylength, 1) := by decide +kernel
theorem dJ7_fill_53178_4 : decode cJ7_fill_53178 4 = .ok (.istore_n 3, 1) := by decide +kernel
theorem dJ7_fill_53178_5 : decode cJ7_fill_53178 5 = .ok (.iload_n 2, 1) := by decide +kernel
theorem dJ7_fill_53178_6 : decode cJ7_fill_53178 6 = .ok (.iload_n 3, 1) := by decide +kernel
theorem dJ7_fill_53178_7 : decode cJ7_fill_53178 7 = .ok (.if_icmp .ge 13, 3) := by decide +kernel
theorem dJ7_fill_53178_10 : decode cJ7_fill_53178 10 = .ok (.aload_n 0, 1) := by decide +kernel
theorem dJ7_fill_53178_11 : decode cJ7_fill_53178 11 = .ok (.iload_n 2, 1) := by decide +kernel
theorem dJ7_fill_53178_12 : decode cJ7_fill_53178 12 = .ok (.iload_n 1, 1) := by decide +kernel
theorem dJ7_fill_53178_13 : decode cJ7_fill_53178 13 = .ok (.iastore, 1) := by decide +kernel
theorem dJ7_fill_53178_14 : decode cJ7_fill_53178 14 = .ok (.iinc 2 1, 3) := by decide +kernel
theorem dJ7_fill_53178_17 : decode cJ7_fill_53178 17 = .ok (.goto (-12), 3) := by decide +kernel
theorem dJ7_fill_53178_20 : decode cJ7_fill_53178 20 = .ok (.return_, 1) := by decide +kernel
set_option maxRecDepth 20000 in
theorem ggL_law_X6_init : GoodIn wsL_law wsX6_init := goodIn_r _ [8, 9, 10, 11, 12, 13, 14, 15, 16, 17, 18, 19, 20, 21, 22, 23, 24, 25, 26, 27, 28, 29, 30, 31, 32, 33, 34, 35, 36, 37, 38, 39, 40, 41, 42, 43, 44, 45, 46, 47, 48, 49, 50, 51, 52, 53, 54, 55, 56, 57, 58, 59, 60, 61, 62, 63, 64, 65, 66, 67, 68, 69, 70, 71, 72, 73, 74, 75, 76, 77, 78, 79, 80, 81, 82, 83, 84, 85, 86, 87, 88, 89, 90, 91, 92, 93, 94, 95, 96, 97, 98, 99, 100, 101, 102, 103, 104, 105, 106, 107, 108, 109, 110, 111, 112, 113, 114, 115, 935, 936, 937, 938, 939, 940, 941, 942, 943, 886, 887, 888, 889, 890, 891, 944, 945, 946, 947, 948, 949, 950, 951, 952, 953, 954, 955, 956, 957, 958, 959, 960, 961, 962, 963, 964, 965, 966, 967, 968, 969, 970, 971, 972, 973, 974, 975, 976, 977, 978, 979, 980, 981, 982, 983, 984, 985, 986, 987] (by decide +kernel) (by decide +kernel)
set_option maxRecDepth 20000 in
theorem gL_law_X6_init : GoodIn wsL_law (wsX6_init) := ggL_law_X6_init
set_option maxRecDepth 20000 in
theorem ggL_law_X7_init : GoodIn wsL_law wsX7_init := goodIn_r _ [118, 119, 10, 11, 120, 46, 121, 122, 123, 124, 125, 126, 127, 128, 129, 130, 131, 132, 133, 134, 135, 136, 137, 138, 139, 140, 92, 141, 142, 143, 144, 145, 146, 147, 148, 149, 150, 151, 152, 153, 5, 154, 155, 156, 157, 158, 159, 160, 892, 893, 894, 895, 896, 897, 898, 899, 900, 901, 902, 903, 904, 905, 906, 907, 908, 909, 910, 911, 912, 913, 914, 915, 916, 917, 918, 919, 920, 921, 922, 923, 924, 925, 926, 927, 928, 929, 930, 931, 932, 933, 934] (by decide +kernel) (by decide +kernel)
set_option maxRecDepth 20000 in
theorem gL_law_X7_init : GoodIn wsL_law (wsX7_init) := ggL_law_X7_init
set_option maxRecDepth 20000 in
theorem ggL_law_X6_line : GoodIn wsL_law wsX6_line := goodIn_r _ [164, 15, 165, 166, 2, 167, 168, 169, 170, 14, 171, 50, 41, 45, 47, 172, 173, 174, 175, 176, 177, 65, 66, 49, 67, 68, 61, 69, 70, 71, 72, 73, 74, 75, 76, 77, 78, 79, 80, 81, 82, 83, 178, 179, 180, 44, 181, 182, 183, 98, 99, 100, 886, 887, 888, 889, 890, 891, 935, 936, 937, 938, 939, 940, 941, 942, 943, 974, 975, 976, 977, 978, 979, 980, 981, 982, 983, 984, 985, 986, 987, 970, 971, 972, 973] (by decide +kernel) (by decide +kernel)
set_option maxRecDepth 20000 in
theorem gL_law_X6_line : GoodIn wsL_law (wsV RL 13 RX6 yX6_line wsX6_line) := goodIn_app (goodIn_of _ (by decide +kernel)) ggL_law_X6_line
set_option maxRecDepth 20000 in
theorem ggL_law_X7_line : GoodIn wsL_law wsX7_line := goodIn_r _ [187, 188, 189, 5, 190, 151, 152, 153, 154, 120, 121, 122, 123, 124, 125, 126, 127, 128, 129, 130, 131, 132, 137, 155, 156, 157, 158, 159, 160, 892, 893, 894, 895, 896, 897, 898, 899, 900, 901, 902, 903, 904, 905, 906, 907, 908, 909, 910, 911, 912, 913, 914, 915, 916, 917, 918, 919, 920, 921, 922, 923, 924, 925, 926, 927, 928, 929, 930, 931, 932, 933, 934] (by decide +kernel) (by decide +kernel)
set_option maxRecDepth 20000 in
theorem gL_law_X7_line : GoodIn wsL_law (wsV RL 17 RX7 yX7_line wsX7_line) := goodIn_app (goodIn_of _ (by decide +kernel)) ggL_law_X7_line
set_option maxRecDepth 20000 in
theorem ggL_law_X6_set : GoodIn wsL_law wsX6_set := goodIn_r _ [194, 15, 195, 196, 197, 198, 14, 199, 50, 41, 200, 201, 202, 49, 203, 204, 205, 166, 2, 167, 206, 207, 208, 209, 210, 211, 212, 213, 214, 61, 215, 886, 887, 888, 889, 890, 891, 974, 975, 976, 977, 978, 979, 980, 981, 982, 983, 984, 985, 986, 987, 935, 936, 937, 938, 939, 940, 941, 942, 943] (by decide +kernel) (by decide +kernel)
set_option maxRecDepth 20000 in
theorem gL_law_X6_set : GoodIn wsL_law (wsV RL 18 RX6 yX6_set wsX6_set) := goodIn_app (goodIn_of _ (by decide +kernel)) ggL_law_X6_set
set_option maxRecDepth 20000 in
theorem ggL_law_X7_set : GoodIn wsL_law wsX7_set := goodIn_r _ [219, 120, 125, 121, 122, 123, 124, 220, 221, 222, 5, 223, 188, 189, 190, 892, 893, 894, 895, 896, 897, 898, 899, 900, 901, 902, 903, 904, 905, 906, 907, 908, 909, 910, 911, 912, 913, 914, 915, 916, 917, 918, 919, 920, 921, 922, 923, 924, 925, 926, 927, 928, 929, 930, 931, 932, 933, 934] (by decide +kernel) (by decide +kernel)
set_option maxRecDepth 20000 in
theorem gL_law_X7_set : GoodIn wsL_law (wsV RL 22 RX7 yX7_set wsX7_set) := goodIn_app (goodIn_of _ (by decide +kernel)) ggL_law_X7_set
set_option maxRecDepth 20000 in
theorem ggL_law_X6_fault : GoodIn wsL_law wsX6_fault := goodIn_r _ [227, 15, 228, 229, 196, 197, 198, 14, 199, 50, 41, 230, 231, 232, 44, 233, 182, 54, 55, 56, 886, 887, 888, 889, 890, 891, 935, 936, 937, 938, 939, 940, 941, 942, 943, 970, 971, 972, 973] (by decide +kernel) (by decide +kernel)
set_option maxRecDepth 20000 in
theorem gL_law_X6_fault : GoodIn wsL_law (wsV RL 23 RX6 yX6_fault wsX6_fault) := goodIn_app (goodIn_of _ (by decide +kernel)) ggL_law_X6_fault
set_option maxRecDepth 20000 in
theorem ggL_law_X7_fault : GoodIn wsL_law wsX7_fault := goodIn_r _ [237, 156, 155, 134, 135, 136, 220, 221, 222, 5, 223, 120, 188, 189, 190, 892, 893, 894, 895, 896, 897, 898, 899, 900, 901, 902, 903, 904, 905, 906, 907, 908, 909, 910, 911, 912, 913, 914, 915, 916, 917, 918, 919, 920, 921, 922, 923, 924, 925, 926, 927, 928, 929, 930, 931, 932, 933, 934] (by decide +kernel) (by decide +kernel)
set_option maxRecDepth 20000 in
theorem gL_law_X7_fault : GoodIn wsL_law (wsV RL 26 RX7 yX7_fault wsX7_fault) := goodIn_app (goodIn_of _ (by decide +kernel)) ggL_law_X7_fault
set_option maxRecDepth 20000 in
theorem ggL_law_X6_supply : GoodIn wsL_law wsX6_supply := goodIn_r _ [241, 15, 242, 243, 165, 166, 2, 167, 886, 887, 888, 889, 890, 891, 935, 936, 937, 938, 939, 940, 941, 942, 943] (by decide +kernel) (by decide +kernel)
set_option maxRecDepth 20000 in
theorem gL_law_X6_supply : GoodIn wsL_law (wsV RL 27 RX6 yX6_supply wsX6_supply) := goodIn_app (goodIn_of _ (by decide +kernel)) ggL_law_X6_supply
set_option maxRecDepth 20000 in
theorem ggL_law_X7_supply : GoodIn wsL_law wsX7_supply := goodIn_r _ [247, 157, 248, 188, 189, 5, 190, 892, 893, 894, 895, 896, 897, 898, 899, 900, 901, 902, 903, 904, 905, 906, 907, 908, 909, 910, 911, 912, 913, 914, 915, 916, 917, 918, 919, 920, 921, 922, 923, 924, 925, 926, 927, 928, 929, 930, 931, 932, 933, 934] (by decide +kernel) (by decide +kernel)
set_option maxRecDepth 20000 in
theorem gL_law_X7_supply : GoodIn wsL_law (wsV RL 30 RX7 yX7_supply wsX7_supply) := goodIn_app (goodIn_of _ (by decide +kernel)) ggL_law_X7_supply
set_option maxRecDepth 20000 in
theorem ggL_law_X6_lot : GoodIn wsL_law wsX6_lot := goodIn_r _ [252, 253, 165, 166, 2, 167, 886, 887, 888, 889, 890, 891] (by decide +kernel) (by decide +kernel)
set_option maxRecDepth 20000 in
theorem gL_law_X6_lot : GoodIn wsL_law (wsV RL 31 RX6 yX6_lot wsX6_lot) := goodIn_app (goodIn_of _ (by decide +kernel)) ggL_law_X6_lot
set_option maxRecDepth 20000 in
theorem ggL_law_X7_lot : GoodIn wsL_law wsX7_lot := goodIn_r _ [257, 258, 188, 189, 5, 190, 892, 893, 894, 895, 896, 897, 898, 899, 900, 901, 902, 903, 904, 905, 906, 907, 908, 909, 910, 911, 912, 913, 914, 915, 916, 917, 918, 919, 920, 921, 922, 923, 924, 925, 926, 927, 928, 929, 930, 931, 932, 933, 934] (by decide +kernel) (by decide +kernel)
set_option maxRecDepth 20000 in
theorem gL_law_X7_lot : GoodIn wsL_law (wsV RL 34 RX7 yX7_lot wsX7_lot) := goodIn_app (goodIn_of _ (by decide +kernel)) ggL_law_X7_lot
set_option maxRecDepth 20000 in
theorem ggL_law_X6_ticks : GoodIn wsL_law wsX6_ticks := goodIn_r _ [262, 15, 228, 19, 253, 165, 166, 2, 167, 263, 264, 265, 14, 266, 175, 267, 268, 269, 172, 270, 271, 272, 273, 50, 274, 197, 198, 199, 41, 275, 276, 277, 278, 45, 210, 279, 280, 281, 282, 283, 284, 44, 285, 182, 54, 55, 56, 286, 287, 288, 49, 289, 80, 81, 290, 291, 292, 293, 73, 61, 75, 294, 295, 296, 297, 173, 174, 298, 299, 300, 301, 302, 76, 303, 304, 305, 306, 307, 308, 309, 310, 74, 77, 79, 311, 312, 313, 314, 315, 316, 317, 318, 78, 319, 207, 208, 209, 320, 321, 322, 323, 176, 47, 324, 325, 326, 18, 327, 328, 88, 89, 90, 886, 887, 888, 889, 890, 891, 935, 936, 937, 938, 939, 940, 941, 942, 943, 974, 975, 976, 977, 978, 979, 980, 981, 982, 983, 984, 985, 986, 987, 970, 971, 972, 973, 944, 945, 946, 947, 948, 949, 950, 951, 952] (by decide +kernel) (by decide +kernel)
set_option maxRecDepth 20000 in
theorem gL_law_X6_ticks : GoodIn wsL_law (wsV RL 35 RX6 yX6_ticks wsX6_ticks) := goodIn_app (goodIn_of _ (by decide +kernel)) ggL_law_X6_ticks
set_option maxRecDepth 20000 in
theorem ggL_law_X7_ticks : GoodIn wsL_law wsX7_ticks := goodIn_r _ [332, 156, 188, 189, 5, 190, 333, 334, 335, 336, 120, 126, 160, 137, 337, 338, 339, 340, 132, 133, 131, 125, 124, 121, 130, 341, 342, 343, 344, 155, 134, 135, 136, 345, 346, 347, 348, 157, 158, 349, 350, 351, 352, 127, 122, 128, 123, 129, 159, 353, 138, 258, 139, 140, 892, 893, 894, 895, 896, 897, 898, 899, 900, 901, 902, 903, 904, 905, 906, 907, 908, 909, 910, 911, 912, 913, 914, 915, 916, 917, 918, 919, 920, 921, 922, 923, 924, 925, 926, 927, 928, 929, 930, 931, 932, 933, 934] (by decide +kernel) (by decide +kernel)
set_option maxRecDepth 20000 in
theorem gL_law_X7_ticks : GoodIn wsL_law (wsV RL 38 RX7 yX7_ticks wsX7_ticks) := goodIn_app (goodIn_of _ (by decide +kernel)) ggL_law_X7_ticks
set_option maxRecDepth 20000 in
theorem ggL_law_X6_confirm : GoodIn wsL_law wsX6_confirm := goodIn_r _ [357, 15, 358, 196, 197, 198, 14, 199, 50, 41, 886, 887, 888, 889, 890, 891, 974, 975, 976, 977, 978, 979, 980, 981, 982, 983, 984, 985, 986, 987, 935, 936, 937, 938, 939, 940, 941, 942, 943] (by decide +kernel) (by decide +kernel)
set_option maxRecDepth 20000 in
theorem gL_law_X6_confirm : GoodIn wsL_law (wsV RL 39 RX6 yX6_confirm wsX6_confirm) := goodIn_app (goodIn_of _ (by decide +kernel)) ggL_law_X6_confirm
set_option maxRecDepth 20000 in
theorem ggL_law_X7_confirm : GoodIn wsL_law wsX7_confirm := goodIn_r _ [362, 132, 220, 221, 222, 5, 223, 120, 188, 189, 190, 892, 893, 894, 895, 896, 897, 898, 899, 900, 901, 902, 903, 904, 905, 906, 907, 908, 909, 910, 911, 912, 913, 914, 915, 916, 917, 918, 919, 920, 921, 922, 923, 924, 925, 926, 927, 928, 929, 930, 931, 932, 933, 934] (by decide +kernel) (by decide +kernel)
set_option maxRecDepth 20000 in
theorem gL_law_X7_confirm : GoodIn wsL_law (wsV RL 42 RX7 yX7_confirm wsX7_confirm) := goodIn_app (goodIn_of _ (by decide +kernel)) ggL_law_X7_confirm
set_option maxRecDepth 20000 in
theorem ggL_law_X6_about : GoodIn wsL_law wsX6_about := goodIn_r _ [366, 15, 367, 368, 369, 370, 195, 358, 371, 196, 197, 198, 14, 199, 50, 41, 372, 373, 374, 49, 375, 74, 75, 886, 887, 888, 889, 890, 891, 974, 975, 976, 977, 978, 979, 980, 981, 982, 983, 984, 985, 986, 987, 935, 936, 937, 938, 939, 940, 941, 942, 943] (by decide +kernel) (by decide +kernel)
set_option maxRecDepth 20000 in
theorem gL_law_X6_about : GoodIn wsL_law (wsV RL 43 RX6 yX6_about wsX6_about) := goodIn_app (goodIn_of _ (by decide +kernel)) ggL_law_X6_about
set_option maxRecDepth 20000 in
theorem ggL_law_X7_about : GoodIn wsL_law wsX7_about := goodIn_r _ [379, 126, 127, 128, 129, 131, 125, 132, 130, 220, 221, 222, 5, 223, 120, 188, 189, 190, 892, 893, 894, 895, 896, 897, 898, 899, 900, 901, 902, 903, 904, 905, 906, 907, 908, 909, 910, 911, 912, 913, 914, 915, 916, 917, 918, 919, 920, 921, 922, 923, 924, 925, 926, 927, 928, 929, 930, 931, 932, 933, 934] (by decide +kernel) (by decide +kernel)
set_option maxRecDepth 20000 in
theorem gL_law_X7_about : GoodIn wsL_law (wsV RL 47 RX7 yX7_about wsX7_about) := goodIn_app (goodIn_of _ (by decide +kernel)) ggL_law_X7_about
set_option maxRecDepth 20000 in
theorem ggL_law_X6_cause : GoodIn wsL_law wsX6_cause := goodIn_r _ [383, 15, 384, 165, 166, 2, 167, 886, 887, 888, 889, 890, 891, 935, 936, 937, 938, 939, 940, 941, 942, 943] (by decide +kernel) (by decide +kernel)
set_option maxRecDepth 20000 in
theorem gL_law_X6_cause : GoodIn wsL_law (wsV RL 48 RX6 yX6_cause wsX6_cause) := goodIn_app (goodIn_of _ (by decide +kernel)) ggL_law_X6_cause
set_option maxRecDepth 20000 in
theorem ggL_law_X7_cause : GoodIn wsL_law wsX7_cause := goodIn_r _ [388, 137, 188, 189, 5, 190, 892, 893, 894, 895, 896, 897, 898, 899, 900, 901, 902, 903, 904, 905, 906, 907, 908, 909, 910, 911, 912, 913, 914, 915, 916, 917, 918, 919, 920, 921, 922, 923, 924, 925, 926, 927, 928, 929, 930, 931, 932, 933, 934] (by decide +kernel) (by decide +kernel)
set_option maxRecDepth 20000 in
theorem gL_law_X7_cause : GoodIn wsL_law (wsV RL 51 RX7 yX7_cause wsX7_cause) := goodIn_app (goodIn_of _ (by decide +kernel)) ggL_law_X7_cause
set_option maxRecDepth 20000 in
theorem ggL_law_X6_book : GoodIn wsL_law wsX6_book := goodIn_r _ [392, 15, 228, 242, 393, 394, 395, 396, 397, 398, 14, 399, 400, 269, 270, 271, 272, 273, 50, 274, 197, 198, 199, 41, 401, 402, 403, 404, 405, 406, 407, 408, 409, 298, 410, 373, 374, 49, 375, 74, 75, 886, 887, 888, 889, 890, 891, 935, 936, 937, 938, 939, 940, 941, 942, 943, 974, 975, 976, 977, 978, 979, 980, 981, 982, 983, 984, 985, 986, 987] (by decide +kernel) (by decide +kernel)
set_option maxRecDepth 20000 in
theorem gL_law_X6_book : GoodIn wsL_law (wsV RL 52 RX6 yX6_book wsX6_book) := goodIn_app (goodIn_of _ (by decide +kernel)) ggL_law_X6_book
set_option maxRecDepth 20000 in
theorem ggL_law_X7_book : GoodIn wsL_law wsX7_book := goodIn_r _ [414, 120, 128, 129, 125, 131, 156, 157, 158, 159, 160, 892, 893, 894, 895, 896, 897, 898, 899, 900, 901, 902, 903, 904, 905, 906, 907, 908, 909, 910, 911, 912, 913, 914, 915, 916, 917, 918, 919, 920, 921, 922, 923, 924, 925, 926, 927, 928, 929, 930, 931, 932, 933, 934] (by decide +kernel) (by decide +kernel)
set_option maxRecDepth 20000 in
theorem gL_law_X7_book : GoodIn wsL_law (wsV RL 55 RX7 yX7_book wsX7_book) := goodIn_app (goodIn_of _ (by decide +kernel)) ggL_law_X7_book
set_option maxRecDepth 20000 in
theorem ggL_law_X6_rule : GoodIn wsL_law wsX6_rule := goodIn_r _ [418, 419, 420, 19, 35, 165, 166, 2, 167, 421, 422, 423, 18, 424, 91, 425, 426, 427, 428, 429, 430, 431, 432, 95, 886, 887, 888, 889, 890, 891, 944, 945, 946, 947, 948, 949, 950, 951, 952] (by decide +kernel) (by decide +kernel)
set_option maxRecDepth 20000 in
theorem gL_law_X6_rule : GoodIn wsL_law (wsV RL 56 RX6 yX6_rule wsX6_rule) := goodIn_app (goodIn_of _ (by decide +kernel)) ggL_law_X6_rule
set_option maxRecDepth 20000 in
theorem ggL_law_X7_rule : GoodIn wsL_law wsX7_rule := goodIn_r _ [436, 144, 188, 189, 5, 190, 437, 438, 439, 440, 353, 139, 441, 442, 443, 444, 142, 892, 893, 894, 895, 896, 897, 898, 899, 900, 901, 902, 903, 904, 905, 906, 907, 908, 909, 910, 911, 912, 913, 914, 915, 916, 917, 918, 919, 920, 921, 922, 923, 924, 925, 926, 927, 928, 929, 930, 931, 932, 933, 934] (by decide +kernel) (by decide +kernel)
set_option maxRecDepth 20000 in
theorem gL_law_X7_rule : GoodIn wsL_law (wsV RL 59 RX7 yX7_rule wsX7_rule) := goodIn_app (goodIn_of _ (by decide +kernel)) ggL_law_X7_rule
set_option maxRecDepth 20000 in
theorem ggL_law_X6_pack : GoodIn wsL_law wsX6_pack := goodIn_r _ [448, 19, 35, 165, 166, 2, 167, 449, 450, 451, 452, 453, 454, 18, 455, 88, 93, 91, 456, 457, 458, 459, 328, 886, 887, 888, 889, 890, 891, 944, 945, 946, 947, 948, 949, 950, 951, 952] (by decide +kernel) (by decide +kernel)
set_option maxRecDepth 20000 in
theorem gL_law_X6_pack : GoodIn wsL_law (wsV RL 60 RX6 yX6_pack wsX6_pack) := goodIn_app (goodIn_of _ (by decide +kernel)) ggL_law_X6_pack
set_option maxRecDepth 20000 in
theorem ggL_law_X7_pack : GoodIn wsL_law wsX7_pack := goodIn_r _ [463, 139, 141, 144, 188, 189, 5, 190, 464, 465, 466, 467, 468, 469, 470, 353, 437, 438, 439, 440, 892, 893, 894, 895, 896, 897, 898, 899, 900, 901, 902, 903, 904, 905, 906, 907, 908, 909, 910, 911, 912, 913, 914, 915, 916, 917, 918, 919, 920, 921, 922, 923, 924, 925, 926, 927, 928, 929, 930, 931, 932, 933, 934] (by decide +kernel) (by decide +kernel)
set_option maxRecDepth 20000 in
theorem gL_law_X7_pack : GoodIn wsL_law (wsV RL 63 RX7 yX7_pack wsX7_pack) := goodIn_app (goodIn_of _ (by decide +kernel)) ggL_law_X7_pack
set_option maxRecDepth 20000 in
theorem ggL_law_X6_close : GoodIn wsL_law wsX6_close := goodIn_r _ [474, 19, 35, 449, 450, 2, 451, 165, 166, 167, 475, 476, 477, 18, 478, 93, 91, 886, 887, 888, 889, 890, 891, 944, 945, 946, 947, 948, 949, 950, 951, 952] (by decide +kernel) (by decide +kernel)
set_option maxRecDepth 20000 in
theorem gL_law_X6_close : GoodIn wsL_law (wsV RL 64 RX6 yX6_close wsX6_close) := goodIn_app (goodIn_of _ (by decide +kernel)) ggL_law_X6_close
set_option maxRecDepth 20000 in
theorem ggL_law_X7_close : GoodIn wsL_law wsX7_close := goodIn_r _ [482, 141, 144, 464, 465, 5, 466, 188, 189, 190, 437, 438, 439, 440, 353, 139, 892, 893, 894, 895, 896, 897, 898, 899, 900, 901, 902, 903, 904, 905, 906, 907, 908, 909, 910, 911, 912, 913, 914, 915, 916, 917, 918, 919, 920, 921, 922, 923, 924, 925, 926, 927, 928, 929, 930, 931, 932, 933, 934] (by decide +kernel) (by decide +kernel)
set_option maxRecDepth 20000 in
theorem gL_law_X7_close : GoodIn wsL_law (wsV RL 67 RX7 yX7_close wsX7_close) := goodIn_app (goodIn_of _ (by decide +kernel)) ggL_law_X7_close
set_option maxRecDepth 20000 in
theorem ggL_law_X6_weigh : GoodIn wsL_law wsX6_weigh := goodIn_r _ [486, 487, 35, 488, 489, 427, 490, 19, 449, 450, 2, 451, 165, 166, 167, 491, 492, 493, 18, 494, 93, 91, 88, 495, 496, 497, 498, 328, 499, 500, 501, 502, 503, 504, 505, 506, 425, 426, 428, 456, 457, 458, 459, 886, 887, 888, 889, 890, 891, 944, 945, 946, 947, 948, 949, 950, 951, 952] (by decide +kernel) (by decide +kernel)
set_option maxRecDepth 20000 in
theorem gL_law_X6_weigh : GoodIn wsL_law (wsV RL 68 RX6 yX6_weigh wsX6_weigh) := goodIn_app (goodIn_of _ (by decide +kernel)) ggL_law_X6_weigh
set_option maxRecDepth 20000 in
theorem ggL_law_X7_weigh : GoodIn wsL_law wsX7_weigh := goodIn_r _ [510, 511, 144, 141, 139, 464, 465, 5, 466, 188, 189, 190, 437, 438, 439, 440, 353, 512, 513, 514, 515, 516, 517, 518, 519, 892, 893, 894, 895, 896, 897, 898, 899, 900, 901, 902, 903, 904, 905, 906, 907, 908, 909, 910, 911, 912, 913, 914, 915, 916, 917, 918, 919, 920, 921, 922, 923, 924, 925, 926, 927, 928, 929, 930, 931, 932, 933, 934] (by decide +kernel) (by decide +kernel)
set_option maxRecDepth 20000 in
theorem gL_law_X7_weigh : GoodIn wsL_law (wsV RL 71 RX7 yX7_weigh wsX7_weigh) := goodIn_app (goodIn_of _ (by decide +kernel)) ggL_law_X7_weigh
set_option maxRecDepth 20000 in
theorem ggL_law_X6_stack : GoodIn wsL_law wsX6_stack := goodIn_r _ [523, 19, 35, 449, 450, 2, 451, 165, 166, 167, 524, 525, 526, 527, 528, 529, 18, 530, 93, 94, 96, 95, 886, 887, 888, 889, 890, 891, 944, 945, 946, 947, 948, 949, 950, 951, 952] (by decide +kernel) (by decide +kernel)
set_option maxRecDepth 20000 in
theorem gL_law_X6_stack : GoodIn wsL_law (wsV RL 72 RX6 yX6_stack wsX6_stack) := goodIn_app (goodIn_of _ (by decide +kernel)) ggL_law_X6_stack
set_option maxRecDepth 20000 in
theorem ggL_law_X7_stack : GoodIn wsL_law wsX7_stack := goodIn_r _ [534, 141, 142, 143, 144, 464, 465, 5, 466, 188, 189, 190, 535, 536, 537, 441, 442, 443, 444, 892, 893, 894, 895, 896, 897, 898, 899, 900, 901, 902, 903, 904, 905, 906, 907, 908, 909, 910, 911, 912, 913, 914, 915, 916, 917, 918, 919, 920, 921, 922, 923, 924, 925, 926, 927, 928, 929, 930, 931, 932, 933, 934] (by decide +kernel) (by decide +kernel)
set_option maxRecDepth 20000 in
theorem gL_law_X7_stack : GoodIn wsL_law (wsV RL 75 RX7 yX7_stack wsX7_stack) := goodIn_app (goodIn_of _ (by decide +kernel)) ggL_law_X7_stack
set_option maxRecDepth 20000 in
theorem ggL_law_X6_seal : GoodIn wsL_law wsX6_seal := goodIn_r _ [541, 19, 524, 525, 2, 526, 165, 166, 167, 542, 543, 544, 18, 545, 96, 95, 886, 887, 888, 889, 890, 891, 944, 945, 946, 947, 948, 949, 950, 951, 952] (by decide +kernel) (by decide +kernel)
set_option maxRecDepth 20000 in
theorem gL_law_X6_seal : GoodIn wsL_law (wsV RL 76 RX6 yX6_seal wsX6_seal) := goodIn_app (goodIn_of _ (by decide +kernel)) ggL_law_X6_seal
set_option maxRecDepth 20000 in
theorem ggL_law_X7_seal : GoodIn wsL_law wsX7_seal := goodIn_r _ [549, 143, 535, 536, 5, 537, 188, 189, 190, 441, 442, 443, 444, 142, 892, 893, 894, 895, 896, 897, 898, 899, 900, 901, 902, 903, 904, 905, 906, 907, 908, 909, 910, 911, 912, 913, 914, 915, 916, 917, 918, 919, 920, 921, 922, 923, 924, 925, 926, 927, 928, 929, 930, 931, 932, 933, 934] (by decide +kernel) (by decide +kernel)
set_option maxRecDepth 20000 in
theorem gL_law_X7_seal : GoodIn wsL_law (wsV RL 79 RX7 yX7_seal wsX7_seal) := goodIn_app (goodIn_of _ (by decide +kernel)) ggL_law_X7_seal
set_option maxRecDepth 20000 in
theorem ggL_law_X6_breakUp : GoodIn wsL_law wsX6_breakUp := goodIn_r _ [553, 19, 449, 450, 2, 451, 165, 166, 167, 554, 555, 556, 18, 557, 94, 91, 328, 88, 93, 524, 525, 526, 558, 559, 560, 561, 95, 96, 886, 887, 888, 889, 890, 891, 944, 945, 946, 947, 948, 949, 950, 951, 952] (by decide +kernel) (by decide +kernel)
set_option maxRecDepth 20000 in
theorem gL_law_X6_breakUp : GoodIn wsL_law (wsV RL 80 RX6 yX6_breakUp wsX6_breakUp) := goodIn_app (goodIn_of _ (by decide +kernel)) ggL_law_X6_breakUp
set_option maxRecDepth 20000 in
theorem ggL_law_X7_breakUp : GoodIn wsL_law wsX7_breakUp := goodIn_r _ [565, 142, 353, 139, 141, 143, 188, 189, 5, 190, 464, 465, 466, 535, 536, 537, 437, 438, 439, 440, 441, 442, 443, 444, 892, 893, 894, 895, 896, 897, 898, 899, 900, 901, 902, 903, 904, 905, 906, 907, 908, 909, 910, 911, 912, 913, 914, 915, 916, 917, 918, 919, 920, 921, 922, 923, 924, 925, 926, 927, 928, 929, 930, 931, 932, 933, 934] (by decide +kernel) (by decide +kernel)
set_option maxRecDepth 20000 in
theorem gL_law_X7_breakUp : GoodIn wsL_law (wsV RL 83 RX7 yX7_breakUp wsX7_breakUp) := goodIn_app (goodIn_of _ (by decide +kernel)) ggL_law_X7_breakUp
set_option maxRecDepth 20000 in
theorem ggL_law_X6_code : GoodIn wsL_law wsX6_code := goodIn_r _ [569, 19, 570, 571, 572, 573, 457, 458, 18, 459, 328, 166, 2, 167, 574, 575, 576, 577, 88, 94, 450, 451, 165, 886, 887, 888, 889, 890, 891, 944, 945, 946, 947, 948, 949, 950, 951, 952] (by decide +kernel) (by decide +kernel)
set_option maxRecDepth 20000 in
theorem gL_law_X6_code : GoodIn wsL_law (wsV RL 84 RX6 yX6_code wsX6_code) := goodIn_app (goodIn_of _ (by decide +kernel)) ggL_law_X6_code
set_option maxRecDepth 20000 in
theorem ggL_law_X7_code : GoodIn wsL_law wsX7_code := goodIn_r _ [581, 139, 142, 138, 140, 467, 468, 469, 5, 470, 353, 188, 189, 190, 892, 893, 894, 895, 896, 897, 898, 899, 900, 901, 902, 903, 904, 905, 906, 907, 908, 909, 910, 911, 912, 913, 914, 915, 916, 917, 918, 919, 920, 921, 922, 923, 924, 925, 926, 927, 928, 929, 930, 931, 932, 933, 934] (by decide +kernel) (by decide +kernel)
set_option maxRecDepth 20000 in
theorem gL_law_X7_code : GoodIn wsL_law (wsV RL 87 RX7 yX7_code wsX7_code) := goodIn_app (goodIn_of _ (by decide +kernel)) ggL_law_X7_code
set_option maxRecDepth 20000 in
theorem ggL_law_X6_box : GoodIn wsL_law wsX6_box := goodIn_r _ [585, 19, 586, 587, 588, 449, 450, 2, 451, 165, 166, 167, 589, 496, 497, 18, 498, 328, 88, 590, 500, 501, 502, 886, 887, 888, 889, 890, 891, 944, 945, 946, 947, 948, 949, 950, 951, 952] (by decide +kernel) (by decide +kernel)
set_option maxRecDepth 20000 in
theorem gL_law_X6_box : GoodIn wsL_law (wsV RL 88 RX6 yX6_box wsX6_box) := goodIn_app (goodIn_of _ (by decide +kernel)) ggL_law_X6_box
set_option maxRecDepth 20000 in
theorem ggL_law_X7_box : GoodIn wsL_law wsX7_box := goodIn_r _ [594, 141, 142, 464, 465, 5, 466, 188, 189, 190, 437, 438, 439, 440, 353, 139, 512, 513, 514, 515, 516, 517, 518, 519, 892, 893, 894, 895, 896, 897, 898, 899, 900, 901, 902, 903, 904, 905, 906, 907, 908, 909, 910, 911, 912, 913, 914, 915, 916, 917, 918, 919, 920, 921, 922, 923, 924, 925, 926, 927, 928, 929, 930, 931, 932, 933, 934] (by decide +kernel) (by decide +kernel)
set_option maxRecDepth 20000 in
theorem gL_law_X7_box : GoodIn wsL_law (wsV RL 91 RX7 yX7_box wsX7_box) := goodIn_app (goodIn_of _ (by decide +kernel)) ggL_law_X7_box
set_option maxRecDepth 20000 in
theorem ggL_law_X6_recall : GoodIn wsL_law wsX6_recall := goodIn_r _ [598, 19, 165, 166, 2, 167, 599, 600, 601, 18, 602, 328, 89, 88, 450, 451, 603, 604, 605, 606, 607, 575, 576, 577, 94, 525, 526, 608, 609, 610, 611, 886, 887, 888, 889, 890, 891, 944, 945, 946, 947, 948, 949, 950, 951, 952] (by decide +kernel) (by decide +kernel)
set_option maxRecDepth 20000 in
theorem gL_law_X6_recall : GoodIn wsL_law (wsV RL 92 RX6 yX6_recall wsX6_recall) := goodIn_app (goodIn_of _ (by decide +kernel)) ggL_law_X6_recall
set_option maxRecDepth 20000 in
theorem ggL_law_X7_recall : GoodIn wsL_law wsX7_recall := goodIn_r _ [615, 353, 138, 139, 142, 188, 189, 5, 190, 892, 893, 894, 895, 896, 897, 898, 899, 900, 901, 902, 903, 904, 905, 906, 907, 908, 909, 910, 911, 912, 913, 914, 915, 916, 917, 918, 919, 920, 921, 922, 923, 924, 925, 926, 927, 928, 929, 930, 931, 932, 933, 934] (by decide +kernel) (by decide +kernel)
set_option maxRecDepth 20000 in
theorem gL_law_X7_recall : GoodIn wsL_law (wsV RL 95 RX7 yX7_recall wsX7_recall) := goodIn_app (goodIn_of _ (by decide +kernel)) ggL_law_X7_recall
set_option maxRecDepth 20000 in
theorem ggL_law_X6_layer : GoodIn wsL_law wsX6_layer := goodIn_r _ [619, 23, 620, 621, 2, 622, 165, 166, 167, 623, 624, 625, 22, 626, 627, 628, 629, 630, 631, 632, 427, 633, 634, 635, 636, 637, 638, 639, 104, 640, 641, 642, 643, 644, 426, 428, 645, 646, 647, 648, 649, 650, 651, 652, 653, 654, 655, 656, 657, 658, 659, 660, 661, 662, 663, 664, 665, 666, 667, 668, 669, 670, 671, 672, 673, 106, 674, 675, 676, 677, 678, 679, 680, 681, 682, 683, 684, 685, 105, 686, 687, 688, 689, 690, 691, 692, 693, 694, 695, 696, 697, 886, 887, 888, 889, 890, 891, 953, 954, 955, 956, 957, 958, 959, 960, 961, 962, 963, 964] (by decide +kernel) (by decide +kernel)
set_option maxRecDepth 20000 in
theorem gL_law_X6_layer : GoodIn wsL_law (wsV RL 96 RX6 yX6_layer wsX6_layer) := goodIn_app (goodIn_of _ (by decide +kernel)) ggL_law_X6_layer
set_option maxRecDepth 20000 in
theorem ggL_law_X7_layer : GoodIn wsL_law wsX7_layer := goodIn_r _ [701, 147, 702, 703, 704, 705, 149, 188, 189, 5, 190, 706, 707, 708, 709, 710, 711, 712, 713, 714, 715, 716, 717, 718, 719, 720, 721, 722, 723, 724, 725, 148, 726, 727, 728, 729, 730, 731, 732, 733, 892, 893, 894, 895, 896, 897, 898, 899, 900, 901, 902, 903, 904, 905, 906, 907, 908, 909, 910, 911, 912, 913, 914, 915, 916, 917, 918, 919, 920, 921, 922, 923, 924, 925, 926, 927, 928, 929, 930, 931, 932, 933, 934] (by decide +kernel) (by decide +kernel)
set_option maxRecDepth 20000 in
theorem gL_law_X7_layer : GoodIn wsL_law (wsV RL 100 RX7 yX7_layer wsX7_layer) := goodIn_app (goodIn_of _ (by decide +kernel)) ggL_law_X7_layer
set_option maxRecDepth 20000 in
theorem ggL_law_X6_planned : GoodIn wsL_law wsX6_planned := goodIn_r _ [737, 23, 738, 165, 166, 2, 167, 739, 740, 741, 22, 742, 672, 105, 886, 887, 888, 889, 890, 891, 953, 954, 955, 956, 957, 958, 959, 960, 961, 962, 963, 964] (by decide +kernel) (by decide +kernel)
set_option maxRecDepth 20000 in
theorem gL_law_X6_planned : GoodIn wsL_law (wsV RL 101 RX6 yX6_planned wsX6_planned) := goodIn_app (goodIn_of _ (by decide +kernel)) ggL_law_X6_planned
set_option maxRecDepth 20000 in
theorem ggL_law_X7_planned : GoodIn wsL_law wsX7_planned := goodIn_r _ [746, 702, 704, 148, 188, 189, 5, 190, 892, 893, 894, 895, 896, 897, 898, 899, 900, 901, 902, 903, 904, 905, 906, 907, 908, 909, 910, 911, 912, 913, 914, 915, 916, 917, 918, 919, 920, 921, 922, 923, 924, 925, 926, 927, 928, 929, 930, 931, 932, 933, 934] (by decide +kernel) (by decide +kernel)
set_option maxRecDepth 20000 in
theorem gL_law_X7_planned : GoodIn wsL_law (wsV RL 104 RX7 yX7_planned wsX7_planned) := goodIn_app (goodIn_of _ (by decide +kernel)) ggL_law_X7_planned
set_option maxRecDepth 20000 in
theorem ggL_law_X6_holds : GoodIn wsL_law wsX6_holds := goodIn_r _ [750, 23, 738, 751, 752, 753, 22, 754, 672, 755, 756, 757, 758, 107, 759, 98, 99, 100, 760, 740, 741, 742, 105, 761, 762, 763, 166, 2, 167, 764, 765, 766, 767, 627, 628, 768, 769, 770, 771, 886, 887, 888, 889, 890, 891, 953, 954, 955, 956, 957, 958, 959, 960, 961, 962, 963, 964] (by decide +kernel) (by decide +kernel)
set_option maxRecDepth 20000 in
theorem gL_law_X6_holds : GoodIn wsL_law (wsV RL 105 RX6 yX6_holds wsX6_holds) := goodIn_app (goodIn_of _ (by decide +kernel)) ggL_law_X6_holds
set_option maxRecDepth 20000 in
theorem ggL_law_X7_holds : GoodIn wsL_law wsX7_holds := goodIn_r _ [775, 702, 704, 148, 703, 892, 893, 894, 895, 896, 897, 898, 899, 900, 901, 902, 903, 904, 905, 906, 907, 908, 909, 910, 911, 912, 913, 914, 915, 916, 917, 918, 919, 920, 921, 922, 923, 924, 925, 926, 927, 928, 929, 930, 931, 932, 933, 934] (by decide +kernel) (by decide +kernel)
set_option maxRecDepth 20000 in
theorem gL_law_X7_holds : GoodIn wsL_law (wsV RL 109 RX7 yX7_holds wsX7_holds) := goodIn_app (goodIn_of _ (by decide +kernel)) ggL_law_X7_holds
set_option maxRecDepth 20000 in
theorem ggL_law_X6_change : GoodIn wsL_law wsX6_change := goodIn_r _ [779, 27, 780, 781, 2, 782, 165, 166, 167, 783, 784, 785, 26, 786, 112, 886, 887, 888, 889, 890, 891, 965, 966, 967, 968, 969] (by decide +kernel) (by decide +kernel)
set_option maxRecDepth 20000 in
theorem gL_law_X6_change : GoodIn wsL_law (wsV RL 110 RX6 yX6_change wsX6_change) := goodIn_app (goodIn_of _ (by decide +kernel)) ggL_law_X6_change
set_option maxRecDepth 20000 in
theorem ggL_law_X7_change : GoodIn wsL_law wsX7_change := goodIn_r _ [790, 145, 188, 189, 5, 190, 892, 893, 894, 895, 896, 897, 898, 899, 900, 901, 902, 903, 904, 905, 906, 907, 908, 909, 910, 911, 912, 913, 914, 915, 916, 917, 918, 919, 920, 921, 922, 923, 924, 925, 926, 927, 928, 929, 930, 931, 932, 933, 934] (by decide +kernel) (by decide +kernel)
set_option maxRecDepth 20000 in
theorem gL_law_X7_change : GoodIn wsL_law (wsV RL 113 RX7 yX7_change wsX7_change) := goodIn_app (goodIn_of _ (by decide +kernel)) ggL_law_X7_change
set_option maxRecDepth 20000 in
theorem ggL_law_X6_stain : GoodIn wsL_law wsX6_stain := goodIn_r _ [794, 27, 780, 781, 2, 782, 165, 166, 167, 795, 796, 797, 26, 798, 113, 886, 887, 888, 889, 890, 891, 965, 966, 967, 968, 969] (by decide +kernel) (by decide +kernel)
set_option maxRecDepth 20000 in
theorem gL_law_X6_stain : GoodIn wsL_law (wsV RL 114 RX6 yX6_stain wsX6_stain) := goodIn_app (goodIn_of _ (by decide +kernel)) ggL_law_X6_stain
set_option maxRecDepth 20000 in
theorem ggL_law_X7_stain : GoodIn wsL_law wsX7_stain := goodIn_r _ [802, 146, 188, 189, 5, 190, 892, 893, 894, 895, 896, 897, 898, 899, 900, 901, 902, 903, 904, 905, 906, 907, 908, 909, 910, 911, 912, 913, 914, 915, 916, 917, 918, 919, 920, 921, 922, 923, 924, 925, 926, 927, 928, 929, 930, 931, 932, 933, 934] (by decide +kernel) (by decide +kernel)
set_option maxRecDepth 20000 in
theorem gL_law_X7_stain : GoodIn wsL_law (wsV RL 117 RX7 yX7_stain wsX7_stain) := goodIn_app (goodIn_of _ (by decide +kernel)) ggL_law_X7_stain
set_option maxRecDepth 20000 in
theorem ggL_law_X6_tour : GoodIn wsL_law wsX6_tour := goodIn_r _ [806, 27, 35, 165, 166, 2, 167, 780, 781, 782, 807, 808, 26, 809, 810, 811, 812, 813, 814, 815, 114, 816, 817, 818, 819, 820, 821, 822, 823, 824, 825, 826, 827, 828, 829, 830, 831, 832, 113, 112, 833, 834, 835, 836, 837, 838, 839, 840, 841, 842, 843, 844, 886, 887, 888, 889, 890, 891, 965, 966, 967, 968, 969] (by decide +kernel) (by decide +kernel)
set_option maxRecDepth 20000 in
theorem gL_law_X6_tour : GoodIn wsL_law (wsV RL 118 RX6 yX6_tour wsX6_tour) := goodIn_app (goodIn_of _ (by decide +kernel)) ggL_law_X6_tour
set_option maxRecDepth 20000 in
theorem ggL_law_X7_tour : GoodIn wsL_law wsX7_tour := goodIn_r _ [848, 849, 150, 188, 189, 5, 190, 850, 851, 852, 853, 145, 146, 144, 892, 893, 894, 895, 896, 897, 898, 899, 900, 901, 902, 903, 904, 905, 906, 907, 908, 909, 910, 911, 912, 913, 914, 915, 916, 917, 918, 919, 920, 921, 922, 923, 924, 925, 926, 927, 928, 929, 930, 931, 932, 933, 934] (by decide +kernel) (by decide +kernel)
set_option maxRecDepth 20000 in
theorem gL_law_X7_tour : GoodIn wsL_law (wsV RL 121 RX7 yX7_tour wsX7_tour) := goodIn_app (goodIn_of _ (by decide +kernel)) ggL_law_X7_tour
set_option maxRecDepth 20000 in
theorem ggL_law_X6_scale : GoodIn wsL_law wsX6_scale := goodIn_r _ [857, 19, 573, 457, 458, 18, 459, 328, 166, 2, 167, 165, 858, 859, 860, 861, 90, 886, 887, 888, 889, 890, 891, 944, 945, 946, 947, 948, 949, 950, 951, 952] (by decide +kernel) (by decide +kernel)
set_option maxRecDepth 20000 in
theorem gL_law_X6_scale : GoodIn wsL_law (wsV RL 122 RX6 yX6_scale wsX6_scale) := goodIn_app (goodIn_of _ (by decide +kernel)) ggL_law_X6_scale
set_option maxRecDepth 20000 in
theorem ggL_law_X7_scale : GoodIn wsL_law wsX7_scale := goodIn_r _ [865, 140, 467, 468, 469, 5, 470, 353, 188, 189, 190, 892, 893, 894, 895, 896, 897, 898, 899, 900, 901, 902, 903, 904, 905, 906, 907, 908, 909, 910, 911, 912, 913, 914, 915, 916, 917, 918, 919, 920, 921, 922, 923, 924, 925, 926, 927, 928, 929, 930, 931, 932, 933, 934] (by decide +kernel) (by decide +kernel)
set_option maxRecDepth 20000 in
theorem gL_law_X7_scale : GoodIn wsL_law (wsV RL 125 RX7 yX7_scale wsX7_scale) := goodIn_app (goodIn_of _ (by decide +kernel)) ggL_law_X7_scale
set_option maxRecDepth 20000 in
theorem ggL_law_X6_scales : GoodIn wsL_law wsX6_scales := goodIn_r _ [869, 19, 35, 870, 871, 872, 18, 873, 328, 90, 425, 426, 427, 428, 874, 875, 876, 877, 878, 879, 880, 881, 886, 887, 888, 889, 890, 891, 944, 945, 946, 947, 948, 949, 950, 951, 952] (by decide +kernel) (by decide +kernel)
set_option maxRecDepth 20000 in
theorem gL_law_X6_scales : GoodIn wsL_law (wsV RL 126 RX6 yX6_scales wsX6_scales) := goodIn_app (goodIn_of _ (by decide +kernel)) ggL_law_X6_scales
set_option maxRecDepth 20000 in
theorem ggL_law_X7_scales : GoodIn wsL_law wsX7_scales := goodIn_r _ [885, 353, 140, 144, 188, 189, 5, 190, 892, 893, 894, 895, 896, 897, 898, 899, 900, 901, 902, 903, 904, 905, 906, 907, 908, 909, 910, 911, 912, 913, 914, 915, 916, 917, 918, 919, 920, 921, 922, 923, 924, 925, 926, 927, 928, 929, 930, 931, 932, 933, 934] (by decide +kernel) (by decide +kernel)
set_option maxRecDepth 20000 in
theorem gL_law_X7_scales : GoodIn wsL_law (wsV RL 129 RX7 yX7_scales wsX7_scales) := goodIn_app (goodIn_of _ (by decide +kernel)) ggL_law_X7_scales
