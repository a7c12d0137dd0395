set_option maxRecDepth 20000 in
theorem ggL_law_X7_init : GoodIn wsL_law wsX7_init := goodIn_r _ [8, 9, 10, 11, 12, 13, 14, 15, 16, 17, 18, 19, 20, 21, 22, 23, 24, 25, 26, 27, 28, 29, 30, 31, 32, 33, 34, 35, 36, 37, 38, 39, 40, 41, 42, 43, 44, 45, 46, 47, 48, 49, 50, 51, 52, 53, 54, 55, 56, 57, 58, 59, 60, 61, 62, 63, 64, 65, 66, 67, 68, 69, 70, 71, 72, 73, 74, 75, 76, 77, 78, 79, 80, 81, 82, 83, 84, 85, 86, 87, 88, 937, 938, 939, 940, 941, 942, 943, 944, 945, 946, 947, 948, 886, 887, 888, 889, 890, 891, 949, 950, 951, 952, 953, 954, 955, 956, 957, 958, 959, 960, 961, 962, 963, 964, 965, 966, 967, 968, 969, 970, 971, 972, 973, 974] (by decide +kernel) (by decide +kernel)
set_option maxRecDepth 20000 in
theorem gL_law_X7_init : GoodIn wsL_law (wsX7_init) := ggL_law_X7_init
set_option maxRecDepth 20000 in
theorem ggL_law_X8_init : GoodIn wsL_law wsX8_init := goodIn_r _ [91, 92, 10, 11, 39, 93, 94, 41, 95, 96, 97, 98, 99, 100, 101, 102, 103, 104, 105, 106, 107, 108, 109, 110, 111, 112, 113, 114, 115, 116, 117, 118, 119, 120, 121, 122, 123, 124, 125, 892, 893, 894, 895, 896, 897, 898, 899, 900, 901, 902, 903, 904, 905, 906, 907, 908, 909, 910, 911, 912, 913, 914, 915, 916, 917, 918, 919, 920, 921, 922, 923, 924, 925, 926, 927, 928, 929, 930, 931, 932, 933, 934, 935, 936] (by decide +kernel) (by decide +kernel)
set_option maxRecDepth 20000 in
theorem gL_law_X8_init : GoodIn wsL_law (wsX8_init) := ggL_law_X8_init
set_option maxRecDepth 20000 in
theorem ggL_law_X7_feed : GoodIn wsL_law wsX7_feed := goodIn_r _ [129, 15, 130, 14, 131, 132, 133, 40, 886, 887, 888, 889, 890, 891, 937, 938, 939, 940, 941, 942, 943, 944, 945, 946, 947, 948] (by decide +kernel) (by decide +kernel)
set_option maxRecDepth 20000 in
theorem gL_law_X7_feed : GoodIn wsL_law (wsV RL 13 RX7 yX7_feed wsX7_feed) := goodIn_app (goodIn_of _ (by decide +kernel)) ggL_law_X7_feed
set_option maxRecDepth 20000 in
theorem ggL_law_X8_feed : GoodIn wsL_law wsX8_feed := goodIn_r _ [137, 138, 93, 892, 893, 894, 895, 896, 897, 898, 899, 900, 901, 902, 903, 904, 905, 906, 907, 908, 909, 910, 911, 912, 913, 914, 915, 916, 917, 918, 919, 920, 921, 922, 923, 924, 925, 926, 927, 928, 929, 930, 931, 932, 933, 934, 935, 936] (by decide +kernel) (by decide +kernel)
set_option maxRecDepth 20000 in
theorem gL_law_X8_feed : GoodIn wsL_law (wsV RL 17 RX8 yX8_feed wsX8_feed) := goodIn_app (goodIn_of _ (by decide +kernel)) ggL_law_X8_feed
set_option maxRecDepth 20000 in
theorem ggL_law_X7_end : GoodIn wsL_law wsX7_end := goodIn_r _ [142, 15, 886, 887, 888, 889, 890, 891, 937, 938, 939, 940, 941, 942, 943, 944, 945, 946, 947, 948] (by decide +kernel) (by decide +kernel)
set_option maxRecDepth 20000 in
theorem gL_law_X7_end : GoodIn wsL_law (wsV RL 18 RX7 yX7_end wsX7_end) := goodIn_app (goodIn_of _ (by decide +kernel)) ggL_law_X7_end
set_option maxRecDepth 20000 in
theorem ggL_law_X8_end : GoodIn wsL_law wsX8_end := goodIn_r _ [146, 138, 892, 893, 894, 895, 896, 897, 898, 899, 900, 901, 902, 903, 904, 905, 906, 907, 908, 909, 910, 911, 912, 913, 914, 915, 916, 917, 918, 919, 920, 921, 922, 923, 924, 925, 926, 927, 928, 929, 930, 931, 932, 933, 934, 935, 936] (by decide +kernel) (by decide +kernel)
set_option maxRecDepth 20000 in
theorem gL_law_X8_end : GoodIn wsL_law (wsV RL 22 RX8 yX8_end wsX8_end) := goodIn_app (goodIn_of _ (by decide +kernel)) ggL_law_X8_end
set_option maxRecDepth 20000 in
theorem ggL_law_X7_enter : GoodIn wsL_law wsX7_enter := goodIn_r _ [150, 23, 151, 152, 2, 153, 154, 22, 155, 156, 52, 157, 53, 54, 886, 887, 888, 889, 890, 891, 951, 952, 953, 954, 955, 956, 957, 958] (by decide +kernel) (by decide +kernel)
set_option maxRecDepth 20000 in
theorem gL_law_X7_enter : GoodIn wsL_law (wsV RL 23 RX7 yX7_enter wsX7_enter) := goodIn_app (goodIn_of _ (by decide +kernel)) ggL_law_X7_enter
set_option maxRecDepth 20000 in
theorem ggL_law_X8_enter : GoodIn wsL_law wsX8_enter := goodIn_r _ [161, 162, 99, 100, 101, 102, 163, 164, 5, 165, 892, 893, 894, 895, 896, 897, 898, 899, 900, 901, 902, 903, 904, 905, 906, 907, 908, 909, 910, 911, 912, 913, 914, 915, 916, 917, 918, 919, 920, 921, 922, 923, 924, 925, 926, 927, 928, 929, 930, 931, 932, 933, 934, 935, 936] (by decide +kernel) (by decide +kernel)
set_option maxRecDepth 20000 in
theorem gL_law_X8_enter : GoodIn wsL_law (wsV RL 27 RX8 yX8_enter wsX8_enter) := goodIn_app (goodIn_of _ (by decide +kernel)) ggL_law_X8_enter
set_option maxRecDepth 20000 in
theorem ggL_law_X7_away : GoodIn wsL_law wsX7_away := goodIn_r _ [169, 23, 170, 22, 171, 172, 157, 152, 2, 153, 151, 173, 174, 175, 57, 176, 177, 178, 179, 180, 886, 887, 888, 889, 890, 891, 951, 952, 953, 954, 955, 956, 957, 958] (by decide +kernel) (by decide +kernel)
set_option maxRecDepth 20000 in
theorem gL_law_X7_away : GoodIn wsL_law (wsV RL 28 RX7 yX7_away wsX7_away) := goodIn_app (goodIn_of _ (by decide +kernel)) ggL_law_X7_away
set_option maxRecDepth 20000 in
theorem ggL_law_X8_away : GoodIn wsL_law wsX8_away := goodIn_r _ [184, 103, 185, 186, 187, 5, 188, 162, 163, 164, 165, 189, 190, 191, 892, 893, 894, 895, 896, 897, 898, 899, 900, 901, 902, 903, 904, 905, 906, 907, 908, 909, 910, 911, 912, 913, 914, 915, 916, 917, 918, 919, 920, 921, 922, 923, 924, 925, 926, 927, 928, 929, 930, 931, 932, 933, 934, 935, 936] (by decide +kernel) (by decide +kernel)
set_option maxRecDepth 20000 in
theorem gL_law_X8_away : GoodIn wsL_law (wsV RL 32 RX8 yX8_away wsX8_away) := goodIn_app (goodIn_of _ (by decide +kernel)) ggL_law_X8_away
set_option maxRecDepth 20000 in
theorem ggL_law_X7_strike : GoodIn wsL_law wsX7_strike := goodIn_r _ [195, 23, 27, 170, 22, 171, 172, 157, 152, 2, 153, 151, 196, 197, 198, 55, 199, 26, 200, 201, 202, 203, 204, 205, 67, 206, 207, 208, 209, 210, 211, 212, 213, 66, 214, 215, 216, 217, 68, 218, 219, 220, 221, 70, 222, 223, 224, 225, 71, 226, 227, 228, 53, 176, 177, 229, 230, 231, 57, 232, 233, 18, 234, 235, 236, 237, 238, 239, 240, 48, 241, 242, 243, 244, 245, 246, 247, 248, 249, 250, 251, 252, 886, 887, 888, 889, 890, 891, 951, 952, 953, 954, 955, 956, 957, 958, 959, 960, 961, 962, 963, 964, 949, 950] (by decide +kernel) (by decide +kernel)
set_option maxRecDepth 20000 in
theorem gL_law_X7_strike : GoodIn wsL_law (wsV RL 33 RX7 yX7_strike wsX7_strike) := goodIn_app (goodIn_of _ (by decide +kernel)) ggL_law_X7_strike
set_option maxRecDepth 20000 in
theorem ggL_law_X8_strike : GoodIn wsL_law wsX8_strike := goodIn_r _ [256, 102, 105, 162, 185, 186, 187, 5, 188, 163, 164, 165, 189, 190, 191, 257, 258, 259, 260, 261, 262, 263, 264, 100, 103, 265, 266, 267, 268, 269, 270, 271, 272, 273, 96, 274, 275, 276, 277, 95, 278, 279, 280, 281, 282, 283, 284, 285, 286, 287, 288, 892, 893, 894, 895, 896, 897, 898, 899, 900, 901, 902, 903, 904, 905, 906, 907, 908, 909, 910, 911, 912, 913, 914, 915, 916, 917, 918, 919, 920, 921, 922, 923, 924, 925, 926, 927, 928, 929, 930, 931, 932, 933, 934, 935, 936] (by decide +kernel) (by decide +kernel)
set_option maxRecDepth 20000 in
theorem gL_law_X8_strike : GoodIn wsL_law (wsV RL 37 RX8 yX8_strike wsX8_strike) := goodIn_app (goodIn_of _ (by decide +kernel)) ggL_law_X8_strike
set_option maxRecDepth 20000 in
theorem ggL_law_X7_travel : GoodIn wsL_law wsX7_travel := goodIn_r _ [292, 23, 151, 152, 2, 153, 293, 22, 294, 295, 58, 296, 297, 298, 886, 887, 888, 889, 890, 891, 951, 952, 953, 954, 955, 956, 957, 958] (by decide +kernel) (by decide +kernel)
set_option maxRecDepth 20000 in
theorem gL_law_X7_travel : GoodIn wsL_law (wsV RL 38 RX7 yX7_travel wsX7_travel) := goodIn_app (goodIn_of _ (by decide +kernel)) ggL_law_X7_travel
set_option maxRecDepth 20000 in
theorem ggL_law_X8_travel : GoodIn wsL_law wsX8_travel := goodIn_r _ [302, 104, 163, 164, 5, 165, 892, 893, 894, 895, 896, 897, 898, 899, 900, 901, 902, 903, 904, 905, 906, 907, 908, 909, 910, 911, 912, 913, 914, 915, 916, 917, 918, 919, 920, 921, 922, 923, 924, 925, 926, 927, 928, 929, 930, 931, 932, 933, 934, 935, 936] (by decide +kernel) (by decide +kernel)
set_option maxRecDepth 20000 in
theorem gL_law_X8_travel : GoodIn wsL_law (wsV RL 41 RX8 yX8_travel wsX8_travel) := goodIn_app (goodIn_of _ (by decide +kernel)) ggL_law_X8_travel
