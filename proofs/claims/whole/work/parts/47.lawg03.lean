set_option maxRecDepth 20000 in
theorem ggL_law_X7_told : GoodIn wsL_law wsX7_told := goodIn_r _ [788, 35, 19, 757, 34, 758, 759, 657, 152, 2, 153, 151, 760, 761, 762, 83, 233, 18, 234, 235, 236, 237, 238, 239, 240, 48, 241, 242, 243, 244, 789, 653, 790, 791, 792, 886, 887, 888, 889, 890, 891, 975, 976, 977, 978, 979, 980, 981, 982, 983, 984, 985, 986, 987, 988, 989, 968, 969, 970, 971, 972, 973, 974, 949, 950] (by decide +kernel) (by decide +kernel)
set_option maxRecDepth 20000 in
theorem gL_law_X7_told : GoodIn wsL_law (wsV RL 101 RX7 yX7_told wsX7_told) := goodIn_app (goodIn_of _ (by decide +kernel)) ggL_law_X7_told
set_option maxRecDepth 20000 in
theorem ggL_law_X8_told : GoodIn wsL_law wsX8_told := goodIn_r _ [796, 115, 116, 118, 119, 109, 121, 767, 768, 769, 5, 770, 315, 163, 164, 165, 265, 266, 267, 268, 269, 270, 271, 272, 273, 96, 274, 275, 276, 277, 95, 278, 279, 280, 892, 893, 894, 895, 896, 897, 898, 899, 900, 901, 902, 903, 904, 905, 906, 907, 908, 909, 910, 911, 912, 913, 914, 915, 916, 917, 918, 919, 920, 921, 922, 923, 924, 925, 926, 927, 928, 929, 930, 931, 932, 933, 934, 935, 936] (by decide +kernel) (by decide +kernel)
set_option maxRecDepth 20000 in
theorem gL_law_X8_told : GoodIn wsL_law (wsV RL 104 RX8 yX8_told wsX8_told) := goodIn_app (goodIn_of _ (by decide +kernel)) ggL_law_X8_told
set_option maxRecDepth 20000 in
theorem ggL_law_X7_barred : GoodIn wsL_law wsX7_barred := goodIn_r _ [800, 35, 23, 19, 757, 34, 758, 759, 657, 152, 2, 153, 170, 22, 171, 172, 157, 760, 761, 762, 83, 233, 18, 234, 235, 236, 237, 238, 239, 240, 48, 241, 242, 243, 244, 685, 686, 687, 86, 226, 227, 228, 53, 176, 177, 229, 230, 231, 57, 232, 196, 197, 198, 55, 688, 689, 690, 54, 691, 692, 693, 694, 293, 294, 295, 58, 695, 696, 697, 698, 84, 699, 700, 701, 702, 85, 703, 653, 704, 705, 668, 669, 886, 887, 888, 889, 890, 891, 975, 976, 977, 978, 979, 980, 981, 982, 983, 984, 985, 986, 987, 988, 989, 968, 969, 970, 971, 972, 973, 974, 951, 952, 953, 954, 955, 956, 957, 958, 949, 950] (by decide +kernel) (by decide +kernel)
set_option maxRecDepth 20000 in
theorem gL_law_X7_barred : GoodIn wsL_law (wsV RL 105 RX7 yX7_barred wsX7_barred) := goodIn_app (goodIn_of _ (by decide +kernel)) ggL_law_X7_barred
set_option maxRecDepth 20000 in
theorem ggL_law_X8_barred : GoodIn wsL_law wsX8_barred := goodIn_r _ [804, 767, 768, 769, 5, 770, 315, 163, 164, 165, 185, 186, 187, 188, 162, 741, 742, 743, 744, 109, 100, 110, 103, 112, 101, 104, 99, 111, 124, 113, 265, 266, 267, 268, 269, 270, 271, 272, 273, 96, 274, 275, 276, 277, 95, 278, 279, 280, 257, 258, 259, 260, 102, 745, 746, 747, 748, 114, 118, 125, 892, 893, 894, 895, 896, 897, 898, 899, 900, 901, 902, 903, 904, 905, 906, 907, 908, 909, 910, 911, 912, 913, 914, 915, 916, 917, 918, 919, 920, 921, 922, 923, 924, 925, 926, 927, 928, 929, 930, 931, 932, 933, 934, 935, 936] (by decide +kernel) (by decide +kernel)
set_option maxRecDepth 20000 in
theorem gL_law_X8_barred : GoodIn wsL_law (wsV RL 108 RX8 yX8_barred wsX8_barred) := goodIn_app (goodIn_of _ (by decide +kernel)) ggL_law_X8_barred
set_option maxRecDepth 20000 in
theorem ggL_law_X7_claim : GoodIn wsL_law wsX7_claim := goodIn_r _ [808, 35, 19, 757, 34, 758, 759, 657, 152, 2, 153, 516, 18, 517, 518, 236, 760, 761, 762, 83, 809, 810, 811, 237, 238, 239, 240, 48, 241, 242, 243, 244, 812, 653, 813, 814, 815, 816, 579, 817, 818, 779, 780, 819, 820, 821, 822, 823, 824, 825, 826, 827, 828, 829, 789, 790, 791, 792, 886, 887, 888, 889, 890, 891, 975, 976, 977, 978, 979, 980, 981, 982, 983, 984, 985, 986, 987, 988, 989, 968, 969, 970, 971, 972, 973, 974, 949, 950] (by decide +kernel) (by decide +kernel)
set_option maxRecDepth 20000 in
theorem gL_law_X7_claim : GoodIn wsL_law (wsV RL 109 RX7 yX7_claim wsX7_claim) := goodIn_app (goodIn_of _ (by decide +kernel)) ggL_law_X7_claim
set_option maxRecDepth 20000 in
theorem ggL_law_X8_claim : GoodIn wsL_law wsX8_claim := goodIn_r _ [833, 269, 115, 767, 768, 769, 5, 770, 315, 163, 164, 165, 834, 835, 836, 837, 838, 839, 840, 841, 109, 121, 120, 119, 270, 271, 272, 273, 96, 274, 275, 276, 277, 95, 278, 279, 280, 892, 893, 894, 895, 896, 897, 898, 899, 900, 901, 902, 903, 904, 905, 906, 907, 908, 909, 910, 911, 912, 913, 914, 915, 916, 917, 918, 919, 920, 921, 922, 923, 924, 925, 926, 927, 928, 929, 930, 931, 932, 933, 934, 935, 936] (by decide +kernel) (by decide +kernel)
set_option maxRecDepth 20000 in
theorem gL_law_X8_claim : GoodIn wsL_law (wsV RL 112 RX8 yX8_claim wsX8_claim) := goodIn_app (goodIn_of _ (by decide +kernel)) ggL_law_X8_claim
set_option maxRecDepth 20000 in
theorem ggL_law_X7_line : GoodIn wsL_law wsX7_line := goodIn_r _ [845, 35, 19, 757, 34, 758, 759, 657, 152, 2, 153, 516, 18, 517, 518, 236, 760, 761, 762, 83, 151, 809, 810, 811, 237, 238, 239, 240, 48, 241, 242, 243, 244, 846, 653, 847, 848, 815, 816, 579, 817, 823, 824, 825, 826, 827, 828, 829, 789, 790, 791, 792, 819, 820, 821, 822, 886, 887, 888, 889, 890, 891, 975, 976, 977, 978, 979, 980, 981, 982, 983, 984, 985, 986, 987, 988, 989, 968, 969, 970, 971, 972, 973, 974, 949, 950] (by decide +kernel) (by decide +kernel)
set_option maxRecDepth 20000 in
theorem gL_law_X7_line : GoodIn wsL_law (wsV RL 113 RX7 yX7_line wsX7_line) := goodIn_app (goodIn_of _ (by decide +kernel)) ggL_law_X7_line
set_option maxRecDepth 20000 in
theorem ggL_law_X8_line : GoodIn wsL_law wsX8_line := goodIn_r _ [852, 269, 115, 767, 768, 769, 5, 770, 315, 163, 164, 165, 838, 839, 840, 841, 109, 121, 120, 119, 270, 271, 272, 273, 96, 274, 275, 276, 277, 95, 278, 279, 280, 892, 893, 894, 895, 896, 897, 898, 899, 900, 901, 902, 903, 904, 905, 906, 907, 908, 909, 910, 911, 912, 913, 914, 915, 916, 917, 918, 919, 920, 921, 922, 923, 924, 925, 926, 927, 928, 929, 930, 931, 932, 933, 934, 935, 936] (by decide +kernel) (by decide +kernel)
set_option maxRecDepth 20000 in
theorem gL_law_X8_line : GoodIn wsL_law (wsV RL 116 RX8 yX8_line wsX8_line) := goodIn_app (goodIn_of _ (by decide +kernel)) ggL_law_X8_line
set_option maxRecDepth 20000 in
theorem ggL_law_X7_pay : GoodIn wsL_law wsX7_pay := goodIn_r _ [856, 35, 19, 757, 34, 758, 759, 657, 152, 2, 153, 760, 761, 762, 83, 233, 18, 234, 235, 236, 237, 238, 239, 240, 48, 241, 242, 243, 244, 812, 653, 813, 814, 815, 816, 579, 817, 818, 779, 780, 819, 820, 821, 822, 823, 824, 825, 826, 827, 828, 829, 789, 790, 791, 792, 886, 887, 888, 889, 890, 891, 975, 976, 977, 978, 979, 980, 981, 982, 983, 984, 985, 986, 987, 988, 989, 968, 969, 970, 971, 972, 973, 974, 949, 950] (by decide +kernel) (by decide +kernel)
set_option maxRecDepth 20000 in
theorem gL_law_X7_pay : GoodIn wsL_law (wsV RL 117 RX7 yX7_pay wsX7_pay) := goodIn_app (goodIn_of _ (by decide +kernel)) ggL_law_X7_pay
set_option maxRecDepth 20000 in
theorem ggL_law_X8_pay : GoodIn wsL_law wsX8_pay := goodIn_r _ [860, 115, 269, 122, 767, 768, 769, 5, 770, 315, 163, 164, 165, 834, 835, 836, 837, 838, 839, 840, 841, 109, 121, 120, 119, 270, 271, 272, 273, 96, 274, 275, 276, 277, 95, 278, 279, 280, 892, 893, 894, 895, 896, 897, 898, 899, 900, 901, 902, 903, 904, 905, 906, 907, 908, 909, 910, 911, 912, 913, 914, 915, 916, 917, 918, 919, 920, 921, 922, 923, 924, 925, 926, 927, 928, 929, 930, 931, 932, 933, 934, 935, 936] (by decide +kernel) (by decide +kernel)
set_option maxRecDepth 20000 in
theorem gL_law_X8_pay : GoodIn wsL_law (wsV RL 120 RX8 yX8_pay wsX8_pay) := goodIn_app (goodIn_of _ (by decide +kernel)) ggL_law_X8_pay
set_option maxRecDepth 20000 in
theorem ggL_law_X7_paid : GoodIn wsL_law wsX7_paid := goodIn_r _ [864, 23, 35, 170, 22, 171, 172, 157, 152, 2, 153, 865, 34, 866, 867, 657, 83, 886, 887, 888, 889, 890, 891, 951, 952, 953, 954, 955, 956, 957, 958, 968, 969, 970, 971, 972, 973, 974, 975, 976, 977, 978, 979, 980, 981, 982, 983, 984, 985, 986, 987, 988, 989] (by decide +kernel) (by decide +kernel)
set_option maxRecDepth 20000 in
theorem gL_law_X7_paid : GoodIn wsL_law (wsV RL 121 RX7 yX7_paid wsX7_paid) := goodIn_app (goodIn_of _ (by decide +kernel)) ggL_law_X7_paid
set_option maxRecDepth 20000 in
theorem ggL_law_X8_paid : GoodIn wsL_law wsX8_paid := goodIn_r _ [871, 315, 118, 122, 185, 186, 187, 5, 188, 162, 163, 164, 165, 892, 893, 894, 895, 896, 897, 898, 899, 900, 901, 902, 903, 904, 905, 906, 907, 908, 909, 910, 911, 912, 913, 914, 915, 916, 917, 918, 919, 920, 921, 922, 923, 924, 925, 926, 927, 928, 929, 930, 931, 932, 933, 934, 935, 936] (by decide +kernel) (by decide +kernel)
set_option maxRecDepth 20000 in
theorem gL_law_X8_paid : GoodIn wsL_law (wsV RL 124 RX8 yX8_paid wsX8_paid) := goodIn_app (goodIn_of _ (by decide +kernel)) ggL_law_X8_paid
set_option maxRecDepth 20000 in
theorem ggL_law_X7_count : GoodIn wsL_law wsX7_count := goodIn_r _ [875, 23, 19, 35, 27, 15, 876, 26, 877, 878, 70, 68, 879, 34, 880, 881, 657, 83, 886, 887, 888, 889, 890, 891, 951, 952, 953, 954, 955, 956, 957, 958, 949, 950, 968, 969, 970, 971, 972, 973, 974, 937, 938, 939, 940, 941, 942, 943, 944, 945, 946, 947, 948, 959, 960, 961, 962, 963, 964, 975, 976, 977, 978, 979, 980, 981, 982, 983, 984, 985, 986, 987, 988, 989] (by decide +kernel) (by decide +kernel)
set_option maxRecDepth 20000 in
theorem gL_law_X7_count : GoodIn wsL_law (wsV RL 125 RX7 yX7_count wsX7_count) := goodIn_app (goodIn_of _ (by decide +kernel)) ggL_law_X7_count
set_option maxRecDepth 20000 in
theorem ggL_law_X8_count : GoodIn wsL_law wsX8_count := goodIn_r _ [885, 162, 269, 315, 105, 138, 115, 892, 893, 894, 895, 896, 897, 898, 899, 900, 901, 902, 903, 904, 905, 906, 907, 908, 909, 910, 911, 912, 913, 914, 915, 916, 917, 918, 919, 920, 921, 922, 923, 924, 925, 926, 927, 928, 929, 930, 931, 932, 933, 934, 935, 936] (by decide +kernel) (by decide +kernel)
set_option maxRecDepth 20000 in
theorem gL_law_X8_count : GoodIn wsL_law (wsV RL 128 RX8 yX8_count wsX8_count) := goodIn_app (goodIn_of _ (by decide +kernel)) ggL_law_X8_count
