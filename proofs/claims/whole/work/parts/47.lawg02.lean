set_option maxRecDepth 20000 in
theorem ggL_law_X7_plan : GoodIn wsL_law wsX7_plan := goodIn_r _ [550, 31, 151, 152, 2, 153, 551, 30, 552, 553, 76, 554, 77, 555, 556, 557, 558, 559, 560, 561, 78, 176, 177, 215, 26, 216, 217, 67, 68, 66, 210, 211, 212, 213, 562, 563, 61, 564, 226, 22, 227, 228, 53, 565, 566, 567, 568, 569, 570, 571, 572, 223, 224, 225, 70, 71, 229, 230, 231, 57, 232, 196, 197, 198, 55, 233, 18, 234, 235, 236, 237, 238, 239, 240, 48, 241, 242, 243, 244, 245, 246, 247, 248, 202, 203, 204, 205, 249, 250, 251, 252, 573, 574, 575, 576, 577, 578, 579, 580, 581, 582, 583, 584, 585, 586, 587, 588, 589, 590, 591, 592, 593, 594, 595, 596, 597, 598, 599, 600, 601, 602, 603, 604, 605, 606, 170, 171, 172, 157, 886, 887, 888, 889, 890, 891, 965, 966, 967, 951, 952, 953, 954, 955, 956, 957, 958, 959, 960, 961, 962, 963, 964, 949, 950] (by decide +kernel) (by decide +kernel)
set_option maxRecDepth 20000 in
theorem gL_law_X7_plan : GoodIn wsL_law (wsV RL 70 RX7 yX7_plan wsX7_plan) := goodIn_app (goodIn_of _ (by decide +kernel)) ggL_law_X7_plan
set_option maxRecDepth 20000 in
theorem ggL_law_X8_plan : GoodIn wsL_law wsX8_plan := goodIn_r _ [610, 105, 162, 108, 611, 612, 613, 107, 163, 164, 5, 165, 189, 190, 191, 285, 286, 287, 288, 614, 615, 616, 617, 106, 618, 619, 620, 621, 622, 261, 262, 263, 264, 100, 103, 257, 258, 259, 260, 102, 265, 266, 267, 268, 269, 270, 271, 272, 273, 96, 274, 275, 276, 277, 95, 278, 279, 280, 281, 282, 283, 284, 892, 893, 894, 895, 896, 897, 898, 899, 900, 901, 902, 903, 904, 905, 906, 907, 908, 909, 910, 911, 912, 913, 914, 915, 916, 917, 918, 919, 920, 921, 922, 923, 924, 925, 926, 927, 928, 929, 930, 931, 932, 933, 934, 935, 936] (by decide +kernel) (by decide +kernel)
set_option maxRecDepth 20000 in
theorem gL_law_X8_plan : GoodIn wsL_law (wsV RL 73 RX8 yX8_plan wsX8_plan) := goodIn_app (goodIn_of _ (by decide +kernel)) ggL_law_X8_plan
set_option maxRecDepth 20000 in
theorem ggL_law_X7_uneven : GoodIn wsL_law wsX7_uneven := goodIn_r _ [626, 23, 27, 886, 887, 888, 889, 890, 891, 951, 952, 953, 954, 955, 956, 957, 958, 959, 960, 961, 962, 963, 964] (by decide +kernel) (by decide +kernel)
set_option maxRecDepth 20000 in
theorem gL_law_X7_uneven : GoodIn wsL_law (wsV RL 74 RX7 yX7_uneven wsX7_uneven) := goodIn_app (goodIn_of _ (by decide +kernel)) ggL_law_X7_uneven
set_option maxRecDepth 20000 in
theorem ggL_law_X8_uneven : GoodIn wsL_law wsX8_uneven := goodIn_r _ [630, 162, 285, 286, 287, 5, 288, 105, 892, 893, 894, 895, 896, 897, 898, 899, 900, 901, 902, 903, 904, 905, 906, 907, 908, 909, 910, 911, 912, 913, 914, 915, 916, 917, 918, 919, 920, 921, 922, 923, 924, 925, 926, 927, 928, 929, 930, 931, 932, 933, 934, 935, 936] (by decide +kernel) (by decide +kernel)
set_option maxRecDepth 20000 in
theorem gL_law_X8_uneven : GoodIn wsL_law (wsV RL 78 RX8 yX8_uneven wsX8_uneven) := goodIn_app (goodIn_of _ (by decide +kernel)) ggL_law_X8_uneven
set_option maxRecDepth 20000 in
theorem ggL_law_X7_against : GoodIn wsL_law wsX7_against := goodIn_r _ [634, 23, 35, 170, 22, 171, 172, 157, 152, 2, 153, 151, 886, 887, 888, 889, 890, 891, 968, 969, 970, 971, 972, 973, 974, 951, 952, 953, 954, 955, 956, 957, 958] (by decide +kernel) (by decide +kernel)
set_option maxRecDepth 20000 in
theorem gL_law_X7_against : GoodIn wsL_law (wsV RL 79 RX7 yX7_against wsX7_against) := goodIn_app (goodIn_of _ (by decide +kernel)) ggL_law_X7_against
set_option maxRecDepth 20000 in
theorem ggL_law_X8_against : GoodIn wsL_law wsX8_against := goodIn_r _ [638, 124, 185, 186, 187, 5, 188, 162, 163, 164, 165, 892, 893, 894, 895, 896, 897, 898, 899, 900, 901, 902, 903, 904, 905, 906, 907, 908, 909, 910, 911, 912, 913, 914, 915, 916, 917, 918, 919, 920, 921, 922, 923, 924, 925, 926, 927, 928, 929, 930, 931, 932, 933, 934, 935, 936] (by decide +kernel) (by decide +kernel)
set_option maxRecDepth 20000 in
theorem gL_law_X8_against : GoodIn wsL_law (wsV RL 82 RX8 yX8_against wsX8_against) := goodIn_app (goodIn_of _ (by decide +kernel)) ggL_law_X8_against
set_option maxRecDepth 20000 in
theorem ggL_law_X7_waive : GoodIn wsL_law wsX7_waive := goodIn_r _ [642, 35, 151, 152, 2, 153, 886, 887, 888, 889, 890, 891, 968, 969, 970, 971, 972, 973, 974] (by decide +kernel) (by decide +kernel)
set_option maxRecDepth 20000 in
theorem gL_law_X7_waive : GoodIn wsL_law (wsV RL 83 RX7 yX7_waive wsX7_waive) := goodIn_app (goodIn_of _ (by decide +kernel)) ggL_law_X7_waive
set_option maxRecDepth 20000 in
theorem ggL_law_X8_waive : GoodIn wsL_law wsX8_waive := goodIn_r _ [646, 125, 163, 164, 5, 165, 892, 893, 894, 895, 896, 897, 898, 899, 900, 901, 902, 903, 904, 905, 906, 907, 908, 909, 910, 911, 912, 913, 914, 915, 916, 917, 918, 919, 920, 921, 922, 923, 924, 925, 926, 927, 928, 929, 930, 931, 932, 933, 934, 935, 936] (by decide +kernel) (by decide +kernel)
set_option maxRecDepth 20000 in
theorem gL_law_X8_waive : GoodIn wsL_law (wsV RL 86 RX8 yX8_waive wsX8_waive) := goodIn_app (goodIn_of _ (by decide +kernel)) ggL_law_X8_waive
set_option maxRecDepth 20000 in
theorem ggL_law_X7_call : GoodIn wsL_law wsX7_call := goodIn_r _ [650, 35, 651, 652, 653, 151, 152, 2, 153, 654, 34, 655, 656, 657, 83, 658, 659, 660, 10, 11, 661, 662, 663, 664, 665, 666, 667, 668, 669, 670, 671, 672, 673, 674, 675, 676, 677, 678, 679, 87, 88, 233, 18, 234, 235, 236, 237, 238, 239, 240, 48, 241, 242, 243, 244, 680, 681, 682, 683, 86, 176, 177, 684, 685, 686, 687, 226, 22, 227, 228, 53, 229, 230, 231, 57, 232, 196, 197, 198, 55, 688, 689, 690, 54, 691, 692, 693, 694, 293, 294, 295, 58, 695, 696, 697, 698, 84, 699, 700, 701, 702, 85, 703, 704, 705, 706, 707, 708, 709, 710, 711, 712, 211, 26, 212, 213, 66, 713, 714, 715, 716, 717, 718, 719, 69, 67, 720, 60, 61, 62, 721, 722, 723, 724, 70, 886, 887, 888, 889, 890, 891, 968, 969, 970, 971, 972, 973, 974, 975, 976, 977, 978, 979, 980, 981, 982, 983, 984, 985, 986, 987, 988, 989, 949, 950, 951, 952, 953, 954, 955, 956, 957, 958, 959, 960, 961, 962, 963, 964] (by decide +kernel) (by decide +kernel)
set_option maxRecDepth 20000 in
theorem gL_law_X7_call : GoodIn wsL_law (wsV RL 87 RX7 yX7_call wsX7_call) := goodIn_app (goodIn_of _ (by decide +kernel)) ggL_law_X7_call
set_option maxRecDepth 20000 in
theorem ggL_law_X8_call : GoodIn wsL_law wsX8_call := goodIn_r _ [728, 315, 109, 110, 111, 112, 113, 114, 116, 118, 122, 123, 189, 190, 5, 191, 163, 164, 165, 729, 730, 731, 732, 105, 117, 115, 733, 734, 735, 736, 737, 738, 739, 740, 741, 742, 743, 744, 100, 103, 101, 104, 99, 124, 265, 266, 267, 268, 269, 270, 271, 272, 273, 96, 274, 275, 276, 277, 95, 278, 279, 280, 257, 258, 259, 260, 102, 745, 746, 747, 748, 125, 749, 750, 751, 752, 162, 285, 286, 287, 288, 311, 312, 313, 314, 892, 893, 894, 895, 896, 897, 898, 899, 900, 901, 902, 903, 904, 905, 906, 907, 908, 909, 910, 911, 912, 913, 914, 915, 916, 917, 918, 919, 920, 921, 922, 923, 924, 925, 926, 927, 928, 929, 930, 931, 932, 933, 934, 935, 936] (by decide +kernel) (by decide +kernel)
set_option maxRecDepth 20000 in
theorem gL_law_X8_call : GoodIn wsL_law (wsV RL 91 RX8 yX8_call wsX8_call) := goodIn_app (goodIn_of _ (by decide +kernel)) ggL_law_X8_call
set_option maxRecDepth 20000 in
theorem ggL_law_X7_asked : GoodIn wsL_law wsX7_asked := goodIn_r _ [756, 35, 757, 34, 758, 759, 657, 152, 2, 153, 760, 761, 762, 83, 886, 887, 888, 889, 890, 891, 975, 976, 977, 978, 979, 980, 981, 982, 983, 984, 985, 986, 987, 988, 989, 968, 969, 970, 971, 972, 973, 974] (by decide +kernel) (by decide +kernel)
set_option maxRecDepth 20000 in
theorem gL_law_X7_asked : GoodIn wsL_law (wsV RL 92 RX7 yX7_asked wsX7_asked) := goodIn_app (goodIn_of _ (by decide +kernel)) ggL_law_X7_asked
set_option maxRecDepth 20000 in
theorem ggL_law_X8_asked : GoodIn wsL_law wsX8_asked := goodIn_r _ [766, 115, 117, 767, 768, 769, 5, 770, 315, 163, 164, 165, 892, 893, 894, 895, 896, 897, 898, 899, 900, 901, 902, 903, 904, 905, 906, 907, 908, 909, 910, 911, 912, 913, 914, 915, 916, 917, 918, 919, 920, 921, 922, 923, 924, 925, 926, 927, 928, 929, 930, 931, 932, 933, 934, 935, 936] (by decide +kernel) (by decide +kernel)
set_option maxRecDepth 20000 in
theorem gL_law_X8_asked : GoodIn wsL_law (wsV RL 95 RX8 yX8_asked wsX8_asked) := goodIn_app (goodIn_of _ (by decide +kernel)) ggL_law_X8_asked
set_option maxRecDepth 20000 in
theorem ggL_law_X7_answer : GoodIn wsL_law wsX7_answer := goodIn_r _ [774, 35, 757, 34, 758, 759, 657, 152, 2, 153, 760, 761, 762, 83, 775, 776, 777, 778, 779, 579, 780, 87, 88, 86, 691, 692, 693, 694, 293, 22, 294, 295, 58, 233, 18, 234, 235, 236, 237, 238, 239, 240, 48, 241, 242, 243, 244, 211, 26, 212, 213, 66, 673, 674, 675, 676, 677, 678, 679, 680, 681, 682, 683, 176, 177, 684, 685, 686, 687, 226, 227, 228, 53, 229, 230, 231, 57, 232, 196, 197, 198, 55, 688, 689, 690, 54, 695, 696, 697, 698, 84, 699, 700, 701, 702, 85, 703, 653, 704, 705, 668, 669, 706, 707, 708, 709, 710, 711, 712, 713, 714, 715, 716, 717, 718, 719, 69, 67, 720, 60, 61, 62, 721, 722, 723, 724, 70, 886, 887, 888, 889, 890, 891, 975, 976, 977, 978, 979, 980, 981, 982, 983, 984, 985, 986, 987, 988, 989, 968, 969, 970, 971, 972, 973, 974, 951, 952, 953, 954, 955, 956, 957, 958, 949, 950, 959, 960, 961, 962, 963, 964] (by decide +kernel) (by decide +kernel)
set_option maxRecDepth 20000 in
theorem gL_law_X7_answer : GoodIn wsL_law (wsV RL 96 RX7 yX7_answer wsX7_answer) := goodIn_app (goodIn_of _ (by decide +kernel)) ggL_law_X7_answer
set_option maxRecDepth 20000 in
theorem ggL_law_X8_answer : GoodIn wsL_law wsX8_answer := goodIn_r _ [784, 115, 117, 118, 120, 104, 99, 111, 119, 116, 109, 121, 105, 110, 767, 768, 769, 5, 770, 315, 163, 164, 165, 265, 266, 267, 268, 269, 270, 271, 272, 273, 96, 274, 275, 276, 277, 95, 278, 279, 280, 729, 730, 731, 732, 123, 733, 734, 735, 736, 113, 114, 737, 738, 739, 740, 741, 742, 743, 744, 100, 103, 112, 101, 124, 257, 258, 259, 260, 102, 745, 746, 747, 748, 125, 749, 750, 751, 752, 162, 285, 286, 287, 288, 311, 312, 313, 314, 892, 893, 894, 895, 896, 897, 898, 899, 900, 901, 902, 903, 904, 905, 906, 907, 908, 909, 910, 911, 912, 913, 914, 915, 916, 917, 918, 919, 920, 921, 922, 923, 924, 925, 926, 927, 928, 929, 930, 931, 932, 933, 934, 935, 936] (by decide +kernel) (by decide +kernel)
set_option maxRecDepth 20000 in
theorem gL_law_X8_answer : GoodIn wsL_law (wsV RL 100 RX8 yX8_answer wsX8_answer) := goodIn_app (goodIn_of _ (by decide +kernel)) ggL_law_X8_answer
