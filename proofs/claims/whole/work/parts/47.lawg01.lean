set_option maxRecDepth 20000 in
theorem ggL_law_X7_lawyer : GoodIn wsL_law wsX7_lawyer := goodIn_r _ [306, 23, 27, 170, 22, 171, 172, 157, 152, 2, 153, 886, 887, 888, 889, 890, 891, 951, 952, 953, 954, 955, 956, 957, 958, 959, 960, 961, 962, 963, 964] (by decide +kernel) (by decide +kernel)
set_option maxRecDepth 20000 in
theorem gL_law_X7_lawyer : GoodIn wsL_law (wsV RL 42 RX7 yX7_lawyer wsX7_lawyer) := goodIn_app (goodIn_of _ (by decide +kernel)) ggL_law_X7_lawyer
set_option maxRecDepth 20000 in
theorem ggL_law_X8_lawyer : GoodIn wsL_law wsX8_lawyer := goodIn_r _ [310, 99, 100, 101, 102, 185, 186, 187, 5, 188, 162, 163, 164, 165, 285, 286, 287, 288, 105, 311, 312, 313, 314, 315, 118, 892, 893, 894, 895, 896, 897, 898, 899, 900, 901, 902, 903, 904, 905, 906, 907, 908, 909, 910, 911, 912, 913, 914, 915, 916, 917, 918, 919, 920, 921, 922, 923, 924, 925, 926, 927, 928, 929, 930, 931, 932, 933, 934, 935, 936] (by decide +kernel) (by decide +kernel)
set_option maxRecDepth 20000 in
theorem gL_law_X8_lawyer : GoodIn wsL_law (wsV RL 45 RX8 yX8_lawyer wsX8_lawyer) := goodIn_app (goodIn_of _ (by decide +kernel)) ggL_law_X8_lawyer
set_option maxRecDepth 20000 in
theorem ggL_law_X7_edition : GoodIn wsL_law wsX7_edition := goodIn_r _ [319, 15, 19, 151, 152, 2, 153, 320, 14, 321, 322, 42, 323, 324, 325, 326, 327, 328, 329, 330, 331, 43, 133, 332, 333, 334, 335, 40, 336, 337, 338, 339, 340, 341, 342, 343, 344, 345, 346, 347, 348, 349, 350, 351, 352, 353, 354, 355, 356, 357, 358, 359, 360, 361, 362, 363, 364, 365, 366, 367, 368, 369, 370, 371, 372, 373, 374, 375, 376, 377, 378, 379, 380, 381, 382, 383, 384, 385, 386, 387, 388, 389, 390, 391, 392, 393, 394, 395, 396, 397, 398, 399, 400, 401, 402, 403, 404, 405, 406, 407, 408, 409, 410, 411, 412, 413, 414, 415, 416, 417, 418, 419, 420, 421, 422, 423, 424, 176, 177, 425, 426, 427, 428, 429, 430, 431, 432, 433, 434, 435, 436, 437, 438, 439, 440, 441, 442, 443, 444, 445, 446, 447, 448, 449, 450, 451, 452, 453, 454, 455, 456, 457, 458, 459, 460, 461, 18, 462, 463, 48, 236, 464, 886, 887, 888, 889, 890, 891, 937, 938, 939, 940, 941, 942, 943, 944, 945, 946, 947, 948, 949, 950] (by decide +kernel) (by decide +kernel)
set_option maxRecDepth 20000 in
theorem gL_law_X7_edition : GoodIn wsL_law (wsV RL 46 RX7 yX7_edition wsX7_edition) := goodIn_app (goodIn_of _ (by decide +kernel)) ggL_law_X7_edition
set_option maxRecDepth 20000 in
theorem ggL_law_X8_edition : GoodIn wsL_law wsX8_edition := goodIn_r _ [468, 138, 469, 470, 94, 471, 95, 98, 472, 269, 96, 189, 190, 5, 191, 163, 164, 165, 278, 279, 280, 473, 474, 475, 476, 477, 478, 479, 480, 481, 482, 483, 93, 484, 485, 486, 487, 488, 489, 490, 491, 373, 374, 375, 376, 377, 378, 379, 380, 381, 382, 383, 492, 385, 386, 387, 388, 389, 390, 391, 392, 393, 394, 395, 396, 397, 398, 399, 400, 401, 402, 403, 404, 405, 406, 407, 408, 409, 410, 411, 412, 413, 414, 415, 416, 417, 418, 419, 420, 493, 494, 495, 496, 497, 498, 499, 500, 501, 502, 503, 892, 893, 894, 895, 896, 897, 898, 899, 900, 901, 902, 903, 904, 905, 906, 907, 908, 909, 910, 911, 912, 913, 914, 915, 916, 917, 918, 919, 920, 921, 922, 923, 924, 925, 926, 927, 928, 929, 930, 931, 932, 933, 934, 935, 936] (by decide +kernel) (by decide +kernel)
set_option maxRecDepth 20000 in
theorem gL_law_X8_edition : GoodIn wsL_law (wsV RL 49 RX8 yX8_edition wsX8_edition) := goodIn_app (goodIn_of _ (by decide +kernel)) ggL_law_X8_edition
set_option maxRecDepth 20000 in
theorem ggL_law_X7_fault : GoodIn wsL_law wsX7_fault := goodIn_r _ [507, 15, 886, 887, 888, 889, 890, 891, 937, 938, 939, 940, 941, 942, 943, 944, 945, 946, 947, 948] (by decide +kernel) (by decide +kernel)
set_option maxRecDepth 20000 in
theorem gL_law_X7_fault : GoodIn wsL_law (wsV RL 50 RX7 yX7_fault wsX7_fault) := goodIn_app (goodIn_of _ (by decide +kernel)) ggL_law_X7_fault
set_option maxRecDepth 20000 in
theorem ggL_law_X8_fault : GoodIn wsL_law wsX8_fault := goodIn_r _ [511, 470, 94, 892, 893, 894, 895, 896, 897, 898, 899, 900, 901, 902, 903, 904, 905, 906, 907, 908, 909, 910, 911, 912, 913, 914, 915, 916, 917, 918, 919, 920, 921, 922, 923, 924, 925, 926, 927, 928, 929, 930, 931, 932, 933, 934, 935, 936] (by decide +kernel) (by decide +kernel)
set_option maxRecDepth 20000 in
theorem gL_law_X8_fault : GoodIn wsL_law (wsV RL 53 RX8 yX8_fault wsX8_fault) := goodIn_app (goodIn_of _ (by decide +kernel)) ggL_law_X8_fault
set_option maxRecDepth 20000 in
theorem ggL_law_X7_inForce : GoodIn wsL_law wsX7_inForce := goodIn_r _ [515, 19, 151, 152, 2, 153, 516, 18, 517, 518, 236, 238, 239, 240, 48, 886, 887, 888, 889, 890, 891, 949, 950] (by decide +kernel) (by decide +kernel)
set_option maxRecDepth 20000 in
theorem gL_law_X7_inForce : GoodIn wsL_law (wsV RL 54 RX7 yX7_inForce wsX7_inForce) := goodIn_app (goodIn_of _ (by decide +kernel)) ggL_law_X7_inForce
set_option maxRecDepth 20000 in
theorem ggL_law_X8_inForce : GoodIn wsL_law wsX8_inForce := goodIn_r _ [522, 269, 189, 190, 5, 191, 163, 164, 165, 270, 271, 272, 273, 96, 892, 893, 894, 895, 896, 897, 898, 899, 900, 901, 902, 903, 904, 905, 906, 907, 908, 909, 910, 911, 912, 913, 914, 915, 916, 917, 918, 919, 920, 921, 922, 923, 924, 925, 926, 927, 928, 929, 930, 931, 932, 933, 934, 935, 936] (by decide +kernel) (by decide +kernel)
set_option maxRecDepth 20000 in
theorem gL_law_X8_inForce : GoodIn wsL_law (wsV RL 57 RX8 yX8_inForce wsX8_inForce) := goodIn_app (goodIn_of _ (by decide +kernel)) ggL_law_X8_inForce
set_option maxRecDepth 20000 in
theorem ggL_law_X7_rule : GoodIn wsL_law wsX7_rule := goodIn_r _ [526, 19, 151, 152, 2, 153, 242, 18, 243, 244, 236, 48, 886, 887, 888, 889, 890, 891, 949, 950] (by decide +kernel) (by decide +kernel)
set_option maxRecDepth 20000 in
theorem gL_law_X7_rule : GoodIn wsL_law (wsV RL 58 RX7 yX7_rule wsX7_rule) := goodIn_app (goodIn_of _ (by decide +kernel)) ggL_law_X7_rule
set_option maxRecDepth 20000 in
theorem ggL_law_X8_rule : GoodIn wsL_law wsX8_rule := goodIn_r _ [530, 269, 96, 163, 164, 5, 165, 274, 275, 276, 277, 95, 278, 279, 280, 892, 893, 894, 895, 896, 897, 898, 899, 900, 901, 902, 903, 904, 905, 906, 907, 908, 909, 910, 911, 912, 913, 914, 915, 916, 917, 918, 919, 920, 921, 922, 923, 924, 925, 926, 927, 928, 929, 930, 931, 932, 933, 934, 935, 936] (by decide +kernel) (by decide +kernel)
set_option maxRecDepth 20000 in
theorem gL_law_X8_rule : GoodIn wsL_law (wsV RL 61 RX8 yX8_rule wsX8_rule) := goodIn_app (goodIn_of _ (by decide +kernel)) ggL_law_X8_rule
set_option maxRecDepth 20000 in
theorem ggL_law_X7_duty : GoodIn wsL_law wsX7_duty := goodIn_r _ [534, 23, 27, 151, 152, 2, 153, 170, 22, 171, 172, 157, 211, 26, 212, 213, 66, 215, 216, 217, 67, 68, 210, 223, 224, 225, 70, 71, 226, 227, 228, 53, 176, 177, 229, 230, 231, 57, 232, 196, 197, 198, 55, 233, 18, 234, 235, 236, 237, 238, 239, 240, 48, 241, 242, 243, 244, 245, 246, 247, 248, 202, 203, 204, 205, 249, 250, 251, 252, 886, 887, 888, 889, 890, 891, 951, 952, 953, 954, 955, 956, 957, 958, 959, 960, 961, 962, 963, 964, 949, 950] (by decide +kernel) (by decide +kernel)
set_option maxRecDepth 20000 in
theorem gL_law_X7_duty : GoodIn wsL_law (wsV RL 62 RX7 yX7_duty wsX7_duty) := goodIn_app (goodIn_of _ (by decide +kernel)) ggL_law_X7_duty
set_option maxRecDepth 20000 in
theorem ggL_law_X8_duty : GoodIn wsL_law wsX8_duty := goodIn_r _ [538, 162, 105, 163, 164, 5, 165, 189, 190, 191, 261, 262, 263, 264, 100, 103, 257, 258, 259, 260, 102, 265, 266, 267, 268, 269, 270, 271, 272, 273, 96, 274, 275, 276, 277, 95, 278, 279, 280, 281, 282, 283, 284, 892, 893, 894, 895, 896, 897, 898, 899, 900, 901, 902, 903, 904, 905, 906, 907, 908, 909, 910, 911, 912, 913, 914, 915, 916, 917, 918, 919, 920, 921, 922, 923, 924, 925, 926, 927, 928, 929, 930, 931, 932, 933, 934, 935, 936] (by decide +kernel) (by decide +kernel)
set_option maxRecDepth 20000 in
theorem gL_law_X8_duty : GoodIn wsL_law (wsV RL 65 RX8 yX8_duty wsX8_duty) := goodIn_app (goodIn_of _ (by decide +kernel)) ggL_law_X8_duty
set_option maxRecDepth 20000 in
theorem ggL_law_X7_onDuty : GoodIn wsL_law wsX7_onDuty := goodIn_r _ [542, 27, 151, 152, 2, 153, 211, 26, 212, 213, 66, 886, 887, 888, 889, 890, 891, 959, 960, 961, 962, 963, 964] (by decide +kernel) (by decide +kernel)
set_option maxRecDepth 20000 in
theorem gL_law_X7_onDuty : GoodIn wsL_law (wsV RL 66 RX7 yX7_onDuty wsX7_onDuty) := goodIn_app (goodIn_of _ (by decide +kernel)) ggL_law_X7_onDuty
set_option maxRecDepth 20000 in
theorem ggL_law_X8_onDuty : GoodIn wsL_law wsX8_onDuty := goodIn_r _ [546, 105, 163, 164, 5, 165, 189, 190, 191, 892, 893, 894, 895, 896, 897, 898, 899, 900, 901, 902, 903, 904, 905, 906, 907, 908, 909, 910, 911, 912, 913, 914, 915, 916, 917, 918, 919, 920, 921, 922, 923, 924, 925, 926, 927, 928, 929, 930, 931, 932, 933, 934, 935, 936] (by decide +kernel) (by decide +kernel)
set_option maxRecDepth 20000 in
theorem gL_law_X8_onDuty : GoodIn wsL_law (wsV RL 69 RX8 yX8_onDuty wsX8_onDuty) := goodIn_app (goodIn_of _ (by decide +kernel)) ggL_law_X8_onDuty
