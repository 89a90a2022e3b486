set_option maxRecDepth 20000 in
theorem ggL_law_X7_init : GoodIn wsL_law wsX7_init := goodIn_r _ [9, 10, 11, 12, 13, 14, 15, 16, 17, 18, 19, 20, 21, 22, 23, 24, 25, 26, 27, 28, 29, 30, 31, 32, 33, 34, 35, 36, 37, 38, 39, 40, 41, 42, 43, 44, 45, 46, 47, 48, 49, 50, 51, 52, 53, 54, 55, 56, 57, 58, 59, 60, 61, 62, 63, 64, 65, 66, 67, 68, 69, 70, 71, 72, 73, 74, 75, 76, 77, 78, 79, 80, 81, 6, 82, 83, 895, 896, 897, 898, 899, 900, 901, 902, 903, 904, 905, 950, 951, 952, 953, 954, 955, 956, 957, 958, 959, 960, 961, 962, 963, 964, 965, 966, 967, 968, 969, 970, 971, 972, 973, 974, 975, 976, 977, 978, 979] rfl (by decide +kernel)
set_option maxRecDepth 20000 in
theorem gL_law_X7_init : GoodIn wsL_law (wsX7_init) := ggL_law_X7_init
set_option maxRecDepth 20000 in
theorem ggL_law_X8_init : GoodIn wsL_law wsX8_init := goodIn_r _ [86, 87, 11, 12, 21, 88, 89, 90, 91, 92, 93, 94, 95, 96, 97, 98, 99, 100, 101, 102, 103, 104, 105, 106, 107, 108, 109, 110, 111, 112, 113, 114, 115, 116, 117, 118, 119, 120, 6, 121, 122, 123, 906, 907, 908, 909, 910, 911, 912, 913, 914, 915, 916, 917, 918, 919, 920, 921, 922, 923, 924, 925, 926, 927, 928, 929, 930, 931, 932, 933, 934, 935, 936, 937, 938, 939, 940, 941, 942, 943, 944, 945, 946, 947, 948, 949] rfl (by decide +kernel)
set_option maxRecDepth 20000 in
theorem gL_law_X8_init : GoodIn wsL_law (wsX8_init) := ggL_law_X8_init
set_option maxRecDepth 20000 in
theorem ggL_law_L_newClass : GoodIn wsL_law wsL_newClass := goodIn_ca (goodIn_r _ [127, 128, 129, 130, 131, 2, 132, 133, 134, 135, 895, 896, 897, 898, 899, 900, 901, 902, 903, 904, 905] rfl (by decide +kernel)) (goodIn_sub (fun _ h => List.mem_append_left _ (List.mem_append_left _ (List.mem_append_left _ (List.mem_append_right _ h)))) (by decide +kernel))
set_option maxRecDepth 20000 in
theorem gL_law_L_newClass : GoodIn wsL_law (va_wsS RL 81 yL_newClass wsL_newClass) := goodIn_app (goodIn_of _ (by decide +kernel)) ggL_law_L_newClass
set_option maxRecDepth 20000 in
theorem ggL_law_X8_newClass : GoodIn wsL_law wsX8_newClass := goodIn_r _ [139, 140, 141, 906, 907, 908, 909, 910, 911, 912, 913, 914, 915, 916, 917, 918, 919, 920, 921, 922, 923, 924, 925, 926, 927, 928, 929, 930, 931, 932, 933, 934, 935, 936, 937, 938, 939, 940, 941, 942, 943, 944, 945, 946, 947, 948, 949] rfl (by decide +kernel)
set_option maxRecDepth 20000 in
theorem gL_law_X8_newClass : GoodIn wsL_law (wsV RL 86 RX8 yX8_newClass wsX8_newClass) := goodIn_app (goodIn_of _ (by decide +kernel)) ggL_law_X8_newClass
set_option maxRecDepth 20000 in
theorem ggL_law_X8_thrown : GoodIn wsL_law wsX8_thrown := goodIn_r _ [145, 141, 906, 907, 908, 909, 910, 911, 912, 913, 914, 915, 916, 917, 918, 919, 920, 921, 922, 923, 924, 925, 926, 927, 928, 929, 930, 931, 932, 933, 934, 935, 936, 937, 938, 939, 940, 941, 942, 943, 944, 945, 946, 947, 948, 949] rfl (by decide +kernel)
set_option maxRecDepth 20000 in
theorem gL_law_X8_thrown : GoodIn wsL_law (wsV RL 87 RX8 yX8_thrown wsX8_thrown) := goodIn_app (goodIn_of _ (by decide +kernel)) ggL_law_X8_thrown
set_option maxRecDepth 20000 in
theorem ggL_law_L_make : GoodIn wsL_law wsL_make := goodIn_ca (goodIn_ca (goodIn_r _ [148, 149, 128, 150, 151, 152, 2, 153, 133, 134, 20, 154, 22, 155, 156, 157, 158, 159, 160, 161, 162, 163, 164, 135, 165, 166, 167, 168, 169, 170, 171, 14, 172, 173, 174, 175, 176, 177, 34, 178, 52, 179, 180, 181, 182, 183, 184, 185, 186, 187, 188, 189, 190, 191, 192, 193, 194, 195, 196, 197, 198, 199, 19, 200, 62, 201, 202, 203, 204, 205, 206, 207, 208, 61, 209, 210, 211, 212, 213, 214, 215, 216, 217, 218, 219, 220, 221, 222, 895, 896, 897, 898, 899, 900, 901, 902, 903, 904, 905, 954, 955, 956, 950, 951, 952, 953, 965, 966, 967, 968, 969, 970, 974, 975, 976, 977, 978, 979] rfl (by decide +kernel)) (goodIn_sub (fun _ h => List.mem_append_left _ (List.mem_append_left _ (List.mem_append_left _ (List.mem_append_right _ h)))) (by decide +kernel))) (goodIn_sub (fun _ h => List.mem_append_left _ (List.mem_append_left _ (List.mem_append_right _ h))) (by decide +kernel))
set_option maxRecDepth 20000 in
theorem gL_law_L_make : GoodIn wsL_law (va_wsS RL 90 yL_make wsL_make) := goodIn_app (goodIn_of _ (by decide +kernel)) ggL_law_L_make
set_option maxRecDepth 20000 in
theorem ggL_law_X8_make : GoodIn wsL_law wsX8_make := goodIn_r _ [226, 141, 123, 101, 91, 93, 94, 103, 106, 227, 228, 229, 5, 230, 140, 231, 232, 233, 234, 235, 236, 237, 238, 239, 240, 241, 242, 243, 244, 245, 102, 88, 90, 95, 246, 247, 248, 249, 906, 907, 908, 909, 910, 911, 912, 913, 914, 915, 916, 917, 918, 919, 920, 921, 922, 923, 924, 925, 926, 927, 928, 929, 930, 931, 932, 933, 934, 935, 936, 937, 938, 939, 940, 941, 942, 943, 944, 945, 946, 947, 948, 949] rfl (by decide +kernel)
set_option maxRecDepth 20000 in
theorem gL_law_X8_make : GoodIn wsL_law (wsV RL 93 RX8 yX8_make wsX8_make) := goodIn_app (goodIn_of _ (by decide +kernel)) ggL_law_X8_make
set_option maxRecDepth 20000 in
theorem ggL_law_L_get : GoodIn wsL_law wsL_get := goodIn_ca (goodIn_ca (goodIn_r _ [252, 149, 253, 254, 255, 256, 2, 257, 188, 165, 166, 167, 159, 160, 258, 259, 260, 261, 262, 263, 264, 265, 266, 267, 268, 269, 20, 22, 270, 271, 272, 19, 273, 205, 206, 207, 208, 61, 202, 274, 275, 276, 277, 14, 278, 172, 279, 280, 281, 34, 282, 183, 51, 209, 210, 211, 212, 52, 179, 180, 181, 182, 283, 284, 285, 286, 196, 287, 974, 975, 976, 977, 978, 979, 895, 896, 897, 898, 899, 900, 901, 902, 903, 904, 905, 954, 955, 956, 950, 951, 952, 953, 965, 966, 967, 968, 969, 970] rfl (by decide +kernel)) (goodIn_sub (fun _ h => List.mem_append_left _ (List.mem_append_left _ (List.mem_append_right _ h))) (by decide +kernel))) (goodIn_sub (fun _ h => List.mem_append_left _ (List.mem_append_right _ h)) (by decide +kernel))
set_option maxRecDepth 20000 in
theorem gL_law_L_get : GoodIn wsL_law (va_wsS RL 94 yL_get wsL_get) := goodIn_app (goodIn_of _ (by decide +kernel)) ggL_law_L_get
set_option maxRecDepth 20000 in
theorem ggL_law_X8_get : GoodIn wsL_law wsX8_get := goodIn_r _ [291, 106, 103, 292, 293, 294, 5, 295, 141, 101, 93, 231, 232, 233, 296, 297, 298, 299, 300, 301, 302, 91, 92, 303, 304, 305, 306, 102, 88, 906, 907, 908, 909, 910, 911, 912, 913, 914, 915, 916, 917, 918, 919, 920, 921, 922, 923, 924, 925, 926, 927, 928, 929, 930, 931, 932, 933, 934, 935, 936, 937, 938, 939, 940, 941, 942, 943, 944, 945, 946, 947, 948, 949] rfl (by decide +kernel)
set_option maxRecDepth 20000 in
theorem gL_law_X8_get : GoodIn wsL_law (wsV RL 97 RX8 yX8_get wsX8_get) := goodIn_app (goodIn_of _ (by decide +kernel)) ggL_law_X8_get
set_option maxRecDepth 20000 in
theorem ggL_law_L_set : GoodIn wsL_law wsL_set := goodIn_ca (goodIn_ca (goodIn_ca (goodIn_r _ [309, 149, 253, 128, 310, 311, 312, 2, 313, 133, 134, 14, 278, 172, 174, 189, 188, 195, 165, 166, 167, 159, 160, 258, 259, 260, 261, 262, 263, 264, 265, 266, 267, 268, 269, 20, 22, 270, 271, 272, 19, 273, 205, 206, 207, 208, 61, 202, 274, 275, 276, 277, 279, 280, 281, 34, 282, 183, 51, 209, 210, 211, 212, 52, 179, 180, 181, 182, 283, 284, 285, 286, 196, 287, 895, 896, 897, 898, 899, 900, 901, 902, 903, 904, 905, 974, 975, 976, 977, 978, 979, 950, 951, 952, 953, 965, 966, 967, 968, 969, 970, 954, 955, 956] rfl (by decide +kernel)) (goodIn_sub (fun _ h => List.mem_append_left _ (List.mem_append_left _ (List.mem_append_left _ (List.mem_append_right _ h)))) (by decide +kernel))) (goodIn_sub (fun _ h => List.mem_append_left _ (List.mem_append_left _ (List.mem_append_right _ h))) (by decide +kernel))) (goodIn_sub (fun _ h => List.mem_append_left _ (List.mem_append_right _ h)) (by decide +kernel))
set_option maxRecDepth 20000 in
theorem gL_law_L_set : GoodIn wsL_law (va_wsS RL 98 yL_set wsL_set) := goodIn_app (goodIn_of _ (by decide +kernel)) ggL_law_L_set
set_option maxRecDepth 20000 in
theorem ggL_law_X8_set : GoodIn wsL_law wsX8_set := goodIn_r _ [317, 106, 101, 94, 95, 141, 103, 90, 292, 293, 294, 5, 295, 93, 231, 232, 233, 296, 297, 298, 299, 300, 301, 302, 91, 92, 303, 304, 305, 306, 102, 88, 906, 907, 908, 909, 910, 911, 912, 913, 914, 915, 916, 917, 918, 919, 920, 921, 922, 923, 924, 925, 926, 927, 928, 929, 930, 931, 932, 933, 934, 935, 936, 937, 938, 939, 940, 941, 942, 943, 944, 945, 946, 947, 948, 949] rfl (by decide +kernel)
set_option maxRecDepth 20000 in
theorem gL_law_X8_set : GoodIn wsL_law (wsV RL 101 RX8 yX8_set wsX8_set) := goodIn_app (goodIn_of _ (by decide +kernel)) ggL_law_X8_set
set_option maxRecDepth 20000 in
theorem ggL_law_L_link : GoodIn wsL_law wsL_link := goodIn_ca (goodIn_ca (goodIn_ca (goodIn_r _ [320, 149, 253, 128, 321, 322, 323, 2, 324, 133, 134, 14, 278, 172, 22, 174, 188, 195, 165, 166, 167, 159, 160, 258, 259, 260, 261, 262, 263, 264, 265, 266, 267, 268, 269, 20, 270, 271, 272, 19, 273, 205, 206, 207, 208, 61, 202, 325, 326, 327, 328, 279, 280, 281, 34, 282, 183, 51, 329, 330, 331, 332, 52, 179, 180, 181, 182, 175, 176, 177, 178, 333, 334, 335, 336, 337, 338, 339, 340, 341, 190, 342, 343, 344, 345, 173, 283, 284, 285, 286, 196, 287, 895, 896, 897, 898, 899, 900, 901, 902, 903, 904, 905, 974, 975, 976, 977, 978, 979, 950, 951, 952, 953, 965, 966, 967, 968, 969, 970, 954, 955, 956] rfl (by decide +kernel)) (goodIn_sub (fun _ h => List.mem_append_left _ (List.mem_append_left _ (List.mem_append_left _ (List.mem_append_right _ h)))) (by decide +kernel))) (goodIn_sub (fun _ h => List.mem_append_left _ (List.mem_append_left _ (List.mem_append_right _ h))) (by decide +kernel))) (goodIn_sub (fun _ h => List.mem_append_left _ (List.mem_append_right _ h)) (by decide +kernel))
set_option maxRecDepth 20000 in
theorem gL_law_L_link : GoodIn wsL_law (va_wsS RL 102 yL_link wsL_link) := goodIn_app (goodIn_of _ (by decide +kernel)) ggL_law_L_link
set_option maxRecDepth 20000 in
theorem ggL_law_X8_link : GoodIn wsL_law wsX8_link := goodIn_r _ [349, 141, 106, 101, 93, 94, 103, 90, 231, 232, 5, 233, 292, 293, 294, 295, 296, 297, 298, 299, 300, 301, 302, 91, 92, 350, 351, 352, 353, 303, 304, 305, 306, 102, 88, 906, 907, 908, 909, 910, 911, 912, 913, 914, 915, 916, 917, 918, 919, 920, 921, 922, 923, 924, 925, 926, 927, 928, 929, 930, 931, 932, 933, 934, 935, 936, 937, 938, 939, 940, 941, 942, 943, 944, 945, 946, 947, 948, 949] rfl (by decide +kernel)
set_option maxRecDepth 20000 in
theorem gL_law_X8_link : GoodIn wsL_law (wsV RL 104 RX8 yX8_link wsX8_link) := goodIn_app (goodIn_of _ (by decide +kernel)) ggL_law_X8_link
set_option maxRecDepth 20000 in
theorem ggL_law_L_follow : GoodIn wsL_law wsL_follow := goodIn_ca (goodIn_ca (goodIn_r _ [356, 149, 253, 357, 358, 359, 2, 360, 22, 188, 165, 166, 167, 159, 160, 258, 259, 260, 261, 262, 263, 264, 265, 266, 267, 268, 269, 20, 270, 271, 272, 19, 273, 205, 206, 207, 208, 61, 202, 325, 326, 327, 328, 14, 278, 172, 279, 280, 281, 34, 282, 183, 51, 329, 330, 331, 332, 52, 179, 180, 181, 182, 283, 284, 285, 286, 196, 287, 895, 896, 897, 898, 899, 900, 901, 902, 903, 904, 905, 974, 975, 976, 977, 978, 979, 954, 955, 956, 950, 951, 952, 953, 965, 966, 967, 968, 969, 970] rfl (by decide +kernel)) (goodIn_sub (fun _ h => List.mem_append_left _ (List.mem_append_left _ (List.mem_append_right _ h))) (by decide +kernel))) (goodIn_sub (fun _ h => List.mem_append_left _ (List.mem_append_right _ h)) (by decide +kernel))
set_option maxRecDepth 20000 in
theorem gL_law_L_follow : GoodIn wsL_law (va_wsS RL 105 yL_follow wsL_follow) := goodIn_app (goodIn_of _ (by decide +kernel)) ggL_law_L_follow
set_option maxRecDepth 20000 in
theorem ggL_law_X8_follow : GoodIn wsL_law wsX8_follow := goodIn_r _ [364, 141, 106, 103, 231, 232, 5, 233, 292, 293, 294, 295, 101, 93, 296, 297, 298, 299, 300, 301, 302, 91, 92, 303, 304, 305, 306, 102, 88, 906, 907, 908, 909, 910, 911, 912, 913, 914, 915, 916, 917, 918, 919, 920, 921, 922, 923, 924, 925, 926, 927, 928, 929, 930, 931, 932, 933, 934, 935, 936, 937, 938, 939, 940, 941, 942, 943, 944, 945, 946, 947, 948, 949] rfl (by decide +kernel)
set_option maxRecDepth 20000 in
theorem gL_law_X8_follow : GoodIn wsL_law (wsV RL 107 RX8 yX8_follow wsX8_follow) := goodIn_app (goodIn_of _ (by decide +kernel)) ggL_law_X8_follow
set_option maxRecDepth 20000 in
theorem ggL_law_L_drop : GoodIn wsL_law wsL_drop := goodIn_ca (goodIn_r _ [367, 149, 368, 369, 370, 2, 371, 22, 165, 166, 167, 159, 160, 895, 896, 897, 898, 899, 900, 901, 902, 903, 904, 905] rfl (by decide +kernel)) (goodIn_sub (fun _ h => List.mem_append_left _ (List.mem_append_left _ (List.mem_append_right _ h))) (by decide +kernel))
set_option maxRecDepth 20000 in
theorem gL_law_L_drop : GoodIn wsL_law (va_wsS RL 108 yL_drop wsL_drop) := goodIn_app (goodIn_of _ (by decide +kernel)) ggL_law_L_drop
set_option maxRecDepth 20000 in
theorem ggL_law_X8_drop : GoodIn wsL_law wsX8_drop := goodIn_r _ [375, 141, 106, 231, 232, 5, 233, 906, 907, 908, 909, 910, 911, 912, 913, 914, 915, 916, 917, 918, 919, 920, 921, 922, 923, 924, 925, 926, 927, 928, 929, 930, 931, 932, 933, 934, 935, 936, 937, 938, 939, 940, 941, 942, 943, 944, 945, 946, 947, 948, 949] rfl (by decide +kernel)
set_option maxRecDepth 20000 in
theorem gL_law_X8_drop : GoodIn wsL_law (wsV RL 111 RX8 yX8_drop wsX8_drop) := goodIn_app (goodIn_of _ (by decide +kernel)) ggL_law_X8_drop
set_option maxRecDepth 20000 in
theorem ggL_law_L_same : GoodIn wsL_law wsL_same := goodIn_ca (goodIn_r _ [378, 149, 379, 380, 381, 2, 382, 22, 165, 166, 167, 159, 160, 895, 896, 897, 898, 899, 900, 901, 902, 903, 904, 905] rfl (by decide +kernel)) (goodIn_sub (fun _ h => List.mem_append_left _ (List.mem_append_left _ (List.mem_append_right _ h))) (by decide +kernel))
set_option maxRecDepth 20000 in
theorem gL_law_L_same : GoodIn wsL_law (va_wsS RL 112 yL_same wsL_same) := goodIn_app (goodIn_of _ (by decide +kernel)) ggL_law_L_same
set_option maxRecDepth 20000 in
theorem ggL_law_X8_same : GoodIn wsL_law wsX8_same := goodIn_r _ [386, 141, 106, 231, 232, 5, 233, 906, 907, 908, 909, 910, 911, 912, 913, 914, 915, 916, 917, 918, 919, 920, 921, 922, 923, 924, 925, 926, 927, 928, 929, 930, 931, 932, 933, 934, 935, 936, 937, 938, 939, 940, 941, 942, 943, 944, 945, 946, 947, 948, 949] rfl (by decide +kernel)
set_option maxRecDepth 20000 in
theorem gL_law_X8_same : GoodIn wsL_law (wsV RL 114 RX8 yX8_same wsX8_same) := goodIn_app (goodIn_of _ (by decide +kernel)) ggL_law_X8_same
set_option maxRecDepth 20000 in
theorem ggL_law_L_word : GoodIn wsL_law wsL_word := goodIn_ca (goodIn_ca (goodIn_r _ [389, 149, 128, 390, 391, 392, 2, 393, 159, 160, 133, 134, 26, 394, 395, 396, 397, 398, 399, 400, 25, 401, 402, 73, 895, 896, 897, 898, 899, 900, 901, 902, 903, 904, 905, 957, 958] rfl (by decide +kernel)) (goodIn_sub (fun _ h => List.mem_append_left _ (List.mem_append_left _ (List.mem_append_right _ h))) (by decide +kernel))) (goodIn_sub (fun _ h => List.mem_append_left _ (List.mem_append_left _ (List.mem_append_left _ (List.mem_append_right _ h)))) (by decide +kernel))
set_option maxRecDepth 20000 in
theorem gL_law_L_word : GoodIn wsL_law (va_wsS RL 115 yL_word wsL_word) := goodIn_app (goodIn_of _ (by decide +kernel)) ggL_law_L_word
set_option maxRecDepth 20000 in
theorem ggL_law_X8_word : GoodIn wsL_law wsX8_word := goodIn_r _ [406, 407, 141, 107, 906, 907, 908, 909, 910, 911, 912, 913, 914, 915, 916, 917, 918, 919, 920, 921, 922, 923, 924, 925, 926, 927, 928, 929, 930, 931, 932, 933, 934, 935, 936, 937, 938, 939, 940, 941, 942, 943, 944, 945, 946, 947, 948, 949] rfl (by decide +kernel)
set_option maxRecDepth 20000 in
theorem gL_law_X8_word : GoodIn wsL_law (wsV RL 117 RX8 yX8_word wsX8_word) := goodIn_app (goodIn_of _ (by decide +kernel)) ggL_law_X8_word
