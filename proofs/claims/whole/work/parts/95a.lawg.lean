set_option maxRecDepth 20000 in
theorem ggL_law_X2_init : GoodIn wsL_law wsX2_init := goodIn_r _ [8, 9, 10, 11, 12, 13, 14, 15, 16, 17, 18, 19, 20, 21, 22, 23, 24, 25, 26, 27, 28, 29, 30, 31, 32, 33, 34, 35, 36, 37, 38, 39, 40, 41, 42, 43, 44, 45, 46, 47, 48, 49, 50, 51, 52, 53, 54, 55, 56, 57, 58, 59, 60, 61, 62, 63, 64, 65, 66, 67, 68, 69, 70, 71, 72, 73, 74, 75, 76, 77, 78, 79, 80, 81, 82, 83, 84, 85, 86, 954, 955, 956, 957, 958, 959, 960, 961, 962, 963, 964, 965, 966, 967, 968, 969, 923, 924, 925, 926, 927, 928, 929, 930, 931, 932, 933, 934, 935, 936, 970, 971, 972, 973, 974, 975, 976, 977, 978, 979] (by decide +kernel) (by decide +kernel)
set_option maxRecDepth 20000 in
theorem gL_law_X2_init : GoodIn wsL_law (wsX2_init) := ggL_law_X2_init
set_option maxRecDepth 20000 in
theorem ggL_law_X3_init : GoodIn wsL_law wsX3_init := goodIn_r _ [89, 90, 10, 11, 39, 91, 92, 93, 94, 95, 96, 97, 98, 99, 100, 937, 938, 939, 940, 941, 942, 943, 944, 945, 946, 947, 948, 949, 950, 951, 952, 953] (by decide +kernel) (by decide +kernel)
set_option maxRecDepth 20000 in
theorem gL_law_X3_init : GoodIn wsL_law (wsX3_init) := ggL_law_X3_init
set_option maxRecDepth 20000 in
theorem ggL_law_X2_dusk : GoodIn wsL_law wsX2_dusk := goodIn_r _ [104, 16, 15, 105, 106, 107, 14, 108, 40, 109, 110, 111, 112, 41, 42, 43, 44, 45, 46, 47, 48, 49, 50, 51, 52, 53, 54, 55, 113, 114, 115, 2, 116, 117, 118, 119, 120, 121, 122, 123, 124, 125, 126, 32, 33, 31, 34, 127, 128, 129, 130, 131, 132, 133, 134, 135, 136, 137, 138, 139, 140, 141, 142, 143, 144, 145, 146, 147, 148, 149, 150, 21, 20, 22, 151, 152, 153, 154, 923, 924, 925, 926, 927, 928, 929, 930, 931, 932, 933, 934, 935, 936, 954, 955, 956, 957, 958, 959, 960, 961, 962, 963, 964, 965, 966, 967, 968, 969] (by decide +kernel) (by decide +kernel)
set_option maxRecDepth 20000 in
theorem gL_law_X2_dusk : GoodIn wsL_law (wsV RL 13 RX2 yX2_dusk wsX2_dusk) := goodIn_app (goodIn_of _ (by decide +kernel)) ggL_law_X2_dusk
set_option maxRecDepth 20000 in
theorem ggL_law_X3_dusk : GoodIn wsL_law wsX3_dusk := goodIn_r _ [158, 159, 160, 161, 5, 162, 92, 91, 163, 164, 165, 166, 167, 168, 169, 170, 171, 172, 173, 174, 175, 176, 177, 178, 179, 180, 181, 182, 183, 184, 185, 186, 100, 187, 188, 189, 190, 191, 192, 193, 194, 195, 196, 197, 198, 199, 200, 201, 202, 152, 153, 154, 203, 204, 205, 206, 207, 208, 209, 210, 211, 212, 213, 214, 215, 216, 217, 218, 219, 220, 221, 222, 223, 224, 225, 226, 94, 937, 938, 939, 940, 941, 942, 943, 944, 945, 946, 947, 948, 949, 950, 951, 952, 953] (by decide +kernel) (by decide +kernel)
set_option maxRecDepth 20000 in
theorem gL_law_X3_dusk : GoodIn wsL_law (wsV RL 17 RX3 yX3_dusk wsX3_dusk) := goodIn_app (goodIn_of _ (by decide +kernel)) ggL_law_X3_dusk
set_option maxRecDepth 20000 in
theorem ggL_law_X2_write : GoodIn wsL_law wsX2_write := goodIn_r _ [230, 16, 15, 105, 106, 107, 14, 108, 40, 109, 110, 111, 112, 41, 42, 43, 44, 45, 46, 47, 48, 49, 50, 51, 52, 53, 54, 55, 231, 232, 233, 2, 234, 117, 118, 119, 235, 120, 121, 122, 236, 237, 238, 123, 124, 125, 126, 32, 33, 31, 34, 239, 240, 241, 242, 147, 148, 149, 150, 21, 20, 22, 151, 152, 153, 154, 923, 924, 925, 926, 927, 928, 929, 930, 931, 932, 933, 934, 935, 936, 954, 955, 956, 957, 958, 959, 960, 961, 962, 963, 964, 965, 966, 967, 968, 969] (by decide +kernel) (by decide +kernel)
set_option maxRecDepth 20000 in
theorem gL_law_X2_write : GoodIn wsL_law (wsV RL 18 RX2 yX2_write wsX2_write) := goodIn_app (goodIn_of _ (by decide +kernel)) ggL_law_X2_write
set_option maxRecDepth 20000 in
theorem ggL_law_X3_write : GoodIn wsL_law wsX3_write := goodIn_r _ [246, 159, 160, 161, 5, 162, 92, 91, 247, 248, 249, 250, 167, 168, 169, 170, 171, 172, 251, 252, 253, 254, 173, 174, 175, 176, 177, 178, 179, 180, 181, 182, 183, 184, 185, 186, 100, 191, 192, 193, 194, 222, 223, 224, 225, 226, 94, 937, 938, 939, 940, 941, 942, 943, 944, 945, 946, 947, 948, 949, 950, 951, 952, 953] (by decide +kernel) (by decide +kernel)
set_option maxRecDepth 20000 in
theorem gL_law_X3_write : GoodIn wsL_law (wsV RL 22 RX3 yX3_write wsX3_write) := goodIn_app (goodIn_of _ (by decide +kernel)) ggL_law_X3_write
set_option maxRecDepth 20000 in
theorem ggL_law_X2_march : GoodIn wsL_law wsX2_march := goodIn_r _ [258, 16, 15, 105, 106, 107, 14, 108, 40, 109, 110, 111, 112, 41, 42, 43, 44, 45, 46, 47, 48, 49, 50, 51, 52, 53, 54, 55, 259, 260, 261, 2, 262, 117, 118, 119, 263, 120, 121, 122, 123, 124, 125, 126, 32, 33, 31, 34, 264, 265, 266, 267, 131, 132, 133, 134, 135, 136, 137, 138, 268, 269, 270, 271, 272, 204, 153, 205, 273, 274, 275, 276, 277, 278, 279, 280, 143, 144, 145, 146, 147, 148, 149, 150, 21, 20, 22, 151, 152, 154, 923, 924, 925, 926, 927, 928, 929, 930, 931, 932, 933, 934, 935, 936, 954, 955, 956, 957, 958, 959, 960, 961, 962, 963, 964, 965, 966, 967, 968, 969] (by decide +kernel) (by decide +kernel)
set_option maxRecDepth 20000 in
theorem gL_law_X2_march : GoodIn wsL_law (wsV RL 23 RX2 yX2_march wsX2_march) := goodIn_app (goodIn_of _ (by decide +kernel)) ggL_law_X2_march
