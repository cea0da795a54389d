set_option maxRecDepth 20000 in
theorem ggL_law_X3_march : GoodIn wsL_law wsX3_march := goodIn_r _ [284, 159, 160, 161, 5, 162, 92, 91, 285, 286, 287, 288, 167, 168, 169, 170, 171, 172, 251, 252, 253, 254, 173, 174, 175, 176, 177, 178, 179, 180, 181, 182, 183, 184, 185, 186, 100, 289, 290, 291, 292, 203, 204, 153, 205, 195, 196, 197, 198, 199, 200, 201, 202, 152, 154, 206, 207, 208, 209, 191, 192, 193, 194, 293, 294, 295, 296, 297, 298, 299, 300, 301, 302, 303, 304, 218, 219, 220, 221, 222, 223, 224, 225, 226, 94, 937, 938, 939, 940, 941, 942, 943, 944, 945, 946, 947, 948, 949, 950, 951, 952, 953] (by decide +kernel) (by decide +kernel)
set_option maxRecDepth 20000 in
theorem gL_law_X3_march : GoodIn wsL_law (wsV RL 26 RX3 yX3_march wsX3_march) := goodIn_app (goodIn_of _ (by decide +kernel)) ggL_law_X3_march
set_option maxRecDepth 20000 in
theorem ggL_law_X2_road : GoodIn wsL_law wsX2_road := goodIn_r _ [308, 16, 15, 105, 106, 107, 14, 108, 40, 109, 110, 111, 112, 41, 42, 43, 44, 45, 46, 47, 48, 49, 50, 51, 52, 53, 54, 55, 309, 310, 311, 2, 312, 313, 120, 121, 122, 314, 315, 316, 123, 124, 125, 126, 32, 33, 31, 34, 317, 318, 319, 320, 321, 322, 147, 148, 149, 150, 21, 20, 22, 151, 152, 153, 154, 923, 924, 925, 926, 927, 928, 929, 930, 931, 932, 933, 934, 935, 936, 954, 955, 956, 957, 958, 959, 960, 961, 962, 963, 964, 965, 966, 967, 968, 969] (by decide +kernel) (by decide +kernel)
set_option maxRecDepth 20000 in
theorem gL_law_X2_road : GoodIn wsL_law (wsV RL 27 RX2 yX2_road wsX2_road) := goodIn_app (goodIn_of _ (by decide +kernel)) ggL_law_X2_road
set_option maxRecDepth 20000 in
theorem ggL_law_X3_road_ : GoodIn wsL_law wsX3_road_ := goodIn_r _ [326, 159, 160, 161, 5, 162, 92, 91, 327, 328, 329, 330, 167, 168, 169, 170, 171, 172, 181, 182, 183, 184, 185, 186, 100, 199, 200, 201, 202, 152, 153, 154, 203, 204, 205, 331, 332, 333, 334, 222, 223, 224, 225, 226, 94, 937, 938, 939, 940, 941, 942, 943, 944, 945, 946, 947, 948, 949, 950, 951, 952, 953] (by decide +kernel) (by decide +kernel)
set_option maxRecDepth 20000 in
theorem gL_law_X3_road_ : GoodIn wsL_law (wsV RL 31 RX3 yX3_road_ wsX3_road_) := goodIn_app (goodIn_of _ (by decide +kernel)) ggL_law_X3_road_
set_option maxRecDepth 20000 in
theorem ggL_law_X2_sleep : GoodIn wsL_law wsX2_sleep := goodIn_r _ [338, 16, 15, 105, 106, 107, 14, 108, 40, 109, 110, 111, 112, 41, 42, 43, 44, 45, 46, 47, 48, 49, 50, 51, 52, 53, 54, 55, 339, 340, 341, 2, 342, 117, 118, 343, 120, 121, 122, 314, 315, 316, 123, 124, 125, 126, 32, 33, 31, 34, 344, 321, 322, 147, 148, 149, 150, 21, 20, 22, 151, 152, 153, 154, 923, 924, 925, 926, 927, 928, 929, 930, 931, 932, 933, 934, 935, 936, 954, 955, 956, 957, 958, 959, 960, 961, 962, 963, 964, 965, 966, 967, 968, 969] (by decide +kernel) (by decide +kernel)
set_option maxRecDepth 20000 in
theorem gL_law_X2_sleep : GoodIn wsL_law (wsV RL 32 RX2 yX2_sleep wsX2_sleep) := goodIn_app (goodIn_of _ (by decide +kernel)) ggL_law_X2_sleep
set_option maxRecDepth 20000 in
theorem ggL_law_X3_sleep : GoodIn wsL_law wsX3_sleep := goodIn_r _ [348, 159, 160, 161, 5, 162, 92, 91, 349, 350, 351, 352, 167, 168, 169, 170, 171, 172, 177, 178, 179, 180, 181, 182, 183, 184, 185, 186, 100, 191, 192, 193, 194, 353, 354, 355, 356, 173, 174, 175, 176, 222, 223, 224, 225, 226, 94, 937, 938, 939, 940, 941, 942, 943, 944, 945, 946, 947, 948, 949, 950, 951, 952, 953] (by decide +kernel) (by decide +kernel)
set_option maxRecDepth 20000 in
theorem gL_law_X3_sleep : GoodIn wsL_law (wsV RL 35 RX3 yX3_sleep wsX3_sleep) := goodIn_app (goodIn_of _ (by decide +kernel)) ggL_law_X3_sleep
set_option maxRecDepth 20000 in
theorem ggL_law_X2_pass : GoodIn wsL_law wsX2_pass := goodIn_r _ [360, 16, 15, 105, 106, 107, 14, 108, 40, 109, 110, 111, 112, 41, 42, 43, 44, 45, 46, 47, 48, 49, 50, 51, 52, 53, 54, 55, 361, 362, 363, 2, 364, 365, 366, 367, 368, 369, 370, 265, 266, 267, 131, 132, 133, 134, 135, 136, 137, 138, 268, 269, 270, 271, 272, 204, 153, 205, 273, 274, 275, 276, 277, 278, 279, 280, 143, 144, 145, 146, 371, 372, 373, 374, 375, 128, 129, 130, 139, 140, 141, 142, 147, 148, 149, 150, 21, 20, 22, 151, 152, 154, 923, 924, 925, 926, 927, 928, 929, 930, 931, 932, 933, 934, 935, 936, 954, 955, 956, 957, 958, 959, 960, 961, 962, 963, 964, 965, 966, 967, 968, 969] (by decide +kernel) (by decide +kernel)
set_option maxRecDepth 20000 in
theorem gL_law_X2_pass : GoodIn wsL_law (wsV RL 36 RX2 yX2_pass wsX2_pass) := goodIn_app (goodIn_of _ (by decide +kernel)) ggL_law_X2_pass
set_option maxRecDepth 20000 in
theorem ggL_law_X3_pass : GoodIn wsL_law wsX3_pass := goodIn_r _ [379, 159, 160, 161, 5, 162, 92, 91, 380, 381, 382, 383, 170, 171, 172, 384, 385, 386, 387, 173, 174, 175, 176, 177, 178, 179, 180, 289, 290, 291, 292, 203, 204, 153, 205, 195, 196, 197, 198, 199, 200, 201, 202, 152, 154, 206, 207, 208, 209, 191, 192, 193, 194, 293, 294, 295, 296, 297, 298, 299, 300, 301, 302, 303, 304, 218, 219, 220, 221, 187, 188, 189, 190, 210, 211, 212, 213, 214, 215, 216, 217, 222, 223, 224, 225, 226, 94, 937, 938, 939, 940, 941, 942, 943, 944, 945, 946, 947, 948, 949, 950, 951, 952, 953] (by decide +kernel) (by decide +kernel)
set_option maxRecDepth 20000 in
theorem gL_law_X3_pass : GoodIn wsL_law (wsV RL 39 RX3 yX3_pass wsX3_pass) := goodIn_app (goodIn_of _ (by decide +kernel)) ggL_law_X3_pass
set_option maxRecDepth 20000 in
theorem ggL_law_X2_campOf : GoodIn wsL_law wsX2_campOf := goodIn_r _ [391, 15, 119, 392, 118, 117, 235, 263, 343, 120, 121, 2, 122, 393, 144, 145, 14, 146, 45, 47, 923, 924, 925, 926, 927, 928, 929, 930, 931, 932, 933, 934, 935, 936, 954, 955, 956, 957, 958, 959, 960, 961, 962, 963, 964, 965, 966, 967, 968, 969] (by decide +kernel) (by decide +kernel)
set_option maxRecDepth 20000 in
theorem gL_law_X2_campOf : GoodIn wsL_law (wsV RL 40 RX2 yX2_campOf wsX2_campOf) := goodIn_app (goodIn_of _ (by decide +kernel)) ggL_law_X2_campOf
