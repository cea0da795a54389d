set_option maxRecDepth 20000 in
theorem ggL_law_X3_campOf : GoodIn wsL_law wsX3_campOf := goodIn_r _ [397, 167, 168, 5, 169, 170, 171, 172, 177, 178, 179, 180, 91, 173, 174, 175, 176, 214, 215, 216, 217, 218, 219, 220, 221, 937, 938, 939, 940, 941, 942, 943, 944, 945, 946, 947, 948, 949, 950, 951, 952, 953] (by decide +kernel) (by decide +kernel)
set_option maxRecDepth 20000 in
theorem gL_law_X3_campOf : GoodIn wsL_law (wsV RL 43 RX3 yX3_campOf wsX3_campOf) := goodIn_app (goodIn_of _ (by decide +kernel)) ggL_law_X3_campOf
set_option maxRecDepth 20000 in
theorem ggL_law_X2_pageOf : GoodIn wsL_law wsX2_pageOf := goodIn_r _ [401, 15, 402, 403, 404, 405, 406, 2, 407, 235, 120, 121, 122, 923, 924, 925, 926, 927, 928, 929, 930, 931, 932, 933, 934, 935, 936, 954, 955, 956, 957, 958, 959, 960, 961, 962, 963, 964, 965, 966, 967, 968, 969] (by decide +kernel) (by decide +kernel)
set_option maxRecDepth 20000 in
theorem gL_law_X2_pageOf : GoodIn wsL_law (wsV RL 44 RX2 yX2_pageOf wsX2_pageOf) := goodIn_app (goodIn_of _ (by decide +kernel)) ggL_law_X2_pageOf
set_option maxRecDepth 20000 in
theorem ggL_law_X3_pageOf : GoodIn wsL_law wsX3_pageOf := goodIn_r _ [411, 167, 168, 5, 169, 170, 171, 172, 177, 178, 179, 180, 91, 218, 219, 220, 221, 937, 938, 939, 940, 941, 942, 943, 944, 945, 946, 947, 948, 949, 950, 951, 952, 953] (by decide +kernel) (by decide +kernel)
set_option maxRecDepth 20000 in
theorem gL_law_X3_pageOf : GoodIn wsL_law (wsV RL 47 RX3 yX3_pageOf wsX3_pageOf) := goodIn_app (goodIn_of _ (by decide +kernel)) ggL_law_X3_pageOf
set_option maxRecDepth 20000 in
theorem ggL_law_X2_reaches : GoodIn wsL_law wsX2_reaches := goodIn_r _ [415, 15, 120, 121, 2, 122, 416, 132, 133, 14, 134, 43, 49, 923, 924, 925, 926, 927, 928, 929, 930, 931, 932, 933, 934, 935, 936, 954, 955, 956, 957, 958, 959, 960, 961, 962, 963, 964, 965, 966, 967, 968, 969] (by decide +kernel) (by decide +kernel)
set_option maxRecDepth 20000 in
theorem gL_law_X2_reaches : GoodIn wsL_law (wsV RL 48 RX2 yX2_reaches wsX2_reaches) := goodIn_app (goodIn_of _ (by decide +kernel)) ggL_law_X2_reaches
set_option maxRecDepth 20000 in
theorem ggL_law_X3_reaches : GoodIn wsL_law wsX3_reaches := goodIn_r _ [420, 167, 168, 5, 169, 170, 171, 172, 195, 196, 197, 198, 91, 173, 174, 175, 176, 177, 178, 179, 180, 199, 200, 201, 202, 152, 153, 154, 203, 204, 205, 937, 938, 939, 940, 941, 942, 943, 944, 945, 946, 947, 948, 949, 950, 951, 952, 953] (by decide +kernel) (by decide +kernel)
set_option maxRecDepth 20000 in
theorem gL_law_X3_reaches : GoodIn wsL_law (wsV RL 51 RX3 yX3_reaches wsX3_reaches) := goodIn_app (goodIn_of _ (by decide +kernel)) ggL_law_X3_reaches
set_option maxRecDepth 20000 in
theorem ggL_law_X2_matches : GoodIn wsL_law wsX2_matches := goodIn_r _ [424, 15, 120, 121, 2, 122, 425, 274, 275, 14, 276, 45, 47, 48, 923, 924, 925, 926, 927, 928, 929, 930, 931, 932, 933, 934, 935, 936, 954, 955, 956, 957, 958, 959, 960, 961, 962, 963, 964, 965, 966, 967, 968, 969] (by decide +kernel) (by decide +kernel)
set_option maxRecDepth 20000 in
theorem gL_law_X2_matches : GoodIn wsL_law (wsV RL 52 RX2 yX2_matches wsX2_matches) := goodIn_app (goodIn_of _ (by decide +kernel)) ggL_law_X2_matches
set_option maxRecDepth 20000 in
theorem ggL_law_X3_matches : GoodIn wsL_law wsX3_matches := goodIn_r _ [429, 167, 168, 5, 169, 170, 171, 172, 297, 298, 299, 300, 177, 178, 179, 180, 91, 301, 302, 303, 304, 218, 219, 220, 221, 937, 938, 939, 940, 941, 942, 943, 944, 945, 946, 947, 948, 949, 950, 951, 952, 953] (by decide +kernel) (by decide +kernel)
set_option maxRecDepth 20000 in
theorem gL_law_X3_matches : GoodIn wsL_law (wsV RL 55 RX3 yX3_matches wsX3_matches) := goodIn_app (goodIn_of _ (by decide +kernel)) ggL_law_X3_matches
set_option maxRecDepth 20000 in
theorem ggL_law_X2_matchesAgain : GoodIn wsL_law wsX2_matchesAgain := goodIn_r _ [433, 15, 120, 121, 2, 122, 434, 435, 436, 14, 437, 45, 438, 152, 153, 154, 47, 923, 924, 925, 926, 927, 928, 929, 930, 931, 932, 933, 934, 935, 936, 954, 955, 956, 957, 958, 959, 960, 961, 962, 963, 964, 965, 966, 967, 968, 969] (by decide +kernel) (by decide +kernel)
set_option maxRecDepth 20000 in
theorem gL_law_X2_matchesAgain : GoodIn wsL_law (wsV RL 56 RX2 yX2_matchesAgain wsX2_matchesAgain) := goodIn_app (goodIn_of _ (by decide +kernel)) ggL_law_X2_matchesAgain
set_option maxRecDepth 20000 in
theorem ggL_law_X3_matchesAgain : GoodIn wsL_law wsX3_matchesAgain := goodIn_r _ [442, 443, 427, 428, 5, 429, 167, 168, 169, 170, 171, 172, 297, 298, 299, 300, 177, 178, 179, 180, 91, 301, 302, 303, 304, 218, 219, 220, 221, 937, 938, 939, 940, 941, 942, 943, 944, 945, 946, 947, 948, 949, 950, 951, 952, 953] (by decide +kernel) (by decide +kernel)
set_option maxRecDepth 20000 in
theorem gL_law_X3_matchesAgain : GoodIn wsL_law (wsV RL 59 RX3 yX3_matchesAgain wsX3_matchesAgain) := goodIn_app (goodIn_of _ (by decide +kernel)) ggL_law_X3_matchesAgain
set_option maxRecDepth 20000 in
theorem ggL_law_X2_captain : GoodIn wsL_law wsX2_captain := goodIn_r _ [447, 15, 448, 449, 450, 14, 451, 42, 40, 923, 924, 925, 926, 927, 928, 929, 930, 931, 932, 933, 934, 935, 936, 954, 955, 956, 957, 958, 959, 960, 961, 962, 963, 964, 965, 966, 967, 968, 969] (by decide +kernel) (by decide +kernel)
set_option maxRecDepth 20000 in
theorem gL_law_X2_captain : GoodIn wsL_law (wsV RL 60 RX2 yX2_captain wsX2_captain) := goodIn_app (goodIn_of _ (by decide +kernel)) ggL_law_X2_captain
set_option maxRecDepth 20000 in
theorem ggL_law_X3_captain : GoodIn wsL_law wsX3_captain := goodIn_r _ [455, 177, 178, 179, 5, 180, 91, 937, 938, 939, 940, 941, 942, 943, 944, 945, 946, 947, 948, 949, 950, 951, 952, 953] (by decide +kernel) (by decide +kernel)
set_option maxRecDepth 20000 in
theorem gL_law_X3_captain : GoodIn wsL_law (wsV RL 64 RX3 yX3_captain wsX3_captain) := goodIn_app (goodIn_of _ (by decide +kernel)) ggL_law_X3_captain
set_option maxRecDepth 20000 in
theorem ggL_law_X2_holders : GoodIn wsL_law wsX2_holders := goodIn_r _ [459, 15, 404, 405, 406, 2, 407, 235, 120, 121, 122, 460, 461, 462, 14, 463, 273, 274, 275, 276, 45, 47, 48, 923, 924, 925, 926, 927, 928, 929, 930, 931, 932, 933, 934, 935, 936, 954, 955, 956, 957, 958, 959, 960, 961, 962, 963, 964, 965, 966, 967, 968, 969] (by decide +kernel) (by decide +kernel)
set_option maxRecDepth 20000 in
theorem gL_law_X2_holders : GoodIn wsL_law (wsV RL 65 RX2 yX2_holders wsX2_holders) := goodIn_app (goodIn_of _ (by decide +kernel)) ggL_law_X2_holders
set_option maxRecDepth 20000 in
theorem ggL_law_X3_holders : GoodIn wsL_law wsX3_holders := goodIn_r _ [467, 167, 168, 5, 169, 170, 171, 172, 177, 178, 179, 180, 91, 297, 298, 299, 300, 301, 302, 303, 304, 218, 219, 220, 221, 937, 938, 939, 940, 941, 942, 943, 944, 945, 946, 947, 948, 949, 950, 951, 952, 953] (by decide +kernel) (by decide +kernel)
set_option maxRecDepth 20000 in
theorem gL_law_X3_holders : GoodIn wsL_law (wsV RL 68 RX3 yX3_holders wsX3_holders) := goodIn_app (goodIn_of _ (by decide +kernel)) ggL_law_X3_holders
set_option maxRecDepth 20000 in
theorem ggL_law_X2_letters : GoodIn wsL_law wsX2_letters := goodIn_r _ [471, 15, 236, 237, 2, 238, 472, 473, 474, 14, 475, 46, 48, 923, 924, 925, 926, 927, 928, 929, 930, 931, 932, 933, 934, 935, 936, 954, 955, 956, 957, 958, 959, 960, 961, 962, 963, 964, 965, 966, 967, 968, 969] (by decide +kernel) (by decide +kernel)
set_option maxRecDepth 20000 in
theorem gL_law_X2_letters : GoodIn wsL_law (wsV RL 69 RX2 yX2_letters wsX2_letters) := goodIn_app (goodIn_of _ (by decide +kernel)) ggL_law_X2_letters
set_option maxRecDepth 20000 in
theorem ggL_law_X3_letters : GoodIn wsL_law wsX3_letters := goodIn_r _ [479, 170, 171, 5, 172, 177, 178, 179, 180, 91, 218, 219, 220, 221, 937, 938, 939, 940, 941, 942, 943, 944, 945, 946, 947, 948, 949, 950, 951, 952, 953] (by decide +kernel) (by decide +kernel)
set_option maxRecDepth 20000 in
theorem gL_law_X3_letters : GoodIn wsL_law (wsV RL 72 RX3 yX3_letters wsX3_letters) := goodIn_app (goodIn_of _ (by decide +kernel)) ggL_law_X3_letters
set_option maxRecDepth 20000 in
theorem ggL_law_X2_would : GoodIn wsL_law wsX2_would := goodIn_r _ [483, 15, 117, 118, 17, 120, 121, 2, 122, 105, 106, 107, 14, 108, 40, 109, 110, 111, 112, 41, 42, 43, 44, 45, 46, 47, 48, 49, 50, 51, 52, 53, 54, 55, 127, 128, 129, 130, 131, 132, 133, 134, 135, 136, 137, 138, 139, 140, 141, 142, 143, 144, 145, 146, 923, 924, 925, 926, 927, 928, 929, 930, 931, 932, 933, 934, 935, 936, 954, 955, 956, 957, 958, 959, 960, 961, 962, 963, 964, 965, 966, 967, 968, 969] (by decide +kernel) (by decide +kernel)
set_option maxRecDepth 20000 in
theorem gL_law_X2_would : GoodIn wsL_law (wsV RL 73 RX2 yX2_would wsX2_would) := goodIn_app (goodIn_of _ (by decide +kernel)) ggL_law_X2_would
