set_option maxRecDepth 20000 in
theorem ggL_law_X8_worm : GoodIn wsL_law wsX8_worm := goodIn_r _ [420, 19, 385, 154, 157, 158, 2, 159, 421, 267, 268, 18, 269, 57, 935, 936, 937, 938, 939, 940, 941, 942, 943, 944, 1000, 1001, 1002, 1003, 1004, 1005, 1006, 1007, 1008, 1009, 1010, 1011] (by decide +kernel) (by decide +kernel)
set_option maxRecDepth 20000 in
theorem gL_law_X8_worm : GoodIn wsL_law (wsV RL 31 RX8 yX8_worm wsX8_worm) := goodIn_app (goodIn_of _ (by decide +kernel)) ggL_law_X8_worm
set_option maxRecDepth 20000 in
theorem ggL_law_X9_worm : GoodIn wsL_law wsX9_worm := goodIn_r _ [425, 122, 123, 170, 173, 174, 5, 175, 945, 946, 947, 948, 949, 950, 951, 952, 953, 954, 955, 956, 957, 958, 959, 960, 961, 962, 963, 964, 965, 966, 967, 968, 969, 970, 971, 972, 973, 974, 975, 976, 977, 978, 979, 980, 981, 982, 983, 984, 985, 986, 987, 988, 989, 990, 991] (by decide +kernel) (by decide +kernel)
set_option maxRecDepth 20000 in
theorem gL_law_X9_worm : GoodIn wsL_law (wsV RL 34 RX9 yX9_worm wsX9_worm) := goodIn_app (goodIn_of _ (by decide +kernel)) ggL_law_X9_worm
set_option maxRecDepth 20000 in
theorem ggL_law_X8_star : GoodIn wsL_law wsX8_star := goodIn_r _ [429, 19, 183, 430, 154, 157, 158, 2, 159, 431, 271, 272, 18, 273, 58, 432, 275, 276, 277, 59, 935, 936, 937, 938, 939, 940, 941, 942, 943, 944, 1000, 1001, 1002, 1003, 1004, 1005, 1006, 1007, 1008, 1009, 1010, 1011] (by decide +kernel) (by decide +kernel)
set_option maxRecDepth 20000 in
theorem gL_law_X8_star : GoodIn wsL_law (wsV RL 35 RX8 yX8_star wsX8_star) := goodIn_app (goodIn_of _ (by decide +kernel)) ggL_law_X8_star
set_option maxRecDepth 20000 in
theorem ggL_law_X9_star : GoodIn wsL_law wsX9_star := goodIn_r _ [436, 315, 437, 126, 127, 170, 173, 174, 5, 175, 945, 946, 947, 948, 949, 950, 951, 952, 953, 954, 955, 956, 957, 958, 959, 960, 961, 962, 963, 964, 965, 966, 967, 968, 969, 970, 971, 972, 973, 974, 975, 976, 977, 978, 979, 980, 981, 982, 983, 984, 985, 986, 987, 988, 989, 990, 991] (by decide +kernel) (by decide +kernel)
set_option maxRecDepth 20000 in
theorem gL_law_X9_star : GoodIn wsL_law (wsV RL 39 RX9 yX9_star wsX9_star) := goodIn_app (goodIn_of _ (by decide +kernel)) ggL_law_X9_star
set_option maxRecDepth 20000 in
theorem ggL_law_X8_minute : GoodIn wsL_law wsX8_minute := goodIn_r _ [441, 32, 24, 19, 389, 442, 443, 444, 2, 445, 154, 446, 181, 156, 157, 158, 159, 447, 448, 449, 450, 381, 391, 451, 452, 453, 31, 454, 455, 300, 456, 228, 229, 230, 457, 458, 459, 460, 95, 461, 462, 463, 23, 464, 465, 282, 283, 284, 285, 286, 287, 288, 403, 402, 405, 404, 466, 467, 468, 469, 470, 471, 472, 473, 474, 475, 476, 477, 478, 479, 480, 481, 482, 18, 483, 76, 65, 266, 267, 268, 269, 57, 484, 485, 486, 487, 68, 69, 488, 489, 490, 491, 492, 406, 407, 408, 935, 936, 937, 938, 939, 940, 941, 942, 943, 944, 1012, 1013, 1014, 1015, 1016, 1017, 1018, 1019, 1020, 1021, 1022, 1023, 1000, 1001, 1002, 1003, 1004, 1005, 1006, 1007, 1008, 1009, 1010, 1011, 1030, 1031, 1032] (by decide +kernel) (by decide +kernel)
set_option maxRecDepth 20000 in
theorem gL_law_X8_minute : GoodIn wsL_law (wsV RL 40 RX8 yX8_minute wsX8_minute) := goodIn_app (goodIn_of _ (by decide +kernel)) ggL_law_X8_minute
set_option maxRecDepth 20000 in
theorem ggL_law_X9_minute : GoodIn wsL_law wsX9_minute := goodIn_r _ [496, 128, 497, 498, 499, 5, 500, 501, 170, 502, 172, 173, 174, 175, 503, 504, 505, 506, 149, 507, 508, 509, 510, 314, 137, 511, 512, 513, 514, 125, 364, 123, 122, 365, 366, 515, 516, 517, 518, 124, 367, 519, 520, 521, 522, 523, 524, 525, 945, 946, 947, 948, 949, 950, 951, 952, 953, 954, 955, 956, 957, 958, 959, 960, 961, 962, 963, 964, 965, 966, 967, 968, 969, 970, 971, 972, 973, 974, 975, 976, 977, 978, 979, 980, 981, 982, 983, 984, 985, 986, 987, 988, 989, 990, 991] (by decide +kernel) (by decide +kernel)
set_option maxRecDepth 20000 in
theorem gL_law_X9_minute : GoodIn wsL_law (wsV RL 43 RX9 yX9_minute wsX9_minute) := goodIn_app (goodIn_of _ (by decide +kernel)) ggL_law_X9_minute
set_option maxRecDepth 20000 in
theorem ggL_law_X8_press : GoodIn wsL_law wsX8_press := goodIn_r _ [529, 154, 446, 32, 24, 530, 531, 157, 158, 2, 159, 447, 448, 449, 450, 19, 381, 391, 451, 452, 453, 31, 454, 455, 300, 456, 228, 229, 230, 457, 458, 459, 460, 95, 461, 462, 463, 23, 464, 465, 282, 283, 284, 285, 286, 287, 288, 403, 402, 405, 404, 935, 936, 937, 938, 939, 940, 941, 942, 943, 944, 1012, 1013, 1014, 1015, 1016, 1017, 1018, 1019, 1020, 1021, 1022, 1023, 1000, 1001, 1002, 1003, 1004, 1005, 1006, 1007, 1008, 1009, 1010, 1011, 1030, 1031, 1032] (by decide +kernel) (by decide +kernel)
set_option maxRecDepth 20000 in
theorem gL_law_X8_press : GoodIn wsL_law (wsV RL 44 RX8 yX8_press wsX8_press) := goodIn_app (goodIn_of _ (by decide +kernel)) ggL_law_X8_press
set_option maxRecDepth 20000 in
theorem ggL_law_X9_press : GoodIn wsL_law wsX9_press := goodIn_r _ [535, 536, 501, 170, 502, 128, 173, 174, 5, 175, 503, 504, 505, 506, 149, 507, 508, 509, 510, 314, 137, 945, 946, 947, 948, 949, 950, 951, 952, 953, 954, 955, 956, 957, 958, 959, 960, 961, 962, 963, 964, 965, 966, 967, 968, 969, 970, 971, 972, 973, 974, 975, 976, 977, 978, 979, 980, 981, 982, 983, 984, 985, 986, 987, 988, 989, 990, 991] (by decide +kernel) (by decide +kernel)
set_option maxRecDepth 20000 in
theorem gL_law_X9_press : GoodIn wsL_law (wsV RL 47 RX9 yX9_press wsX9_press) := goodIn_app (goodIn_of _ (by decide +kernel)) ggL_law_X9_press
set_option maxRecDepth 20000 in
theorem ggL_law_X8_rule : GoodIn wsL_law wsX8_rule := goodIn_r _ [540, 154, 32, 24, 391, 19, 541, 542, 2, 543, 157, 158, 159, 442, 443, 444, 445, 446, 181, 156, 447, 448, 449, 450, 381, 451, 452, 453, 31, 454, 455, 300, 456, 228, 229, 230, 457, 458, 459, 460, 95, 461, 462, 463, 23, 464, 465, 282, 283, 284, 285, 286, 287, 288, 403, 402, 405, 404, 544, 545, 546, 547, 548, 549, 550, 18, 551, 70, 552, 477, 478, 470, 471, 472, 473, 474, 475, 476, 479, 480, 481, 482, 483, 76, 65, 266, 267, 268, 269, 57, 484, 485, 486, 487, 68, 69, 488, 489, 490, 491, 492, 406, 407, 408, 935, 936, 937, 938, 939, 940, 941, 942, 943, 944, 1012, 1013, 1014, 1015, 1016, 1017, 1018, 1019, 1020, 1021, 1022, 1023, 1000, 1001, 1002, 1003, 1004, 1005, 1006, 1007, 1008, 1009, 1010, 1011, 1030, 1031, 1032] (by decide +kernel) (by decide +kernel)
set_option maxRecDepth 20000 in
theorem gL_law_X8_rule : GoodIn wsL_law (wsV RL 48 RX8 yX8_rule wsX8_rule) := goodIn_app (goodIn_of _ (by decide +kernel)) ggL_law_X8_rule
set_option maxRecDepth 20000 in
theorem ggL_law_X9_rule : GoodIn wsL_law wsX9_rule := goodIn_r _ [556, 501, 557, 170, 128, 173, 174, 5, 175, 497, 498, 499, 500, 502, 172, 503, 504, 505, 506, 149, 507, 508, 509, 510, 314, 137, 558, 559, 560, 561, 562, 563, 564, 565, 125, 519, 520, 521, 511, 512, 513, 514, 364, 123, 122, 365, 366, 515, 516, 517, 518, 124, 367, 522, 523, 524, 525, 945, 946, 947, 948, 949, 950, 951, 952, 953, 954, 955, 956, 957, 958, 959, 960, 961, 962, 963, 964, 965, 966, 967, 968, 969, 970, 971, 972, 973, 974, 975, 976, 977, 978, 979, 980, 981, 982, 983, 984, 985, 986, 987, 988, 989, 990, 991] (by decide +kernel) (by decide +kernel)
set_option maxRecDepth 20000 in
theorem gL_law_X9_rule : GoodIn wsL_law (wsV RL 52 RX9 yX9_rule wsX9_rule) := goodIn_app (goodIn_of _ (by decide +kernel)) ggL_law_X9_rule
