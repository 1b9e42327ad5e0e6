set_option maxRecDepth 20000 in
theorem ggL_law_X8_worm : GoodIn wsL_law wsX8_worm := goodIn_r _ [419, 19, 384, 150, 153, 154, 2, 155, 420, 266, 267, 18, 268, 57, 934, 935, 936, 937, 938, 939, 940, 941, 942, 943, 999, 1000, 1001, 1002, 1003, 1004, 1005, 1006, 1007, 1008, 1009, 1010] (by decide +kernel) (by decide +kernel)
set_option maxRecDepth 20000 in
theorem gL_law_X8_worm : GoodIn wsL_law (wsV RL 31 RX8 yX8_worm wsX8_worm) := goodIn_app (goodIn_of _ (by decide +kernel)) ggL_law_X8_worm
set_option maxRecDepth 20000 in
theorem ggL_law_X9_worm : GoodIn wsL_law wsX9_worm := goodIn_r _ [424, 118, 119, 166, 169, 170, 5, 171, 944, 945, 946, 947, 948, 949, 950, 951, 952, 953, 954, 955, 956, 957, 958, 959, 960, 961, 962, 963, 964, 965, 966, 967, 968, 969, 970, 971, 972, 973, 974, 975, 976, 977, 978, 979, 980, 981, 982, 983, 984, 985, 986, 987, 988, 989, 990] (by decide +kernel) (by decide +kernel)
set_option maxRecDepth 20000 in
theorem gL_law_X9_worm : GoodIn wsL_law (wsV RL 34 RX9 yX9_worm wsX9_worm) := goodIn_app (goodIn_of _ (by decide +kernel)) ggL_law_X9_worm
set_option maxRecDepth 20000 in
theorem ggL_law_X8_star : GoodIn wsL_law wsX8_star := goodIn_r _ [428, 19, 179, 429, 150, 153, 154, 2, 155, 430, 270, 271, 18, 272, 58, 431, 274, 275, 276, 59, 934, 935, 936, 937, 938, 939, 940, 941, 942, 943, 999, 1000, 1001, 1002, 1003, 1004, 1005, 1006, 1007, 1008, 1009, 1010] (by decide +kernel) (by decide +kernel)
set_option maxRecDepth 20000 in
theorem gL_law_X8_star : GoodIn wsL_law (wsV RL 35 RX8 yX8_star wsX8_star) := goodIn_app (goodIn_of _ (by decide +kernel)) ggL_law_X8_star
set_option maxRecDepth 20000 in
theorem ggL_law_X9_star : GoodIn wsL_law wsX9_star := goodIn_r _ [435, 314, 436, 122, 123, 166, 169, 170, 5, 171, 944, 945, 946, 947, 948, 949, 950, 951, 952, 953, 954, 955, 956, 957, 958, 959, 960, 961, 962, 963, 964, 965, 966, 967, 968, 969, 970, 971, 972, 973, 974, 975, 976, 977, 978, 979, 980, 981, 982, 983, 984, 985, 986, 987, 988, 989, 990] (by decide +kernel) (by decide +kernel)
set_option maxRecDepth 20000 in
theorem gL_law_X9_star : GoodIn wsL_law (wsV RL 39 RX9 yX9_star wsX9_star) := goodIn_app (goodIn_of _ (by decide +kernel)) ggL_law_X9_star
set_option maxRecDepth 20000 in
theorem ggL_law_X8_minute : GoodIn wsL_law wsX8_minute := goodIn_r _ [440, 32, 24, 19, 388, 441, 442, 443, 2, 444, 150, 445, 177, 152, 153, 154, 155, 446, 447, 448, 449, 380, 390, 450, 451, 452, 31, 453, 454, 299, 455, 224, 225, 226, 456, 457, 458, 459, 91, 460, 461, 462, 23, 463, 464, 281, 282, 283, 284, 285, 286, 287, 402, 401, 404, 403, 465, 466, 467, 468, 469, 470, 471, 472, 473, 474, 475, 476, 477, 478, 479, 480, 481, 18, 482, 68, 65, 265, 266, 267, 268, 57, 483, 484, 485, 486, 69, 70, 487, 488, 489, 490, 491, 405, 406, 407, 934, 935, 936, 937, 938, 939, 940, 941, 942, 943, 1011, 1012, 1013, 1014, 1015, 1016, 1017, 1018, 1019, 1020, 1021, 1022, 999, 1000, 1001, 1002, 1003, 1004, 1005, 1006, 1007, 1008, 1009, 1010, 1029, 1030, 1031] (by decide +kernel) (by decide +kernel)
set_option maxRecDepth 20000 in
theorem gL_law_X8_minute : GoodIn wsL_law (wsV RL 40 RX8 yX8_minute wsX8_minute) := goodIn_app (goodIn_of _ (by decide +kernel)) ggL_law_X8_minute
set_option maxRecDepth 20000 in
theorem ggL_law_X9_minute : GoodIn wsL_law wsX9_minute := goodIn_r _ [495, 124, 496, 497, 498, 5, 499, 500, 166, 501, 168, 169, 170, 171, 502, 503, 504, 505, 145, 506, 507, 508, 509, 313, 133, 510, 511, 512, 513, 121, 363, 119, 118, 364, 365, 514, 515, 516, 517, 120, 366, 518, 519, 520, 521, 522, 523, 524, 944, 945, 946, 947, 948, 949, 950, 951, 952, 953, 954, 955, 956, 957, 958, 959, 960, 961, 962, 963, 964, 965, 966, 967, 968, 969, 970, 971, 972, 973, 974, 975, 976, 977, 978, 979, 980, 981, 982, 983, 984, 985, 986, 987, 988, 989, 990] (by decide +kernel) (by decide +kernel)
set_option maxRecDepth 20000 in
theorem gL_law_X9_minute : GoodIn wsL_law (wsV RL 43 RX9 yX9_minute wsX9_minute) := goodIn_app (goodIn_of _ (by decide +kernel)) ggL_law_X9_minute
set_option maxRecDepth 20000 in
theorem ggL_law_X8_press : GoodIn wsL_law wsX8_press := goodIn_r _ [528, 150, 445, 32, 24, 529, 530, 153, 154, 2, 155, 446, 447, 448, 449, 19, 380, 390, 450, 451, 452, 31, 453, 454, 299, 455, 224, 225, 226, 456, 457, 458, 459, 91, 460, 461, 462, 23, 463, 464, 281, 282, 283, 284, 285, 286, 287, 402, 401, 404, 403, 934, 935, 936, 937, 938, 939, 940, 941, 942, 943, 1011, 1012, 1013, 1014, 1015, 1016, 1017, 1018, 1019, 1020, 1021, 1022, 999, 1000, 1001, 1002, 1003, 1004, 1005, 1006, 1007, 1008, 1009, 1010, 1029, 1030, 1031] (by decide +kernel) (by decide +kernel)
set_option maxRecDepth 20000 in
theorem gL_law_X8_press : GoodIn wsL_law (wsV RL 44 RX8 yX8_press wsX8_press) := goodIn_app (goodIn_of _ (by decide +kernel)) ggL_law_X8_press
set_option maxRecDepth 20000 in
theorem ggL_law_X9_press : GoodIn wsL_law wsX9_press := goodIn_r _ [534, 535, 500, 166, 501, 124, 169, 170, 5, 171, 502, 503, 504, 505, 145, 506, 507, 508, 509, 313, 133, 944, 945, 946, 947, 948, 949, 950, 951, 952, 953, 954, 955, 956, 957, 958, 959, 960, 961, 962, 963, 964, 965, 966, 967, 968, 969, 970, 971, 972, 973, 974, 975, 976, 977, 978, 979, 980, 981, 982, 983, 984, 985, 986, 987, 988, 989, 990] (by decide +kernel) (by decide +kernel)
set_option maxRecDepth 20000 in
theorem gL_law_X9_press : GoodIn wsL_law (wsV RL 47 RX9 yX9_press wsX9_press) := goodIn_app (goodIn_of _ (by decide +kernel)) ggL_law_X9_press
set_option maxRecDepth 20000 in
theorem ggL_law_X8_rule : GoodIn wsL_law wsX8_rule := goodIn_r _ [539, 150, 32, 24, 390, 19, 540, 541, 2, 542, 153, 154, 155, 441, 442, 443, 444, 445, 177, 152, 446, 447, 448, 449, 380, 450, 451, 452, 31, 453, 454, 299, 455, 224, 225, 226, 456, 457, 458, 459, 91, 460, 461, 462, 23, 463, 464, 281, 282, 283, 284, 285, 286, 287, 402, 401, 404, 403, 543, 544, 545, 546, 547, 548, 549, 18, 550, 71, 551, 476, 477, 469, 470, 471, 472, 473, 474, 475, 478, 479, 480, 481, 482, 68, 65, 265, 266, 267, 268, 57, 483, 484, 485, 486, 69, 70, 487, 488, 489, 490, 491, 405, 406, 407, 934, 935, 936, 937, 938, 939, 940, 941, 942, 943, 1011, 1012, 1013, 1014, 1015, 1016, 1017, 1018, 1019, 1020, 1021, 1022, 999, 1000, 1001, 1002, 1003, 1004, 1005, 1006, 1007, 1008, 1009, 1010, 1029, 1030, 1031] (by decide +kernel) (by decide +kernel)
set_option maxRecDepth 20000 in
theorem gL_law_X8_rule : GoodIn wsL_law (wsV RL 48 RX8 yX8_rule wsX8_rule) := goodIn_app (goodIn_of _ (by decide +kernel)) ggL_law_X8_rule
set_option maxRecDepth 20000 in
theorem ggL_law_X9_rule : GoodIn wsL_law wsX9_rule := goodIn_r _ [555, 500, 556, 166, 124, 169, 170, 5, 171, 496, 497, 498, 499, 501, 168, 502, 503, 504, 505, 145, 506, 507, 508, 509, 313, 133, 557, 558, 559, 560, 561, 562, 563, 564, 121, 518, 519, 520, 510, 511, 512, 513, 363, 119, 118, 364, 365, 514, 515, 516, 517, 120, 366, 521, 522, 523, 524, 944, 945, 946, 947, 948, 949, 950, 951, 952, 953, 954, 955, 956, 957, 958, 959, 960, 961, 962, 963, 964, 965, 966, 967, 968, 969, 970, 971, 972, 973, 974, 975, 976, 977, 978, 979, 980, 981, 982, 983, 984, 985, 986, 987, 988, 989, 990] (by decide +kernel) (by decide +kernel)
set_option maxRecDepth 20000 in
theorem gL_law_X9_rule : GoodIn wsL_law (wsV RL 52 RX9 yX9_rule wsX9_rule) := goodIn_app (goodIn_of _ (by decide +kernel)) ggL_law_X9_rule
