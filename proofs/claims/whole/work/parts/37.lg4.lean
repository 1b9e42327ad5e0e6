set_option maxRecDepth 20000 in
theorem ggL_law_X8_turns : GoodIn wsL_law wsX8_turns := goodIn_r _ [741, 150, 19, 380, 382, 742, 476, 225, 477, 445, 153, 154, 2, 155, 934, 935, 936, 937, 938, 939, 940, 941, 942, 943, 999, 1000, 1001, 1002, 1003, 1004, 1005, 1006, 1007, 1008, 1009, 1010] (by decide +kernel) (by decide +kernel)
set_option maxRecDepth 20000 in
theorem gL_law_X8_turns : GoodIn wsL_law (wsV RL 95 RX8 yX8_turns wsX8_turns) := goodIn_app (goodIn_of _ (by decide +kernel)) ggL_law_X8_turns
set_option maxRecDepth 20000 in
theorem ggL_law_X9_turns : GoodIn wsL_law wsX9_turns := goodIn_r _ [746, 500, 639, 166, 145, 364, 501, 169, 170, 5, 171, 518, 519, 520, 944, 945, 946, 947, 948, 949, 950, 951, 952, 953, 954, 955, 956, 957, 958, 959, 960, 961, 962, 963, 964, 965, 966, 967, 968, 969, 970, 971, 972, 973, 974, 975, 976, 977, 978, 979, 980, 981, 982, 983, 984, 985, 986, 987, 988, 989, 990] (by decide +kernel) (by decide +kernel)
set_option maxRecDepth 20000 in
theorem gL_law_X9_turns : GoodIn wsL_law (wsV RL 98 RX9 yX9_turns wsX9_turns) := goodIn_app (goodIn_of _ (by decide +kernel)) ggL_law_X9_turns
set_option maxRecDepth 20000 in
theorem ggL_law_X8_stop : GoodIn wsL_law wsX8_stop := goodIn_r _ [750, 150, 445, 28, 153, 154, 2, 155, 446, 447, 448, 449, 19, 380, 24, 390, 751, 752, 753, 27, 754, 82, 755, 756, 406, 225, 407, 84, 656, 658, 630, 631, 632, 81, 633, 461, 462, 23, 463, 464, 281, 282, 283, 284, 285, 286, 287, 402, 401, 404, 403, 634, 466, 467, 468, 469, 470, 471, 472, 473, 474, 475, 476, 477, 478, 479, 480, 481, 18, 482, 68, 65, 265, 266, 267, 268, 57, 483, 484, 485, 486, 69, 70, 487, 488, 489, 490, 491, 224, 226, 405, 934, 935, 936, 937, 938, 939, 940, 941, 942, 943, 999, 1000, 1001, 1002, 1003, 1004, 1005, 1006, 1007, 1008, 1009, 1010, 1011, 1012, 1013, 1014, 1015, 1016, 1017, 1018, 1019, 1020, 1021, 1022, 1023, 1024, 1025, 1026, 1027, 1028] (by decide +kernel) (by decide +kernel)
set_option maxRecDepth 20000 in
theorem gL_law_X8_stop : GoodIn wsL_law (wsV RL 99 RX8 yX8_stop wsX8_stop) := goodIn_app (goodIn_of _ (by decide +kernel)) ggL_law_X8_stop
set_option maxRecDepth 20000 in
theorem ggL_law_X9_stop : GoodIn wsL_law wsX9_stop := goodIn_r _ [760, 639, 166, 501, 124, 169, 170, 5, 171, 502, 503, 504, 505, 145, 640, 641, 642, 643, 134, 510, 511, 512, 513, 121, 363, 119, 118, 364, 365, 514, 515, 516, 517, 120, 366, 518, 519, 520, 521, 522, 523, 524, 644, 645, 646, 647, 944, 945, 946, 947, 948, 949, 950, 951, 952, 953, 954, 955, 956, 957, 958, 959, 960, 961, 962, 963, 964, 965, 966, 967, 968, 969, 970, 971, 972, 973, 974, 975, 976, 977, 978, 979, 980, 981, 982, 983, 984, 985, 986, 987, 988, 989, 990] (by decide +kernel) (by decide +kernel)
set_option maxRecDepth 20000 in
theorem gL_law_X9_stop : GoodIn wsL_law (wsV RL 102 RX9 yX9_stop wsX9_stop) := goodIn_app (goodIn_of _ (by decide +kernel)) ggL_law_X9_stop
set_option maxRecDepth 20000 in
theorem ggL_law_X8_nods : GoodIn wsL_law wsX8_nods := goodIn_r _ [764, 150, 765, 766, 153, 154, 2, 155] (by decide +kernel) (by decide +kernel)
set_option maxRecDepth 20000 in
theorem gL_law_X8_nods : GoodIn wsL_law (wsV RL 103 RX8 yX8_nods wsX8_nods) := goodIn_app (goodIn_of _ (by decide +kernel)) ggL_law_X8_nods
set_option maxRecDepth 20000 in
theorem ggL_law_X9_nods : GoodIn wsL_law wsX9_nods := goodIn_r _ [770, 500, 771, 166, 772, 169, 170, 5, 171] (by decide +kernel) (by decide +kernel)
set_option maxRecDepth 20000 in
theorem gL_law_X9_nods : GoodIn wsL_law (wsV RL 106 RX9 yX9_nods wsX9_nods) := goodIn_app (goodIn_of _ (by decide +kernel)) ggL_law_X9_nods
set_option maxRecDepth 20000 in
theorem ggL_law_X8_see : GoodIn wsL_law wsX8_see := goodIn_r _ [776, 150, 36, 393, 152, 153, 154, 2, 155, 777, 778, 779, 35, 780, 97, 98, 292, 781, 782, 783, 934, 935, 936, 937, 938, 939, 940, 941, 942, 943, 1032, 1033, 1034, 1035, 1036, 1037, 1038, 1039, 1040] (by decide +kernel) (by decide +kernel)
set_option maxRecDepth 20000 in
theorem gL_law_X8_see : GoodIn wsL_law (wsV RL 107 RX8 yX8_see wsX8_see) := goodIn_app (goodIn_of _ (by decide +kernel)) ggL_law_X8_see
set_option maxRecDepth 20000 in
theorem ggL_law_X9_see : GoodIn wsL_law wsX9_see := goodIn_r _ [787, 639, 788, 789, 166, 310, 168, 135, 136, 169, 170, 5, 171, 944, 945, 946, 947, 948, 949, 950, 951, 952, 953, 954, 955, 956, 957, 958, 959, 960, 961, 962, 963, 964, 965, 966, 967, 968, 969, 970, 971, 972, 973, 974, 975, 976, 977, 978, 979, 980, 981, 982, 983, 984, 985, 986, 987, 988, 989, 990] (by decide +kernel) (by decide +kernel)
set_option maxRecDepth 20000 in
theorem gL_law_X9_see : GoodIn wsL_law (wsV RL 110 RX9 yX9_see wsX9_see) := goodIn_app (goodIn_of _ (by decide +kernel)) ggL_law_X9_see
set_option maxRecDepth 20000 in
theorem ggL_law_X8_fits : GoodIn wsL_law wsX8_fits := goodIn_r _ [793, 19, 384, 150, 36, 153, 154, 2, 155, 794, 795, 796, 35, 797, 292, 97, 98, 798, 799, 800, 801, 802, 803, 804, 805, 484, 485, 18, 486, 69, 70, 934, 935, 936, 937, 938, 939, 940, 941, 942, 943, 999, 1000, 1001, 1002, 1003, 1004, 1005, 1006, 1007, 1008, 1009, 1010, 1032, 1033, 1034, 1035, 1036, 1037, 1038, 1039, 1040] (by decide +kernel) (by decide +kernel)
set_option maxRecDepth 20000 in
theorem gL_law_X8_fits : GoodIn wsL_law (wsV RL 111 RX8 yX8_fits wsX8_fits) := goodIn_app (goodIn_of _ (by decide +kernel)) ggL_law_X8_fits
set_option maxRecDepth 20000 in
theorem ggL_law_X9_fits : GoodIn wsL_law wsX9_fits := goodIn_r _ [809, 118, 166, 169, 170, 5, 171, 810, 811, 812, 813, 310, 135, 136, 363, 514, 515, 516, 517, 120, 366, 944, 945, 946, 947, 948, 949, 950, 951, 952, 953, 954, 955, 956, 957, 958, 959, 960, 961, 962, 963, 964, 965, 966, 967, 968, 969, 970, 971, 972, 973, 974, 975, 976, 977, 978, 979, 980, 981, 982, 983, 984, 985, 986, 987, 988, 989, 990] (by decide +kernel) (by decide +kernel)
set_option maxRecDepth 20000 in
theorem gL_law_X9_fits : GoodIn wsL_law (wsV RL 114 RX9 yX9_fits wsX9_fits) := goodIn_app (goodIn_of _ (by decide +kernel)) ggL_law_X9_fits
