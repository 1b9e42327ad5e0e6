set_option maxRecDepth 20000 in
theorem ggL_law_X8_turns : GoodIn wsL_law wsX8_turns := goodIn_r _ [742, 154, 19, 381, 383, 743, 477, 229, 478, 446, 157, 158, 2, 159, 935, 936, 937, 938, 939, 940, 941, 942, 943, 944, 1000, 1001, 1002, 1003, 1004, 1005, 1006, 1007, 1008, 1009, 1010, 1011] (by decide +kernel) (by decide +kernel)
set_option maxRecDepth 20000 in
theorem gL_law_X8_turns : GoodIn wsL_law (wsV RL 95 RX8 yX8_turns wsX8_turns) := goodIn_app (goodIn_of _ (by decide +kernel)) ggL_law_X8_turns
set_option maxRecDepth 20000 in
theorem ggL_law_X9_turns : GoodIn wsL_law wsX9_turns := goodIn_r _ [747, 501, 640, 170, 149, 365, 502, 173, 174, 5, 175, 519, 520, 521, 945, 946, 947, 948, 949, 950, 951, 952, 953, 954, 955, 956, 957, 958, 959, 960, 961, 962, 963, 964, 965, 966, 967, 968, 969, 970, 971, 972, 973, 974, 975, 976, 977, 978, 979, 980, 981, 982, 983, 984, 985, 986, 987, 988, 989, 990, 991] (by decide +kernel) (by decide +kernel)
set_option maxRecDepth 20000 in
theorem gL_law_X9_turns : GoodIn wsL_law (wsV RL 98 RX9 yX9_turns wsX9_turns) := goodIn_app (goodIn_of _ (by decide +kernel)) ggL_law_X9_turns
set_option maxRecDepth 20000 in
theorem ggL_law_X8_stop : GoodIn wsL_law wsX8_stop := goodIn_r _ [751, 154, 446, 28, 157, 158, 2, 159, 447, 448, 449, 450, 19, 381, 24, 391, 752, 753, 754, 27, 755, 86, 756, 757, 407, 229, 408, 88, 657, 659, 631, 632, 633, 85, 634, 462, 463, 23, 464, 465, 282, 283, 284, 285, 286, 287, 288, 403, 402, 405, 404, 635, 467, 468, 469, 470, 471, 472, 473, 474, 475, 476, 477, 478, 479, 480, 481, 482, 18, 483, 76, 65, 266, 267, 268, 269, 57, 484, 485, 486, 487, 68, 69, 488, 489, 490, 491, 492, 228, 230, 406, 935, 936, 937, 938, 939, 940, 941, 942, 943, 944, 1000, 1001, 1002, 1003, 1004, 1005, 1006, 1007, 1008, 1009, 1010, 1011, 1012, 1013, 1014, 1015, 1016, 1017, 1018, 1019, 1020, 1021, 1022, 1023, 1024, 1025, 1026, 1027, 1028, 1029] (by decide +kernel) (by decide +kernel)
set_option maxRecDepth 20000 in
theorem gL_law_X8_stop : GoodIn wsL_law (wsV RL 99 RX8 yX8_stop wsX8_stop) := goodIn_app (goodIn_of _ (by decide +kernel)) ggL_law_X8_stop
set_option maxRecDepth 20000 in
theorem ggL_law_X9_stop : GoodIn wsL_law wsX9_stop := goodIn_r _ [761, 640, 170, 502, 128, 173, 174, 5, 175, 503, 504, 505, 506, 149, 641, 642, 643, 644, 138, 511, 512, 513, 514, 125, 364, 123, 122, 365, 366, 515, 516, 517, 518, 124, 367, 519, 520, 521, 522, 523, 524, 525, 645, 646, 647, 648, 945, 946, 947, 948, 949, 950, 951, 952, 953, 954, 955, 956, 957, 958, 959, 960, 961, 962, 963, 964, 965, 966, 967, 968, 969, 970, 971, 972, 973, 974, 975, 976, 977, 978, 979, 980, 981, 982, 983, 984, 985, 986, 987, 988, 989, 990, 991] (by decide +kernel) (by decide +kernel)
set_option maxRecDepth 20000 in
theorem gL_law_X9_stop : GoodIn wsL_law (wsV RL 102 RX9 yX9_stop wsX9_stop) := goodIn_app (goodIn_of _ (by decide +kernel)) ggL_law_X9_stop
set_option maxRecDepth 20000 in
theorem ggL_law_X8_nods : GoodIn wsL_law wsX8_nods := goodIn_r _ [765, 154, 766, 767, 157, 158, 2, 159] (by decide +kernel) (by decide +kernel)
set_option maxRecDepth 20000 in
theorem gL_law_X8_nods : GoodIn wsL_law (wsV RL 103 RX8 yX8_nods wsX8_nods) := goodIn_app (goodIn_of _ (by decide +kernel)) ggL_law_X8_nods
set_option maxRecDepth 20000 in
theorem ggL_law_X9_nods : GoodIn wsL_law wsX9_nods := goodIn_r _ [771, 501, 772, 170, 773, 173, 174, 5, 175] (by decide +kernel) (by decide +kernel)
set_option maxRecDepth 20000 in
theorem gL_law_X9_nods : GoodIn wsL_law (wsV RL 106 RX9 yX9_nods wsX9_nods) := goodIn_app (goodIn_of _ (by decide +kernel)) ggL_law_X9_nods
set_option maxRecDepth 20000 in
theorem ggL_law_X8_see : GoodIn wsL_law wsX8_see := goodIn_r _ [777, 154, 36, 394, 156, 157, 158, 2, 159, 778, 779, 780, 35, 781, 101, 102, 293, 782, 783, 784, 935, 936, 937, 938, 939, 940, 941, 942, 943, 944, 1033, 1034, 1035, 1036, 1037, 1038, 1039, 1040, 1041] (by decide +kernel) (by decide +kernel)
set_option maxRecDepth 20000 in
theorem gL_law_X8_see : GoodIn wsL_law (wsV RL 107 RX8 yX8_see wsX8_see) := goodIn_app (goodIn_of _ (by decide +kernel)) ggL_law_X8_see
set_option maxRecDepth 20000 in
theorem ggL_law_X9_see : GoodIn wsL_law wsX9_see := goodIn_r _ [788, 640, 789, 790, 170, 311, 172, 139, 140, 173, 174, 5, 175, 945, 946, 947, 948, 949, 950, 951, 952, 953, 954, 955, 956, 957, 958, 959, 960, 961, 962, 963, 964, 965, 966, 967, 968, 969, 970, 971, 972, 973, 974, 975, 976, 977, 978, 979, 980, 981, 982, 983, 984, 985, 986, 987, 988, 989, 990, 991] (by decide +kernel) (by decide +kernel)
set_option maxRecDepth 20000 in
theorem gL_law_X9_see : GoodIn wsL_law (wsV RL 110 RX9 yX9_see wsX9_see) := goodIn_app (goodIn_of _ (by decide +kernel)) ggL_law_X9_see
set_option maxRecDepth 20000 in
theorem ggL_law_X8_fits : GoodIn wsL_law wsX8_fits := goodIn_r _ [794, 19, 385, 154, 36, 157, 158, 2, 159, 795, 796, 797, 35, 798, 293, 101, 102, 799, 800, 801, 802, 803, 804, 805, 806, 485, 486, 18, 487, 68, 69, 935, 936, 937, 938, 939, 940, 941, 942, 943, 944, 1000, 1001, 1002, 1003, 1004, 1005, 1006, 1007, 1008, 1009, 1010, 1011, 1033, 1034, 1035, 1036, 1037, 1038, 1039, 1040, 1041] (by decide +kernel) (by decide +kernel)
set_option maxRecDepth 20000 in
theorem gL_law_X8_fits : GoodIn wsL_law (wsV RL 111 RX8 yX8_fits wsX8_fits) := goodIn_app (goodIn_of _ (by decide +kernel)) ggL_law_X8_fits
set_option maxRecDepth 20000 in
theorem ggL_law_X9_fits : GoodIn wsL_law wsX9_fits := goodIn_r _ [810, 122, 170, 173, 174, 5, 175, 811, 812, 813, 814, 311, 139, 140, 364, 515, 516, 517, 518, 124, 367, 945, 946, 947, 948, 949, 950, 951, 952, 953, 954, 955, 956, 957, 958, 959, 960, 961, 962, 963, 964, 965, 966, 967, 968, 969, 970, 971, 972, 973, 974, 975, 976, 977, 978, 979, 980, 981, 982, 983, 984, 985, 986, 987, 988, 989, 990, 991] (by decide +kernel) (by decide +kernel)
set_option maxRecDepth 20000 in
theorem gL_law_X9_fits : GoodIn wsL_law (wsV RL 114 RX9 yX9_fits wsX9_fits) := goodIn_app (goodIn_of _ (by decide +kernel)) ggL_law_X9_fits
