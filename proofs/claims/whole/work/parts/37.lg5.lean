set_option maxRecDepth 20000 in
theorem ggL_law_X8_periods : GoodIn wsL_law wsX8_periods := goodIn_r _ [818, 36, 19, 819, 820, 821, 35, 822, 823, 796, 797, 798, 293, 101, 102, 799, 800, 801, 802, 803, 804, 805, 806, 485, 486, 18, 487, 68, 69, 935, 936, 937, 938, 939, 940, 941, 942, 943, 944, 1033, 1034, 1035, 1036, 1037, 1038, 1039, 1040, 1041, 1000, 1001, 1002, 1003, 1004, 1005, 1006, 1007, 1008, 1009, 1010, 1011] (by decide +kernel) (by decide +kernel)
set_option maxRecDepth 20000 in
theorem gL_law_X8_periods : GoodIn wsL_law (wsV RL 115 RX8 yX8_periods wsX8_periods) := goodIn_app (goodIn_of _ (by decide +kernel)) ggL_law_X8_periods
set_option maxRecDepth 20000 in
theorem ggL_law_X9_periods : GoodIn wsL_law wsX9_periods := goodIn_r _ [827, 811, 812, 813, 5, 814, 311, 139, 140, 364, 515, 516, 517, 518, 124, 367, 945, 946, 947, 948, 949, 950, 951, 952, 953, 954, 955, 956, 957, 958, 959, 960, 961, 962, 963, 964, 965, 966, 967, 968, 969, 970, 971, 972, 973, 974, 975, 976, 977, 978, 979, 980, 981, 982, 983, 984, 985, 986, 987, 988, 989, 990, 991] (by decide +kernel) (by decide +kernel)
set_option maxRecDepth 20000 in
theorem gL_law_X9_periods : GoodIn wsL_law (wsV RL 118 RX9 yX9_periods wsX9_periods) := goodIn_app (goodIn_of _ (by decide +kernel)) ggL_law_X9_periods
set_option maxRecDepth 20000 in
theorem ggL_law_X8_look : GoodIn wsL_law wsX8_look := goodIn_r _ [831, 19, 381, 446, 24, 181, 36, 385, 832, 833, 834, 35, 835, 293, 101, 800, 801, 802, 803, 804, 805, 935, 936, 937, 938, 939, 940, 941, 942, 943, 944, 1000, 1001, 1002, 1003, 1004, 1005, 1006, 1007, 1008, 1009, 1010, 1011, 1012, 1013, 1014, 1015, 1016, 1017, 1018, 1019, 1020, 1021, 1022, 1023, 1033, 1034, 1035, 1036, 1037, 1038, 1039, 1040, 1041] (by decide +kernel) (by decide +kernel)
set_option maxRecDepth 20000 in
theorem gL_law_X8_look : GoodIn wsL_law (wsV RL 119 RX8 yX8_look wsX8_look) := goodIn_app (goodIn_of _ (by decide +kernel)) ggL_law_X8_look
set_option maxRecDepth 20000 in
theorem ggL_law_X9_look : GoodIn wsL_law wsX9_look := goodIn_r _ [839, 149, 502, 311, 139, 122, 128, 840, 841, 5, 842, 945, 946, 947, 948, 949, 950, 951, 952, 953, 954, 955, 956, 957, 958, 959, 960, 961, 962, 963, 964, 965, 966, 967, 968, 969, 970, 971, 972, 973, 974, 975, 976, 977, 978, 979, 980, 981, 982, 983, 984, 985, 986, 987, 988, 989, 990, 991] (by decide +kernel) (by decide +kernel)
set_option maxRecDepth 20000 in
theorem gL_law_X9_look : GoodIn wsL_law (wsV RL 122 RX9 yX9_look wsX9_look) := goodIn_app (goodIn_of _ (by decide +kernel)) ggL_law_X9_look
set_option maxRecDepth 20000 in
theorem ggL_law_X8_tail : GoodIn wsL_law wsX8_tail := goodIn_r _ [846, 154, 36, 395, 156, 157, 158, 2, 159, 847, 848, 849, 35, 850, 103, 104, 294, 782, 783, 784, 935, 936, 937, 938, 939, 940, 941, 942, 943, 944, 1033, 1034, 1035, 1036, 1037, 1038, 1039, 1040, 1041] (by decide +kernel) (by decide +kernel)
set_option maxRecDepth 20000 in
theorem gL_law_X8_tail : GoodIn wsL_law (wsV RL 123 RX8 yX8_tail wsX8_tail) := goodIn_app (goodIn_of _ (by decide +kernel)) ggL_law_X8_tail
set_option maxRecDepth 20000 in
theorem ggL_law_X9_tail : GoodIn wsL_law wsX9_tail := goodIn_r _ [854, 640, 855, 856, 170, 312, 172, 141, 142, 143, 173, 174, 5, 175, 945, 946, 947, 948, 949, 950, 951, 952, 953, 954, 955, 956, 957, 958, 959, 960, 961, 962, 963, 964, 965, 966, 967, 968, 969, 970, 971, 972, 973, 974, 975, 976, 977, 978, 979, 980, 981, 982, 983, 984, 985, 986, 987, 988, 989, 990, 991] (by decide +kernel) (by decide +kernel)
set_option maxRecDepth 20000 in
theorem gL_law_X9_tail : GoodIn wsL_law (wsV RL 126 RX9 yX9_tail wsX9_tail) := goodIn_app (goodIn_of _ (by decide +kernel)) ggL_law_X9_tail
set_option maxRecDepth 20000 in
theorem ggL_law_X8_axes : GoodIn wsL_law wsX8_axes := goodIn_r _ [860, 36, 861, 862, 863, 35, 864, 294, 103, 104, 800, 801, 802, 935, 936, 937, 938, 939, 940, 941, 942, 943, 944, 1033, 1034, 1035, 1036, 1037, 1038, 1039, 1040, 1041] (by decide +kernel) (by decide +kernel)
set_option maxRecDepth 20000 in
theorem gL_law_X8_axes : GoodIn wsL_law (wsV RL 127 RX8 yX8_axes wsX8_axes) := goodIn_app (goodIn_of _ (by decide +kernel)) ggL_law_X8_axes
set_option maxRecDepth 20000 in
theorem ggL_law_X9_axes : GoodIn wsL_law wsX9_axes := goodIn_r _ [868, 312, 143, 142, 141, 945, 946, 947, 948, 949, 950, 951, 952, 953, 954, 955, 956, 957, 958, 959, 960, 961, 962, 963, 964, 965, 966, 967, 968, 969, 970, 971, 972, 973, 974, 975, 976, 977, 978, 979, 980, 981, 982, 983, 984, 985, 986, 987, 988, 989, 990, 991] (by decide +kernel) (by decide +kernel)
set_option maxRecDepth 20000 in
theorem gL_law_X9_axes : GoodIn wsL_law (wsV RL 130 RX9 yX9_axes wsX9_axes) := goodIn_app (goodIn_of _ (by decide +kernel)) ggL_law_X9_axes
set_option maxRecDepth 20000 in
theorem ggL_law_X8_write : GoodIn wsL_law wsX8_write := goodIn_r _ [872, 154, 36, 396, 156, 157, 158, 2, 159, 873, 874, 875, 35, 876, 105, 106, 295, 782, 783, 784, 935, 936, 937, 938, 939, 940, 941, 942, 943, 944, 1033, 1034, 1035, 1036, 1037, 1038, 1039, 1040, 1041] (by decide +kernel) (by decide +kernel)
set_option maxRecDepth 20000 in
theorem gL_law_X8_write : GoodIn wsL_law (wsV RL 131 RX8 yX8_write wsX8_write) := goodIn_app (goodIn_of _ (by decide +kernel)) ggL_law_X8_write
set_option maxRecDepth 20000 in
theorem ggL_law_X9_write : GoodIn wsL_law wsX9_write := goodIn_r _ [880, 881, 882, 170, 313, 172, 144, 145, 173, 174, 5, 175, 945, 946, 947, 948, 949, 950, 951, 952, 953, 954, 955, 956, 957, 958, 959, 960, 961, 962, 963, 964, 965, 966, 967, 968, 969, 970, 971, 972, 973, 974, 975, 976, 977, 978, 979, 980, 981, 982, 983, 984, 985, 986, 987, 988, 989, 990, 991] (by decide +kernel) (by decide +kernel)
set_option maxRecDepth 20000 in
theorem gL_law_X9_write : GoodIn wsL_law (wsV RL 134 RX9 yX9_write wsX9_write) := goodIn_app (goodIn_of _ (by decide +kernel)) ggL_law_X9_write
