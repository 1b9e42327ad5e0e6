set_option maxRecDepth 20000 in
theorem ggL_law_X8_periods : GoodIn wsL_law wsX8_periods := goodIn_r _ [817, 36, 19, 818, 819, 820, 35, 821, 822, 795, 796, 797, 292, 97, 98, 798, 799, 800, 801, 802, 803, 804, 805, 484, 485, 18, 486, 69, 70, 934, 935, 936, 937, 938, 939, 940, 941, 942, 943, 1032, 1033, 1034, 1035, 1036, 1037, 1038, 1039, 1040, 999, 1000, 1001, 1002, 1003, 1004, 1005, 1006, 1007, 1008, 1009, 1010] (by decide +kernel) (by decide +kernel)
set_option maxRecDepth 20000 in
theorem gL_law_X8_periods : GoodIn wsL_law (wsV RL 115 RX8 yX8_periods wsX8_periods) := goodIn_app (goodIn_of _ (by decide +kernel)) ggL_law_X8_periods
set_option maxRecDepth 20000 in
theorem ggL_law_X9_periods : GoodIn wsL_law wsX9_periods := goodIn_r _ [826, 810, 811, 812, 5, 813, 310, 135, 136, 363, 514, 515, 516, 517, 120, 366, 944, 945, 946, 947, 948, 949, 950, 951, 952, 953, 954, 955, 956, 957, 958, 959, 960, 961, 962, 963, 964, 965, 966, 967, 968, 969, 970, 971, 972, 973, 974, 975, 976, 977, 978, 979, 980, 981, 982, 983, 984, 985, 986, 987, 988, 989, 990] (by decide +kernel) (by decide +kernel)
set_option maxRecDepth 20000 in
theorem gL_law_X9_periods : GoodIn wsL_law (wsV RL 118 RX9 yX9_periods wsX9_periods) := goodIn_app (goodIn_of _ (by decide +kernel)) ggL_law_X9_periods
set_option maxRecDepth 20000 in
theorem ggL_law_X8_look : GoodIn wsL_law wsX8_look := goodIn_r _ [830, 19, 380, 445, 24, 177, 36, 384, 831, 832, 833, 35, 834, 292, 97, 799, 800, 801, 802, 803, 804, 934, 935, 936, 937, 938, 939, 940, 941, 942, 943, 999, 1000, 1001, 1002, 1003, 1004, 1005, 1006, 1007, 1008, 1009, 1010, 1011, 1012, 1013, 1014, 1015, 1016, 1017, 1018, 1019, 1020, 1021, 1022, 1032, 1033, 1034, 1035, 1036, 1037, 1038, 1039, 1040] (by decide +kernel) (by decide +kernel)
set_option maxRecDepth 20000 in
theorem gL_law_X8_look : GoodIn wsL_law (wsV RL 119 RX8 yX8_look wsX8_look) := goodIn_app (goodIn_of _ (by decide +kernel)) ggL_law_X8_look
set_option maxRecDepth 20000 in
theorem ggL_law_X9_look : GoodIn wsL_law wsX9_look := goodIn_r _ [838, 145, 501, 310, 135, 118, 124, 839, 840, 5, 841, 944, 945, 946, 947, 948, 949, 950, 951, 952, 953, 954, 955, 956, 957, 958, 959, 960, 961, 962, 963, 964, 965, 966, 967, 968, 969, 970, 971, 972, 973, 974, 975, 976, 977, 978, 979, 980, 981, 982, 983, 984, 985, 986, 987, 988, 989, 990] (by decide +kernel) (by decide +kernel)
set_option maxRecDepth 20000 in
theorem gL_law_X9_look : GoodIn wsL_law (wsV RL 122 RX9 yX9_look wsX9_look) := goodIn_app (goodIn_of _ (by decide +kernel)) ggL_law_X9_look
set_option maxRecDepth 20000 in
theorem ggL_law_X8_tail : GoodIn wsL_law wsX8_tail := goodIn_r _ [845, 150, 36, 394, 152, 153, 154, 2, 155, 846, 847, 848, 35, 849, 99, 100, 293, 781, 782, 783, 934, 935, 936, 937, 938, 939, 940, 941, 942, 943, 1032, 1033, 1034, 1035, 1036, 1037, 1038, 1039, 1040] (by decide +kernel) (by decide +kernel)
set_option maxRecDepth 20000 in
theorem gL_law_X8_tail : GoodIn wsL_law (wsV RL 123 RX8 yX8_tail wsX8_tail) := goodIn_app (goodIn_of _ (by decide +kernel)) ggL_law_X8_tail
set_option maxRecDepth 20000 in
theorem ggL_law_X9_tail : GoodIn wsL_law wsX9_tail := goodIn_r _ [853, 639, 854, 855, 166, 311, 168, 137, 138, 139, 169, 170, 5, 171, 944, 945, 946, 947, 948, 949, 950, 951, 952, 953, 954, 955, 956, 957, 958, 959, 960, 961, 962, 963, 964, 965, 966, 967, 968, 969, 970, 971, 972, 973, 974, 975, 976, 977, 978, 979, 980, 981, 982, 983, 984, 985, 986, 987, 988, 989, 990] (by decide +kernel) (by decide +kernel)
set_option maxRecDepth 20000 in
theorem gL_law_X9_tail : GoodIn wsL_law (wsV RL 126 RX9 yX9_tail wsX9_tail) := goodIn_app (goodIn_of _ (by decide +kernel)) ggL_law_X9_tail
set_option maxRecDepth 20000 in
theorem ggL_law_X8_axes : GoodIn wsL_law wsX8_axes := goodIn_r _ [859, 36, 860, 861, 862, 35, 863, 293, 99, 100, 799, 800, 801, 934, 935, 936, 937, 938, 939, 940, 941, 942, 943, 1032, 1033, 1034, 1035, 1036, 1037, 1038, 1039, 1040] (by decide +kernel) (by decide +kernel)
set_option maxRecDepth 20000 in
theorem gL_law_X8_axes : GoodIn wsL_law (wsV RL 127 RX8 yX8_axes wsX8_axes) := goodIn_app (goodIn_of _ (by decide +kernel)) ggL_law_X8_axes
set_option maxRecDepth 20000 in
theorem ggL_law_X9_axes : GoodIn wsL_law wsX9_axes := goodIn_r _ [867, 311, 139, 138, 137, 944, 945, 946, 947, 948, 949, 950, 951, 952, 953, 954, 955, 956, 957, 958, 959, 960, 961, 962, 963, 964, 965, 966, 967, 968, 969, 970, 971, 972, 973, 974, 975, 976, 977, 978, 979, 980, 981, 982, 983, 984, 985, 986, 987, 988, 989, 990] (by decide +kernel) (by decide +kernel)
set_option maxRecDepth 20000 in
theorem gL_law_X9_axes : GoodIn wsL_law (wsV RL 130 RX9 yX9_axes wsX9_axes) := goodIn_app (goodIn_of _ (by decide +kernel)) ggL_law_X9_axes
set_option maxRecDepth 20000 in
theorem ggL_law_X8_write : GoodIn wsL_law wsX8_write := goodIn_r _ [871, 150, 36, 395, 152, 153, 154, 2, 155, 872, 873, 874, 35, 875, 101, 102, 294, 781, 782, 783, 934, 935, 936, 937, 938, 939, 940, 941, 942, 943, 1032, 1033, 1034, 1035, 1036, 1037, 1038, 1039, 1040] (by decide +kernel) (by decide +kernel)
set_option maxRecDepth 20000 in
theorem gL_law_X8_write : GoodIn wsL_law (wsV RL 131 RX8 yX8_write wsX8_write) := goodIn_app (goodIn_of _ (by decide +kernel)) ggL_law_X8_write
set_option maxRecDepth 20000 in
theorem ggL_law_X9_write : GoodIn wsL_law wsX9_write := goodIn_r _ [879, 880, 881, 166, 312, 168, 140, 141, 169, 170, 5, 171, 944, 945, 946, 947, 948, 949, 950, 951, 952, 953, 954, 955, 956, 957, 958, 959, 960, 961, 962, 963, 964, 965, 966, 967, 968, 969, 970, 971, 972, 973, 974, 975, 976, 977, 978, 979, 980, 981, 982, 983, 984, 985, 986, 987, 988, 989, 990] (by decide +kernel) (by decide +kernel)
set_option maxRecDepth 20000 in
theorem gL_law_X9_write : GoodIn wsL_law (wsV RL 134 RX9 yX9_write wsX9_write) := goodIn_app (goodIn_of _ (by decide +kernel)) ggL_law_X9_write
