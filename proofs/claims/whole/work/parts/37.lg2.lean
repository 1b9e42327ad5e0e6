set_option maxRecDepth 20000 in
theorem ggL_law_X8_shut : GoodIn wsL_law wsX8_shut := goodIn_r _ [569, 19, 381, 446, 32, 24, 392, 451, 452, 453, 31, 454, 455, 300, 456, 228, 229, 230, 457, 458, 459, 460, 95, 461, 462, 463, 23, 464, 465, 282, 283, 284, 285, 286, 287, 288, 403, 402, 405, 404, 935, 936, 937, 938, 939, 940, 941, 942, 943, 944, 1000, 1001, 1002, 1003, 1004, 1005, 1006, 1007, 1008, 1009, 1010, 1011, 1012, 1013, 1014, 1015, 1016, 1017, 1018, 1019, 1020, 1021, 1022, 1023, 1030, 1031, 1032] (by decide +kernel) (by decide +kernel)
set_option maxRecDepth 20000 in
theorem gL_law_X8_shut : GoodIn wsL_law (wsV RL 53 RX8 yX8_shut wsX8_shut) := goodIn_app (goodIn_of _ (by decide +kernel)) ggL_law_X8_shut
set_option maxRecDepth 20000 in
theorem ggL_law_X9_shut : GoodIn wsL_law wsX9_shut := goodIn_r _ [573, 149, 502, 128, 507, 508, 509, 5, 510, 314, 137, 945, 946, 947, 948, 949, 950, 951, 952, 953, 954, 955, 956, 957, 958, 959, 960, 961, 962, 963, 964, 965, 966, 967, 968, 969, 970, 971, 972, 973, 974, 975, 976, 977, 978, 979, 980, 981, 982, 983, 984, 985, 986, 987, 988, 989, 990, 991] (by decide +kernel) (by decide +kernel)
set_option maxRecDepth 20000 in
theorem gL_law_X9_shut : GoodIn wsL_law (wsV RL 57 RX9 yX9_shut wsX9_shut) := goodIn_app (goodIn_of _ (by decide +kernel)) ggL_law_X9_shut
set_option maxRecDepth 20000 in
theorem ggL_law_X8_plate : GoodIn wsL_law wsX8_plate := goodIn_r _ [577, 19, 381, 446, 32, 24, 451, 452, 453, 31, 454, 455, 300, 456, 228, 229, 230, 457, 458, 459, 460, 95, 461, 462, 463, 23, 464, 465, 282, 283, 284, 285, 286, 287, 288, 403, 402, 405, 404, 398, 399, 400, 401, 406, 407, 408, 278, 279, 280, 281, 935, 936, 937, 938, 939, 940, 941, 942, 943, 944, 1000, 1001, 1002, 1003, 1004, 1005, 1006, 1007, 1008, 1009, 1010, 1011, 1030, 1031, 1032, 1012, 1013, 1014, 1015, 1016, 1017, 1018, 1019, 1020, 1021, 1022, 1023] (by decide +kernel) (by decide +kernel)
set_option maxRecDepth 20000 in
theorem gL_law_X8_plate : GoodIn wsL_law (wsV RL 58 RX8 yX8_plate wsX8_plate) := goodIn_app (goodIn_of _ (by decide +kernel)) ggL_law_X8_plate
set_option maxRecDepth 20000 in
theorem ggL_law_X9_plate : GoodIn wsL_law wsX9_plate := goodIn_r _ [581, 149, 502, 507, 508, 509, 5, 510, 314, 137, 128, 413, 414, 415, 416, 582, 583, 584, 585, 945, 946, 947, 948, 949, 950, 951, 952, 953, 954, 955, 956, 957, 958, 959, 960, 961, 962, 963, 964, 965, 966, 967, 968, 969, 970, 971, 972, 973, 974, 975, 976, 977, 978, 979, 980, 981, 982, 983, 984, 985, 986, 987, 988, 989, 990, 991] (by decide +kernel) (by decide +kernel)
set_option maxRecDepth 20000 in
theorem gL_law_X9_plate : GoodIn wsL_law (wsV RL 61 RX9 yX9_plate wsX9_plate) := goodIn_app (goodIn_of _ (by decide +kernel)) ggL_law_X9_plate
set_option maxRecDepth 20000 in
theorem ggL_law_X8_drift : GoodIn wsL_law wsX8_drift := goodIn_r _ [589, 32, 24, 391, 389, 40, 390, 19, 442, 443, 444, 2, 445, 154, 446, 181, 156, 157, 158, 159, 447, 448, 449, 450, 381, 451, 452, 453, 31, 454, 455, 300, 456, 228, 229, 230, 457, 458, 459, 460, 95, 461, 462, 463, 23, 464, 465, 282, 283, 284, 285, 286, 287, 288, 403, 402, 405, 404, 590, 591, 592, 39, 593, 594, 595, 596, 597, 598, 599, 471, 472, 473, 474, 475, 476, 477, 478, 479, 480, 481, 482, 18, 483, 76, 65, 266, 267, 268, 269, 57, 484, 485, 486, 487, 68, 69, 488, 489, 490, 491, 492, 406, 407, 408, 935, 936, 937, 938, 939, 940, 941, 942, 943, 944, 1012, 1013, 1014, 1015, 1016, 1017, 1018, 1019, 1020, 1021, 1022, 1023, 1000, 1001, 1002, 1003, 1004, 1005, 1006, 1007, 1008, 1009, 1010, 1011, 1030, 1031, 1032, 1042] (by decide +kernel) (by decide +kernel)
set_option maxRecDepth 20000 in
theorem gL_law_X8_drift : GoodIn wsL_law (wsV RL 62 RX8 yX8_drift wsX8_drift) := goodIn_app (goodIn_of _ (by decide +kernel)) ggL_law_X8_drift
set_option maxRecDepth 20000 in
theorem ggL_law_X9_drift : GoodIn wsL_law wsX9_drift := goodIn_r _ [603, 128, 497, 498, 499, 5, 500, 501, 170, 502, 172, 173, 174, 175, 503, 504, 505, 506, 149, 507, 508, 509, 510, 314, 137, 604, 605, 606, 607, 608, 609, 610, 611, 612, 511, 512, 513, 514, 125, 364, 123, 122, 365, 366, 515, 516, 517, 518, 124, 367, 519, 520, 521, 522, 523, 524, 525, 945, 946, 947, 948, 949, 950, 951, 952, 953, 954, 955, 956, 957, 958, 959, 960, 961, 962, 963, 964, 965, 966, 967, 968, 969, 970, 971, 972, 973, 974, 975, 976, 977, 978, 979, 980, 981, 982, 983, 984, 985, 986, 987, 988, 989, 990, 991] (by decide +kernel) (by decide +kernel)
set_option maxRecDepth 20000 in
theorem gL_law_X9_drift : GoodIn wsL_law (wsV RL 65 RX9 yX9_drift wsX9_drift) := goodIn_app (goodIn_of _ (by decide +kernel)) ggL_law_X9_drift
set_option maxRecDepth 20000 in
theorem ggL_law_X8_undo : GoodIn wsL_law wsX8_undo := goodIn_r _ [616, 32, 24, 397, 446, 617, 618, 619, 31, 620, 455, 300, 457, 458, 459, 460, 95, 461, 462, 463, 23, 464, 465, 282, 283, 284, 285, 286, 287, 288, 403, 402, 405, 404, 935, 936, 937, 938, 939, 940, 941, 942, 943, 944, 1030, 1031, 1032, 1012, 1013, 1014, 1015, 1016, 1017, 1018, 1019, 1020, 1021, 1022, 1023] (by decide +kernel) (by decide +kernel)
set_option maxRecDepth 20000 in
theorem gL_law_X8_undo : GoodIn wsL_law (wsV RL 66 RX8 yX8_undo wsX8_undo) := goodIn_app (goodIn_of _ (by decide +kernel)) ggL_law_X8_undo
set_option maxRecDepth 20000 in
theorem ggL_law_X9_undo : GoodIn wsL_law wsX9_undo := goodIn_r _ [624, 314, 502, 128, 137, 945, 946, 947, 948, 949, 950, 951, 952, 953, 954, 955, 956, 957, 958, 959, 960, 961, 962, 963, 964, 965, 966, 967, 968, 969, 970, 971, 972, 973, 974, 975, 976, 977, 978, 979, 980, 981, 982, 983, 984, 985, 986, 987, 988, 989, 990, 991] (by decide +kernel) (by decide +kernel)
set_option maxRecDepth 20000 in
theorem gL_law_X9_undo : GoodIn wsL_law (wsV RL 69 RX9 yX9_undo wsX9_undo) := goodIn_app (goodIn_of _ (by decide +kernel)) ggL_law_X9_undo
set_option maxRecDepth 20000 in
theorem ggL_law_X8_where : GoodIn wsL_law wsX8_where := goodIn_r _ [628, 154, 19, 381, 446, 28, 629, 389, 390, 157, 158, 2, 159, 630, 631, 632, 27, 633, 88, 86, 85, 634, 462, 463, 23, 464, 465, 282, 283, 284, 285, 286, 287, 288, 403, 402, 405, 404, 635, 467, 468, 469, 470, 471, 472, 473, 474, 475, 476, 477, 229, 478, 479, 480, 481, 482, 18, 483, 76, 65, 266, 267, 268, 269, 57, 484, 485, 486, 487, 68, 69, 488, 489, 490, 491, 492, 228, 230, 406, 407, 408, 935, 936, 937, 938, 939, 940, 941, 942, 943, 944, 1000, 1001, 1002, 1003, 1004, 1005, 1006, 1007, 1008, 1009, 1010, 1011, 1024, 1025, 1026, 1027, 1028, 1029, 1012, 1013, 1014, 1015, 1016, 1017, 1018, 1019, 1020, 1021, 1022, 1023] (by decide +kernel) (by decide +kernel)
set_option maxRecDepth 20000 in
theorem gL_law_X8_where : GoodIn wsL_law (wsV RL 70 RX8 yX8_where wsX8_where) := goodIn_app (goodIn_of _ (by decide +kernel)) ggL_law_X8_where
set_option maxRecDepth 20000 in
theorem ggL_law_X9_where : GoodIn wsL_law wsX9_where := goodIn_r _ [639, 640, 170, 149, 502, 128, 173, 174, 5, 175, 641, 642, 643, 644, 138, 511, 512, 513, 514, 125, 364, 123, 122, 365, 366, 515, 516, 517, 518, 124, 367, 519, 520, 521, 522, 523, 524, 525, 645, 646, 647, 648, 945, 946, 947, 948, 949, 950, 951, 952, 953, 954, 955, 956, 957, 958, 959, 960, 961, 962, 963, 964, 965, 966, 967, 968, 969, 970, 971, 972, 973, 974, 975, 976, 977, 978, 979, 980, 981, 982, 983, 984, 985, 986, 987, 988, 989, 990, 991] (by decide +kernel) (by decide +kernel)
set_option maxRecDepth 20000 in
theorem gL_law_X9_where : GoodIn wsL_law (wsV RL 73 RX9 yX9_where wsX9_where) := goodIn_app (goodIn_of _ (by decide +kernel)) ggL_law_X9_where
