set_option maxRecDepth 20000 in
theorem ggL_law_X8_shut : GoodIn wsL_law wsX8_shut := goodIn_r _ [568, 19, 380, 445, 32, 24, 391, 450, 451, 452, 31, 453, 454, 299, 455, 224, 225, 226, 456, 457, 458, 459, 91, 460, 461, 462, 23, 463, 464, 281, 282, 283, 284, 285, 286, 287, 402, 401, 404, 403, 934, 935, 936, 937, 938, 939, 940, 941, 942, 943, 999, 1000, 1001, 1002, 1003, 1004, 1005, 1006, 1007, 1008, 1009, 1010, 1011, 1012, 1013, 1014, 1015, 1016, 1017, 1018, 1019, 1020, 1021, 1022, 1029, 1030, 1031] (by decide +kernel) (by decide +kernel)
set_option maxRecDepth 20000 in
theorem gL_law_X8_shut : GoodIn wsL_law (wsV RL 53 RX8 yX8_shut wsX8_shut) := goodIn_app (goodIn_of _ (by decide +kernel)) ggL_law_X8_shut
set_option maxRecDepth 20000 in
theorem ggL_law_X9_shut : GoodIn wsL_law wsX9_shut := goodIn_r _ [572, 145, 501, 124, 506, 507, 508, 5, 509, 313, 133, 944, 945, 946, 947, 948, 949, 950, 951, 952, 953, 954, 955, 956, 957, 958, 959, 960, 961, 962, 963, 964, 965, 966, 967, 968, 969, 970, 971, 972, 973, 974, 975, 976, 977, 978, 979, 980, 981, 982, 983, 984, 985, 986, 987, 988, 989, 990] (by decide +kernel) (by decide +kernel)
set_option maxRecDepth 20000 in
theorem gL_law_X9_shut : GoodIn wsL_law (wsV RL 57 RX9 yX9_shut wsX9_shut) := goodIn_app (goodIn_of _ (by decide +kernel)) ggL_law_X9_shut
set_option maxRecDepth 20000 in
theorem ggL_law_X8_plate : GoodIn wsL_law wsX8_plate := goodIn_r _ [576, 19, 380, 445, 32, 24, 450, 451, 452, 31, 453, 454, 299, 455, 224, 225, 226, 456, 457, 458, 459, 91, 460, 461, 462, 23, 463, 464, 281, 282, 283, 284, 285, 286, 287, 402, 401, 404, 403, 397, 398, 399, 400, 405, 406, 407, 277, 278, 279, 280, 934, 935, 936, 937, 938, 939, 940, 941, 942, 943, 999, 1000, 1001, 1002, 1003, 1004, 1005, 1006, 1007, 1008, 1009, 1010, 1029, 1030, 1031, 1011, 1012, 1013, 1014, 1015, 1016, 1017, 1018, 1019, 1020, 1021, 1022] (by decide +kernel) (by decide +kernel)
set_option maxRecDepth 20000 in
theorem gL_law_X8_plate : GoodIn wsL_law (wsV RL 58 RX8 yX8_plate wsX8_plate) := goodIn_app (goodIn_of _ (by decide +kernel)) ggL_law_X8_plate
set_option maxRecDepth 20000 in
theorem ggL_law_X9_plate : GoodIn wsL_law wsX9_plate := goodIn_r _ [580, 145, 501, 506, 507, 508, 5, 509, 313, 133, 124, 412, 413, 414, 415, 581, 582, 583, 584, 944, 945, 946, 947, 948, 949, 950, 951, 952, 953, 954, 955, 956, 957, 958, 959, 960, 961, 962, 963, 964, 965, 966, 967, 968, 969, 970, 971, 972, 973, 974, 975, 976, 977, 978, 979, 980, 981, 982, 983, 984, 985, 986, 987, 988, 989, 990] (by decide +kernel) (by decide +kernel)
set_option maxRecDepth 20000 in
theorem gL_law_X9_plate : GoodIn wsL_law (wsV RL 61 RX9 yX9_plate wsX9_plate) := goodIn_app (goodIn_of _ (by decide +kernel)) ggL_law_X9_plate
set_option maxRecDepth 20000 in
theorem ggL_law_X8_drift : GoodIn wsL_law wsX8_drift := goodIn_r _ [588, 32, 24, 390, 388, 40, 389, 19, 441, 442, 443, 2, 444, 150, 445, 177, 152, 153, 154, 155, 446, 447, 448, 449, 380, 450, 451, 452, 31, 453, 454, 299, 455, 224, 225, 226, 456, 457, 458, 459, 91, 460, 461, 462, 23, 463, 464, 281, 282, 283, 284, 285, 286, 287, 402, 401, 404, 403, 589, 590, 591, 39, 592, 593, 594, 595, 596, 597, 598, 470, 471, 472, 473, 474, 475, 476, 477, 478, 479, 480, 481, 18, 482, 68, 65, 265, 266, 267, 268, 57, 483, 484, 485, 486, 69, 70, 487, 488, 489, 490, 491, 405, 406, 407, 934, 935, 936, 937, 938, 939, 940, 941, 942, 943, 1011, 1012, 1013, 1014, 1015, 1016, 1017, 1018, 1019, 1020, 1021, 1022, 999, 1000, 1001, 1002, 1003, 1004, 1005, 1006, 1007, 1008, 1009, 1010, 1029, 1030, 1031, 1041] (by decide +kernel) (by decide +kernel)
set_option maxRecDepth 20000 in
theorem gL_law_X8_drift : GoodIn wsL_law (wsV RL 62 RX8 yX8_drift wsX8_drift) := goodIn_app (goodIn_of _ (by decide +kernel)) ggL_law_X8_drift
set_option maxRecDepth 20000 in
theorem ggL_law_X9_drift : GoodIn wsL_law wsX9_drift := goodIn_r _ [602, 124, 496, 497, 498, 5, 499, 500, 166, 501, 168, 169, 170, 171, 502, 503, 504, 505, 145, 506, 507, 508, 509, 313, 133, 603, 604, 605, 606, 607, 608, 609, 610, 611, 510, 511, 512, 513, 121, 363, 119, 118, 364, 365, 514, 515, 516, 517, 120, 366, 518, 519, 520, 521, 522, 523, 524, 944, 945, 946, 947, 948, 949, 950, 951, 952, 953, 954, 955, 956, 957, 958, 959, 960, 961, 962, 963, 964, 965, 966, 967, 968, 969, 970, 971, 972, 973, 974, 975, 976, 977, 978, 979, 980, 981, 982, 983, 984, 985, 986, 987, 988, 989, 990] (by decide +kernel) (by decide +kernel)
set_option maxRecDepth 20000 in
theorem gL_law_X9_drift : GoodIn wsL_law (wsV RL 65 RX9 yX9_drift wsX9_drift) := goodIn_app (goodIn_of _ (by decide +kernel)) ggL_law_X9_drift
set_option maxRecDepth 20000 in
theorem ggL_law_X8_undo : GoodIn wsL_law wsX8_undo := goodIn_r _ [615, 32, 24, 396, 445, 616, 617, 618, 31, 619, 454, 299, 456, 457, 458, 459, 91, 460, 461, 462, 23, 463, 464, 281, 282, 283, 284, 285, 286, 287, 402, 401, 404, 403, 934, 935, 936, 937, 938, 939, 940, 941, 942, 943, 1029, 1030, 1031, 1011, 1012, 1013, 1014, 1015, 1016, 1017, 1018, 1019, 1020, 1021, 1022] (by decide +kernel) (by decide +kernel)
set_option maxRecDepth 20000 in
theorem gL_law_X8_undo : GoodIn wsL_law (wsV RL 66 RX8 yX8_undo wsX8_undo) := goodIn_app (goodIn_of _ (by decide +kernel)) ggL_law_X8_undo
set_option maxRecDepth 20000 in
theorem ggL_law_X9_undo : GoodIn wsL_law wsX9_undo := goodIn_r _ [623, 313, 501, 124, 133, 944, 945, 946, 947, 948, 949, 950, 951, 952, 953, 954, 955, 956, 957, 958, 959, 960, 961, 962, 963, 964, 965, 966, 967, 968, 969, 970, 971, 972, 973, 974, 975, 976, 977, 978, 979, 980, 981, 982, 983, 984, 985, 986, 987, 988, 989, 990] (by decide +kernel) (by decide +kernel)
set_option maxRecDepth 20000 in
theorem gL_law_X9_undo : GoodIn wsL_law (wsV RL 69 RX9 yX9_undo wsX9_undo) := goodIn_app (goodIn_of _ (by decide +kernel)) ggL_law_X9_undo
set_option maxRecDepth 20000 in
theorem ggL_law_X8_where : GoodIn wsL_law wsX8_where := goodIn_r _ [627, 150, 19, 380, 445, 28, 628, 388, 389, 153, 154, 2, 155, 629, 630, 631, 27, 632, 84, 82, 81, 633, 461, 462, 23, 463, 464, 281, 282, 283, 284, 285, 286, 287, 402, 401, 404, 403, 634, 466, 467, 468, 469, 470, 471, 472, 473, 474, 475, 476, 225, 477, 478, 479, 480, 481, 18, 482, 68, 65, 265, 266, 267, 268, 57, 483, 484, 485, 486, 69, 70, 487, 488, 489, 490, 491, 224, 226, 405, 406, 407, 934, 935, 936, 937, 938, 939, 940, 941, 942, 943, 999, 1000, 1001, 1002, 1003, 1004, 1005, 1006, 1007, 1008, 1009, 1010, 1023, 1024, 1025, 1026, 1027, 1028, 1011, 1012, 1013, 1014, 1015, 1016, 1017, 1018, 1019, 1020, 1021, 1022] (by decide +kernel) (by decide +kernel)
set_option maxRecDepth 20000 in
theorem gL_law_X8_where : GoodIn wsL_law (wsV RL 70 RX8 yX8_where wsX8_where) := goodIn_app (goodIn_of _ (by decide +kernel)) ggL_law_X8_where
set_option maxRecDepth 20000 in
theorem ggL_law_X9_where : GoodIn wsL_law wsX9_where := goodIn_r _ [638, 639, 166, 145, 501, 124, 169, 170, 5, 171, 640, 641, 642, 643, 134, 510, 511, 512, 513, 121, 363, 119, 118, 364, 365, 514, 515, 516, 517, 120, 366, 518, 519, 520, 521, 522, 523, 524, 644, 645, 646, 647, 944, 945, 946, 947, 948, 949, 950, 951, 952, 953, 954, 955, 956, 957, 958, 959, 960, 961, 962, 963, 964, 965, 966, 967, 968, 969, 970, 971, 972, 973, 974, 975, 976, 977, 978, 979, 980, 981, 982, 983, 984, 985, 986, 987, 988, 989, 990] (by decide +kernel) (by decide +kernel)
set_option maxRecDepth 20000 in
theorem gL_law_X9_where : GoodIn wsL_law (wsV RL 73 RX9 yX9_where wsX9_where) := goodIn_app (goodIn_of _ (by decide +kernel)) ggL_law_X9_where
