set_option maxRecDepth 100000 in
theorem ggL_law_X11_init : GoodIn wsL_law wsX11_init := goodIn_s _ [9, 10, 12, 13, 14, 15, 16, 17, 18, 19, 20, 21, 22, 23, 24, 25, 26, 27, 28, 29, 30, 31, 32, 33, 34, 35, 36, 37, 38, 39, 40, 41, 42, 43, 44, 45, 47, 48, 49, 50, 51, 52, 54, 55, 56, 57, 58, 59, 60, 61, 62, 64, 65, 66, 68, 69, 70, 71, 72, 73, 74, 76, 77, 78, 79, 80, 81, 83, 84, 85, 86, 87, 89, 90, 92, 93, 989, 990, 991, 992, 993, 908, 909, 910, 911, 912, 913, 914, 915, 916, 917, 918, 919, 920, 921, 922, 994, 995, 996, 997, 998, 999, 1000, 1001, 1002, 1003, 1004, 1005, 1006, 1007, 1008, 1009, 1010, 1011, 1012, 1013, 1014, 1015, 1016, 1017, 1018, 1019, 1020, 1021, 1022, 1023, 1024, 1025, 1026, 1027, 1028, 1029] [8, 11, 46, 53, 63, 67, 75, 82, 88, 91] (by decide +kernel) rfl (by decide +kernel)
set_option maxRecDepth 20000 in
theorem gL_law_X11_init : GoodIn wsL_law (wsX11_init) := ggL_law_X11_init
set_option maxRecDepth 100000 in
theorem ggL_law_X12_init : GoodIn wsL_law wsX12_init := goodIn_s _ [97, 10, 31, 98, 99, 100, 101, 102, 103, 104, 105, 106, 107, 108, 109, 110, 111, 112, 113, 114, 115, 116, 117, 118, 119, 120, 121, 122, 123, 124, 125, 126, 127, 128, 129, 130, 131, 132, 133, 134, 135, 136, 137, 138, 139, 140, 141, 923, 924, 925, 926, 927, 928, 929, 930, 931, 932, 933, 934, 935, 936, 937, 938, 939, 940, 941, 942, 943, 944, 945, 946, 947, 948, 949, 950, 951, 952, 953, 954, 955, 956, 957, 958, 959, 960, 961, 962, 963, 964, 965, 966, 967, 968, 969, 970, 971, 972, 973, 974, 975, 976, 977, 978, 979, 980, 981, 982, 983, 984, 985, 986, 987, 988] [96, 11] (by decide +kernel) rfl (by decide +kernel)
set_option maxRecDepth 20000 in
theorem gL_law_X12_init : GoodIn wsL_law (wsX12_init) := ggL_law_X12_init
set_option maxRecDepth 100000 in
theorem ggL_law_X11_pump : GoodIn wsL_law wsX11_pump := goodIn_s _ [15, 146, 147, 148, 149, 2, 908, 909, 910, 911, 912, 913, 914, 915, 916, 917, 918, 919, 920, 921, 922, 989, 990, 991, 992, 993] [145, 150] (by decide +kernel) rfl (by decide +kernel)
set_option maxRecDepth 20000 in
theorem gL_law_X11_pump : GoodIn wsL_law (wsV RL 13 RX11 yX11_pump wsX11_pump) := goodIn_app (goodIn_of _ (by decide +kernel)) ggL_law_X11_pump
set_option maxRecDepth 100000 in
theorem ggL_law_X12_pump : GoodIn wsL_law wsX12_pump := goodIn_s _ [155, 156, 139, 157, 158, 5, 923, 924, 925, 926, 927, 928, 929, 930, 931, 932, 933, 934, 935, 936, 937, 938, 939, 940, 941, 942, 943, 944, 945, 946, 947, 948, 949, 950, 951, 952, 953, 954, 955, 956, 957, 958, 959, 960, 961, 962, 963, 964, 965, 966, 967, 968, 969, 970, 971, 972, 973, 974, 975, 976, 977, 978, 979, 980, 981, 982, 983, 984, 985, 986, 987, 988] [154, 159] (by decide +kernel) rfl (by decide +kernel)
set_option maxRecDepth 20000 in
theorem gL_law_X12_pump : GoodIn wsL_law (wsV RL 17 RX12 yX12_pump wsX12_pump) := goodIn_app (goodIn_of _ (by decide +kernel)) ggL_law_X12_pump
set_option maxRecDepth 100000 in
theorem ggL_law_X11_cylinder : GoodIn wsL_law wsX11_cylinder := goodIn_s _ [15, 164, 148, 149, 2, 165, 166, 167, 14, 169, 50, 49, 170, 171, 172, 173, 174, 175, 176, 177, 178, 179, 181, 10, 31, 182, 183, 184, 185, 186, 187, 188, 189, 191, 192, 193, 195, 908, 909, 910, 911, 912, 913, 914, 915, 916, 917, 918, 919, 920, 921, 922, 989, 990, 991, 992, 993, 1030, 1031, 1032, 1033, 1034, 1035, 1036, 1037, 1038, 1039, 1040, 1041, 1042, 1043, 1044, 1045, 1046, 1047, 1048, 1049, 1050] [163, 150, 168, 180, 11, 190, 194] (by decide +kernel) rfl (by decide +kernel)
set_option maxRecDepth 20000 in
theorem gL_law_X11_cylinder : GoodIn wsL_law (wsV RL 18 RX11 yX11_cylinder wsX11_cylinder) := goodIn_app (goodIn_of _ (by decide +kernel)) ggL_law_X11_cylinder
set_option maxRecDepth 100000 in
theorem ggL_law_X12_cylinder : GoodIn wsL_law wsX12_cylinder := goodIn_s _ [200, 201, 202, 102, 103, 104, 106, 109, 157, 158, 5, 923, 924, 925, 926, 927, 928, 929, 930, 931, 932, 933, 934, 935, 936, 937, 938, 939, 940, 941, 942, 943, 944, 945, 946, 947, 948, 949, 950, 951, 952, 953, 954, 955, 956, 957, 958, 959, 960, 961, 962, 963, 964, 965, 966, 967, 968, 969, 970, 971, 972, 973, 974, 975, 976, 977, 978, 979, 980, 981, 982, 983, 984, 985, 986, 987, 988] [199, 159] (by decide +kernel) rfl (by decide +kernel)
set_option maxRecDepth 20000 in
theorem gL_law_X12_cylinder : GoodIn wsL_law (wsV RL 22 RX12 yX12_cylinder wsX12_cylinder) := goodIn_app (goodIn_of _ (by decide +kernel)) ggL_law_X12_cylinder
set_option maxRecDepth 100000 in
theorem ggL_law_X11_rule : GoodIn wsL_law wsX11_rule := goodIn_s _ [15, 207, 208, 209, 210, 14, 169, 50, 148, 149, 2, 212, 213, 214, 171, 216, 217, 218, 219, 220, 221, 222, 223, 184, 225, 226, 227, 228, 229, 230, 232, 233, 235, 236, 908, 909, 910, 911, 912, 913, 914, 915, 916, 917, 918, 919, 920, 921, 922, 989, 990, 991, 992, 993, 1030, 1031, 1032, 1033, 1034, 1035, 1036, 1037, 1038, 1039, 1040, 1041, 1042, 1043, 1044, 1045, 1046, 1047, 1048, 1049, 1050] [206, 211, 150, 215, 224, 231, 234, 237] (by decide +kernel) rfl (by decide +kernel)
set_option maxRecDepth 20000 in
theorem gL_law_X11_rule : GoodIn wsL_law (wsV RL 23 RX11 yX11_rule wsX11_rule) := goodIn_app (goodIn_of _ (by decide +kernel)) ggL_law_X11_rule
set_option maxRecDepth 100000 in
theorem ggL_law_X12_rule : GoodIn wsL_law wsX12_rule := goodIn_s _ [200, 242, 155, 201, 108, 109, 110, 243, 244, 245, 5, 202, 157, 158, 923, 924, 925, 926, 927, 928, 929, 930, 931, 932, 933, 934, 935, 936, 937, 938, 939, 940, 941, 942, 943, 944, 945, 946, 947, 948, 949, 950, 951, 952, 953, 954, 955, 956, 957, 958, 959, 960, 961, 962, 963, 964, 965, 966, 967, 968, 969, 970, 971, 972, 973, 974, 975, 976, 977, 978, 979, 980, 981, 982, 983, 984, 985, 986, 987, 988] [241, 246, 159] (by decide +kernel) rfl (by decide +kernel)
set_option maxRecDepth 20000 in
theorem gL_law_X12_rule : GoodIn wsL_law (wsV RL 26 RX12 yX12_rule wsX12_rule) := goodIn_app (goodIn_of _ (by decide +kernel)) ggL_law_X12_rule
set_option maxRecDepth 100000 in
theorem ggL_law_X11_loads : GoodIn wsL_law wsX11_loads := goodIn_s _ [251, 15, 252, 253, 208, 209, 210, 14, 169, 50, 254, 255, 256, 2, 38, 258, 259, 148, 149, 261, 262, 263, 44, 265, 266, 267, 268, 269, 271, 272, 273, 275, 276, 277, 278, 93, 233, 280, 281, 282, 171, 183, 182, 236, 284, 285, 286, 287, 908, 909, 910, 911, 912, 913, 914, 915, 916, 917, 918, 919, 920, 921, 922, 1022, 1023, 1024, 1025, 989, 990, 991, 992, 993, 1030, 1031, 1032, 1033, 1034, 1035, 1036, 1037, 1038, 1039, 1040, 1041, 1042, 1043, 1044, 1045, 1046, 1047, 1048, 1049, 1050] [250, 211, 257, 260, 150, 264, 270, 274, 279, 234, 283, 237] (by decide +kernel) rfl (by decide +kernel)
set_option maxRecDepth 20000 in
theorem gL_law_X11_loads : GoodIn wsL_law (wsV RL 27 RX11 yX11_loads wsX11_loads) := goodIn_app (goodIn_of _ (by decide +kernel)) ggL_law_X11_loads
set_option maxRecDepth 100000 in
theorem ggL_law_X12_loads : GoodIn wsL_law wsX12_loads := goodIn_s _ [200, 98, 99, 292, 100, 293, 106, 107, 243, 244, 245, 5, 202, 157, 158, 294, 295, 297, 298, 299, 300, 302, 303, 304, 305, 307, 308, 923, 924, 925, 926, 927, 928, 929, 930, 931, 932, 933, 934, 935, 936, 937, 938, 939, 940, 941, 942, 943, 944, 945, 946, 947, 948, 949, 950, 951, 952, 953, 954, 955, 956, 957, 958, 959, 960, 961, 962, 963, 964, 965, 966, 967, 968, 969, 970, 971, 972, 973, 974, 975, 976, 977, 978, 979, 980, 981, 982, 983, 984, 985, 986, 987, 988] [291, 246, 159, 296, 301, 306, 309] (by decide +kernel) rfl (by decide +kernel)
set_option maxRecDepth 20000 in
theorem gL_law_X12_loads : GoodIn wsL_law (wsV RL 31 RX12 yX12_loads wsX12_loads) := goodIn_app (goodIn_of _ (by decide +kernel)) ggL_law_X12_loads
set_option maxRecDepth 100000 in
theorem ggL_law_X11_valve : GoodIn wsL_law wsX11_valve := goodIn_s _ [15, 19, 314, 208, 209, 210, 14, 169, 50, 148, 149, 2, 229, 230, 232, 233, 235, 236, 908, 909, 910, 911, 912, 913, 914, 915, 916, 917, 918, 919, 920, 921, 922, 994, 995, 996, 997, 998, 989, 990, 991, 992, 993] [313, 211, 150, 231, 234, 237] (by decide +kernel) rfl (by decide +kernel)
set_option maxRecDepth 20000 in
theorem gL_law_X11_valve : GoodIn wsL_law (wsV RL 32 RX11 yX11_valve wsX11_valve) := goodIn_app (goodIn_of _ (by decide +kernel)) ggL_law_X11_valve
set_option maxRecDepth 100000 in
theorem ggL_law_X12_valve : GoodIn wsL_law wsX12_valve := goodIn_s _ [200, 111, 243, 244, 245, 5, 202, 157, 158, 923, 924, 925, 926, 927, 928, 929, 930, 931, 932, 933, 934, 935, 936, 937, 938, 939, 940, 941, 942, 943, 944, 945, 946, 947, 948, 949, 950, 951, 952, 953, 954, 955, 956, 957, 958, 959, 960, 961, 962, 963, 964, 965, 966, 967, 968, 969, 970, 971, 972, 973, 974, 975, 976, 977, 978, 979, 980, 981, 982, 983, 984, 985, 986, 987, 988] [318, 246, 159] (by decide +kernel) rfl (by decide +kernel)
set_option maxRecDepth 20000 in
theorem gL_law_X12_valve : GoodIn wsL_law (wsV RL 35 RX12 yX12_valve wsX12_valve) := goodIn_app (goodIn_of _ (by decide +kernel)) ggL_law_X12_valve
set_option maxRecDepth 100000 in
theorem ggL_law_X11_fill : GoodIn wsL_law wsX11_fill := goodIn_s _ [15, 19, 323, 208, 209, 210, 14, 169, 50, 324, 325, 326, 171, 186, 187, 328, 329, 330, 331, 148, 149, 2, 229, 230, 232, 233, 235, 236, 908, 909, 910, 911, 912, 913, 914, 915, 916, 917, 918, 919, 920, 921, 922, 994, 995, 996, 997, 998, 989, 990, 991, 992, 993, 1030, 1031, 1032, 1033, 1034, 1035, 1036, 1037, 1038, 1039, 1040, 1041, 1042, 1043, 1044, 1045, 1046, 1047, 1048, 1049, 1050] [322, 211, 327, 150, 231, 234, 237] (by decide +kernel) rfl (by decide +kernel)
set_option maxRecDepth 20000 in
theorem gL_law_X11_fill : GoodIn wsL_law (wsV RL 36 RX11 yX11_fill wsX11_fill) := goodIn_app (goodIn_of _ (by decide +kernel)) ggL_law_X11_fill
set_option maxRecDepth 100000 in
theorem ggL_law_X12_fill : GoodIn wsL_law wsX12_fill := goodIn_s _ [105, 243, 244, 245, 5, 202, 157, 158, 336, 337, 338, 103, 104, 923, 924, 925, 926, 927, 928, 929, 930, 931, 932, 933, 934, 935, 936, 937, 938, 939, 940, 941, 942, 943, 944, 945, 946, 947, 948, 949, 950, 951, 952, 953, 954, 955, 956, 957, 958, 959, 960, 961, 962, 963, 964, 965, 966, 967, 968, 969, 970, 971, 972, 973, 974, 975, 976, 977, 978, 979, 980, 981, 982, 983, 984, 985, 986, 987, 988] [335, 246, 159, 339] (by decide +kernel) rfl (by decide +kernel)
set_option maxRecDepth 20000 in
theorem gL_law_X12_fill : GoodIn wsL_law (wsV RL 39 RX12 yX12_fill wsX12_fill) := goodIn_app (goodIn_of _ (by decide +kernel)) ggL_law_X12_fill
set_option maxRecDepth 100000 in
theorem ggL_law_X11_burst : GoodIn wsL_law wsX11_burst := goodIn_s _ [15, 19, 344, 208, 209, 210, 14, 169, 50, 229, 230, 2, 232, 233, 235, 236, 908, 909, 910, 911, 912, 913, 914, 915, 916, 917, 918, 919, 920, 921, 922, 994, 995, 996, 997, 998, 989, 990, 991, 992, 993] [343, 211, 231, 234, 237] (by decide +kernel) rfl (by decide +kernel)
set_option maxRecDepth 20000 in
theorem gL_law_X11_burst : GoodIn wsL_law (wsV RL 40 RX11 yX11_burst wsX11_burst) := goodIn_app (goodIn_of _ (by decide +kernel)) ggL_law_X11_burst
set_option maxRecDepth 100000 in
theorem ggL_law_X12_burst : GoodIn wsL_law wsX12_burst := goodIn_s _ [113, 243, 244, 245, 5, 202, 157, 158, 923, 924, 925, 926, 927, 928, 929, 930, 931, 932, 933, 934, 935, 936, 937, 938, 939, 940, 941, 942, 943, 944, 945, 946, 947, 948, 949, 950, 951, 952, 953, 954, 955, 956, 957, 958, 959, 960, 961, 962, 963, 964, 965, 966, 967, 968, 969, 970, 971, 972, 973, 974, 975, 976, 977, 978, 979, 980, 981, 982, 983, 984, 985, 986, 987, 988] [348, 246, 159] (by decide +kernel) rfl (by decide +kernel)
set_option maxRecDepth 20000 in
theorem gL_law_X12_burst : GoodIn wsL_law (wsV RL 44 RX12 yX12_burst wsX12_burst) := goodIn_app (goodIn_of _ (by decide +kernel)) ggL_law_X12_burst
set_option maxRecDepth 100000 in
theorem ggL_law_X11_store : GoodIn wsL_law wsX11_store := goodIn_s _ [19, 353, 354, 355, 356, 357, 148, 149, 2, 908, 909, 910, 911, 912, 913, 914, 915, 916, 917, 918, 919, 920, 921, 922, 994, 995, 996, 997, 998, 1026, 1027, 1028, 1029] [352, 150] (by decide +kernel) rfl (by decide +kernel)
set_option maxRecDepth 20000 in
theorem gL_law_X11_store : GoodIn wsL_law (wsV RL 45 RX11 yX11_store wsX11_store) := goodIn_app (goodIn_of _ (by decide +kernel)) ggL_law_X11_store
set_option maxRecDepth 100000 in
theorem ggL_law_X12_store : GoodIn wsL_law wsX12_store := goodIn_s _ [362, 155, 201, 363, 364, 365, 140, 157, 158, 5, 923, 924, 925, 926, 927, 928, 929, 930, 931, 932, 933, 934, 935, 936, 937, 938, 939, 940, 941, 942, 943, 944, 945, 946, 947, 948, 949, 950, 951, 952, 953, 954, 955, 956, 957, 958, 959, 960, 961, 962, 963, 964, 965, 966, 967, 968, 969, 970, 971, 972, 973, 974, 975, 976, 977, 978, 979, 980, 981, 982, 983, 984, 985, 986, 987, 988] [361, 159] (by decide +kernel) rfl (by decide +kernel)
set_option maxRecDepth 20000 in
theorem gL_law_X12_store : GoodIn wsL_law (wsV RL 48 RX12 yX12_store wsX12_store) := goodIn_app (goodIn_of _ (by decide +kernel)) ggL_law_X12_store
set_option maxRecDepth 100000 in
theorem ggL_law_X11_about : GoodIn wsL_law wsX11_about := goodIn_s _ [15, 370, 371, 19, 323, 314, 372, 344, 23, 373, 208, 209, 210, 14, 169, 50, 374, 375, 376, 171, 378, 379, 380, 381, 382, 174, 384, 385, 177, 232, 233, 2, 387, 388, 389, 182, 183, 391, 392, 393, 395, 325, 326, 186, 187, 396, 329, 330, 331, 397, 398, 399, 400, 401, 402, 403, 216, 405, 406, 407, 408, 409, 411, 412, 413, 414, 415, 416, 418, 419, 420, 421, 908, 909, 910, 911, 912, 913, 914, 915, 916, 917, 918, 919, 920, 921, 922, 1030, 1031, 1032, 1033, 1034, 1035, 1036, 1037, 1038, 1039, 1040, 1041, 1042, 1043, 1044, 1045, 1046, 1047, 1048, 1049, 1050, 994, 995, 996, 997, 998, 999, 1000, 1001, 1002, 1003, 1004, 1005, 1006, 1007, 1008, 1009, 1010, 1011, 989, 990, 991, 992, 993] [369, 211, 377, 383, 386, 234, 390, 394, 327, 404, 410, 417] (by decide +kernel) rfl (by decide +kernel)
set_option maxRecDepth 20000 in
theorem gL_law_X11_about : GoodIn wsL_law (wsV RL 49 RX11 yX11_about wsX11_about) := goodIn_app (goodIn_of _ (by decide +kernel)) ggL_law_X11_about
set_option maxRecDepth 100000 in
theorem ggL_law_X12_about : GoodIn wsL_law wsX12_about := goodIn_s _ [102, 103, 104, 105, 111, 106, 113, 114, 243, 244, 245, 5, 202, 157, 158, 426, 427, 428, 107, 336, 337, 338, 430, 431, 433, 434, 435, 108, 923, 924, 925, 926, 927, 928, 929, 930, 931, 932, 933, 934, 935, 936, 937, 938, 939, 940, 941, 942, 943, 944, 945, 946, 947, 948, 949, 950, 951, 952, 953, 954, 955, 956, 957, 958, 959, 960, 961, 962, 963, 964, 965, 966, 967, 968, 969, 970, 971, 972, 973, 974, 975, 976, 977, 978, 979, 980, 981, 982, 983, 984, 985, 986, 987, 988] [425, 246, 159, 429, 339, 432, 436] (by decide +kernel) rfl (by decide +kernel)
set_option maxRecDepth 20000 in
theorem gL_law_X12_about : GoodIn wsL_law (wsV RL 52 RX12 yX12_about wsX12_about) := goodIn_app (goodIn_of _ (by decide +kernel)) ggL_law_X12_about
set_option maxRecDepth 100000 in
theorem ggL_law_X11_tick : GoodIn wsL_law wsX11_tick := goodIn_s _ [441, 252, 27, 15, 19, 23, 207, 442, 148, 149, 2, 443, 444, 445, 26, 447, 448, 77, 78, 449, 450, 451, 79, 80, 233, 452, 209, 210, 14, 169, 50, 453, 454, 455, 171, 395, 325, 326, 186, 187, 396, 329, 330, 331, 457, 458, 459, 460, 236, 461, 462, 463, 22, 69, 465, 466, 467, 468, 469, 470, 392, 393, 471, 472, 473, 474, 475, 477, 478, 479, 480, 482, 483, 484, 485, 486, 488, 489, 490, 491, 492, 388, 389, 182, 183, 391, 493, 398, 399, 400, 494, 495, 496, 498, 499, 71, 72, 500, 402, 403, 216, 405, 406, 407, 408, 409, 411, 412, 413, 414, 415, 416, 177, 501, 419, 420, 421, 502, 503, 504, 505, 506, 70, 508, 509, 510, 512, 73, 513, 514, 515, 517, 518, 519, 60, 65, 521, 522, 523, 524, 525, 527, 528, 529, 530, 531, 532, 908, 909, 910, 911, 912, 913, 914, 915, 916, 917, 918, 919, 920, 921, 922, 989, 990, 991, 992, 993, 994, 995, 996, 997, 998, 1012, 1013, 1014, 1015, 1016, 1030, 1031, 1032, 1033, 1034, 1035, 1036, 1037, 1038, 1039, 1040, 1041, 1042, 1043, 1044, 1045, 1046, 1047, 1048, 1049, 1050, 999, 1000, 1001, 1002, 1003, 1004, 1005, 1006, 1007, 1008, 1009, 1010, 1011, 1026, 1027, 1028, 1029] [440, 150, 446, 234, 211, 456, 327, 237, 464, 394, 476, 481, 487, 390, 497, 404, 410, 417, 507, 511, 516, 520, 526, 533] (by decide +kernel) rfl (by decide +kernel)
set_option maxRecDepth 20000 in
theorem gL_law_X11_tick : GoodIn wsL_law (wsV RL 53 RX11 yX11_tick wsX11_tick) := goodIn_app (goodIn_of _ (by decide +kernel)) ggL_law_X11_tick
set_option maxRecDepth 100000 in
theorem ggL_law_X12_tick : GoodIn wsL_law wsX12_tick := goodIn_s _ [538, 141, 539, 157, 158, 5, 540, 541, 542, 544, 545, 111, 117, 118, 156, 546, 547, 548, 120, 123, 122, 105, 114, 121, 119, 139, 364, 363, 549, 550, 551, 552, 553, 554, 555, 556, 557, 115, 116, 336, 337, 338, 103, 104, 559, 560, 561, 202, 113, 102, 109, 110, 563, 564, 565, 430, 431, 426, 427, 428, 106, 107, 567, 568, 569, 433, 434, 435, 108, 571, 572, 573, 365, 140, 923, 924, 925, 926, 927, 928, 929, 930, 931, 932, 933, 934, 935, 936, 937, 938, 939, 940, 941, 942, 943, 944, 945, 946, 947, 948, 949, 950, 951, 952, 953, 954, 955, 956, 957, 958, 959, 960, 961, 962, 963, 964, 965, 966, 967, 968, 969, 970, 971, 972, 973, 974, 975, 976, 977, 978, 979, 980, 981, 982, 983, 984, 985, 986, 987, 988] [537, 159, 543, 558, 339, 562, 566, 432, 429, 570, 436, 574] (by decide +kernel) rfl (by decide +kernel)
set_option maxRecDepth 20000 in
theorem gL_law_X12_tick : GoodIn wsL_law (wsV RL 57 RX12 yX12_tick wsX12_tick) := goodIn_app (goodIn_of _ (by decide +kernel)) ggL_law_X12_tick
set_option maxRecDepth 100000 in
theorem ggL_law_X11_gauge : GoodIn wsL_law wsX11_gauge := goodIn_s _ [442, 23, 579, 580, 581, 582, 148, 149, 2, 908, 909, 910, 911, 912, 913, 914, 915, 916, 917, 918, 919, 920, 921, 922, 999, 1000, 1001, 1002, 1003, 1004, 1005, 1006, 1007, 1008, 1009, 1010, 1011] [578, 150] (by decide +kernel) rfl (by decide +kernel)
set_option maxRecDepth 20000 in
theorem gL_law_X11_gauge : GoodIn wsL_law (wsV RL 58 RX11 yX11_gauge wsX11_gauge) := goodIn_app (goodIn_of _ (by decide +kernel)) ggL_law_X11_gauge
set_option maxRecDepth 100000 in
theorem ggL_law_X12_gauge : GoodIn wsL_law wsX12_gauge := goodIn_s _ [297, 554, 546, 550, 549, 547, 157, 158, 5, 923, 924, 925, 926, 927, 928, 929, 930, 931, 932, 933, 934, 935, 936, 937, 938, 939, 940, 941, 942, 943, 944, 945, 946, 947, 948, 949, 950, 951, 952, 953, 954, 955, 956, 957, 958, 959, 960, 961, 962, 963, 964, 965, 966, 967, 968, 969, 970, 971, 972, 973, 974, 975, 976, 977, 978, 979, 980, 981, 982, 983, 984, 985, 986, 987, 988] [586, 159] (by decide +kernel) rfl (by decide +kernel)
set_option maxRecDepth 20000 in
theorem gL_law_X12_gauge : GoodIn wsL_law (wsV RL 61 RX12 yX12_gauge wsX12_gauge) := goodIn_app (goodIn_of _ (by decide +kernel)) ggL_law_X12_gauge
set_option maxRecDepth 100000 in
theorem ggL_law_X11_mover : GoodIn wsL_law wsX11_mover := goodIn_s _ [23, 582, 591, 148, 149, 2, 232, 233, 908, 909, 910, 911, 912, 913, 914, 915, 916, 917, 918, 919, 920, 921, 922, 999, 1000, 1001, 1002, 1003, 1004, 1005, 1006, 1007, 1008, 1009, 1010, 1011] [590, 150, 234] (by decide +kernel) rfl (by decide +kernel)
set_option maxRecDepth 20000 in
theorem gL_law_X11_mover : GoodIn wsL_law (wsV RL 62 RX11 yX11_mover wsX11_mover) := goodIn_app (goodIn_of _ (by decide +kernel)) ggL_law_X11_mover
set_option maxRecDepth 100000 in
theorem ggL_law_X12_mover : GoodIn wsL_law wsX12_mover := goodIn_s _ [547, 119, 157, 158, 5, 923, 924, 925, 926, 927, 928, 929, 930, 931, 932, 933, 934, 935, 936, 937, 938, 939, 940, 941, 942, 943, 944, 945, 946, 947, 948, 949, 950, 951, 952, 953, 954, 955, 956, 957, 958, 959, 960, 961, 962, 963, 964, 965, 966, 967, 968, 969, 970, 971, 972, 973, 974, 975, 976, 977, 978, 979, 980, 981, 982, 983, 984, 985, 986, 987, 988] [595, 159] (by decide +kernel) rfl (by decide +kernel)
set_option maxRecDepth 20000 in
theorem gL_law_X12_mover : GoodIn wsL_law (wsV RL 65 RX12 yX12_mover wsX12_mover) := goodIn_app (goodIn_of _ (by decide +kernel)) ggL_law_X12_mover
set_option maxRecDepth 100000 in
theorem ggL_law_X11_sum : GoodIn wsL_law wsX11_sum := goodIn_s _ [23, 600, 601, 602, 19, 353, 354, 603, 604, 518, 519, 60, 65, 521, 522, 908, 909, 910, 911, 912, 913, 914, 915, 916, 917, 918, 919, 920, 921, 922, 999, 1000, 1001, 1002, 1003, 1004, 1005, 1006, 1007, 1008, 1009, 1010, 1011, 994, 995, 996, 997, 998, 1026, 1027, 1028, 1029] [599, 520] (by decide +kernel) rfl (by decide +kernel)
set_option maxRecDepth 20000 in
theorem gL_law_X11_sum : GoodIn wsL_law (wsV RL 66 RX11 yX11_sum wsX11_sum) := goodIn_app (goodIn_of _ (by decide +kernel)) ggL_law_X11_sum
set_option maxRecDepth 100000 in
theorem ggL_law_X12_sum : GoodIn wsL_law wsX12_sum := goodIn_s _ [551, 552, 553, 363, 571, 572, 573, 5, 365, 140, 609, 610, 612, 923, 924, 925, 926, 927, 928, 929, 930, 931, 932, 933, 934, 935, 936, 937, 938, 939, 940, 941, 942, 943, 944, 945, 946, 947, 948, 949, 950, 951, 952, 953, 954, 955, 956, 957, 958, 959, 960, 961, 962, 963, 964, 965, 966, 967, 968, 969, 970, 971, 972, 973, 974, 975, 976, 977, 978, 979, 980, 981, 982, 983, 984, 985, 986, 987, 988] [608, 574, 611] (by decide +kernel) rfl (by decide +kernel)
set_option maxRecDepth 20000 in
theorem gL_law_X12_sum : GoodIn wsL_law (wsV RL 70 RX12 yX12_sum wsX12_sum) := goodIn_app (goodIn_of _ (by decide +kernel)) ggL_law_X12_sum
set_option maxRecDepth 100000 in
theorem ggL_law_X11_order : GoodIn wsL_law wsX11_order := goodIn_s _ [15, 27, 617, 208, 209, 210, 14, 169, 50, 148, 149, 2, 618, 619, 620, 26, 448, 77, 78, 79, 80, 236, 908, 909, 910, 911, 912, 913, 914, 915, 916, 917, 918, 919, 920, 921, 922, 1012, 1013, 1014, 1015, 1016, 989, 990, 991, 992, 993] [616, 211, 150, 621, 237] (by decide +kernel) rfl (by decide +kernel)
set_option maxRecDepth 20000 in
theorem gL_law_X11_order : GoodIn wsL_law (wsV RL 71 RX11 yX11_order wsX11_order) := goodIn_app (goodIn_of _ (by decide +kernel)) ggL_law_X11_order
set_option maxRecDepth 100000 in
theorem ggL_law_X12_order : GoodIn wsL_law wsX12_order := goodIn_s _ [200, 545, 115, 116, 117, 118, 243, 244, 245, 5, 202, 157, 158, 923, 924, 925, 926, 927, 928, 929, 930, 931, 932, 933, 934, 935, 936, 937, 938, 939, 940, 941, 942, 943, 944, 945, 946, 947, 948, 949, 950, 951, 952, 953, 954, 955, 956, 957, 958, 959, 960, 961, 962, 963, 964, 965, 966, 967, 968, 969, 970, 971, 972, 973, 974, 975, 976, 977, 978, 979, 980, 981, 982, 983, 984, 985, 986, 987, 988] [625, 246, 159] (by decide +kernel) rfl (by decide +kernel)
set_option maxRecDepth 20000 in
theorem gL_law_X12_order : GoodIn wsL_law (wsV RL 75 RX12 yX12_order wsX12_order) := goodIn_app (goodIn_of _ (by decide +kernel)) ggL_law_X12_order
set_option maxRecDepth 100000 in
theorem ggL_law_X11_waits : GoodIn wsL_law wsX11_waits := goodIn_s _ [19, 630, 908, 909, 910, 911, 912, 913, 914, 915, 916, 917, 918, 919, 920, 921, 922, 994, 995, 996, 997, 998] [629] (by decide +kernel) rfl (by decide +kernel)
set_option maxRecDepth 20000 in
theorem gL_law_X11_waits : GoodIn wsL_law (wsV RL 76 RX11 yX11_waits wsX11_waits) := goodIn_app (goodIn_of _ (by decide +kernel)) ggL_law_X11_waits
set_option maxRecDepth 100000 in
theorem ggL_law_X12_waits : GoodIn wsL_law wsX12_waits := goodIn_s _ [544, 923, 924, 925, 926, 927, 928, 929, 930, 931, 932, 933, 934, 935, 936, 937, 938, 939, 940, 941, 942, 943, 944, 945, 946, 947, 948, 949, 950, 951, 952, 953, 954, 955, 956, 957, 958, 959, 960, 961, 962, 963, 964, 965, 966, 967, 968, 969, 970, 971, 972, 973, 974, 975, 976, 977, 978, 979, 980, 981, 982, 983, 984, 985, 986, 987, 988] [634] (by decide +kernel) rfl (by decide +kernel)
set_option maxRecDepth 20000 in
theorem gL_law_X12_waits : GoodIn wsL_law (wsV RL 80 RX12 yX12_waits wsX12_waits) := goodIn_app (goodIn_of _ (by decide +kernel)) ggL_law_X12_waits
set_option maxRecDepth 100000 in
theorem ggL_law_X11_start : GoodIn wsL_law wsX11_start := goodIn_s _ [28, 19, 639, 441, 640, 641, 642, 18, 55, 56, 57, 61, 644, 233, 2, 236, 645, 646, 647, 60, 649, 521, 65, 522, 908, 909, 910, 911, 912, 913, 914, 915, 916, 917, 918, 919, 920, 921, 922, 994, 995, 996, 997, 998, 1026, 1027, 1028, 1029] [638, 643, 234, 237, 648] (by decide +kernel) rfl (by decide +kernel)
set_option maxRecDepth 20000 in
theorem gL_law_X11_start : GoodIn wsL_law (wsV RL 81 RX11 yX11_start wsX11_start) := goodIn_app (goodIn_of _ (by decide +kernel)) ggL_law_X11_start
set_option maxRecDepth 100000 in
theorem ggL_law_X12_start : GoodIn wsL_law wsX12_start := goodIn_s _ [654, 202, 655, 124, 105, 125, 111, 126, 113, 363, 656, 544, 657, 141, 923, 924, 925, 926, 927, 928, 929, 930, 931, 932, 933, 934, 935, 936, 937, 938, 939, 940, 941, 942, 943, 944, 945, 946, 947, 948, 949, 950, 951, 952, 953, 954, 955, 956, 957, 958, 959, 960, 961, 962, 963, 964, 965, 966, 967, 968, 969, 970, 971, 972, 973, 974, 975, 976, 977, 978, 979, 980, 981, 982, 983, 984, 985, 986, 987, 988] [653] (by decide +kernel) rfl (by decide +kernel)
set_option maxRecDepth 20000 in
theorem gL_law_X12_start : GoodIn wsL_law (wsV RL 84 RX12 yX12_start wsX12_start) := goodIn_app (goodIn_of _ (by decide +kernel)) ggL_law_X12_start
set_option maxRecDepth 100000 in
theorem ggL_law_X11_reading : GoodIn wsL_law wsX11_reading := goodIn_s _ [15, 36, 662, 208, 209, 210, 14, 169, 50, 148, 149, 2, 324, 325, 326, 171, 186, 187, 328, 329, 330, 331, 663, 664, 665, 35, 667, 84, 85, 86, 236, 908, 909, 910, 911, 912, 913, 914, 915, 916, 917, 918, 919, 920, 921, 922, 1017, 1018, 1019, 1020, 989, 990, 991, 992, 993, 1030, 1031, 1032, 1033, 1034, 1035, 1036, 1037, 1038, 1039, 1040, 1041, 1042, 1043, 1044, 1045, 1046, 1047, 1048, 1049, 1050] [661, 211, 150, 327, 666, 237] (by decide +kernel) rfl (by decide +kernel)
set_option maxRecDepth 20000 in
theorem gL_law_X11_reading : GoodIn wsL_law (wsV RL 85 RX11 yX11_reading wsX11_reading) := goodIn_app (goodIn_of _ (by decide +kernel)) ggL_law_X11_reading
set_option maxRecDepth 100000 in
theorem ggL_law_X12_reading : GoodIn wsL_law wsX12_reading := goodIn_s _ [538, 672, 127, 128, 129, 243, 244, 245, 5, 202, 157, 158, 336, 337, 338, 103, 104, 923, 924, 925, 926, 927, 928, 929, 930, 931, 932, 933, 934, 935, 936, 937, 938, 939, 940, 941, 942, 943, 944, 945, 946, 947, 948, 949, 950, 951, 952, 953, 954, 955, 956, 957, 958, 959, 960, 961, 962, 963, 964, 965, 966, 967, 968, 969, 970, 971, 972, 973, 974, 975, 976, 977, 978, 979, 980, 981, 982, 983, 984, 985, 986, 987, 988] [671, 246, 159, 339] (by decide +kernel) rfl (by decide +kernel)
set_option maxRecDepth 20000 in
theorem gL_law_X12_reading : GoodIn wsL_law (wsV RL 88 RX12 yX12_reading wsX12_reading) := goodIn_app (goodIn_of _ (by decide +kernel)) ggL_law_X12_reading
set_option maxRecDepth 100000 in
theorem ggL_law_X11_forget : GoodIn wsL_law wsX11_forget := goodIn_s _ [36, 662, 908, 909, 910, 911, 912, 913, 914, 915, 916, 917, 918, 919, 920, 921, 922, 1017, 1018, 1019, 1020] [676] (by decide +kernel) rfl (by decide +kernel)
set_option maxRecDepth 20000 in
theorem gL_law_X11_forget : GoodIn wsL_law (wsV RL 89 RX11 yX11_forget wsX11_forget) := goodIn_app (goodIn_of _ (by decide +kernel)) ggL_law_X11_forget
set_option maxRecDepth 100000 in
theorem ggL_law_X12_forget : GoodIn wsL_law wsX12_forget := goodIn_s _ [672, 923, 924, 925, 926, 927, 928, 929, 930, 931, 932, 933, 934, 935, 936, 937, 938, 939, 940, 941, 942, 943, 944, 945, 946, 947, 948, 949, 950, 951, 952, 953, 954, 955, 956, 957, 958, 959, 960, 961, 962, 963, 964, 965, 966, 967, 968, 969, 970, 971, 972, 973, 974, 975, 976, 977, 978, 979, 980, 981, 982, 983, 984, 985, 986, 987, 988] [680] (by decide +kernel) rfl (by decide +kernel)
set_option maxRecDepth 20000 in
theorem gL_law_X12_forget : GoodIn wsL_law (wsV RL 92 RX12 yX12_forget wsX12_forget) := goodIn_app (goodIn_of _ (by decide +kernel)) ggL_law_X12_forget
set_option maxRecDepth 100000 in
theorem ggL_law_X11_leak : GoodIn wsL_law wsX11_leak := goodIn_s _ [639, 441, 36, 15, 164, 685, 686, 687, 35, 667, 84, 689, 475, 393, 233, 2, 690, 691, 692, 14, 694, 695, 209, 210, 169, 50, 696, 697, 698, 29, 28, 32, 27, 30, 640, 641, 642, 18, 55, 56, 57, 61, 644, 236, 645, 646, 647, 60, 649, 521, 65, 522, 235, 700, 701, 702, 704, 85, 86, 443, 444, 445, 26, 447, 448, 77, 78, 449, 450, 451, 79, 80, 452, 453, 454, 455, 171, 395, 325, 326, 186, 187, 396, 329, 330, 331, 457, 458, 459, 460, 461, 462, 463, 22, 69, 465, 466, 467, 468, 469, 470, 392, 471, 472, 473, 474, 477, 478, 479, 480, 482, 483, 484, 485, 486, 488, 489, 490, 491, 492, 388, 389, 182, 183, 391, 493, 398, 399, 400, 494, 495, 496, 498, 499, 71, 72, 500, 402, 403, 216, 405, 406, 407, 408, 409, 411, 412, 413, 414, 415, 416, 177, 501, 419, 420, 421, 502, 503, 504, 505, 506, 70, 508, 509, 510, 512, 73, 513, 514, 515, 517, 518, 519, 523, 524, 525, 527, 528, 529, 530, 531, 532, 908, 909, 910, 911, 912, 913, 914, 915, 916, 917, 918, 919, 920, 921, 922, 989, 990, 991, 992, 993, 1017, 1018, 1019, 1020, 994, 995, 996, 997, 998, 1026, 1027, 1028, 1029, 1012, 1013, 1014, 1015, 1016, 1030, 1031, 1032, 1033, 1034, 1035, 1036, 1037, 1038, 1039, 1040, 1041, 1042, 1043, 1044, 1045, 1046, 1047, 1048, 1049, 1050, 999, 1000, 1001, 1002, 1003, 1004, 1005, 1006, 1007, 1008, 1009, 1010, 1011] [684, 688, 476, 234, 693, 211, 699, 643, 237, 648, 703, 446, 456, 327, 464, 394, 481, 487, 390, 497, 404, 410, 417, 507, 511, 516, 520, 526, 533] (by decide +kernel) rfl (by decide +kernel)
set_option maxRecDepth 20000 in
theorem gL_law_X11_leak : GoodIn wsL_law (wsV RL 93 RX11 yX11_leak wsX11_leak) := goodIn_app (goodIn_of _ (by decide +kernel)) ggL_law_X11_leak
set_option maxRecDepth 100000 in
theorem ggL_law_X12_leak : GoodIn wsL_law wsX12_leak := goodIn_s _ [654, 141, 202, 102, 157, 158, 5, 709, 710, 711, 672, 127, 713, 714, 715, 130, 105, 131, 111, 132, 110, 133, 114, 134, 119, 135, 113, 136, 363, 544, 546, 550, 549, 547, 138, 551, 552, 553, 554, 717, 718, 719, 720, 655, 124, 125, 126, 656, 657, 722, 723, 724, 128, 129, 540, 541, 542, 545, 117, 118, 156, 548, 120, 123, 122, 121, 139, 364, 555, 556, 557, 115, 116, 336, 337, 338, 103, 104, 559, 560, 561, 109, 563, 564, 565, 430, 431, 426, 427, 428, 106, 107, 567, 568, 569, 433, 434, 435, 108, 571, 572, 573, 365, 140, 726, 727, 728, 923, 924, 925, 926, 927, 928, 929, 930, 931, 932, 933, 934, 935, 936, 937, 938, 939, 940, 941, 942, 943, 944, 945, 946, 947, 948, 949, 950, 951, 952, 953, 954, 955, 956, 957, 958, 959, 960, 961, 962, 963, 964, 965, 966, 967, 968, 969, 970, 971, 972, 973, 974, 975, 976, 977, 978, 979, 980, 981, 982, 983, 984, 985, 986, 987, 988] [708, 159, 712, 716, 721, 725, 543, 558, 339, 562, 566, 432, 429, 570, 436, 574, 729] (by decide +kernel) rfl (by decide +kernel)
set_option maxRecDepth 20000 in
theorem gL_law_X12_leak : GoodIn wsL_law (wsV RL 96 RX12 yX12_leak wsX12_leak) := goodIn_app (goodIn_of _ (by decide +kernel)) ggL_law_X12_leak
set_option maxRecDepth 100000 in
theorem ggL_law_X11_sheet : GoodIn wsL_law wsX11_sheet := goodIn_s _ [251, 254, 255, 256, 2, 38, 258, 259, 148, 149, 267, 268, 269, 734, 735, 736, 44, 93, 265, 266, 738, 392, 393, 275, 739, 740, 741, 908, 909, 910, 911, 912, 913, 914, 915, 916, 917, 918, 919, 920, 921, 922, 1022, 1023, 1024, 1025] [733, 257, 260, 150, 270, 737, 394, 742] (by decide +kernel) rfl (by decide +kernel)
set_option maxRecDepth 20000 in
theorem gL_law_X11_sheet : GoodIn wsL_law (wsV RL 97 RX11 yX11_sheet wsX11_sheet) := goodIn_app (goodIn_of _ (by decide +kernel)) ggL_law_X11_sheet
set_option maxRecDepth 100000 in
theorem ggL_law_X12_sheet : GoodIn wsL_law wsX12_sheet := goodIn_s _ [200, 98, 99, 100, 294, 295, 5, 297, 157, 158, 298, 299, 300, 302, 303, 304, 305, 923, 924, 925, 926, 927, 928, 929, 930, 931, 932, 933, 934, 935, 936, 937, 938, 939, 940, 941, 942, 943, 944, 945, 946, 947, 948, 949, 950, 951, 952, 953, 954, 955, 956, 957, 958, 959, 960, 961, 962, 963, 964, 965, 966, 967, 968, 969, 970, 971, 972, 973, 974, 975, 976, 977, 978, 979, 980, 981, 982, 983, 984, 985, 986, 987, 988] [746, 296, 159, 301, 306] (by decide +kernel) rfl (by decide +kernel)
set_option maxRecDepth 20000 in
theorem gL_law_X12_sheet : GoodIn wsL_law (wsV RL 100 RX12 yX12_sheet wsX12_sheet) := goodIn_app (goodIn_of _ (by decide +kernel)) ggL_law_X12_sheet
set_option maxRecDepth 100000 in
theorem ggL_law_X11_lose : GoodIn wsL_law wsX11_lose := goodIn_s _ [751, 254, 255, 256, 2, 38, 1022, 1023, 1024, 1025, 908, 909, 910, 911, 912, 913, 914, 915, 916, 917, 918, 919, 920, 921, 922] [750, 257] (by decide +kernel) rfl (by decide +kernel)
set_option maxRecDepth 20000 in
theorem gL_law_X11_lose : GoodIn wsL_law (wsV RL 101 RX11 yX11_lose wsX11_lose) := goodIn_app (goodIn_of _ (by decide +kernel)) ggL_law_X11_lose
set_option maxRecDepth 100000 in
theorem ggL_law_X12_lose : GoodIn wsL_law wsX12_lose := goodIn_s _ [98, 294, 295, 5, 297, 157, 158, 923, 924, 925, 926, 927, 928, 929, 930, 931, 932, 933, 934, 935, 936, 937, 938, 939, 940, 941, 942, 943, 944, 945, 946, 947, 948, 949, 950, 951, 952, 953, 954, 955, 956, 957, 958, 959, 960, 961, 962, 963, 964, 965, 966, 967, 968, 969, 970, 971, 972, 973, 974, 975, 976, 977, 978, 979, 980, 981, 982, 983, 984, 985, 986, 987, 988] [755, 296, 159] (by decide +kernel) rfl (by decide +kernel)
set_option maxRecDepth 20000 in
theorem gL_law_X12_lose : GoodIn wsL_law (wsV RL 104 RX12 yX12_lose wsX12_lose) := goodIn_app (goodIn_of _ (by decide +kernel)) ggL_law_X12_lose
set_option maxRecDepth 100000 in
theorem ggL_law_X11_put : GoodIn wsL_law wsX11_put := goodIn_s _ [251, 751, 254, 255, 256, 2, 38, 267, 268, 269, 271, 272, 273, 44, 275, 760, 761, 762, 93, 266, 236, 908, 909, 910, 911, 912, 913, 914, 915, 916, 917, 918, 919, 920, 921, 922, 1022, 1023, 1024, 1025] [759, 257, 270, 274, 763, 237] (by decide +kernel) rfl (by decide +kernel)
set_option maxRecDepth 20000 in
theorem gL_law_X11_put : GoodIn wsL_law (wsV RL 105 RX11 yX11_put wsX11_put) := goodIn_app (goodIn_of _ (by decide +kernel)) ggL_law_X11_put
set_option maxRecDepth 100000 in
theorem ggL_law_X12_put : GoodIn wsL_law wsX12_put := goodIn_s _ [100, 99, 294, 295, 5, 297, 157, 158, 298, 299, 300, 302, 768, 769, 770, 98, 303, 304, 305, 923, 924, 925, 926, 927, 928, 929, 930, 931, 932, 933, 934, 935, 936, 937, 938, 939, 940, 941, 942, 943, 944, 945, 946, 947, 948, 949, 950, 951, 952, 953, 954, 955, 956, 957, 958, 959, 960, 961, 962, 963, 964, 965, 966, 967, 968, 969, 970, 971, 972, 973, 974, 975, 976, 977, 978, 979, 980, 981, 982, 983, 984, 985, 986, 987, 988] [767, 296, 159, 301, 771, 306] (by decide +kernel) rfl (by decide +kernel)
set_option maxRecDepth 20000 in
theorem gL_law_X12_put : GoodIn wsL_law (wsV RL 108 RX12 yX12_put wsX12_put) := goodIn_app (goodIn_of _ (by decide +kernel)) ggL_law_X12_put
set_option maxRecDepth 100000 in
theorem ggL_law_X11_cell : GoodIn wsL_law wsX11_cell := goodIn_s _ [251, 603, 253, 254, 255, 256, 2, 38, 258, 259, 148, 149, 261, 262, 263, 44, 265, 266, 271, 272, 273, 275, 232, 233, 908, 909, 910, 911, 912, 913, 914, 915, 916, 917, 918, 919, 920, 921, 922, 1022, 1023, 1024, 1025] [775, 257, 260, 150, 264, 274, 234] (by decide +kernel) rfl (by decide +kernel)
set_option maxRecDepth 20000 in
theorem gL_law_X11_cell : GoodIn wsL_law (wsV RL 109 RX11 yX11_cell wsX11_cell) := goodIn_app (goodIn_of _ (by decide +kernel)) ggL_law_X11_cell
set_option maxRecDepth 100000 in
theorem ggL_law_X12_cell : GoodIn wsL_law wsX12_cell := goodIn_s _ [302, 200, 98, 99, 100, 294, 295, 5, 297, 157, 158, 609, 610, 612, 780, 781, 782, 768, 769, 770, 923, 924, 925, 926, 927, 928, 929, 930, 931, 932, 933, 934, 935, 936, 937, 938, 939, 940, 941, 942, 943, 944, 945, 946, 947, 948, 949, 950, 951, 952, 953, 954, 955, 956, 957, 958, 959, 960, 961, 962, 963, 964, 965, 966, 967, 968, 969, 970, 971, 972, 973, 974, 975, 976, 977, 978, 979, 980, 981, 982, 983, 984, 985, 986, 987, 988] [779, 296, 159, 611, 783, 771] (by decide +kernel) rfl (by decide +kernel)
set_option maxRecDepth 20000 in
theorem gL_law_X12_cell : GoodIn wsL_law (wsV RL 113 RX12 yX12_cell wsX12_cell) := goodIn_app (goodIn_of _ (by decide +kernel)) ggL_law_X12_cell
set_option maxRecDepth 100000 in
theorem ggL_law_X11_copy : GoodIn wsL_law wsX11_copy := goodIn_s _ [251, 751, 788, 253, 789, 790, 791, 792, 254, 255, 256, 2, 38, 267, 268, 269, 271, 272, 273, 44, 275, 908, 909, 910, 911, 912, 913, 914, 915, 916, 917, 918, 919, 920, 921, 922, 1022, 1023, 1024, 1025] [787, 257, 270, 274] (by decide +kernel) rfl (by decide +kernel)
set_option maxRecDepth 20000 in
theorem gL_law_X11_copy : GoodIn wsL_law (wsV RL 114 RX11 yX11_copy wsX11_copy) := goodIn_app (goodIn_of _ (by decide +kernel)) ggL_law_X11_copy
set_option maxRecDepth 100000 in
theorem ggL_law_X12_copy : GoodIn wsL_law wsX12_copy := goodIn_s _ [98, 99, 101, 100, 294, 295, 5, 297, 157, 158, 298, 299, 300, 302, 303, 304, 305, 307, 308, 923, 924, 925, 926, 927, 928, 929, 930, 931, 932, 933, 934, 935, 936, 937, 938, 939, 940, 941, 942, 943, 944, 945, 946, 947, 948, 949, 950, 951, 952, 953, 954, 955, 956, 957, 958, 959, 960, 961, 962, 963, 964, 965, 966, 967, 968, 969, 970, 971, 972, 973, 974, 975, 976, 977, 978, 979, 980, 981, 982, 983, 984, 985, 986, 987, 988] [796, 296, 159, 301, 306, 309] (by decide +kernel) rfl (by decide +kernel)
set_option maxRecDepth 20000 in
theorem gL_law_X12_copy : GoodIn wsL_law (wsV RL 117 RX12 yX12_copy wsX12_copy) := goodIn_app (goodIn_of _ (by decide +kernel)) ggL_law_X12_copy
set_option maxRecDepth 100000 in
theorem ggL_law_X11_tell : GoodIn wsL_law wsX11_tell := goodIn_s _ [15, 42, 19, 323, 208, 209, 210, 14, 169, 50, 232, 233, 2, 801, 802, 803, 171, 805, 806, 807, 809, 810, 811, 41, 813, 814, 815, 816, 817, 818, 819, 820, 821, 822, 174, 824, 825, 826, 827, 828, 829, 830, 831, 177, 833, 834, 835, 836, 908, 909, 910, 911, 912, 913, 914, 915, 916, 917, 918, 919, 920, 921, 922, 994, 995, 996, 997, 998, 989, 990, 991, 992, 993, 1021] [800, 211, 234, 804, 808, 812, 823, 832] (by decide +kernel) rfl (by decide +kernel)
set_option maxRecDepth 20000 in
theorem gL_law_X11_tell : GoodIn wsL_law (wsV RL 118 RX11 yX11_tell wsX11_tell) := goodIn_app (goodIn_of _ (by decide +kernel)) ggL_law_X11_tell
set_option maxRecDepth 100000 in
theorem ggL_law_X12_tell : GoodIn wsL_law wsX12_tell := goodIn_s _ [102, 105, 841, 243, 244, 245, 5, 202, 157, 158, 842, 843, 844, 846, 923, 924, 925, 926, 927, 928, 929, 930, 931, 932, 933, 934, 935, 936, 937, 938, 939, 940, 941, 942, 943, 944, 945, 946, 947, 948, 949, 950, 951, 952, 953, 954, 955, 956, 957, 958, 959, 960, 961, 962, 963, 964, 965, 966, 967, 968, 969, 970, 971, 972, 973, 974, 975, 976, 977, 978, 979, 980, 981, 982, 983, 984, 985, 986, 987, 988] [840, 246, 159, 845] (by decide +kernel) rfl (by decide +kernel)
set_option maxRecDepth 20000 in
theorem gL_law_X12_tell : GoodIn wsL_law (wsV RL 121 RX12 yX12_tell wsX12_tell) := goodIn_app (goodIn_of _ (by decide +kernel)) ggL_law_X12_tell
set_option maxRecDepth 100000 in
theorem ggL_law_X11_look : GoodIn wsL_law wsX11_look := goodIn_s _ [15, 42, 208, 209, 210, 14, 169, 50, 851, 852, 853, 171, 185, 809, 810, 811, 41, 813, 855, 856, 857, 858, 859, 860, 177, 833, 908, 909, 910, 911, 912, 913, 914, 915, 916, 917, 918, 919, 920, 921, 922, 989, 990, 991, 992, 993, 1030, 1031, 1032, 1033, 1034, 1035, 1036, 1037, 1038, 1039, 1040, 1041, 1042, 1043, 1044, 1045, 1046, 1047, 1048, 1049, 1050, 1021] [850, 211, 854, 812, 861] (by decide +kernel) rfl (by decide +kernel)
set_option maxRecDepth 20000 in
theorem gL_law_X11_look : GoodIn wsL_law (wsV RL 122 RX11 yX11_look wsX11_look) := goodIn_app (goodIn_of _ (by decide +kernel)) ggL_law_X11_look
set_option maxRecDepth 100000 in
theorem ggL_law_X12_look : GoodIn wsL_law wsX12_look := goodIn_s _ [102, 243, 244, 245, 5, 202, 157, 158, 842, 843, 844, 846, 923, 924, 925, 926, 927, 928, 929, 930, 931, 932, 933, 934, 935, 936, 937, 938, 939, 940, 941, 942, 943, 944, 945, 946, 947, 948, 949, 950, 951, 952, 953, 954, 955, 956, 957, 958, 959, 960, 961, 962, 963, 964, 965, 966, 967, 968, 969, 970, 971, 972, 973, 974, 975, 976, 977, 978, 979, 980, 981, 982, 983, 984, 985, 986, 987, 988] [865, 246, 159, 845] (by decide +kernel) rfl (by decide +kernel)
set_option maxRecDepth 20000 in
theorem gL_law_X12_look : GoodIn wsL_law (wsV RL 125 RX12 yX12_look wsX12_look) := goodIn_app (goodIn_of _ (by decide +kernel)) ggL_law_X12_look
set_option maxRecDepth 100000 in
theorem ggL_law_X11_as : GoodIn wsL_law wsX11_as := goodIn_s _ [251, 15, 870, 871, 208, 209, 210, 14, 169, 50, 148, 149, 2, 267, 268, 269, 908, 909, 910, 911, 912, 913, 914, 915, 916, 917, 918, 919, 920, 921, 922, 989, 990, 991, 992, 993] [869, 211, 150, 270] (by decide +kernel) rfl (by decide +kernel)
set_option maxRecDepth 20000 in
theorem gL_law_X11_as : GoodIn wsL_law (wsV RL 126 RX11 yX11_as wsX11_as) := goodIn_app (goodIn_of _ (by decide +kernel)) ggL_law_X11_as
set_option maxRecDepth 100000 in
theorem ggL_law_X12_as : GoodIn wsL_law wsX12_as := goodIn_s _ [200, 102, 243, 244, 245, 5, 202, 157, 158, 298, 299, 300, 302, 303, 304, 305, 923, 924, 925, 926, 927, 928, 929, 930, 931, 932, 933, 934, 935, 936, 937, 938, 939, 940, 941, 942, 943, 944, 945, 946, 947, 948, 949, 950, 951, 952, 953, 954, 955, 956, 957, 958, 959, 960, 961, 962, 963, 964, 965, 966, 967, 968, 969, 970, 971, 972, 973, 974, 975, 976, 977, 978, 979, 980, 981, 982, 983, 984, 985, 986, 987, 988] [875, 246, 159, 301, 306] (by decide +kernel) rfl (by decide +kernel)
set_option maxRecDepth 20000 in
theorem gL_law_X12_as : GoodIn wsL_law (wsV RL 129 RX12 yX12_as wsX12_as) := goodIn_app (goodIn_of _ (by decide +kernel)) ggL_law_X12_as
set_option maxRecDepth 100000 in
theorem ggL_law_X11_trace : GoodIn wsL_law wsX11_trace := goodIn_s _ [42, 880, 908, 909, 910, 911, 912, 913, 914, 915, 916, 917, 918, 919, 920, 921, 922, 1021] [879] (by decide +kernel) rfl (by decide +kernel)
set_option maxRecDepth 20000 in
theorem gL_law_X11_trace : GoodIn wsL_law (wsV RL 130 RX11 yX11_trace wsX11_trace) := goodIn_app (goodIn_of _ (by decide +kernel)) ggL_law_X11_trace
set_option maxRecDepth 100000 in
theorem ggL_law_X12_trace : GoodIn wsL_law wsX12_trace := goodIn_s _ [846, 923, 924, 925, 926, 927, 928, 929, 930, 931, 932, 933, 934, 935, 936, 937, 938, 939, 940, 941, 942, 943, 944, 945, 946, 947, 948, 949, 950, 951, 952, 953, 954, 955, 956, 957, 958, 959, 960, 961, 962, 963, 964, 965, 966, 967, 968, 969, 970, 971, 972, 973, 974, 975, 976, 977, 978, 979, 980, 981, 982, 983, 984, 985, 986, 987, 988] [884] (by decide +kernel) rfl (by decide +kernel)
set_option maxRecDepth 20000 in
theorem gL_law_X12_trace : GoodIn wsL_law (wsV RL 133 RX12 yX12_trace wsX12_trace) := goodIn_app (goodIn_of _ (by decide +kernel)) ggL_law_X12_trace
set_option maxRecDepth 100000 in
theorem ggL_law_X11_fault : GoodIn wsL_law wsX11_fault := goodIn_s _ [251, 908, 909, 910, 911, 912, 913, 914, 915, 916, 917, 918, 919, 920, 921, 922] [888] (by decide +kernel) rfl (by decide +kernel)
set_option maxRecDepth 20000 in
theorem gL_law_X11_fault : GoodIn wsL_law (wsV RL 134 RX11 yX11_fault wsX11_fault) := goodIn_app (goodIn_of _ (by decide +kernel)) ggL_law_X11_fault
set_option maxRecDepth 100000 in
theorem ggL_law_X12_fault : GoodIn wsL_law wsX12_fault := goodIn_s _ [302, 923, 924, 925, 926, 927, 928, 929, 930, 931, 932, 933, 934, 935, 936, 937, 938, 939, 940, 941, 942, 943, 944, 945, 946, 947, 948, 949, 950, 951, 952, 953, 954, 955, 956, 957, 958, 959, 960, 961, 962, 963, 964, 965, 966, 967, 968, 969, 970, 971, 972, 973, 974, 975, 976, 977, 978, 979, 980, 981, 982, 983, 984, 985, 986, 987, 988] [892] (by decide +kernel) rfl (by decide +kernel)
set_option maxRecDepth 20000 in
theorem gL_law_X12_fault : GoodIn wsL_law (wsV RL 137 RX12 yX12_fault wsX12_fault) := goodIn_app (goodIn_of _ (by decide +kernel)) ggL_law_X12_fault
set_option maxRecDepth 100000 in
theorem ggL_law_X11_told : GoodIn wsL_law wsX11_told := goodIn_s _ [15, 164, 27, 617, 36, 662, 441, 19, 897, 898, 899, 14, 169, 901, 695, 209, 210, 50, 233, 2, 902, 454, 455, 171, 395, 325, 326, 186, 187, 396, 329, 330, 331, 903, 458, 459, 460, 908, 909, 910, 911, 912, 913, 914, 915, 916, 917, 918, 919, 920, 921, 922, 989, 990, 991, 992, 993, 1012, 1013, 1014, 1015, 1016, 1017, 1018, 1019, 1020, 994, 995, 996, 997, 998, 1030, 1031, 1032, 1033, 1034, 1035, 1036, 1037, 1038, 1039, 1040, 1041, 1042, 1043, 1044, 1045, 1046, 1047, 1048, 1049, 1050] [896, 900, 211, 234, 456, 327] (by decide +kernel) rfl (by decide +kernel)
set_option maxRecDepth 20000 in
theorem gL_law_X11_told : GoodIn wsL_law (wsV RL 138 RX11 yX11_told wsX11_told) := goodIn_app (goodIn_of _ (by decide +kernel)) ggL_law_X11_told
set_option maxRecDepth 100000 in
theorem ggL_law_X12_told : GoodIn wsL_law wsX12_told := goodIn_s _ [202, 105, 545, 672, 141, 336, 337, 338, 5, 103, 104, 923, 924, 925, 926, 927, 928, 929, 930, 931, 932, 933, 934, 935, 936, 937, 938, 939, 940, 941, 942, 943, 944, 945, 946, 947, 948, 949, 950, 951, 952, 953, 954, 955, 956, 957, 958, 959, 960, 961, 962, 963, 964, 965, 966, 967, 968, 969, 970, 971, 972, 973, 974, 975, 976, 977, 978, 979, 980, 981, 982, 983, 984, 985, 986, 987, 988] [907, 339] (by decide +kernel) rfl (by decide +kernel)
set_option maxRecDepth 20000 in
theorem gL_law_X12_told : GoodIn wsL_law (wsV RL 141 RX12 yX12_told wsX12_told) := goodIn_app (goodIn_of _ (by decide +kernel)) ggL_law_X12_told
theorem dL_law_0 : decode cL_law 0 = .ok (.new 7, 3) := by decide +kernel
theorem dL_law_3 : decode cL_law 3 = .ok (.dup, 1) := by decide +kernel
theorem dL_law_4 : decode cL_law 4 = .ok (.invokespecial 9, 3) := by decide +kernel
theorem dL_law_7 : decode cL_law 7 = .ok (.astore_n 1, 1) := by decide +kernel
theorem dL_law_8 : decode cL_law 8 = .ok (.new 10, 3) := by decide +kernel
theorem dL_law_11 : decode cL_law 11 = .ok (.dup, 1) := by decide +kernel
theorem dL_law_12 : decode cL_law 12 = .ok (.invokespecial 12, 3) := by decide +kernel
theorem dL_law_15 : decode cL_law 15 = .ok (.astore_n 2, 1) := by decide +kernel
theorem dL_law_16 : decode cL_law 16 = .ok (.iconst 0, 1) := by decide +kernel
theorem dL_law_17 : decode cL_law 17 = .ok (.istore_n 3, 1) := by decide +kernel
theorem dL_law_18 : decode cL_law 18 = .ok (.iload_n 3, 1) := by decide +kernel
theorem dL_law_19 : decode cL_law 19 = .ok (.aload_n 0, 1) := by decide +kernel
theorem dL_law_20 : decode cL_law 20 = .ok (.arraylength, 1) := by decide +kernel
theorem dL_law_21 : decode cL_law 21 = .ok (.bipush 6, 2) := by decide +kernel
theorem dL_law_23 : decode cL_law 23 = .ok (.isub, 1) := by decide +kernel
theorem dL_law_24 : decode cL_law 24 = .ok (.if_icmp .gt 1116, 3) := by decide +kernel
theorem dL_law_27 : decode cL_law 27 = .ok (.aload_n 0, 1) := by decide +kernel
theorem dL_law_28 : decode cL_law 28 = .ok (.iload_n 3, 1) := by decide +kernel
theorem dL_law_29 : decode cL_law 29 = .ok (.iaload, 1) := by decide +kernel
theorem dL_law_30 : decode cL_law 30 = .ok (.bipush 31, 2) := by decide +kernel
theorem dL_law_32 : decode cL_law 32 = .ok (.iand, 1) := by decide +kernel
theorem dL_law_33 : decode cL_law 33 = .ok (.tableswitch 1101 0 29 #[135, 168, 211, 254, 317, 350, 383, 432, 475, 508, 531, 554, 577, 600, 653, 666, 679, 722, 735, 758, 801, 824, 867, 910, 973, 996, 1019, 1052, 1065, 1078], 135) := by decide +kernel
theorem dL_law_168 : decode cL_law 168 = .ok (.aload_n 1, 1) := by decide +kernel
theorem dL_law_169 : decode cL_law 169 = .ok (.aload_n 0, 1) := by decide +kernel
theorem dL_law_170 : decode cL_law 170 = .ok (.iload_n 3, 1) := by decide +kernel
theorem dL_law_171 : decode cL_law 171 = .ok (.iconst 1, 1) := by decide +kernel
theorem dL_law_172 : decode cL_law 172 = .ok (.iadd, 1) := by decide +kernel
theorem dL_law_173 : decode cL_law 173 = .ok (.iaload, 1) := by decide +kernel
theorem dL_law_174 : decode cL_law 174 = .ok (.aload_n 0, 1) := by decide +kernel
theorem dL_law_175 : decode cL_law 175 = .ok (.iload_n 3, 1) := by decide +kernel
theorem dL_law_176 : decode cL_law 176 = .ok (.iconst 2, 1) := by decide +kernel
theorem dL_law_177 : decode cL_law 177 = .ok (.iadd, 1) := by decide +kernel
theorem dL_law_178 : decode cL_law 178 = .ok (.iaload, 1) := by decide +kernel
theorem dL_law_179 : decode cL_law 179 = .ok (.invokevirtual 13, 3) := by decide +kernel
theorem dL_law_182 : decode cL_law 182 = .ok (.aload_n 2, 1) := by decide +kernel
theorem dL_law_183 : decode cL_law 183 = .ok (.aload_n 0, 1) := by decide +kernel
theorem dL_law_184 : decode cL_law 184 = .ok (.iload_n 3, 1) := by decide +kernel
theorem dL_law_185 : decode cL_law 185 = .ok (.iconst 1, 1) := by decide +kernel
theorem dL_law_186 : decode cL_law 186 = .ok (.iadd, 1) := by decide +kernel
theorem dL_law_187 : decode cL_law 187 = .ok (.iaload, 1) := by decide +kernel
theorem dL_law_188 : decode cL_law 188 = .ok (.aload_n 0, 1) := by decide +kernel
theorem dL_law_189 : decode cL_law 189 = .ok (.iload_n 3, 1) := by decide +kernel
theorem dL_law_190 : decode cL_law 190 = .ok (.iconst 2, 1) := by decide +kernel
theorem dL_law_191 : decode cL_law 191 = .ok (.iadd, 1) := by decide +kernel
theorem dL_law_192 : decode cL_law 192 = .ok (.iaload, 1) := by decide +kernel
theorem dL_law_193 : decode cL_law 193 = .ok (.invokevirtual 17, 3) := by decide +kernel
theorem dL_law_196 : decode cL_law 196 = .ok (.if_icmp .eq 938, 3) := by decide +kernel
theorem dL_law_199 : decode cL_law 199 = .ok (.iconst 0, 1) := by decide +kernel
theorem dL_law_200 : decode cL_law 200 = .ok (.ireturn, 1) := by decide +kernel
theorem dL_law_201 : decode cL_law 201 = .ok (.aload_n 1, 1) := by decide +kernel
theorem dL_law_202 : decode cL_law 202 = .ok (.aload_n 0, 1) := by decide +kernel
theorem dL_law_203 : decode cL_law 203 = .ok (.iload_n 3, 1) := by decide +kernel
theorem dL_law_204 : decode cL_law 204 = .ok (.iconst 1, 1) := by decide +kernel
theorem dL_law_205 : decode cL_law 205 = .ok (.iadd, 1) := by decide +kernel
theorem dL_law_206 : decode cL_law 206 = .ok (.iaload, 1) := by decide +kernel
theorem dL_law_207 : decode cL_law 207 = .ok (.aload_n 0, 1) := by decide +kernel
theorem dL_law_208 : decode cL_law 208 = .ok (.iload_n 3, 1) := by decide +kernel
theorem dL_law_209 : decode cL_law 209 = .ok (.iconst 2, 1) := by decide +kernel
theorem dL_law_210 : decode cL_law 210 = .ok (.iadd, 1) := by decide +kernel
theorem dL_law_211 : decode cL_law 211 = .ok (.iaload, 1) := by decide +kernel
theorem dL_law_212 : decode cL_law 212 = .ok (.aload_n 0, 1) := by decide +kernel
theorem dL_law_213 : decode cL_law 213 = .ok (.iload_n 3, 1) := by decide +kernel
theorem dL_law_214 : decode cL_law 214 = .ok (.iconst 3, 1) := by decide +kernel
theorem dL_law_215 : decode cL_law 215 = .ok (.iadd, 1) := by decide +kernel
theorem dL_law_216 : decode cL_law 216 = .ok (.iaload, 1) := by decide +kernel
theorem dL_law_217 : decode cL_law 217 = .ok (.invokevirtual 18, 3) := by decide +kernel
theorem dL_law_220 : decode cL_law 220 = .ok (.pop, 1) := by decide +kernel
theorem dL_law_221 : decode cL_law 221 = .ok (.aload_n 2, 1) := by decide +kernel
theorem dL_law_222 : decode cL_law 222 = .ok (.aload_n 0, 1) := by decide +kernel
theorem dL_law_223 : decode cL_law 223 = .ok (.iload_n 3, 1) := by decide +kernel
theorem dL_law_224 : decode cL_law 224 = .ok (.iconst 1, 1) := by decide +kernel
theorem dL_law_225 : decode cL_law 225 = .ok (.iadd, 1) := by decide +kernel
theorem dL_law_226 : decode cL_law 226 = .ok (.iaload, 1) := by decide +kernel
theorem dL_law_227 : decode cL_law 227 = .ok (.aload_n 0, 1) := by decide +kernel
theorem dL_law_228 : decode cL_law 228 = .ok (.iload_n 3, 1) := by decide +kernel
theorem dL_law_229 : decode cL_law 229 = .ok (.iconst 2, 1) := by decide +kernel
theorem dL_law_230 : decode cL_law 230 = .ok (.iadd, 1) := by decide +kernel
theorem dL_law_231 : decode cL_law 231 = .ok (.iaload, 1) := by decide +kernel
theorem dL_law_232 : decode cL_law 232 = .ok (.aload_n 0, 1) := by decide +kernel
theorem dL_law_233 : decode cL_law 233 = .ok (.iload_n 3, 1) := by decide +kernel
theorem dL_law_234 : decode cL_law 234 = .ok (.iconst 3, 1) := by decide +kernel
theorem dL_law_235 : decode cL_law 235 = .ok (.iadd, 1) := by decide +kernel
theorem dL_law_236 : decode cL_law 236 = .ok (.iaload, 1) := by decide +kernel
theorem dL_law_237 : decode cL_law 237 = .ok (.invokevirtual 22, 3) := by decide +kernel
theorem dL_law_240 : decode cL_law 240 = .ok (.pop, 1) := by decide +kernel
theorem dL_law_241 : decode cL_law 241 = .ok (.goto 893, 3) := by decide +kernel
theorem dL_law_244 : decode cL_law 244 = .ok (.aload_n 1, 1) := by decide +kernel
theorem dL_law_245 : decode cL_law 245 = .ok (.aload_n 0, 1) := by decide +kernel
theorem dL_law_246 : decode cL_law 246 = .ok (.iload_n 3, 1) := by decide +kernel
theorem dL_law_247 : decode cL_law 247 = .ok (.iconst 1, 1) := by decide +kernel
theorem dL_law_248 : decode cL_law 248 = .ok (.iadd, 1) := by decide +kernel
theorem dL_law_249 : decode cL_law 249 = .ok (.iaload, 1) := by decide +kernel
theorem dL_law_250 : decode cL_law 250 = .ok (.aload_n 0, 1) := by decide +kernel
theorem dL_law_251 : decode cL_law 251 = .ok (.iload_n 3, 1) := by decide +kernel
theorem dL_law_252 : decode cL_law 252 = .ok (.iconst 2, 1) := by decide +kernel
theorem dL_law_253 : decode cL_law 253 = .ok (.iadd, 1) := by decide +kernel
theorem dL_law_254 : decode cL_law 254 = .ok (.iaload, 1) := by decide +kernel
theorem dL_law_255 : decode cL_law 255 = .ok (.aload_n 0, 1) := by decide +kernel
theorem dL_law_256 : decode cL_law 256 = .ok (.iload_n 3, 1) := by decide +kernel
theorem dL_law_257 : decode cL_law 257 = .ok (.iconst 3, 1) := by decide +kernel
theorem dL_law_258 : decode cL_law 258 = .ok (.iadd, 1) := by decide +kernel
theorem dL_law_259 : decode cL_law 259 = .ok (.iaload, 1) := by decide +kernel
theorem dL_law_260 : decode cL_law 260 = .ok (.invokevirtual 23, 3) := by decide +kernel
theorem dL_law_263 : decode cL_law 263 = .ok (.pop, 1) := by decide +kernel
theorem dL_law_264 : decode cL_law 264 = .ok (.aload_n 2, 1) := by decide +kernel
theorem dL_law_265 : decode cL_law 265 = .ok (.aload_n 0, 1) := by decide +kernel
theorem dL_law_266 : decode cL_law 266 = .ok (.iload_n 3, 1) := by decide +kernel
theorem dL_law_267 : decode cL_law 267 = .ok (.iconst 1, 1) := by decide +kernel
theorem dL_law_268 : decode cL_law 268 = .ok (.iadd, 1) := by decide +kernel
theorem dL_law_269 : decode cL_law 269 = .ok (.iaload, 1) := by decide +kernel
theorem dL_law_270 : decode cL_law 270 = .ok (.aload_n 0, 1) := by decide +kernel
theorem dL_law_271 : decode cL_law 271 = .ok (.iload_n 3, 1) := by decide +kernel
theorem dL_law_272 : decode cL_law 272 = .ok (.iconst 2, 1) := by decide +kernel
theorem dL_law_273 : decode cL_law 273 = .ok (.iadd, 1) := by decide +kernel
theorem dL_law_274 : decode cL_law 274 = .ok (.iaload, 1) := by decide +kernel
theorem dL_law_275 : decode cL_law 275 = .ok (.aload_n 0, 1) := by decide +kernel
theorem dL_law_276 : decode cL_law 276 = .ok (.iload_n 3, 1) := by decide +kernel
theorem dL_law_277 : decode cL_law 277 = .ok (.iconst 3, 1) := by decide +kernel
theorem dL_law_278 : decode cL_law 278 = .ok (.iadd, 1) := by decide +kernel
theorem dL_law_279 : decode cL_law 279 = .ok (.iaload, 1) := by decide +kernel
theorem dL_law_280 : decode cL_law 280 = .ok (.invokevirtual 26, 3) := by decide +kernel
theorem dL_law_283 : decode cL_law 283 = .ok (.pop, 1) := by decide +kernel
theorem dL_law_284 : decode cL_law 284 = .ok (.goto 850, 3) := by decide +kernel
theorem dL_law_287 : decode cL_law 287 = .ok (.aload_n 1, 1) := by decide +kernel
theorem dL_law_288 : decode cL_law 288 = .ok (.aload_n 0, 1) := by decide +kernel
theorem dL_law_289 : decode cL_law 289 = .ok (.iload_n 3, 1) := by decide +kernel
theorem dL_law_290 : decode cL_law 290 = .ok (.iconst 1, 1) := by decide +kernel
theorem dL_law_291 : decode cL_law 291 = .ok (.iadd, 1) := by decide +kernel
theorem dL_law_292 : decode cL_law 292 = .ok (.iaload, 1) := by decide +kernel
theorem dL_law_293 : decode cL_law 293 = .ok (.aload_n 0, 1) := by decide +kernel
theorem dL_law_294 : decode cL_law 294 = .ok (.iload_n 3, 1) := by decide +kernel
theorem dL_law_295 : decode cL_law 295 = .ok (.iconst 2, 1) := by decide +kernel
theorem dL_law_296 : decode cL_law 296 = .ok (.iadd, 1) := by decide +kernel
theorem dL_law_297 : decode cL_law 297 = .ok (.iaload, 1) := by decide +kernel
theorem dL_law_298 : decode cL_law 298 = .ok (.aload_n 0, 1) := by decide +kernel
theorem dL_law_299 : decode cL_law 299 = .ok (.iload_n 3, 1) := by decide +kernel
theorem dL_law_300 : decode cL_law 300 = .ok (.iconst 3, 1) := by decide +kernel
theorem dL_law_301 : decode cL_law 301 = .ok (.iadd, 1) := by decide +kernel
theorem dL_law_302 : decode cL_law 302 = .ok (.iaload, 1) := by decide +kernel
theorem dL_law_303 : decode cL_law 303 = .ok (.aload_n 0, 1) := by decide +kernel
theorem dL_law_304 : decode cL_law 304 = .ok (.iload_n 3, 1) := by decide +kernel
theorem dL_law_305 : decode cL_law 305 = .ok (.iconst 4, 1) := by decide +kernel
theorem dL_law_306 : decode cL_law 306 = .ok (.iadd, 1) := by decide +kernel
theorem dL_law_307 : decode cL_law 307 = .ok (.iaload, 1) := by decide +kernel
theorem dL_law_308 : decode cL_law 308 = .ok (.aload_n 0, 1) := by decide +kernel
theorem dL_law_309 : decode cL_law 309 = .ok (.iload_n 3, 1) := by decide +kernel
theorem dL_law_310 : decode cL_law 310 = .ok (.iconst 5, 1) := by decide +kernel
theorem dL_law_311 : decode cL_law 311 = .ok (.iadd, 1) := by decide +kernel
theorem dL_law_312 : decode cL_law 312 = .ok (.iaload, 1) := by decide +kernel
theorem dL_law_313 : decode cL_law 313 = .ok (.invokevirtual 27, 3) := by decide +kernel
theorem dL_law_316 : decode cL_law 316 = .ok (.pop, 1) := by decide +kernel
theorem dL_law_317 : decode cL_law 317 = .ok (.aload_n 2, 1) := by decide +kernel
theorem dL_law_318 : decode cL_law 318 = .ok (.aload_n 0, 1) := by decide +kernel
theorem dL_law_319 : decode cL_law 319 = .ok (.iload_n 3, 1) := by decide +kernel
theorem dL_law_320 : decode cL_law 320 = .ok (.iconst 1, 1) := by decide +kernel
theorem dL_law_321 : decode cL_law 321 = .ok (.iadd, 1) := by decide +kernel
theorem dL_law_322 : decode cL_law 322 = .ok (.iaload, 1) := by decide +kernel
theorem dL_law_323 : decode cL_law 323 = .ok (.aload_n 0, 1) := by decide +kernel
theorem dL_law_324 : decode cL_law 324 = .ok (.iload_n 3, 1) := by decide +kernel
theorem dL_law_325 : decode cL_law 325 = .ok (.iconst 2, 1) := by decide +kernel
theorem dL_law_326 : decode cL_law 326 = .ok (.iadd, 1) := by decide +kernel
theorem dL_law_327 : decode cL_law 327 = .ok (.iaload, 1) := by decide +kernel
theorem dL_law_328 : decode cL_law 328 = .ok (.aload_n 0, 1) := by decide +kernel
theorem dL_law_329 : decode cL_law 329 = .ok (.iload_n 3, 1) := by decide +kernel
theorem dL_law_330 : decode cL_law 330 = .ok (.iconst 3, 1) := by decide +kernel
theorem dL_law_331 : decode cL_law 331 = .ok (.iadd, 1) := by decide +kernel
theorem dL_law_332 : decode cL_law 332 = .ok (.iaload, 1) := by decide +kernel
theorem dL_law_333 : decode cL_law 333 = .ok (.aload_n 0, 1) := by decide +kernel
theorem dL_law_334 : decode cL_law 334 = .ok (.iload_n 3, 1) := by decide +kernel
theorem dL_law_335 : decode cL_law 335 = .ok (.iconst 4, 1) := by decide +kernel
theorem dL_law_336 : decode cL_law 336 = .ok (.iadd, 1) := by decide +kernel
theorem dL_law_337 : decode cL_law 337 = .ok (.iaload, 1) := by decide +kernel
theorem dL_law_338 : decode cL_law 338 = .ok (.aload_n 0, 1) := by decide +kernel
theorem dL_law_339 : decode cL_law 339 = .ok (.iload_n 3, 1) := by decide +kernel
theorem dL_law_340 : decode cL_law 340 = .ok (.iconst 5, 1) := by decide +kernel
theorem dL_law_341 : decode cL_law 341 = .ok (.iadd, 1) := by decide +kernel
theorem dL_law_342 : decode cL_law 342 = .ok (.iaload, 1) := by decide +kernel
theorem dL_law_343 : decode cL_law 343 = .ok (.invokevirtual 31, 3) := by decide +kernel
theorem dL_law_346 : decode cL_law 346 = .ok (.pop, 1) := by decide +kernel
theorem dL_law_347 : decode cL_law 347 = .ok (.goto 787, 3) := by decide +kernel
theorem dL_law_350 : decode cL_law 350 = .ok (.aload_n 1, 1) := by decide +kernel
theorem dL_law_351 : decode cL_law 351 = .ok (.aload_n 0, 1) := by decide +kernel
theorem dL_law_352 : decode cL_law 352 = .ok (.iload_n 3, 1) := by decide +kernel
theorem dL_law_353 : decode cL_law 353 = .ok (.iconst 1, 1) := by decide +kernel
theorem dL_law_354 : decode cL_law 354 = .ok (.iadd, 1) := by decide +kernel
theorem dL_law_355 : decode cL_law 355 = .ok (.iaload, 1) := by decide +kernel
theorem dL_law_356 : decode cL_law 356 = .ok (.aload_n 0, 1) := by decide +kernel
theorem dL_law_357 : decode cL_law 357 = .ok (.iload_n 3, 1) := by decide +kernel
theorem dL_law_358 : decode cL_law 358 = .ok (.iconst 2, 1) := by decide +kernel
theorem dL_law_359 : decode cL_law 359 = .ok (.iadd, 1) := by decide +kernel
theorem dL_law_360 : decode cL_law 360 = .ok (.iaload, 1) := by decide +kernel
theorem dL_law_361 : decode cL_law 361 = .ok (.invokevirtual 32, 3) := by decide +kernel
theorem dL_law_364 : decode cL_law 364 = .ok (.pop, 1) := by decide +kernel
theorem dL_law_365 : decode cL_law 365 = .ok (.aload_n 2, 1) := by decide +kernel
theorem dL_law_366 : decode cL_law 366 = .ok (.aload_n 0, 1) := by decide +kernel
theorem dL_law_367 : decode cL_law 367 = .ok (.iload_n 3, 1) := by decide +kernel
theorem dL_law_368 : decode cL_law 368 = .ok (.iconst 1, 1) := by decide +kernel
theorem dL_law_369 : decode cL_law 369 = .ok (.iadd, 1) := by decide +kernel
theorem dL_law_370 : decode cL_law 370 = .ok (.iaload, 1) := by decide +kernel
theorem dL_law_371 : decode cL_law 371 = .ok (.aload_n 0, 1) := by decide +kernel
theorem dL_law_372 : decode cL_law 372 = .ok (.iload_n 3, 1) := by decide +kernel
theorem dL_law_373 : decode cL_law 373 = .ok (.iconst 2, 1) := by decide +kernel
theorem dL_law_374 : decode cL_law 374 = .ok (.iadd, 1) := by decide +kernel
theorem dL_law_375 : decode cL_law 375 = .ok (.iaload, 1) := by decide +kernel
theorem dL_law_376 : decode cL_law 376 = .ok (.invokevirtual 35, 3) := by decide +kernel
theorem dL_law_379 : decode cL_law 379 = .ok (.pop, 1) := by decide +kernel
theorem dL_law_380 : decode cL_law 380 = .ok (.goto 754, 3) := by decide +kernel
theorem dL_law_383 : decode cL_law 383 = .ok (.aload_n 1, 1) := by decide +kernel
theorem dL_law_384 : decode cL_law 384 = .ok (.aload_n 0, 1) := by decide +kernel
theorem dL_law_385 : decode cL_law 385 = .ok (.iload_n 3, 1) := by decide +kernel
theorem dL_law_386 : decode cL_law 386 = .ok (.iconst 1, 1) := by decide +kernel
theorem dL_law_387 : decode cL_law 387 = .ok (.iadd, 1) := by decide +kernel
theorem dL_law_388 : decode cL_law 388 = .ok (.iaload, 1) := by decide +kernel
theorem dL_law_389 : decode cL_law 389 = .ok (.aload_n 0, 1) := by decide +kernel
theorem dL_law_390 : decode cL_law 390 = .ok (.iload_n 3, 1) := by decide +kernel
theorem dL_law_391 : decode cL_law 391 = .ok (.iconst 2, 1) := by decide +kernel
theorem dL_law_392 : decode cL_law 392 = .ok (.iadd, 1) := by decide +kernel
theorem dL_law_393 : decode cL_law 393 = .ok (.iaload, 1) := by decide +kernel
theorem dL_law_394 : decode cL_law 394 = .ok (.invokevirtual 36, 3) := by decide +kernel
theorem dL_law_397 : decode cL_law 397 = .ok (.pop, 1) := by decide +kernel
theorem dL_law_398 : decode cL_law 398 = .ok (.aload_n 2, 1) := by decide +kernel
theorem dL_law_399 : decode cL_law 399 = .ok (.aload_n 0, 1) := by decide +kernel
theorem dL_law_400 : decode cL_law 400 = .ok (.iload_n 3, 1) := by decide +kernel
theorem dL_law_401 : decode cL_law 401 = .ok (.iconst 1, 1) := by decide +kernel
theorem dL_law_402 : decode cL_law 402 = .ok (.iadd, 1) := by decide +kernel
theorem dL_law_403 : decode cL_law 403 = .ok (.iaload, 1) := by decide +kernel
theorem dL_law_404 : decode cL_law 404 = .ok (.aload_n 0, 1) := by decide +kernel
theorem dL_law_405 : decode cL_law 405 = .ok (.iload_n 3, 1) := by decide +kernel
theorem dL_law_406 : decode cL_law 406 = .ok (.iconst 2, 1) := by decide +kernel
theorem dL_law_407 : decode cL_law 407 = .ok (.iadd, 1) := by decide +kernel
theorem dL_law_408 : decode cL_law 408 = .ok (.iaload, 1) := by decide +kernel
theorem dL_law_409 : decode cL_law 409 = .ok (.invokevirtual 39, 3) := by decide +kernel
theorem dL_law_412 : decode cL_law 412 = .ok (.pop, 1) := by decide +kernel
theorem dL_law_413 : decode cL_law 413 = .ok (.goto 721, 3) := by decide +kernel
theorem dL_law_416 : decode cL_law 416 = .ok (.aload_n 1, 1) := by decide +kernel
theorem dL_law_417 : decode cL_law 417 = .ok (.aload_n 0, 1) := by decide +kernel
theorem dL_law_418 : decode cL_law 418 = .ok (.iload_n 3, 1) := by decide +kernel
theorem dL_law_419 : decode cL_law 419 = .ok (.iconst 1, 1) := by decide +kernel
theorem dL_law_420 : decode cL_law 420 = .ok (.iadd, 1) := by decide +kernel
theorem dL_law_421 : decode cL_law 421 = .ok (.iaload, 1) := by decide +kernel
theorem dL_law_422 : decode cL_law 422 = .ok (.aload_n 0, 1) := by decide +kernel
theorem dL_law_423 : decode cL_law 423 = .ok (.iload_n 3, 1) := by decide +kernel
theorem dL_law_424 : decode cL_law 424 = .ok (.iconst 2, 1) := by decide +kernel
theorem dL_law_425 : decode cL_law 425 = .ok (.iadd, 1) := by decide +kernel
theorem dL_law_426 : decode cL_law 426 = .ok (.iaload, 1) := by decide +kernel
theorem dL_law_427 : decode cL_law 427 = .ok (.ifCond .eq 7, 3) := by decide +kernel
theorem dL_law_430 : decode cL_law 430 = .ok (.iconst 1, 1) := by decide +kernel
theorem dL_law_431 : decode cL_law 431 = .ok (.goto 4, 3) := by decide +kernel
theorem dL_law_434 : decode cL_law 434 = .ok (.iconst 0, 1) := by decide +kernel
theorem dL_law_435 : decode cL_law 435 = .ok (.invokevirtual 40, 3) := by decide +kernel
theorem dL_law_438 : decode cL_law 438 = .ok (.pop, 1) := by decide +kernel
theorem dL_law_439 : decode cL_law 439 = .ok (.aload_n 2, 1) := by decide +kernel
theorem dL_law_440 : decode cL_law 440 = .ok (.aload_n 0, 1) := by decide +kernel
theorem dL_law_441 : decode cL_law 441 = .ok (.iload_n 3, 1) := by decide +kernel
theorem dL_law_442 : decode cL_law 442 = .ok (.iconst 1, 1) := by decide +kernel
theorem dL_law_443 : decode cL_law 443 = .ok (.iadd, 1) := by decide +kernel
theorem dL_law_444 : decode cL_law 444 = .ok (.iaload, 1) := by decide +kernel
theorem dL_law_445 : decode cL_law 445 = .ok (.aload_n 0, 1) := by decide +kernel
theorem dL_law_446 : decode cL_law 446 = .ok (.iload_n 3, 1) := by decide +kernel
theorem dL_law_447 : decode cL_law 447 = .ok (.iconst 2, 1) := by decide +kernel
theorem dL_law_448 : decode cL_law 448 = .ok (.iadd, 1) := by decide +kernel
theorem dL_law_449 : decode cL_law 449 = .ok (.iaload, 1) := by decide +kernel
theorem dL_law_450 : decode cL_law 450 = .ok (.ifCond .eq 7, 3) := by decide +kernel
theorem dL_law_453 : decode cL_law 453 = .ok (.iconst 1, 1) := by decide +kernel
theorem dL_law_454 : decode cL_law 454 = .ok (.goto 4, 3) := by decide +kernel
theorem dL_law_457 : decode cL_law 457 = .ok (.iconst 0, 1) := by decide +kernel
theorem dL_law_458 : decode cL_law 458 = .ok (.invokevirtual 44, 3) := by decide +kernel
theorem dL_law_461 : decode cL_law 461 = .ok (.pop, 1) := by decide +kernel
theorem dL_law_462 : decode cL_law 462 = .ok (.goto 672, 3) := by decide +kernel
theorem dL_law_465 : decode cL_law 465 = .ok (.aload_n 1, 1) := by decide +kernel
theorem dL_law_466 : decode cL_law 466 = .ok (.aload_n 0, 1) := by decide +kernel
theorem dL_law_467 : decode cL_law 467 = .ok (.iload_n 3, 1) := by decide +kernel
theorem dL_law_468 : decode cL_law 468 = .ok (.iconst 1, 1) := by decide +kernel
theorem dL_law_469 : decode cL_law 469 = .ok (.iadd, 1) := by decide +kernel
theorem dL_law_470 : decode cL_law 470 = .ok (.iaload, 1) := by decide +kernel
theorem dL_law_471 : decode cL_law 471 = .ok (.aload_n 0, 1) := by decide +kernel
theorem dL_law_472 : decode cL_law 472 = .ok (.iload_n 3, 1) := by decide +kernel
theorem dL_law_473 : decode cL_law 473 = .ok (.iconst 2, 1) := by decide +kernel
theorem dL_law_474 : decode cL_law 474 = .ok (.iadd, 1) := by decide +kernel
theorem dL_law_475 : decode cL_law 475 = .ok (.iaload, 1) := by decide +kernel
theorem dL_law_476 : decode cL_law 476 = .ok (.aload_n 0, 1) := by decide +kernel
theorem dL_law_477 : decode cL_law 477 = .ok (.iload_n 3, 1) := by decide +kernel
theorem dL_law_478 : decode cL_law 478 = .ok (.iconst 3, 1) := by decide +kernel
theorem dL_law_479 : decode cL_law 479 = .ok (.iadd, 1) := by decide +kernel
theorem dL_law_480 : decode cL_law 480 = .ok (.iaload, 1) := by decide +kernel
theorem dL_law_481 : decode cL_law 481 = .ok (.invokevirtual 45, 3) := by decide +kernel
theorem dL_law_484 : decode cL_law 484 = .ok (.pop, 1) := by decide +kernel
theorem dL_law_485 : decode cL_law 485 = .ok (.aload_n 2, 1) := by decide +kernel
theorem dL_law_486 : decode cL_law 486 = .ok (.aload_n 0, 1) := by decide +kernel
theorem dL_law_487 : decode cL_law 487 = .ok (.iload_n 3, 1) := by decide +kernel
theorem dL_law_488 : decode cL_law 488 = .ok (.iconst 1, 1) := by decide +kernel
theorem dL_law_489 : decode cL_law 489 = .ok (.iadd, 1) := by decide +kernel
theorem dL_law_490 : decode cL_law 490 = .ok (.iaload, 1) := by decide +kernel
theorem dL_law_491 : decode cL_law 491 = .ok (.aload_n 0, 1) := by decide +kernel
theorem dL_law_492 : decode cL_law 492 = .ok (.iload_n 3, 1) := by decide +kernel
theorem dL_law_493 : decode cL_law 493 = .ok (.iconst 2, 1) := by decide +kernel
theorem dL_law_494 : decode cL_law 494 = .ok (.iadd, 1) := by decide +kernel
theorem dL_law_495 : decode cL_law 495 = .ok (.iaload, 1) := by decide +kernel
theorem dL_law_496 : decode cL_law 496 = .ok (.aload_n 0, 1) := by decide +kernel
theorem dL_law_497 : decode cL_law 497 = .ok (.iload_n 3, 1) := by decide +kernel
theorem dL_law_498 : decode cL_law 498 = .ok (.iconst 3, 1) := by decide +kernel
theorem dL_law_499 : decode cL_law 499 = .ok (.iadd, 1) := by decide +kernel
theorem dL_law_500 : decode cL_law 500 = .ok (.iaload, 1) := by decide +kernel
theorem dL_law_501 : decode cL_law 501 = .ok (.invokevirtual 48, 3) := by decide +kernel
theorem dL_law_504 : decode cL_law 504 = .ok (.pop, 1) := by decide +kernel
theorem dL_law_505 : decode cL_law 505 = .ok (.goto 629, 3) := by decide +kernel
theorem dL_law_508 : decode cL_law 508 = .ok (.aload_n 1, 1) := by decide +kernel
theorem dL_law_509 : decode cL_law 509 = .ok (.aload_n 0, 1) := by decide +kernel
theorem dL_law_510 : decode cL_law 510 = .ok (.iload_n 3, 1) := by decide +kernel
theorem dL_law_511 : decode cL_law 511 = .ok (.iconst 1, 1) := by decide +kernel
theorem dL_law_512 : decode cL_law 512 = .ok (.iadd, 1) := by decide +kernel
theorem dL_law_513 : decode cL_law 513 = .ok (.iaload, 1) := by decide +kernel
theorem dL_law_514 : decode cL_law 514 = .ok (.aload_n 0, 1) := by decide +kernel
theorem dL_law_515 : decode cL_law 515 = .ok (.iload_n 3, 1) := by decide +kernel
theorem dL_law_516 : decode cL_law 516 = .ok (.iconst 2, 1) := by decide +kernel
theorem dL_law_517 : decode cL_law 517 = .ok (.iadd, 1) := by decide +kernel
theorem dL_law_518 : decode cL_law 518 = .ok (.iaload, 1) := by decide +kernel
theorem dL_law_519 : decode cL_law 519 = .ok (.invokevirtual 49, 3) := by decide +kernel
theorem dL_law_522 : decode cL_law 522 = .ok (.pop, 1) := by decide +kernel
theorem dL_law_523 : decode cL_law 523 = .ok (.aload_n 2, 1) := by decide +kernel
theorem dL_law_524 : decode cL_law 524 = .ok (.aload_n 0, 1) := by decide +kernel
theorem dL_law_525 : decode cL_law 525 = .ok (.iload_n 3, 1) := by decide +kernel
theorem dL_law_526 : decode cL_law 526 = .ok (.iconst 1, 1) := by decide +kernel
theorem dL_law_527 : decode cL_law 527 = .ok (.iadd, 1) := by decide +kernel
theorem dL_law_528 : decode cL_law 528 = .ok (.iaload, 1) := by decide +kernel
theorem dL_law_529 : decode cL_law 529 = .ok (.aload_n 0, 1) := by decide +kernel
