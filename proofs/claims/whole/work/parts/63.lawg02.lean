set_option maxRecDepth 20000 in
theorem ggL_law_X11_best : GoodIn wsL_law wsX11_best := goodIn_r _ [306, 260, 24, 20, 307, 308, 309, 310, 311, 312, 313, 23, 314, 84, 82, 81, 83, 315, 316, 317, 318, 319, 320, 263, 264, 19, 265, 74, 321, 267, 268, 269, 75, 73, 322, 323, 324, 325, 80, 1026, 1027, 1028, 1029, 1030, 1031, 1032, 1033, 1034, 1035, 1036, 1037, 1038, 1039, 1040, 1041, 1092, 1093, 1094, 1095, 1096, 1088, 1089, 1090, 1091] (by decide +kernel) (by decide +kernel)
set_option maxRecDepth 20000 in
theorem gL_law_X11_best : GoodIn wsL_law (wsV RL 32 RX11 yX11_best wsX11_best) := goodIn_app (goodIn_of _ (by decide +kernel)) ggL_law_X11_best
set_option maxRecDepth 20000 in
theorem ggL_law_X12_best : GoodIn wsL_law wsX12_best := goodIn_r _ [329, 274, 330, 331, 332, 194, 333, 334, 335, 5, 336, 337, 193, 251, 252, 253, 254, 218, 219, 220, 221, 338, 339, 340, 341, 216, 342, 281, 282, 283, 284, 176, 285, 286, 287, 288, 289, 217, 290, 1042, 1043, 1044, 1045, 1046, 1047, 1048, 1049, 1050, 1051, 1052, 1053, 1054, 1055, 1056, 1057, 1058, 1059, 1060, 1061, 1062, 1063, 1064, 1065, 1066, 1067, 1068, 1069, 1070, 1071, 1072, 1073, 1074, 1075, 1076, 1077, 1078, 1079, 1080, 1081, 1082, 1083] (by decide +kernel) (by decide +kernel)
set_option maxRecDepth 20000 in
theorem gL_law_X12_best : GoodIn wsL_law (wsV RL 36 RX12 yX12_best wsX12_best) := goodIn_app (goodIn_of _ (by decide +kernel)) ggL_law_X12_best
set_option maxRecDepth 20000 in
theorem ggL_law_X11_chain : GoodIn wsL_law wsX11_chain := goodIn_r _ [346, 203, 28, 347, 205, 206, 2, 207, 348, 349, 350, 27, 351, 88, 91, 89, 90, 1026, 1027, 1028, 1029, 1030, 1031, 1032, 1033, 1034, 1035, 1036, 1037, 1038, 1039, 1040, 1041, 1097, 1098, 1099, 1100, 1101, 1102] (by decide +kernel) (by decide +kernel)
set_option maxRecDepth 20000 in
theorem gL_law_X11_chain : GoodIn wsL_law (wsV RL 37 RX11 yX11_chain wsX11_chain) := goodIn_app (goodIn_of _ (by decide +kernel)) ggL_law_X11_chain
set_option maxRecDepth 20000 in
theorem ggL_law_X12_chain : GoodIn wsL_law wsX12_chain := goodIn_r _ [355, 216, 289, 356, 177, 178, 179, 219, 220, 5, 221, 1042, 1043, 1044, 1045, 1046, 1047, 1048, 1049, 1050, 1051, 1052, 1053, 1054, 1055, 1056, 1057, 1058, 1059, 1060, 1061, 1062, 1063, 1064, 1065, 1066, 1067, 1068, 1069, 1070, 1071, 1072, 1073, 1074, 1075, 1076, 1077, 1078, 1079, 1080, 1081, 1082, 1083] (by decide +kernel) (by decide +kernel)
set_option maxRecDepth 20000 in
theorem gL_law_X12_chain : GoodIn wsL_law (wsV RL 40 RX12 yX12_chain wsX12_chain) := goodIn_app (goodIn_of _ (by decide +kernel)) ggL_law_X12_chain
set_option maxRecDepth 20000 in
theorem ggL_law_X11_earth : GoodIn wsL_law wsX11_earth := goodIn_r _ [360, 260, 28, 308, 361, 362, 205, 206, 2, 207, 363, 364, 365, 27, 366, 91, 88, 89, 90, 367, 368, 369, 370, 371, 372, 373, 374, 375, 376, 377, 378, 379, 380, 92, 93, 381, 382, 383, 1026, 1027, 1028, 1029, 1030, 1031, 1032, 1033, 1034, 1035, 1036, 1037, 1038, 1039, 1040, 1041, 1097, 1098, 1099, 1100, 1101, 1102] (by decide +kernel) (by decide +kernel)
set_option maxRecDepth 20000 in
theorem gL_law_X11_earth : GoodIn wsL_law (wsV RL 41 RX11 yX11_earth wsX11_earth) := goodIn_app (goodIn_of _ (by decide +kernel)) ggL_law_X11_earth
set_option maxRecDepth 20000 in
theorem ggL_law_X12_earth : GoodIn wsL_law wsX12_earth := goodIn_r _ [387, 388, 274, 356, 177, 178, 179, 331, 389, 289, 219, 220, 5, 221, 390, 391, 392, 1042, 1043, 1044, 1045, 1046, 1047, 1048, 1049, 1050, 1051, 1052, 1053, 1054, 1055, 1056, 1057, 1058, 1059, 1060, 1061, 1062, 1063, 1064, 1065, 1066, 1067, 1068, 1069, 1070, 1071, 1072, 1073, 1074, 1075, 1076, 1077, 1078, 1079, 1080, 1081, 1082, 1083] (by decide +kernel) (by decide +kernel)
set_option maxRecDepth 20000 in
theorem gL_law_X12_earth : GoodIn wsL_law (wsV RL 45 RX12 yX12_earth wsX12_earth) := goodIn_app (goodIn_of _ (by decide +kernel)) ggL_law_X12_earth
set_option maxRecDepth 20000 in
theorem ggL_law_X11_trial : GoodIn wsL_law wsX11_trial := goodIn_r _ [396, 16, 203, 32, 397, 226, 227, 228, 15, 229, 69, 205, 206, 2, 207, 230, 231, 232, 233, 66, 398, 399, 400, 31, 401, 97, 102, 98, 99, 100, 101, 1026, 1027, 1028, 1029, 1030, 1031, 1032, 1033, 1034, 1035, 1036, 1037, 1038, 1039, 1040, 1041, 1103, 1104, 1105, 1106, 1107, 1108, 1109, 1110, 1111, 1112, 1084, 1085, 1086, 1087] (by decide +kernel) (by decide +kernel)
set_option maxRecDepth 20000 in
theorem gL_law_X11_trial : GoodIn wsL_law (wsV RL 46 RX11 yX11_trial wsX11_trial) := goodIn_app (goodIn_of _ (by decide +kernel)) ggL_law_X11_trial
set_option maxRecDepth 20000 in
theorem ggL_law_X12_trial : GoodIn wsL_law wsX12_trial := goodIn_r _ [405, 249, 216, 173, 406, 180, 251, 252, 253, 5, 254, 218, 219, 220, 221, 1042, 1043, 1044, 1045, 1046, 1047, 1048, 1049, 1050, 1051, 1052, 1053, 1054, 1055, 1056, 1057, 1058, 1059, 1060, 1061, 1062, 1063, 1064, 1065, 1066, 1067, 1068, 1069, 1070, 1071, 1072, 1073, 1074, 1075, 1076, 1077, 1078, 1079, 1080, 1081, 1082, 1083] (by decide +kernel) (by decide +kernel)
set_option maxRecDepth 20000 in
theorem gL_law_X12_trial : GoodIn wsL_law (wsV RL 49 RX12 yX12_trial wsX12_trial) := goodIn_app (goodIn_of _ (by decide +kernel)) ggL_law_X12_trial
set_option maxRecDepth 20000 in
theorem ggL_law_X11_span : GoodIn wsL_law wsX11_span := goodIn_r _ [410, 16, 203, 32, 411, 412, 413, 414, 226, 227, 228, 15, 229, 69, 205, 206, 2, 207, 230, 231, 232, 233, 66, 415, 416, 417, 31, 418, 103, 104, 105, 102, 97, 98, 99, 100, 101, 419, 420, 421, 422, 423, 424, 425, 426, 427, 428, 429, 430, 431, 432, 433, 434, 106, 107, 435, 436, 437, 438, 1026, 1027, 1028, 1029, 1030, 1031, 1032, 1033, 1034, 1035, 1036, 1037, 1038, 1039, 1040, 1041, 1103, 1104, 1105, 1106, 1107, 1108, 1109, 1110, 1111, 1112, 1084, 1085, 1086, 1087] (by decide +kernel) (by decide +kernel)
set_option maxRecDepth 20000 in
theorem gL_law_X11_span : GoodIn wsL_law (wsV RL 50 RX11 yX11_span wsX11_span) := goodIn_app (goodIn_of _ (by decide +kernel)) ggL_law_X11_span
set_option maxRecDepth 20000 in
theorem ggL_law_X12_span : GoodIn wsL_law wsX12_span := goodIn_r _ [442, 216, 250, 173, 443, 444, 445, 251, 252, 253, 5, 254, 218, 219, 220, 221, 446, 447, 448, 449, 406, 180, 1042, 1043, 1044, 1045, 1046, 1047, 1048, 1049, 1050, 1051, 1052, 1053, 1054, 1055, 1056, 1057, 1058, 1059, 1060, 1061, 1062, 1063, 1064, 1065, 1066, 1067, 1068, 1069, 1070, 1071, 1072, 1073, 1074, 1075, 1076, 1077, 1078, 1079, 1080, 1081, 1082, 1083] (by decide +kernel) (by decide +kernel)
set_option maxRecDepth 20000 in
theorem gL_law_X12_span : GoodIn wsL_law (wsV RL 54 RX12 yX12_span wsX12_span) := goodIn_app (goodIn_of _ (by decide +kernel)) ggL_law_X12_span
