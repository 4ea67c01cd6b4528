set_option maxRecDepth 20000 in
theorem ggL_law_X11_write : GoodIn wsL_law wsX11_write := goodIn_r _ [453, 36, 454, 205, 206, 2, 207, 455, 456, 457, 35, 458, 111, 114, 459, 1026, 1027, 1028, 1029, 1030, 1031, 1032, 1033, 1034, 1035, 1036, 1037, 1038, 1039, 1040, 1041, 1113, 1114, 1115, 1116] (by decide +kernel) (by decide +kernel)
set_option maxRecDepth 20000 in
theorem gL_law_X11_write : GoodIn wsL_law (wsV RL 57 RX11 yX11_write wsX11_write) := goodIn_app (goodIn_of _ (by decide +kernel)) ggL_law_X11_write
set_option maxRecDepth 20000 in
theorem ggL_law_X12_write : GoodIn wsL_law wsX12_write := goodIn_r _ [463, 464, 465, 181, 466, 219, 220, 5, 221, 1042, 1043, 1044, 1045, 1046, 1047, 1048, 1049, 1050, 1051, 1052, 1053, 1054, 1055, 1056, 1057, 1058, 1059, 1060, 1061, 1062, 1063, 1064, 1065, 1066, 1067, 1068, 1069, 1070, 1071, 1072, 1073, 1074, 1075, 1076, 1077, 1078, 1079, 1080, 1081, 1082, 1083] (by decide +kernel) (by decide +kernel)
set_option maxRecDepth 20000 in
theorem gL_law_X12_write : GoodIn wsL_law (wsV RL 61 RX12 yX12_write wsX12_write) := goodIn_app (goodIn_of _ (by decide +kernel)) ggL_law_X12_write
set_option maxRecDepth 20000 in
theorem ggL_law_X11_clear : GoodIn wsL_law wsX11_clear := goodIn_r _ [470, 36, 454, 1026, 1027, 1028, 1029, 1030, 1031, 1032, 1033, 1034, 1035, 1036, 1037, 1038, 1039, 1040, 1041, 1113, 1114, 1115, 1116] (by decide +kernel) (by decide +kernel)
set_option maxRecDepth 20000 in
theorem gL_law_X11_clear : GoodIn wsL_law (wsV RL 62 RX11 yX11_clear wsX11_clear) := goodIn_app (goodIn_of _ (by decide +kernel)) ggL_law_X11_clear
set_option maxRecDepth 20000 in
theorem ggL_law_X12_clear : GoodIn wsL_law wsX12_clear := goodIn_r _ [474, 465, 1042, 1043, 1044, 1045, 1046, 1047, 1048, 1049, 1050, 1051, 1052, 1053, 1054, 1055, 1056, 1057, 1058, 1059, 1060, 1061, 1062, 1063, 1064, 1065, 1066, 1067, 1068, 1069, 1070, 1071, 1072, 1073, 1074, 1075, 1076, 1077, 1078, 1079, 1080, 1081, 1082, 1083] (by decide +kernel) (by decide +kernel)
set_option maxRecDepth 20000 in
theorem gL_law_X12_clear : GoodIn wsL_law (wsV RL 66 RX12 yX12_clear wsX12_clear) := goodIn_app (goodIn_of _ (by decide +kernel)) ggL_law_X12_clear
set_option maxRecDepth 20000 in
theorem ggL_law_X11_fault : GoodIn wsL_law wsX11_fault := goodIn_r _ [478, 36, 479, 480, 481, 35, 482, 114, 483, 484, 485, 486, 113, 487, 488, 489, 490, 111, 491, 492, 493, 494, 112, 495, 496, 497, 498, 499, 2, 500, 205, 206, 207, 501, 502, 1026, 1027, 1028, 1029, 1030, 1031, 1032, 1033, 1034, 1035, 1036, 1037, 1038, 1039, 1040, 1041, 1113, 1114, 1115, 1116] (by decide +kernel) (by decide +kernel)
set_option maxRecDepth 20000 in
theorem gL_law_X11_fault : GoodIn wsL_law (wsV RL 67 RX11 yX11_fault wsX11_fault) := goodIn_app (goodIn_of _ (by decide +kernel)) ggL_law_X11_fault
set_option maxRecDepth 20000 in
theorem ggL_law_X12_fault : GoodIn wsL_law wsX12_fault := goodIn_r _ [506, 507, 508, 509, 5, 510, 182, 511, 465, 183, 181, 195, 512, 513, 514, 515, 516, 517, 518, 519, 520, 521, 522, 523, 524, 388, 219, 220, 221, 1042, 1043, 1044, 1045, 1046, 1047, 1048, 1049, 1050, 1051, 1052, 1053, 1054, 1055, 1056, 1057, 1058, 1059, 1060, 1061, 1062, 1063, 1064, 1065, 1066, 1067, 1068, 1069, 1070, 1071, 1072, 1073, 1074, 1075, 1076, 1077, 1078, 1079, 1080, 1081, 1082, 1083] (by decide +kernel) (by decide +kernel)
set_option maxRecDepth 20000 in
theorem gL_law_X12_fault : GoodIn wsL_law (wsV RL 70 RX12 yX12_fault wsX12_fault) := goodIn_app (goodIn_of _ (by decide +kernel)) ggL_law_X12_fault
set_option maxRecDepth 20000 in
theorem ggL_law_X11_force : GoodIn wsL_law wsX11_force := goodIn_r _ [528, 36, 40, 479, 480, 481, 35, 482, 114, 483, 484, 485, 486, 113, 487, 488, 489, 490, 111, 491, 492, 493, 494, 112, 495, 496, 497, 498, 499, 2, 500, 205, 206, 207, 501, 502, 529, 530, 531, 39, 532, 123, 533, 118, 534, 119, 535, 120, 121, 122, 536, 1026, 1027, 1028, 1029, 1030, 1031, 1032, 1033, 1034, 1035, 1036, 1037, 1038, 1039, 1040, 1041, 1113, 1114, 1115, 1116, 1117, 1118, 1119, 1120, 1121, 1122, 1123, 1124] (by decide +kernel) (by decide +kernel)
set_option maxRecDepth 20000 in
theorem gL_law_X11_force : GoodIn wsL_law (wsV RL 71 RX11 yX11_force wsX11_force) := goodIn_app (goodIn_of _ (by decide +kernel)) ggL_law_X11_force
set_option maxRecDepth 20000 in
theorem ggL_law_X12_force : GoodIn wsL_law wsX12_force := goodIn_r _ [540, 182, 183, 507, 508, 509, 5, 510, 511, 465, 181, 195, 512, 513, 514, 515, 516, 517, 518, 519, 520, 521, 522, 523, 524, 388, 219, 220, 221, 1042, 1043, 1044, 1045, 1046, 1047, 1048, 1049, 1050, 1051, 1052, 1053, 1054, 1055, 1056, 1057, 1058, 1059, 1060, 1061, 1062, 1063, 1064, 1065, 1066, 1067, 1068, 1069, 1070, 1071, 1072, 1073, 1074, 1075, 1076, 1077, 1078, 1079, 1080, 1081, 1082, 1083] (by decide +kernel) (by decide +kernel)
set_option maxRecDepth 20000 in
theorem gL_law_X12_force : GoodIn wsL_law (wsV RL 74 RX12 yX12_force wsX12_force) := goodIn_app (goodIn_of _ (by decide +kernel)) ggL_law_X12_force
set_option maxRecDepth 20000 in
theorem ggL_law_X11_let : GoodIn wsL_law wsX11_let := goodIn_r _ [544, 40, 545, 499, 2, 500, 205, 206, 207, 546, 501, 502, 547, 548, 549, 550, 551, 552, 39, 553, 118, 554, 555, 556, 557, 123, 558, 559, 560, 561, 119, 120, 562, 563, 564, 565, 121, 122, 1026, 1027, 1028, 1029, 1030, 1031, 1032, 1033, 1034, 1035, 1036, 1037, 1038, 1039, 1040, 1041, 1117, 1118, 1119, 1120, 1121, 1122, 1123, 1124] (by decide +kernel) (by decide +kernel)
set_option maxRecDepth 20000 in
theorem gL_law_X11_let : GoodIn wsL_law (wsV RL 75 RX11 yX11_let wsX11_let) := goodIn_app (goodIn_of _ (by decide +kernel)) ggL_law_X11_let
set_option maxRecDepth 20000 in
theorem ggL_law_X12_let : GoodIn wsL_law wsX12_let := goodIn_r _ [569, 570, 571, 5, 572, 516, 517, 573, 219, 220, 221, 574, 575, 576, 577, 183, 578, 579, 580, 581, 182, 1042, 1043, 1044, 1045, 1046, 1047, 1048, 1049, 1050, 1051, 1052, 1053, 1054, 1055, 1056, 1057, 1058, 1059, 1060, 1061, 1062, 1063, 1064, 1065, 1066, 1067, 1068, 1069, 1070, 1071, 1072, 1073, 1074, 1075, 1076, 1077, 1078, 1079, 1080, 1081, 1082, 1083] (by decide +kernel) (by decide +kernel)
set_option maxRecDepth 20000 in
theorem gL_law_X12_let : GoodIn wsL_law (wsV RL 78 RX12 yX12_let wsX12_let) := goodIn_app (goodIn_of _ (by decide +kernel)) ggL_law_X12_let
