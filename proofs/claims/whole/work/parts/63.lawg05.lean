set_option maxRecDepth 20000 in
theorem ggL_law_X11_gained : GoodIn wsL_law wsX11_gained := goodIn_r _ [718, 44, 719, 669, 16, 40, 720, 670, 671, 672, 673, 674, 43, 675, 134, 547, 548, 2, 549, 205, 206, 207, 676, 677, 678, 679, 137, 130, 129, 680, 132, 681, 682, 683, 684, 685, 686, 625, 626, 39, 627, 123, 120, 628, 629, 630, 631, 118, 119, 121, 122, 687, 688, 689, 690, 133, 691, 692, 693, 694, 562, 563, 564, 565, 695, 696, 697, 698, 135, 699, 428, 425, 429, 136, 700, 424, 426, 1026, 1027, 1028, 1029, 1030, 1031, 1032, 1033, 1034, 1035, 1036, 1037, 1038, 1039, 1040, 1041, 1125, 1126, 1127, 1128, 1129, 1130, 1131, 1132, 1133, 1084, 1085, 1086, 1087, 1117, 1118, 1119, 1120, 1121, 1122, 1123, 1124] (by decide +kernel) (by decide +kernel)
set_option maxRecDepth 20000 in
theorem gL_law_X11_gained : GoodIn wsL_law (wsV RL 99 RX11 yX11_gained wsX11_gained) := goodIn_app (goodIn_of _ (by decide +kernel)) ggL_law_X11_gained
set_option maxRecDepth 20000 in
theorem ggL_law_X12_gained : GoodIn wsL_law wsX12_gained := goodIn_r _ [724, 664, 573, 725, 726, 706, 184, 705, 219, 220, 5, 221, 707, 708, 709, 710, 274, 218, 173, 174, 175, 217, 289, 646, 647, 648, 649, 182, 183, 711, 712, 713, 714, 1042, 1043, 1044, 1045, 1046, 1047, 1048, 1049, 1050, 1051, 1052, 1053, 1054, 1055, 1056, 1057, 1058, 1059, 1060, 1061, 1062, 1063, 1064, 1065, 1066, 1067, 1068, 1069, 1070, 1071, 1072, 1073, 1074, 1075, 1076, 1077, 1078, 1079, 1080, 1081, 1082, 1083] (by decide +kernel) (by decide +kernel)
set_option maxRecDepth 20000 in
theorem gL_law_X12_gained : GoodIn wsL_law (wsV RL 102 RX12 yX12_gained wsX12_gained) := goodIn_app (goodIn_of _ (by decide +kernel)) ggL_law_X12_gained
set_option maxRecDepth 20000 in
theorem ggL_law_X11_rod : GoodIn wsL_law wsX11_rod := goodIn_r _ [730, 16, 48, 731, 226, 227, 228, 15, 229, 69, 546, 501, 2, 502, 205, 206, 207, 732, 733, 734, 47, 735, 143, 141, 144, 145, 146, 147, 142, 148, 149, 150, 151, 1026, 1027, 1028, 1029, 1030, 1031, 1032, 1033, 1034, 1035, 1036, 1037, 1038, 1039, 1040, 1041, 1134, 1135, 1136, 1137, 1138, 1139, 1140, 1141, 1142, 1143, 1144, 1145, 1146, 1084, 1085, 1086, 1087] (by decide +kernel) (by decide +kernel)
set_option maxRecDepth 20000 in
theorem gL_law_X11_rod : GoodIn wsL_law (wsV RL 103 RX11 yX11_rod wsX11_rod) := goodIn_app (goodIn_of _ (by decide +kernel)) ggL_law_X11_rod
set_option maxRecDepth 20000 in
theorem ggL_law_X12_rod : GoodIn wsL_law wsX12_rod := goodIn_r _ [739, 517, 740, 741, 742, 289, 185, 186, 187, 251, 252, 253, 5, 254, 218, 219, 220, 221, 1042, 1043, 1044, 1045, 1046, 1047, 1048, 1049, 1050, 1051, 1052, 1053, 1054, 1055, 1056, 1057, 1058, 1059, 1060, 1061, 1062, 1063, 1064, 1065, 1066, 1067, 1068, 1069, 1070, 1071, 1072, 1073, 1074, 1075, 1076, 1077, 1078, 1079, 1080, 1081, 1082, 1083] (by decide +kernel) (by decide +kernel)
set_option maxRecDepth 20000 in
theorem gL_law_X12_rod : GoodIn wsL_law (wsV RL 106 RX12 yX12_rod wsX12_rod) := goodIn_app (goodIn_of _ (by decide +kernel)) ggL_law_X12_rod
set_option maxRecDepth 20000 in
theorem ggL_law_X11_allowed : GoodIn wsL_law wsX11_allowed := goodIn_r _ [746, 62, 205, 206, 2, 207, 1026, 1027, 1028, 1029, 1030, 1031, 1032, 1033, 1034, 1035, 1036, 1037, 1038, 1039, 1040, 1041] (by decide +kernel) (by decide +kernel)
set_option maxRecDepth 20000 in
theorem gL_law_X11_allowed : GoodIn wsL_law (wsV RL 107 RX11 yX11_allowed wsX11_allowed) := goodIn_app (goodIn_of _ (by decide +kernel)) ggL_law_X11_allowed
set_option maxRecDepth 20000 in
theorem ggL_law_X12_allowed : GoodIn wsL_law wsX12_allowed := goodIn_r _ [750, 741, 191, 219, 220, 5, 221, 1042, 1043, 1044, 1045, 1046, 1047, 1048, 1049, 1050, 1051, 1052, 1053, 1054, 1055, 1056, 1057, 1058, 1059, 1060, 1061, 1062, 1063, 1064, 1065, 1066, 1067, 1068, 1069, 1070, 1071, 1072, 1073, 1074, 1075, 1076, 1077, 1078, 1079, 1080, 1081, 1082, 1083] (by decide +kernel) (by decide +kernel)
set_option maxRecDepth 20000 in
theorem gL_law_X12_allowed : GoodIn wsL_law (wsV RL 111 RX12 yX12_allowed wsX12_allowed) := goodIn_app (goodIn_of _ (by decide +kernel)) ggL_law_X12_allowed
set_option maxRecDepth 20000 in
theorem ggL_law_X11_plan : GoodIn wsL_law wsX11_plan := goodIn_r _ [754, 58, 205, 206, 2, 207, 1026, 1027, 1028, 1029, 1030, 1031, 1032, 1033, 1034, 1035, 1036, 1037, 1038, 1039, 1040, 1041] (by decide +kernel) (by decide +kernel)
set_option maxRecDepth 20000 in
theorem gL_law_X11_plan : GoodIn wsL_law (wsV RL 112 RX11 yX11_plan wsX11_plan) := goodIn_app (goodIn_of _ (by decide +kernel)) ggL_law_X11_plan
set_option maxRecDepth 20000 in
theorem ggL_law_X12_plan : GoodIn wsL_law wsX12_plan := goodIn_r _ [758, 518, 759, 192, 219, 220, 5, 221, 1042, 1043, 1044, 1045, 1046, 1047, 1048, 1049, 1050, 1051, 1052, 1053, 1054, 1055, 1056, 1057, 1058, 1059, 1060, 1061, 1062, 1063, 1064, 1065, 1066, 1067, 1068, 1069, 1070, 1071, 1072, 1073, 1074, 1075, 1076, 1077, 1078, 1079, 1080, 1081, 1082, 1083] (by decide +kernel) (by decide +kernel)
set_option maxRecDepth 20000 in
theorem gL_law_X12_plan : GoodIn wsL_law (wsV RL 116 RX12 yX12_plan wsX12_plan) := goodIn_app (goodIn_of _ (by decide +kernel)) ggL_law_X12_plan
set_option maxRecDepth 20000 in
theorem ggL_law_X11_weeks : GoodIn wsL_law wsX11_weeks := goodIn_r _ [763, 48, 764, 16, 40, 62, 58, 205, 206, 2, 207, 765, 766, 767, 47, 768, 141, 151, 148, 144, 142, 150, 769, 770, 771, 772, 153, 154, 773, 774, 775, 776, 149, 777, 143, 778, 779, 780, 781, 782, 145, 146, 783, 784, 425, 785, 786, 787, 788, 789, 790, 791, 792, 793, 551, 552, 39, 553, 118, 554, 555, 556, 557, 123, 558, 559, 560, 561, 119, 120, 562, 563, 564, 565, 121, 122, 794, 795, 796, 797, 1026, 1027, 1028, 1029, 1030, 1031, 1032, 1033, 1034, 1035, 1036, 1037, 1038, 1039, 1040, 1041, 1134, 1135, 1136, 1137, 1138, 1139, 1140, 1141, 1142, 1143, 1144, 1145, 1146, 1084, 1085, 1086, 1087, 1117, 1118, 1119, 1120, 1121, 1122, 1123, 1124] (by decide +kernel) (by decide +kernel)
set_option maxRecDepth 20000 in
theorem gL_law_X11_weeks : GoodIn wsL_law (wsV RL 117 RX11 yX11_weeks wsX11_weeks) := goodIn_app (goodIn_of _ (by decide +kernel)) ggL_law_X11_weeks
set_option maxRecDepth 20000 in
theorem ggL_law_X12_weeks : GoodIn wsL_law wsX12_weeks := goodIn_r _ [801, 742, 187, 192, 219, 220, 5, 221, 802, 803, 804, 805, 185, 186, 174, 289, 188, 189, 806, 807, 808, 809, 810, 811, 812, 813, 814, 815, 816, 191, 574, 575, 576, 577, 183, 578, 579, 580, 581, 182, 1042, 1043, 1044, 1045, 1046, 1047, 1048, 1049, 1050, 1051, 1052, 1053, 1054, 1055, 1056, 1057, 1058, 1059, 1060, 1061, 1062, 1063, 1064, 1065, 1066, 1067, 1068, 1069, 1070, 1071, 1072, 1073, 1074, 1075, 1076, 1077, 1078, 1079, 1080, 1081, 1082, 1083] (by decide +kernel) (by decide +kernel)
set_option maxRecDepth 20000 in
theorem gL_law_X12_weeks : GoodIn wsL_law (wsV RL 120 RX12 yX12_weeks wsX12_weeks) := goodIn_app (goodIn_of _ (by decide +kernel)) ggL_law_X12_weeks
