set_option maxRecDepth 20000 in
theorem ggL_law_X11_why : GoodIn wsL_law wsX11_why := goodIn_r _ [585, 40, 545, 499, 2, 500, 205, 206, 207, 546, 501, 502, 547, 548, 549, 586, 555, 556, 39, 557, 123, 558, 559, 560, 561, 118, 119, 120, 562, 563, 564, 565, 121, 122, 1026, 1027, 1028, 1029, 1030, 1031, 1032, 1033, 1034, 1035, 1036, 1037, 1038, 1039, 1040, 1041, 1117, 1118, 1119, 1120, 1121, 1122, 1123, 1124] (by decide +kernel) (by decide +kernel)
set_option maxRecDepth 20000 in
theorem gL_law_X11_why : GoodIn wsL_law (wsV RL 79 RX11 yX11_why wsX11_why) := goodIn_app (goodIn_of _ (by decide +kernel)) ggL_law_X11_why
set_option maxRecDepth 20000 in
theorem ggL_law_X12_why : GoodIn wsL_law wsX12_why := goodIn_r _ [590, 570, 571, 5, 572, 516, 517, 573, 219, 220, 221, 578, 579, 580, 581, 182, 183, 1042, 1043, 1044, 1045, 1046, 1047, 1048, 1049, 1050, 1051, 1052, 1053, 1054, 1055, 1056, 1057, 1058, 1059, 1060, 1061, 1062, 1063, 1064, 1065, 1066, 1067, 1068, 1069, 1070, 1071, 1072, 1073, 1074, 1075, 1076, 1077, 1078, 1079, 1080, 1081, 1082, 1083] (by decide +kernel) (by decide +kernel)
set_option maxRecDepth 20000 in
theorem gL_law_X12_why : GoodIn wsL_law (wsV RL 82 RX12 yX12_why wsX12_why) := goodIn_app (goodIn_of _ (by decide +kernel)) ggL_law_X12_why
set_option maxRecDepth 20000 in
theorem ggL_law_X11_quarrels : GoodIn wsL_law wsX11_quarrels := goodIn_r _ [594, 40, 595, 596, 545, 499, 2, 500, 205, 206, 207, 546, 501, 502, 597, 598, 599, 39, 600, 124, 125, 601, 602, 603, 604, 123, 121, 605, 606, 425, 607, 122, 558, 559, 560, 561, 118, 119, 120, 608, 609, 610, 611, 562, 563, 564, 565, 1026, 1027, 1028, 1029, 1030, 1031, 1032, 1033, 1034, 1035, 1036, 1037, 1038, 1039, 1040, 1041, 1117, 1118, 1119, 1120, 1121, 1122, 1123, 1124] (by decide +kernel) (by decide +kernel)
set_option maxRecDepth 20000 in
theorem gL_law_X11_quarrels : GoodIn wsL_law (wsV RL 83 RX11 yX11_quarrels wsX11_quarrels) := goodIn_app (goodIn_of _ (by decide +kernel)) ggL_law_X11_quarrels
set_option maxRecDepth 20000 in
theorem ggL_law_X12_quarrels : GoodIn wsL_law wsX12_quarrels := goodIn_r _ [615, 516, 517, 219, 220, 5, 221, 616, 617, 618, 619, 182, 183, 1042, 1043, 1044, 1045, 1046, 1047, 1048, 1049, 1050, 1051, 1052, 1053, 1054, 1055, 1056, 1057, 1058, 1059, 1060, 1061, 1062, 1063, 1064, 1065, 1066, 1067, 1068, 1069, 1070, 1071, 1072, 1073, 1074, 1075, 1076, 1077, 1078, 1079, 1080, 1081, 1082, 1083] (by decide +kernel) (by decide +kernel)
set_option maxRecDepth 20000 in
theorem gL_law_X12_quarrels : GoodIn wsL_law (wsV RL 86 RX12 yX12_quarrels wsX12_quarrels) := goodIn_app (goodIn_of _ (by decide +kernel)) ggL_law_X12_quarrels
set_option maxRecDepth 20000 in
theorem ggL_law_X11_means : GoodIn wsL_law wsX11_means := goodIn_r _ [623, 40, 205, 206, 2, 207, 546, 501, 502, 547, 548, 549, 624, 625, 626, 39, 627, 123, 120, 628, 629, 630, 631, 118, 119, 121, 122, 632, 633, 634, 635, 636, 637, 638, 639, 640, 641, 551, 552, 553, 554, 555, 556, 557, 558, 559, 560, 561, 562, 563, 564, 565, 1026, 1027, 1028, 1029, 1030, 1031, 1032, 1033, 1034, 1035, 1036, 1037, 1038, 1039, 1040, 1041, 1117, 1118, 1119, 1120, 1121, 1122, 1123, 1124] (by decide +kernel) (by decide +kernel)
set_option maxRecDepth 20000 in
theorem gL_law_X11_means : GoodIn wsL_law (wsV RL 87 RX11 yX11_means wsX11_means) := goodIn_app (goodIn_of _ (by decide +kernel)) ggL_law_X11_means
set_option maxRecDepth 20000 in
theorem ggL_law_X12_means : GoodIn wsL_law wsX12_means := goodIn_r _ [645, 518, 517, 573, 182, 183, 219, 220, 5, 221, 646, 647, 648, 649, 574, 575, 576, 577, 578, 579, 580, 581, 1042, 1043, 1044, 1045, 1046, 1047, 1048, 1049, 1050, 1051, 1052, 1053, 1054, 1055, 1056, 1057, 1058, 1059, 1060, 1061, 1062, 1063, 1064, 1065, 1066, 1067, 1068, 1069, 1070, 1071, 1072, 1073, 1074, 1075, 1076, 1077, 1078, 1079, 1080, 1081, 1082, 1083] (by decide +kernel) (by decide +kernel)
set_option maxRecDepth 20000 in
theorem gL_law_X12_means : GoodIn wsL_law (wsV RL 90 RX12 yX12_means wsX12_means) := goodIn_app (goodIn_of _ (by decide +kernel)) ggL_law_X12_means
set_option maxRecDepth 20000 in
theorem ggL_law_X11_paper : GoodIn wsL_law wsX11_paper := goodIn_r _ [653, 203, 44, 654, 546, 501, 2, 502, 205, 206, 207, 547, 548, 549, 655, 656, 657, 43, 658, 129, 134, 130, 131, 132, 133, 1026, 1027, 1028, 1029, 1030, 1031, 1032, 1033, 1034, 1035, 1036, 1037, 1038, 1039, 1040, 1041, 1125, 1126, 1127, 1128, 1129, 1130, 1131, 1132, 1133] (by decide +kernel) (by decide +kernel)
set_option maxRecDepth 20000 in
theorem gL_law_X11_paper : GoodIn wsL_law (wsV RL 91 RX11 yX11_paper wsX11_paper) := goodIn_app (goodIn_of _ (by decide +kernel)) ggL_law_X11_paper
set_option maxRecDepth 20000 in
theorem ggL_law_X12_paper : GoodIn wsL_law wsX12_paper := goodIn_r _ [662, 517, 518, 573, 216, 663, 664, 184, 219, 220, 5, 221, 1042, 1043, 1044, 1045, 1046, 1047, 1048, 1049, 1050, 1051, 1052, 1053, 1054, 1055, 1056, 1057, 1058, 1059, 1060, 1061, 1062, 1063, 1064, 1065, 1066, 1067, 1068, 1069, 1070, 1071, 1072, 1073, 1074, 1075, 1076, 1077, 1078, 1079, 1080, 1081, 1082, 1083] (by decide +kernel) (by decide +kernel)
set_option maxRecDepth 20000 in
theorem gL_law_X12_paper : GoodIn wsL_law (wsV RL 94 RX12 yX12_paper wsX12_paper) := goodIn_app (goodIn_of _ (by decide +kernel)) ggL_law_X12_paper
set_option maxRecDepth 20000 in
theorem ggL_law_X11_owed : GoodIn wsL_law wsX11_owed := goodIn_r _ [668, 44, 260, 669, 16, 40, 308, 670, 671, 672, 673, 674, 43, 675, 134, 205, 206, 2, 207, 676, 677, 678, 679, 137, 130, 129, 680, 132, 681, 682, 683, 684, 685, 686, 625, 626, 39, 627, 123, 120, 628, 629, 630, 631, 118, 119, 121, 122, 687, 688, 689, 690, 133, 691, 692, 693, 694, 562, 563, 564, 565, 695, 696, 697, 698, 135, 699, 428, 425, 429, 136, 700, 424, 426, 1026, 1027, 1028, 1029, 1030, 1031, 1032, 1033, 1034, 1035, 1036, 1037, 1038, 1039, 1040, 1041, 1125, 1126, 1127, 1128, 1129, 1130, 1131, 1132, 1133, 1084, 1085, 1086, 1087, 1117, 1118, 1119, 1120, 1121, 1122, 1123, 1124] (by decide +kernel) (by decide +kernel)
set_option maxRecDepth 20000 in
theorem gL_law_X11_owed : GoodIn wsL_law (wsV RL 95 RX11 yX11_owed wsX11_owed) := goodIn_app (goodIn_of _ (by decide +kernel)) ggL_law_X11_owed
set_option maxRecDepth 20000 in
theorem ggL_law_X12_owed : GoodIn wsL_law wsX12_owed := goodIn_r _ [704, 664, 274, 573, 184, 331, 705, 706, 219, 220, 5, 221, 707, 708, 709, 710, 218, 173, 174, 175, 217, 289, 646, 647, 648, 649, 182, 183, 711, 712, 713, 714, 1042, 1043, 1044, 1045, 1046, 1047, 1048, 1049, 1050, 1051, 1052, 1053, 1054, 1055, 1056, 1057, 1058, 1059, 1060, 1061, 1062, 1063, 1064, 1065, 1066, 1067, 1068, 1069, 1070, 1071, 1072, 1073, 1074, 1075, 1076, 1077, 1078, 1079, 1080, 1081, 1082, 1083] (by decide +kernel) (by decide +kernel)
set_option maxRecDepth 20000 in
theorem gL_law_X12_owed : GoodIn wsL_law (wsV RL 98 RX12 yX12_owed wsX12_owed) := goodIn_app (goodIn_of _ (by decide +kernel)) ggL_law_X12_owed
