set_option maxRecDepth 20000 in
theorem ggL_law_X11_rodTold : GoodIn wsL_law wsX11_rodTold := goodIn_r _ [820, 48, 821, 822, 823, 62, 824, 825, 826, 47, 827, 141, 205, 206, 2, 207, 828, 780, 781, 782, 145, 146, 783, 784, 425, 785, 829, 830, 831, 832, 149, 148, 790, 791, 792, 147, 779, 1026, 1027, 1028, 1029, 1030, 1031, 1032, 1033, 1034, 1035, 1036, 1037, 1038, 1039, 1040, 1041, 1134, 1135, 1136, 1137, 1138, 1139, 1140, 1141, 1142, 1143, 1144, 1145, 1146] (by decide +kernel) (by decide +kernel)
set_option maxRecDepth 20000 in
theorem gL_law_X11_rodTold : GoodIn wsL_law (wsV RL 121 RX11 yX11_rodTold wsX11_rodTold) := goodIn_app (goodIn_of _ (by decide +kernel)) ggL_law_X11_rodTold
set_option maxRecDepth 20000 in
theorem ggL_law_X12_rodTold : GoodIn wsL_law wsX12_rodTold := goodIn_r _ [836, 185, 250, 186, 191, 219, 220, 5, 221, 837, 838, 839, 840, 187, 806, 807, 808, 809, 810, 811, 812, 1042, 1043, 1044, 1045, 1046, 1047, 1048, 1049, 1050, 1051, 1052, 1053, 1054, 1055, 1056, 1057, 1058, 1059, 1060, 1061, 1062, 1063, 1064, 1065, 1066, 1067, 1068, 1069, 1070, 1071, 1072, 1073, 1074, 1075, 1076, 1077, 1078, 1079, 1080, 1081, 1082, 1083] (by decide +kernel) (by decide +kernel)
set_option maxRecDepth 20000 in
theorem gL_law_X12_rodTold : GoodIn wsL_law (wsV RL 124 RX12 yX12_rodTold wsX12_rodTold) := goodIn_app (goodIn_of _ (by decide +kernel)) ggL_law_X12_rodTold
set_option maxRecDepth 20000 in
theorem ggL_law_X11_cheated : GoodIn wsL_law wsX11_cheated := goodIn_r _ [844, 260, 48, 845, 846, 546, 501, 2, 502, 205, 206, 207, 1026, 1027, 1028, 1029, 1030, 1031, 1032, 1033, 1034, 1035, 1036, 1037, 1038, 1039, 1040, 1041, 1134, 1135, 1136, 1137, 1138, 1139, 1140, 1141, 1142, 1143, 1144, 1145, 1146] (by decide +kernel) (by decide +kernel)
set_option maxRecDepth 20000 in
theorem gL_law_X11_cheated : GoodIn wsL_law (wsV RL 125 RX11 yX11_cheated wsX11_cheated) := goodIn_app (goodIn_of _ (by decide +kernel)) ggL_law_X11_cheated
set_option maxRecDepth 20000 in
theorem ggL_law_X12_cheated : GoodIn wsL_law wsX12_cheated := goodIn_r _ [850, 517, 274, 188, 189, 219, 220, 5, 221, 1042, 1043, 1044, 1045, 1046, 1047, 1048, 1049, 1050, 1051, 1052, 1053, 1054, 1055, 1056, 1057, 1058, 1059, 1060, 1061, 1062, 1063, 1064, 1065, 1066, 1067, 1068, 1069, 1070, 1071, 1072, 1073, 1074, 1075, 1076, 1077, 1078, 1079, 1080, 1081, 1082, 1083] (by decide +kernel) (by decide +kernel)
set_option maxRecDepth 20000 in
theorem gL_law_X12_cheated : GoodIn wsL_law (wsV RL 128 RX12 yX12_cheated wsX12_cheated) := goodIn_app (goodIn_of _ (by decide +kernel)) ggL_law_X12_cheated
set_option maxRecDepth 20000 in
theorem ggL_law_X11_rounds : GoodIn wsL_law wsX11_rounds := goodIn_r _ [854, 260, 52, 48, 16, 40, 62, 855, 856, 205, 206, 2, 207, 857, 858, 859, 51, 860, 160, 861, 862, 863, 864, 865, 866, 867, 868, 869, 870, 871, 872, 873, 787, 788, 47, 789, 790, 791, 425, 792, 143, 144, 779, 780, 781, 782, 145, 146, 783, 784, 785, 793, 551, 552, 39, 553, 118, 554, 555, 556, 557, 123, 558, 559, 560, 561, 119, 120, 562, 563, 564, 565, 121, 122, 874, 875, 876, 877, 424, 426, 878, 774, 775, 776, 149, 777, 778, 879, 880, 881, 882, 883, 159, 161, 884, 885, 886, 887, 888, 889, 890, 891, 892, 893, 158, 894, 895, 896, 897, 898, 899, 900, 901, 902, 903, 904, 905, 906, 907, 908, 1026, 1027, 1028, 1029, 1030, 1031, 1032, 1033, 1034, 1035, 1036, 1037, 1038, 1039, 1040, 1041, 1147, 1148, 1149, 1150, 1134, 1135, 1136, 1137, 1138, 1139, 1140, 1141, 1142, 1143, 1144, 1145, 1146, 1117, 1118, 1119, 1120, 1121, 1122, 1123, 1124, 1084, 1085, 1086, 1087] (by decide +kernel) (by decide +kernel)
set_option maxRecDepth 20000 in
theorem gL_law_X11_rounds : GoodIn wsL_law (wsV RL 129 RX11 yX11_rounds wsX11_rounds) := goodIn_app (goodIn_of _ (by decide +kernel)) ggL_law_X11_rounds
set_option maxRecDepth 20000 in
theorem ggL_law_X12_rounds : GoodIn wsL_law wsX12_rounds := goodIn_r _ [912, 388, 663, 274, 913, 198, 196, 197, 219, 220, 5, 221, 914, 915, 916, 917, 918, 919, 920, 921, 185, 186, 187, 174, 289, 806, 807, 808, 809, 813, 814, 815, 816, 191, 810, 811, 812, 574, 575, 576, 577, 183, 578, 579, 580, 581, 182, 1042, 1043, 1044, 1045, 1046, 1047, 1048, 1049, 1050, 1051, 1052, 1053, 1054, 1055, 1056, 1057, 1058, 1059, 1060, 1061, 1062, 1063, 1064, 1065, 1066, 1067, 1068, 1069, 1070, 1071, 1072, 1073, 1074, 1075, 1076, 1077, 1078, 1079, 1080, 1081, 1082, 1083] (by decide +kernel) (by decide +kernel)
set_option maxRecDepth 20000 in
theorem gL_law_X12_rounds : GoodIn wsL_law (wsV RL 132 RX12 yX12_rounds wsX12_rounds) := goodIn_app (goodIn_of _ (by decide +kernel)) ggL_law_X12_rounds
set_option maxRecDepth 20000 in
theorem ggL_law_X11_people : GoodIn wsL_law wsX11_people := goodIn_r _ [925, 926, 56, 546, 501, 2, 502, 205, 206, 207, 927, 928, 929, 55, 930, 165, 166, 167, 168, 1026, 1027, 1028, 1029, 1030, 1031, 1032, 1033, 1034, 1035, 1036, 1037, 1038, 1039, 1040, 1041, 1151, 1152, 1153, 1154] (by decide +kernel) (by decide +kernel)
set_option maxRecDepth 20000 in
theorem gL_law_X11_people : GoodIn wsL_law (wsV RL 133 RX11 yX11_people wsX11_people) := goodIn_app (goodIn_of _ (by decide +kernel)) ggL_law_X11_people
set_option maxRecDepth 20000 in
theorem ggL_law_X12_people : GoodIn wsL_law wsX12_people := goodIn_r _ [934, 517, 935, 936, 937, 190, 219, 220, 5, 221, 1042, 1043, 1044, 1045, 1046, 1047, 1048, 1049, 1050, 1051, 1052, 1053, 1054, 1055, 1056, 1057, 1058, 1059, 1060, 1061, 1062, 1063, 1064, 1065, 1066, 1067, 1068, 1069, 1070, 1071, 1072, 1073, 1074, 1075, 1076, 1077, 1078, 1079, 1080, 1081, 1082, 1083] (by decide +kernel) (by decide +kernel)
set_option maxRecDepth 20000 in
theorem gL_law_X12_people : GoodIn wsL_law (wsV RL 136 RX12 yX12_people wsX12_people) := goodIn_app (goodIn_of _ (by decide +kernel)) ggL_law_X12_people
set_option maxRecDepth 20000 in
theorem ggL_law_X11_seasons : GoodIn wsL_law wsX11_seasons := goodIn_r _ [941, 56, 205, 206, 2, 207, 942, 943, 944, 55, 945, 165, 166, 946, 947, 948, 949, 167, 168, 950, 951, 952, 953, 1026, 1027, 1028, 1029, 1030, 1031, 1032, 1033, 1034, 1035, 1036, 1037, 1038, 1039, 1040, 1041, 1151, 1152, 1153, 1154] (by decide +kernel) (by decide +kernel)
set_option maxRecDepth 20000 in
theorem gL_law_X11_seasons : GoodIn wsL_law (wsV RL 137 RX11 yX11_seasons wsX11_seasons) := goodIn_app (goodIn_of _ (by decide +kernel)) ggL_law_X11_seasons
set_option maxRecDepth 20000 in
theorem ggL_law_X12_seasons : GoodIn wsL_law wsX12_seasons := goodIn_r _ [957, 217, 190, 958, 959, 219, 220, 5, 221, 960, 961, 962, 963, 1042, 1043, 1044, 1045, 1046, 1047, 1048, 1049, 1050, 1051, 1052, 1053, 1054, 1055, 1056, 1057, 1058, 1059, 1060, 1061, 1062, 1063, 1064, 1065, 1066, 1067, 1068, 1069, 1070, 1071, 1072, 1073, 1074, 1075, 1076, 1077, 1078, 1079, 1080, 1081, 1082, 1083] (by decide +kernel) (by decide +kernel)
set_option maxRecDepth 20000 in
theorem gL_law_X12_seasons : GoodIn wsL_law (wsV RL 140 RX12 yX12_seasons wsX12_seasons) := goodIn_app (goodIn_of _ (by decide +kernel)) ggL_law_X12_seasons
