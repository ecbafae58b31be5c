set_option maxRecDepth 20000 in
theorem ggL_law_L_leastToDefine : GoodIn wsL_law wsL_leastToDefine := goodIn_ca (goodIn_r _ [593, 175, 594, 595, 596, 2, 597, 180, 181, 20, 16, 188, 189, 190, 19, 191, 42, 43, 44, 45, 192, 193, 194, 41, 195, 56, 57, 61, 62, 196, 197, 198, 60, 199, 67, 200, 201, 202, 15, 203, 35, 204, 205, 206, 207, 34, 208, 209, 210, 211, 212, 213, 214, 215, 216, 217, 218, 219, 220, 221, 222, 223, 224, 225, 226, 50, 51, 52, 53, 54, 227, 93, 94, 95, 228, 229, 230, 231, 232, 233, 234, 235, 236, 237, 238, 66, 239, 240, 241, 242, 243, 244, 245, 246, 247, 248, 249, 250, 251, 252, 253, 254, 255, 256, 257, 258, 259, 260, 261, 262, 263, 264, 265, 266, 267, 268, 269, 270, 271, 272, 273, 274, 275, 276, 277, 278, 279, 280, 281, 282, 283, 284, 285, 286, 287, 288, 289, 290, 291, 292, 293, 294, 295, 296, 297, 298, 299, 300, 301, 302, 303, 304, 305, 306, 307, 308, 309, 310, 311, 312, 313, 314, 315, 316, 317, 318, 319, 1030, 1031, 1032, 1033, 1034, 1063, 1064, 1065, 1066, 1076, 1077, 1078, 1079, 1080, 1081, 1082, 1083, 1084, 1085, 1086, 1087, 1061, 1062] (by decide +kernel) (by decide +kernel)) (goodIn_sub (fun _ h => List.mem_append_left _ (List.mem_append_left _ (List.mem_append_right _ h))) (by decide +kernel))
set_option maxRecDepth 20000 in
theorem gL_law_L_leastToDefine : GoodIn wsL_law (va_wsS RL 119 yL_leastToDefine wsL_leastToDefine) := goodIn_app (goodIn_of _ (by decide +kernel)) ggL_law_L_leastToDefine
set_option maxRecDepth 20000 in
theorem ggL_law_X11_leastToDefine : GoodIn wsL_law wsX11_leastToDefine := goodIn_r _ [601, 403, 404, 405, 5, 406, 407, 408, 409, 410, 411, 157, 412, 413, 414, 415, 416, 417, 418, 419, 420, 396, 397, 398, 421, 422, 423, 424, 158, 159, 425, 426, 427, 428, 429, 430, 431, 432, 160, 433, 434, 435, 436, 437, 438, 439, 440, 441, 442, 443, 444, 445, 446, 447, 448, 449, 450, 451, 452, 453, 454, 455, 399, 400, 401, 402, 392, 456, 457, 458, 459, 1035, 1036, 1037, 1038, 1039, 1040, 1041, 1042, 1043, 1044, 1045, 1046, 1047, 1048, 1049, 1050, 1051, 1052, 1053, 1054, 1055, 1056, 1057, 1058, 1059, 1060] (by decide +kernel) (by decide +kernel)
set_option maxRecDepth 20000 in
theorem gL_law_X11_leastToDefine : GoodIn wsL_law (wsV RL 122 RX11 yX11_leastToDefine wsX11_leastToDefine) := goodIn_app (goodIn_of _ (by decide +kernel)) ggL_law_X11_leastToDefine
set_option maxRecDepth 20000 in
theorem ggL_law_L_undo : GoodIn wsL_law wsL_undo := goodIn_ca (goodIn_r _ [604, 175, 605, 606, 607, 2, 608, 180, 181, 24, 28, 609, 610, 611, 23, 612, 73, 72, 380, 381, 382, 27, 383, 87, 138, 139, 140, 141, 81, 82, 83, 142, 143, 144, 80, 145, 97, 146, 147, 148, 149, 613, 614, 615, 616, 1030, 1031, 1032, 1033, 1034, 1067, 1068, 1069, 1070, 1071, 1072, 1073, 1074, 1075, 1088, 1089] (by decide +kernel) (by decide +kernel)) (goodIn_sub (fun _ h => List.mem_append_left _ (List.mem_append_left _ (List.mem_append_right _ h))) (by decide +kernel))
set_option maxRecDepth 20000 in
theorem gL_law_L_undo : GoodIn wsL_law (va_wsS RL 123 yL_undo wsL_undo) := goodIn_app (goodIn_of _ (by decide +kernel)) ggL_law_L_undo
set_option maxRecDepth 20000 in
theorem ggL_law_X11_undo : GoodIn wsL_law wsX11_undo := goodIn_r _ [620, 468, 154, 155, 399, 400, 401, 5, 402, 392, 1035, 1036, 1037, 1038, 1039, 1040, 1041, 1042, 1043, 1044, 1045, 1046, 1047, 1048, 1049, 1050, 1051, 1052, 1053, 1054, 1055, 1056, 1057, 1058, 1059, 1060] (by decide +kernel) (by decide +kernel)
set_option maxRecDepth 20000 in
theorem gL_law_X11_undo : GoodIn wsL_law (wsV RL 125 RX11 yX11_undo wsX11_undo) := goodIn_app (goodIn_of _ (by decide +kernel)) ggL_law_X11_undo
set_option maxRecDepth 20000 in
theorem ggL_law_X10_takeSnapshot : GoodIn wsL_law wsX10_takeSnapshot := goodIn_r _ [624, 28, 29, 360, 361, 362, 27, 363, 87, 525, 526, 527, 2, 528, 529, 530, 531, 100, 532, 133, 533, 534, 535, 106, 536, 128, 1030, 1031, 1032, 1033, 1034, 1069, 1070, 1071, 1072, 1073, 1074, 1075, 1090, 1091, 1092, 1093, 1094, 1095] (by decide +kernel) (by decide +kernel)
set_option maxRecDepth 20000 in
theorem gL_law_X10_takeSnapshot : GoodIn wsL_law (wsV RL 126 RX10 yX10_takeSnapshot wsX10_takeSnapshot) := goodIn_app (goodIn_of _ (by decide +kernel)) ggL_law_X10_takeSnapshot
set_option maxRecDepth 20000 in
theorem ggL_law_X11_takeSnapshot : GoodIn wsL_law wsX11_takeSnapshot := goodIn_r _ [628, 629, 156, 154, 579, 580, 581, 5, 582, 392, 1035, 1036, 1037, 1038, 1039, 1040, 1041, 1042, 1043, 1044, 1045, 1046, 1047, 1048, 1049, 1050, 1051, 1052, 1053, 1054, 1055, 1056, 1057, 1058, 1059, 1060] (by decide +kernel) (by decide +kernel)
set_option maxRecDepth 20000 in
theorem gL_law_X11_takeSnapshot : GoodIn wsL_law (wsV RL 129 RX11 yX11_takeSnapshot wsX11_takeSnapshot) := goodIn_app (goodIn_of _ (by decide +kernel)) ggL_law_X11_takeSnapshot
set_option maxRecDepth 20000 in
theorem ggL_law_L_restoreSnapshot : GoodIn wsL_law wsL_restoreSnapshot := goodIn_ca (goodIn_r _ [632, 175, 633, 634, 635, 2, 636, 180, 181, 29, 368, 369, 370, 371, 24, 28, 360, 361, 362, 27, 363, 87, 372, 373, 374, 23, 375, 73, 72, 376, 377, 378, 379, 380, 381, 382, 383, 138, 139, 140, 141, 81, 82, 83, 142, 143, 144, 80, 145, 97, 146, 147, 148, 149, 525, 526, 527, 528, 529, 530, 531, 100, 532, 133, 533, 534, 535, 106, 536, 128, 1030, 1031, 1032, 1033, 1034, 1069, 1070, 1071, 1072, 1073, 1074, 1075, 1067, 1068, 1088, 1089, 1090, 1091, 1092, 1093, 1094, 1095] (by decide +kernel) (by decide +kernel)) (goodIn_sub (fun _ h => List.mem_append_left _ (List.mem_append_left _ (List.mem_append_right _ h))) (by decide +kernel))
set_option maxRecDepth 20000 in
theorem gL_law_L_restoreSnapshot : GoodIn wsL_law (va_wsS RL 130 yL_restoreSnapshot wsL_restoreSnapshot) := goodIn_app (goodIn_of _ (by decide +kernel)) ggL_law_L_restoreSnapshot
set_option maxRecDepth 20000 in
theorem ggL_law_X11_restoreSnapshot : GoodIn wsL_law wsX11_restoreSnapshot := goodIn_r _ [640, 629, 154, 156, 399, 400, 401, 5, 402, 392, 464, 465, 466, 467, 468, 155, 1035, 1036, 1037, 1038, 1039, 1040, 1041, 1042, 1043, 1044, 1045, 1046, 1047, 1048, 1049, 1050, 1051, 1052, 1053, 1054, 1055, 1056, 1057, 1058, 1059, 1060] (by decide +kernel) (by decide +kernel)
set_option maxRecDepth 20000 in
theorem gL_law_X11_restoreSnapshot : GoodIn wsL_law (wsV RL 132 RX11 yX11_restoreSnapshot wsX11_restoreSnapshot) := goodIn_app (goodIn_of _ (by decide +kernel)) ggL_law_X11_restoreSnapshot
set_option maxRecDepth 20000 in
theorem ggL_law_L_nodesOf : GoodIn wsL_law wsL_nodesOf := goodIn_ca (goodIn_r _ [643, 174, 644, 645, 646, 2, 647, 28, 182, 183, 184, 185, 186, 187, 360, 361, 362, 27, 363, 87, 484, 485, 486, 100, 487, 134, 135, 136, 137, 384, 385, 386, 109, 387, 117, 1030, 1031, 1032, 1033, 1034, 1069, 1070, 1071, 1072, 1073, 1074, 1075, 1090, 1091, 1092, 1093, 1094, 1096, 1097, 1098, 1099, 1100, 1101, 1102] (by decide +kernel) (by decide +kernel)) (goodIn_sub (fun _ h => List.mem_append_left _ (List.mem_append_right _ h)) (by decide +kernel))
set_option maxRecDepth 20000 in
theorem gL_law_L_nodesOf : GoodIn wsL_law (va_wsS RL 133 yL_nodesOf wsL_nodesOf) := goodIn_app (goodIn_of _ (by decide +kernel)) ggL_law_L_nodesOf
set_option maxRecDepth 20000 in
theorem ggL_law_X11_nodesOf : GoodIn wsL_law wsX11_nodesOf := goodIn_r _ [651, 393, 394, 5, 395, 396, 397, 398, 399, 400, 401, 402, 392, 500, 501, 502, 503, 154, 1035, 1036, 1037, 1038, 1039, 1040, 1041, 1042, 1043, 1044, 1045, 1046, 1047, 1048, 1049, 1050, 1051, 1052, 1053, 1054, 1055, 1056, 1057, 1058, 1059, 1060] (by decide +kernel) (by decide +kernel)
set_option maxRecDepth 20000 in
theorem gL_law_X11_nodesOf : GoodIn wsL_law (wsV RL 135 RX11 yX11_nodesOf wsX11_nodesOf) := goodIn_app (goodIn_of _ (by decide +kernel)) ggL_law_X11_nodesOf
set_option maxRecDepth 20000 in
theorem ggL_law_L_unlikeNodesOf : GoodIn wsL_law wsL_unlikeNodesOf := goodIn_ca (goodIn_r _ [654, 174, 655, 656, 657, 2, 658, 28, 182, 183, 184, 185, 186, 187, 360, 361, 362, 27, 363, 87, 484, 485, 486, 100, 487, 134, 135, 136, 137, 659, 660, 661, 109, 662, 122, 1030, 1031, 1032, 1033, 1034, 1069, 1070, 1071, 1072, 1073, 1074, 1075, 1090, 1091, 1092, 1093, 1094, 1096, 1097, 1098, 1099, 1100, 1101, 1102] (by decide +kernel) (by decide +kernel)) (goodIn_sub (fun _ h => List.mem_append_left _ (List.mem_append_right _ h)) (by decide +kernel))
set_option maxRecDepth 20000 in
theorem gL_law_L_unlikeNodesOf : GoodIn wsL_law (va_wsS RL 136 yL_unlikeNodesOf wsL_unlikeNodesOf) := goodIn_app (goodIn_of _ (by decide +kernel)) ggL_law_L_unlikeNodesOf
set_option maxRecDepth 20000 in
theorem ggL_law_X11_unlikeNodesOf : GoodIn wsL_law wsX11_unlikeNodesOf := goodIn_r _ [666, 393, 394, 5, 395, 396, 397, 398, 399, 400, 401, 402, 392, 667, 668, 669, 670, 168, 166, 167, 671, 672, 673, 674, 169, 500, 501, 502, 503, 154, 504, 505, 506, 507, 508, 509, 510, 511, 1035, 1036, 1037, 1038, 1039, 1040, 1041, 1042, 1043, 1044, 1045, 1046, 1047, 1048, 1049, 1050, 1051, 1052, 1053, 1054, 1055, 1056, 1057, 1058, 1059, 1060] (by decide +kernel) (by decide +kernel)
set_option maxRecDepth 20000 in
theorem gL_law_X11_unlikeNodesOf : GoodIn wsL_law (wsV RL 138 RX11 yX11_unlikeNodesOf wsX11_unlikeNodesOf) := goodIn_app (goodIn_of _ (by decide +kernel)) ggL_law_X11_unlikeNodesOf
set_option maxRecDepth 20000 in
theorem ggL_law_L_depthOf : GoodIn wsL_law wsL_depthOf := goodIn_ca (goodIn_r _ [677, 174, 678, 679, 680, 2, 681, 28, 182, 183, 184, 185, 186, 187, 360, 361, 362, 27, 363, 87, 484, 485, 486, 100, 487, 134, 135, 136, 137, 682, 683, 684, 109, 685, 121, 1030, 1031, 1032, 1033, 1034, 1069, 1070, 1071, 1072, 1073, 1074, 1075, 1090, 1091, 1092, 1093, 1094, 1096, 1097, 1098, 1099, 1100, 1101, 1102] (by decide +kernel) (by decide +kernel)) (goodIn_sub (fun _ h => List.mem_append_left _ (List.mem_append_right _ h)) (by decide +kernel))
set_option maxRecDepth 20000 in
theorem gL_law_L_depthOf : GoodIn wsL_law (va_wsS RL 139 yL_depthOf wsL_depthOf) := goodIn_app (goodIn_of _ (by decide +kernel)) ggL_law_L_depthOf
set_option maxRecDepth 20000 in
theorem ggL_law_X11_depthOf : GoodIn wsL_law wsX11_depthOf := goodIn_r _ [689, 393, 394, 5, 395, 396, 397, 398, 399, 400, 401, 402, 392, 690, 691, 692, 693, 166, 168, 167, 671, 672, 673, 674, 169, 500, 501, 502, 503, 154, 504, 505, 506, 507, 1035, 1036, 1037, 1038, 1039, 1040, 1041, 1042, 1043, 1044, 1045, 1046, 1047, 1048, 1049, 1050, 1051, 1052, 1053, 1054, 1055, 1056, 1057, 1058, 1059, 1060] (by decide +kernel) (by decide +kernel)
set_option maxRecDepth 20000 in
theorem gL_law_X11_depthOf : GoodIn wsL_law (wsV RL 141 RX11 yX11_depthOf wsX11_depthOf) := goodIn_app (goodIn_of _ (by decide +kernel)) ggL_law_X11_depthOf
set_option maxRecDepth 20000 in
theorem ggL_law_X10_modulus : GoodIn wsL_law wsX10_modulus := goodIn_r _ [697, 525, 526, 527, 2, 528, 28, 360, 361, 362, 27, 363, 87, 529, 530, 531, 100, 532, 133, 533, 534, 535, 106, 536, 128, 1030, 1031, 1032, 1033, 1034, 1069, 1070, 1071, 1072, 1073, 1074, 1075, 1090, 1091, 1092, 1093, 1094, 1095] (by decide +kernel) (by decide +kernel)
set_option maxRecDepth 20000 in
theorem gL_law_X10_modulus : GoodIn wsL_law (wsV RL 142 RX10 yX10_modulus wsX10_modulus) := goodIn_app (goodIn_of _ (by decide +kernel)) ggL_law_X10_modulus
