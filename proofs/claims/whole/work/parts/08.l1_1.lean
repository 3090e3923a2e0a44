set_option maxRecDepth 20000 in
theorem gL_law_X6_right : GoodIn wsL_law (wsV RL 97 RX6 yX6_right wsX6_right) := goodIn_app (goodIn_of _ (by decide +kernel)) ggL_law_X6_right
set_option maxRecDepth 20000 in
theorem ggL_law_X7_right : GoodIn wsL_law wsX7_right := goodIn_r _ [825, 334, 335, 5, 336, 131, 132, 133, 134, 87, 802, 803, 804, 805, 350, 677, 678, 679, 680, 88, 450, 451, 452, 453, 454, 455, 456, 457, 351, 458, 459, 460, 461, 90, 91, 442, 443, 444, 445, 94, 93, 92, 446, 447, 448, 449, 438, 439, 440, 441, 826, 827, 828, 829, 830, 831, 832, 833, 563, 564, 565, 566, 621, 622, 623, 624, 584, 585, 586, 587, 344, 345, 346, 347, 348, 349, 89, 352, 102, 353, 354, 355, 356, 99, 357, 358, 359, 360, 385, 386, 387, 388, 389, 390, 391, 392, 393, 394, 395, 588, 589, 590, 591, 1166, 1167, 1168, 1169, 1170, 1171, 1172, 1173, 1174, 1175, 1176, 1177, 1178, 1179, 1180, 1181, 1182, 1183, 1184, 1185, 1186, 1187, 1188, 1189, 1190, 1191] (by decide +kernel) (by decide +kernel)
set_option maxRecDepth 20000 in
theorem gL_law_X7_right : GoodIn wsL_law (wsV RL 100 RX7 yX7_right wsX7_right) := goodIn_app (goodIn_of _ (by decide +kernel)) ggL_law_X7_right
set_option maxRecDepth 20000 in
theorem ggL_law_X6_clash : GoodIn wsL_law wsX6_clash := goodIn_r _ [837, 28, 15, 407, 408, 2, 409, 114, 115, 116, 117, 38, 838, 839, 840, 27, 841, 789, 842, 843, 844, 794, 845, 427, 428, 14, 429, 45, 46, 846, 415, 416, 417, 48, 47, 43, 418, 419, 420, 421, 847, 848, 849, 850, 1157, 1158, 1159, 1160, 1161, 1162, 1163, 1164, 1165, 1192, 1193, 1194, 1195, 1196, 1197, 1198, 1199, 1200, 1201] (by decide +kernel) (by decide +kernel)
set_option maxRecDepth 20000 in
theorem gL_law_X6_clash : GoodIn wsL_law (wsV RL 101 RX6 yX6_clash wsX6_clash) := goodIn_app (goodIn_of _ (by decide +kernel)) ggL_law_X6_clash
set_option maxRecDepth 20000 in
theorem ggL_law_X7_clash : GoodIn wsL_law wsX7_clash := goodIn_r _ [854, 351, 334, 335, 5, 336, 131, 132, 133, 134, 87, 855, 856, 857, 858, 350, 442, 443, 444, 445, 94, 93, 92, 90, 88, 446, 447, 448, 449, 91, 458, 459, 460, 461, 1166, 1167, 1168, 1169, 1170, 1171, 1172, 1173, 1174, 1175, 1176, 1177, 1178, 1179, 1180, 1181, 1182, 1183, 1184, 1185, 1186, 1187, 1188, 1189, 1190, 1191] (by decide +kernel) (by decide +kernel)
set_option maxRecDepth 20000 in
theorem gL_law_X7_clash : GoodIn wsL_law (wsV RL 104 RX7 yX7_clash wsX7_clash) := goodIn_app (goodIn_of _ (by decide +kernel)) ggL_law_X7_clash
set_option maxRecDepth 20000 in
theorem ggL_law_X6_agreed : GoodIn wsL_law wsX6_agreed := goodIn_r _ [862, 28, 15, 407, 408, 2, 409, 114, 115, 116, 117, 38, 863, 864, 865, 27, 866, 789, 867, 868, 869, 870, 67, 842, 843, 844, 794, 845, 427, 428, 14, 429, 45, 46, 846, 415, 416, 417, 48, 47, 43, 418, 419, 420, 421, 871, 541, 542, 543, 251, 544, 545, 546, 547, 246, 414, 816, 549, 550, 551, 552, 553, 554, 872, 873, 874, 875, 548, 1157, 1158, 1159, 1160, 1161, 1162, 1163, 1164, 1165, 1192, 1193, 1194, 1195, 1196, 1197, 1198, 1199, 1200, 1201, 1207] (by decide +kernel) (by decide +kernel)
set_option maxRecDepth 20000 in
theorem gL_law_X6_agreed : GoodIn wsL_law (wsV RL 105 RX6 yX6_agreed wsX6_agreed) := goodIn_app (goodIn_of _ (by decide +kernel)) ggL_law_X6_agreed
set_option maxRecDepth 20000 in
theorem ggL_law_X7_agreed : GoodIn wsL_law wsX7_agreed := goodIn_r _ [879, 351, 334, 335, 5, 336, 131, 132, 133, 134, 87, 736, 737, 738, 880, 881, 882, 883, 747, 748, 749, 563, 564, 565, 566, 350, 442, 443, 444, 445, 94, 93, 92, 90, 88, 446, 447, 448, 449, 91, 855, 856, 857, 858, 458, 459, 460, 461, 1166, 1167, 1168, 1169, 1170, 1171, 1172, 1173, 1174, 1175, 1176, 1177, 1178, 1179, 1180, 1181, 1182, 1183, 1184, 1185, 1186, 1187, 1188, 1189, 1190, 1191] (by decide +kernel) (by decide +kernel)
set_option maxRecDepth 20000 in
theorem gL_law_X7_agreed : GoodIn wsL_law (wsV RL 108 RX7 yX7_agreed wsX7_agreed) := goodIn_app (goodIn_of _ (by decide +kernel)) ggL_law_X7_agreed
set_option maxRecDepth 20000 in
theorem ggL_law_X6_hours : GoodIn wsL_law wsX6_hours := goodIn_r _ [887, 28, 15, 407, 408, 2, 409, 114, 115, 116, 117, 38, 888, 889, 890, 27, 891, 794, 789, 846, 415, 416, 14, 417, 48, 47, 45, 43, 418, 419, 420, 421, 46, 892, 486, 487, 488, 426, 427, 428, 429, 893, 634, 635, 636, 246, 637, 411, 412, 413, 251, 414, 1157, 1158, 1159, 1160, 1161, 1162, 1163, 1164, 1165, 1192, 1193, 1194, 1195, 1196, 1197, 1198, 1199, 1200, 1201] (by decide +kernel) (by decide +kernel)
set_option maxRecDepth 20000 in
theorem gL_law_X6_hours : GoodIn wsL_law (wsV RL 109 RX6 yX6_hours wsX6_hours) := goodIn_app (goodIn_of _ (by decide +kernel)) ggL_law_X6_hours
set_option maxRecDepth 20000 in
theorem ggL_law_X7_hours : GoodIn wsL_law wsX7_hours := goodIn_r _ [897, 350, 351, 334, 335, 5, 336, 131, 132, 133, 134, 87, 438, 439, 440, 441, 442, 443, 444, 445, 94, 93, 92, 90, 88, 446, 447, 448, 449, 91, 458, 459, 460, 461, 1166, 1167, 1168, 1169, 1170, 1171, 1172, 1173, 1174, 1175, 1176, 1177, 1178, 1179, 1180, 1181, 1182, 1183, 1184, 1185, 1186, 1187, 1188, 1189, 1190, 1191] (by decide +kernel) (by decide +kernel)
set_option maxRecDepth 20000 in
theorem gL_law_X7_hours : GoodIn wsL_law (wsV RL 112 RX7 yX7_hours wsX7_hours) := goodIn_app (goodIn_of _ (by decide +kernel)) ggL_law_X7_hours
set_option maxRecDepth 20000 in
theorem ggL_law_X6_bedsFor : GoodIn wsL_law wsX6_bedsFor := goodIn_r _ [901, 36, 15, 108, 109, 2, 110, 114, 115, 116, 117, 38, 902, 903, 904, 35, 905, 80, 906, 694, 243, 244, 14, 245, 246, 43, 247, 248, 249, 250, 44, 251, 45, 46, 47, 48, 252, 49, 730, 295, 296, 297, 298, 299, 300, 301, 302, 303, 304, 305, 306, 182, 183, 184, 307, 186, 187, 731, 634, 635, 636, 637, 411, 412, 413, 414, 415, 416, 417, 418, 419, 420, 421, 1157, 1158, 1159, 1160, 1161, 1162, 1163, 1164, 1165, 1209, 1210, 1192, 1193, 1194, 1195, 1196, 1197, 1198, 1199, 1200, 1201] (by decide +kernel) (by decide +kernel)
set_option maxRecDepth 20000 in
theorem gL_law_X6_bedsFor : GoodIn wsL_law (wsV RL 113 RX6 yX6_bedsFor wsX6_bedsFor) := goodIn_app (goodIn_of _ (by decide +kernel)) ggL_law_X6_bedsFor
set_option maxRecDepth 20000 in
theorem ggL_law_X7_bedsFor : GoodIn wsL_law wsX7_bedsFor := goodIn_r _ [910, 102, 128, 129, 5, 130, 131, 132, 133, 134, 87, 750, 751, 752, 753, 584, 585, 586, 587, 344, 345, 346, 347, 348, 349, 88, 89, 90, 91, 92, 93, 350, 351, 352, 353, 354, 355, 356, 99, 357, 358, 359, 360, 381, 382, 383, 384, 385, 386, 387, 388, 389, 390, 391, 392, 393, 394, 395, 754, 755, 756, 757, 438, 439, 440, 441, 442, 443, 444, 445, 94, 446, 447, 448, 449, 588, 589, 590, 591, 1166, 1167, 1168, 1169, 1170, 1171, 1172, 1173, 1174, 1175, 1176, 1177, 1178, 1179, 1180, 1181, 1182, 1183, 1184, 1185, 1186, 1187, 1188, 1189, 1190, 1191] (by decide +kernel) (by decide +kernel)
set_option maxRecDepth 20000 in
theorem gL_law_X7_bedsFor : GoodIn wsL_law (wsV RL 116 RX7 yX7_bedsFor wsX7_bedsFor) := goodIn_app (goodIn_of _ (by decide +kernel)) ggL_law_X7_bedsFor
set_option maxRecDepth 20000 in
theorem ggL_law_X6_next : GoodIn wsL_law wsX6_next := goodIn_r _ [914, 15, 402, 403, 404, 2, 405, 406, 114, 115, 116, 117, 38, 915, 916, 917, 14, 918, 44, 252, 1157, 1158, 1159, 1160, 1161, 1162, 1163, 1164, 1165, 1192, 1193, 1194, 1195, 1196, 1197, 1198, 1199, 1200, 1201] (by decide +kernel) (by decide +kernel)
set_option maxRecDepth 20000 in
theorem gL_law_X6_next : GoodIn wsL_law (wsV RL 117 RX6 yX6_next wsX6_next) := goodIn_app (goodIn_of _ (by decide +kernel)) ggL_law_X6_next
set_option maxRecDepth 20000 in
theorem ggL_law_X7_next : GoodIn wsL_law wsX7_next := goodIn_r _ [922, 89, 352, 434, 435, 436, 5, 437, 350, 131, 132, 133, 134, 87, 1166, 1167, 1168, 1169, 1170, 1171, 1172, 1173, 1174, 1175, 1176, 1177, 1178, 1179, 1180, 1181, 1182, 1183, 1184, 1185, 1186, 1187, 1188, 1189, 1190, 1191] (by decide +kernel) (by decide +kernel)
set_option maxRecDepth 20000 in
theorem gL_law_X7_next : GoodIn wsL_law (wsV RL 120 RX7 yX7_next wsX7_next) := goodIn_app (goodIn_of _ (by decide +kernel)) ggL_law_X7_next
set_option maxRecDepth 20000 in
theorem ggL_law_X6_together : GoodIn wsL_law wsX6_together := goodIn_r _ [926, 15, 927, 928, 929, 14, 930, 246, 252, 931, 932, 933, 934, 44, 1157, 1158, 1159, 1160, 1161, 1162, 1163, 1164, 1165, 1192, 1193, 1194, 1195, 1196, 1197, 1198, 1199, 1200, 1201] (by decide +kernel) (by decide +kernel)
set_option maxRecDepth 20000 in
theorem gL_law_X6_together : GoodIn wsL_law (wsV RL 121 RX6 yX6_together wsX6_together) := goodIn_app (goodIn_of _ (by decide +kernel)) ggL_law_X6_together
set_option maxRecDepth 20000 in
theorem ggL_law_X7_together : GoodIn wsL_law wsX7_together := goodIn_r _ [938, 350, 352, 89, 1166, 1167, 1168, 1169, 1170, 1171, 1172, 1173, 1174, 1175, 1176, 1177, 1178, 1179, 1180, 1181, 1182, 1183, 1184, 1185, 1186, 1187, 1188, 1189, 1190, 1191] (by decide +kernel) (by decide +kernel)
set_option maxRecDepth 20000 in
theorem gL_law_X7_together : GoodIn wsL_law (wsV RL 124 RX7 yX7_together wsX7_together) := goodIn_app (goodIn_of _ (by decide +kernel)) ggL_law_X7_together
set_option maxRecDepth 20000 in
theorem ggL_law_X6_cost : GoodIn wsL_law wsX6_cost := goodIn_r _ [942, 943, 36, 15, 470, 471, 472, 2, 473, 474, 402, 403, 404, 405, 406, 111, 112, 113, 108, 109, 110, 114, 115, 116, 117, 38, 944, 945, 946, 35, 947, 80, 693, 694, 243, 244, 14, 245, 246, 43, 247, 248, 249, 250, 44, 251, 45, 46, 47, 48, 252, 49, 948, 949, 950, 951, 730, 295, 296, 297, 298, 299, 300, 301, 302, 303, 304, 305, 306, 182, 183, 184, 307, 186, 187, 952, 415, 416, 417, 418, 419, 420, 421, 1157, 1158, 1159, 1160, 1161, 1162, 1163, 1164, 1165, 1192, 1193, 1194, 1195, 1196, 1197, 1198, 1199, 1200, 1201, 1209, 1210] (by decide +kernel) (by decide +kernel)
set_option maxRecDepth 20000 in
theorem gL_law_X6_cost : GoodIn wsL_law (wsV RL 125 RX6 yX6_cost wsX6_cost) := goodIn_app (goodIn_of _ (by decide +kernel)) ggL_law_X6_cost
set_option maxRecDepth 20000 in
theorem ggL_law_X7_cost : GoodIn wsL_law wsX7_cost := goodIn_r _ [956, 93, 373, 374, 375, 5, 376, 351, 434, 435, 436, 437, 350, 128, 129, 130, 957, 958, 959, 960, 87, 961, 962, 963, 964, 965, 584, 585, 586, 587, 344, 345, 346, 347, 348, 349, 88, 89, 90, 91, 92, 352, 102, 353, 354, 355, 356, 99, 357, 358, 359, 360, 385, 386, 387, 388, 389, 390, 391, 392, 393, 394, 395, 442, 443, 444, 445, 94, 446, 447, 448, 449, 588, 589, 590, 591, 1166, 1167, 1168, 1169, 1170, 1171, 1172, 1173, 1174, 1175, 1176, 1177, 1178, 1179, 1180, 1181, 1182, 1183, 1184, 1185, 1186, 1187, 1188, 1189, 1190, 1191] (by decide +kernel) (by decide +kernel)
set_option maxRecDepth 20000 in
theorem gL_law_X7_cost : GoodIn wsL_law (wsV RL 128 RX7 yX7_cost wsX7_cost) := goodIn_app (goodIn_of _ (by decide +kernel)) ggL_law_X7_cost
set_option maxRecDepth 20000 in
theorem ggL_law_X6_two : GoodIn wsL_law wsX6_two := goodIn_r _ [969, 36, 15, 470, 471, 472, 2, 473, 474, 111, 112, 113, 108, 109, 110, 114, 115, 116, 117, 38, 970, 971, 972, 35, 973, 80, 81, 708, 694, 243, 244, 14, 245, 246, 43, 247, 248, 249, 250, 44, 251, 45, 46, 47, 48, 252, 49, 974, 527, 528, 529, 695, 657, 658, 659, 660, 295, 296, 297, 298, 299, 300, 301, 302, 303, 304, 305, 306, 182, 183, 184, 307, 186, 187, 661, 597, 598, 599, 637, 411, 412, 413, 414, 415, 416, 417, 418, 419, 420, 421, 662, 423, 424, 425, 426, 427, 428, 429, 1157, 1158, 1159, 1160, 1161, 1162, 1163, 1164, 1165, 1192, 1193, 1194, 1195, 1196, 1197, 1198, 1199, 1200, 1201, 1209, 1210] (by decide +kernel) (by decide +kernel)
set_option maxRecDepth 20000 in
theorem gL_law_X6_two : GoodIn wsL_law (wsV RL 129 RX6 yX6_two wsX6_two) := goodIn_app (goodIn_of _ (by decide +kernel)) ggL_law_X6_two
set_option maxRecDepth 20000 in
theorem ggL_law_X7_two : GoodIn wsL_law wsX7_two := goodIn_r _ [978, 100, 373, 374, 375, 5, 376, 351, 128, 129, 130, 131, 132, 133, 134, 87, 743, 744, 745, 746, 344, 345, 346, 347, 348, 349, 88, 89, 90, 91, 92, 93, 350, 352, 102, 353, 354, 355, 356, 99, 357, 358, 359, 360, 979, 980, 981, 982, 713, 714, 715, 716, 584, 585, 586, 587, 385, 386, 387, 388, 389, 390, 391, 392, 393, 394, 395, 604, 605, 606, 607, 677, 678, 679, 680, 450, 451, 452, 453, 454, 455, 456, 457, 458, 459, 460, 461, 442, 443, 444, 445, 94, 446, 447, 448, 449, 438, 439, 440, 441, 588, 589, 590, 591, 758, 759, 760, 761, 1166, 1167, 1168, 1169, 1170, 1171, 1172, 1173, 1174, 1175, 1176, 1177, 1178, 1179, 1180, 1181, 1182, 1183, 1184, 1185, 1186, 1187, 1188, 1189, 1190, 1191] (by decide +kernel) (by decide +kernel)
set_option maxRecDepth 20000 in
theorem gL_law_X7_two : GoodIn wsL_law (wsV RL 132 RX7 yX7_two wsX7_two) := goodIn_app (goodIn_of _ (by decide +kernel)) ggL_law_X7_two
set_option maxRecDepth 20000 in
theorem ggL_law_X6_fog : GoodIn wsL_law wsX6_fog := goodIn_r _ [986, 987, 32, 15, 402, 403, 404, 2, 405, 406, 111, 112, 113, 407, 408, 409, 114, 115, 116, 117, 38, 988, 989, 990, 31, 991, 73, 575, 243, 244, 14, 245, 246, 43, 247, 248, 249, 250, 44, 251, 45, 46, 47, 48, 252, 49, 668, 411, 412, 413, 414, 415, 416, 417, 418, 419, 420, 421, 992, 993, 576, 295, 296, 297, 298, 299, 300, 301, 302, 303, 304, 305, 306, 182, 183, 184, 307, 186, 187, 994, 995, 996, 997, 998, 999, 1000, 1157, 1158, 1159, 1160, 1161, 1162, 1163, 1164, 1165, 1192, 1193, 1194, 1195, 1196, 1197, 1198, 1199, 1200, 1201, 1208] (by decide +kernel) (by decide +kernel)
set_option maxRecDepth 20000 in
theorem gL_law_X6_fog : GoodIn wsL_law (wsV RL 133 RX6 yX6_fog wsX6_fog) := goodIn_app (goodIn_of _ (by decide +kernel)) ggL_law_X6_fog
set_option maxRecDepth 20000 in
theorem ggL_law_X7_fog : GoodIn wsL_law wsX7_fog := goodIn_r _ [1004, 434, 435, 436, 5, 437, 350, 334, 335, 336, 1005, 1006, 1007, 1008, 87, 1009, 584, 585, 586, 587, 344, 345, 346, 347, 348, 349, 88, 89, 90, 91, 92, 93, 351, 352, 102, 353, 354, 355, 356, 99, 357, 358, 359, 360, 747, 748, 749, 385, 386, 387, 388, 389, 390, 391, 392, 393, 394, 395, 438, 439, 440, 441, 442, 443, 444, 445, 94, 446, 447, 448, 449, 588, 589, 590, 591, 1010, 1011, 1012, 1013, 1014, 1015, 1166, 1167, 1168, 1169, 1170, 1171, 1172, 1173, 1174, 1175, 1176, 1177, 1178, 1179, 1180, 1181, 1182, 1183, 1184, 1185, 1186, 1187, 1188, 1189, 1190, 1191] (by decide +kernel) (by decide +kernel)
set_option maxRecDepth 20000 in
theorem gL_law_X7_fog : GoodIn wsL_law (wsV RL 137 RX7 yX7_fog wsX7_fog) := goodIn_app (goodIn_of _ (by decide +kernel)) ggL_law_X7_fog
set_option maxRecDepth 20000 in
theorem ggL_law_X6_mean : GoodIn wsL_law wsX6_mean := goodIn_r _ [1019, 987, 15, 474, 1020, 182, 183, 184, 407, 408, 2, 409, 114, 115, 116, 117, 38, 1021, 1022, 1023, 14, 1024, 251, 47, 995, 996, 997, 998, 999, 1000, 1157, 1158, 1159, 1160, 1161, 1162, 1163, 1164, 1165, 1192, 1193, 1194, 1195, 1196, 1197, 1198, 1199, 1200, 1201] (by decide +kernel) (by decide +kernel)
set_option maxRecDepth 20000 in
theorem gL_law_X6_mean : GoodIn wsL_law (wsV RL 138 RX6 yX6_mean wsX6_mean) := goodIn_app (goodIn_of _ (by decide +kernel)) ggL_law_X6_mean
set_option maxRecDepth 20000 in
theorem ggL_law_X7_mean : GoodIn wsL_law wsX7_mean := goodIn_r _ [1028, 351, 334, 335, 5, 336, 1005, 1006, 1007, 1008, 87, 1009, 1029, 1030, 1031, 1032, 92, 1010, 1011, 1012, 1013, 1014, 1015, 1166, 1167, 1168, 1169, 1170, 1171, 1172, 1173, 1174, 1175, 1176, 1177, 1178, 1179, 1180, 1181, 1182, 1183, 1184, 1185, 1186, 1187, 1188, 1189, 1190, 1191] (by decide +kernel) (by decide +kernel)
set_option maxRecDepth 20000 in
theorem gL_law_X7_mean : GoodIn wsL_law (wsV RL 142 RX7 yX7_mean wsX7_mean) := goodIn_app (goodIn_of _ (by decide +kernel)) ggL_law_X7_mean
set_option maxRecDepth 20000 in
theorem ggL_law_X6_whatIs : GoodIn wsL_law wsX6_whatIs := goodIn_r _ [1036, 32, 15, 24, 470, 471, 472, 2, 473, 474, 402, 403, 404, 405, 406, 111, 112, 113, 407, 408, 409, 114, 115, 116, 117, 38, 1037, 1038, 1039, 31, 1040, 73, 1041, 1042, 575, 243, 244, 14, 245, 246, 43, 247, 248, 249, 250, 44, 251, 45, 46, 47, 48, 252, 49, 1043, 527, 528, 529, 1044, 1045, 1046, 1047, 771, 415, 416, 417, 418, 419, 420, 421, 1048, 486, 487, 488, 426, 427, 428, 429, 1049, 1050, 1051, 23, 1052, 1053, 62, 576, 295, 296, 297, 298, 299, 300, 301, 302, 303, 304, 305, 306, 182, 183, 184, 307, 186, 187, 1054, 1055, 1056, 1057, 1058, 1157, 1158, 1159, 1160, 1161, 1162, 1163, 1164, 1165, 1192, 1193, 1194, 1195, 1196, 1197, 1198, 1199, 1200, 1201, 1208, 1205, 1206] (by decide +kernel) (by decide +kernel)
set_option maxRecDepth 20000 in
theorem gL_law_X6_whatIs : GoodIn wsL_law (wsV RL 143 RX6 yX6_whatIs wsX6_whatIs) := goodIn_app (goodIn_of _ (by decide +kernel)) ggL_law_X6_whatIs
set_option maxRecDepth 20000 in
theorem ggL_law_X7_whatIs : GoodIn wsL_law wsX7_whatIs := goodIn_r _ [1062, 90, 91, 373, 374, 375, 5, 376, 351, 434, 435, 436, 437, 350, 334, 335, 336, 131, 132, 133, 134, 87, 1063, 1064, 1065, 1066, 1067, 1068, 1069, 1070, 1071, 101, 584, 585, 586, 587, 344, 345, 346, 347, 348, 349, 88, 89, 92, 93, 352, 102, 353, 354, 355, 356, 99, 357, 358, 359, 360, 442, 443, 444, 445, 94, 446, 447, 448, 449, 458, 459, 460, 461, 385, 386, 387, 388, 389, 390, 391, 392, 393, 394, 395, 588, 589, 590, 591, 1166, 1167, 1168, 1169, 1170, 1171, 1172, 1173, 1174, 1175, 1176, 1177, 1178, 1179, 1180, 1181, 1182, 1183, 1184, 1185, 1186, 1187, 1188, 1189, 1190, 1191] (by decide +kernel) (by decide +kernel)
set_option maxRecDepth 20000 in
theorem gL_law_X7_whatIs : GoodIn wsL_law (wsV RL 146 RX7 yX7_whatIs wsX7_whatIs) := goodIn_app (goodIn_of _ (by decide +kernel)) ggL_law_X7_whatIs
set_option maxRecDepth 20000 in
theorem ggL_law_X6_row : GoodIn wsL_law wsX6_row := goodIn_r _ [1075, 24, 1076, 108, 109, 2, 110, 111, 112, 113, 114, 115, 116, 117, 38, 1077, 1078, 1079, 23, 1080, 1053, 62, 1157, 1158, 1159, 1160, 1161, 1162, 1163, 1164, 1165, 1205, 1206] (by decide +kernel) (by decide +kernel)
set_option maxRecDepth 20000 in
theorem gL_law_X6_row : GoodIn wsL_law (wsV RL 147 RX6 yX6_row wsX6_row) := goodIn_app (goodIn_of _ (by decide +kernel)) ggL_law_X6_row
set_option maxRecDepth 20000 in
theorem ggL_law_X7_row : GoodIn wsL_law wsX7_row := goodIn_r _ [1084, 1071, 101, 128, 129, 5, 130, 131, 132, 133, 134, 87, 1166, 1167, 1168, 1169, 1170, 1171, 1172, 1173, 1174, 1175, 1176, 1177, 1178, 1179, 1180, 1181, 1182, 1183, 1184, 1185, 1186, 1187, 1188, 1189, 1190, 1191] (by decide +kernel) (by decide +kernel)
set_option maxRecDepth 20000 in
theorem gL_law_X7_row : GoodIn wsL_law (wsV RL 150 RX7 yX7_row wsX7_row) := goodIn_app (goodIn_of _ (by decide +kernel)) ggL_law_X7_row
set_option maxRecDepth 20000 in
theorem ggL_law_X6_judge : GoodIn wsL_law wsX6_judge := goodIn_r _ [1088, 32, 15, 24, 1089, 1090, 1091, 31, 1092, 73, 1041, 575, 243, 244, 14, 245, 246, 43, 247, 248, 249, 250, 44, 251, 45, 46, 47, 48, 252, 49, 821, 541, 542, 543, 544, 545, 546, 547, 414, 415, 416, 417, 418, 419, 420, 421, 1093, 549, 550, 551, 552, 553, 554, 1049, 1050, 1051, 23, 1052, 1053, 62, 576, 295, 296, 297, 298, 299, 300, 301, 302, 303, 304, 305, 306, 182, 183, 184, 307, 186, 187, 1094, 1095, 1096, 1097, 1157, 1158, 1159, 1160, 1161, 1162, 1163, 1164, 1165, 1208, 1205, 1206, 1192, 1193, 1194, 1195, 1196, 1197, 1198, 1199, 1200, 1201] (by decide +kernel) (by decide +kernel)
set_option maxRecDepth 20000 in
theorem gL_law_X6_judge : GoodIn wsL_law (wsV RL 151 RX6 yX6_judge wsX6_judge) := goodIn_app (goodIn_of _ (by decide +kernel)) ggL_law_X6_judge
set_option maxRecDepth 20000 in
theorem ggL_law_X7_judge : GoodIn wsL_law wsX7_judge := goodIn_r _ [1101, 1071, 101, 584, 585, 586, 5, 587, 344, 345, 346, 347, 348, 349, 88, 89, 90, 91, 92, 93, 350, 351, 352, 102, 353, 354, 355, 356, 99, 357, 358, 359, 360, 559, 560, 561, 562, 563, 564, 565, 566, 442, 443, 444, 445, 94, 446, 447, 448, 449, 385, 386, 387, 388, 389, 390, 391, 392, 393, 394, 395, 588, 589, 590, 591, 1166, 1167, 1168, 1169, 1170, 1171, 1172, 1173, 1174, 1175, 1176, 1177, 1178, 1179, 1180, 1181, 1182, 1183, 1184, 1185, 1186, 1187, 1188, 1189, 1190, 1191] (by decide +kernel) (by decide +kernel)
set_option maxRecDepth 20000 in
theorem gL_law_X7_judge : GoodIn wsL_law (wsV RL 154 RX7 yX7_judge wsX7_judge) := goodIn_app (goodIn_of _ (by decide +kernel)) ggL_law_X7_judge
set_option maxRecDepth 20000 in
theorem ggL_law_X6_clear : GoodIn wsL_law wsX6_clear := goodIn_r _ [1105, 24, 1076, 1094, 1095, 1096, 23, 1097, 1053, 1157, 1158, 1159, 1160, 1161, 1162, 1163, 1164, 1165, 1205, 1206] (by decide +kernel) (by decide +kernel)
set_option maxRecDepth 20000 in
theorem gL_law_X6_clear : GoodIn wsL_law (wsV RL 155 RX6 yX6_clear wsX6_clear) := goodIn_app (goodIn_of _ (by decide +kernel)) ggL_law_X6_clear
set_option maxRecDepth 20000 in
theorem ggL_law_X7_clear : GoodIn wsL_law wsX7_clear := goodIn_r _ [1109, 1071, 1166, 1167, 1168, 1169, 1170, 1171, 1172, 1173, 1174, 1175, 1176, 1177, 1178, 1179, 1180, 1181, 1182, 1183, 1184, 1185, 1186, 1187, 1188, 1189, 1190, 1191] (by decide +kernel) (by decide +kernel)
set_option maxRecDepth 20000 in
theorem gL_law_X7_clear : GoodIn wsL_law (wsV RL 158 RX7 yX7_clear wsX7_clear) := goodIn_app (goodIn_of _ (by decide +kernel)) ggL_law_X7_clear
set_option maxRecDepth 20000 in
theorem ggL_law_X6_lots : GoodIn wsL_law wsX6_lots := goodIn_r _ [1113, 32, 15, 108, 109, 2, 110, 407, 408, 409, 111, 112, 113, 114, 115, 116, 117, 38, 1114, 1115, 1116, 31, 1117, 73, 770, 1118, 1119, 1120, 1121, 575, 243, 244, 14, 245, 246, 43, 247, 248, 249, 250, 44, 251, 45, 46, 47, 48, 252, 49, 576, 295, 296, 297, 298, 299, 300, 301, 302, 303, 304, 305, 306, 182, 183, 184, 307, 186, 187, 821, 541, 542, 543, 544, 545, 546, 547, 414, 415, 416, 417, 418, 419, 420, 421, 1093, 549, 550, 551, 552, 553, 554, 1122, 1022, 1023, 1024, 1157, 1158, 1159, 1160, 1161, 1162, 1163, 1164, 1165, 1208, 1192, 1193, 1194, 1195, 1196, 1197, 1198, 1199, 1200, 1201] (by decide +kernel) (by decide +kernel)
set_option maxRecDepth 20000 in
theorem gL_law_X6_lots : GoodIn wsL_law (wsV RL 159 RX6 yX6_lots wsX6_lots) := goodIn_app (goodIn_of _ (by decide +kernel)) ggL_law_X6_lots
set_option maxRecDepth 20000 in
theorem ggL_law_X7_lots : GoodIn wsL_law wsX7_lots := goodIn_r _ [1126, 351, 1127, 1128, 92, 1129, 128, 129, 5, 130, 334, 335, 336, 131, 132, 133, 134, 87, 584, 585, 586, 587, 344, 345, 346, 347, 348, 349, 88, 89, 90, 91, 93, 350, 352, 102, 353, 354, 355, 356, 99, 357, 358, 359, 360, 381, 382, 383, 384, 385, 386, 387, 388, 389, 390, 391, 392, 393, 394, 395, 559, 560, 561, 562, 563, 564, 565, 566, 442, 443, 444, 445, 94, 446, 447, 448, 449, 1029, 1030, 1031, 1032, 588, 589, 590, 591, 1166, 1167, 1168, 1169, 1170, 1171, 1172, 1173, 1174, 1175, 1176, 1177, 1178, 1179, 1180, 1181, 1182, 1183, 1184, 1185, 1186, 1187, 1188, 1189, 1190, 1191] (by decide +kernel) (by decide +kernel)
set_option maxRecDepth 20000 in
theorem gL_law_X7_lots : GoodIn wsL_law (wsV RL 162 RX7 yX7_lots wsX7_lots) := goodIn_app (goodIn_of _ (by decide +kernel)) ggL_law_X7_lots
set_option maxRecDepth 20000 in
theorem ggL_law_X6_image : GoodIn wsL_law wsX6_image := goodIn_r _ [1133, 16, 15, 1134, 538, 1135, 243, 244, 14, 245, 246, 43, 247, 248, 249, 250, 44, 251, 45, 46, 47, 48, 252, 49, 1157, 1158, 1159, 1160, 1161, 1162, 1163, 1164, 1165, 1192, 1193, 1194, 1195, 1196, 1197, 1198, 1199, 1200, 1201] (by decide +kernel) (by decide +kernel)
set_option maxRecDepth 20000 in
theorem gL_law_X6_image : GoodIn wsL_law (wsV RL 163 RX6 yX6_image wsX6_image) := goodIn_app (goodIn_of _ (by decide +kernel)) ggL_law_X6_image
set_option maxRecDepth 20000 in
theorem ggL_law_X7_image : GoodIn wsL_law wsX7_image := goodIn_r _ [1139, 1140, 352, 344, 345, 346, 5, 347, 348, 349, 88, 89, 90, 91, 92, 93, 350, 351, 102, 353, 354, 355, 356, 99, 357, 358, 359, 360, 1166, 1167, 1168, 1169, 1170, 1171, 1172, 1173, 1174, 1175, 1176, 1177, 1178, 1179, 1180, 1181, 1182, 1183, 1184, 1185, 1186, 1187, 1188, 1189, 1190, 1191] (by decide +kernel) (by decide +kernel)
set_option maxRecDepth 20000 in
theorem gL_law_X7_image : GoodIn wsL_law (wsV RL 166 RX7 yX7_image wsX7_image) := goodIn_app (goodIn_of _ (by decide +kernel)) ggL_law_X7_image
set_option maxRecDepth 20000 in
theorem ggL_law_X6_on : GoodIn wsL_law wsX6_on := goodIn_r _ [1144, 1134, 15, 16, 538, 114, 115, 116, 2, 117, 38, 1135, 243, 244, 14, 245, 246, 43, 247, 248, 249, 250, 44, 251, 45, 46, 47, 48, 252, 49, 1157, 1158, 1159, 1160, 1161, 1162, 1163, 1164, 1165, 1192, 1193, 1194, 1195, 1196, 1197, 1198, 1199, 1200, 1201] (by decide +kernel) (by decide +kernel)
set_option maxRecDepth 20000 in
theorem gL_law_X6_on : GoodIn wsL_law (wsV RL 167 RX6 yX6_on wsX6_on) := goodIn_app (goodIn_of _ (by decide +kernel)) ggL_law_X6_on
set_option maxRecDepth 20000 in
theorem ggL_law_X7_on : GoodIn wsL_law wsX7_on := goodIn_r _ [1148, 1140, 352, 131, 132, 133, 5, 134, 87, 344, 345, 346, 347, 348, 349, 88, 89, 90, 91, 92, 93, 350, 351, 102, 353, 354, 355, 356, 99, 357, 358, 359, 360, 1166, 1167, 1168, 1169, 1170, 1171, 1172, 1173, 1174, 1175, 1176, 1177, 1178, 1179, 1180, 1181, 1182, 1183, 1184, 1185, 1186, 1187, 1188, 1189, 1190, 1191] (by decide +kernel) (by decide +kernel)
set_option maxRecDepth 20000 in
theorem gL_law_X7_on : GoodIn wsL_law (wsV RL 170 RX7 yX7_on wsX7_on) := goodIn_app (goodIn_of _ (by decide +kernel)) ggL_law_X7_on
set_option maxRecDepth 20000 in
theorem ggL_law_X6_count : GoodIn wsL_law wsX6_count := goodIn_r _ [1152, 15, 406, 474, 538, 517, 24, 1076, 20, 107, 38, 540, 541, 542, 14, 543, 251, 544, 545, 546, 547, 246, 414, 415, 416, 417, 48, 47, 45, 43, 418, 419, 420, 421, 46, 548, 549, 550, 551, 552, 553, 554, 1021, 1022, 1023, 1024, 1157, 1158, 1159, 1160, 1161, 1162, 1163, 1164, 1165, 1192, 1193, 1194, 1195, 1196, 1197, 1198, 1199, 1200, 1201, 1205, 1206, 1202, 1203, 1204] (by decide +kernel) (by decide +kernel)
set_option maxRecDepth 20000 in
theorem gL_law_X6_count : GoodIn wsL_law (wsV RL 171 RX6 yX6_count wsX6_count) := goodIn_app (goodIn_of _ (by decide +kernel)) ggL_law_X6_count
set_option maxRecDepth 20000 in
theorem ggL_law_X7_count : GoodIn wsL_law wsX7_count := goodIn_r _ [1156, 87, 350, 351, 352, 102, 1071, 127, 334, 335, 5, 336, 559, 560, 561, 562, 563, 564, 565, 566, 442, 443, 444, 445, 94, 93, 92, 90, 88, 446, 447, 448, 449, 91, 1029, 1030, 1031, 1032, 1166, 1167, 1168, 1169, 1170, 1171, 1172, 1173, 1174, 1175, 1176, 1177, 1178, 1179, 1180, 1181, 1182, 1183, 1184, 1185, 1186, 1187, 1188, 1189, 1190, 1191] (by decide +kernel) (by decide +kernel)
set_option maxRecDepth 20000 in
theorem gL_law_X7_count : GoodIn wsL_law (wsV RL 174 RX7 yX7_count wsX7_count) := goodIn_app (goodIn_of _ (by decide +kernel)) ggL_law_X7_count
