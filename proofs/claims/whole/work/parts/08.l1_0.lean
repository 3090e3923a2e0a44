set_option maxRecDepth 20000 in
theorem ggL_law_X6_init : GoodIn wsL_law wsX6_init := goodIn_r _ [8, 9, 10, 11, 12, 13, 14, 15, 16, 17, 18, 19, 20, 21, 22, 23, 24, 25, 26, 27, 28, 29, 30, 31, 32, 33, 34, 35, 36, 37, 38, 39, 40, 41, 42, 43, 44, 45, 46, 47, 48, 49, 50, 51, 52, 53, 54, 55, 56, 57, 58, 59, 60, 61, 62, 63, 64, 65, 66, 67, 68, 69, 70, 71, 72, 73, 74, 75, 76, 77, 78, 79, 80, 81, 82, 1192, 1193, 1194, 1195, 1196, 1197, 1198, 1199, 1200, 1201, 1157, 1158, 1159, 1160, 1161, 1162, 1163, 1164, 1165, 1202, 1203, 1204, 1205, 1206, 1207, 1208, 1209, 1210] (by decide +kernel) (by decide +kernel)
set_option maxRecDepth 20000 in
theorem gL_law_X6_init : GoodIn wsL_law (wsX6_init) := ggL_law_X6_init
set_option maxRecDepth 20000 in
theorem ggL_law_X7_init : GoodIn wsL_law wsX7_init := goodIn_r _ [85, 86, 10, 11, 37, 87, 88, 89, 90, 91, 92, 93, 94, 95, 96, 97, 98, 99, 100, 101, 102, 1166, 1167, 1168, 1169, 1170, 1171, 1172, 1173, 1174, 1175, 1176, 1177, 1178, 1179, 1180, 1181, 1182, 1183, 1184, 1185, 1186, 1187, 1188, 1189, 1190, 1191] (by decide +kernel) (by decide +kernel)
set_option maxRecDepth 20000 in
theorem gL_law_X7_init : GoodIn wsL_law (wsX7_init) := ggL_law_X7_init
set_option maxRecDepth 20000 in
theorem ggL_law_X6_letter : GoodIn wsL_law wsX6_letter := goodIn_r _ [106, 20, 107, 108, 109, 2, 110, 111, 112, 113, 114, 115, 116, 117, 38, 118, 119, 120, 19, 121, 122, 54, 1157, 1158, 1159, 1160, 1161, 1162, 1163, 1164, 1165, 1202, 1203, 1204] (by decide +kernel) (by decide +kernel)
set_option maxRecDepth 20000 in
theorem gL_law_X6_letter : GoodIn wsL_law (wsV RL 13 RX6 yX6_letter wsX6_letter) := goodIn_app (goodIn_of _ (by decide +kernel)) ggL_law_X6_letter
set_option maxRecDepth 20000 in
theorem ggL_law_X7_letter : GoodIn wsL_law wsX7_letter := goodIn_r _ [126, 127, 95, 128, 129, 5, 130, 131, 132, 133, 134, 87, 1166, 1167, 1168, 1169, 1170, 1171, 1172, 1173, 1174, 1175, 1176, 1177, 1178, 1179, 1180, 1181, 1182, 1183, 1184, 1185, 1186, 1187, 1188, 1189, 1190, 1191] (by decide +kernel) (by decide +kernel)
set_option maxRecDepth 20000 in
theorem gL_law_X7_letter : GoodIn wsL_law (wsV RL 17 RX7 yX7_letter wsX7_letter) := goodIn_app (goodIn_of _ (by decide +kernel)) ggL_law_X7_letter
set_option maxRecDepth 20000 in
theorem ggL_law_X6_town : GoodIn wsL_law wsX6_town := goodIn_r _ [138, 20, 15, 139, 140, 141, 19, 142, 56, 122, 54, 143, 144, 145, 146, 147, 148, 149, 150, 151, 152, 153, 154, 155, 156, 157, 158, 159, 160, 161, 162, 163, 164, 165, 166, 167, 168, 169, 170, 171, 172, 173, 174, 175, 176, 177, 178, 179, 180, 181, 182, 183, 184, 185, 186, 187, 188, 189, 190, 191, 192, 193, 194, 195, 196, 197, 198, 199, 200, 201, 202, 203, 204, 205, 206, 207, 208, 209, 210, 211, 212, 213, 214, 215, 216, 217, 218, 219, 220, 221, 222, 223, 224, 225, 226, 227, 228, 229, 230, 231, 232, 233, 234, 235, 236, 237, 238, 239, 240, 241, 242, 243, 244, 14, 245, 246, 43, 247, 248, 249, 250, 44, 251, 45, 46, 47, 48, 252, 49, 253, 254, 255, 256, 257, 258, 259, 260, 261, 262, 263, 264, 265, 266, 267, 268, 269, 270, 271, 272, 273, 274, 275, 276, 277, 278, 279, 280, 281, 282, 283, 284, 285, 286, 287, 288, 289, 290, 291, 292, 293, 294, 295, 296, 297, 298, 299, 300, 301, 302, 303, 304, 305, 306, 307, 308, 309, 310, 311, 1157, 1158, 1159, 1160, 1161, 1162, 1163, 1164, 1165, 1202, 1203, 1204, 1192, 1193, 1194, 1195, 1196, 1197, 1198, 1199, 1200, 1201] (by decide +kernel) (by decide +kernel)
set_option maxRecDepth 20000 in
theorem gL_law_X6_town : GoodIn wsL_law (wsV RL 18 RX6 yX6_town wsX6_town) := goodIn_app (goodIn_of _ (by decide +kernel)) ggL_law_X6_town
set_option maxRecDepth 20000 in
theorem ggL_law_X7_town : GoodIn wsL_law wsX7_town := goodIn_r _ [315, 316, 317, 127, 97, 318, 319, 320, 5, 321, 96, 322, 323, 324, 325, 95, 326, 327, 328, 329, 330, 331, 332, 333, 98, 334, 335, 336, 337, 338, 339, 340, 341, 342, 343, 344, 345, 346, 347, 348, 349, 88, 89, 90, 91, 92, 93, 350, 351, 352, 102, 353, 354, 355, 356, 99, 357, 358, 359, 360, 361, 362, 363, 364, 365, 366, 367, 368, 369, 370, 371, 372, 373, 374, 375, 376, 377, 378, 379, 380, 381, 382, 383, 384, 385, 386, 387, 388, 389, 390, 391, 392, 393, 394, 395, 1166, 1167, 1168, 1169, 1170, 1171, 1172, 1173, 1174, 1175, 1176, 1177, 1178, 1179, 1180, 1181, 1182, 1183, 1184, 1185, 1186, 1187, 1188, 1189, 1190, 1191] (by decide +kernel) (by decide +kernel)
set_option maxRecDepth 20000 in
theorem gL_law_X7_town : GoodIn wsL_law (wsV RL 22 RX7 yX7_town wsX7_town) := goodIn_app (goodIn_of _ (by decide +kernel)) ggL_law_X7_town
set_option maxRecDepth 20000 in
theorem ggL_law_X6_bell : GoodIn wsL_law wsX6_bell := goodIn_r _ [399, 15, 400, 401, 402, 403, 404, 2, 405, 406, 407, 408, 409, 111, 112, 113, 114, 115, 116, 117, 38, 410, 411, 412, 14, 413, 251, 414, 415, 416, 417, 48, 47, 45, 43, 418, 419, 420, 421, 46, 422, 423, 424, 425, 426, 427, 428, 429, 1157, 1158, 1159, 1160, 1161, 1162, 1163, 1164, 1165, 1192, 1193, 1194, 1195, 1196, 1197, 1198, 1199, 1200, 1201] (by decide +kernel) (by decide +kernel)
set_option maxRecDepth 20000 in
theorem gL_law_X6_bell : GoodIn wsL_law (wsV RL 23 RX6 yX6_bell wsX6_bell) := goodIn_app (goodIn_of _ (by decide +kernel)) ggL_law_X6_bell
set_option maxRecDepth 20000 in
theorem ggL_law_X7_bell : GoodIn wsL_law wsX7_bell := goodIn_r _ [433, 88, 89, 434, 435, 436, 5, 437, 350, 131, 132, 133, 134, 87, 438, 439, 440, 441, 351, 442, 443, 444, 445, 94, 93, 92, 90, 446, 447, 448, 449, 91, 450, 451, 452, 453, 454, 455, 456, 457, 458, 459, 460, 461, 1166, 1167, 1168, 1169, 1170, 1171, 1172, 1173, 1174, 1175, 1176, 1177, 1178, 1179, 1180, 1181, 1182, 1183, 1184, 1185, 1186, 1187, 1188, 1189, 1190, 1191] (by decide +kernel) (by decide +kernel)
set_option maxRecDepth 20000 in
theorem gL_law_X7_bell : GoodIn wsL_law (wsV RL 27 RX7 yX7_bell wsX7_bell) := goodIn_app (goodIn_of _ (by decide +kernel)) ggL_law_X7_bell
set_option maxRecDepth 20000 in
theorem ggL_law_X6_person : GoodIn wsL_law wsX6_person := goodIn_r _ [465, 15, 466, 467, 468, 469, 470, 471, 472, 2, 473, 474, 407, 408, 409, 111, 112, 113, 114, 115, 116, 117, 38, 475, 419, 420, 14, 421, 45, 46, 1157, 1158, 1159, 1160, 1161, 1162, 1163, 1164, 1165, 1192, 1193, 1194, 1195, 1196, 1197, 1198, 1199, 1200, 1201] (by decide +kernel) (by decide +kernel)
set_option maxRecDepth 20000 in
theorem gL_law_X6_person : GoodIn wsL_law (wsV RL 28 RX6 yX6_person wsX6_person) := goodIn_app (goodIn_of _ (by decide +kernel)) ggL_law_X6_person
set_option maxRecDepth 20000 in
theorem ggL_law_X7_person : GoodIn wsL_law wsX7_person := goodIn_r _ [479, 90, 91, 92, 93, 373, 374, 375, 5, 376, 351, 131, 132, 133, 134, 87, 446, 447, 448, 449, 1166, 1167, 1168, 1169, 1170, 1171, 1172, 1173, 1174, 1175, 1176, 1177, 1178, 1179, 1180, 1181, 1182, 1183, 1184, 1185, 1186, 1187, 1188, 1189, 1190, 1191] (by decide +kernel) (by decide +kernel)
set_option maxRecDepth 20000 in
theorem gL_law_X7_person : GoodIn wsL_law (wsV RL 31 RX7 yX7_person wsX7_person) := goodIn_app (goodIn_of _ (by decide +kernel)) ggL_law_X7_person
set_option maxRecDepth 20000 in
theorem ggL_law_X6_says : GoodIn wsL_law wsX6_says := goodIn_r _ [483, 15, 470, 471, 472, 2, 473, 474, 402, 403, 404, 405, 406, 111, 112, 113, 114, 115, 116, 117, 38, 484, 415, 416, 14, 417, 48, 47, 45, 43, 418, 419, 420, 421, 46, 485, 486, 487, 488, 426, 427, 428, 429, 1157, 1158, 1159, 1160, 1161, 1162, 1163, 1164, 1165, 1192, 1193, 1194, 1195, 1196, 1197, 1198, 1199, 1200, 1201] (by decide +kernel) (by decide +kernel)
set_option maxRecDepth 20000 in
theorem gL_law_X6_says : GoodIn wsL_law (wsV RL 32 RX6 yX6_says wsX6_says) := goodIn_app (goodIn_of _ (by decide +kernel)) ggL_law_X6_says
set_option maxRecDepth 20000 in
theorem ggL_law_X7_says : GoodIn wsL_law wsX7_says := goodIn_r _ [492, 373, 374, 375, 5, 376, 351, 434, 435, 436, 437, 350, 458, 459, 460, 461, 90, 88, 91, 442, 443, 444, 445, 94, 93, 92, 446, 447, 448, 449, 131, 132, 133, 134, 87, 1166, 1167, 1168, 1169, 1170, 1171, 1172, 1173, 1174, 1175, 1176, 1177, 1178, 1179, 1180, 1181, 1182, 1183, 1184, 1185, 1186, 1187, 1188, 1189, 1190, 1191] (by decide +kernel) (by decide +kernel)
set_option maxRecDepth 20000 in
theorem gL_law_X7_says : GoodIn wsL_law (wsV RL 35 RX7 yX7_says wsX7_says) := goodIn_app (goodIn_of _ (by decide +kernel)) ggL_law_X7_says
set_option maxRecDepth 20000 in
theorem ggL_law_X6_goes : GoodIn wsL_law wsX6_goes := goodIn_r _ [496, 15, 469, 470, 471, 472, 2, 473, 474, 108, 109, 110, 111, 112, 113, 114, 115, 116, 117, 38, 1157, 1158, 1159, 1160, 1161, 1162, 1163, 1164, 1165, 1192, 1193, 1194, 1195, 1196, 1197, 1198, 1199, 1200, 1201] (by decide +kernel) (by decide +kernel)
set_option maxRecDepth 20000 in
theorem gL_law_X6_goes : GoodIn wsL_law (wsV RL 36 RX6 yX6_goes wsX6_goes) := goodIn_app (goodIn_of _ (by decide +kernel)) ggL_law_X6_goes
set_option maxRecDepth 20000 in
theorem ggL_law_X7_goes : GoodIn wsL_law wsX7_goes := goodIn_r _ [500, 93, 501, 502, 503, 5, 504, 373, 374, 375, 376, 351, 128, 129, 130, 131, 132, 133, 134, 87, 1166, 1167, 1168, 1169, 1170, 1171, 1172, 1173, 1174, 1175, 1176, 1177, 1178, 1179, 1180, 1181, 1182, 1183, 1184, 1185, 1186, 1187, 1188, 1189, 1190, 1191] (by decide +kernel) (by decide +kernel)
set_option maxRecDepth 20000 in
theorem gL_law_X7_goes : GoodIn wsL_law (wsV RL 39 RX7 yX7_goes wsX7_goes) := goodIn_app (goodIn_of _ (by decide +kernel)) ggL_law_X7_goes
set_option maxRecDepth 20000 in
theorem ggL_law_X6_sleeps : GoodIn wsL_law wsX6_sleeps := goodIn_r _ [508, 15, 468, 470, 471, 472, 2, 473, 474, 108, 109, 110, 111, 112, 113, 114, 115, 116, 117, 38, 1157, 1158, 1159, 1160, 1161, 1162, 1163, 1164, 1165, 1192, 1193, 1194, 1195, 1196, 1197, 1198, 1199, 1200, 1201] (by decide +kernel) (by decide +kernel)
set_option maxRecDepth 20000 in
theorem gL_law_X6_sleeps : GoodIn wsL_law (wsV RL 40 RX6 yX6_sleeps wsX6_sleeps) := goodIn_app (goodIn_of _ (by decide +kernel)) ggL_law_X6_sleeps
set_option maxRecDepth 20000 in
theorem ggL_law_X7_sleeps : GoodIn wsL_law wsX7_sleeps := goodIn_r _ [512, 92, 501, 502, 503, 5, 504, 373, 374, 375, 376, 351, 128, 129, 130, 131, 132, 133, 134, 87, 1166, 1167, 1168, 1169, 1170, 1171, 1172, 1173, 1174, 1175, 1176, 1177, 1178, 1179, 1180, 1181, 1182, 1183, 1184, 1185, 1186, 1187, 1188, 1189, 1190, 1191] (by decide +kernel) (by decide +kernel)
set_option maxRecDepth 20000 in
theorem gL_law_X7_sleeps : GoodIn wsL_law (wsV RL 43 RX7 yX7_sleeps wsX7_sleeps) := goodIn_app (goodIn_of _ (by decide +kernel)) ggL_law_X7_sleeps
set_option maxRecDepth 20000 in
theorem ggL_law_X6_beds : GoodIn wsL_law wsX6_beds := goodIn_r _ [516, 15, 517, 108, 109, 2, 110, 114, 115, 116, 117, 38, 1157, 1158, 1159, 1160, 1161, 1162, 1163, 1164, 1165, 1192, 1193, 1194, 1195, 1196, 1197, 1198, 1199, 1200, 1201] (by decide +kernel) (by decide +kernel)
set_option maxRecDepth 20000 in
theorem gL_law_X6_beds : GoodIn wsL_law (wsV RL 44 RX6 yX6_beds wsX6_beds) := goodIn_app (goodIn_of _ (by decide +kernel)) ggL_law_X6_beds
set_option maxRecDepth 20000 in
theorem ggL_law_X7_beds : GoodIn wsL_law wsX7_beds := goodIn_r _ [521, 102, 128, 129, 5, 130, 131, 132, 133, 134, 87, 1166, 1167, 1168, 1169, 1170, 1171, 1172, 1173, 1174, 1175, 1176, 1177, 1178, 1179, 1180, 1181, 1182, 1183, 1184, 1185, 1186, 1187, 1188, 1189, 1190, 1191] (by decide +kernel) (by decide +kernel)
set_option maxRecDepth 20000 in
theorem gL_law_X7_beds : GoodIn wsL_law (wsV RL 47 RX7 yX7_beds wsX7_beds) := goodIn_app (goodIn_of _ (by decide +kernel)) ggL_law_X7_beds
set_option maxRecDepth 20000 in
theorem ggL_law_X6_turn : GoodIn wsL_law wsX6_turn := goodIn_r _ [525, 15, 466, 467, 470, 471, 472, 2, 473, 474, 407, 408, 409, 111, 112, 113, 108, 109, 110, 114, 115, 116, 117, 38, 526, 527, 528, 14, 529, 45, 46, 1157, 1158, 1159, 1160, 1161, 1162, 1163, 1164, 1165, 1192, 1193, 1194, 1195, 1196, 1197, 1198, 1199, 1200, 1201] (by decide +kernel) (by decide +kernel)
set_option maxRecDepth 20000 in
theorem gL_law_X6_turn : GoodIn wsL_law (wsV RL 48 RX6 yX6_turn wsX6_turn) := goodIn_app (goodIn_of _ (by decide +kernel)) ggL_law_X6_turn
set_option maxRecDepth 20000 in
theorem ggL_law_X7_turn : GoodIn wsL_law wsX7_turn := goodIn_r _ [533, 90, 91, 373, 374, 375, 5, 376, 351, 334, 335, 336, 128, 129, 130, 131, 132, 133, 134, 87, 1166, 1167, 1168, 1169, 1170, 1171, 1172, 1173, 1174, 1175, 1176, 1177, 1178, 1179, 1180, 1181, 1182, 1183, 1184, 1185, 1186, 1187, 1188, 1189, 1190, 1191] (by decide +kernel) (by decide +kernel)
set_option maxRecDepth 20000 in
theorem gL_law_X7_turn : GoodIn wsL_law (wsV RL 52 RX7 yX7_turn wsX7_turn) := goodIn_app (goodIn_of _ (by decide +kernel)) ggL_law_X7_turn
set_option maxRecDepth 20000 in
theorem ggL_law_X6_days : GoodIn wsL_law wsX6_days := goodIn_r _ [537, 15, 538, 108, 109, 2, 110, 111, 112, 113, 114, 115, 116, 117, 38, 539, 295, 296, 14, 297, 298, 299, 300, 301, 251, 48, 302, 303, 304, 305, 252, 49, 47, 306, 182, 183, 184, 307, 186, 187, 540, 541, 542, 543, 544, 545, 546, 547, 246, 414, 415, 416, 417, 45, 43, 418, 419, 420, 421, 46, 548, 549, 550, 551, 552, 553, 554, 1157, 1158, 1159, 1160, 1161, 1162, 1163, 1164, 1165, 1192, 1193, 1194, 1195, 1196, 1197, 1198, 1199, 1200, 1201] (by decide +kernel) (by decide +kernel)
set_option maxRecDepth 20000 in
theorem gL_law_X6_days : GoodIn wsL_law (wsV RL 53 RX6 yX6_days wsX6_days) := goodIn_app (goodIn_of _ (by decide +kernel)) ggL_law_X6_days
set_option maxRecDepth 20000 in
theorem ggL_law_X7_days : GoodIn wsL_law wsX7_days := goodIn_r _ [558, 352, 128, 129, 5, 130, 131, 132, 133, 134, 87, 381, 382, 383, 384, 385, 386, 387, 388, 351, 93, 389, 390, 391, 392, 92, 102, 393, 394, 395, 559, 560, 561, 562, 563, 564, 565, 566, 350, 442, 443, 444, 445, 94, 90, 88, 446, 447, 448, 449, 91, 1166, 1167, 1168, 1169, 1170, 1171, 1172, 1173, 1174, 1175, 1176, 1177, 1178, 1179, 1180, 1181, 1182, 1183, 1184, 1185, 1186, 1187, 1188, 1189, 1190, 1191] (by decide +kernel) (by decide +kernel)
set_option maxRecDepth 20000 in
theorem gL_law_X7_days : GoodIn wsL_law (wsV RL 56 RX7 yX7_days wsX7_days) := goodIn_app (goodIn_of _ (by decide +kernel)) ggL_law_X7_days
set_option maxRecDepth 20000 in
theorem ggL_law_X6_personThen : GoodIn wsL_law wsX6_personThen := goodIn_r _ [570, 32, 15, 468, 469, 470, 471, 472, 2, 473, 474, 108, 109, 110, 111, 112, 113, 407, 408, 409, 114, 115, 116, 117, 38, 571, 572, 573, 31, 574, 73, 575, 243, 244, 14, 245, 246, 43, 247, 248, 249, 250, 44, 251, 45, 46, 47, 48, 252, 49, 576, 295, 296, 297, 298, 299, 300, 301, 302, 303, 304, 305, 306, 182, 183, 184, 307, 186, 187, 1157, 1158, 1159, 1160, 1161, 1162, 1163, 1164, 1165, 1192, 1193, 1194, 1195, 1196, 1197, 1198, 1199, 1200, 1201, 1208] (by decide +kernel) (by decide +kernel)
set_option maxRecDepth 20000 in
theorem gL_law_X6_personThen : GoodIn wsL_law (wsV RL 57 RX6 yX6_personThen wsX6_personThen) := goodIn_app (goodIn_of _ (by decide +kernel)) ggL_law_X6_personThen
set_option maxRecDepth 20000 in
theorem ggL_law_X7_personThen : GoodIn wsL_law wsX7_personThen := goodIn_r _ [580, 92, 93, 373, 374, 375, 5, 376, 351, 581, 582, 583, 128, 129, 130, 334, 335, 336, 131, 132, 133, 134, 87, 584, 585, 586, 587, 344, 345, 346, 347, 348, 349, 88, 89, 90, 91, 350, 352, 102, 353, 354, 355, 356, 99, 357, 358, 359, 360, 381, 382, 383, 384, 385, 386, 387, 388, 389, 390, 391, 392, 393, 394, 395, 588, 589, 590, 591, 1166, 1167, 1168, 1169, 1170, 1171, 1172, 1173, 1174, 1175, 1176, 1177, 1178, 1179, 1180, 1181, 1182, 1183, 1184, 1185, 1186, 1187, 1188, 1189, 1190, 1191] (by decide +kernel) (by decide +kernel)
set_option maxRecDepth 20000 in
theorem gL_law_X7_personThen : GoodIn wsL_law (wsV RL 60 RX7 yX7_personThen wsX7_personThen) := goodIn_app (goodIn_of _ (by decide +kernel)) ggL_law_X7_personThen
set_option maxRecDepth 20000 in
theorem ggL_law_X6_bellThen : GoodIn wsL_law wsX6_bellThen := goodIn_r _ [595, 32, 15, 402, 403, 404, 2, 405, 406, 108, 109, 110, 111, 112, 113, 407, 408, 409, 114, 115, 116, 117, 38, 571, 572, 573, 31, 574, 73, 575, 243, 244, 14, 245, 246, 43, 247, 248, 249, 250, 44, 251, 45, 46, 47, 48, 252, 49, 576, 295, 296, 297, 298, 299, 300, 301, 302, 303, 304, 305, 306, 182, 183, 184, 307, 186, 187, 410, 411, 412, 413, 414, 415, 416, 417, 418, 419, 420, 421, 596, 597, 598, 599, 422, 423, 424, 425, 426, 427, 428, 429, 1157, 1158, 1159, 1160, 1161, 1162, 1163, 1164, 1165, 1192, 1193, 1194, 1195, 1196, 1197, 1198, 1199, 1200, 1201, 1208] (by decide +kernel) (by decide +kernel)
set_option maxRecDepth 20000 in
theorem gL_law_X6_bellThen : GoodIn wsL_law (wsV RL 61 RX6 yX6_bellThen wsX6_bellThen) := goodIn_app (goodIn_of _ (by decide +kernel)) ggL_law_X6_bellThen
set_option maxRecDepth 20000 in
theorem ggL_law_X7_bellThen : GoodIn wsL_law wsX7_bellThen := goodIn_r _ [603, 434, 435, 436, 5, 437, 350, 581, 582, 583, 128, 129, 130, 334, 335, 336, 131, 132, 133, 134, 87, 584, 585, 586, 587, 344, 345, 346, 347, 348, 349, 88, 89, 90, 91, 92, 93, 351, 352, 102, 353, 354, 355, 356, 99, 357, 358, 359, 360, 381, 382, 383, 384, 385, 386, 387, 388, 389, 390, 391, 392, 393, 394, 395, 438, 439, 440, 441, 442, 443, 444, 445, 94, 446, 447, 448, 449, 604, 605, 606, 607, 450, 451, 452, 453, 454, 455, 456, 457, 458, 459, 460, 461, 588, 589, 590, 591, 1166, 1167, 1168, 1169, 1170, 1171, 1172, 1173, 1174, 1175, 1176, 1177, 1178, 1179, 1180, 1181, 1182, 1183, 1184, 1185, 1186, 1187, 1188, 1189, 1190, 1191] (by decide +kernel) (by decide +kernel)
set_option maxRecDepth 20000 in
theorem gL_law_X7_bellThen : GoodIn wsL_law (wsV RL 64 RX7 yX7_bellThen wsX7_bellThen) := goodIn_app (goodIn_of _ (by decide +kernel)) ggL_law_X7_bellThen
set_option maxRecDepth 20000 in
theorem ggL_law_X6_deaf : GoodIn wsL_law wsX6_deaf := goodIn_r _ [611, 32, 15, 470, 471, 472, 2, 473, 474, 114, 115, 116, 117, 38, 612, 613, 614, 31, 615, 73, 575, 243, 244, 14, 245, 246, 43, 247, 248, 249, 250, 44, 251, 45, 46, 47, 48, 252, 49, 616, 545, 546, 547, 414, 415, 416, 417, 418, 419, 420, 421, 576, 295, 296, 297, 298, 299, 300, 301, 302, 303, 304, 305, 306, 182, 183, 184, 307, 186, 187, 1157, 1158, 1159, 1160, 1161, 1162, 1163, 1164, 1165, 1192, 1193, 1194, 1195, 1196, 1197, 1198, 1199, 1200, 1201, 1208] (by decide +kernel) (by decide +kernel)
set_option maxRecDepth 20000 in
theorem gL_law_X6_deaf : GoodIn wsL_law (wsV RL 65 RX6 yX6_deaf wsX6_deaf) := goodIn_app (goodIn_of _ (by decide +kernel)) ggL_law_X6_deaf
set_option maxRecDepth 20000 in
theorem ggL_law_X7_deaf : GoodIn wsL_law wsX7_deaf := goodIn_r _ [620, 373, 374, 375, 5, 376, 351, 621, 622, 623, 624, 584, 585, 586, 587, 344, 345, 346, 347, 348, 349, 88, 89, 90, 91, 92, 93, 350, 352, 102, 353, 354, 355, 356, 99, 357, 358, 359, 360, 563, 564, 565, 566, 442, 443, 444, 445, 94, 446, 447, 448, 449, 385, 386, 387, 388, 389, 390, 391, 392, 393, 394, 395, 588, 589, 590, 591, 131, 132, 133, 134, 87, 1166, 1167, 1168, 1169, 1170, 1171, 1172, 1173, 1174, 1175, 1176, 1177, 1178, 1179, 1180, 1181, 1182, 1183, 1184, 1185, 1186, 1187, 1188, 1189, 1190, 1191] (by decide +kernel) (by decide +kernel)
set_option maxRecDepth 20000 in
theorem gL_law_X7_deaf : GoodIn wsL_law (wsV RL 68 RX7 yX7_deaf wsX7_deaf) := goodIn_app (goodIn_of _ (by decide +kernel)) ggL_law_X7_deaf
set_option maxRecDepth 20000 in
theorem ggL_law_X6_lost : GoodIn wsL_law wsX6_lost := goodIn_r _ [628, 32, 15, 407, 408, 2, 409, 114, 115, 116, 117, 38, 629, 630, 631, 31, 632, 73, 575, 243, 244, 14, 245, 246, 43, 247, 248, 249, 250, 44, 251, 45, 46, 47, 48, 252, 49, 633, 634, 635, 636, 637, 411, 412, 413, 414, 415, 416, 417, 418, 419, 420, 421, 576, 295, 296, 297, 298, 299, 300, 301, 302, 303, 304, 305, 306, 182, 183, 184, 307, 186, 187, 638, 639, 1157, 1158, 1159, 1160, 1161, 1162, 1163, 1164, 1165, 1208, 1192, 1193, 1194, 1195, 1196, 1197, 1198, 1199, 1200, 1201] (by decide +kernel) (by decide +kernel)
set_option maxRecDepth 20000 in
theorem gL_law_X6_lost : GoodIn wsL_law (wsV RL 69 RX6 yX6_lost wsX6_lost) := goodIn_app (goodIn_of _ (by decide +kernel)) ggL_law_X6_lost
set_option maxRecDepth 20000 in
theorem ggL_law_X7_lost : GoodIn wsL_law wsX7_lost := goodIn_r _ [643, 350, 334, 335, 5, 336, 131, 132, 133, 134, 87, 644, 645, 646, 647, 438, 439, 440, 441, 351, 442, 443, 444, 445, 94, 93, 92, 90, 88, 446, 447, 448, 449, 91, 584, 585, 586, 587, 344, 345, 346, 347, 348, 349, 89, 352, 102, 353, 354, 355, 356, 99, 357, 358, 359, 360, 385, 386, 387, 388, 389, 390, 391, 392, 393, 394, 395, 588, 589, 590, 591, 1166, 1167, 1168, 1169, 1170, 1171, 1172, 1173, 1174, 1175, 1176, 1177, 1178, 1179, 1180, 1181, 1182, 1183, 1184, 1185, 1186, 1187, 1188, 1189, 1190, 1191] (by decide +kernel) (by decide +kernel)
set_option maxRecDepth 20000 in
theorem gL_law_X7_lost : GoodIn wsL_law (wsV RL 72 RX7 yX7_lost wsX7_lost) := goodIn_app (goodIn_of _ (by decide +kernel)) ggL_law_X7_lost
set_option maxRecDepth 20000 in
theorem ggL_law_X6_rings : GoodIn wsL_law wsX6_rings := goodIn_r _ [651, 32, 15, 402, 403, 404, 2, 405, 406, 108, 109, 110, 111, 112, 113, 407, 408, 409, 114, 115, 116, 117, 38, 652, 653, 654, 31, 655, 73, 575, 243, 244, 14, 245, 246, 43, 247, 248, 249, 250, 44, 251, 45, 46, 47, 48, 252, 49, 656, 657, 658, 659, 660, 295, 296, 297, 298, 299, 300, 301, 302, 303, 304, 305, 306, 182, 183, 184, 307, 186, 187, 661, 597, 598, 599, 637, 411, 412, 413, 414, 415, 416, 417, 418, 419, 420, 421, 662, 423, 424, 425, 426, 427, 428, 429, 663, 664, 665, 666, 576, 667, 668, 1157, 1158, 1159, 1160, 1161, 1162, 1163, 1164, 1165, 1192, 1193, 1194, 1195, 1196, 1197, 1198, 1199, 1200, 1201, 1208] (by decide +kernel) (by decide +kernel)
set_option maxRecDepth 20000 in
theorem gL_law_X6_rings : GoodIn wsL_law (wsV RL 73 RX6 yX6_rings wsX6_rings) := goodIn_app (goodIn_of _ (by decide +kernel)) ggL_law_X6_rings
set_option maxRecDepth 20000 in
theorem ggL_law_X7_rings : GoodIn wsL_law wsX7_rings := goodIn_r _ [672, 434, 435, 436, 5, 437, 350, 128, 129, 130, 334, 335, 336, 131, 132, 133, 134, 87, 673, 674, 675, 676, 584, 585, 586, 587, 344, 345, 346, 347, 348, 349, 88, 89, 90, 91, 92, 93, 351, 352, 102, 353, 354, 355, 356, 99, 357, 358, 359, 360, 385, 386, 387, 388, 389, 390, 391, 392, 393, 394, 395, 604, 605, 606, 607, 677, 678, 679, 680, 450, 451, 452, 453, 454, 455, 456, 457, 458, 459, 460, 461, 442, 443, 444, 445, 94, 446, 447, 448, 449, 438, 439, 440, 441, 588, 589, 590, 591, 1166, 1167, 1168, 1169, 1170, 1171, 1172, 1173, 1174, 1175, 1176, 1177, 1178, 1179, 1180, 1181, 1182, 1183, 1184, 1185, 1186, 1187, 1188, 1189, 1190, 1191] (by decide +kernel) (by decide +kernel)
set_option maxRecDepth 20000 in
theorem gL_law_X7_rings : GoodIn wsL_law (wsV RL 76 RX7 yX7_rings wsX7_rings) := goodIn_app (goodIn_of _ (by decide +kernel)) ggL_law_X7_rings
set_option maxRecDepth 20000 in
theorem ggL_law_X6_send : GoodIn wsL_law wsX6_send := goodIn_r _ [684, 36, 15, 402, 403, 404, 2, 405, 406, 685, 686, 687, 111, 112, 113, 114, 115, 116, 117, 38, 688, 689, 690, 35, 691, 80, 692, 693, 694, 243, 244, 14, 245, 246, 43, 247, 248, 249, 250, 44, 251, 45, 46, 47, 48, 252, 49, 695, 657, 658, 659, 660, 295, 296, 297, 298, 299, 300, 301, 302, 303, 304, 305, 306, 182, 183, 184, 307, 186, 187, 661, 597, 598, 599, 637, 411, 412, 413, 414, 415, 416, 417, 418, 419, 420, 421, 662, 423, 424, 425, 426, 427, 428, 429, 1157, 1158, 1159, 1160, 1161, 1162, 1163, 1164, 1165, 1192, 1193, 1194, 1195, 1196, 1197, 1198, 1199, 1200, 1201, 1209, 1210] (by decide +kernel) (by decide +kernel)
set_option maxRecDepth 20000 in
theorem gL_law_X6_send : GoodIn wsL_law (wsV RL 77 RX6 yX6_send wsX6_send) := goodIn_app (goodIn_of _ (by decide +kernel)) ggL_law_X6_send
set_option maxRecDepth 20000 in
theorem ggL_law_X7_send : GoodIn wsL_law wsX7_send := goodIn_r _ [699, 351, 93, 434, 435, 436, 5, 437, 350, 131, 132, 133, 134, 87, 673, 674, 675, 676, 584, 585, 586, 587, 344, 345, 346, 347, 348, 349, 88, 89, 90, 91, 92, 352, 102, 353, 354, 355, 356, 99, 357, 358, 359, 360, 385, 386, 387, 388, 389, 390, 391, 392, 393, 394, 395, 604, 605, 606, 607, 677, 678, 679, 680, 450, 451, 452, 453, 454, 455, 456, 457, 458, 459, 460, 461, 442, 443, 444, 445, 94, 446, 447, 448, 449, 438, 439, 440, 441, 588, 589, 590, 591, 1166, 1167, 1168, 1169, 1170, 1171, 1172, 1173, 1174, 1175, 1176, 1177, 1178, 1179, 1180, 1181, 1182, 1183, 1184, 1185, 1186, 1187, 1188, 1189, 1190, 1191] (by decide +kernel) (by decide +kernel)
set_option maxRecDepth 20000 in
theorem gL_law_X7_send : GoodIn wsL_law (wsV RL 80 RX7 yX7_send wsX7_send) := goodIn_app (goodIn_of _ (by decide +kernel)) ggL_law_X7_send
set_option maxRecDepth 20000 in
theorem ggL_law_X6_nightsFor : GoodIn wsL_law wsX6_nightsFor := goodIn_r _ [703, 36, 15, 470, 471, 472, 2, 473, 474, 108, 109, 110, 111, 112, 113, 114, 115, 116, 117, 38, 704, 705, 706, 35, 707, 80, 708, 693, 694, 243, 244, 14, 245, 246, 43, 247, 248, 249, 250, 44, 251, 45, 46, 47, 48, 252, 49, 695, 657, 658, 659, 660, 295, 296, 297, 298, 299, 300, 301, 302, 303, 304, 305, 306, 182, 183, 184, 307, 186, 187, 661, 597, 598, 599, 637, 411, 412, 413, 414, 415, 416, 417, 418, 419, 420, 421, 662, 423, 424, 425, 426, 427, 428, 429, 1157, 1158, 1159, 1160, 1161, 1162, 1163, 1164, 1165, 1192, 1193, 1194, 1195, 1196, 1197, 1198, 1199, 1200, 1201, 1209, 1210] (by decide +kernel) (by decide +kernel)
set_option maxRecDepth 20000 in
theorem gL_law_X6_nightsFor : GoodIn wsL_law (wsV RL 81 RX6 yX6_nightsFor wsX6_nightsFor) := goodIn_app (goodIn_of _ (by decide +kernel)) ggL_law_X6_nightsFor
set_option maxRecDepth 20000 in
theorem ggL_law_X7_nightsFor : GoodIn wsL_law wsX7_nightsFor := goodIn_r _ [712, 93, 373, 374, 375, 5, 376, 351, 128, 129, 130, 131, 132, 133, 134, 87, 713, 714, 715, 716, 350, 584, 585, 586, 587, 344, 345, 346, 347, 348, 349, 88, 89, 90, 91, 92, 352, 102, 353, 354, 355, 356, 99, 357, 358, 359, 360, 385, 386, 387, 388, 389, 390, 391, 392, 393, 394, 395, 604, 605, 606, 607, 677, 678, 679, 680, 450, 451, 452, 453, 454, 455, 456, 457, 458, 459, 460, 461, 442, 443, 444, 445, 94, 446, 447, 448, 449, 438, 439, 440, 441, 588, 589, 590, 591, 1166, 1167, 1168, 1169, 1170, 1171, 1172, 1173, 1174, 1175, 1176, 1177, 1178, 1179, 1180, 1181, 1182, 1183, 1184, 1185, 1186, 1187, 1188, 1189, 1190, 1191] (by decide +kernel) (by decide +kernel)
set_option maxRecDepth 20000 in
theorem gL_law_X7_nightsFor : GoodIn wsL_law (wsV RL 84 RX7 yX7_nightsFor wsX7_nightsFor) := goodIn_app (goodIn_of _ (by decide +kernel)) ggL_law_X7_nightsFor
set_option maxRecDepth 20000 in
theorem ggL_law_X6_fewest : GoodIn wsL_law wsX6_fewest := goodIn_r _ [720, 36, 15, 108, 109, 2, 110, 114, 115, 116, 117, 38, 721, 722, 723, 35, 724, 692, 725, 549, 550, 551, 552, 553, 554, 726, 727, 728, 729, 80, 693, 694, 243, 244, 14, 245, 246, 43, 247, 248, 249, 250, 44, 251, 45, 46, 47, 48, 252, 49, 730, 295, 296, 297, 298, 299, 300, 301, 302, 303, 304, 305, 306, 182, 183, 184, 307, 186, 187, 731, 634, 635, 636, 637, 411, 412, 413, 414, 415, 416, 417, 418, 419, 420, 421, 1157, 1158, 1159, 1160, 1161, 1162, 1163, 1164, 1165, 1192, 1193, 1194, 1195, 1196, 1197, 1198, 1199, 1200, 1201, 1209, 1210] (by decide +kernel) (by decide +kernel)
set_option maxRecDepth 20000 in
theorem gL_law_X6_fewest : GoodIn wsL_law (wsV RL 85 RX6 yX6_fewest wsX6_fewest) := goodIn_app (goodIn_of _ (by decide +kernel)) ggL_law_X6_fewest
set_option maxRecDepth 20000 in
theorem ggL_law_X7_fewest : GoodIn wsL_law wsX7_fewest := goodIn_r _ [735, 351, 128, 129, 5, 130, 131, 132, 133, 134, 87, 736, 737, 738, 739, 740, 741, 742, 93, 743, 744, 745, 746, 344, 345, 346, 347, 348, 349, 88, 89, 90, 91, 92, 350, 352, 102, 353, 354, 355, 356, 99, 357, 358, 359, 360, 747, 748, 749, 750, 751, 752, 753, 584, 585, 586, 587, 381, 382, 383, 384, 385, 386, 387, 388, 389, 390, 391, 392, 393, 394, 395, 754, 755, 756, 757, 438, 439, 440, 441, 442, 443, 444, 445, 94, 446, 447, 448, 449, 588, 589, 590, 591, 758, 759, 760, 761, 1166, 1167, 1168, 1169, 1170, 1171, 1172, 1173, 1174, 1175, 1176, 1177, 1178, 1179, 1180, 1181, 1182, 1183, 1184, 1185, 1186, 1187, 1188, 1189, 1190, 1191] (by decide +kernel) (by decide +kernel)
set_option maxRecDepth 20000 in
theorem gL_law_X7_fewest : GoodIn wsL_law (wsV RL 88 RX7 yX7_fewest wsX7_fewest) := goodIn_app (goodIn_of _ (by decide +kernel)) ggL_law_X7_fewest
set_option maxRecDepth 20000 in
theorem ggL_law_X6_ask : GoodIn wsL_law wsX6_ask := goodIn_r _ [765, 32, 15, 402, 403, 404, 2, 405, 406, 114, 115, 116, 117, 38, 766, 767, 768, 31, 769, 73, 770, 575, 243, 244, 14, 245, 246, 43, 247, 248, 249, 250, 44, 251, 45, 46, 47, 48, 252, 49, 771, 415, 416, 417, 418, 419, 420, 421, 772, 427, 428, 429, 576, 295, 296, 297, 298, 299, 300, 301, 302, 303, 304, 305, 306, 182, 183, 184, 307, 186, 187, 668, 411, 412, 413, 414, 638, 639, 1157, 1158, 1159, 1160, 1161, 1162, 1163, 1164, 1165, 1192, 1193, 1194, 1195, 1196, 1197, 1198, 1199, 1200, 1201, 1208] (by decide +kernel) (by decide +kernel)
set_option maxRecDepth 20000 in
theorem gL_law_X6_ask : GoodIn wsL_law (wsV RL 89 RX6 yX6_ask wsX6_ask) := goodIn_app (goodIn_of _ (by decide +kernel)) ggL_law_X6_ask
set_option maxRecDepth 20000 in
theorem ggL_law_X7_ask : GoodIn wsL_law wsX7_ask := goodIn_r _ [776, 351, 88, 434, 435, 436, 5, 437, 350, 131, 132, 133, 134, 87, 458, 459, 460, 461, 90, 91, 442, 443, 444, 445, 94, 93, 92, 446, 447, 448, 449, 777, 778, 779, 780, 584, 585, 586, 587, 344, 345, 346, 347, 348, 349, 89, 352, 102, 353, 354, 355, 356, 99, 357, 358, 359, 360, 385, 386, 387, 388, 389, 390, 391, 392, 393, 394, 395, 588, 589, 590, 591, 1166, 1167, 1168, 1169, 1170, 1171, 1172, 1173, 1174, 1175, 1176, 1177, 1178, 1179, 1180, 1181, 1182, 1183, 1184, 1185, 1186, 1187, 1188, 1189, 1190, 1191] (by decide +kernel) (by decide +kernel)
set_option maxRecDepth 20000 in
theorem gL_law_X7_ask : GoodIn wsL_law (wsV RL 92 RX7 yX7_ask wsX7_ask) := goodIn_app (goodIn_of _ (by decide +kernel)) ggL_law_X7_ask
set_option maxRecDepth 20000 in
theorem ggL_law_X6_leave : GoodIn wsL_law wsX6_leave := goodIn_r _ [784, 28, 15, 785, 786, 787, 27, 788, 789, 790, 791, 792, 793, 794, 795, 796, 411, 412, 14, 413, 251, 414, 415, 416, 417, 48, 47, 45, 43, 418, 419, 420, 421, 46, 797, 423, 424, 425, 426, 427, 428, 429, 1157, 1158, 1159, 1160, 1161, 1162, 1163, 1164, 1165, 1192, 1193, 1194, 1195, 1196, 1197, 1198, 1199, 1200, 1201] (by decide +kernel) (by decide +kernel)
set_option maxRecDepth 20000 in
theorem gL_law_X6_leave : GoodIn wsL_law (wsV RL 93 RX6 yX6_leave wsX6_leave) := goodIn_app (goodIn_of _ (by decide +kernel)) ggL_law_X6_leave
set_option maxRecDepth 20000 in
theorem ggL_law_X7_leave : GoodIn wsL_law wsX7_leave := goodIn_r _ [801, 351, 94, 802, 803, 804, 5, 805, 350, 677, 678, 679, 680, 88, 450, 451, 452, 453, 454, 455, 456, 457, 458, 459, 460, 461, 90, 91, 442, 443, 444, 445, 93, 92, 446, 447, 448, 449, 438, 439, 440, 441, 1166, 1167, 1168, 1169, 1170, 1171, 1172, 1173, 1174, 1175, 1176, 1177, 1178, 1179, 1180, 1181, 1182, 1183, 1184, 1185, 1186, 1187, 1188, 1189, 1190, 1191] (by decide +kernel) (by decide +kernel)
set_option maxRecDepth 20000 in
theorem gL_law_X7_leave : GoodIn wsL_law (wsV RL 96 RX7 yX7_leave wsX7_leave) := goodIn_app (goodIn_of _ (by decide +kernel)) ggL_law_X7_leave
set_option maxRecDepth 20000 in
theorem ggL_law_X6_right : GoodIn wsL_law wsX6_right := goodIn_r _ [809, 28, 15, 32, 407, 408, 2, 409, 114, 115, 116, 117, 38, 810, 791, 792, 27, 793, 794, 795, 796, 411, 412, 14, 413, 251, 414, 415, 416, 417, 48, 47, 45, 43, 418, 419, 420, 421, 46, 797, 423, 424, 425, 426, 427, 428, 429, 811, 812, 813, 814, 815, 634, 635, 636, 246, 637, 816, 549, 550, 551, 552, 553, 554, 790, 817, 818, 819, 31, 820, 73, 575, 243, 244, 245, 247, 248, 249, 250, 44, 252, 49, 821, 541, 542, 543, 544, 545, 546, 547, 576, 295, 296, 297, 298, 299, 300, 301, 302, 303, 304, 305, 306, 182, 183, 184, 307, 186, 187, 638, 639, 1157, 1158, 1159, 1160, 1161, 1162, 1163, 1164, 1165, 1192, 1193, 1194, 1195, 1196, 1197, 1198, 1199, 1200, 1201, 1208] (by decide +kernel) (by decide +kernel)
