theorem inL_176 : ∀ w ∈ va_wsS RL 176 yL_changeWithin wsL_changeWithin, w ∈ lw_tbl := zin_app (zin [945, 946, 44] (by decide +kernel)) in_L_changeWithin
set_option maxRecDepth 20000 in
theorem gdL_176 : GoodIn (va_wsS RL 176 yL_changeWithin wsL_changeWithin) (va_wsS RL 176 yL_changeWithin wsL_changeWithin) := goodIn_sub (fun w h => h) (by decide +kernel)
set_option maxRecDepth 20000 in
theorem in_X9_changeWithin : ∀ w ∈ wsX9_changeWithin, w ∈ lw_tbl := zin [1318, 1003, 997, 998, 1046, 1047, 52, 1048, 1057, 1058, 1059, 1162, 1164, 16, 1165, 1217, 1222, 1223, 1166, 1168, 17, 1169, 1170, 1172, 18, 1173, 1177, 1049, 1051, 4, 1052, 1174, 1175, 1176, 1178, 1180, 19, 1181, 1182, 1184, 20, 1185, 1195, 1186, 1188, 21, 1189, 1190, 1192, 22, 1193, 993, 1194, 1196, 1198, 23, 1199, 1200, 1201, 1202, 1203, 1204, 1205, 1206, 1208, 24, 1209, 1215, 1216, 1210, 1212, 25, 1213, 1214, 1218, 1220, 26, 1221, 1008, 1010, 1012, 1014, 1016, 1018, 1020, 1022, 1024, 1026, 1028] (by decide +kernel)
theorem inL_178 : ∀ w ∈ wsV RL 178 RX9 yX9_changeWithin wsX9_changeWithin, w ∈ lw_tbl := zin_app (zin [1315, 1316, 1317, 52] (by decide +kernel)) in_X9_changeWithin
set_option maxRecDepth 20000 in
theorem gdL_178 : GoodIn (wsV RL 178 RX9 yX9_changeWithin wsX9_changeWithin) (wsV RL 178 RX9 yX9_changeWithin wsX9_changeWithin) := goodIn_sub (fun w h => h) (by decide +kernel)
set_option maxRecDepth 20000 in
theorem in_L_type : ∀ w ∈ wsL_type, w ∈ lw_tbl := (zin_ca (zin_ca (zin_ca (zin [958, 801, 802, 959, 960, 961, 45, 962, 254, 963, 964, 965, 51, 966, 226, 518, 519, 647, 648, 649, 650, 56, 717, 57, 733, 58, 968, 969, 970, 971, 225, 255, 257, 259, 236, 238, 240, 242, 244, 246, 248] (by decide +kernel)) zin_v0) zin_v1) zin_v2)
theorem inL_179 : ∀ w ∈ va_wsS RL 179 yL_type wsL_type, w ∈ lw_tbl := zin_app (zin [956, 957, 44] (by decide +kernel)) in_L_type
set_option maxRecDepth 20000 in
theorem gdL_179 : GoodIn (va_wsS RL 179 yL_type wsL_type) (va_wsS RL 179 yL_type wsL_type) := goodIn_sub (fun w h => h) (by decide +kernel)
set_option maxRecDepth 20000 in
theorem in_X9_type : ∀ w ∈ wsX9_type, w ∈ lw_tbl := zin [1322, 1002, 1003, 1001, 1046, 1047, 52, 1048, 1008, 1010, 1012, 1014, 1016, 1018, 1020, 1022, 1024, 1026, 1028] (by decide +kernel)
theorem inL_181 : ∀ w ∈ wsV RL 181 RX9 yX9_type wsX9_type, w ∈ lw_tbl := zin_app (zin [1319, 1320, 1321, 52] (by decide +kernel)) in_X9_type
set_option maxRecDepth 20000 in
theorem gdL_181 : GoodIn (wsV RL 181 RX9 yX9_type wsX9_type) (wsV RL 181 RX9 yX9_type wsX9_type) := goodIn_sub (fun w h => h) (by decide +kernel)
set_option maxRecDepth 20000 in
theorem in_X8_clearCommands : ∀ w ∈ wsX8_clearCommands, w ∈ lw_tbl := zin [392, 254, 393, 394, 395, 51, 396, 226, 255, 257, 259, 236, 238, 240, 242, 244, 246, 248] (by decide +kernel)
theorem inL_182 : ∀ w ∈ wsV RL 182 RX8 yX8_clearCommands wsX8_clearCommands, w ∈ lw_tbl := zin_app (zin [389, 390, 391, 45] (by decide +kernel)) in_X8_clearCommands
set_option maxRecDepth 20000 in
theorem gdL_182 : GoodIn (wsV RL 182 RX8 yX8_clearCommands wsX8_clearCommands) (wsV RL 182 RX8 yX8_clearCommands wsX8_clearCommands) := goodIn_sub (fun w h => h) (by decide +kernel)
set_option maxRecDepth 20000 in
theorem in_X9_clearCommands : ∀ w ∈ wsX9_clearCommands, w ∈ lw_tbl := zin [1326, 1003, 1002, 1008, 1010, 1012, 1014, 1016, 1018, 1020, 1022, 1024, 1026, 1028] (by decide +kernel)
theorem inL_185 : ∀ w ∈ wsV RL 185 RX9 yX9_clearCommands wsX9_clearCommands, w ∈ lw_tbl := zin_app (zin [1323, 1324, 1325, 52] (by decide +kernel)) in_X9_clearCommands
set_option maxRecDepth 20000 in
theorem gdL_185 : GoodIn (wsV RL 185 RX9 yX9_clearCommands wsX9_clearCommands) (wsV RL 185 RX9 yX9_clearCommands wsX9_clearCommands) := goodIn_sub (fun w h => h) (by decide +kernel)
theorem in_X8_runCommands_r1 : ∀ w ∈ wsX8_runCommands_r1, w ∈ lw_tbl := zin [254, 253, 252, 231, 233, 235, 401, 402, 403, 51, 404, 229, 405, 406, 407, 408, 228, 409, 410, 411, 412, 226, 413, 414] (by decide +kernel)
theorem in_X8_runCommands_r2 : ∀ w ∈ wsX8_runCommands_r2, w ∈ lw_tbl := zin [415, 416, 225, 417, 418, 419, 420, 230, 421, 422, 423, 424, 425, 426, 427, 428, 1404, 431, 432, 433, 434, 435, 436, 437] (by decide +kernel)
theorem in_X8_runCommands_r3 : ∀ w ∈ wsX8_runCommands_r3, w ∈ lw_tbl := zin [62, 438, 1405, 439, 440, 441, 442, 443, 1406, 445, 446, 447, 448, 449, 450, 451, 452, 453, 454, 63, 455, 456, 457, 458] (by decide +kernel)
theorem in_X8_runCommands_r4 : ∀ w ∈ wsX8_runCommands_r4, w ∈ lw_tbl := zin [459, 461, 462, 64, 463, 464, 465, 65, 466, 467, 468, 469, 470, 471, 472, 473, 474, 475, 476, 477, 479, 481, 483, 484] (by decide +kernel)
theorem in_X8_runCommands_r5 : ∀ w ∈ wsX8_runCommands_r5, w ∈ lw_tbl := zin [485, 486, 487, 488, 489, 490, 1407, 232, 234, 491, 492, 493, 494, 495, 496, 497, 498, 266, 267, 268, 50, 269, 208, 209] (by decide +kernel)
theorem in_X8_runCommands_r6 : ∀ w ∈ wsX8_runCommands_r6, w ∈ lw_tbl := zin [210, 291, 292, 60, 293, 270, 271, 272, 46, 273, 186, 188, 190, 274, 275, 276, 47, 277, 87, 90, 278, 280, 279, 59] (by decide +kernel)
theorem in_X8_runCommands_r7 : ∀ w ∈ wsX8_runCommands_r7, w ∈ lw_tbl := zin [91, 94, 95, 96, 281, 282, 283, 48, 284, 118, 285, 119, 121, 123, 126, 128, 131, 133, 136, 138, 141, 143, 286, 287] (by decide +kernel)
theorem in_X8_runCommands_r8 : ∀ w ∈ wsX8_runCommands_r8, w ∈ lw_tbl := zin [288, 49, 289, 176, 179, 290, 499, 500, 501, 503, 0, 45, 504, 505, 187, 189, 507, 508, 510, 511, 45, 512, 1408, 513] (by decide +kernel)
theorem in_X8_runCommands_r9 : ∀ w ∈ wsX8_runCommands_r9, w ∈ lw_tbl := zin [514, 515, 516, 518, 519, 520, 521, 522, 523, 528, 524, 525, 526, 527, 529, 530, 531, 532, 533, 534, 535, 536, 537, 538] (by decide +kernel)
theorem in_X8_runCommands_r10 : ∀ w ∈ wsX8_runCommands_r10, w ∈ lw_tbl := zin [539, 540, 543, 544, 545, 546, 547, 548, 549, 550, 551, 552, 553, 554, 555, 556, 557, 562, 563, 564, 565, 566, 567, 569] (by decide +kernel)
theorem in_X8_runCommands_r11 : ∀ w ∈ wsX8_runCommands_r11, w ∈ lw_tbl := zin [1, 570, 571, 572, 573, 574, 575, 576, 577, 578, 579, 580, 581, 582, 583, 584, 585, 586, 587, 588, 589, 590, 591, 592] (by decide +kernel)
theorem in_X8_runCommands_r12 : ∀ w ∈ wsX8_runCommands_r12, w ∈ lw_tbl := zin [593, 594, 294, 295, 296, 297, 595, 596, 597, 598, 599, 600, 601, 602, 124, 129, 139, 134, 137, 132, 603, 604, 605, 606] (by decide +kernel)
theorem in_X8_runCommands_r13 : ∀ w ∈ wsX8_runCommands_r13, w ∈ lw_tbl := zin [607, 608, 609, 610, 367, 368, 369, 354, 60, 355, 612, 613, 614, 615, 127, 344, 345, 346, 347, 348, 349, 350, 351, 352] (by decide +kernel)
theorem in_X8_runCommands_r14 : ∀ w ∈ wsX8_runCommands_r14, w ∈ lw_tbl := zin [310, 311, 312, 313, 353, 360, 361, 362, 363, 120, 364, 365, 370, 371, 373, 374, 375, 376, 377, 378, 379, 380, 381, 382] (by decide +kernel)
theorem in_X8_runCommands_r15 : ∀ w ∈ wsX8_runCommands_r15, w ∈ lw_tbl := zin [383, 384, 385, 386, 387, 388, 616, 617, 618, 619, 142, 144, 620, 621, 622, 623, 624, 625, 626, 627, 628, 629, 631, 632] (by decide +kernel)
theorem in_X8_runCommands_r16 : ∀ w ∈ wsX8_runCommands_r16, w ∈ lw_tbl := zin [630] (by decide +kernel)
theorem in_X8_runCommands : ∀ w ∈ wsX8_runCommands, w ∈ lw_tbl := zin_cons (zin [400] (by decide +kernel)) (zin_app (zin_app (zin_app (zin_app (zin_app (zin_app (zin_app (zin_app in_X8_runCommands_r1 (zin_app in_X8_runCommands_r2 (zin_app in_X8_runCommands_r3 (zin_app in_X8_runCommands_r4 (zin_app in_X8_runCommands_r5 (zin_app in_X8_runCommands_r6 (zin_app in_X8_runCommands_r7 (zin_app in_X8_runCommands_r8 (zin_app in_X8_runCommands_r9 (zin_app in_X8_runCommands_r10 (zin_app in_X8_runCommands_r11 (zin_app in_X8_runCommands_r12 (zin_app in_X8_runCommands_r13 (zin_app in_X8_runCommands_r14 (zin_app in_X8_runCommands_r15 in_X8_runCommands_r16))))))))))))))) in_uX8) in_uX2) in_uX5) in_uX6) in_uX4) in_uX1) in_uX3)
theorem inL_186 : ∀ w ∈ wsV RL 186 RX8 yX8_runCommands wsX8_runCommands, w ∈ lw_tbl := zin_app (zin [397, 398, 399, 45] (by decide +kernel)) in_X8_runCommands
set_option maxRecDepth 20000 in
theorem gdL_186 : GoodIn (wsV RL 186 RX8 yX8_runCommands wsX8_runCommands) (wsV RL 186 RX8 yX8_runCommands wsX8_runCommands) := goodIn_sub (fun w h => h) (by decide +kernel)
theorem in_X9_runCommands_r1 : ∀ w ∈ wsX9_runCommands_r1, w ∈ lw_tbl := zin [1003, 1004, 1002, 1331, 1333, 33, 52, 1334, 1335, 1337, 34, 1338, 1339, 1341, 35, 1342, 1001, 1343, 1344, 1346, 36, 1347, 1348, 1350] (by decide +kernel)
theorem in_X9_runCommands_r2 : ∀ w ∈ wsX9_runCommands_r2, w ∈ lw_tbl := zin [37, 1351, 1352, 1353, 1177, 1005, 1046, 1047, 1048, 1354, 1355, 1356, 1357, 1358, 1359, 1360, 1361, 1362, 1363, 1364, 1365, 1366, 1367, 1368] (by decide +kernel)
theorem in_X9_runCommands_r3 : ∀ w ∈ wsX9_runCommands_r3, w ∈ lw_tbl := zin [1369, 1371, 38, 1372, 1373, 1375, 39, 1376, 1006, 1053, 1055, 5, 1056, 1000, 999, 997, 1057, 1058, 1059, 1377, 1379, 40, 1380, 1039] (by decide +kernel)
theorem in_X9_runCommands_r4 : ∀ w ∈ wsX9_runCommands_r4, w ∈ lw_tbl := zin [1041, 3, 1042, 1043, 1044, 1045, 1049, 1051, 4, 1052, 1080, 1082, 9, 1083, 1068, 1070, 7, 1071, 1084, 1085, 1086, 1087, 1104, 1106] (by decide +kernel)
theorem in_X9_runCommands_r5 : ∀ w ∈ wsX9_runCommands_r5, w ∈ lw_tbl := zin [12, 1107, 1096, 1098, 11, 1099, 1112, 1113, 1114, 1115, 1116, 1117, 1118, 1119, 1120, 1125, 1126, 1127, 1132, 1134, 13, 1135, 1148, 1149] (by decide +kernel)
theorem in_X9_runCommands_r6 : ∀ w ∈ wsX9_runCommands_r6, w ∈ lw_tbl := zin [1150, 1151, 1152, 1157, 1159, 15, 1160, 1161, 1381, 1383, 41, 1384, 1060, 1062, 6, 1063, 1088, 1090, 10, 1091, 1072, 1074, 8, 1075] (by decide +kernel)
theorem in_X9_runCommands_r7 : ∀ w ∈ wsX9_runCommands_r7, w ∈ lw_tbl := zin [1136, 1138, 14, 1139, 1162, 1164, 16, 1165, 1217, 1222, 1223, 1166, 1168, 17, 1169, 1170, 1172, 18, 1173, 1174, 1175, 1176, 1178, 1180] (by decide +kernel)
theorem in_X9_runCommands_r8 : ∀ w ∈ wsX9_runCommands_r8, w ∈ lw_tbl := zin [19, 1181, 1182, 1184, 20, 1185, 1195, 1186, 1188, 21, 1189, 1190, 1192, 22, 1193, 993, 1194, 1196, 1198, 23, 1199, 1200, 1201, 1202] (by decide +kernel)
theorem in_X9_runCommands_r9 : ∀ w ∈ wsX9_runCommands_r9, w ∈ lw_tbl := zin [1203, 1204, 1205, 1206, 1208, 24, 1209, 1215, 1216, 1210, 1212, 25, 1213, 1214, 1218, 1220, 26, 1221] (by decide +kernel)
theorem in_X9_runCommands : ∀ w ∈ wsX9_runCommands, w ∈ lw_tbl := zin_cons (zin [1330] (by decide +kernel)) (zin_app (zin_app in_X9_runCommands_r1 (zin_app in_X9_runCommands_r2 (zin_app in_X9_runCommands_r3 (zin_app in_X9_runCommands_r4 (zin_app in_X9_runCommands_r5 (zin_app in_X9_runCommands_r6 (zin_app in_X9_runCommands_r7 (zin_app in_X9_runCommands_r8 in_X9_runCommands_r9)))))))) in_uX9)
theorem inL_189 : ∀ w ∈ wsV RL 189 RX9 yX9_runCommands wsX9_runCommands, w ∈ lw_tbl := zin_app (zin [1327, 1328, 1329, 52] (by decide +kernel)) in_X9_runCommands
set_option maxRecDepth 20000 in
theorem gdL_189 : GoodIn (wsV RL 189 RX9 yX9_runCommands wsX9_runCommands) (wsV RL 189 RX9 yX9_runCommands wsX9_runCommands) := goodIn_sub (fun w h => h) (by decide +kernel)
set_option maxRecDepth 20000 in
theorem in_L_undo : ∀ w ∈ wsL_undo, w ∈ lw_tbl := (zin_ca (zin_ca (zin_ca (zin [974, 802, 975, 976, 977, 45, 978, 253, 211, 252, 647, 648, 649, 650, 56, 717, 57, 733, 58, 979, 980, 981, 50, 982, 209, 208, 210, 270, 271, 272, 46, 273, 186, 188, 190, 274, 275, 276, 47, 277, 87, 90, 278, 280, 279, 59, 91, 94, 95, 96, 281, 282, 283, 48, 284, 118, 285, 119, 121, 123, 126, 128, 131, 133, 136, 138, 141, 143, 286, 287, 288, 49, 289, 176, 179, 290, 255, 257, 259, 212, 214, 216, 192, 194, 196, 97, 99, 101, 103, 105, 107, 145, 147, 149, 151, 153, 155, 157, 159, 161, 163, 165, 167, 180, 182] (by decide +kernel)) zin_v0) zin_v1) zin_v2)
theorem inL_190 : ∀ w ∈ va_wsS RL 190 yL_undo wsL_undo, w ∈ lw_tbl := zin_app (zin [972, 973, 44] (by decide +kernel)) in_L_undo
set_option maxRecDepth 20000 in
theorem gdL_190 : GoodIn (va_wsS RL 190 yL_undo wsL_undo) (va_wsS RL 190 yL_undo wsL_undo) := goodIn_sub (fun w h => h) (by decide +kernel)
set_option maxRecDepth 20000 in
theorem in_X9_undo : ∀ w ∈ wsX9_undo, w ∈ lw_tbl := zin [1388, 1000, 1003, 999, 997, 1057, 1058, 52, 1059, 1008, 1010, 1012, 1014, 1016, 1018, 1020, 1022, 1024, 1026, 1028] (by decide +kernel)
theorem inL_193 : ∀ w ∈ wsV RL 193 RX9 yX9_undo wsX9_undo, w ∈ lw_tbl := zin_app (zin [1385, 1386, 1387, 52] (by decide +kernel)) in_X9_undo
set_option maxRecDepth 20000 in
theorem gdL_193 : GoodIn (wsV RL 193 RX9 yX9_undo wsX9_undo) (wsV RL 193 RX9 yX9_undo wsX9_undo) := goodIn_sub (fun w h => h) (by decide +kernel)
set_option maxRecDepth 20000 in
theorem in_X8_digest : ∀ w ∈ wsX8_digest, w ∈ lw_tbl := (zin_ca (zin_ca (zin_ca (zin [637, 638, 253, 211, 252, 187, 89, 93, 191, 178, 639, 640, 45, 641, 642, 643, 644, 645, 646, 254, 227, 545, 518, 519, 647, 648, 649, 650, 56, 717, 57, 733, 58, 749, 750, 751, 46, 752, 186, 88, 92, 188, 122, 124, 127, 129, 132, 134, 137, 120, 190, 177, 753, 386, 387, 48, 388, 119, 381, 382, 383, 384, 385, 754, 755, 756, 757, 364, 344, 345, 346, 47, 347, 91, 95, 96, 348, 349, 350, 351, 94, 352, 310, 311, 312, 313, 87, 90, 353, 354, 60, 355, 612, 613, 614, 615, 360, 361, 362, 363, 365, 370, 371, 367, 368, 369, 373, 374, 375, 376, 60, 377, 378, 379, 380, 758, 299, 300, 301, 302, 303, 304, 305, 306, 307, 308, 309, 759, 315, 316, 317, 189, 140, 760, 319, 320, 321, 322, 323, 324, 325, 326, 327, 328, 329, 330, 331, 761, 762, 763, 764, 765, 766, 767, 768, 524, 525, 526, 527, 769, 770, 771, 772, 773, 546, 547, 548, 549, 774, 608, 609, 610, 118, 775, 776, 777, 778, 125, 779, 780, 781, 782, 533, 534, 535, 536, 783, 784, 785, 786, 787, 788, 789, 790, 791, 792, 793, 49, 794, 176, 179, 796, 797, 337, 338, 339, 340, 341, 342, 343, 356, 357, 358, 359, 255, 257, 259, 212, 214, 216, 192, 194, 196, 97, 99, 101, 103, 105, 107, 180, 182, 236, 238, 240, 242, 244, 246, 248, 145, 147, 149, 151, 153, 155, 157, 159, 161, 163, 165, 167] (by decide +kernel)) zin_v0) zin_v1) zin_v2)
theorem inL_194 : ∀ w ∈ wsV RL 194 RX8 yX8_digest wsX8_digest, w ∈ lw_tbl := zin_app (zin [634, 635, 636, 45] (by decide +kernel)) in_X8_digest
set_option maxRecDepth 20000 in
theorem gdL_194 : GoodIn (wsV RL 194 RX8 yX8_digest wsX8_digest) (wsV RL 194 RX8 yX8_digest wsX8_digest) := goodIn_sub (fun w h => h) (by decide +kernel)
set_option maxRecDepth 20000 in
theorem in_X9_digest : ∀ w ∈ wsX9_digest, w ∈ lw_tbl := zin [1392, 1003, 1393, 1007, 1000, 997, 1394, 1396, 42, 52, 1397, 1398, 1244, 1246, 28, 1247, 1002, 1210, 1212, 25, 1213, 1214, 1206, 1208, 24, 1209, 1215, 1216, 1182, 1184, 20, 1185, 1195, 1186, 1188, 21, 1189, 1049, 1051, 4, 1052, 1190, 1192, 22, 1193, 993, 1194, 1174, 1175, 1176, 1178, 1180, 19, 1181, 1196, 1198, 23, 1199, 1200, 1201, 1202, 1203, 1204, 1205, 1252, 1254, 29, 1255, 1256, 1258, 30, 1259, 1268, 1270, 31, 1271, 1272, 1273, 61, 1274, 1278, 1280, 1279, 61, 1281, 1275, 1276, 1277, 1399, 1401, 43, 1402, 1228, 1230, 27, 1231, 1307, 1309, 32, 1310, 1300, 1301, 1302, 1008, 1010, 1012, 1014, 1016, 1018, 1020, 1022, 1024, 1026, 1028] (by decide +kernel)
theorem inL_197 : ∀ w ∈ wsV RL 197 RX9 yX9_digest wsX9_digest, w ∈ lw_tbl := zin_app (zin [1389, 1390, 1391, 52] (by decide +kernel)) in_X9_digest
set_option maxRecDepth 20000 in
theorem gdL_197 : GoodIn (wsV RL 197 RX9 yX9_digest wsX9_digest) (wsV RL 197 RX9 yX9_digest wsX9_digest) := goodIn_sub (fun w h => h) (by decide +kernel)
set_option maxRecDepth 20000 in
theorem gdL_X8_init : GoodIn wsX8_init wsX8_init := goodIn_sub (fun w h => h) (by decide +kernel)
set_option maxRecDepth 20000 in
theorem gdL_X9_init : GoodIn wsX9_init wsX9_init := goodIn_sub (fun w h => h) (by decide +kernel)
