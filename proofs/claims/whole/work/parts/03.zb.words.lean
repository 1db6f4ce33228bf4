theorem zin_cons {c : Cond} {a : List Cond} (hc : ∀ w ∈ [c], w ∈ lw_tbl) (ha : ∀ w ∈ a, w ∈ lw_tbl) : ∀ w ∈ c :: a, w ∈ lw_tbl := fun w h => (List.mem_cons.mp h).elim (fun e => hc w (List.mem_cons.mpr (Or.inl e))) (ha w)
theorem in_uX1 : ∀ w ∈ u_ws RX1 TX1 12, w ∈ lw_tbl := zin [145, 147, 149, 151, 153, 155, 157, 159, 161, 163, 165, 167] (by decide +kernel)
theorem in_uX2 : ∀ w ∈ u_ws RX2 TX2 7, w ∈ lw_tbl := zin [236, 238, 240, 242, 244, 246, 248] (by decide +kernel)
theorem in_uX3 : ∀ w ∈ u_ws RX3 TX3 2, w ∈ lw_tbl := zin [180, 182] (by decide +kernel)
theorem in_uX4 : ∀ w ∈ u_ws RX4 TX4 6, w ∈ lw_tbl := zin [97, 99, 101, 103, 105, 107] (by decide +kernel)
theorem in_uX5 : ∀ w ∈ u_ws RX5 TX5 3, w ∈ lw_tbl := zin [212, 214, 216] (by decide +kernel)
theorem in_uX6 : ∀ w ∈ u_ws RX6 TX6 3, w ∈ lw_tbl := zin [192, 194, 196] (by decide +kernel)
theorem in_uX8 : ∀ w ∈ u_ws RX8 TX8 3, w ∈ lw_tbl := zin [255, 257, 259] (by decide +kernel)
theorem in_uX9 : ∀ w ∈ u_ws RX9 TX9 11, w ∈ lw_tbl := zin [1008, 1010, 1012, 1014, 1016, 1018, 1020, 1022, 1024, 1026, 1028] (by decide +kernel)
set_option maxRecDepth 20000 in
theorem gdL_142 : GoodIn (wsV RL 142 RX8 yX8_balance wsX8_balance) (wsV RL 142 RX8 yX8_balance wsX8_balance) := goodIn_sub (fun w h => h) (by decide +kernel)
set_option maxRecDepth 20000 in
theorem in_X9_balance : ∀ w ∈ wsX9_balance, w ∈ lw_tbl := zin [1251, 1003, 1252, 1254, 29, 52, 1255, 1049, 1051, 4, 1052, 997, 1256, 1258, 30, 1259, 1008, 1010, 1012, 1014, 1016, 1018, 1020, 1022, 1024, 1026, 1028] (by decide +kernel)
theorem inL_146 : ∀ w ∈ wsV RL 146 RX9 yX9_balance wsX9_balance, w ∈ lw_tbl := zin_app (zin [1248, 1249, 1250, 52] (by decide +kernel)) in_X9_balance
set_option maxRecDepth 20000 in
theorem gdL_146 : GoodIn (wsV RL 146 RX9 yX9_balance wsX9_balance) (wsV RL 146 RX9 yX9_balance wsX9_balance) := goodIn_sub (fun w h => h) (by decide +kernel)
set_option maxRecDepth 20000 in
theorem in_X8_rates : ∀ w ∈ wsX8_rates, w ∈ lw_tbl := zin [317, 252, 189, 140, 255, 257, 259, 192, 194, 196, 145, 147, 149, 151, 153, 155, 157, 159, 161, 163, 165, 167] (by decide +kernel)
theorem inL_147 : ∀ w ∈ wsV RL 147 RX8 yX8_rates wsX8_rates, w ∈ lw_tbl := zin_app (zin [314, 315, 316, 45] (by decide +kernel)) in_X8_rates
set_option maxRecDepth 20000 in
theorem gdL_147 : GoodIn (wsV RL 147 RX8 yX8_rates wsX8_rates) (wsV RL 147 RX8 yX8_rates wsX8_rates) := goodIn_sub (fun w h => h) (by decide +kernel)
set_option maxRecDepth 20000 in
theorem in_X9_rates : ∀ w ∈ wsX9_rates, w ∈ lw_tbl := zin [1263, 1003, 997, 1008, 1010, 1012, 1014, 1016, 1018, 1020, 1022, 1024, 1026, 1028] (by decide +kernel)
theorem inL_150 : ∀ w ∈ wsV RL 150 RX9 yX9_rates wsX9_rates, w ∈ lw_tbl := zin_app (zin [1260, 1261, 1262, 52] (by decide +kernel)) in_X9_rates
set_option maxRecDepth 20000 in
theorem gdL_150 : GoodIn (wsV RL 150 RX9 yX9_rates wsX9_rates) (wsV RL 150 RX9 yX9_rates wsX9_rates) := goodIn_sub (fun w h => h) (by decide +kernel)
set_option maxRecDepth 20000 in
theorem in_X8_balanceBits : ∀ w ∈ wsX8_balanceBits, w ∈ lw_tbl := zin [321, 252, 187, 322, 323, 324, 47, 325, 91, 96, 302, 303, 304, 305, 306, 307, 308, 309, 95, 94, 310, 311, 312, 313, 87, 90, 326, 327, 45, 328, 329, 330, 331, 255, 257, 259, 192, 194, 196, 97, 99, 101, 103, 105, 107] (by decide +kernel)
theorem inL_151 : ∀ w ∈ wsV RL 151 RX8 yX8_balanceBits wsX8_balanceBits, w ∈ lw_tbl := zin_app (zin [318, 319, 320, 45] (by decide +kernel)) in_X8_balanceBits
set_option maxRecDepth 20000 in
theorem gdL_151 : GoodIn (wsV RL 151 RX8 yX8_balanceBits wsX8_balanceBits) (wsV RL 151 RX8 yX8_balanceBits wsX8_balanceBits) := goodIn_sub (fun w h => h) (by decide +kernel)
set_option maxRecDepth 20000 in
theorem in_X9_balanceBits : ∀ w ∈ wsX9_balanceBits, w ∈ lw_tbl := zin [1267, 1003, 1268, 1270, 31, 52, 1271, 997, 1049, 1051, 4, 1052, 1252, 1254, 29, 1255, 1256, 1258, 30, 1259, 1272, 1273, 61, 1274, 1278, 1280, 1279, 61, 1281, 1275, 1276, 1277, 1008, 1010, 1012, 1014, 1016, 1018, 1020, 1022, 1024, 1026, 1028] (by decide +kernel)
theorem inL_154 : ∀ w ∈ wsV RL 154 RX9 yX9_balanceBits wsX9_balanceBits, w ∈ lw_tbl := zin_app (zin [1264, 1265, 1266, 52] (by decide +kernel)) in_X9_balanceBits
set_option maxRecDepth 20000 in
theorem gdL_154 : GoodIn (wsV RL 154 RX9 yX9_balanceBits wsX9_balanceBits) (wsV RL 154 RX9 yX9_balanceBits wsX9_balanceBits) := goodIn_sub (fun w h => h) (by decide +kernel)
set_option maxRecDepth 20000 in
theorem in_L_day : ∀ w ∈ wsL_day, w ∈ lw_tbl := (zin_ca (zin_ca (zin_ca (zin [901, 801, 902, 788, 789, 45, 790, 252, 191, 545, 518, 519, 647, 648, 649, 650, 56, 717, 57, 733, 58, 791, 792, 793, 49, 794, 176, 179, 796, 255, 257, 259, 192, 194, 196, 180, 182] (by decide +kernel)) zin_v0) zin_v1) zin_v2)
theorem inL_155 : ∀ w ∈ va_wsS RL 155 yL_day wsL_day, w ∈ lw_tbl := zin_app (zin [899, 900, 44] (by decide +kernel)) in_L_day
set_option maxRecDepth 20000 in
theorem gdL_155 : GoodIn (va_wsS RL 155 yL_day wsL_day) (va_wsS RL 155 yL_day wsL_day) := goodIn_sub (fun w h => h) (by decide +kernel)
set_option maxRecDepth 20000 in
theorem in_X9_day : ∀ w ∈ wsX9_day, w ∈ lw_tbl := zin [1285, 1003, 997, 1286, 1046, 1047, 52, 1048, 1049, 1051, 4, 1052, 1008, 1010, 1012, 1014, 1016, 1018, 1020, 1022, 1024, 1026, 1028] (by decide +kernel)
theorem inL_157 : ∀ w ∈ wsV RL 157 RX9 yX9_day wsX9_day, w ∈ lw_tbl := zin_app (zin [1282, 1283, 1284, 52] (by decide +kernel)) in_X9_day
set_option maxRecDepth 20000 in
theorem gdL_157 : GoodIn (wsV RL 157 RX9 yX9_day wsX9_day) (wsV RL 157 RX9 yX9_day wsX9_day) := goodIn_sub (fun w h => h) (by decide +kernel)
set_option maxRecDepth 20000 in
theorem in_X8_meanRate : ∀ w ∈ wsX8_meanRate, w ∈ lw_tbl := zin [335, 252, 189, 135, 140, 255, 257, 259, 192, 194, 196, 145, 147, 149, 151, 153, 155, 157, 159, 161, 163, 165, 167] (by decide +kernel)
theorem inL_158 : ∀ w ∈ wsV RL 158 RX8 yX8_meanRate wsX8_meanRate, w ∈ lw_tbl := zin_app (zin [332, 333, 334, 45] (by decide +kernel)) in_X8_meanRate
set_option maxRecDepth 20000 in
theorem gdL_158 : GoodIn (wsV RL 158 RX8 yX8_meanRate wsX8_meanRate) (wsV RL 158 RX8 yX8_meanRate wsX8_meanRate) := goodIn_sub (fun w h => h) (by decide +kernel)
set_option maxRecDepth 20000 in
theorem in_X9_meanRate : ∀ w ∈ wsX9_meanRate, w ∈ lw_tbl := zin [1290, 1003, 997, 1008, 1010, 1012, 1014, 1016, 1018, 1020, 1022, 1024, 1026, 1028] (by decide +kernel)
theorem inL_162 : ∀ w ∈ wsV RL 162 RX9 yX9_meanRate wsX9_meanRate, w ∈ lw_tbl := zin_app (zin [1287, 1288, 1289, 52] (by decide +kernel)) in_X9_meanRate
set_option maxRecDepth 20000 in
theorem gdL_162 : GoodIn (wsV RL 162 RX9 yX9_meanRate wsX9_meanRate) (wsV RL 162 RX9 yX9_meanRate wsX9_meanRate) := goodIn_sub (fun w h => h) (by decide +kernel)
set_option maxRecDepth 20000 in
theorem in_L_rateAt : ∀ w ∈ wsL_rateAt, w ∈ lw_tbl := (zin_ca (zin_ca (zin_ca (zin [905, 801, 906, 907, 908, 45, 909, 252, 189, 130, 910, 543, 544, 545, 518, 519, 647, 648, 649, 650, 56, 717, 57, 733, 58, 911, 613, 614, 46, 615, 188, 127, 186, 344, 345, 346, 47, 347, 91, 95, 96, 348, 349, 350, 351, 94, 352, 310, 311, 312, 313, 87, 90, 353, 354, 60, 355, 360, 361, 362, 363, 120, 364, 365, 370, 371, 367, 368, 369, 373, 374, 375, 376, 60, 377, 378, 379, 380, 381, 382, 383, 48, 384, 385, 386, 387, 388, 119, 255, 257, 259, 192, 194, 196, 145, 147, 149, 151, 153, 155, 157, 159, 161, 163, 165, 167, 97, 99, 101, 103, 105, 107] (by decide +kernel)) zin_v0) zin_v1) zin_v2)
theorem inL_163 : ∀ w ∈ va_wsS RL 163 yL_rateAt wsL_rateAt, w ∈ lw_tbl := zin_app (zin [903, 904, 44] (by decide +kernel)) in_L_rateAt
set_option maxRecDepth 20000 in
theorem gdL_163 : GoodIn (va_wsS RL 163 yL_rateAt wsL_rateAt) (va_wsS RL 163 yL_rateAt wsL_rateAt) := goodIn_sub (fun w h => h) (by decide +kernel)
set_option maxRecDepth 20000 in
theorem in_X9_rateAt : ∀ w ∈ wsX9_rateAt, w ∈ lw_tbl := zin [1294, 1003, 1118, 1119, 52, 1120, 1046, 1047, 1048, 1182, 1184, 20, 1185, 1195, 997, 1186, 1188, 21, 1189, 1049, 1051, 4, 1052, 1190, 1192, 22, 1193, 993, 1194, 1174, 1175, 1176, 1196, 1198, 23, 1199, 1200, 1201, 1202, 1203, 1204, 1205, 1206, 1208, 24, 1209, 1215, 1216, 1210, 1212, 25, 1213, 1214, 1008, 1010, 1012, 1014, 1016, 1018, 1020, 1022, 1024, 1026, 1028] (by decide +kernel)
theorem inL_165 : ∀ w ∈ wsV RL 165 RX9 yX9_rateAt wsX9_rateAt, w ∈ lw_tbl := zin_app (zin [1291, 1292, 1293, 52] (by decide +kernel)) in_X9_rateAt
set_option maxRecDepth 20000 in
theorem gdL_165 : GoodIn (wsV RL 165 RX9 yX9_rateAt wsX9_rateAt) (wsV RL 165 RX9 yX9_rateAt wsX9_rateAt) := goodIn_sub (fun w h => h) (by decide +kernel)
set_option maxRecDepth 20000 in
theorem in_L_matchLength : ∀ w ∈ wsL_matchLength, w ∈ lw_tbl := (zin_ca (zin_ca (zin_ca (zin [914, 810, 915, 916, 917, 45, 918, 252, 187, 779, 780, 781, 47, 782, 533, 534, 535, 536, 91, 518, 519, 647, 648, 649, 650, 56, 717, 57, 733, 58, 919, 920, 921, 922, 94, 95, 925, 927, 928, 60, 929, 310, 311, 312, 313, 87, 90, 923, 303, 304, 305, 306, 307, 308, 309, 96, 367, 368, 369, 354, 60, 355, 373, 374, 375, 376, 377, 378, 379, 380, 255, 257, 259, 192, 194, 196, 97, 99, 101, 103, 105, 107] (by decide +kernel)) zin_v0) zin_v1) zin_v2)
theorem inL_166 : ∀ w ∈ va_wsS RL 166 yL_matchLength wsL_matchLength, w ∈ lw_tbl := zin_app (zin [912, 913, 44] (by decide +kernel)) in_L_matchLength
set_option maxRecDepth 20000 in
theorem gdL_166 : GoodIn (va_wsS RL 166 yL_matchLength wsL_matchLength) (va_wsS RL 166 yL_matchLength wsL_matchLength) := goodIn_sub (fun w h => h) (by decide +kernel)
set_option maxRecDepth 20000 in
theorem in_X9_matchLength : ∀ w ∈ wsX9_matchLength, w ∈ lw_tbl := zin [1298, 1003, 997, 1299, 1096, 1098, 11, 52, 1099, 1049, 1051, 4, 1052, 1046, 1047, 1048, 1252, 1254, 29, 1255, 1256, 1258, 30, 1259, 1174, 1175, 1176, 1203, 1204, 1205, 1300, 1301, 1302, 1008, 1010, 1012, 1014, 1016, 1018, 1020, 1022, 1024, 1026, 1028] (by decide +kernel)
theorem inL_168 : ∀ w ∈ wsV RL 168 RX9 yX9_matchLength wsX9_matchLength, w ∈ lw_tbl := zin_app (zin [1295, 1296, 1297, 52] (by decide +kernel)) in_X9_matchLength
set_option maxRecDepth 20000 in
theorem gdL_168 : GoodIn (wsV RL 168 RX9 yX9_matchLength wsX9_matchLength) (wsV RL 168 RX9 yX9_matchLength wsX9_matchLength) := goodIn_sub (fun w h => h) (by decide +kernel)
set_option maxRecDepth 20000 in
theorem in_X8_bestNut : ∀ w ∈ wsX8_bestNut, w ∈ lw_tbl := zin [339, 252, 340, 341, 342, 46, 343, 186, 188, 124, 129, 344, 345, 346, 47, 347, 91, 95, 96, 348, 349, 350, 351, 94, 352, 310, 311, 312, 313, 87, 90, 353, 354, 60, 355, 356, 357, 358, 359, 360, 361, 362, 363, 120, 364, 365, 370, 371, 367, 45, 368, 369, 373, 374, 375, 376, 60, 377, 378, 379, 380, 381, 382, 383, 48, 384, 385, 386, 387, 388, 119, 255, 257, 259, 192, 194, 196, 145, 147, 149, 151, 153, 155, 157, 159, 161, 163, 165, 167, 97, 99, 101, 103, 105, 107] (by decide +kernel)
theorem inL_169 : ∀ w ∈ wsV RL 169 RX8 yX8_bestNut wsX8_bestNut, w ∈ lw_tbl := zin_app (zin [336, 337, 338, 45] (by decide +kernel)) in_X8_bestNut
set_option maxRecDepth 20000 in
theorem gdL_169 : GoodIn (wsV RL 169 RX8 yX8_bestNut wsX8_bestNut) (wsV RL 169 RX8 yX8_bestNut wsX8_bestNut) := goodIn_sub (fun w h => h) (by decide +kernel)
set_option maxRecDepth 20000 in
theorem in_X9_bestNut : ∀ w ∈ wsX9_bestNut, w ∈ lw_tbl := zin [1306, 1003, 1307, 1309, 32, 52, 1310, 997, 1195, 1186, 1188, 21, 1189, 1049, 1051, 4, 1052, 1190, 1192, 22, 1193, 993, 1194, 1174, 1175, 1176, 1196, 1198, 23, 1199, 1200, 1201, 1202, 1203, 1204, 1205, 1206, 1208, 24, 1209, 1215, 1216, 1210, 1212, 25, 1213, 1214, 1300, 1301, 1302, 1008, 1010, 1012, 1014, 1016, 1018, 1020, 1022, 1024, 1026, 1028] (by decide +kernel)
theorem inL_172 : ∀ w ∈ wsV RL 172 RX9 yX9_bestNut wsX9_bestNut, w ∈ lw_tbl := zin_app (zin [1303, 1304, 1305, 52] (by decide +kernel)) in_X9_bestNut
set_option maxRecDepth 20000 in
theorem gdL_172 : GoodIn (wsV RL 172 RX9 yX9_bestNut wsX9_bestNut) (wsV RL 172 RX9 yX9_bestNut wsX9_bestNut) := goodIn_sub (fun w h => h) (by decide +kernel)
set_option maxRecDepth 20000 in
theorem in_L_rangeOfRates : ∀ w ∈ wsL_rangeOfRates, w ∈ lw_tbl := (zin_ca (zin_ca (zin_ca (zin [932, 801, 933, 934, 935, 45, 936, 252, 910, 543, 544, 545, 518, 519, 647, 648, 649, 650, 56, 717, 57, 733, 58, 937, 938, 939, 46, 940, 188, 129, 941, 292, 60, 293, 942, 943, 944, 612, 613, 614, 615, 127, 186, 344, 345, 346, 47, 347, 91, 95, 96, 348, 349, 350, 351, 94, 352, 310, 311, 312, 313, 87, 90, 353, 354, 60, 355, 360, 361, 362, 363, 120, 364, 365, 370, 371, 367, 368, 369, 373, 374, 375, 376, 377, 378, 379, 380, 381, 382, 383, 48, 384, 385, 386, 387, 388, 119, 255, 257, 259, 192, 194, 196, 145, 147, 149, 151, 153, 155, 157, 159, 161, 163, 165, 167, 97, 99, 101, 103, 105, 107] (by decide +kernel)) zin_v0) zin_v1) zin_v2)
theorem inL_173 : ∀ w ∈ va_wsS RL 173 yL_rangeOfRates wsL_rangeOfRates, w ∈ lw_tbl := zin_app (zin [930, 931, 44] (by decide +kernel)) in_L_rangeOfRates
set_option maxRecDepth 20000 in
theorem gdL_173 : GoodIn (va_wsS RL 173 yL_rangeOfRates wsL_rangeOfRates) (va_wsS RL 173 yL_rangeOfRates wsL_rangeOfRates) := goodIn_sub (fun w h => h) (by decide +kernel)
set_option maxRecDepth 20000 in
theorem in_X9_rangeOfRates : ∀ w ∈ wsX9_rangeOfRates, w ∈ lw_tbl := zin [1314, 1003, 1118, 1119, 52, 1120, 1046, 1047, 1048, 1182, 1184, 20, 1185, 1195, 997, 1186, 1188, 21, 1189, 1049, 1051, 4, 1052, 1190, 1192, 22, 1193, 993, 1194, 1174, 1175, 1176, 1196, 1198, 23, 1199, 1200, 1201, 1202, 1203, 1204, 1205, 1206, 1208, 24, 1209, 1215, 1216, 1210, 1212, 25, 1213, 1214, 1008, 1010, 1012, 1014, 1016, 1018, 1020, 1022, 1024, 1026, 1028] (by decide +kernel)
theorem inL_175 : ∀ w ∈ wsV RL 175 RX9 yX9_rangeOfRates wsX9_rangeOfRates, w ∈ lw_tbl := zin_app (zin [1311, 1312, 1313, 52] (by decide +kernel)) in_X9_rangeOfRates
set_option maxRecDepth 20000 in
theorem gdL_175 : GoodIn (wsV RL 175 RX9 yX9_rangeOfRates wsX9_rangeOfRates) (wsV RL 175 RX9 yX9_rangeOfRates wsX9_rangeOfRates) := goodIn_sub (fun w h => h) (by decide +kernel)
set_option maxRecDepth 20000 in
theorem in_L_changeWithin : ∀ w ∈ wsL_changeWithin, w ∈ lw_tbl := (zin_ca (zin_ca (zin_ca (zin [947, 801, 948, 949, 950, 45, 951, 252, 545, 518, 519, 647, 648, 649, 650, 56, 717, 57, 733, 58, 952, 953, 954, 46, 955, 188, 124, 129, 603, 604, 605, 48, 606, 121, 119, 607, 608, 609, 610, 118, 367, 368, 369, 354, 60, 355, 612, 613, 614, 615, 127, 186, 344, 345, 346, 47, 347, 91, 95, 96, 348, 349, 350, 351, 94, 352, 310, 311, 312, 313, 87, 90, 353, 360, 361, 362, 363, 120, 364, 365, 370, 371, 373, 374, 375, 376, 60, 377, 378, 379, 380, 381, 382, 383, 384, 385, 386, 387, 388, 255, 257, 259, 192, 194, 196, 145, 147, 149, 151, 153, 155, 157, 159, 161, 163, 165, 167, 97, 99, 101, 103, 105, 107] (by decide +kernel)) zin_v0) zin_v1) zin_v2)
