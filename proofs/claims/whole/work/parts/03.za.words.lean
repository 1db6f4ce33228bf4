/-! the words that the law's calls need, in the tables -/
theorem zin {ws : List Cond} (ps : List Nat) (h : ws = ps.filterMap (fun i => lw_tbl[i]?)) : ∀ w ∈ ws, w ∈ lw_tbl := by
  intro w hw
  rw [h] at hw
  obtain ⟨i, -, hi⟩ := List.mem_filterMap.mp hw
  first | exact List.mem_of_getElem? hi | exact List.getElem?_mem hi
theorem zin_app {a b : List Cond} (ha : ∀ w ∈ a, w ∈ lw_tbl) (hb : ∀ w ∈ b, w ∈ lw_tbl) : ∀ w ∈ a ++ b, w ∈ lw_tbl := fun w h => (List.mem_append.mp h).elim (ha w) (hb w)
theorem zin_ca {c : Cond} {a b : List Cond} (ha : ∀ w ∈ c :: a, w ∈ lw_tbl) (hb : ∀ w ∈ b, w ∈ lw_tbl) : ∀ w ∈ c :: (a ++ b), w ∈ lw_tbl := fun w h => (List.mem_cons.mp h).elim (fun e => ha w (List.mem_cons.mpr (Or.inl e))) (fun h => (List.mem_append.mp h).elim (fun h => ha w (List.mem_cons.mpr (Or.inr h))) (hb w))
theorem zin_v0 : ∀ w ∈ (vx_atS RX8 286 "java/lang/IndexOutOfBoundsException" ["java/lang/RuntimeException", "java/lang/Exception"]).filter goodWord, w ∈ lw_tbl := by decide +kernel
theorem zin_v1 : ∀ w ∈ (vx_atS RX8 293 "java/lang/IllegalArgumentException" ["java/lang/RuntimeException", "java/lang/Exception"]).filter goodWord, w ∈ lw_tbl := by decide +kernel
theorem zin_v2 : ∀ w ∈ (vx_atS RX8 298 "java/lang/IllegalStateException" ["java/lang/RuntimeException", "java/lang/Exception"]).filter goodWord, w ∈ lw_tbl := by decide +kernel
set_option maxRecDepth 20000 in
theorem in_X8_init : ∀ w ∈ wsX8_init, w ∈ lw_tbl := zin [71, 72, 73, 74, 75, 76, 46, 252, 199, 200, 50, 253, 219, 220, 51, 254, 78, 79, 80, 81, 82, 47, 186, 111, 112, 48, 188, 170, 171, 49, 190, 83, 84, 85, 86, 87, 110, 90, 94, 95, 96, 113, 114, 115, 116, 118, 119, 123, 128, 117, 173, 174, 175, 185, 179, 201, 202, 203, 204, 205, 208, 222, 223, 224, 251, 225, 192, 194, 196, 255, 257, 259, 212, 214, 216, 236, 238, 240, 242, 244, 246, 248, 97, 99, 101, 103, 105, 107, 145, 147, 149, 151, 153, 155, 157, 159, 161, 163, 165, 167, 180, 182] (by decide +kernel)
set_option maxRecDepth 20000 in
theorem in_X9_init : ∀ w ∈ wsX9_init, w ∈ lw_tbl := zin [987, 988, 73, 74, 185, 997, 998, 999, 110, 1001, 1006, 989, 990, 991, 992, 993, 994, 995, 996, 1008, 1010, 1012, 1014, 1016, 1018, 1020, 1022, 1024, 1026, 1028] (by decide +kernel)
set_option maxRecDepth 20000 in
theorem in_L_addMetal : ∀ w ∈ wsL_addMetal, w ∈ lw_tbl := (zin_ca (zin_ca (zin_ca (zin [800, 801, 802, 803, 804, 805, 45, 806, 252, 187, 253, 513, 514, 515, 47, 516, 87, 518, 519, 647, 648, 649, 650, 56, 717, 57, 733, 58, 266, 267, 268, 50, 269, 208, 209, 210, 291, 292, 60, 293, 270, 271, 272, 46, 273, 186, 188, 190, 274, 275, 276, 277, 90, 278, 280, 279, 59, 91, 94, 95, 96, 281, 282, 283, 48, 284, 118, 285, 119, 121, 123, 126, 128, 131, 133, 136, 138, 141, 143, 286, 287, 288, 49, 289, 176, 179, 290, 571, 572, 573, 574, 255, 257, 259, 192, 194, 196, 97, 99, 101, 103, 105, 107, 212, 214, 216, 145, 147, 149, 151, 153, 155, 157, 159, 161, 163, 165, 167, 180, 182] (by decide +kernel)) zin_v0) zin_v1) zin_v2)
theorem inL_88 : ∀ w ∈ va_wsS RL 88 yL_addMetal wsL_addMetal, w ∈ lw_tbl := zin_app (zin [798, 799, 44] (by decide +kernel)) in_L_addMetal
set_option maxRecDepth 20000 in
theorem gdL_88 : GoodIn (va_wsS RL 88 yL_addMetal wsL_addMetal) (va_wsS RL 88 yL_addMetal wsL_addMetal) := goodIn_sub (fun w h => h) (by decide +kernel)
set_option maxRecDepth 20000 in
theorem in_X9_addMetal : ∀ w ∈ wsX9_addMetal, w ∈ lw_tbl := zin [1038, 1003, 1039, 1041, 3, 52, 1042, 1043, 1044, 1045, 1046, 1047, 1048, 1049, 1051, 4, 1052, 997, 1053, 1055, 5, 1056, 1000, 999, 1057, 1058, 1059, 1060, 1062, 6, 1063, 1008, 1010, 1012, 1014, 1016, 1018, 1020, 1022, 1024, 1026, 1028] (by decide +kernel)
theorem inL_93 : ∀ w ∈ wsV RL 93 RX9 yX9_addMetal wsX9_addMetal, w ∈ lw_tbl := zin_app (zin [1035, 1036, 1037, 52] (by decide +kernel)) in_X9_addMetal
set_option maxRecDepth 20000 in
theorem gdL_93 : GoodIn (wsV RL 93 RX9 yX9_addMetal wsX9_addMetal) (wsV RL 93 RX9 yX9_addMetal wsX9_addMetal) := goodIn_sub (fun w h => h) (by decide +kernel)
set_option maxRecDepth 20000 in
theorem in_X9_thrown : ∀ w ∈ wsX9_thrown, w ∈ lw_tbl := zin [1034, 1003, 1008, 1010, 1012, 1014, 1016, 1018, 1020, 1022, 1024, 1026, 1028] (by decide +kernel)
theorem inL_94 : ∀ w ∈ wsV RL 94 RX9 yX9_thrown wsX9_thrown, w ∈ lw_tbl := zin_app (zin [1031, 1032, 1033, 52] (by decide +kernel)) in_X9_thrown
set_option maxRecDepth 20000 in
theorem gdL_94 : GoodIn (wsV RL 94 RX9 yX9_thrown wsX9_thrown) (wsV RL 94 RX9 yX9_thrown wsX9_thrown) := goodIn_sub (fun w h => h) (by decide +kernel)
set_option maxRecDepth 20000 in
theorem in_L_setStretch : ∀ w ∈ wsL_setStretch, w ∈ lw_tbl := (zin_ca (zin_ca (zin_ca (zin [809, 810, 801, 811, 812, 813, 45, 814, 252, 187, 253, 815, 816, 817, 47, 818, 524, 525, 526, 527, 87, 518, 519, 647, 648, 649, 650, 56, 717, 57, 733, 58, 266, 267, 268, 50, 269, 208, 209, 210, 291, 292, 60, 293, 270, 271, 272, 46, 273, 186, 188, 190, 274, 275, 276, 277, 90, 278, 280, 279, 59, 91, 94, 95, 96, 281, 282, 283, 48, 284, 118, 285, 119, 121, 123, 126, 128, 131, 133, 136, 138, 141, 143, 286, 287, 288, 49, 289, 176, 179, 290, 819, 820, 821, 822, 255, 257, 259, 192, 194, 196, 97, 99, 101, 103, 105, 107, 212, 214, 216, 145, 147, 149, 151, 153, 155, 157, 159, 161, 163, 165, 167, 180, 182] (by decide +kernel)) zin_v0) zin_v1) zin_v2)
theorem inL_97 : ∀ w ∈ va_wsS RL 97 yL_setStretch wsL_setStretch, w ∈ lw_tbl := zin_app (zin [807, 808, 44] (by decide +kernel)) in_L_setStretch
set_option maxRecDepth 20000 in
theorem gdL_97 : GoodIn (va_wsS RL 97 yL_setStretch wsL_setStretch) (va_wsS RL 97 yL_setStretch wsL_setStretch) := goodIn_sub (fun w h => h) (by decide +kernel)
set_option maxRecDepth 20000 in
theorem in_X9_setStretch : ∀ w ∈ wsX9_setStretch, w ∈ lw_tbl := zin [1067, 1003, 1068, 1070, 7, 52, 1071, 1049, 1051, 4, 1052, 997, 1046, 1047, 1048, 1043, 1044, 1045, 1053, 1055, 5, 1056, 1000, 999, 1057, 1058, 1059, 1072, 1074, 8, 1075, 1008, 1010, 1012, 1014, 1016, 1018, 1020, 1022, 1024, 1026, 1028] (by decide +kernel)
theorem inL_100 : ∀ w ∈ wsV RL 100 RX9 yX9_setStretch wsX9_setStretch, w ∈ lw_tbl := zin_app (zin [1064, 1065, 1066, 52] (by decide +kernel)) in_X9_setStretch
set_option maxRecDepth 20000 in
theorem gdL_100 : GoodIn (wsV RL 100 RX9 yX9_setStretch wsX9_setStretch) (wsV RL 100 RX9 yX9_setStretch wsX9_setStretch) := goodIn_sub (fun w h => h) (by decide +kernel)
set_option maxRecDepth 20000 in
theorem in_L_addRod : ∀ w ∈ wsL_addRod, w ∈ lw_tbl := (zin_ca (zin_ca (zin_ca (zin [825, 810, 801, 802, 826, 827, 828, 45, 829, 252, 187, 253, 520, 521, 522, 47, 523, 528, 91, 524, 525, 526, 527, 87, 518, 519, 647, 648, 649, 650, 56, 717, 57, 733, 58, 266, 267, 268, 50, 269, 208, 209, 210, 291, 292, 60, 293, 270, 271, 272, 46, 273, 186, 188, 190, 274, 275, 276, 277, 90, 278, 280, 279, 59, 94, 95, 96, 281, 282, 283, 48, 284, 118, 285, 119, 121, 123, 126, 128, 131, 133, 136, 138, 141, 143, 286, 287, 288, 49, 289, 176, 179, 290, 575, 576, 577, 578, 255, 257, 259, 192, 194, 196, 97, 99, 101, 103, 105, 107, 212, 214, 216, 145, 147, 149, 151, 153, 155, 157, 159, 161, 163, 165, 167, 180, 182] (by decide +kernel)) zin_v0) zin_v1) zin_v2)
theorem inL_101 : ∀ w ∈ va_wsS RL 101 yL_addRod wsL_addRod, w ∈ lw_tbl := zin_app (zin [823, 824, 44] (by decide +kernel)) in_L_addRod
set_option maxRecDepth 20000 in
theorem gdL_101 : GoodIn (va_wsS RL 101 yL_addRod wsL_addRod) (va_wsS RL 101 yL_addRod wsL_addRod) := goodIn_sub (fun w h => h) (by decide +kernel)
set_option maxRecDepth 20000 in
theorem in_X9_addRod : ∀ w ∈ wsX9_addRod, w ∈ lw_tbl := zin [1079, 1003, 1080, 1082, 9, 52, 1083, 1068, 1070, 7, 1071, 1049, 1051, 4, 1052, 997, 1046, 1047, 1048, 1084, 1085, 1086, 1087, 1053, 1055, 5, 1056, 1000, 999, 1057, 1058, 1059, 1088, 1090, 10, 1091, 1008, 1010, 1012, 1014, 1016, 1018, 1020, 1022, 1024, 1026, 1028] (by decide +kernel)
theorem inL_104 : ∀ w ∈ wsV RL 104 RX9 yX9_addRod wsX9_addRod, w ∈ lw_tbl := zin_app (zin [1076, 1077, 1078, 52] (by decide +kernel)) in_X9_addRod
set_option maxRecDepth 20000 in
theorem gdL_104 : GoodIn (wsV RL 104 RX9 yX9_addRod wsX9_addRod) (wsV RL 104 RX9 yX9_addRod wsX9_addRod) := goodIn_sub (fun w h => h) (by decide +kernel)
set_option maxRecDepth 20000 in
theorem in_L_removeRod : ∀ w ∈ wsL_removeRod, w ∈ lw_tbl := (zin_ca (zin_ca (zin_ca (zin [832, 810, 833, 834, 835, 45, 836, 252, 187, 253, 779, 780, 781, 47, 782, 533, 534, 535, 536, 91, 518, 519, 647, 648, 649, 650, 56, 717, 57, 733, 58, 266, 267, 268, 50, 269, 208, 209, 210, 291, 292, 60, 293, 270, 271, 272, 46, 273, 186, 188, 190, 274, 275, 276, 277, 87, 90, 278, 280, 279, 59, 94, 95, 96, 281, 282, 283, 48, 284, 118, 285, 119, 121, 123, 126, 128, 131, 133, 136, 138, 141, 143, 286, 287, 288, 49, 289, 176, 179, 290, 837, 838, 839, 840, 255, 257, 259, 192, 194, 196, 97, 99, 101, 103, 105, 107, 212, 214, 216, 145, 147, 149, 151, 153, 155, 157, 159, 161, 163, 165, 167, 180, 182] (by decide +kernel)) zin_v0) zin_v1) zin_v2)
theorem inL_105 : ∀ w ∈ va_wsS RL 105 yL_removeRod wsL_removeRod, w ∈ lw_tbl := zin_app (zin [830, 831, 44] (by decide +kernel)) in_L_removeRod
set_option maxRecDepth 20000 in
theorem gdL_105 : GoodIn (va_wsS RL 105 yL_removeRod wsL_removeRod) (va_wsS RL 105 yL_removeRod wsL_removeRod) := goodIn_sub (fun w h => h) (by decide +kernel)
set_option maxRecDepth 20000 in
theorem in_X9_removeRod : ∀ w ∈ wsX9_removeRod, w ∈ lw_tbl := zin [1095, 1003, 997, 1096, 1098, 11, 52, 1099, 1049, 1051, 4, 1052, 1046, 1047, 1048, 1053, 1055, 5, 1056, 1000, 999, 1057, 1058, 1059, 1008, 1010, 1012, 1014, 1016, 1018, 1020, 1022, 1024, 1026, 1028] (by decide +kernel)
theorem inL_107 : ∀ w ∈ wsV RL 107 RX9 yX9_removeRod wsX9_removeRod, w ∈ lw_tbl := zin_app (zin [1092, 1093, 1094, 52] (by decide +kernel)) in_X9_removeRod
set_option maxRecDepth 20000 in
theorem gdL_107 : GoodIn (wsV RL 107 RX9 yX9_removeRod wsX9_removeRod) (wsV RL 107 RX9 yX9_removeRod wsX9_removeRod) := goodIn_sub (fun w h => h) (by decide +kernel)
set_option maxRecDepth 20000 in
theorem in_L_setLength : ∀ w ∈ wsL_setLength, w ∈ lw_tbl := (zin_ca (zin_ca (zin_ca (zin [843, 810, 801, 844, 845, 846, 45, 847, 252, 187, 253, 529, 530, 531, 47, 532, 528, 533, 534, 535, 536, 91, 518, 519, 647, 648, 649, 650, 56, 717, 57, 733, 58, 266, 267, 268, 50, 269, 208, 209, 210, 291, 292, 60, 293, 270, 271, 272, 46, 273, 186, 188, 190, 274, 275, 276, 277, 87, 90, 278, 280, 279, 59, 94, 95, 96, 281, 282, 283, 48, 284, 118, 285, 119, 121, 123, 126, 128, 131, 133, 136, 138, 141, 143, 286, 287, 288, 49, 289, 176, 179, 290, 579, 580, 581, 582, 255, 257, 259, 192, 194, 196, 97, 99, 101, 103, 105, 107, 212, 214, 216, 145, 147, 149, 151, 153, 155, 157, 159, 161, 163, 165, 167, 180, 182] (by decide +kernel)) zin_v0) zin_v1) zin_v2)
theorem inL_108 : ∀ w ∈ va_wsS RL 108 yL_setLength wsL_setLength, w ∈ lw_tbl := zin_app (zin [841, 842, 44] (by decide +kernel)) in_L_setLength
set_option maxRecDepth 20000 in
theorem gdL_108 : GoodIn (va_wsS RL 108 yL_setLength wsL_setLength) (va_wsS RL 108 yL_setLength wsL_setLength) := goodIn_sub (fun w h => h) (by decide +kernel)
set_option maxRecDepth 20000 in
theorem in_X9_setLength : ∀ w ∈ wsX9_setLength, w ∈ lw_tbl := zin [1103, 1003, 1104, 1106, 12, 52, 1107, 1096, 1098, 11, 1099, 1049, 1051, 4, 1052, 997, 1046, 1047, 1048, 1084, 1085, 1086, 1087, 1053, 1055, 5, 1056, 1000, 999, 1057, 1058, 1059, 1072, 1074, 8, 1075, 1008, 1010, 1012, 1014, 1016, 1018, 1020, 1022, 1024, 1026, 1028] (by decide +kernel)
theorem inL_110 : ∀ w ∈ wsV RL 110 RX9 yX9_setLength wsX9_setLength, w ∈ lw_tbl := zin_app (zin [1100, 1101, 1102, 52] (by decide +kernel)) in_X9_setLength
set_option maxRecDepth 20000 in
theorem gdL_110 : GoodIn (wsV RL 110 RX9 yX9_setLength wsX9_setLength) (wsV RL 110 RX9 yX9_setLength wsX9_setLength) := goodIn_sub (fun w h => h) (by decide +kernel)
set_option maxRecDepth 20000 in
theorem in_L_setShelf : ∀ w ∈ wsL_setShelf, w ∈ lw_tbl := (zin_ca (zin_ca (zin_ca (zin [850, 810, 801, 851, 852, 853, 45, 854, 252, 189, 253, 537, 538, 539, 48, 540, 518, 519, 543, 544, 545, 647, 648, 649, 650, 56, 717, 57, 733, 58, 266, 267, 268, 50, 269, 208, 209, 210, 291, 292, 60, 293, 270, 271, 272, 46, 273, 186, 188, 190, 274, 275, 276, 47, 277, 87, 90, 278, 280, 279, 59, 91, 94, 95, 96, 281, 282, 283, 284, 118, 285, 119, 121, 123, 126, 128, 131, 133, 136, 138, 141, 143, 286, 287, 288, 49, 289, 176, 179, 290, 583, 584, 585, 586, 255, 257, 259, 192, 194, 196, 212, 214, 216, 97, 99, 101, 103, 105, 107, 145, 147, 149, 151, 153, 155, 157, 159, 161, 163, 165, 167, 180, 182] (by decide +kernel)) zin_v0) zin_v1) zin_v2)
theorem inL_111 : ∀ w ∈ va_wsS RL 111 yL_setShelf wsL_setShelf, w ∈ lw_tbl := zin_app (zin [848, 849, 44] (by decide +kernel)) in_L_setShelf
set_option maxRecDepth 20000 in
theorem gdL_111 : GoodIn (va_wsS RL 111 yL_setShelf wsL_setShelf) (va_wsS RL 111 yL_setShelf wsL_setShelf) := goodIn_sub (fun w h => h) (by decide +kernel)
set_option maxRecDepth 20000 in
theorem in_X9_setShelf : ∀ w ∈ wsX9_setShelf, w ∈ lw_tbl := zin [1111, 1003, 1112, 1113, 52, 1114, 1115, 1116, 1117, 1046, 1047, 1048, 1118, 1119, 1120, 1053, 1055, 5, 1056, 1000, 999, 997, 1057, 1058, 1059, 1072, 1074, 8, 1075, 1049, 1051, 4, 1052, 1008, 1010, 1012, 1014, 1016, 1018, 1020, 1022, 1024, 1026, 1028] (by decide +kernel)
theorem inL_113 : ∀ w ∈ wsV RL 113 RX9 yX9_setShelf wsX9_setShelf, w ∈ lw_tbl := zin_app (zin [1108, 1109, 1110, 52] (by decide +kernel)) in_X9_setShelf
set_option maxRecDepth 20000 in
theorem gdL_113 : GoodIn (wsV RL 113 RX9 yX9_setShelf wsX9_setShelf) (wsV RL 113 RX9 yX9_setShelf wsX9_setShelf) := goodIn_sub (fun w h => h) (by decide +kernel)
set_option maxRecDepth 20000 in
theorem in_L_hang : ∀ w ∈ wsL_hang, w ∈ lw_tbl := (zin_ca (zin_ca (zin_ca (zin [857, 810, 858, 859, 860, 45, 861, 252, 189, 253, 546, 547, 548, 48, 549, 518, 519, 647, 648, 649, 650, 56, 717, 57, 733, 58, 266, 267, 268, 50, 269, 208, 209, 210, 291, 292, 60, 293, 270, 271, 272, 46, 273, 186, 188, 190, 274, 275, 276, 47, 277, 87, 90, 278, 280, 279, 59, 91, 94, 95, 96, 281, 282, 283, 284, 118, 285, 119, 121, 123, 126, 128, 131, 133, 136, 138, 141, 143, 286, 287, 288, 49, 289, 176, 179, 290, 587, 588, 589, 590, 255, 257, 259, 192, 194, 196, 212, 214, 216, 97, 99, 101, 103, 105, 107, 145, 147, 149, 151, 153, 155, 157, 159, 161, 163, 165, 167, 180, 182] (by decide +kernel)) zin_v0) zin_v1) zin_v2)
theorem inL_114 : ∀ w ∈ va_wsS RL 114 yL_hang wsL_hang, w ∈ lw_tbl := zin_app (zin [855, 856, 44] (by decide +kernel)) in_L_hang
set_option maxRecDepth 20000 in
theorem gdL_114 : GoodIn (va_wsS RL 114 yL_hang wsL_hang) (va_wsS RL 114 yL_hang wsL_hang) := goodIn_sub (fun w h => h) (by decide +kernel)
set_option maxRecDepth 20000 in
theorem in_X9_hang : ∀ w ∈ wsX9_hang, w ∈ lw_tbl := zin [1124, 1003, 1125, 1126, 52, 1127, 1115, 1116, 1117, 1046, 1047, 1048, 1053, 1055, 5, 1056, 1000, 999, 997, 1057, 1058, 1059, 1072, 1074, 8, 1075, 1049, 1051, 4, 1052, 1008, 1010, 1012, 1014, 1016, 1018, 1020, 1022, 1024, 1026, 1028] (by decide +kernel)
theorem inL_116 : ∀ w ∈ wsV RL 116 RX9 yX9_hang wsX9_hang, w ∈ lw_tbl := zin_app (zin [1121, 1122, 1123, 52] (by decide +kernel)) in_X9_hang
set_option maxRecDepth 20000 in
theorem gdL_116 : GoodIn (wsV RL 116 RX9 yX9_hang wsX9_hang) (wsV RL 116 RX9 yX9_hang wsX9_hang) := goodIn_sub (fun w h => h) (by decide +kernel)
set_option maxRecDepth 20000 in
theorem in_L_turnNut : ∀ w ∈ wsL_turnNut, w ∈ lw_tbl := (zin_ca (zin_ca (zin_ca (zin [864, 801, 802, 865, 866, 867, 45, 868, 252, 189, 253, 550, 551, 552, 48, 553, 126, 518, 519, 647, 648, 649, 650, 56, 717, 57, 733, 58, 266, 267, 268, 50, 269, 208, 209, 210, 291, 292, 60, 293, 270, 271, 272, 46, 273, 186, 188, 190, 274, 275, 276, 47, 277, 87, 90, 278, 280, 279, 59, 91, 94, 95, 96, 281, 282, 283, 284, 118, 285, 119, 121, 123, 128, 131, 133, 136, 138, 141, 143, 286, 287, 288, 49, 289, 176, 179, 290, 591, 592, 593, 594, 255, 257, 259, 192, 194, 196, 145, 147, 149, 151, 153, 155, 157, 159, 161, 163, 165, 167, 212, 214, 216, 97, 99, 101, 103, 105, 107, 180, 182] (by decide +kernel)) zin_v0) zin_v1) zin_v2)
theorem inL_117 : ∀ w ∈ va_wsS RL 117 yL_turnNut wsL_turnNut, w ∈ lw_tbl := zin_app (zin [862, 863, 44] (by decide +kernel)) in_L_turnNut
set_option maxRecDepth 20000 in
theorem gdL_117 : GoodIn (va_wsS RL 117 yL_turnNut wsL_turnNut) (va_wsS RL 117 yL_turnNut wsL_turnNut) := goodIn_sub (fun w h => h) (by decide +kernel)
set_option maxRecDepth 20000 in
theorem in_X9_turnNut : ∀ w ∈ wsX9_turnNut, w ∈ lw_tbl := zin [1131, 1003, 1132, 1134, 13, 52, 1135, 1046, 1047, 1048, 1049, 1051, 4, 1052, 997, 1053, 1055, 5, 1056, 1000, 999, 1057, 1058, 1059, 1136, 1138, 14, 1139, 1008, 1010, 1012, 1014, 1016, 1018, 1020, 1022, 1024, 1026, 1028] (by decide +kernel)
theorem inL_119 : ∀ w ∈ wsV RL 119 RX9 yX9_turnNut wsX9_turnNut, w ∈ lw_tbl := zin_app (zin [1128, 1129, 1130, 52] (by decide +kernel)) in_X9_turnNut
set_option maxRecDepth 20000 in
theorem gdL_119 : GoodIn (wsV RL 119 RX9 yX9_turnNut wsX9_turnNut) (wsV RL 119 RX9 yX9_turnNut wsX9_turnNut) := goodIn_sub (fun w h => h) (by decide +kernel)
set_option maxRecDepth 20000 in
theorem in_X8_wind : ∀ w ∈ wsX8_wind, w ∈ lw_tbl := zin [265, 253, 252, 189, 266, 267, 268, 50, 269, 208, 209, 210, 291, 292, 60, 293, 270, 271, 272, 46, 273, 186, 188, 190, 274, 275, 276, 47, 277, 87, 90, 278, 280, 279, 59, 91, 94, 95, 96, 281, 282, 283, 48, 284, 118, 285, 119, 121, 123, 126, 128, 131, 133, 136, 138, 141, 143, 286, 287, 288, 49, 289, 176, 179, 290, 294, 295, 296, 297, 255, 257, 259, 192, 194, 196, 212, 214, 216, 97, 99, 101, 103, 105, 107, 145, 147, 149, 151, 153, 155, 157, 159, 161, 163, 165, 167, 180, 182] (by decide +kernel)
theorem inL_120 : ∀ w ∈ wsV RL 120 RX8 yX8_wind wsX8_wind, w ∈ lw_tbl := zin_app (zin [262, 263, 264, 45] (by decide +kernel)) in_X8_wind
set_option maxRecDepth 20000 in
theorem gdL_120 : GoodIn (wsV RL 120 RX8 yX8_wind wsX8_wind) (wsV RL 120 RX8 yX8_wind wsX8_wind) := goodIn_sub (fun w h => h) (by decide +kernel)
set_option maxRecDepth 20000 in
theorem in_X9_wind : ∀ w ∈ wsX9_wind, w ∈ lw_tbl := zin [1143, 1003, 1053, 1055, 5, 52, 1056, 1000, 999, 997, 1057, 1058, 1059, 1072, 1074, 8, 1075, 1049, 1051, 4, 1052, 1008, 1010, 1012, 1014, 1016, 1018, 1020, 1022, 1024, 1026, 1028] (by decide +kernel)
theorem inL_123 : ∀ w ∈ wsV RL 123 RX9 yX9_wind wsX9_wind, w ∈ lw_tbl := zin_app (zin [1140, 1141, 1142, 52] (by decide +kernel)) in_X9_wind
set_option maxRecDepth 20000 in
theorem gdL_123 : GoodIn (wsV RL 123 RX9 yX9_wind wsX9_wind) (wsV RL 123 RX9 yX9_wind wsX9_wind) := goodIn_sub (fun w h => h) (by decide +kernel)
set_option maxRecDepth 20000 in
theorem in_L_set : ∀ w ∈ wsL_set, w ∈ lw_tbl := (zin_ca (zin_ca (zin_ca (zin [871, 801, 872, 873, 874, 45, 875, 252, 189, 253, 554, 555, 556, 48, 557, 518, 519, 647, 648, 649, 650, 56, 717, 57, 733, 58, 266, 267, 268, 50, 269, 208, 209, 210, 291, 292, 60, 293, 270, 271, 272, 46, 273, 186, 188, 190, 274, 275, 276, 47, 277, 87, 90, 278, 280, 279, 59, 91, 94, 95, 96, 281, 282, 283, 284, 118, 285, 119, 121, 123, 126, 128, 131, 133, 136, 138, 141, 143, 286, 287, 288, 49, 289, 176, 179, 290, 595, 596, 597, 598, 255, 257, 259, 192, 194, 196, 212, 214, 216, 97, 99, 101, 103, 105, 107, 145, 147, 149, 151, 153, 155, 157, 159, 161, 163, 165, 167, 180, 182] (by decide +kernel)) zin_v0) zin_v1) zin_v2)
theorem inL_124 : ∀ w ∈ va_wsS RL 124 yL_set wsL_set, w ∈ lw_tbl := zin_app (zin [869, 870, 44] (by decide +kernel)) in_L_set
set_option maxRecDepth 20000 in
theorem gdL_124 : GoodIn (va_wsS RL 124 yL_set wsL_set) (va_wsS RL 124 yL_set wsL_set) := goodIn_sub (fun w h => h) (by decide +kernel)
set_option maxRecDepth 20000 in
theorem in_X9_set : ∀ w ∈ wsX9_set, w ∈ lw_tbl := zin [1147, 1003, 1148, 1149, 52, 1150, 1151, 1152, 1046, 1047, 1048, 1053, 1055, 5, 1056, 1000, 999, 997, 1057, 1058, 1059, 1072, 1074, 8, 1075, 1049, 1051, 4, 1052, 1008, 1010, 1012, 1014, 1016, 1018, 1020, 1022, 1024, 1026, 1028] (by decide +kernel)
theorem inL_126 : ∀ w ∈ wsV RL 126 RX9 yX9_set wsX9_set, w ∈ lw_tbl := zin_app (zin [1144, 1145, 1146, 52] (by decide +kernel)) in_X9_set
set_option maxRecDepth 20000 in
theorem gdL_126 : GoodIn (wsV RL 126 RX9 yX9_set wsX9_set) (wsV RL 126 RX9 yX9_set wsX9_set) := goodIn_sub (fun w h => h) (by decide +kernel)
set_option maxRecDepth 20000 in
theorem in_L_pass : ∀ w ∈ wsL_pass, w ∈ lw_tbl := (zin_ca (zin_ca (zin_ca (zin [878, 801, 802, 879, 880, 881, 45, 882, 252, 189, 253, 562, 563, 564, 48, 565, 131, 566, 518, 519, 647, 648, 649, 650, 56, 717, 57, 733, 58, 266, 267, 268, 50, 269, 208, 209, 210, 291, 292, 60, 293, 270, 271, 272, 46, 273, 186, 188, 190, 274, 275, 276, 47, 277, 87, 90, 278, 280, 279, 59, 91, 94, 95, 96, 281, 282, 283, 284, 118, 285, 119, 121, 123, 126, 128, 133, 136, 138, 141, 143, 286, 287, 288, 49, 289, 176, 179, 290, 599, 600, 601, 602, 124, 129, 139, 134, 137, 132, 603, 604, 605, 606, 607, 608, 609, 610, 367, 368, 369, 354, 60, 355, 612, 613, 614, 615, 127, 344, 345, 346, 347, 348, 349, 350, 351, 352, 310, 311, 312, 313, 353, 360, 361, 362, 363, 120, 364, 365, 370, 371, 373, 374, 375, 376, 377, 378, 379, 380, 381, 382, 383, 384, 385, 386, 387, 388, 616, 617, 618, 619, 142, 144, 620, 621, 622, 623, 624, 625, 626, 627, 628, 629, 631, 632, 630, 255, 257, 259, 192, 194, 196, 145, 147, 149, 151, 153, 155, 157, 159, 161, 163, 165, 167, 212, 214, 216, 97, 99, 101, 103, 105, 107, 180, 182] (by decide +kernel)) zin_v0) zin_v1) zin_v2)
theorem inL_127 : ∀ w ∈ va_wsS RL 127 yL_pass wsL_pass, w ∈ lw_tbl := zin_app (zin [876, 877, 44] (by decide +kernel)) in_L_pass
set_option maxRecDepth 20000 in
theorem gdL_127 : GoodIn (va_wsS RL 127 yL_pass wsL_pass) (va_wsS RL 127 yL_pass wsL_pass) := goodIn_sub (fun w h => h) (by decide +kernel)
set_option maxRecDepth 20000 in
theorem in_X9_pass : ∀ w ∈ wsX9_pass, w ∈ lw_tbl := zin [1156, 1003, 1157, 1159, 15, 52, 1160, 997, 1161, 1046, 1047, 1048, 1053, 1055, 5, 1056, 1000, 999, 1057, 1058, 1059, 1162, 1164, 16, 1165, 1217, 1222, 1223, 1166, 1168, 17, 1169, 1170, 1172, 18, 1173, 1177, 1049, 1051, 4, 1052, 1174, 1175, 1176, 1178, 1180, 19, 1181, 1182, 1184, 20, 1185, 1195, 1186, 1188, 21, 1189, 1190, 1192, 22, 1193, 993, 1194, 1196, 1198, 23, 1199, 1200, 1201, 1202, 1203, 1204, 1205, 1206, 1208, 24, 1209, 1215, 1216, 1210, 1212, 25, 1213, 1214, 1218, 1220, 26, 1221, 1008, 1010, 1012, 1014, 1016, 1018, 1020, 1022, 1024, 1026, 1028] (by decide +kernel)
theorem inL_129 : ∀ w ∈ wsV RL 129 RX9 yX9_pass wsX9_pass, w ∈ lw_tbl := zin_app (zin [1153, 1154, 1155, 52] (by decide +kernel)) in_X9_pass
set_option maxRecDepth 20000 in
theorem gdL_129 : GoodIn (wsV RL 129 RX9 yX9_pass wsX9_pass) (wsV RL 129 RX9 yX9_pass wsX9_pass) := goodIn_sub (fun w h => h) (by decide +kernel)
set_option maxRecDepth 20000 in
theorem in_L_rod : ∀ w ∈ wsL_rod, w ∈ lw_tbl := (zin_ca (zin_ca (zin_ca (zin [885, 810, 801, 886, 776, 777, 45, 778, 252, 187, 189, 125, 779, 780, 781, 47, 782, 533, 534, 535, 536, 91, 518, 519, 647, 648, 649, 650, 56, 717, 57, 733, 58, 545, 783, 784, 785, 786, 94, 95, 96, 348, 349, 350, 351, 352, 310, 311, 312, 313, 87, 90, 353, 354, 60, 355, 255, 257, 259, 192, 194, 196, 145, 147, 149, 151, 153, 155, 157, 159, 161, 163, 165, 167, 97, 99, 101, 103, 105, 107] (by decide +kernel)) zin_v0) zin_v1) zin_v2)
theorem inL_130 : ∀ w ∈ va_wsS RL 130 yL_rod wsL_rod, w ∈ lw_tbl := zin_app (zin [883, 884, 44] (by decide +kernel)) in_L_rod
set_option maxRecDepth 20000 in
theorem gdL_130 : GoodIn (va_wsS RL 130 yL_rod wsL_rod) (va_wsS RL 130 yL_rod wsL_rod) := goodIn_sub (fun w h => h) (by decide +kernel)
set_option maxRecDepth 20000 in
theorem in_X9_rod : ∀ w ∈ wsX9_rod, w ∈ lw_tbl := zin [1227, 1003, 1096, 1098, 11, 52, 1099, 1049, 1051, 4, 1052, 997, 1046, 1047, 1048, 1228, 1230, 27, 1231, 1190, 1192, 22, 1193, 993, 1194, 1174, 1175, 1176, 1008, 1010, 1012, 1014, 1016, 1018, 1020, 1022, 1024, 1026, 1028] (by decide +kernel)
theorem inL_132 : ∀ w ∈ wsV RL 132 RX9 yX9_rod wsX9_rod, w ∈ lw_tbl := zin_app (zin [1224, 1225, 1226, 52] (by decide +kernel)) in_X9_rod
set_option maxRecDepth 20000 in
theorem gdL_132 : GoodIn (wsV RL 132 RX9 yX9_rod wsX9_rod) (wsV RL 132 RX9 yX9_rod wsX9_rod) := goodIn_sub (fun w h => h) (by decide +kernel)
set_option maxRecDepth 20000 in
theorem in_L_stretch : ∀ w ∈ wsL_stretch, w ∈ lw_tbl := (zin_ca (zin_ca (zin_ca (zin [889, 810, 890, 762, 763, 45, 764, 252, 187, 765, 766, 767, 47, 768, 524, 525, 526, 527, 87, 518, 519, 647, 648, 649, 650, 56, 717, 57, 733, 58, 769, 311, 312, 313, 90, 255, 257, 259, 192, 194, 196, 97, 99, 101, 103, 105, 107] (by decide +kernel)) zin_v0) zin_v1) zin_v2)
theorem inL_133 : ∀ w ∈ va_wsS RL 133 yL_stretch wsL_stretch, w ∈ lw_tbl := zin_app (zin [887, 888, 44] (by decide +kernel)) in_L_stretch
set_option maxRecDepth 20000 in
theorem gdL_133 : GoodIn (va_wsS RL 133 yL_stretch wsL_stretch) (va_wsS RL 133 yL_stretch wsL_stretch) := goodIn_sub (fun w h => h) (by decide +kernel)
set_option maxRecDepth 20000 in
theorem in_X9_stretch : ∀ w ∈ wsX9_stretch, w ∈ lw_tbl := zin [1235, 1003, 1068, 1070, 7, 52, 1071, 1049, 1051, 4, 1052, 997, 1046, 1047, 1048, 1008, 1010, 1012, 1014, 1016, 1018, 1020, 1022, 1024, 1026, 1028] (by decide +kernel)
theorem inL_135 : ∀ w ∈ wsV RL 135 RX9 yX9_stretch wsX9_stretch, w ∈ lw_tbl := zin_app (zin [1232, 1233, 1234, 52] (by decide +kernel)) in_X9_stretch
set_option maxRecDepth 20000 in
theorem gdL_135 : GoodIn (wsV RL 135 RX9 yX9_stretch wsX9_stretch) (wsV RL 135 RX9 yX9_stretch wsX9_stretch) := goodIn_sub (fun w h => h) (by decide +kernel)
set_option maxRecDepth 20000 in
theorem in_L_shelf : ∀ w ∈ wsL_shelf, w ∈ lw_tbl := (zin_ca (zin_ca (zin_ca (zin [893, 810, 894, 771, 772, 45, 773, 252, 189, 546, 547, 548, 48, 549, 518, 519, 647, 648, 649, 650, 56, 717, 57, 733, 58, 774, 608, 609, 610, 118, 255, 257, 259, 192, 194, 196, 145, 147, 149, 151, 153, 155, 157, 159, 161, 163, 165, 167] (by decide +kernel)) zin_v0) zin_v1) zin_v2)
theorem inL_136 : ∀ w ∈ va_wsS RL 136 yL_shelf wsL_shelf, w ∈ lw_tbl := zin_app (zin [891, 892, 44] (by decide +kernel)) in_L_shelf
set_option maxRecDepth 20000 in
theorem gdL_136 : GoodIn (va_wsS RL 136 yL_shelf wsL_shelf) (va_wsS RL 136 yL_shelf wsL_shelf) := goodIn_sub (fun w h => h) (by decide +kernel)
set_option maxRecDepth 20000 in
theorem in_X9_shelf : ∀ w ∈ wsX9_shelf, w ∈ lw_tbl := zin [1239, 1003, 1115, 1116, 52, 1117, 1046, 1047, 1048, 1049, 1051, 4, 1052, 997, 1008, 1010, 1012, 1014, 1016, 1018, 1020, 1022, 1024, 1026, 1028] (by decide +kernel)
theorem inL_138 : ∀ w ∈ wsV RL 138 RX9 yX9_shelf wsX9_shelf, w ∈ lw_tbl := zin_app (zin [1236, 1237, 1238, 52] (by decide +kernel)) in_X9_shelf
set_option maxRecDepth 20000 in
theorem gdL_138 : GoodIn (wsV RL 138 RX9 yX9_shelf wsX9_shelf) (wsV RL 138 RX9 yX9_shelf wsX9_shelf) := goodIn_sub (fun w h => h) (by decide +kernel)
set_option maxRecDepth 20000 in
theorem in_L_whole : ∀ w ∈ wsL_whole, w ∈ lw_tbl := (zin_ca (zin_ca (zin_ca (zin [897, 801, 898, 644, 645, 45, 646, 254, 227, 252, 545, 518, 519, 647, 648, 649, 650, 56, 717, 57, 733, 58, 749, 750, 751, 46, 752, 186, 88, 92, 188, 122, 124, 127, 129, 132, 134, 137, 120, 190, 177, 753, 386, 387, 48, 388, 119, 381, 382, 383, 384, 385, 754, 755, 756, 757, 364, 344, 345, 346, 47, 347, 91, 95, 96, 348, 349, 350, 351, 94, 352, 310, 311, 312, 313, 87, 90, 353, 354, 60, 355, 612, 613, 614, 615, 360, 361, 362, 363, 365, 370, 371, 367, 368, 369, 373, 374, 375, 376, 60, 377, 378, 379, 380, 255, 257, 259, 236, 238, 240, 242, 244, 246, 248, 192, 194, 196, 97, 99, 101, 103, 105, 107, 145, 147, 149, 151, 153, 155, 157, 159, 161, 163, 165, 167, 180, 182] (by decide +kernel)) zin_v0) zin_v1) zin_v2)
theorem inL_139 : ∀ w ∈ va_wsS RL 139 yL_whole wsL_whole, w ∈ lw_tbl := zin_app (zin [895, 896, 44] (by decide +kernel)) in_L_whole
set_option maxRecDepth 20000 in
theorem gdL_139 : GoodIn (va_wsS RL 139 yL_whole wsL_whole) (va_wsS RL 139 yL_whole wsL_whole) := goodIn_sub (fun w h => h) (by decide +kernel)
set_option maxRecDepth 20000 in
theorem in_X9_whole : ∀ w ∈ wsX9_whole, w ∈ lw_tbl := zin [1243, 1003, 1046, 1047, 52, 1048, 1244, 1246, 28, 1247, 997, 1002, 1210, 1212, 25, 1213, 1214, 1206, 1208, 24, 1209, 1215, 1216, 1182, 1184, 20, 1185, 1195, 1186, 1188, 21, 1189, 1049, 1051, 4, 1052, 1190, 1192, 22, 1193, 993, 1194, 1174, 1175, 1176, 1178, 1180, 19, 1181, 1196, 1198, 23, 1199, 1200, 1201, 1202, 1203, 1204, 1205, 1008, 1010, 1012, 1014, 1016, 1018, 1020, 1022, 1024, 1026, 1028] (by decide +kernel)
theorem inL_141 : ∀ w ∈ wsV RL 141 RX9 yX9_whole wsX9_whole, w ∈ lw_tbl := zin_app (zin [1240, 1241, 1242, 52] (by decide +kernel)) in_X9_whole
set_option maxRecDepth 20000 in
theorem gdL_141 : GoodIn (wsV RL 141 RX9 yX9_whole wsX9_whole) (wsV RL 141 RX9 yX9_whole wsX9_whole) := goodIn_sub (fun w h => h) (by decide +kernel)
set_option maxRecDepth 20000 in
theorem in_X8_balance : ∀ w ∈ wsX8_balance, w ∈ lw_tbl := zin [301, 252, 187, 302, 303, 304, 47, 305, 91, 306, 307, 308, 309, 95, 96, 94, 310, 311, 312, 313, 87, 90, 255, 257, 259, 192, 194, 196, 97, 99, 101, 103, 105, 107] (by decide +kernel)
theorem inL_142 : ∀ w ∈ wsV RL 142 RX8 yX8_balance wsX8_balance, w ∈ lw_tbl := zin_app (zin [298, 299, 300, 45] (by decide +kernel)) in_X8_balance
