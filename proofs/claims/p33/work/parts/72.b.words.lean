theorem inL_200 : ∀ w ∈ wsV RL 200 RX8 yX8_runCommands wsX8_runCommands, w ∈ lw_tbl := zin_app (zin [255, 256, 257, 4] (by decide +kernel)) in_X8_runCommands
set_option maxRecDepth 20000 in
theorem gdL_200 : GoodIn (wsV RL 200 RX8 yX8_runCommands wsX8_runCommands) (wsV RL 200 RX8 yX8_runCommands wsX8_runCommands) := goodIn_sub (fun w h => h) (by decide +kernel)
set_option maxRecDepth 20000 in
theorem in_L_lot : ∀ w ∈ wsL_lot, w ∈ lw_tbl := zin [539, 540] (by decide +kernel)
theorem inL_203 : ∀ w ∈ va_wsS RL 203 yL_lot wsL_lot, w ∈ lw_tbl := zin_app (zin [537, 538, 3] (by decide +kernel)) in_L_lot
set_option maxRecDepth 20000 in
theorem gdL_203 : GoodIn (va_wsS RL 203 yL_lot wsL_lot) (va_wsS RL 203 yL_lot wsL_lot) := goodIn_sub (fun w h => h) (by decide +kernel)
theorem in_L_whole_r1 : ∀ w ∈ wsL_whole_r1, w ∈ lw_tbl := zin [548, 656, 773, 774, 775, 4, 776, 211, 184, 209, 403, 376, 377, 554, 555, 556, 557, 14, 624, 15, 640, 16, 777, 778] (by decide +kernel)
theorem in_L_whole_r2 : ∀ w ∈ wsL_whole_r2, w ∈ lw_tbl := zin [779, 5, 780, 143, 45, 49, 145, 79, 81, 84, 86, 89, 91, 94, 77, 147, 134, 781, 516, 517, 7, 518, 76, 511] (by decide +kernel)
theorem in_L_whole_r3 : ∀ w ∈ wsL_whole_r3, w ∈ lw_tbl := zin [512, 513, 514, 515, 782, 783, 784, 785, 497, 479, 480, 481, 6, 482, 48, 52, 53, 483, 484, 485, 486, 51, 491, 487] (by decide +kernel)
theorem in_L_whole_r4 : ∀ w ∈ wsL_whole_r4, w ∈ lw_tbl := zin [488, 489, 490, 44, 47, 492, 473, 17, 474, 475, 476, 477, 478, 493, 494, 495, 496, 498, 500, 501, 470, 471, 472, 503] (by decide +kernel)
theorem in_L_whole_r5 : ∀ w ∈ wsL_whole_r5, w ∈ lw_tbl := zin [504, 505, 506, 17, 507, 508, 509, 510] (by decide +kernel)
set_option maxRecDepth 100000 in
theorem in_L_whole : ∀ w ∈ wsL_whole, w ∈ lw_tbl := zin_cons (zin_one 772 rfl) (zin_app (zin_app (zin_app (zin_app (zin_app (zin_app (zin_app (zin_app (zin_app (zin_app in_L_whole_r1 (zin_app in_L_whole_r2 (zin_app in_L_whole_r3 (zin_app in_L_whole_r4 in_L_whole_r5)))) in_uX8) in_uX2) in_uX6) in_uX4) in_uX1) in_uX3) zin_v0) zin_v1) zin_v2)
theorem inL_93 : ∀ w ∈ va_wsS RL 93 yL_whole wsL_whole, w ∈ lw_tbl := zin_app (zin [770, 771, 3] (by decide +kernel)) in_L_whole
set_option maxRecDepth 20000 in
theorem gdL_93 : GoodIn (va_wsS RL 93 yL_whole wsL_whole) (va_wsS RL 93 yL_whole wsL_whole) := goodIn_sub (fun w h => h) (by decide +kernel)
set_option maxRecDepth 20000 in
theorem in_L_low : ∀ w ∈ wsL_low, w ∈ lw_tbl := zin [543, 544] (by decide +kernel)
theorem inL_153 : ∀ w ∈ va_wsS RL 153 yL_low wsL_low, w ∈ lw_tbl := zin_app (zin [541, 542, 3] (by decide +kernel)) in_L_low
set_option maxRecDepth 20000 in
theorem gdL_153 : GoodIn (va_wsS RL 153 yL_low wsL_low) (va_wsS RL 153 yL_low wsL_low) := goodIn_sub (fun w h => h) (by decide +kernel)
theorem in_L_addRod_r1 : ∀ w ∈ wsL_addRod_r1, w ∈ lw_tbl := zin [661, 548, 549, 674, 656, 657, 678, 679, 680, 4, 681, 209, 144, 210, 378, 379, 380, 6, 381, 386, 48, 382, 383, 384] (by decide +kernel)
theorem in_L_addRod_r2 : ∀ w ∈ wsL_addRod_r2, w ∈ lw_tbl := zin [385, 44, 376, 377, 554, 555, 556, 557, 14, 624, 15, 640, 16, 223, 224, 225, 9, 226, 165, 166, 167, 248, 249, 17] (by decide +kernel)
theorem in_L_addRod_r3 : ∀ w ∈ wsL_addRod_r3, w ∈ lw_tbl := zin [250, 227, 228, 229, 5, 230, 143, 145, 147, 231, 232, 233, 234, 47, 235, 237, 236, 18, 51, 52, 53, 238, 239, 240] (by decide +kernel)
theorem in_L_addRod_r4 : ∀ w ∈ wsL_addRod_r4, w ∈ lw_tbl := zin [7, 241, 75, 242, 76, 78, 80, 83, 85, 88, 90, 93, 95, 98, 100, 243, 244, 245, 8, 246, 133, 136, 247, 433] (by decide +kernel)
theorem in_L_addRod_r5 : ∀ w ∈ wsL_addRod_r5, w ∈ lw_tbl := zin [434, 435, 436] (by decide +kernel)
set_option maxRecDepth 100000 in
theorem in_L_addRod : ∀ w ∈ wsL_addRod, w ∈ lw_tbl := zin_cons (zin_one 677 rfl) (zin_app (zin_app (zin_app (zin_app (zin_app (zin_app (zin_app (zin_app (zin_app (zin_app in_L_addRod_r1 (zin_app in_L_addRod_r2 (zin_app in_L_addRod_r3 (zin_app in_L_addRod_r4 in_L_addRod_r5)))) in_uX8) in_uX6) in_uX4) in_uX5) in_uX1) in_uX3) zin_v0) zin_v1) zin_v2)
theorem inL_176 : ∀ w ∈ va_wsS RL 176 yL_addRod wsL_addRod, w ∈ lw_tbl := zin_app (zin [675, 676, 3] (by decide +kernel)) in_L_addRod
set_option maxRecDepth 20000 in
theorem gdL_176 : GoodIn (va_wsS RL 176 yL_addRod wsL_addRod) (va_wsS RL 176 yL_addRod wsL_addRod) := goodIn_sub (fun w h => h) (by decide +kernel)
theorem in_L_rod_r1 : ∀ w ∈ wsL_rod_r1, w ∈ lw_tbl := zin [661, 548, 674, 656, 742, 743, 744, 4, 745, 209, 144, 146, 82, 689, 690, 691, 6, 692, 391, 392, 393, 394, 48, 376] (by decide +kernel)
theorem in_L_rod_r2 : ∀ w ∈ wsL_rod_r2, w ∈ lw_tbl := zin [377, 554, 555, 556, 557, 14, 624, 15, 640, 16, 403, 746, 747, 748, 749, 51, 52, 53, 483, 484, 485, 486, 491, 487] (by decide +kernel)
theorem in_L_rod_r3 : ∀ w ∈ wsL_rod_r3, w ∈ lw_tbl := zin [488, 489, 490, 44, 47, 492, 473, 17, 474] (by decide +kernel)
set_option maxRecDepth 100000 in
theorem in_L_rod : ∀ w ∈ wsL_rod, w ∈ lw_tbl := zin_cons (zin_one 741 rfl) (zin_app (zin_app (zin_app (zin_app (zin_app (zin_app (zin_app (zin_app in_L_rod_r1 (zin_app in_L_rod_r2 in_L_rod_r3)) in_uX8) in_uX6) in_uX1) in_uX4) zin_v0) zin_v1) zin_v2)
theorem inL_98 : ∀ w ∈ va_wsS RL 98 yL_rod wsL_rod, w ∈ lw_tbl := zin_app (zin [739, 740, 3] (by decide +kernel)) in_L_rod
set_option maxRecDepth 20000 in
theorem gdL_98 : GoodIn (va_wsS RL 98 yL_rod wsL_rod) (va_wsS RL 98 yL_rod wsL_rod) := goodIn_sub (fun w h => h) (by decide +kernel)
theorem in_L_addMetal_r1 : ∀ w ∈ wsL_addMetal_r1, w ∈ lw_tbl := zin [548, 549, 656, 657, 550, 551, 552, 4, 553, 209, 144, 210, 371, 372, 373, 6, 374, 44, 376, 377, 554, 555, 556, 557] (by decide +kernel)
theorem in_L_addMetal_r2 : ∀ w ∈ wsL_addMetal_r2, w ∈ lw_tbl := zin [14, 624, 15, 640, 16, 223, 224, 225, 9, 226, 165, 166, 167, 248, 249, 17, 250, 227, 228, 229, 5, 230, 143, 145] (by decide +kernel)
theorem in_L_addMetal_r3 : ∀ w ∈ wsL_addMetal_r3, w ∈ lw_tbl := zin [147, 231, 232, 233, 234, 47, 235, 237, 236, 18, 48, 51, 52, 53, 238, 239, 240, 7, 241, 75, 242, 76, 78, 80] (by decide +kernel)
theorem in_L_addMetal_r4 : ∀ w ∈ wsL_addMetal_r4, w ∈ lw_tbl := zin [83, 85, 88, 90, 93, 95, 98, 100, 243, 244, 245, 8, 246, 133, 136, 247, 429, 430, 431, 432] (by decide +kernel)
set_option maxRecDepth 100000 in
theorem in_L_addMetal : ∀ w ∈ wsL_addMetal, w ∈ lw_tbl := zin_cons (zin_one 547 rfl) (zin_app (zin_app (zin_app (zin_app (zin_app (zin_app (zin_app (zin_app (zin_app (zin_app in_L_addMetal_r1 (zin_app in_L_addMetal_r2 (zin_app in_L_addMetal_r3 in_L_addMetal_r4))) in_uX8) in_uX6) in_uX4) in_uX5) in_uX1) in_uX3) zin_v0) zin_v1) zin_v2)
theorem inL_172 : ∀ w ∈ va_wsS RL 172 yL_addMetal wsL_addMetal, w ∈ lw_tbl := zin_app (zin [545, 546, 3] (by decide +kernel)) in_L_addMetal
set_option maxRecDepth 20000 in
theorem gdL_172 : GoodIn (va_wsS RL 172 yL_addMetal wsL_addMetal) (va_wsS RL 172 yL_addMetal wsL_addMetal) := goodIn_sub (fun w h => h) (by decide +kernel)
theorem in_L_stretch_r1 : ∀ w ∈ wsL_stretch_r1, w ∈ lw_tbl := zin [661, 674, 753, 754, 755, 4, 756, 209, 144, 757, 758, 759, 6, 760, 382, 383, 384, 385, 44, 376, 377, 554, 555, 556] (by decide +kernel)
theorem in_L_stretch_r2 : ∀ w ∈ wsL_stretch_r2, w ∈ lw_tbl := zin [557, 14, 624, 15, 640, 16, 761, 488, 489, 490, 47] (by decide +kernel)
set_option maxRecDepth 100000 in
theorem in_L_stretch : ∀ w ∈ wsL_stretch, w ∈ lw_tbl := zin_cons (zin_one 752 rfl) (zin_app (zin_app (zin_app (zin_app (zin_app (zin_app (zin_app in_L_stretch_r1 in_L_stretch_r2) in_uX8) in_uX6) in_uX4) zin_v0) zin_v1) zin_v2)
theorem inL_101 : ∀ w ∈ va_wsS RL 101 yL_stretch wsL_stretch, w ∈ lw_tbl := zin_app (zin [750, 751, 3] (by decide +kernel)) in_L_stretch
set_option maxRecDepth 20000 in
theorem gdL_101 : GoodIn (va_wsS RL 101 yL_stretch wsL_stretch) (va_wsS RL 101 yL_stretch wsL_stretch) := goodIn_sub (fun w h => h) (by decide +kernel)
theorem in_L_setStretch_r1 : ∀ w ∈ wsL_setStretch_r1, w ∈ lw_tbl := zin [661, 548, 674, 656, 662, 663, 664, 4, 665, 209, 144, 210, 666, 667, 668, 6, 669, 382, 383, 384, 385, 44, 376, 377] (by decide +kernel)
theorem in_L_setStretch_r2 : ∀ w ∈ wsL_setStretch_r2, w ∈ lw_tbl := zin [554, 555, 556, 557, 14, 624, 15, 640, 16, 223, 224, 225, 9, 226, 165, 166, 167, 248, 249, 17, 250, 227, 228, 229] (by decide +kernel)
theorem in_L_setStretch_r3 : ∀ w ∈ wsL_setStretch_r3, w ∈ lw_tbl := zin [5, 230, 143, 145, 147, 231, 232, 233, 234, 47, 235, 237, 236, 18, 48, 51, 52, 53, 238, 239, 240, 7, 241, 75] (by decide +kernel)
theorem in_L_setStretch_r4 : ∀ w ∈ wsL_setStretch_r4, w ∈ lw_tbl := zin [242, 76, 78, 80, 83, 85, 88, 90, 93, 95, 98, 100, 243, 244, 245, 8, 246, 133, 136, 247, 670, 671, 672, 673] (by decide +kernel)
set_option maxRecDepth 100000 in
theorem in_L_setStretch : ∀ w ∈ wsL_setStretch, w ∈ lw_tbl := zin_cons (zin_one 660 rfl) (zin_app (zin_app (zin_app (zin_app (zin_app (zin_app (zin_app (zin_app (zin_app (zin_app in_L_setStretch_r1 (zin_app in_L_setStretch_r2 (zin_app in_L_setStretch_r3 in_L_setStretch_r4))) in_uX8) in_uX6) in_uX4) in_uX5) in_uX1) in_uX3) zin_v0) zin_v1) zin_v2)
theorem inL_174 : ∀ w ∈ va_wsS RL 174 yL_setStretch wsL_setStretch, w ∈ lw_tbl := zin_app (zin [658, 659, 3] (by decide +kernel)) in_L_setStretch
set_option maxRecDepth 20000 in
theorem gdL_174 : GoodIn (va_wsS RL 174 yL_setStretch wsL_setStretch) (va_wsS RL 174 yL_setStretch wsL_setStretch) := goodIn_sub (fun w h => h) (by decide +kernel)
theorem in_L_removeRod_r1 : ∀ w ∈ wsL_removeRod_r1, w ∈ lw_tbl := zin [661, 674, 685, 686, 687, 4, 688, 209, 144, 210, 689, 690, 691, 6, 692, 391, 392, 393, 394, 48, 376, 377, 554, 555] (by decide +kernel)
theorem in_L_removeRod_r2 : ∀ w ∈ wsL_removeRod_r2, w ∈ lw_tbl := zin [556, 557, 14, 624, 15, 640, 16, 223, 224, 225, 9, 226, 165, 166, 167, 248, 249, 17, 250, 227, 228, 229, 5, 230] (by decide +kernel)
theorem in_L_removeRod_r3 : ∀ w ∈ wsL_removeRod_r3, w ∈ lw_tbl := zin [143, 145, 147, 231, 232, 233, 234, 44, 47, 235, 237, 236, 18, 51, 52, 53, 238, 239, 240, 7, 241, 75, 242, 76] (by decide +kernel)
theorem in_L_removeRod_r4 : ∀ w ∈ wsL_removeRod_r4, w ∈ lw_tbl := zin [78, 80, 83, 85, 88, 90, 93, 95, 98, 100, 243, 244, 245, 8, 246, 133, 136, 247, 693, 694, 695, 696] (by decide +kernel)
set_option maxRecDepth 100000 in
theorem in_L_removeRod : ∀ w ∈ wsL_removeRod, w ∈ lw_tbl := zin_cons (zin_one 684 rfl) (zin_app (zin_app (zin_app (zin_app (zin_app (zin_app (zin_app (zin_app (zin_app (zin_app in_L_removeRod_r1 (zin_app in_L_removeRod_r2 (zin_app in_L_removeRod_r3 in_L_removeRod_r4))) in_uX8) in_uX6) in_uX4) in_uX5) in_uX1) in_uX3) zin_v0) zin_v1) zin_v2)
theorem inL_179 : ∀ w ∈ va_wsS RL 179 yL_removeRod wsL_removeRod, w ∈ lw_tbl := zin_app (zin [682, 683, 3] (by decide +kernel)) in_L_removeRod
set_option maxRecDepth 20000 in
theorem gdL_179 : GoodIn (va_wsS RL 179 yL_removeRod wsL_removeRod) (va_wsS RL 179 yL_removeRod wsL_removeRod) := goodIn_sub (fun w h => h) (by decide +kernel)
theorem in_L_setLength_r1 : ∀ w ∈ wsL_setLength_r1, w ∈ lw_tbl := zin [661, 548, 674, 656, 700, 701, 702, 4, 703, 209, 144, 210, 387, 388, 389, 6, 390, 386, 391, 392, 393, 394, 48, 376] (by decide +kernel)
theorem in_L_setLength_r2 : ∀ w ∈ wsL_setLength_r2, w ∈ lw_tbl := zin [377, 554, 555, 556, 557, 14, 624, 15, 640, 16, 223, 224, 225, 9, 226, 165, 166, 167, 248, 249, 17, 250, 227, 228] (by decide +kernel)
theorem in_L_setLength_r3 : ∀ w ∈ wsL_setLength_r3, w ∈ lw_tbl := zin [229, 5, 230, 143, 145, 147, 231, 232, 233, 234, 44, 47, 235, 237, 236, 18, 51, 52, 53, 238, 239, 240, 7, 241] (by decide +kernel)
theorem in_L_setLength_r4 : ∀ w ∈ wsL_setLength_r4, w ∈ lw_tbl := zin [75, 242, 76, 78, 80, 83, 85, 88, 90, 93, 95, 98, 100, 243, 244, 245, 8, 246, 133, 136, 247, 437, 438, 439] (by decide +kernel)
theorem in_L_setLength_r5 : ∀ w ∈ wsL_setLength_r5, w ∈ lw_tbl := zin [440] (by decide +kernel)
set_option maxRecDepth 100000 in
theorem in_L_setLength : ∀ w ∈ wsL_setLength, w ∈ lw_tbl := zin_cons (zin_one 699 rfl) (zin_app (zin_app (zin_app (zin_app (zin_app (zin_app (zin_app (zin_app (zin_app (zin_app in_L_setLength_r1 (zin_app in_L_setLength_r2 (zin_app in_L_setLength_r3 (zin_app in_L_setLength_r4 in_L_setLength_r5)))) in_uX8) in_uX6) in_uX4) in_uX5) in_uX1) in_uX3) zin_v0) zin_v1) zin_v2)
theorem inL_170 : ∀ w ∈ va_wsS RL 170 yL_setLength wsL_setLength, w ∈ lw_tbl := zin_app (zin [697, 698, 3] (by decide +kernel)) in_L_setLength
set_option maxRecDepth 20000 in
theorem gdL_170 : GoodIn (va_wsS RL 170 yL_setLength wsL_setLength) (va_wsS RL 170 yL_setLength wsL_setLength) := goodIn_sub (fun w h => h) (by decide +kernel)
theorem in_L_shelf_r1 : ∀ w ∈ wsL_shelf_r1, w ∈ lw_tbl := zin [661, 674, 765, 766, 767, 4, 768, 209, 146, 404, 405, 406, 7, 407, 376, 377, 554, 555, 556, 557, 14, 624, 15, 640] (by decide +kernel)
theorem in_L_shelf_r2 : ∀ w ∈ wsL_shelf_r2, w ∈ lw_tbl := zin [16, 769, 466, 467, 468, 75] (by decide +kernel)
set_option maxRecDepth 100000 in
theorem in_L_shelf : ∀ w ∈ wsL_shelf, w ∈ lw_tbl := zin_cons (zin_one 764 rfl) (zin_app (zin_app (zin_app (zin_app (zin_app (zin_app (zin_app in_L_shelf_r1 in_L_shelf_r2) in_uX8) in_uX6) in_uX1) zin_v0) zin_v1) zin_v2)
theorem inL_136 : ∀ w ∈ va_wsS RL 136 yL_shelf wsL_shelf, w ∈ lw_tbl := zin_app (zin [762, 763, 3] (by decide +kernel)) in_L_shelf
set_option maxRecDepth 20000 in
theorem gdL_136 : GoodIn (va_wsS RL 136 yL_shelf wsL_shelf) (va_wsS RL 136 yL_shelf wsL_shelf) := goodIn_sub (fun w h => h) (by decide +kernel)
theorem in_L_setShelf_r1 : ∀ w ∈ wsL_setShelf_r1, w ∈ lw_tbl := zin [661, 548, 674, 656, 707, 708, 709, 4, 710, 209, 146, 210, 395, 396, 397, 7, 398, 376, 377, 401, 402, 403, 554, 555] (by decide +kernel)
theorem in_L_setShelf_r2 : ∀ w ∈ wsL_setShelf_r2, w ∈ lw_tbl := zin [556, 557, 14, 624, 15, 640, 16, 223, 224, 225, 9, 226, 165, 166, 167, 248, 249, 17, 250, 227, 228, 229, 5, 230] (by decide +kernel)
theorem in_L_setShelf_r3 : ∀ w ∈ wsL_setShelf_r3, w ∈ lw_tbl := zin [143, 145, 147, 231, 232, 233, 6, 234, 44, 47, 235, 237, 236, 18, 48, 51, 52, 53, 238, 239, 240, 241, 75, 242] (by decide +kernel)
theorem in_L_setShelf_r4 : ∀ w ∈ wsL_setShelf_r4, w ∈ lw_tbl := zin [76, 78, 80, 83, 85, 88, 90, 93, 95, 98, 100, 243, 244, 245, 8, 246, 133, 136, 247, 441, 442, 443, 444] (by decide +kernel)
set_option maxRecDepth 100000 in
theorem in_L_setShelf : ∀ w ∈ wsL_setShelf, w ∈ lw_tbl := zin_cons (zin_one 706 rfl) (zin_app (zin_app (zin_app (zin_app (zin_app (zin_app (zin_app (zin_app (zin_app (zin_app in_L_setShelf_r1 (zin_app in_L_setShelf_r2 (zin_app in_L_setShelf_r3 in_L_setShelf_r4))) in_uX8) in_uX6) in_uX5) in_uX4) in_uX1) in_uX3) zin_v0) zin_v1) zin_v2)
theorem inL_181 : ∀ w ∈ va_wsS RL 181 yL_setShelf wsL_setShelf, w ∈ lw_tbl := zin_app (zin [704, 705, 3] (by decide +kernel)) in_L_setShelf
