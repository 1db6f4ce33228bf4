set_option maxRecDepth 20000 in
theorem gdL_181 : GoodIn (va_wsS RL 181 yL_setShelf wsL_setShelf) (va_wsS RL 181 yL_setShelf wsL_setShelf) := goodIn_sub (fun w h => h) (by decide +kernel)
theorem in_L_hang_r1 : ∀ w ∈ wsL_hang_r1, w ∈ lw_tbl := zin [661, 674, 714, 715, 716, 4, 717, 209, 146, 210, 404, 405, 406, 7, 407, 376, 377, 554, 555, 556, 557, 14, 624, 15] (by decide +kernel)
theorem in_L_hang_r2 : ∀ w ∈ wsL_hang_r2, w ∈ lw_tbl := zin [640, 16, 223, 224, 225, 9, 226, 165, 166, 167, 248, 249, 17, 250, 227, 228, 229, 5, 230, 143, 145, 147, 231, 232] (by decide +kernel)
theorem in_L_hang_r3 : ∀ w ∈ wsL_hang_r3, w ∈ lw_tbl := zin [233, 6, 234, 44, 47, 235, 237, 236, 18, 48, 51, 52, 53, 238, 239, 240, 241, 75, 242, 76, 78, 80, 83, 85] (by decide +kernel)
theorem in_L_hang_r4 : ∀ w ∈ wsL_hang_r4, w ∈ lw_tbl := zin [88, 90, 93, 95, 98, 100, 243, 244, 245, 8, 246, 133, 136, 247, 445, 446, 447, 448] (by decide +kernel)
set_option maxRecDepth 100000 in
theorem in_L_hang : ∀ w ∈ wsL_hang, w ∈ lw_tbl := zin_cons (zin_one 713 rfl) (zin_app (zin_app (zin_app (zin_app (zin_app (zin_app (zin_app (zin_app (zin_app (zin_app in_L_hang_r1 (zin_app in_L_hang_r2 (zin_app in_L_hang_r3 in_L_hang_r4))) in_uX8) in_uX6) in_uX5) in_uX4) in_uX1) in_uX3) zin_v0) zin_v1) zin_v2)
theorem inL_183 : ∀ w ∈ va_wsS RL 183 yL_hang wsL_hang, w ∈ lw_tbl := zin_app (zin [711, 712, 3] (by decide +kernel)) in_L_hang
set_option maxRecDepth 20000 in
theorem gdL_183 : GoodIn (va_wsS RL 183 yL_hang wsL_hang) (va_wsS RL 183 yL_hang wsL_hang) := goodIn_sub (fun w h => h) (by decide +kernel)
theorem in_L_turnNut_r1 : ∀ w ∈ wsL_turnNut_r1, w ∈ lw_tbl := zin [548, 549, 656, 657, 721, 722, 723, 4, 724, 209, 146, 210, 408, 409, 410, 7, 411, 83, 376, 377, 554, 555, 556, 557] (by decide +kernel)
theorem in_L_turnNut_r2 : ∀ w ∈ wsL_turnNut_r2, w ∈ lw_tbl := zin [14, 624, 15, 640, 16, 223, 224, 225, 9, 226, 165, 166, 167, 248, 249, 17, 250, 227, 228, 229, 5, 230, 143, 145] (by decide +kernel)
theorem in_L_turnNut_r3 : ∀ w ∈ wsL_turnNut_r3, w ∈ lw_tbl := zin [147, 231, 232, 233, 6, 234, 44, 47, 235, 237, 236, 18, 48, 51, 52, 53, 238, 239, 240, 241, 75, 242, 76, 78] (by decide +kernel)
theorem in_L_turnNut_r4 : ∀ w ∈ wsL_turnNut_r4, w ∈ lw_tbl := zin [80, 85, 88, 90, 93, 95, 98, 100, 243, 244, 245, 8, 246, 133, 136, 247, 449, 450, 451, 452] (by decide +kernel)
set_option maxRecDepth 100000 in
theorem in_L_turnNut : ∀ w ∈ wsL_turnNut, w ∈ lw_tbl := zin_cons (zin_one 720 rfl) (zin_app (zin_app (zin_app (zin_app (zin_app (zin_app (zin_app (zin_app (zin_app (zin_app in_L_turnNut_r1 (zin_app in_L_turnNut_r2 (zin_app in_L_turnNut_r3 in_L_turnNut_r4))) in_uX8) in_uX6) in_uX1) in_uX5) in_uX4) in_uX3) zin_v0) zin_v1) zin_v2)
theorem inL_162 : ∀ w ∈ va_wsS RL 162 yL_turnNut wsL_turnNut, w ∈ lw_tbl := zin_app (zin [718, 719, 3] (by decide +kernel)) in_L_turnNut
set_option maxRecDepth 20000 in
theorem gdL_162 : GoodIn (va_wsS RL 162 yL_turnNut wsL_turnNut) (va_wsS RL 162 yL_turnNut wsL_turnNut) := goodIn_sub (fun w h => h) (by decide +kernel)
theorem in_L_set_r1 : ∀ w ∈ wsL_set_r1, w ∈ lw_tbl := zin [548, 656, 728, 729, 730, 4, 731, 209, 146, 210, 412, 413, 414, 7, 415, 376, 377, 554, 555, 556, 557, 14, 624, 15] (by decide +kernel)
theorem in_L_set_r2 : ∀ w ∈ wsL_set_r2, w ∈ lw_tbl := zin [640, 16, 223, 224, 225, 9, 226, 165, 166, 167, 248, 249, 17, 250, 227, 228, 229, 5, 230, 143, 145, 147, 231, 232] (by decide +kernel)
theorem in_L_set_r3 : ∀ w ∈ wsL_set_r3, w ∈ lw_tbl := zin [233, 6, 234, 44, 47, 235, 237, 236, 18, 48, 51, 52, 53, 238, 239, 240, 241, 75, 242, 76, 78, 80, 83, 85] (by decide +kernel)
theorem in_L_set_r4 : ∀ w ∈ wsL_set_r4, w ∈ lw_tbl := zin [88, 90, 93, 95, 98, 100, 243, 244, 245, 8, 246, 133, 136, 247, 453, 454, 455, 456] (by decide +kernel)
set_option maxRecDepth 100000 in
theorem in_L_set : ∀ w ∈ wsL_set, w ∈ lw_tbl := zin_cons (zin_one 727 rfl) (zin_app (zin_app (zin_app (zin_app (zin_app (zin_app (zin_app (zin_app (zin_app (zin_app in_L_set_r1 (zin_app in_L_set_r2 (zin_app in_L_set_r3 in_L_set_r4))) in_uX8) in_uX6) in_uX5) in_uX4) in_uX1) in_uX3) zin_v0) zin_v1) zin_v2)
theorem inL_185 : ∀ w ∈ va_wsS RL 185 yL_set wsL_set, w ∈ lw_tbl := zin_app (zin [725, 726, 3] (by decide +kernel)) in_L_set
set_option maxRecDepth 20000 in
theorem gdL_185 : GoodIn (va_wsS RL 185 yL_set wsL_set) (va_wsS RL 185 yL_set wsL_set) := goodIn_sub (fun w h => h) (by decide +kernel)
theorem in_X8_wind_r1 : ∀ w ∈ wsX8_wind_r1, w ∈ lw_tbl := zin [210, 209, 146, 223, 224, 225, 9, 226, 165, 166, 167, 248, 249, 17, 250, 227, 228, 229, 5, 230, 143, 145, 147, 231] (by decide +kernel)
theorem in_X8_wind_r2 : ∀ w ∈ wsX8_wind_r2, w ∈ lw_tbl := zin [232, 233, 6, 234, 44, 47, 235, 237, 236, 18, 48, 51, 52, 53, 238, 239, 240, 7, 241, 75, 242, 76, 78, 80] (by decide +kernel)
theorem in_X8_wind_r3 : ∀ w ∈ wsX8_wind_r3, w ∈ lw_tbl := zin [83, 85, 88, 90, 93, 95, 98, 100, 243, 244, 245, 8, 246, 133, 136, 247, 251, 252, 253, 254] (by decide +kernel)
set_option maxRecDepth 100000 in
theorem in_X8_wind : ∀ w ∈ wsX8_wind, w ∈ lw_tbl := zin_cons (zin_one 222 rfl) (zin_app (zin_app (zin_app (zin_app (zin_app (zin_app (zin_app in_X8_wind_r1 (zin_app in_X8_wind_r2 in_X8_wind_r3)) in_uX8) in_uX6) in_uX5) in_uX4) in_uX1) in_uX3)
theorem inL_209 : ∀ w ∈ wsV RL 209 RX8 yX8_wind wsX8_wind, w ∈ lw_tbl := zin_app (zin [219, 220, 221, 4] (by decide +kernel)) in_X8_wind
set_option maxRecDepth 20000 in
theorem gdL_209 : GoodIn (wsV RL 209 RX8 yX8_wind wsX8_wind) (wsV RL 209 RX8 yX8_wind wsX8_wind) := goodIn_sub (fun w h => h) (by decide +kernel)
theorem in_L_hour_r1 : ∀ w ∈ wsL_hour_r1, w ∈ lw_tbl := zin [819, 879, 880, 770, 771, 3, 772, 548, 656, 773, 774, 775, 4, 776, 211, 184, 209, 403, 376, 377, 554, 555, 556, 557] (by decide +kernel)
theorem in_L_hour_r2 : ∀ w ∈ wsL_hour_r2, w ∈ lw_tbl := zin [14, 624, 15, 640, 16, 777, 778, 779, 5, 780, 143, 45, 49, 145, 79, 81, 84, 86, 89, 91, 94, 77, 147, 134] (by decide +kernel)
theorem in_L_hour_r3 : ∀ w ∈ wsL_hour_r3, w ∈ lw_tbl := zin [781, 516, 517, 7, 518, 76, 511, 512, 513, 514, 515, 782, 783, 784, 785, 497, 479, 480, 481, 6, 482, 48, 52, 53] (by decide +kernel)
theorem in_L_hour_r4 : ∀ w ∈ wsL_hour_r4, w ∈ lw_tbl := zin [483, 484, 485, 486, 51, 491, 487, 488, 489, 490, 44, 47, 492, 473, 17, 474, 475, 476, 477, 478, 493, 494, 495, 496] (by decide +kernel)
theorem in_L_hour_r5 : ∀ w ∈ wsL_hour_r5, w ∈ lw_tbl := zin [498, 500, 501, 470, 471, 472, 503, 504, 505, 506, 17, 507, 508, 509, 510, 762, 763, 764, 661, 674, 765, 766, 767, 768] (by decide +kernel)
theorem in_L_hour_r6 : ∀ w ∈ wsL_hour_r6, w ∈ lw_tbl := zin [146, 404, 405, 406, 407, 769, 466, 467, 468, 75, 822, 823, 824, 825, 97, 838, 839, 840, 841, 842, 843, 844, 87, 845] (by decide +kernel)
theorem in_L_hour_r7 : ∀ w ∈ wsL_hour_r7, w ∈ lw_tbl := zin [401, 402, 846, 868, 869, 870, 818, 871, 872, 873, 874, 875, 876, 877, 878, 461, 462, 463, 464, 78, 465, 732, 733, 734] (by decide +kernel)
theorem in_L_hour_r8 : ∀ w ∈ wsL_hour_r8, w ∈ lw_tbl := zin [549, 657, 735, 736, 737, 738, 210, 420, 421, 422, 423, 88, 424, 223, 224, 225, 9, 226, 165, 166, 167, 248, 249, 250] (by decide +kernel)
theorem in_L_hour_r9 : ∀ w ∈ wsL_hour_r9, w ∈ lw_tbl := zin [227, 228, 229, 230, 231, 232, 233, 234, 235, 237, 236, 18, 238, 239, 240, 241, 242, 80, 83, 85, 90, 93, 95, 98] (by decide +kernel)
theorem in_L_hour_r10 : ∀ w ∈ wsL_hour_r10, w ∈ lw_tbl := zin [100, 243, 244, 245, 8, 246, 133, 136, 247, 457, 458, 459, 460, 96, 519, 520, 521, 522, 99, 101, 523, 524, 525, 526] (by decide +kernel)
theorem in_L_hour_r11 : ∀ w ∈ wsL_hour_r11, w ∈ lw_tbl := zin [527, 528, 529, 530, 531, 532, 534, 535, 533, 805, 806, 807, 808, 809, 810, 811, 148, 812, 813, 814, 815, 817] (by decide +kernel)
set_option maxRecDepth 100000 in
theorem in_L_hour : ∀ w ∈ wsL_hour, w ∈ lw_tbl := zin_cons (zin_one 867 rfl) (zin_app (zin_app (zin_app (zin_app (zin_app (zin_app (zin_app (zin_app (zin_app (zin_app (zin_app in_L_hour_r1 (zin_app in_L_hour_r2 (zin_app in_L_hour_r3 (zin_app in_L_hour_r4 (zin_app in_L_hour_r5 (zin_app in_L_hour_r6 (zin_app in_L_hour_r7 (zin_app in_L_hour_r8 (zin_app in_L_hour_r9 (zin_app in_L_hour_r10 in_L_hour_r11)))))))))) in_uX8) in_uX2) in_uX6) in_uX4) in_uX1) in_uX3) in_uX5) zin_v0) zin_v1) zin_v2)
theorem inL_212 : ∀ w ∈ va_wsS RL 212 yL_hour wsL_hour, w ∈ lw_tbl := zin_app (zin [865, 866, 3] (by decide +kernel)) in_L_hour
set_option maxRecDepth 20000 in
theorem gdL_212 : GoodIn (va_wsS RL 212 yL_hour wsL_hour) (va_wsS RL 212 yL_hour wsL_hour) := goodIn_sub (fun w h => h) (by decide +kernel)
theorem in_L_pass_r1 : ∀ w ∈ wsL_pass_r1, w ∈ lw_tbl := zin [548, 549, 656, 657, 735, 736, 737, 4, 738, 209, 146, 210, 420, 421, 422, 7, 423, 88, 424, 376, 377, 554, 555, 556] (by decide +kernel)
theorem in_L_pass_r2 : ∀ w ∈ wsL_pass_r2, w ∈ lw_tbl := zin [557, 14, 624, 15, 640, 16, 223, 224, 225, 9, 226, 165, 166, 167, 248, 249, 17, 250, 227, 228, 229, 5, 230, 143] (by decide +kernel)
theorem in_L_pass_r3 : ∀ w ∈ wsL_pass_r3, w ∈ lw_tbl := zin [145, 147, 231, 232, 233, 6, 234, 44, 47, 235, 237, 236, 18, 48, 51, 52, 53, 238, 239, 240, 241, 75, 242, 76] (by decide +kernel)
theorem in_L_pass_r4 : ∀ w ∈ wsL_pass_r4, w ∈ lw_tbl := zin [78, 80, 83, 85, 90, 93, 95, 98, 100, 243, 244, 245, 8, 246, 133, 136, 247, 457, 458, 459, 460, 81, 86, 96] (by decide +kernel)
theorem in_L_pass_r5 : ∀ w ∈ wsL_pass_r5, w ∈ lw_tbl := zin [91, 94, 89, 461, 462, 463, 464, 465, 466, 467, 468, 470, 471, 472, 473, 17, 474, 475, 476, 477, 478, 84, 479, 480] (by decide +kernel)
theorem in_L_pass_r6 : ∀ w ∈ wsL_pass_r6, w ∈ lw_tbl := zin [481, 482, 483, 484, 485, 486, 491, 487, 488, 489, 490, 492, 493, 494, 495, 496, 77, 497, 498, 500, 501, 503, 504, 505] (by decide +kernel)
theorem in_L_pass_r7 : ∀ w ∈ wsL_pass_r7, w ∈ lw_tbl := zin [506, 507, 508, 509, 510, 511, 512, 513, 514, 515, 516, 517, 518, 519, 520, 521, 522, 99, 101, 523, 524, 525, 526, 527] (by decide +kernel)
theorem in_L_pass_r8 : ∀ w ∈ wsL_pass_r8, w ∈ lw_tbl := zin [528, 529, 530, 531, 532, 534, 535, 533] (by decide +kernel)
set_option maxRecDepth 100000 in
theorem in_L_pass : ∀ w ∈ wsL_pass, w ∈ lw_tbl := zin_cons (zin_one 734 rfl) (zin_app (zin_app (zin_app (zin_app (zin_app (zin_app (zin_app (zin_app (zin_app (zin_app in_L_pass_r1 (zin_app in_L_pass_r2 (zin_app in_L_pass_r3 (zin_app in_L_pass_r4 (zin_app in_L_pass_r5 (zin_app in_L_pass_r6 (zin_app in_L_pass_r7 in_L_pass_r8))))))) in_uX8) in_uX6) in_uX1) in_uX5) in_uX4) in_uX3) zin_v0) zin_v1) zin_v2)
theorem inL_141 : ∀ w ∈ va_wsS RL 141 yL_pass wsL_pass, w ∈ lw_tbl := zin_app (zin [732, 733, 3] (by decide +kernel)) in_L_pass
set_option maxRecDepth 20000 in
theorem gdL_141 : GoodIn (va_wsS RL 141 yL_pass wsL_pass) (va_wsS RL 141 yL_pass wsL_pass) := goodIn_sub (fun w h => h) (by decide +kernel)
theorem in_L_thoughts_r1 : ∀ w ∈ wsL_thoughts_r1, w ∈ lw_tbl := zin [656, 950, 884, 885, 886, 4, 887, 888, 210, 168, 209, 144, 46, 50, 148, 135, 889, 890, 891, 892, 893, 774, 775, 776] (by decide +kernel)
theorem in_L_thoughts_r2 : ∀ w ∈ wsL_thoughts_r2, w ∈ lw_tbl := zin [211, 184, 403, 376, 377, 554, 555, 556, 557, 14, 624, 15, 640, 16, 777, 778, 779, 5, 780, 143, 45, 49, 145, 79] (by decide +kernel)
theorem in_L_thoughts_r3 : ∀ w ∈ wsL_thoughts_r3, w ∈ lw_tbl := zin [81, 84, 86, 89, 91, 94, 77, 147, 134, 781, 516, 517, 7, 518, 76, 511, 512, 513, 514, 515, 782, 783, 784, 785] (by decide +kernel)
theorem in_L_thoughts_r4 : ∀ w ∈ wsL_thoughts_r4, w ∈ lw_tbl := zin [497, 479, 480, 481, 6, 482, 48, 52, 53, 483, 484, 485, 486, 51, 491, 487, 488, 489, 490, 44, 47, 492, 473, 17] (by decide +kernel)
theorem in_L_thoughts_r5 : ∀ w ∈ wsL_thoughts_r5, w ∈ lw_tbl := zin [474, 475, 476, 477, 478, 493, 494, 495, 496, 498, 500, 501, 470, 471, 472, 503, 504, 505, 506, 17, 507, 508, 509, 510] (by decide +kernel)
theorem in_L_thoughts_r6 : ∀ w ∈ wsL_thoughts_r6, w ∈ lw_tbl := zin [894, 827, 828, 829, 830, 831, 832, 833, 834, 835, 836, 837, 895, 823, 824, 825, 146, 97, 896, 852, 853, 854, 855, 856] (by decide +kernel)
theorem in_L_thoughts_r7 : ∀ w ∈ wsL_thoughts_r7, w ∈ lw_tbl := zin [857, 858, 859, 860, 861, 862, 863, 864, 897, 754, 755, 756, 757, 758, 759, 760, 382, 383, 384, 385, 761, 898, 766, 767] (by decide +kernel)
theorem in_L_thoughts_r8 : ∀ w ∈ wsL_thoughts_r8, w ∈ lw_tbl := zin [768, 404, 405, 406, 407, 769, 466, 467, 468, 75, 899, 743, 744, 745, 82, 689, 690, 691, 692, 391, 392, 393, 394, 746] (by decide +kernel)
theorem in_L_thoughts_r9 : ∀ w ∈ wsL_thoughts_r9, w ∈ lw_tbl := zin [747, 748, 749, 900, 809, 810, 811, 812, 813, 814, 8, 815, 133, 136, 817, 901, 902, 903, 904, 905, 906, 907, 908, 909] (by decide +kernel)
theorem in_L_thoughts_r10 : ∀ w ∈ wsL_thoughts_r10, w ∈ lw_tbl := zin [910, 911, 912, 913, 541, 542, 3, 543, 544, 914, 915, 916, 548, 917, 918, 919, 920, 845, 401, 402, 921, 922, 923, 924] (by decide +kernel)
theorem in_L_thoughts_r11 : ∀ w ∈ wsL_thoughts_r11, w ∈ lw_tbl := zin [925, 249, 250, 926, 927, 928, 868, 869, 870, 818, 871, 872, 873, 874, 875, 876, 877, 878, 461, 462, 463, 464, 78, 465] (by decide +kernel)
theorem in_L_thoughts_r12 : ∀ w ∈ wsL_thoughts_r12, w ∈ lw_tbl := zin [770, 771, 772, 773, 739, 740, 741, 661, 674, 742, 750, 751, 752, 753, 929, 930, 931, 718, 719, 720, 549, 657, 721, 722] (by decide +kernel)
theorem in_L_thoughts_r13 : ∀ w ∈ wsL_thoughts_r13, w ∈ lw_tbl := zin [723, 724, 408, 409, 410, 411, 83, 223, 224, 225, 9, 226, 165, 166, 167, 248, 227, 228, 229, 230, 231, 232, 233, 234] (by decide +kernel)
theorem in_L_thoughts_r14 : ∀ w ∈ wsL_thoughts_r14, w ∈ lw_tbl := zin [235, 237, 236, 18, 238, 239, 240, 241, 242, 80, 85, 88, 90, 93, 95, 98, 100, 243, 244, 245, 246, 247, 449, 450] (by decide +kernel)
theorem in_L_thoughts_r15 : ∀ w ∈ wsL_thoughts_r15, w ∈ lw_tbl := zin [451, 452, 822, 732, 733, 734, 735, 736, 737, 738, 420, 421, 422, 423, 424, 457, 458, 459, 460, 96, 519, 520, 521, 522] (by decide +kernel)
theorem in_L_thoughts_r16 : ∀ w ∈ wsL_thoughts_r16, w ∈ lw_tbl := zin [99, 101, 523, 524, 525, 526, 527, 528, 529, 530, 531, 532, 534, 535, 533, 786, 787, 788, 789, 790, 791, 792, 793, 794] (by decide +kernel)
theorem in_L_thoughts_r17 : ∀ w ∈ wsL_thoughts_r17, w ∈ lw_tbl := zin [795, 796, 932, 933, 934, 935, 936, 937, 938, 939, 940, 941, 942, 945, 947, 948, 949, 943, 826, 697, 698, 699, 700, 701] (by decide +kernel)
theorem in_L_thoughts_r18 : ∀ w ∈ wsL_thoughts_r18, w ∈ lw_tbl := zin [702, 703, 387, 388, 389, 390, 386, 437, 438, 439, 440] (by decide +kernel)
set_option maxRecDepth 100000 in
theorem in_L_thoughts : ∀ w ∈ wsL_thoughts, w ∈ lw_tbl := zin_cons (zin_one 883 rfl) (zin_app (zin_app (zin_app (zin_app (zin_app (zin_app (zin_app (zin_app (zin_app (zin_app (zin_app in_L_thoughts_r1 (zin_app in_L_thoughts_r2 (zin_app in_L_thoughts_r3 (zin_app in_L_thoughts_r4 (zin_app in_L_thoughts_r5 (zin_app in_L_thoughts_r6 (zin_app in_L_thoughts_r7 (zin_app in_L_thoughts_r8 (zin_app in_L_thoughts_r9 (zin_app in_L_thoughts_r10 (zin_app in_L_thoughts_r11 (zin_app in_L_thoughts_r12 (zin_app in_L_thoughts_r13 (zin_app in_L_thoughts_r14 (zin_app in_L_thoughts_r15 (zin_app in_L_thoughts_r16 (zin_app in_L_thoughts_r17 in_L_thoughts_r18))))))))))))))))) in_uX8) in_uX5) in_uX6) in_uX4) in_uX3) in_uX2) in_uX1) zin_v0) zin_v1) zin_v2)
theorem inL_215 : ∀ w ∈ va_wsS RL 215 yL_thoughts wsL_thoughts, w ∈ lw_tbl := zin_app (zin [881, 882, 3] (by decide +kernel)) in_L_thoughts
set_option maxRecDepth 20000 in
theorem gdL_215 : GoodIn (va_wsS RL 215 yL_thoughts wsL_thoughts) (va_wsS RL 215 yL_thoughts wsL_thoughts) := goodIn_sub (fun w h => h) (by decide +kernel)
set_option maxRecDepth 20000 in
theorem gdL_X8_init : GoodIn wsX8_init wsX8_init := goodIn_sub (fun w h => h) (by decide +kernel)
