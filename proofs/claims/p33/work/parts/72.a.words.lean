/-! the words that the law's calls need, in the tables -/
theorem zin {ws : List Cond} (ps : List Nat) (h : ws = ps.filterMap (fun i => lw_tbl[i]?)) : ∀ w ∈ ws, w ∈ lw_tbl := by
  intro w hw
  rw [h] at hw
  obtain ⟨i, -, hi⟩ := List.mem_filterMap.mp hw
  first | exact List.mem_of_getElem? hi | exact List.getElem?_mem hi
theorem zin_app {a b : List Cond} (ha : ∀ w ∈ a, w ∈ lw_tbl) (hb : ∀ w ∈ b, w ∈ lw_tbl) : ∀ w ∈ a ++ b, w ∈ lw_tbl := fun w h => (List.mem_append.mp h).elim (ha w) (hb w)
theorem zin_ca {c : Cond} {a b : List Cond} (ha : ∀ w ∈ c :: a, w ∈ lw_tbl) (hb : ∀ w ∈ b, w ∈ lw_tbl) : ∀ w ∈ c :: (a ++ b), w ∈ lw_tbl := fun w h => (List.mem_cons.mp h).elim (fun e => ha w (List.mem_cons.mpr (Or.inl e))) (fun h => (List.mem_append.mp h).elim (fun h => ha w (List.mem_cons.mpr (Or.inr h))) (hb w))
theorem zin_cons {c : Cond} {a : List Cond} (hc : ∀ w ∈ [c], w ∈ lw_tbl) (ha : ∀ w ∈ a, w ∈ lw_tbl) : ∀ w ∈ c :: a, w ∈ lw_tbl := fun w h => (List.mem_cons.mp h).elim (fun e => hc w (List.mem_cons.mpr (Or.inl e))) (ha w)
theorem zin_one {c : Cond} (i : Nat) (h : lw_tbl[i]? = some c) : ∀ w ∈ [c], w ∈ lw_tbl := fun w hw => (List.mem_singleton.mp hw) ▸ List.mem_of_getElem? h
theorem zin_v0 : ∀ w ∈ (vx_atS RX8 286 "java/lang/IndexOutOfBoundsException" ["java/lang/RuntimeException", "java/lang/Exception"]).filter goodWord, w ∈ lw_tbl := by decide +kernel
theorem zin_v1 : ∀ w ∈ (vx_atS RX8 293 "java/lang/IllegalArgumentException" ["java/lang/RuntimeException", "java/lang/Exception"]).filter goodWord, w ∈ lw_tbl := by decide +kernel
theorem zin_v2 : ∀ w ∈ (vx_atS RX8 298 "java/lang/IllegalStateException" ["java/lang/RuntimeException", "java/lang/Exception"]).filter goodWord, w ∈ lw_tbl := by decide +kernel
theorem in_uX1 : ∀ w ∈ u_ws RX1 TX1 12, w ∈ lw_tbl := zin [102, 104, 106, 108, 110, 112, 114, 116, 118, 120, 122, 124] (by decide +kernel)
theorem in_uX2 : ∀ w ∈ u_ws RX2 TX2 7, w ∈ lw_tbl := zin [193, 195, 197, 199, 201, 203, 205] (by decide +kernel)
theorem in_uX3 : ∀ w ∈ u_ws RX3 TX3 2, w ∈ lw_tbl := zin [137, 139] (by decide +kernel)
theorem in_uX4 : ∀ w ∈ u_ws RX4 TX4 6, w ∈ lw_tbl := zin [54, 56, 58, 60, 62, 64] (by decide +kernel)
theorem in_uX5 : ∀ w ∈ u_ws RX5 TX5 3, w ∈ lw_tbl := zin [169, 171, 173] (by decide +kernel)
theorem in_uX6 : ∀ w ∈ u_ws RX6 TX6 3, w ∈ lw_tbl := zin [149, 151, 153] (by decide +kernel)
theorem in_uX8 : ∀ w ∈ u_ws RX8 TX8 3, w ∈ lw_tbl := zin [212, 214, 216] (by decide +kernel)
theorem in_X8_init_r1 : ∀ w ∈ wsX8_init_r1, w ∈ lw_tbl := zin [29, 30, 31, 32, 33, 5, 209, 156, 157, 9, 210, 176, 177, 10, 211, 35, 36, 37, 38, 39, 6, 143, 68, 69] (by decide +kernel)
theorem in_X8_init_r2 : ∀ w ∈ wsX8_init_r2, w ∈ lw_tbl := zin [7, 145, 127, 128, 8, 147, 40, 41, 42, 43, 44, 67, 47, 51, 52, 53, 70, 71, 72, 73, 75, 76, 80, 85] (by decide +kernel)
theorem in_X8_init_r3 : ∀ w ∈ wsX8_init_r3, w ∈ lw_tbl := zin [74, 130, 131, 132, 142, 136, 158, 159, 160, 161, 162, 165, 179, 180, 181, 208, 182] (by decide +kernel)
set_option maxRecDepth 100000 in
theorem in_X8_init : ∀ w ∈ wsX8_init, w ∈ lw_tbl := zin_cons (zin_one 28 rfl) (zin_app (zin_app (zin_app (zin_app (zin_app (zin_app (zin_app (zin_app in_X8_init_r1 (zin_app in_X8_init_r2 in_X8_init_r3)) in_uX6) in_uX8) in_uX5) in_uX2) in_uX4) in_uX1) in_uX3)
theorem in_L_refuses_r1 : ∀ w ∈ wsL_refuses_r1, w ∈ lw_tbl := zin [656, 674, 954, 818, 955, 884, 885, 886, 4, 887, 888, 210, 168, 209, 144, 46, 50, 148, 135, 889, 890, 891, 892, 893] (by decide +kernel)
theorem in_L_refuses_r2 : ∀ w ∈ wsL_refuses_r2, w ∈ lw_tbl := zin [774, 775, 776, 211, 184, 403, 376, 377, 554, 555, 556, 557, 14, 624, 15, 640, 16, 777, 778, 779, 5, 780, 143, 45] (by decide +kernel)
theorem in_L_refuses_r3 : ∀ w ∈ wsL_refuses_r3, w ∈ lw_tbl := zin [49, 145, 79, 81, 84, 86, 89, 91, 94, 77, 147, 134, 781, 516, 517, 7, 518, 76, 511, 512, 513, 514, 515, 782] (by decide +kernel)
theorem in_L_refuses_r4 : ∀ w ∈ wsL_refuses_r4, w ∈ lw_tbl := zin [783, 784, 785, 497, 479, 480, 481, 6, 482, 48, 52, 53, 483, 484, 485, 486, 51, 491, 487, 488, 489, 490, 44, 47] (by decide +kernel)
theorem in_L_refuses_r5 : ∀ w ∈ wsL_refuses_r5, w ∈ lw_tbl := zin [492, 473, 17, 474, 475, 476, 477, 478, 493, 494, 495, 496, 498, 500, 501, 470, 471, 472, 503, 504, 505, 506, 17, 507] (by decide +kernel)
theorem in_L_refuses_r6 : ∀ w ∈ wsL_refuses_r6, w ∈ lw_tbl := zin [508, 509, 510, 894, 827, 828, 829, 830, 831, 832, 833, 834, 835, 836, 837, 895, 823, 824, 825, 146, 97, 896, 852, 853] (by decide +kernel)
theorem in_L_refuses_r7 : ∀ w ∈ wsL_refuses_r7, w ∈ lw_tbl := zin [854, 855, 856, 857, 858, 859, 860, 861, 862, 863, 864, 897, 754, 755, 756, 757, 758, 759, 760, 382, 383, 384, 385, 761] (by decide +kernel)
theorem in_L_refuses_r8 : ∀ w ∈ wsL_refuses_r8, w ∈ lw_tbl := zin [898, 766, 767, 768, 404, 405, 406, 407, 769, 466, 467, 468, 75, 899, 743, 744, 745, 82, 689, 690, 691, 692, 391, 392] (by decide +kernel)
theorem in_L_refuses_r9 : ∀ w ∈ wsL_refuses_r9, w ∈ lw_tbl := zin [393, 394, 746, 747, 748, 749, 900, 809, 810, 811, 812, 813, 814, 8, 815, 133, 136, 817, 901, 902, 903, 904, 905, 906] (by decide +kernel)
theorem in_L_refuses_r10 : ∀ w ∈ wsL_refuses_r10, w ∈ lw_tbl := zin [907, 908, 909, 910, 911, 912, 770, 771, 3, 772, 548, 773, 545, 546, 547, 549, 657, 550, 551, 552, 553, 371, 372, 373] (by decide +kernel)
theorem in_L_refuses_r11 : ∀ w ∈ wsL_refuses_r11, w ∈ lw_tbl := zin [374, 223, 224, 225, 9, 226, 165, 166, 167, 248, 249, 250, 227, 228, 229, 230, 231, 232, 233, 234, 235, 237, 236, 18] (by decide +kernel)
theorem in_L_refuses_r12 : ∀ w ∈ wsL_refuses_r12, w ∈ lw_tbl := zin [238, 239, 240, 241, 242, 78, 80, 83, 85, 88, 90, 93, 95, 98, 100, 243, 244, 245, 246, 247, 429, 430, 431, 432] (by decide +kernel)
theorem in_L_refuses_r13 : ∀ w ∈ wsL_refuses_r13, w ∈ lw_tbl := zin [658, 659, 660, 661, 662, 663, 664, 665, 666, 667, 668, 669, 670, 671, 672, 673, 675, 676, 677, 678, 679, 680, 681, 378] (by decide +kernel)
theorem in_L_refuses_r14 : ∀ w ∈ wsL_refuses_r14, w ∈ lw_tbl := zin [379, 380, 381, 386, 433, 434, 435, 436, 682, 683, 684, 685, 686, 687, 688, 693, 694, 695, 696, 697, 698, 699, 700, 701] (by decide +kernel)
theorem in_L_refuses_r15 : ∀ w ∈ wsL_refuses_r15, w ∈ lw_tbl := zin [702, 703, 387, 388, 389, 390, 437, 438, 439, 440, 704, 705, 706, 707, 708, 709, 710, 395, 396, 397, 398, 401, 402, 441] (by decide +kernel)
theorem in_L_refuses_r16 : ∀ w ∈ wsL_refuses_r16, w ∈ lw_tbl := zin [442, 443, 444, 711, 712, 713, 714, 715, 716, 717, 445, 446, 447, 448, 718, 719, 720, 721, 722, 723, 724, 408, 409, 410] (by decide +kernel)
theorem in_L_refuses_r17 : ∀ w ∈ wsL_refuses_r17, w ∈ lw_tbl := zin [411, 449, 450, 451, 452, 725, 726, 727, 728, 729, 730, 731, 412, 413, 414, 415, 453, 454, 455, 456, 732, 733, 734, 735] (by decide +kernel)
theorem in_L_refuses_r18 : ∀ w ∈ wsL_refuses_r18, w ∈ lw_tbl := zin [736, 737, 738, 420, 421, 422, 423, 424, 457, 458, 459, 460, 96, 461, 462, 463, 464, 465, 519, 520, 521, 522, 99, 101] (by decide +kernel)
theorem in_L_refuses_r19 : ∀ w ∈ wsL_refuses_r19, w ∈ lw_tbl := zin [523, 524, 525, 526, 527, 528, 529, 530, 531, 532, 534, 535, 533, 739, 740, 741, 742, 750, 751, 752, 753, 762, 763, 764] (by decide +kernel)
theorem in_L_refuses_r20 : ∀ w ∈ wsL_refuses_r20, w ∈ lw_tbl := zin [765, 805, 806, 807, 808, 838, 839, 840, 841, 842, 843, 844, 87, 845, 846, 932, 933, 934, 935, 936, 937, 938, 939, 940] (by decide +kernel)
theorem in_L_refuses_r21 : ∀ w ∈ wsL_refuses_r21, w ∈ lw_tbl := zin [941, 942, 945, 947, 948, 949, 943, 914, 915, 916, 917, 918, 919, 920, 921, 922, 923, 924, 925, 926, 927, 928, 868, 869] (by decide +kernel)
theorem in_L_refuses_r22 : ∀ w ∈ wsL_refuses_r22, w ∈ lw_tbl := zin [870, 871, 872, 873, 874, 875, 876, 877, 878, 956, 957, 958, 959, 960, 961, 962, 963, 964, 965, 10, 966, 183, 968, 969] (by decide +kernel)
theorem in_L_refuses_r23 : ∀ w ∈ wsL_refuses_r23, w ∈ lw_tbl := zin [970, 971, 182] (by decide +kernel)
set_option maxRecDepth 100000 in
theorem in_L_refuses : ∀ w ∈ wsL_refuses, w ∈ lw_tbl := zin_cons (zin_one 953 rfl) (zin_app (zin_app (zin_app (zin_app (zin_app (zin_app (zin_app (zin_app (zin_app (zin_app (zin_app in_L_refuses_r1 (zin_app in_L_refuses_r2 (zin_app in_L_refuses_r3 (zin_app in_L_refuses_r4 (zin_app in_L_refuses_r5 (zin_app in_L_refuses_r6 (zin_app in_L_refuses_r7 (zin_app in_L_refuses_r8 (zin_app in_L_refuses_r9 (zin_app in_L_refuses_r10 (zin_app in_L_refuses_r11 (zin_app in_L_refuses_r12 (zin_app in_L_refuses_r13 (zin_app in_L_refuses_r14 (zin_app in_L_refuses_r15 (zin_app in_L_refuses_r16 (zin_app in_L_refuses_r17 (zin_app in_L_refuses_r18 (zin_app in_L_refuses_r19 (zin_app in_L_refuses_r20 (zin_app in_L_refuses_r21 (zin_app in_L_refuses_r22 in_L_refuses_r23)))))))))))))))))))))) in_uX8) in_uX5) in_uX6) in_uX4) in_uX3) in_uX2) in_uX1) zin_v0) zin_v1) zin_v2)
theorem inL_193 : ∀ w ∈ va_wsS RL 193 yL_refuses wsL_refuses, w ∈ lw_tbl := zin_app (zin [951, 952, 3] (by decide +kernel)) in_L_refuses
set_option maxRecDepth 20000 in
theorem gdL_193 : GoodIn (va_wsS RL 193 yL_refuses wsL_refuses) (va_wsS RL 193 yL_refuses wsL_refuses) := goodIn_sub (fun w h => h) (by decide +kernel)
theorem in_L_undo_r1 : ∀ w ∈ wsL_undo_r1, w ∈ lw_tbl := zin [549, 657, 789, 790, 791, 4, 792, 210, 168, 209, 554, 555, 556, 557, 14, 624, 15, 640, 16, 793, 794, 795, 9, 796] (by decide +kernel)
theorem in_L_undo_r2 : ∀ w ∈ wsL_undo_r2, w ∈ lw_tbl := zin [166, 165, 167, 227, 228, 229, 5, 230, 143, 145, 147, 231, 232, 233, 6, 234, 44, 47, 235, 237, 236, 18, 48, 51] (by decide +kernel)
theorem in_L_undo_r3 : ∀ w ∈ wsL_undo_r3, w ∈ lw_tbl := zin [52, 53, 238, 239, 240, 7, 241, 75, 242, 76, 78, 80, 83, 85, 88, 90, 93, 95, 98, 100, 243, 244, 245, 8] (by decide +kernel)
theorem in_L_undo_r4 : ∀ w ∈ wsL_undo_r4, w ∈ lw_tbl := zin [246, 133, 136, 247] (by decide +kernel)
set_option maxRecDepth 100000 in
theorem in_L_undo : ∀ w ∈ wsL_undo, w ∈ lw_tbl := zin_cons (zin_one 788 rfl) (zin_app (zin_app (zin_app (zin_app (zin_app (zin_app (zin_app (zin_app (zin_app (zin_app in_L_undo_r1 (zin_app in_L_undo_r2 (zin_app in_L_undo_r3 in_L_undo_r4))) in_uX8) in_uX5) in_uX6) in_uX4) in_uX1) in_uX3) zin_v0) zin_v1) zin_v2)
theorem inL_164 : ∀ w ∈ va_wsS RL 164 yL_undo wsL_undo, w ∈ lw_tbl := zin_app (zin [786, 787, 3] (by decide +kernel)) in_L_undo
set_option maxRecDepth 20000 in
theorem gdL_164 : GoodIn (va_wsS RL 164 yL_undo wsL_undo) (va_wsS RL 164 yL_undo wsL_undo) := goodIn_sub (fun w h => h) (by decide +kernel)
theorem in_L_sound_r1 : ∀ w ∈ wsL_sound_r1, w ∈ lw_tbl := zin [800, 801, 802, 803, 804, 819, 820, 821, 770, 771, 3, 772, 548, 656, 773, 774, 775, 4, 776, 211, 184, 209, 403, 376] (by decide +kernel)
theorem in_L_sound_r2 : ∀ w ∈ wsL_sound_r2, w ∈ lw_tbl := zin [377, 554, 555, 556, 557, 14, 624, 15, 640, 16, 777, 778, 779, 5, 780, 143, 45, 49, 145, 79, 81, 84, 86, 89] (by decide +kernel)
theorem in_L_sound_r3 : ∀ w ∈ wsL_sound_r3, w ∈ lw_tbl := zin [91, 94, 77, 147, 134, 781, 516, 517, 7, 518, 76, 511, 512, 513, 514, 515, 782, 783, 784, 785, 497, 479, 480, 481] (by decide +kernel)
theorem in_L_sound_r4 : ∀ w ∈ wsL_sound_r4, w ∈ lw_tbl := zin [6, 482, 48, 52, 53, 483, 484, 485, 486, 51, 491, 487, 488, 489, 490, 44, 47, 492, 473, 17, 474, 475, 476, 477] (by decide +kernel)
theorem in_L_sound_r5 : ∀ w ∈ wsL_sound_r5, w ∈ lw_tbl := zin [478, 493, 494, 495, 496, 498, 500, 501, 470, 471, 472, 503, 504, 505, 506, 17, 507, 508, 509, 510, 739, 740, 741, 661] (by decide +kernel)
theorem in_L_sound_r6 : ∀ w ∈ wsL_sound_r6, w ∈ lw_tbl := zin [674, 742, 743, 744, 745, 144, 146, 82, 689, 690, 691, 692, 391, 392, 393, 394, 746, 747, 748, 749, 750, 751, 752, 753] (by decide +kernel)
theorem in_L_sound_r7 : ∀ w ∈ wsL_sound_r7, w ∈ lw_tbl := zin [754, 755, 756, 757, 758, 759, 760, 382, 383, 384, 385, 761, 805, 806, 807, 818, 808, 809, 810, 811, 148, 812, 813, 814] (by decide +kernel)
theorem in_L_sound_r8 : ∀ w ∈ wsL_sound_r8, w ∈ lw_tbl := zin [8, 815, 133, 136, 817, 822, 823, 824, 825, 97, 826, 827, 828, 829, 830, 831, 832, 833, 834, 835, 836, 837, 838, 839] (by decide +kernel)
theorem in_L_sound_r9 : ∀ w ∈ wsL_sound_r9, w ∈ lw_tbl := zin [840, 841, 842, 843, 844, 87, 845, 401, 402, 846, 847, 848, 849, 850, 92, 851, 852, 853, 854, 855, 856, 857, 858, 859] (by decide +kernel)
theorem in_L_sound_r10 : ∀ w ∈ wsL_sound_r10, w ∈ lw_tbl := zin [860, 861, 862, 863, 864] (by decide +kernel)
set_option maxRecDepth 100000 in
theorem in_L_sound : ∀ w ∈ wsL_sound, w ∈ lw_tbl := zin_cons (zin_one 799 rfl) (zin_app (zin_app (zin_app (zin_app (zin_app (zin_app (zin_app (zin_app (zin_app (zin_app in_L_sound_r1 (zin_app in_L_sound_r2 (zin_app in_L_sound_r3 (zin_app in_L_sound_r4 (zin_app in_L_sound_r5 (zin_app in_L_sound_r6 (zin_app in_L_sound_r7 (zin_app in_L_sound_r8 (zin_app in_L_sound_r9 in_L_sound_r10))))))))) in_uX8) in_uX2) in_uX6) in_uX4) in_uX1) in_uX3) zin_v0) zin_v1) zin_v2)
theorem inL_197 : ∀ w ∈ va_wsS RL 197 yL_sound wsL_sound, w ∈ lw_tbl := zin_app (zin [797, 798, 3] (by decide +kernel)) in_L_sound
set_option maxRecDepth 20000 in
theorem gdL_197 : GoodIn (va_wsS RL 197 yL_sound wsL_sound) (va_wsS RL 197 yL_sound wsL_sound) := goodIn_sub (fun w h => h) (by decide +kernel)
theorem in_X8_runCommands_r1 : ∀ w ∈ wsX8_runCommands_r1, w ∈ lw_tbl := zin [211, 210, 209, 188, 190, 192, 259, 260, 261, 10, 262, 186, 263, 264, 265, 266, 185, 267, 268, 269, 270, 183, 271, 272] (by decide +kernel)
theorem in_X8_runCommands_r2 : ∀ w ∈ wsX8_runCommands_r2, w ∈ lw_tbl := zin [273, 274, 182, 275, 276, 277, 278, 187, 279, 280, 281, 282, 283, 284, 285, 286, 975, 289, 290, 291, 292, 293, 294, 295] (by decide +kernel)
theorem in_X8_runCommands_r3 : ∀ w ∈ wsX8_runCommands_r3, w ∈ lw_tbl := zin [19, 296, 976, 297, 298, 299, 300, 301, 977, 303, 304, 305, 306, 307, 308, 309, 310, 311, 312, 20, 313, 314, 315, 316] (by decide +kernel)
theorem in_X8_runCommands_r4 : ∀ w ∈ wsX8_runCommands_r4, w ∈ lw_tbl := zin [317, 319, 320, 21, 321, 322, 323, 22, 324, 325, 326, 327, 328, 329, 330, 331, 332, 333, 334, 335, 337, 339, 341, 342] (by decide +kernel)
theorem in_X8_runCommands_r5 : ∀ w ∈ wsX8_runCommands_r5, w ∈ lw_tbl := zin [343, 344, 345, 346, 347, 348, 978, 189, 191, 349, 350, 351, 352, 353, 354, 355, 356, 223, 224, 225, 9, 226, 165, 166] (by decide +kernel)
theorem in_X8_runCommands_r6 : ∀ w ∈ wsX8_runCommands_r6, w ∈ lw_tbl := zin [167, 248, 249, 17, 250, 227, 228, 229, 5, 230, 143, 145, 147, 231, 232, 233, 6, 234, 44, 47, 235, 237, 236, 18] (by decide +kernel)
theorem in_X8_runCommands_r7 : ∀ w ∈ wsX8_runCommands_r7, w ∈ lw_tbl := zin [48, 51, 52, 53, 238, 239, 240, 7, 241, 75, 242, 76, 78, 80, 83, 85, 88, 90, 93, 95, 98, 100, 243, 244] (by decide +kernel)
theorem in_X8_runCommands_r8 : ∀ w ∈ wsX8_runCommands_r8, w ∈ lw_tbl := zin [245, 8, 246, 133, 136, 247, 357, 358, 359, 361, 0, 4, 362, 363, 144, 146, 365, 366, 368, 369, 4, 370, 979, 371] (by decide +kernel)
theorem in_X8_runCommands_r9 : ∀ w ∈ wsX8_runCommands_r9, w ∈ lw_tbl := zin [372, 373, 374, 376, 377, 378, 379, 380, 381, 386, 382, 383, 384, 385, 387, 388, 389, 390, 391, 392, 393, 394, 395, 396] (by decide +kernel)
theorem in_X8_runCommands_r10 : ∀ w ∈ wsX8_runCommands_r10, w ∈ lw_tbl := zin [397, 398, 401, 402, 403, 404, 405, 406, 407, 408, 409, 410, 411, 412, 413, 414, 415, 420, 421, 422, 423, 424, 425, 427] (by decide +kernel)
theorem in_X8_runCommands_r11 : ∀ w ∈ wsX8_runCommands_r11, w ∈ lw_tbl := zin [1, 428, 429, 430, 431, 432, 433, 434, 435, 436, 437, 438, 439, 440, 441, 442, 443, 444, 445, 446, 447, 448, 449, 450] (by decide +kernel)
theorem in_X8_runCommands_r12 : ∀ w ∈ wsX8_runCommands_r12, w ∈ lw_tbl := zin [451, 452, 251, 252, 253, 254, 453, 454, 455, 456, 457, 458, 459, 460, 81, 86, 96, 91, 94, 89, 461, 462, 463, 464] (by decide +kernel)
theorem in_X8_runCommands_r13 : ∀ w ∈ wsX8_runCommands_r13, w ∈ lw_tbl := zin [465, 466, 467, 468, 470, 471, 472, 473, 17, 474, 475, 476, 477, 478, 84, 479, 480, 481, 482, 483, 484, 485, 486, 491] (by decide +kernel)
theorem in_X8_runCommands_r14 : ∀ w ∈ wsX8_runCommands_r14, w ∈ lw_tbl := zin [487, 488, 489, 490, 492, 493, 494, 495, 496, 77, 497, 498, 500, 501, 503, 504, 505, 506, 507, 508, 509, 510, 511, 512] (by decide +kernel)
theorem in_X8_runCommands_r15 : ∀ w ∈ wsX8_runCommands_r15, w ∈ lw_tbl := zin [513, 514, 515, 516, 517, 518, 519, 520, 521, 522, 99, 101, 523, 524, 525, 526, 527, 528, 529, 530, 531, 532, 534, 535] (by decide +kernel)
theorem in_X8_runCommands_r16 : ∀ w ∈ wsX8_runCommands_r16, w ∈ lw_tbl := zin [533] (by decide +kernel)
set_option maxRecDepth 100000 in
theorem in_X8_runCommands : ∀ w ∈ wsX8_runCommands, w ∈ lw_tbl := zin_cons (zin_one 258 rfl) (zin_app (zin_app (zin_app (zin_app (zin_app (zin_app (zin_app (zin_app in_X8_runCommands_r1 (zin_app in_X8_runCommands_r2 (zin_app in_X8_runCommands_r3 (zin_app in_X8_runCommands_r4 (zin_app in_X8_runCommands_r5 (zin_app in_X8_runCommands_r6 (zin_app in_X8_runCommands_r7 (zin_app in_X8_runCommands_r8 (zin_app in_X8_runCommands_r9 (zin_app in_X8_runCommands_r10 (zin_app in_X8_runCommands_r11 (zin_app in_X8_runCommands_r12 (zin_app in_X8_runCommands_r13 (zin_app in_X8_runCommands_r14 (zin_app in_X8_runCommands_r15 in_X8_runCommands_r16))))))))))))))) in_uX8) in_uX2) in_uX5) in_uX6) in_uX4) in_uX1) in_uX3)
