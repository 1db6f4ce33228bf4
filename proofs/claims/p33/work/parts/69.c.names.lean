theorem dL_sound_715 : decode cL_sound 715 = .ok (.ifCond .ne 10, 3) := by decide +kernel
theorem dL_sound_718 : decode cL_sound 718 = .ok (.aload_n 0, 1) := by decide +kernel
theorem dL_sound_719 : decode cL_sound 719 = .ok (.invokevirtual 133, 3) := by decide +kernel
theorem dL_sound_722 : decode cL_sound 722 = .ok (.ifCond .ne 90, 3) := by decide +kernel
theorem dL_sound_725 : decode cL_sound 725 = .ok (.lload_n 3, 1) := by decide +kernel
theorem dL_sound_726 : decode cL_sound 726 = .ok (.lconst 0, 1) := by decide +kernel
theorem dL_sound_727 : decode cL_sound 727 = .ok (.lcmp, 1) := by decide +kernel
theorem dL_sound_728 : decode cL_sound 728 = .ok (.ifCond .lt 7, 3) := by decide +kernel
theorem dL_sound_731 : decode cL_sound 731 = .ok (.iconst 1, 1) := by decide +kernel
theorem dL_sound_732 : decode cL_sound 732 = .ok (.goto 4, 3) := by decide +kernel
theorem dL_sound_735 : decode cL_sound 735 = .ok (.iconst 0, 1) := by decide +kernel
theorem dL_sound_736 : decode cL_sound 736 = .ok (.aload_n 0, 1) := by decide +kernel
theorem dL_sound_737 : decode cL_sound 737 = .ok (.invokevirtual 133, 3) := by decide +kernel
theorem dL_sound_740 : decode cL_sound 740 = .ok (.ifCond .lt 7, 3) := by decide +kernel
theorem dL_sound_743 : decode cL_sound 743 = .ok (.iconst 1, 1) := by decide +kernel
theorem dL_sound_744 : decode cL_sound 744 = .ok (.goto 4, 3) := by decide +kernel
theorem dL_sound_747 : decode cL_sound 747 = .ok (.iconst 0, 1) := by decide +kernel
theorem dL_sound_748 : decode cL_sound 748 = .ok (.if_icmp .ne 64, 3) := by decide +kernel
theorem dL_sound_751 : decode cL_sound 751 = .ok (.aload_n 0, 1) := by decide +kernel
theorem dL_sound_752 : decode cL_sound 752 = .ok (.iconst 4, 1) := by decide +kernel
theorem dL_sound_753 : decode cL_sound 753 = .ok (.invokestatic 93, 3) := by decide +kernel
theorem dL_sound_756 : decode cL_sound 756 = .ok (.sipush (-500), 3) := by decide +kernel
theorem dL_sound_759 : decode cL_sound 759 = .ok (.if_icmp .lt 53, 3) := by decide +kernel
theorem dL_sound_762 : decode cL_sound 762 = .ok (.aload_n 0, 1) := by decide +kernel
theorem dL_sound_763 : decode cL_sound 763 = .ok (.iconst 4, 1) := by decide +kernel
theorem dL_sound_764 : decode cL_sound 764 = .ok (.invokestatic 93, 3) := by decide +kernel
theorem dL_sound_767 : decode cL_sound 767 = .ok (.sipush 500, 3) := by decide +kernel
theorem dL_sound_770 : decode cL_sound 770 = .ok (.if_icmp .gt 42, 3) := by decide +kernel
theorem dL_sound_773 : decode cL_sound 773 = .ok (.aload_n 0, 1) := by decide +kernel
theorem dL_sound_774 : decode cL_sound 774 = .ok (.iconst 5, 1) := by decide +kernel
theorem dL_sound_775 : decode cL_sound 775 = .ok (.invokestatic 93, 3) := by decide +kernel
theorem dL_sound_778 : decode cL_sound 778 = .ok (.ifCond .lt 34, 3) := by decide +kernel
theorem dL_sound_781 : decode cL_sound 781 = .ok (.aload_n 0, 1) := by decide +kernel
theorem dL_sound_782 : decode cL_sound 782 = .ok (.iconst 5, 1) := by decide +kernel
theorem dL_sound_783 : decode cL_sound 783 = .ok (.invokestatic 93, 3) := by decide +kernel
theorem dL_sound_786 : decode cL_sound 786 = .ok (.sipush 192, 3) := by decide +kernel
theorem dL_sound_789 : decode cL_sound 789 = .ok (.if_icmp .gt 23, 3) := by decide +kernel
theorem dL_sound_792 : decode cL_sound 792 = .ok (.iload 5, 2) := by decide +kernel
theorem dL_sound_794 : decode cL_sound 794 = .ok (.sipush (-300), 3) := by decide +kernel
theorem dL_sound_797 : decode cL_sound 797 = .ok (.if_icmp .lt 15, 3) := by decide +kernel
theorem dL_sound_800 : decode cL_sound 800 = .ok (.iload 5, 2) := by decide +kernel
theorem dL_sound_802 : decode cL_sound 802 = .ok (.sipush 600, 3) := by decide +kernel
theorem dL_sound_805 : decode cL_sound 805 = .ok (.if_icmp .gt 7, 3) := by decide +kernel
theorem dL_sound_808 : decode cL_sound 808 = .ok (.iconst 1, 1) := by decide +kernel
theorem dL_sound_809 : decode cL_sound 809 = .ok (.goto 4, 3) := by decide +kernel
theorem dL_sound_812 : decode cL_sound 812 = .ok (.iconst 0, 1) := by decide +kernel
theorem dL_sound_813 : decode cL_sound 813 = .ok (.ireturn, 1) := by decide +kernel
set_option maxRecDepth 20000 in
theorem ggL_hour_L_whole : GoodIn wsL_hour wsL_whole := goodIn_ca (goodIn_ca (goodIn_ca (goodIn_r _ [7, 8, 9, 10, 11, 12, 13, 14, 15, 16, 17, 18, 19, 20, 21, 22, 23, 24, 25, 26, 27, 28, 29, 30, 31, 32, 33, 34, 35, 36, 37, 38, 39, 40, 41, 42, 43, 44, 45, 46, 47, 48, 49, 50, 51, 52, 53, 54, 55, 56, 57, 58, 59, 60, 61, 62, 63, 64, 65, 66, 67, 68, 69, 70, 71, 72, 73, 74, 75, 76, 77, 78, 79, 80, 81, 82, 83, 84, 85, 86, 87, 88, 89, 90, 91, 92, 93, 94, 95, 96, 97, 98, 99, 100, 101, 102, 103, 104, 105, 106, 107, 108, 109, 110, 111, 263, 264, 265, 266, 267, 268, 269, 270, 271, 272, 273, 274, 275, 276, 277, 278, 279, 280, 281, 282, 283, 284, 285, 286, 287, 288, 289, 290, 291, 292, 293, 294, 295] (by decide +kernel) (by decide +kernel)) (goodIn_sub (fun _ h => List.mem_cons_of_mem _ (List.mem_append_left _ (List.mem_append_left _ (List.mem_append_right _ h)))) (by decide +kernel))) (goodIn_sub (fun _ h => List.mem_cons_of_mem _ (List.mem_append_left _ (List.mem_append_right _ h))) (by decide +kernel))) (goodIn_sub (fun _ h => List.mem_cons_of_mem _ (List.mem_append_right _ h)) (by decide +kernel))
set_option maxRecDepth 20000 in
theorem gL_hour_L_whole : GoodIn wsL_hour (va_wsS RL 93 yL_whole wsL_whole) := goodIn_app (goodIn_of _ (by decide +kernel)) ggL_hour_L_whole
set_option maxRecDepth 20000 in
theorem ggL_hour_L_shelf : GoodIn wsL_hour wsL_shelf := goodIn_ca (goodIn_ca (goodIn_ca (goodIn_r _ [114, 115, 116, 117, 118, 119, 13, 120, 17, 121, 122, 123, 124, 52, 125, 19, 20, 21, 22, 23, 24, 25, 26, 27, 28, 29, 126, 127, 128, 129, 130, 263, 264, 265, 273, 274, 275, 282, 283, 284, 285, 286, 287, 288, 289, 290, 291, 292, 293] (by decide +kernel) (by decide +kernel)) (goodIn_sub (fun _ h => List.mem_cons_of_mem _ (List.mem_append_left _ (List.mem_append_left _ (List.mem_append_right _ h)))) (by decide +kernel))) (goodIn_sub (fun _ h => List.mem_cons_of_mem _ (List.mem_append_left _ (List.mem_append_right _ h))) (by decide +kernel))) (goodIn_sub (fun _ h => List.mem_cons_of_mem _ (List.mem_append_right _ h)) (by decide +kernel))
set_option maxRecDepth 20000 in
theorem gL_hour_L_shelf : GoodIn wsL_hour (va_wsS RL 136 yL_shelf wsL_shelf) := goodIn_app (goodIn_of _ (by decide +kernel)) ggL_hour_L_shelf
set_option maxRecDepth 20000 in
theorem ggL_hour_X8_rates : GoodIn wsL_hour wsX8_rates := goodIn_r _ [134, 17, 121, 135, 263, 264, 265, 273, 274, 275, 282, 283, 284, 285, 286, 287, 288, 289, 290, 291, 292, 293] (by decide +kernel) (by decide +kernel)
set_option maxRecDepth 20000 in
theorem gL_hour_X8_rates : GoodIn wsL_hour (wsV RL 120 RX8 yX8_rates wsX8_rates) := goodIn_app (goodIn_of _ (by decide +kernel)) ggL_hour_X8_rates
set_option maxRecDepth 20000 in
theorem ggL_hour_L_rateAt : GoodIn wsL_hour wsL_rateAt := goodIn_ca (goodIn_ca (goodIn_ca (goodIn_r _ [138, 8, 9, 139, 140, 141, 13, 142, 17, 121, 143, 144, 145, 146, 18, 19, 20, 21, 22, 23, 24, 25, 26, 27, 28, 29, 147, 90, 91, 33, 92, 38, 41, 35, 65, 66, 67, 68, 69, 70, 71, 72, 73, 74, 75, 76, 77, 78, 79, 80, 81, 82, 83, 84, 85, 86, 87, 88, 93, 94, 95, 96, 46, 64, 97, 98, 99, 100, 101, 102, 103, 104, 105, 106, 107, 108, 109, 110, 111, 55, 56, 57, 52, 58, 59, 50, 51, 53, 54, 263, 264, 265, 273, 274, 275, 282, 283, 284, 285, 286, 287, 288, 289, 290, 291, 292, 293, 276, 277, 278, 279, 280, 281] (by decide +kernel) (by decide +kernel)) (goodIn_sub (fun _ h => List.mem_cons_of_mem _ (List.mem_append_left _ (List.mem_append_left _ (List.mem_append_right _ h)))) (by decide +kernel))) (goodIn_sub (fun _ h => List.mem_cons_of_mem _ (List.mem_append_left _ (List.mem_append_right _ h))) (by decide +kernel))) (goodIn_sub (fun _ h => List.mem_cons_of_mem _ (List.mem_append_right _ h)) (by decide +kernel))
set_option maxRecDepth 20000 in
theorem gL_hour_L_rateAt : GoodIn wsL_hour (va_wsS RL 127 yL_rateAt wsL_rateAt) := goodIn_app (goodIn_of _ (by decide +kernel)) ggL_hour_L_rateAt
set_option maxRecDepth 20000 in
theorem ggL_hour_L_changeWithin : GoodIn wsL_hour wsL_changeWithin := goodIn_ca (goodIn_ca (goodIn_ca (goodIn_r _ [150, 8, 151, 152, 153, 154, 13, 155, 17, 18, 19, 20, 21, 22, 23, 24, 25, 26, 27, 28, 29, 156, 157, 158, 33, 159, 38, 40, 42, 160, 161, 162, 52, 163, 164, 54, 165, 127, 128, 129, 130, 100, 101, 102, 86, 87, 88, 89, 90, 91, 92, 41, 35, 65, 66, 67, 68, 69, 70, 71, 72, 73, 74, 75, 76, 77, 78, 79, 80, 81, 82, 83, 84, 85, 93, 94, 95, 96, 46, 64, 97, 98, 99, 103, 104, 105, 106, 107, 108, 109, 110, 111, 55, 56, 57, 58, 59, 50, 51, 53, 263, 264, 265, 273, 274, 275, 282, 283, 284, 285, 286, 287, 288, 289, 290, 291, 292, 293, 276, 277, 278, 279, 280, 281] (by decide +kernel) (by decide +kernel)) (goodIn_sub (fun _ h => List.mem_cons_of_mem _ (List.mem_append_left _ (List.mem_append_left _ (List.mem_append_right _ h)))) (by decide +kernel))) (goodIn_sub (fun _ h => List.mem_cons_of_mem _ (List.mem_append_left _ (List.mem_append_right _ h))) (by decide +kernel))) (goodIn_sub (fun _ h => List.mem_cons_of_mem _ (List.mem_append_right _ h)) (by decide +kernel))
set_option maxRecDepth 20000 in
theorem gL_hour_L_changeWithin : GoodIn wsL_hour (va_wsS RL 138 yL_changeWithin wsL_changeWithin) := goodIn_app (goodIn_of _ (by decide +kernel)) ggL_hour_L_changeWithin
set_option maxRecDepth 20000 in
theorem ggL_hour_L_pass : GoodIn wsL_hour wsL_pass := goodIn_ca (goodIn_ca (goodIn_ca (goodIn_r _ [168, 8, 169, 9, 170, 171, 172, 173, 13, 174, 17, 121, 175, 176, 177, 178, 52, 179, 180, 181, 19, 20, 21, 22, 23, 24, 25, 26, 27, 28, 29, 182, 183, 184, 185, 186, 187, 188, 189, 190, 191, 107, 192, 193, 194, 195, 33, 196, 35, 38, 47, 197, 198, 199, 68, 200, 83, 84, 201, 202, 203, 204, 70, 77, 71, 72, 205, 206, 207, 208, 130, 209, 54, 164, 210, 211, 212, 213, 214, 215, 216, 217, 218, 219, 220, 221, 222, 223, 224, 225, 226, 227, 228, 229, 40, 42, 230, 44, 45, 43, 160, 161, 162, 163, 165, 127, 128, 129, 100, 101, 102, 86, 87, 88, 89, 90, 91, 92, 41, 65, 66, 67, 69, 73, 74, 75, 76, 78, 79, 80, 81, 82, 85, 93, 94, 95, 96, 46, 64, 97, 98, 99, 103, 104, 105, 106, 108, 109, 110, 111, 55, 56, 57, 58, 59, 50, 51, 53, 231, 232, 233, 234, 235, 236, 237, 238, 239, 240, 241, 242, 243, 244, 245, 246, 247, 248, 249, 263, 264, 265, 273, 274, 275, 282, 283, 284, 285, 286, 287, 288, 289, 290, 291, 292, 293, 296, 297, 298, 276, 277, 278, 279, 280, 281, 294, 295] (by decide +kernel) (by decide +kernel)) (goodIn_sub (fun _ h => List.mem_cons_of_mem _ (List.mem_append_left _ (List.mem_append_left _ (List.mem_append_right _ h)))) (by decide +kernel))) (goodIn_sub (fun _ h => List.mem_cons_of_mem _ (List.mem_append_left _ (List.mem_append_right _ h))) (by decide +kernel))) (goodIn_sub (fun _ h => List.mem_cons_of_mem _ (List.mem_append_right _ h)) (by decide +kernel))
set_option maxRecDepth 20000 in
theorem gL_hour_L_pass : GoodIn wsL_hour (va_wsS RL 141 yL_pass wsL_pass) := goodIn_app (goodIn_of _ (by decide +kernel)) ggL_hour_L_pass
set_option maxRecDepth 20000 in
theorem ggL_hour_L_day : GoodIn wsL_hour wsL_day := goodIn_ca (goodIn_ca (goodIn_ca (goodIn_r _ [252, 8, 151, 253, 254, 255, 13, 256, 17, 257, 18, 19, 20, 21, 22, 23, 24, 25, 26, 27, 28, 29, 258, 259, 260, 221, 261, 223, 224, 262, 263, 264, 265, 273, 274, 275, 294, 295] (by decide +kernel) (by decide +kernel)) (goodIn_sub (fun _ h => List.mem_cons_of_mem _ (List.mem_append_left _ (List.mem_append_left _ (List.mem_append_right _ h)))) (by decide +kernel))) (goodIn_sub (fun _ h => List.mem_cons_of_mem _ (List.mem_append_left _ (List.mem_append_right _ h))) (by decide +kernel))) (goodIn_sub (fun _ h => List.mem_cons_of_mem _ (List.mem_append_right _ h)) (by decide +kernel))
set_option maxRecDepth 20000 in
theorem gL_hour_L_day : GoodIn wsL_hour (va_wsS RL 111 yL_day wsL_day) := goodIn_app (goodIn_of _ (by decide +kernel)) ggL_hour_L_day
theorem dL_hour_0 : decode cL_hour 0 = .ok (.aload_n 0, 1) := by decide +kernel
theorem dL_hour_1 : decode cL_hour 1 = .ok (.iconst 3, 1) := by decide +kernel
theorem dL_hour_2 : decode cL_hour 2 = .ok (.invokestatic 93, 3) := by decide +kernel
theorem dL_hour_5 : decode cL_hour 5 = .ok (.istore_n 1, 1) := by decide +kernel
theorem dL_hour_6 : decode cL_hour 6 = .ok (.aload_n 0, 1) := by decide +kernel
theorem dL_hour_7 : decode cL_hour 7 = .ok (.aload_n 0, 1) := by decide +kernel
theorem dL_hour_8 : decode cL_hour 8 = .ok (.iconst 2, 1) := by decide +kernel
theorem dL_hour_9 : decode cL_hour 9 = .ok (.invokestatic 93, 3) := by decide +kernel
theorem dL_hour_12 : decode cL_hour 12 = .ok (.invokestatic 136, 3) := by decide +kernel
theorem dL_hour_15 : decode cL_hour 15 = .ok (.istore_n 2, 1) := by decide +kernel
theorem dL_hour_16 : decode cL_hour 16 = .ok (.aload_n 0, 1) := by decide +kernel
theorem dL_hour_17 : decode cL_hour 17 = .ok (.bipush 14, 2) := by decide +kernel
theorem dL_hour_19 : decode cL_hour 19 = .ok (.invokestatic 93, 3) := by decide +kernel
theorem dL_hour_22 : decode cL_hour 22 = .ok (.istore_n 3, 1) := by decide +kernel
theorem dL_hour_23 : decode cL_hour 23 = .ok (.aload_n 0, 1) := by decide +kernel
theorem dL_hour_24 : decode cL_hour 24 = .ok (.iconst 5, 1) := by decide +kernel
theorem dL_hour_25 : decode cL_hour 25 = .ok (.invokestatic 93, 3) := by decide +kernel
theorem dL_hour_28 : decode cL_hour 28 = .ok (.istore 4, 2) := by decide +kernel
theorem dL_hour_30 : decode cL_hour 30 = .ok (.aload_n 0, 1) := by decide +kernel
theorem dL_hour_31 : decode cL_hour 31 = .ok (.bipush 11, 2) := by decide +kernel
theorem dL_hour_33 : decode cL_hour 33 = .ok (.invokestatic 93, 3) := by decide +kernel
theorem dL_hour_36 : decode cL_hour 36 = .ok (.istore 5, 2) := by decide +kernel
theorem dL_hour_38 : decode cL_hour 38 = .ok (.aload_n 0, 1) := by decide +kernel
theorem dL_hour_39 : decode cL_hour 39 = .ok (.bipush 10, 2) := by decide +kernel
theorem dL_hour_41 : decode cL_hour 41 = .ok (.invokestatic 93, 3) := by decide +kernel
theorem dL_hour_44 : decode cL_hour 44 = .ok (.istore 6, 2) := by decide +kernel
theorem dL_hour_46 : decode cL_hour 46 = .ok (.aload_n 0, 1) := by decide +kernel
theorem dL_hour_47 : decode cL_hour 47 = .ok (.invokevirtual 120, 3) := by decide +kernel
theorem dL_hour_50 : decode cL_hour 50 = .ok (.lstore 7, 2) := by decide +kernel
theorem dL_hour_52 : decode cL_hour 52 = .ok (.iload_n 2, 1) := by decide +kernel
theorem dL_hour_53 : decode cL_hour 53 = .ok (.iload_n 1, 1) := by decide +kernel
theorem dL_hour_54 : decode cL_hour 54 = .ok (.isub, 1) := by decide +kernel
theorem dL_hour_55 : decode cL_hour 55 = .ok (.istore 9, 2) := by decide +kernel
theorem dL_hour_57 : decode cL_hour 57 = .ok (.iload 9, 2) := by decide +kernel
theorem dL_hour_59 : decode cL_hour 59 = .ok (.ifCond .lt 10, 3) := by decide +kernel
theorem dL_hour_62 : decode cL_hour 62 = .ok (.iload 9, 2) := by decide +kernel
theorem dL_hour_64 : decode cL_hour 64 = .ok (.iload_n 3, 1) := by decide +kernel
theorem dL_hour_65 : decode cL_hour 65 = .ok (.idiv, 1) := by decide +kernel
theorem dL_hour_66 : decode cL_hour 66 = .ok (.goto 12, 3) := by decide +kernel
theorem dL_hour_69 : decode cL_hour 69 = .ok (.iload_n 3, 1) := by decide +kernel
theorem dL_hour_70 : decode cL_hour 70 = .ok (.iconst 1, 1) := by decide +kernel
theorem dL_hour_71 : decode cL_hour 71 = .ok (.isub, 1) := by decide +kernel
theorem dL_hour_72 : decode cL_hour 72 = .ok (.iload 9, 2) := by decide +kernel
theorem dL_hour_74 : decode cL_hour 74 = .ok (.isub, 1) := by decide +kernel
theorem dL_hour_75 : decode cL_hour 75 = .ok (.iload_n 3, 1) := by decide +kernel
theorem dL_hour_76 : decode cL_hour 76 = .ok (.idiv, 1) := by decide +kernel
theorem dL_hour_77 : decode cL_hour 77 = .ok (.ineg, 1) := by decide +kernel
theorem dL_hour_78 : decode cL_hour 78 = .ok (.istore 10, 2) := by decide +kernel
theorem dL_hour_80 : decode cL_hour 80 = .ok (.iload 10, 2) := by decide +kernel
theorem dL_hour_82 : decode cL_hour 82 = .ok (.ifCond .ne 12, 3) := by decide +kernel
theorem dL_hour_85 : decode cL_hour 85 = .ok (.iload 9, 2) := by decide +kernel
theorem dL_hour_87 : decode cL_hour 87 = .ok (.ifCond .le 7, 3) := by decide +kernel
theorem dL_hour_90 : decode cL_hour 90 = .ok (.iconst 1, 1) := by decide +kernel
theorem dL_hour_91 : decode cL_hour 91 = .ok (.goto 5, 3) := by decide +kernel
theorem dL_hour_94 : decode cL_hour 94 = .ok (.iload 10, 2) := by decide +kernel
theorem dL_hour_96 : decode cL_hour 96 = .ok (.istore 10, 2) := by decide +kernel
theorem dL_hour_98 : decode cL_hour 98 = .ok (.aload_n 0, 1) := by decide +kernel
theorem dL_hour_99 : decode cL_hour 99 = .ok (.iload_n 1, 1) := by decide +kernel
theorem dL_hour_100 : decode cL_hour 100 = .ok (.iload 10, 2) := by decide +kernel
theorem dL_hour_102 : decode cL_hour 102 = .ok (.iadd, 1) := by decide +kernel
theorem dL_hour_103 : decode cL_hour 103 = .ok (.invokestatic 127, 3) := by decide +kernel
theorem dL_hour_106 : decode cL_hour 106 = .ok (.istore 11, 2) := by decide +kernel
theorem dL_hour_108 : decode cL_hour 108 = .ok (.aload_n 0, 1) := by decide +kernel
theorem dL_hour_109 : decode cL_hour 109 = .ok (.iconst 1, 1) := by decide +kernel
theorem dL_hour_110 : decode cL_hour 110 = .ok (.invokestatic 138, 3) := by decide +kernel
theorem dL_hour_113 : decode cL_hour 113 = .ok (.lstore 12, 2) := by decide +kernel
theorem dL_hour_115 : decode cL_hour 115 = .ok (.aload_n 0, 1) := by decide +kernel
theorem dL_hour_116 : decode cL_hour 116 = .ok (.iconst 1, 1) := by decide +kernel
theorem dL_hour_117 : decode cL_hour 117 = .ok (.invokestatic 141, 3) := by decide +kernel
theorem dL_hour_120 : decode cL_hour 120 = .ok (.istore 14, 2) := by decide +kernel
theorem dL_hour_122 : decode cL_hour 122 = .ok (.lload 7, 2) := by decide +kernel
theorem dL_hour_124 : decode cL_hour 124 = .ok (.iload 4, 2) := by decide +kernel
theorem dL_hour_126 : decode cL_hour 126 = .ok (.ifCond .le 8, 3) := by decide +kernel
theorem dL_hour_129 : decode cL_hour 129 = .ok (.iload 11, 2) := by decide +kernel
theorem dL_hour_131 : decode cL_hour 131 = .ok (.goto 4, 3) := by decide +kernel
theorem dL_hour_134 : decode cL_hour 134 = .ok (.iconst 0, 1) := by decide +kernel
theorem dL_hour_135 : decode cL_hour 135 = .ok (.i2l, 1) := by decide +kernel
theorem dL_hour_136 : decode cL_hour 136 = .ok (.ladd, 1) := by decide +kernel
theorem dL_hour_137 : decode cL_hour 137 = .ok (.lstore 15, 2) := by decide +kernel
theorem dL_hour_139 : decode cL_hour 139 = .ok (.lload 15, 2) := by decide +kernel
theorem dL_hour_141 : decode cL_hour 141 = .ok (.ldc2_w 114, 3) := by decide +kernel
theorem dL_hour_144 : decode cL_hour 144 = .ok (.ldiv, 1) := by decide +kernel
theorem dL_hour_145 : decode cL_hour 145 = .ok (.lstore 17, 2) := by decide +kernel
theorem dL_hour_147 : decode cL_hour 147 = .ok (.lload 17, 2) := by decide +kernel
theorem dL_hour_149 : decode cL_hour 149 = .ok (.ldc2_w 114, 3) := by decide +kernel
theorem dL_hour_152 : decode cL_hour 152 = .ok (.lmul, 1) := by decide +kernel
theorem dL_hour_153 : decode cL_hour 153 = .ok (.lload 15, 2) := by decide +kernel
theorem dL_hour_155 : decode cL_hour 155 = .ok (.lcmp, 1) := by decide +kernel
theorem dL_hour_156 : decode cL_hour 156 = .ok (.ifCond .le 10, 3) := by decide +kernel
theorem dL_hour_159 : decode cL_hour 159 = .ok (.lload 17, 2) := by decide +kernel
theorem dL_hour_161 : decode cL_hour 161 = .ok (.lconst 1, 1) := by decide +kernel
theorem dL_hour_162 : decode cL_hour 162 = .ok (.lsub, 1) := by decide +kernel
theorem dL_hour_163 : decode cL_hour 163 = .ok (.goto 5, 3) := by decide +kernel
theorem dL_hour_166 : decode cL_hour 166 = .ok (.lload 17, 2) := by decide +kernel
theorem dL_hour_168 : decode cL_hour 168 = .ok (.lstore 17, 2) := by decide +kernel
theorem dL_hour_170 : decode cL_hour 170 = .ok (.lload 17, 2) := by decide +kernel
theorem dL_hour_172 : decode cL_hour 172 = .ok (.ldc2_w 143, 3) := by decide +kernel
theorem dL_hour_175 : decode cL_hour 175 = .ok (.lcmp, 1) := by decide +kernel
theorem dL_hour_176 : decode cL_hour 176 = .ok (.ifCond .le 9, 3) := by decide +kernel
theorem dL_hour_179 : decode cL_hour 179 = .ok (.ldc2_w 143, 3) := by decide +kernel
theorem dL_hour_182 : decode cL_hour 182 = .ok (.goto 20, 3) := by decide +kernel
theorem dL_hour_185 : decode cL_hour 185 = .ok (.lload 17, 2) := by decide +kernel
theorem dL_hour_187 : decode cL_hour 187 = .ok (.ldc2_w 145, 3) := by decide +kernel
theorem dL_hour_190 : decode cL_hour 190 = .ok (.lcmp, 1) := by decide +kernel
theorem dL_hour_191 : decode cL_hour 191 = .ok (.ifCond .ge 9, 3) := by decide +kernel
theorem dL_hour_194 : decode cL_hour 194 = .ok (.ldc2_w 145, 3) := by decide +kernel
theorem dL_hour_197 : decode cL_hour 197 = .ok (.goto 5, 3) := by decide +kernel
theorem dL_hour_200 : decode cL_hour 200 = .ok (.lload 17, 2) := by decide +kernel
theorem dL_hour_202 : decode cL_hour 202 = .ok (.lstore 17, 2) := by decide +kernel
theorem dL_hour_204 : decode cL_hour 204 = .ok (.aload_n 0, 1) := by decide +kernel
theorem dL_hour_205 : decode cL_hour 205 = .ok (.iconst 3, 1) := by decide +kernel
theorem dL_hour_206 : decode cL_hour 206 = .ok (.invokestatic 93, 3) := by decide +kernel
theorem dL_hour_209 : decode cL_hour 209 = .ok (.iload_n 1, 1) := by decide +kernel
theorem dL_hour_210 : decode cL_hour 210 = .ok (.iload 10, 2) := by decide +kernel
theorem dL_hour_212 : decode cL_hour 212 = .ok (.iadd, 1) := by decide +kernel
theorem dL_hour_213 : decode cL_hour 213 = .ok (.if_icmp .ne 136, 3) := by decide +kernel
theorem dL_hour_216 : decode cL_hour 216 = .ok (.aload_n 0, 1) := by decide +kernel
theorem dL_hour_217 : decode cL_hour 217 = .ok (.invokevirtual 120, 3) := by decide +kernel
theorem dL_hour_220 : decode cL_hour 220 = .ok (.lload 15, 2) := by decide +kernel
theorem dL_hour_222 : decode cL_hour 222 = .ok (.lcmp, 1) := by decide +kernel
theorem dL_hour_223 : decode cL_hour 223 = .ok (.ifCond .ne 126, 3) := by decide +kernel
theorem dL_hour_226 : decode cL_hour 226 = .ok (.lload 12, 2) := by decide +kernel
theorem dL_hour_228 : decode cL_hour 228 = .ok (.lload 15, 2) := by decide +kernel
theorem dL_hour_230 : decode cL_hour 230 = .ok (.lload 7, 2) := by decide +kernel
theorem dL_hour_232 : decode cL_hour 232 = .ok (.lsub, 1) := by decide +kernel
theorem dL_hour_233 : decode cL_hour 233 = .ok (.lcmp, 1) := by decide +kernel
theorem dL_hour_234 : decode cL_hour 234 = .ok (.ifCond .ne 115, 3) := by decide +kernel
theorem dL_hour_237 : decode cL_hour 237 = .ok (.iload 14, 2) := by decide +kernel
theorem dL_hour_239 : decode cL_hour 239 = .ok (.i2l, 1) := by decide +kernel
theorem dL_hour_240 : decode cL_hour 240 = .ok (.lload 17, 2) := by decide +kernel
theorem dL_hour_242 : decode cL_hour 242 = .ok (.lcmp, 1) := by decide +kernel
theorem dL_hour_243 : decode cL_hour 243 = .ok (.ifCond .ne 106, 3) := by decide +kernel
theorem dL_hour_246 : decode cL_hour 246 = .ok (.aload_n 0, 1) := by decide +kernel
theorem dL_hour_247 : decode cL_hour 247 = .ok (.iconst 5, 1) := by decide +kernel
theorem dL_hour_248 : decode cL_hour 248 = .ok (.invokestatic 93, 3) := by decide +kernel
theorem dL_hour_251 : decode cL_hour 251 = .ok (.iload 4, 2) := by decide +kernel
theorem dL_hour_253 : decode cL_hour 253 = .ok (.ifCond .le 10, 3) := by decide +kernel
theorem dL_hour_256 : decode cL_hour 256 = .ok (.iload 4, 2) := by decide +kernel
theorem dL_hour_258 : decode cL_hour 258 = .ok (.iconst 1, 1) := by decide +kernel
theorem dL_hour_259 : decode cL_hour 259 = .ok (.isub, 1) := by decide +kernel
theorem dL_hour_260 : decode cL_hour 260 = .ok (.goto 4, 3) := by decide +kernel
theorem dL_hour_263 : decode cL_hour 263 = .ok (.iconst 0, 1) := by decide +kernel
theorem dL_hour_264 : decode cL_hour 264 = .ok (.if_icmp .ne 85, 3) := by decide +kernel
theorem dL_hour_267 : decode cL_hour 267 = .ok (.aload_n 0, 1) := by decide +kernel
theorem dL_hour_268 : decode cL_hour 268 = .ok (.bipush 11, 2) := by decide +kernel
theorem dL_hour_270 : decode cL_hour 270 = .ok (.invokestatic 93, 3) := by decide +kernel
theorem dL_hour_273 : decode cL_hour 273 = .ok (.iload 5, 2) := by decide +kernel
theorem dL_hour_275 : decode cL_hour 275 = .ok (.iload 4, 2) := by decide +kernel
theorem dL_hour_277 : decode cL_hour 277 = .ok (.ifCond .le 7, 3) := by decide +kernel
theorem dL_hour_280 : decode cL_hour 280 = .ok (.iconst 1, 1) := by decide +kernel
theorem dL_hour_281 : decode cL_hour 281 = .ok (.goto 4, 3) := by decide +kernel
theorem dL_hour_284 : decode cL_hour 284 = .ok (.iconst 0, 1) := by decide +kernel
theorem dL_hour_285 : decode cL_hour 285 = .ok (.iadd, 1) := by decide +kernel
theorem dL_hour_286 : decode cL_hour 286 = .ok (.if_icmp .ne 63, 3) := by decide +kernel
theorem dL_hour_289 : decode cL_hour 289 = .ok (.aload_n 0, 1) := by decide +kernel
theorem dL_hour_290 : decode cL_hour 290 = .ok (.bipush 10, 2) := by decide +kernel
theorem dL_hour_292 : decode cL_hour 292 = .ok (.invokestatic 93, 3) := by decide +kernel
theorem dL_hour_295 : decode cL_hour 295 = .ok (.iload 6, 2) := by decide +kernel
theorem dL_hour_297 : decode cL_hour 297 = .ok (.iconst 1, 1) := by decide +kernel
theorem dL_hour_298 : decode cL_hour 298 = .ok (.iadd, 1) := by decide +kernel
theorem dL_hour_299 : decode cL_hour 299 = .ok (.if_icmp .ne 50, 3) := by decide +kernel
theorem dL_hour_302 : decode cL_hour 302 = .ok (.iload 6, 2) := by decide +kernel
theorem dL_hour_304 : decode cL_hour 304 = .ok (.iconst 1, 1) := by decide +kernel
theorem dL_hour_305 : decode cL_hour 305 = .ok (.iadd, 1) := by decide +kernel
theorem dL_hour_306 : decode cL_hour 306 = .ok (.bipush 24, 2) := by decide +kernel
theorem dL_hour_308 : decode cL_hour 308 = .ok (.irem, 1) := by decide +kernel
theorem dL_hour_309 : decode cL_hour 309 = .ok (.ifCond .ne 36, 3) := by decide +kernel
theorem dL_hour_312 : decode cL_hour 312 = .ok (.aload_n 0, 1) := by decide +kernel
theorem dL_hour_313 : decode cL_hour 313 = .ok (.iconst 0, 1) := by decide +kernel
theorem dL_hour_314 : decode cL_hour 314 = .ok (.iconst 0, 1) := by decide +kernel
theorem dL_hour_315 : decode cL_hour 315 = .ok (.invokestatic 111, 3) := by decide +kernel
theorem dL_hour_318 : decode cL_hour 318 = .ok (.aload_n 0, 1) := by decide +kernel
theorem dL_hour_319 : decode cL_hour 319 = .ok (.iconst 3, 1) := by decide +kernel
theorem dL_hour_320 : decode cL_hour 320 = .ok (.invokestatic 93, 3) := by decide +kernel
theorem dL_hour_323 : decode cL_hour 323 = .ok (.i2l, 1) := by decide +kernel
theorem dL_hour_324 : decode cL_hour 324 = .ok (.lcmp, 1) := by decide +kernel
theorem dL_hour_325 : decode cL_hour 325 = .ok (.ifCond .ne 24, 3) := by decide +kernel
theorem dL_hour_328 : decode cL_hour 328 = .ok (.aload_n 0, 1) := by decide +kernel
theorem dL_hour_329 : decode cL_hour 329 = .ok (.iconst 0, 1) := by decide +kernel
theorem dL_hour_330 : decode cL_hour 330 = .ok (.iconst 1, 1) := by decide +kernel
theorem dL_hour_331 : decode cL_hour 331 = .ok (.invokestatic 111, 3) := by decide +kernel
theorem dL_hour_334 : decode cL_hour 334 = .ok (.aload_n 0, 1) := by decide +kernel
theorem dL_hour_335 : decode cL_hour 335 = .ok (.bipush 9, 2) := by decide +kernel
theorem dL_hour_337 : decode cL_hour 337 = .ok (.invokestatic 93, 3) := by decide +kernel
theorem dL_hour_340 : decode cL_hour 340 = .ok (.i2l, 1) := by decide +kernel
theorem dL_hour_341 : decode cL_hour 341 = .ok (.lcmp, 1) := by decide +kernel
theorem dL_hour_342 : decode cL_hour 342 = .ok (.ifCond .ne 7, 3) := by decide +kernel
theorem dL_hour_345 : decode cL_hour 345 = .ok (.iconst 1, 1) := by decide +kernel
theorem dL_hour_346 : decode cL_hour 346 = .ok (.goto 4, 3) := by decide +kernel
theorem dL_hour_349 : decode cL_hour 349 = .ok (.iconst 0, 1) := by decide +kernel
theorem dL_hour_350 : decode cL_hour 350 = .ok (.ireturn, 1) := by decide +kernel
theorem dL_size_0 : decode cL_size 0 = .ok (.lload_n 0, 1) := by decide +kernel
theorem dL_size_1 : decode cL_size 1 = .ok (.lconst 0, 1) := by decide +kernel
theorem dL_size_2 : decode cL_size 2 = .ok (.lcmp, 1) := by decide +kernel
theorem dL_size_3 : decode cL_size 3 = .ok (.ifCond .ge 8, 3) := by decide +kernel
theorem dL_size_6 : decode cL_size 6 = .ok (.lload_n 0, 1) := by decide +kernel
theorem dL_size_7 : decode cL_size 7 = .ok (.lneg, 1) := by decide +kernel
theorem dL_size_8 : decode cL_size 8 = .ok (.goto 4, 3) := by decide +kernel
theorem dL_size_11 : decode cL_size 11 = .ok (.lload_n 0, 1) := by decide +kernel
theorem dL_size_12 : decode cL_size 12 = .ok (.lreturn, 1) := by decide +kernel
set_option maxRecDepth 20000 in
theorem ggL_thoughts_X8_digest : GoodIn wsL_thoughts wsX8_digest := goodIn_ca (goodIn_ca (goodIn_ca (goodIn_r _ [7, 8, 9, 10, 11, 12, 13, 14, 15, 16, 17, 18, 6, 19, 20, 21, 22, 23, 24, 25, 26, 27, 28, 29, 30, 31, 32, 33, 34, 35, 36, 37, 38, 39, 40, 41, 42, 43, 44, 45, 46, 47, 48, 49, 50, 51, 52, 53, 54, 55, 56, 57, 58, 59, 60, 61, 62, 63, 64, 65, 66, 67, 68, 69, 70, 71, 72, 73, 74, 75, 76, 77, 78, 79, 80, 81, 82, 83, 84, 85, 86, 87, 88, 89, 90, 91, 92, 93, 94, 95, 96, 97, 98, 99, 100, 101, 102, 103, 104, 105, 106, 107, 108, 109, 110, 111, 112, 113, 114, 115, 116, 117, 118, 119, 120, 121, 122, 123, 124, 125, 126, 127, 128, 129, 130, 131, 132, 133, 134, 135, 136, 137, 138, 139, 140, 141, 142, 143, 144, 145, 146, 147, 148, 149, 150, 151, 152, 153, 154, 155, 156, 157, 158, 159, 160, 161, 162, 163, 164, 165, 166, 167, 168, 169, 170, 171, 172, 173, 174, 175, 176, 177, 178, 179, 180, 181, 182, 183, 184, 185, 186, 187, 188, 189, 190, 191, 192, 193, 194, 195, 196, 197, 198, 199, 200, 201, 202, 203, 204, 205, 206, 207, 208, 209, 210, 211, 212, 213, 214, 215, 216, 217, 218, 219, 420, 421, 422, 423, 424, 425, 426, 427, 428, 429, 430, 431, 432, 433, 434, 435, 436, 437, 438, 439, 440, 441, 442, 443, 444, 445, 446, 447, 448, 449, 450, 451, 452, 453, 454, 455] (by decide +kernel) (by decide +kernel)) (goodIn_sub (fun _ h => List.mem_cons_of_mem _ (List.mem_append_left _ (List.mem_append_left _ (List.mem_append_right _ h)))) (by decide +kernel))) (goodIn_sub (fun _ h => List.mem_cons_of_mem _ (List.mem_append_left _ (List.mem_append_right _ h))) (by decide +kernel))) (goodIn_sub (fun _ h => List.mem_cons_of_mem _ (List.mem_append_right _ h)) (by decide +kernel))
set_option maxRecDepth 20000 in
theorem gL_thoughts_X8_digest : GoodIn wsL_thoughts (wsV RL 147 RX8 yX8_digest wsX8_digest) := goodIn_app (goodIn_of _ (by decide +kernel)) ggL_thoughts_X8_digest
set_option maxRecDepth 20000 in
theorem ggL_thoughts_X8_bestNut : GoodIn wsL_thoughts wsX8_bestNut := goodIn_r _ [211, 11, 212, 213, 214, 42, 215, 44, 47, 49, 51, 74, 75, 76, 77, 78, 79, 80, 81, 82, 83, 84, 85, 86, 87, 88, 89, 90, 91, 92, 93, 94, 95, 96, 97, 216, 217, 218, 219, 102, 103, 104, 105, 55, 73, 106, 107, 108, 109, 6, 110, 111, 112, 113, 114, 115, 116, 117, 118, 119, 120, 64, 65, 66, 61, 67, 68, 59, 60, 62, 63, 420, 421, 422, 426, 427, 428, 444, 445, 446, 447, 448, 449, 450, 451, 452, 453, 454, 455, 429, 430, 431, 432, 433, 434] (by decide +kernel) (by decide +kernel)
set_option maxRecDepth 20000 in
theorem gL_thoughts_X8_bestNut : GoodIn wsL_thoughts (wsV RL 150 RX8 yX8_bestNut wsX8_bestNut) := goodIn_app (goodIn_of _ (by decide +kernel)) ggL_thoughts_X8_bestNut
set_option maxRecDepth 20000 in
theorem ggL_thoughts_L_low : GoodIn wsL_thoughts wsL_low := goodIn_r _ [224, 225] (by decide +kernel) (by decide +kernel)
set_option maxRecDepth 20000 in
theorem gL_thoughts_L_low : GoodIn wsL_thoughts (va_wsS RL 153 yL_low wsL_low) := goodIn_app (goodIn_of _ (by decide +kernel)) ggL_thoughts_L_low
set_option maxRecDepth 20000 in
theorem ggL_thoughts_L_rangeOfRates : GoodIn wsL_thoughts wsL_rangeOfRates := goodIn_ca (goodIn_ca (goodIn_ca (goodIn_r _ [228, 229, 1, 230, 231, 232, 6, 233, 11, 234, 235, 236, 27, 28, 29, 30, 31, 32, 33, 34, 35, 36, 37, 38, 237, 238, 239, 42, 240, 47, 51, 241, 242, 116, 243, 244, 245, 246, 98, 99, 100, 101, 50, 44, 74, 75, 76, 77, 78, 79, 80, 81, 82, 83, 84, 85, 86, 87, 88, 89, 90, 91, 92, 93, 94, 95, 96, 97, 102, 103, 104, 105, 55, 73, 106, 107, 108, 109, 110, 111, 112, 113, 114, 115, 117, 118, 119, 120, 64, 65, 66, 61, 67, 68, 59, 60, 62, 63, 420, 421, 422, 426, 427, 428, 444, 445, 446, 447, 448, 449, 450, 451, 452, 453, 454, 455, 429, 430, 431, 432, 433, 434] (by decide +kernel) (by decide +kernel)) (goodIn_sub (fun _ h => List.mem_cons_of_mem _ (List.mem_append_left _ (List.mem_append_left _ (List.mem_append_right _ h)))) (by decide +kernel))) (goodIn_sub (fun _ h => List.mem_cons_of_mem _ (List.mem_append_left _ (List.mem_append_right _ h))) (by decide +kernel))) (goodIn_sub (fun _ h => List.mem_cons_of_mem _ (List.mem_append_right _ h)) (by decide +kernel))
set_option maxRecDepth 20000 in
theorem gL_thoughts_L_rangeOfRates : GoodIn wsL_thoughts (va_wsS RL 156 yL_rangeOfRates wsL_rangeOfRates) := goodIn_app (goodIn_of _ (by decide +kernel)) ggL_thoughts_L_rangeOfRates
set_option maxRecDepth 20000 in
theorem ggL_thoughts_L_changeWithin : GoodIn wsL_thoughts wsL_changeWithin := goodIn_ca (goodIn_ca (goodIn_ca (goodIn_r _ [249, 229, 250, 251, 252, 253, 6, 254, 11, 27, 28, 29, 30, 31, 32, 33, 34, 35, 36, 37, 38, 255, 256, 257, 42, 258, 47, 49, 51, 259, 260, 261, 61, 262, 263, 63, 264, 175, 176, 177, 178, 109, 110, 111, 95, 96, 97, 98, 99, 100, 101, 50, 44, 74, 75, 76, 77, 78, 79, 80, 81, 82, 83, 84, 85, 86, 87, 88, 89, 90, 91, 92, 93, 94, 102, 103, 104, 105, 55, 73, 106, 107, 108, 112, 113, 114, 115, 116, 117, 118, 119, 120, 64, 65, 66, 67, 68, 59, 60, 62, 420, 421, 422, 426, 427, 428, 444, 445, 446, 447, 448, 449, 450, 451, 452, 453, 454, 455, 429, 430, 431, 432, 433, 434] (by decide +kernel) (by decide +kernel)) (goodIn_sub (fun _ h => List.mem_cons_of_mem _ (List.mem_append_left _ (List.mem_append_left _ (List.mem_append_right _ h)))) (by decide +kernel))) (goodIn_sub (fun _ h => List.mem_cons_of_mem _ (List.mem_append_left _ (List.mem_append_right _ h))) (by decide +kernel))) (goodIn_sub (fun _ h => List.mem_cons_of_mem _ (List.mem_append_right _ h)) (by decide +kernel))
set_option maxRecDepth 20000 in
theorem gL_thoughts_L_changeWithin : GoodIn wsL_thoughts (va_wsS RL 138 yL_changeWithin wsL_changeWithin) := goodIn_app (goodIn_of _ (by decide +kernel)) ggL_thoughts_L_changeWithin
set_option maxRecDepth 20000 in
theorem ggL_thoughts_L_whole : GoodIn wsL_thoughts wsL_whole := goodIn_ca (goodIn_ca (goodIn_ca (goodIn_r _ [267, 229, 1, 268, 22, 23, 6, 24, 25, 26, 11, 27, 28, 29, 30, 31, 32, 33, 34, 35, 36, 37, 38, 39, 40, 41, 42, 43, 44, 45, 46, 47, 48, 49, 50, 51, 52, 53, 54, 55, 56, 57, 58, 59, 60, 61, 62, 63, 64, 65, 66, 67, 68, 69, 70, 71, 72, 73, 74, 75, 76, 77, 78, 79, 80, 81, 82, 83, 84, 85, 86, 87, 88, 89, 90, 91, 92, 93, 94, 95, 96, 97, 98, 99, 100, 101, 102, 103, 104, 105, 106, 107, 108, 109, 110, 111, 112, 113, 114, 115, 116, 117, 118, 119, 120, 420, 421, 422, 437, 438, 439, 440, 441, 442, 443, 426, 427, 428, 429, 430, 431, 432, 433, 434, 444, 445, 446, 447, 448, 449, 450, 451, 452, 453, 454, 455, 435, 436] (by decide +kernel) (by decide +kernel)) (goodIn_sub (fun _ h => List.mem_cons_of_mem _ (List.mem_append_left _ (List.mem_append_left _ (List.mem_append_right _ h)))) (by decide +kernel))) (goodIn_sub (fun _ h => List.mem_cons_of_mem _ (List.mem_append_left _ (List.mem_append_right _ h))) (by decide +kernel))) (goodIn_sub (fun _ h => List.mem_cons_of_mem _ (List.mem_append_right _ h)) (by decide +kernel))
set_option maxRecDepth 20000 in
theorem gL_thoughts_L_whole : GoodIn wsL_thoughts (va_wsS RL 93 yL_whole wsL_whole) := goodIn_app (goodIn_of _ (by decide +kernel)) ggL_thoughts_L_whole
set_option maxRecDepth 20000 in
theorem ggL_thoughts_L_rod : GoodIn wsL_thoughts wsL_rod := goodIn_ca (goodIn_ca (goodIn_ca (goodIn_r _ [271, 272, 229, 273, 1, 274, 180, 181, 6, 182, 11, 12, 137, 183, 184, 185, 186, 77, 187, 188, 189, 190, 191, 79, 28, 29, 30, 31, 32, 33, 34, 35, 36, 37, 38, 27, 192, 193, 194, 195, 86, 80, 81, 82, 83, 84, 85, 87, 88, 89, 90, 91, 92, 93, 94, 95, 96, 97, 420, 421, 422, 426, 427, 428, 444, 445, 446, 447, 448, 449, 450, 451, 452, 453, 454, 455, 429, 430, 431, 432, 433, 434] (by decide +kernel) (by decide +kernel)) (goodIn_sub (fun _ h => List.mem_cons_of_mem _ (List.mem_append_left _ (List.mem_append_left _ (List.mem_append_right _ h)))) (by decide +kernel))) (goodIn_sub (fun _ h => List.mem_cons_of_mem _ (List.mem_append_left _ (List.mem_append_right _ h))) (by decide +kernel))) (goodIn_sub (fun _ h => List.mem_cons_of_mem _ (List.mem_append_right _ h)) (by decide +kernel))
set_option maxRecDepth 20000 in
theorem gL_thoughts_L_rod : GoodIn wsL_thoughts (va_wsS RL 98 yL_rod wsL_rod) := goodIn_app (goodIn_of _ (by decide +kernel)) ggL_thoughts_L_rod
set_option maxRecDepth 20000 in
theorem ggL_thoughts_L_stretch : GoodIn wsL_thoughts wsL_stretch := goodIn_ca (goodIn_ca (goodIn_ca (goodIn_r _ [277, 272, 273, 278, 154, 155, 6, 156, 11, 12, 157, 158, 159, 77, 160, 161, 162, 163, 164, 92, 28, 29, 30, 31, 32, 33, 34, 35, 36, 37, 38, 165, 89, 90, 91, 93, 420, 421, 422, 426, 427, 428, 429, 430, 431, 432, 433, 434] (by decide +kernel) (by decide +kernel)) (goodIn_sub (fun _ h => List.mem_cons_of_mem _ (List.mem_append_left _ (List.mem_append_left _ (List.mem_append_right _ h)))) (by decide +kernel))) (goodIn_sub (fun _ h => List.mem_cons_of_mem _ (List.mem_append_left _ (List.mem_append_right _ h))) (by decide +kernel))) (goodIn_sub (fun _ h => List.mem_cons_of_mem _ (List.mem_append_right _ h)) (by decide +kernel))
set_option maxRecDepth 20000 in
theorem gL_thoughts_L_stretch : GoodIn wsL_thoughts (va_wsS RL 101 yL_stretch wsL_stretch) := goodIn_app (goodIn_of _ (by decide +kernel)) ggL_thoughts_L_stretch
set_option maxRecDepth 20000 in
theorem ggL_thoughts_L_size : GoodIn wsL_thoughts wsL_size := goodIn_r _ [281] (by decide +kernel) (by decide +kernel)
set_option maxRecDepth 20000 in
theorem gL_thoughts_L_size : GoodIn wsL_thoughts (va_wsS RL 158 yL_size wsL_size) := goodIn_app (goodIn_of _ (by decide +kernel)) ggL_thoughts_L_size
set_option maxRecDepth 20000 in
theorem ggL_thoughts_L_turnNut : GoodIn wsL_thoughts wsL_turnNut := goodIn_ca (goodIn_ca (goodIn_ca (goodIn_r _ [284, 229, 285, 1, 286, 287, 288, 289, 6, 290, 11, 137, 9, 291, 292, 293, 61, 294, 295, 28, 29, 30, 31, 32, 33, 34, 35, 36, 37, 38, 296, 297, 298, 299, 300, 301, 302, 303, 304, 242, 116, 243, 305, 306, 307, 42, 308, 44, 47, 56, 309, 310, 311, 77, 312, 92, 93, 313, 314, 315, 316, 79, 86, 80, 81, 317, 318, 319, 320, 178, 321, 63, 263, 322, 323, 324, 325, 326, 327, 328, 329, 330, 331, 332, 203, 333, 205, 206, 334, 335, 336, 337, 338, 420, 421, 422, 426, 427, 428, 444, 445, 446, 447, 448, 449, 450, 451, 452, 453, 454, 455, 423, 424, 425, 429, 430, 431, 432, 433, 434, 435, 436] (by decide +kernel) (by decide +kernel)) (goodIn_sub (fun _ h => List.mem_cons_of_mem _ (List.mem_append_left _ (List.mem_append_left _ (List.mem_append_right _ h)))) (by decide +kernel))) (goodIn_sub (fun _ h => List.mem_cons_of_mem _ (List.mem_append_left _ (List.mem_append_right _ h))) (by decide +kernel))) (goodIn_sub (fun _ h => List.mem_cons_of_mem _ (List.mem_append_right _ h)) (by decide +kernel))
set_option maxRecDepth 20000 in
theorem gL_thoughts_L_turnNut : GoodIn wsL_thoughts (va_wsS RL 162 yL_turnNut wsL_turnNut) := goodIn_app (goodIn_of _ (by decide +kernel)) ggL_thoughts_L_turnNut
set_option maxRecDepth 20000 in
theorem ggL_thoughts_X8_rates : GoodIn wsL_thoughts wsX8_rates := goodIn_r _ [136, 11, 137, 138, 420, 421, 422, 426, 427, 428, 444, 445, 446, 447, 448, 449, 450, 451, 452, 453, 454, 455] (by decide +kernel) (by decide +kernel)
set_option maxRecDepth 20000 in
theorem gL_thoughts_X8_rates : GoodIn wsL_thoughts (wsV RL 120 RX8 yX8_rates wsX8_rates) := goodIn_app (goodIn_of _ (by decide +kernel)) ggL_thoughts_X8_rates
set_option maxRecDepth 20000 in
theorem ggL_thoughts_L_pass : GoodIn wsL_thoughts wsL_pass := goodIn_ca (goodIn_ca (goodIn_ca (goodIn_r _ [342, 229, 285, 1, 286, 343, 344, 345, 6, 346, 11, 137, 9, 347, 348, 349, 61, 350, 324, 351, 28, 29, 30, 31, 32, 33, 34, 35, 36, 37, 38, 296, 297, 298, 299, 300, 301, 302, 303, 304, 242, 116, 243, 305, 306, 307, 42, 308, 44, 47, 56, 309, 310, 311, 77, 312, 92, 93, 313, 314, 315, 316, 79, 86, 80, 81, 317, 318, 319, 320, 178, 321, 63, 263, 322, 295, 323, 325, 326, 327, 328, 329, 330, 331, 332, 203, 333, 205, 206, 334, 352, 353, 354, 355, 49, 51, 356, 53, 54, 52, 259, 260, 261, 262, 264, 175, 176, 177, 109, 110, 111, 95, 96, 97, 98, 99, 100, 101, 50, 74, 75, 76, 78, 82, 83, 84, 85, 87, 88, 89, 90, 91, 94, 102, 103, 104, 105, 55, 73, 106, 107, 108, 112, 113, 114, 115, 117, 118, 119, 120, 64, 65, 66, 67, 68, 59, 60, 62, 357, 358, 359, 360, 361, 362, 363, 364, 365, 366, 367, 368, 369, 370, 371, 372, 373, 374, 375, 420, 421, 422, 426, 427, 428, 444, 445, 446, 447, 448, 449, 450, 451, 452, 453, 454, 455, 423, 424, 425, 429, 430, 431, 432, 433, 434, 435, 436] (by decide +kernel) (by decide +kernel)) (goodIn_sub (fun _ h => List.mem_cons_of_mem _ (List.mem_append_left _ (List.mem_append_left _ (List.mem_append_right _ h)))) (by decide +kernel))) (goodIn_sub (fun _ h => List.mem_cons_of_mem _ (List.mem_append_left _ (List.mem_append_right _ h))) (by decide +kernel))) (goodIn_sub (fun _ h => List.mem_cons_of_mem _ (List.mem_append_right _ h)) (by decide +kernel))
set_option maxRecDepth 20000 in
theorem gL_thoughts_L_pass : GoodIn wsL_thoughts (va_wsS RL 141 yL_pass wsL_pass) := goodIn_app (goodIn_of _ (by decide +kernel)) ggL_thoughts_L_pass
set_option maxRecDepth 20000 in
theorem ggL_thoughts_L_undo : GoodIn wsL_thoughts wsL_undo := goodIn_ca (goodIn_ca (goodIn_ca (goodIn_r _ [378, 285, 286, 379, 380, 381, 6, 382, 9, 10, 11, 30, 31, 32, 33, 34, 35, 36, 37, 38, 383, 384, 385, 299, 386, 302, 301, 303, 305, 306, 307, 42, 308, 44, 47, 56, 309, 310, 311, 77, 312, 92, 93, 313, 314, 315, 316, 79, 86, 80, 81, 317, 318, 319, 61, 320, 178, 321, 63, 263, 322, 295, 323, 324, 325, 326, 327, 328, 329, 330, 331, 332, 203, 333, 205, 206, 334, 420, 421, 422, 423, 424, 425, 426, 427, 428, 429, 430, 431, 432, 433, 434, 444, 445, 446, 447, 448, 449, 450, 451, 452, 453, 454, 455, 435, 436] (by decide +kernel) (by decide +kernel)) (goodIn_sub (fun _ h => List.mem_cons_of_mem _ (List.mem_append_left _ (List.mem_append_left _ (List.mem_append_right _ h)))) (by decide +kernel))) (goodIn_sub (fun _ h => List.mem_cons_of_mem _ (List.mem_append_left _ (List.mem_append_right _ h))) (by decide +kernel))) (goodIn_sub (fun _ h => List.mem_cons_of_mem _ (List.mem_append_right _ h)) (by decide +kernel))
set_option maxRecDepth 20000 in
theorem gL_thoughts_L_undo : GoodIn wsL_thoughts (va_wsS RL 164 yL_undo wsL_undo) := goodIn_app (goodIn_of _ (by decide +kernel)) ggL_thoughts_L_undo
set_option maxRecDepth 20000 in
theorem ggL_thoughts_L_matchLength : GoodIn wsL_thoughts wsL_matchLength := goodIn_ca (goodIn_ca (goodIn_ca (goodIn_r _ [389, 272, 273, 390, 391, 392, 6, 393, 11, 12, 184, 185, 186, 77, 187, 188, 189, 190, 191, 79, 28, 29, 30, 31, 32, 33, 34, 35, 36, 37, 38, 394, 395, 396, 397, 86, 80, 398, 399, 400, 116, 401, 88, 89, 90, 91, 92, 93, 402, 126, 127, 128, 129, 130, 131, 132, 81, 109, 110, 111, 95, 96, 97, 112, 113, 114, 115, 117, 118, 119, 120, 420, 421, 422, 426, 427, 428, 429, 430, 431, 432, 433, 434] (by decide +kernel) (by decide +kernel)) (goodIn_sub (fun _ h => List.mem_cons_of_mem _ (List.mem_append_left _ (List.mem_append_left _ (List.mem_append_right _ h)))) (by decide +kernel))) (goodIn_sub (fun _ h => List.mem_cons_of_mem _ (List.mem_append_left _ (List.mem_append_right _ h))) (by decide +kernel))) (goodIn_sub (fun _ h => List.mem_cons_of_mem _ (List.mem_append_right _ h)) (by decide +kernel))
set_option maxRecDepth 20000 in
theorem gL_thoughts_L_matchLength : GoodIn wsL_thoughts (va_wsS RL 167 yL_matchLength wsL_matchLength) := goodIn_app (goodIn_of _ (by decide +kernel)) ggL_thoughts_L_matchLength
set_option maxRecDepth 20000 in
theorem ggL_thoughts_X8_balance : GoodIn wsL_thoughts wsX8_balance := goodIn_r _ [124, 11, 12, 125, 126, 127, 77, 128, 79, 129, 130, 131, 132, 80, 81, 86, 88, 89, 90, 91, 92, 93, 420, 421, 422, 426, 427, 428, 429, 430, 431, 432, 433, 434] (by decide +kernel) (by decide +kernel)
set_option maxRecDepth 20000 in
theorem gL_thoughts_X8_balance : GoodIn wsL_thoughts (wsV RL 124 RX8 yX8_balance wsX8_balance) := goodIn_app (goodIn_of _ (by decide +kernel)) ggL_thoughts_X8_balance
set_option maxRecDepth 20000 in
theorem ggL_thoughts_L_setLength : GoodIn wsL_thoughts wsL_setLength := goodIn_ca (goodIn_ca (goodIn_ca (goodIn_r _ [406, 272, 229, 273, 1, 407, 408, 409, 6, 410, 11, 12, 9, 411, 412, 413, 77, 414, 415, 188, 189, 190, 191, 79, 28, 29, 30, 31, 32, 33, 34, 35, 36, 37, 38, 296, 297, 298, 299, 300, 301, 302, 303, 304, 242, 116, 243, 305, 306, 307, 42, 308, 44, 47, 56, 309, 310, 311, 312, 92, 93, 313, 314, 315, 316, 86, 80, 81, 317, 318, 319, 61, 320, 178, 321, 63, 263, 322, 295, 323, 324, 325, 326, 327, 328, 329, 330, 331, 332, 203, 333, 205, 206, 334, 416, 417, 418, 419, 420, 421, 422, 426, 427, 428, 429, 430, 431, 432, 433, 434, 423, 424, 425, 444, 445, 446, 447, 448, 449, 450, 451, 452, 453, 454, 455, 435, 436] (by decide +kernel) (by decide +kernel)) (goodIn_sub (fun _ h => List.mem_cons_of_mem _ (List.mem_append_left _ (List.mem_append_left _ (List.mem_append_right _ h)))) (by decide +kernel))) (goodIn_sub (fun _ h => List.mem_cons_of_mem _ (List.mem_append_left _ (List.mem_append_right _ h))) (by decide +kernel))) (goodIn_sub (fun _ h => List.mem_cons_of_mem _ (List.mem_append_right _ h)) (by decide +kernel))
set_option maxRecDepth 20000 in
theorem gL_thoughts_L_setLength : GoodIn wsL_thoughts (va_wsS RL 170 yL_setLength wsL_setLength) := goodIn_app (goodIn_of _ (by decide +kernel)) ggL_thoughts_L_setLength
theorem dL_thoughts_0 : decode cL_thoughts 0 = .ok (.aload_n 0, 1) := by decide +kernel
theorem dL_thoughts_1 : decode cL_thoughts 1 = .ok (.invokevirtual 147, 3) := by decide +kernel
theorem dL_thoughts_4 : decode cL_thoughts 4 = .ok (.lstore_n 2, 1) := by decide +kernel
theorem dL_thoughts_5 : decode cL_thoughts 5 = .ok (.aload_n 0, 1) := by decide +kernel
theorem dL_thoughts_6 : decode cL_thoughts 6 = .ok (.invokevirtual 150, 3) := by decide +kernel
theorem dL_thoughts_9 : decode cL_thoughts 9 = .ok (.istore 4, 2) := by decide +kernel
theorem dL_thoughts_11 : decode cL_thoughts 11 = .ok (.iload_n 1, 1) := by decide +kernel
theorem dL_thoughts_12 : decode cL_thoughts 12 = .ok (.sipush 901, 3) := by decide +kernel
theorem dL_thoughts_15 : decode cL_thoughts 15 = .ok (.invokestatic 153, 3) := by decide +kernel
theorem dL_thoughts_18 : decode cL_thoughts 18 = .ok (.sipush 300, 3) := by decide +kernel
theorem dL_thoughts_21 : decode cL_thoughts 21 = .ok (.isub, 1) := by decide +kernel
theorem dL_thoughts_22 : decode cL_thoughts 22 = .ok (.istore 5, 2) := by decide +kernel
theorem dL_thoughts_24 : decode cL_thoughts 24 = .ok (.aload_n 0, 1) := by decide +kernel
theorem dL_thoughts_25 : decode cL_thoughts 25 = .ok (.iload 5, 2) := by decide +kernel
theorem dL_thoughts_27 : decode cL_thoughts 27 = .ok (.sipush 600, 3) := by decide +kernel
theorem dL_thoughts_30 : decode cL_thoughts 30 = .ok (.invokestatic 156, 3) := by decide +kernel
theorem dL_thoughts_33 : decode cL_thoughts 33 = .ok (.istore 6, 2) := by decide +kernel
theorem dL_thoughts_35 : decode cL_thoughts 35 = .ok (.iload_n 1, 1) := by decide +kernel
theorem dL_thoughts_36 : decode cL_thoughts 36 = .ok (.iconst 4, 1) := by decide +kernel
theorem dL_thoughts_37 : decode cL_thoughts 37 = .ok (.ishr, 1) := by decide +kernel
theorem dL_thoughts_38 : decode cL_thoughts 38 = .ok (.bipush 100, 2) := by decide +kernel
theorem dL_thoughts_40 : decode cL_thoughts 40 = .ok (.invokestatic 153, 3) := by decide +kernel
theorem dL_thoughts_43 : decode cL_thoughts 43 = .ok (.istore 7, 2) := by decide +kernel
theorem dL_thoughts_45 : decode cL_thoughts 45 = .ok (.aload_n 0, 1) := by decide +kernel
theorem dL_thoughts_46 : decode cL_thoughts 46 = .ok (.iload 7, 2) := by decide +kernel
theorem dL_thoughts_48 : decode cL_thoughts 48 = .ok (.invokestatic 138, 3) := by decide +kernel
theorem dL_thoughts_51 : decode cL_thoughts 51 = .ok (.lstore 8, 2) := by decide +kernel
theorem dL_thoughts_53 : decode cL_thoughts 53 = .ok (.iconst 1, 1) := by decide +kernel
theorem dL_thoughts_54 : decode cL_thoughts 54 = .ok (.istore 10, 2) := by decide +kernel
theorem dL_thoughts_56 : decode cL_thoughts 56 = .ok (.iconst 0, 1) := by decide +kernel
theorem dL_thoughts_57 : decode cL_thoughts 57 = .ok (.istore 11, 2) := by decide +kernel
theorem dL_thoughts_59 : decode cL_thoughts 59 = .ok (.iload 11, 2) := by decide +kernel
theorem dL_thoughts_61 : decode cL_thoughts 61 = .ok (.aload_n 0, 1) := by decide +kernel
theorem dL_thoughts_62 : decode cL_thoughts 62 = .ok (.iconst 1, 1) := by decide +kernel
theorem dL_thoughts_63 : decode cL_thoughts 63 = .ok (.invokestatic 93, 3) := by decide +kernel
theorem dL_thoughts_66 : decode cL_thoughts 66 = .ok (.if_icmp .ge 35, 3) := by decide +kernel
theorem dL_thoughts_69 : decode cL_thoughts 69 = .ok (.iload 10, 2) := by decide +kernel
theorem dL_thoughts_71 : decode cL_thoughts 71 = .ok (.ifCond .eq 21, 3) := by decide +kernel
theorem dL_thoughts_74 : decode cL_thoughts 74 = .ok (.aload_n 0, 1) := by decide +kernel
theorem dL_thoughts_75 : decode cL_thoughts 75 = .ok (.aload_n 0, 1) := by decide +kernel
theorem dL_thoughts_76 : decode cL_thoughts 76 = .ok (.iload 11, 2) := by decide +kernel
theorem dL_thoughts_78 : decode cL_thoughts 78 = .ok (.iconst 0, 1) := by decide +kernel
theorem dL_thoughts_79 : decode cL_thoughts 79 = .ok (.invokestatic 98, 3) := by decide +kernel
theorem dL_thoughts_82 : decode cL_thoughts 82 = .ok (.invokestatic 101, 3) := by decide +kernel
theorem dL_thoughts_85 : decode cL_thoughts 85 = .ok (.ifCond .ne 7, 3) := by decide +kernel
theorem dL_thoughts_88 : decode cL_thoughts 88 = .ok (.iconst 1, 1) := by decide +kernel
theorem dL_thoughts_89 : decode cL_thoughts 89 = .ok (.goto 4, 3) := by decide +kernel
theorem dL_thoughts_92 : decode cL_thoughts 92 = .ok (.iconst 0, 1) := by decide +kernel
theorem dL_thoughts_93 : decode cL_thoughts 93 = .ok (.istore 10, 2) := by decide +kernel
theorem dL_thoughts_95 : decode cL_thoughts 95 = .ok (.iinc 11 1, 3) := by decide +kernel
theorem dL_thoughts_98 : decode cL_thoughts 98 = .ok (.goto (-39), 3) := by decide +kernel
theorem dL_thoughts_101 : decode cL_thoughts 101 = .ok (.aload_n 0, 1) := by decide +kernel
theorem dL_thoughts_102 : decode cL_thoughts 102 = .ok (.invokevirtual 147, 3) := by decide +kernel
theorem dL_thoughts_105 : decode cL_thoughts 105 = .ok (.lload_n 2, 1) := by decide +kernel
theorem dL_thoughts_106 : decode cL_thoughts 106 = .ok (.lcmp, 1) := by decide +kernel
theorem dL_thoughts_107 : decode cL_thoughts 107 = .ok (.ifCond .ne 55, 3) := by decide +kernel
theorem dL_thoughts_110 : decode cL_thoughts 110 = .ok (.iload 4, 2) := by decide +kernel
theorem dL_thoughts_112 : decode cL_thoughts 112 = .ok (.sipush (-500), 3) := by decide +kernel
theorem dL_thoughts_115 : decode cL_thoughts 115 = .ok (.if_icmp .lt 47, 3) := by decide +kernel
theorem dL_thoughts_118 : decode cL_thoughts 118 = .ok (.iload 4, 2) := by decide +kernel
theorem dL_thoughts_120 : decode cL_thoughts 120 = .ok (.sipush 500, 3) := by decide +kernel
theorem dL_thoughts_123 : decode cL_thoughts 123 = .ok (.if_icmp .gt 39, 3) := by decide +kernel
theorem dL_thoughts_126 : decode cL_thoughts 126 = .ok (.iload 6, 2) := by decide +kernel
theorem dL_thoughts_128 : decode cL_thoughts 128 = .ok (.ifCond .lt 34, 3) := by decide +kernel
theorem dL_thoughts_131 : decode cL_thoughts 131 = .ok (.aload_n 0, 1) := by decide +kernel
theorem dL_thoughts_132 : decode cL_thoughts 132 = .ok (.iload 5, 2) := by decide +kernel
theorem dL_thoughts_134 : decode cL_thoughts 134 = .ok (.iload 5, 2) := by decide +kernel
theorem dL_thoughts_136 : decode cL_thoughts 136 = .ok (.invokestatic 156, 3) := by decide +kernel
theorem dL_thoughts_139 : decode cL_thoughts 139 = .ok (.ifCond .ne 23, 3) := by decide +kernel
theorem dL_thoughts_142 : decode cL_thoughts 142 = .ok (.iload 10, 2) := by decide +kernel
theorem dL_thoughts_144 : decode cL_thoughts 144 = .ok (.ifCond .eq 8, 3) := by decide +kernel
theorem dL_thoughts_147 : decode cL_thoughts 147 = .ok (.iload 6, 2) := by decide +kernel
theorem dL_thoughts_149 : decode cL_thoughts 149 = .ok (.ifCond .ne 13, 3) := by decide +kernel
theorem dL_thoughts_152 : decode cL_thoughts 152 = .ok (.aload_n 0, 1) := by decide +kernel
theorem dL_thoughts_153 : decode cL_thoughts 153 = .ok (.iconst 0, 1) := by decide +kernel
theorem dL_thoughts_154 : decode cL_thoughts 154 = .ok (.invokestatic 138, 3) := by decide +kernel
theorem dL_thoughts_157 : decode cL_thoughts 157 = .ok (.lconst 0, 1) := by decide +kernel
theorem dL_thoughts_158 : decode cL_thoughts 158 = .ok (.lcmp, 1) := by decide +kernel
theorem dL_thoughts_159 : decode cL_thoughts 159 = .ok (.ifCond .eq 5, 3) := by decide +kernel
theorem dL_thoughts_162 : decode cL_thoughts 162 = .ok (.iconst 0, 1) := by decide +kernel
theorem dL_thoughts_163 : decode cL_thoughts 163 = .ok (.ireturn, 1) := by decide +kernel
theorem dL_thoughts_164 : decode cL_thoughts 164 = .ok (.aload_n 0, 1) := by decide +kernel
theorem dL_thoughts_165 : decode cL_thoughts 165 = .ok (.iconst 4, 1) := by decide +kernel
theorem dL_thoughts_166 : decode cL_thoughts 166 = .ok (.invokestatic 93, 3) := by decide +kernel
theorem dL_thoughts_169 : decode cL_thoughts 169 = .ok (.istore 11, 2) := by decide +kernel
theorem dL_thoughts_171 : decode cL_thoughts 171 = .ok (.aload_n 0, 1) := by decide +kernel
theorem dL_thoughts_172 : decode cL_thoughts 172 = .ok (.bipush 9, 2) := by decide +kernel
theorem dL_thoughts_174 : decode cL_thoughts 174 = .ok (.invokestatic 93, 3) := by decide +kernel
theorem dL_thoughts_177 : decode cL_thoughts 177 = .ok (.i2l, 1) := by decide +kernel
theorem dL_thoughts_178 : decode cL_thoughts 178 = .ok (.invokestatic 158, 3) := by decide +kernel
theorem dL_thoughts_181 : decode cL_thoughts 181 = .ok (.lstore 12, 2) := by decide +kernel
theorem dL_thoughts_183 : decode cL_thoughts 183 = .ok (.aload_n 0, 1) := by decide +kernel
theorem dL_thoughts_184 : decode cL_thoughts 184 = .ok (.iload 4, 2) := by decide +kernel
theorem dL_thoughts_186 : decode cL_thoughts 186 = .ok (.iload 11, 2) := by decide +kernel
theorem dL_thoughts_188 : decode cL_thoughts 188 = .ok (.isub, 1) := by decide +kernel
theorem dL_thoughts_189 : decode cL_thoughts 189 = .ok (.invokestatic 162, 3) := by decide +kernel
theorem dL_thoughts_192 : decode cL_thoughts 192 = .ok (.iload 4, 2) := by decide +kernel
theorem dL_thoughts_194 : decode cL_thoughts 194 = .ok (.if_icmp .ne 49, 3) := by decide +kernel
theorem dL_thoughts_197 : decode cL_thoughts 197 = .ok (.aload_n 0, 1) := by decide +kernel
theorem dL_thoughts_198 : decode cL_thoughts 198 = .ok (.bipush 9, 2) := by decide +kernel
theorem dL_thoughts_200 : decode cL_thoughts 200 = .ok (.invokestatic 93, 3) := by decide +kernel
theorem dL_thoughts_203 : decode cL_thoughts 203 = .ok (.i2l, 1) := by decide +kernel
theorem dL_thoughts_204 : decode cL_thoughts 204 = .ok (.invokestatic 158, 3) := by decide +kernel
theorem dL_thoughts_207 : decode cL_thoughts 207 = .ok (.lload 12, 2) := by decide +kernel
theorem dL_thoughts_209 : decode cL_thoughts 209 = .ok (.lcmp, 1) := by decide +kernel
theorem dL_thoughts_210 : decode cL_thoughts 210 = .ok (.ifCond .gt 33, 3) := by decide +kernel
theorem dL_thoughts_213 : decode cL_thoughts 213 = .ok (.aload_n 0, 1) := by decide +kernel
theorem dL_thoughts_214 : decode cL_thoughts 214 = .ok (.iload 11, 2) := by decide +kernel
theorem dL_thoughts_216 : decode cL_thoughts 216 = .ok (.iload 4, 2) := by decide +kernel
theorem dL_thoughts_218 : decode cL_thoughts 218 = .ok (.isub, 1) := by decide +kernel
theorem dL_thoughts_219 : decode cL_thoughts 219 = .ok (.invokestatic 162, 3) := by decide +kernel
theorem dL_thoughts_222 : decode cL_thoughts 222 = .ok (.iload 11, 2) := by decide +kernel
theorem dL_thoughts_224 : decode cL_thoughts 224 = .ok (.if_icmp .ne 19, 3) := by decide +kernel
theorem dL_thoughts_227 : decode cL_thoughts 227 = .ok (.aload_n 0, 1) := by decide +kernel
theorem dL_thoughts_228 : decode cL_thoughts 228 = .ok (.bipush 9, 2) := by decide +kernel
theorem dL_thoughts_230 : decode cL_thoughts 230 = .ok (.invokestatic 93, 3) := by decide +kernel
theorem dL_thoughts_233 : decode cL_thoughts 233 = .ok (.i2l, 1) := by decide +kernel
theorem dL_thoughts_234 : decode cL_thoughts 234 = .ok (.invokestatic 158, 3) := by decide +kernel
theorem dL_thoughts_237 : decode cL_thoughts 237 = .ok (.lload 12, 2) := by decide +kernel
theorem dL_thoughts_239 : decode cL_thoughts 239 = .ok (.lcmp, 1) := by decide +kernel
theorem dL_thoughts_240 : decode cL_thoughts 240 = .ok (.ifCond .eq 5, 3) := by decide +kernel
theorem dL_thoughts_243 : decode cL_thoughts 243 = .ok (.iconst 0, 1) := by decide +kernel
theorem dL_thoughts_244 : decode cL_thoughts 244 = .ok (.ireturn, 1) := by decide +kernel
theorem dL_thoughts_245 : decode cL_thoughts 245 = .ok (.aload_n 0, 1) := by decide +kernel
theorem dL_thoughts_246 : decode cL_thoughts 246 = .ok (.invokevirtual 120, 3) := by decide +kernel
theorem dL_thoughts_249 : decode cL_thoughts 249 = .ok (.lstore 14, 2) := by decide +kernel
theorem dL_thoughts_251 : decode cL_thoughts 251 = .ok (.iload 7, 2) := by decide +kernel
theorem dL_thoughts_253 : decode cL_thoughts 253 = .ok (.ifCond .le 46, 3) := by decide +kernel
theorem dL_thoughts_256 : decode cL_thoughts 256 = .ok (.aload_n 0, 1) := by decide +kernel
theorem dL_thoughts_257 : decode cL_thoughts 257 = .ok (.iload 7, 2) := by decide +kernel
theorem dL_thoughts_259 : decode cL_thoughts 259 = .ok (.invokestatic 141, 3) := by decide +kernel
theorem dL_thoughts_262 : decode cL_thoughts 262 = .ok (.ldc 17, 2) := by decide +kernel
theorem dL_thoughts_264 : decode cL_thoughts 264 = .ok (.if_icmp .eq 33, 3) := by decide +kernel
theorem dL_thoughts_267 : decode cL_thoughts 267 = .ok (.aload_n 0, 1) := by decide +kernel
theorem dL_thoughts_268 : decode cL_thoughts 268 = .ok (.invokevirtual 120, 3) := by decide +kernel
theorem dL_thoughts_271 : decode cL_thoughts 271 = .ok (.lload 14, 2) := by decide +kernel
theorem dL_thoughts_273 : decode cL_thoughts 273 = .ok (.lload 8, 2) := by decide +kernel
theorem dL_thoughts_275 : decode cL_thoughts 275 = .ok (.ladd, 1) := by decide +kernel
theorem dL_thoughts_276 : decode cL_thoughts 276 = .ok (.lcmp, 1) := by decide +kernel
theorem dL_thoughts_277 : decode cL_thoughts 277 = .ok (.ifCond .ne 20, 3) := by decide +kernel
theorem dL_thoughts_280 : decode cL_thoughts 280 = .ok (.aload_n 0, 1) := by decide +kernel
theorem dL_thoughts_281 : decode cL_thoughts 281 = .ok (.invokestatic 164, 3) := by decide +kernel
theorem dL_thoughts_284 : decode cL_thoughts 284 = .ok (.ifCond .lt 13, 3) := by decide +kernel
theorem dL_thoughts_287 : decode cL_thoughts 287 = .ok (.aload_n 0, 1) := by decide +kernel
theorem dL_thoughts_288 : decode cL_thoughts 288 = .ok (.invokevirtual 120, 3) := by decide +kernel
theorem dL_thoughts_291 : decode cL_thoughts 291 = .ok (.lload 14, 2) := by decide +kernel
theorem dL_thoughts_293 : decode cL_thoughts 293 = .ok (.lcmp, 1) := by decide +kernel
theorem dL_thoughts_294 : decode cL_thoughts 294 = .ok (.ifCond .eq 5, 3) := by decide +kernel
theorem dL_thoughts_297 : decode cL_thoughts 297 = .ok (.iconst 0, 1) := by decide +kernel
theorem dL_thoughts_298 : decode cL_thoughts 298 = .ok (.ireturn, 1) := by decide +kernel
theorem dL_thoughts_299 : decode cL_thoughts 299 = .ok (.iconst 0, 1) := by decide +kernel
theorem dL_thoughts_300 : decode cL_thoughts 300 = .ok (.istore 16, 2) := by decide +kernel
theorem dL_thoughts_302 : decode cL_thoughts 302 = .ok (.iload 16, 2) := by decide +kernel
theorem dL_thoughts_304 : decode cL_thoughts 304 = .ok (.aload_n 0, 1) := by decide +kernel
theorem dL_thoughts_305 : decode cL_thoughts 305 = .ok (.iconst 1, 1) := by decide +kernel
theorem dL_thoughts_306 : decode cL_thoughts 306 = .ok (.invokestatic 93, 3) := by decide +kernel
theorem dL_thoughts_309 : decode cL_thoughts 309 = .ok (.if_icmp .ge 106, 3) := by decide +kernel
theorem dL_thoughts_312 : decode cL_thoughts 312 = .ok (.aload_n 0, 1) := by decide +kernel
theorem dL_thoughts_313 : decode cL_thoughts 313 = .ok (.iload 16, 2) := by decide +kernel
theorem dL_thoughts_315 : decode cL_thoughts 315 = .ok (.invokestatic 167, 3) := by decide +kernel
theorem dL_thoughts_318 : decode cL_thoughts 318 = .ok (.istore 17, 2) := by decide +kernel
theorem dL_thoughts_320 : decode cL_thoughts 320 = .ok (.aload_n 0, 1) := by decide +kernel
theorem dL_thoughts_321 : decode cL_thoughts 321 = .ok (.iload 16, 2) := by decide +kernel
theorem dL_thoughts_323 : decode cL_thoughts 323 = .ok (.iconst 2, 1) := by decide +kernel
theorem dL_thoughts_324 : decode cL_thoughts 324 = .ok (.invokestatic 98, 3) := by decide +kernel
theorem dL_thoughts_327 : decode cL_thoughts 327 = .ok (.istore 18, 2) := by decide +kernel
theorem dL_thoughts_329 : decode cL_thoughts 329 = .ok (.aload_n 0, 1) := by decide +kernel
theorem dL_thoughts_330 : decode cL_thoughts 330 = .ok (.invokevirtual 124, 3) := by decide +kernel
theorem dL_thoughts_333 : decode cL_thoughts 333 = .ok (.invokestatic 158, 3) := by decide +kernel
theorem dL_thoughts_336 : decode cL_thoughts 336 = .ok (.lstore 19, 2) := by decide +kernel
theorem dL_thoughts_338 : decode cL_thoughts 338 = .ok (.iload 17, 2) := by decide +kernel
theorem dL_thoughts_340 : decode cL_thoughts 340 = .ok (.iconst 1, 1) := by decide +kernel
theorem dL_thoughts_341 : decode cL_thoughts 341 = .ok (.if_icmp .lt 66, 3) := by decide +kernel
theorem dL_thoughts_344 : decode cL_thoughts 344 = .ok (.iload 17, 2) := by decide +kernel
theorem dL_thoughts_346 : decode cL_thoughts 346 = .ok (.ldc 169, 2) := by decide +kernel
theorem dL_thoughts_348 : decode cL_thoughts 348 = .ok (.if_icmp .gt 59, 3) := by decide +kernel
theorem dL_thoughts_351 : decode cL_thoughts 351 = .ok (.aload_n 0, 1) := by decide +kernel
theorem dL_thoughts_352 : decode cL_thoughts 352 = .ok (.iload 16, 2) := by decide +kernel
theorem dL_thoughts_354 : decode cL_thoughts 354 = .ok (.iload 17, 2) := by decide +kernel
theorem dL_thoughts_356 : decode cL_thoughts 356 = .ok (.invokestatic 170, 3) := by decide +kernel
theorem dL_thoughts_359 : decode cL_thoughts 359 = .ok (.iload 18, 2) := by decide +kernel
theorem dL_thoughts_361 : decode cL_thoughts 361 = .ok (.if_icmp .ne 46, 3) := by decide +kernel
theorem dL_thoughts_364 : decode cL_thoughts 364 = .ok (.aload_n 0, 1) := by decide +kernel
theorem dL_thoughts_365 : decode cL_thoughts 365 = .ok (.invokevirtual 124, 3) := by decide +kernel
theorem dL_thoughts_368 : decode cL_thoughts 368 = .ok (.invokestatic 158, 3) := by decide +kernel
theorem dL_thoughts_371 : decode cL_thoughts 371 = .ok (.lload 19, 2) := by decide +kernel
theorem dL_thoughts_373 : decode cL_thoughts 373 = .ok (.lcmp, 1) := by decide +kernel
theorem dL_thoughts_374 : decode cL_thoughts 374 = .ok (.ifCond .gt 33, 3) := by decide +kernel
theorem dL_thoughts_377 : decode cL_thoughts 377 = .ok (.aload_n 0, 1) := by decide +kernel
theorem dL_thoughts_378 : decode cL_thoughts 378 = .ok (.iload 16, 2) := by decide +kernel
theorem dL_thoughts_380 : decode cL_thoughts 380 = .ok (.invokestatic 167, 3) := by decide +kernel
theorem dL_thoughts_383 : decode cL_thoughts 383 = .ok (.iload 17, 2) := by decide +kernel
theorem dL_thoughts_385 : decode cL_thoughts 385 = .ok (.if_icmp .ne 22, 3) := by decide +kernel
theorem dL_thoughts_388 : decode cL_thoughts 388 = .ok (.aload_n 0, 1) := by decide +kernel
theorem dL_thoughts_389 : decode cL_thoughts 389 = .ok (.invokestatic 164, 3) := by decide +kernel
theorem dL_thoughts_392 : decode cL_thoughts 392 = .ok (.ifCond .lt 15, 3) := by decide +kernel
theorem dL_thoughts_395 : decode cL_thoughts 395 = .ok (.aload_n 0, 1) := by decide +kernel
theorem dL_thoughts_396 : decode cL_thoughts 396 = .ok (.iload 16, 2) := by decide +kernel
theorem dL_thoughts_398 : decode cL_thoughts 398 = .ok (.iconst 2, 1) := by decide +kernel
theorem dL_thoughts_399 : decode cL_thoughts 399 = .ok (.invokestatic 98, 3) := by decide +kernel
theorem dL_thoughts_402 : decode cL_thoughts 402 = .ok (.iload 18, 2) := by decide +kernel
theorem dL_thoughts_404 : decode cL_thoughts 404 = .ok (.if_icmp .eq 5, 3) := by decide +kernel
theorem dL_thoughts_407 : decode cL_thoughts 407 = .ok (.iconst 0, 1) := by decide +kernel
theorem dL_thoughts_408 : decode cL_thoughts 408 = .ok (.ireturn, 1) := by decide +kernel
theorem dL_thoughts_409 : decode cL_thoughts 409 = .ok (.iinc 16 1, 3) := by decide +kernel
theorem dL_thoughts_412 : decode cL_thoughts 412 = .ok (.goto (-110), 3) := by decide +kernel
theorem dL_thoughts_415 : decode cL_thoughts 415 = .ok (.iconst 1, 1) := by decide +kernel
theorem dL_thoughts_416 : decode cL_thoughts 416 = .ok (.ireturn, 1) := by decide +kernel
set_option maxRecDepth 20000 in
theorem ggL_refuses_X8_digest : GoodIn wsL_refuses wsX8_digest := goodIn_ca (goodIn_ca (goodIn_ca (goodIn_r _ [10, 11, 12, 13, 14, 15, 16, 17, 18, 19, 20, 21, 9, 22, 23, 24, 25, 26, 27, 28, 29, 30, 31, 32, 33, 34, 35, 36, 37, 38, 39, 40, 41, 42, 43, 44, 45, 46, 47, 48, 49, 50, 51, 52, 53, 54, 55, 56, 57, 58, 59, 60, 61, 62, 63, 64, 65, 66, 67, 68, 69, 70, 71, 72, 73, 74, 75, 76, 77, 78, 79, 80, 81, 82, 83, 84, 85, 86, 87, 88, 89, 90, 91, 92, 93, 94, 95, 96, 97, 98, 99, 100, 101, 102, 103, 104, 105, 106, 107, 108, 109, 110, 111, 112, 113, 114, 115, 116, 117, 118, 119, 120, 121, 122, 123, 124, 125, 126, 127, 128, 129, 130, 131, 132, 133, 134, 135, 136, 137, 138, 139, 140, 141, 142, 143, 144, 145, 146, 147, 148, 149, 150, 151, 152, 153, 154, 155, 156, 157, 158, 159, 160, 161, 162, 163, 164, 165, 166, 167, 168, 169, 170, 171, 172, 173, 174, 175, 176, 177, 178, 179, 180, 181, 182, 183, 184, 185, 186, 187, 188, 189, 190, 191, 192, 193, 194, 195, 196, 197, 198, 199, 200, 201, 202, 203, 204, 205, 206, 207, 208, 209, 210, 211, 212, 213, 214, 215, 216, 217, 218, 219, 220, 221, 222, 532, 533, 534, 535, 536, 537, 538, 539, 540, 541, 542, 543, 544, 545, 546, 547, 548, 549, 550, 551, 552, 553, 554, 555, 556, 557, 558, 559, 560, 561, 562, 563, 564, 565, 566, 567] (by decide +kernel) (by decide +kernel)) (goodIn_sub (fun _ h => List.mem_cons_of_mem _ (List.mem_append_left _ (List.mem_append_left _ (List.mem_append_right _ h)))) (by decide +kernel))) (goodIn_sub (fun _ h => List.mem_cons_of_mem _ (List.mem_append_left _ (List.mem_append_right _ h))) (by decide +kernel))) (goodIn_sub (fun _ h => List.mem_cons_of_mem _ (List.mem_append_right _ h)) (by decide +kernel))
set_option maxRecDepth 20000 in
theorem gL_refuses_X8_digest : GoodIn wsL_refuses (wsV RL 147 RX8 yX8_digest wsX8_digest) := goodIn_app (goodIn_of _ (by decide +kernel)) ggL_refuses_X8_digest
set_option maxRecDepth 20000 in
theorem ggL_refuses_L_whole : GoodIn wsL_refuses wsL_whole := goodIn_ca (goodIn_ca (goodIn_ca (goodIn_r _ [226, 227, 1, 228, 25, 26, 9, 27, 28, 29, 14, 30, 31, 32, 33, 34, 35, 36, 37, 38, 39, 40, 41, 42, 43, 44, 45, 46, 47, 48, 49, 50, 51, 52, 53, 54, 55, 56, 57, 58, 59, 60, 61, 62, 63, 64, 65, 66, 67, 68, 69, 70, 71, 72, 73, 74, 75, 76, 77, 78, 79, 80, 81, 82, 83, 84, 85, 86, 87, 88, 89, 90, 91, 92, 93, 94, 95, 96, 97, 98, 99, 100, 101, 102, 103, 104, 105, 106, 107, 108, 109, 110, 111, 112, 113, 114, 115, 116, 117, 118, 119, 120, 121, 122, 123, 532, 533, 534, 549, 550, 551, 552, 553, 554, 555, 538, 539, 540, 541, 542, 543, 544, 545, 546, 556, 557, 558, 559, 560, 561, 562, 563, 564, 565, 566, 567, 547, 548] (by decide +kernel) (by decide +kernel)) (goodIn_sub (fun _ h => List.mem_cons_of_mem _ (List.mem_append_left _ (List.mem_append_left _ (List.mem_append_right _ h)))) (by decide +kernel))) (goodIn_sub (fun _ h => List.mem_cons_of_mem _ (List.mem_append_left _ (List.mem_append_right _ h))) (by decide +kernel))) (goodIn_sub (fun _ h => List.mem_cons_of_mem _ (List.mem_append_right _ h)) (by decide +kernel))
set_option maxRecDepth 20000 in
theorem gL_refuses_L_whole : GoodIn wsL_refuses (va_wsS RL 93 yL_whole wsL_whole) := goodIn_app (goodIn_of _ (by decide +kernel)) ggL_refuses_L_whole
set_option maxRecDepth 20000 in
theorem ggL_refuses_L_addMetal : GoodIn wsL_refuses wsL_addMetal := goodIn_ca (goodIn_ca (goodIn_ca (goodIn_r _ [231, 227, 232, 1, 233, 234, 235, 236, 9, 237, 14, 15, 12, 238, 239, 240, 80, 241, 95, 31, 32, 33, 34, 35, 36, 37, 38, 39, 40, 41, 242, 243, 244, 245, 246, 247, 248, 249, 250, 251, 119, 252, 253, 254, 255, 45, 256, 47, 50, 59, 257, 258, 259, 260, 96, 261, 262, 263, 264, 82, 89, 83, 84, 265, 266, 267, 64, 268, 181, 269, 66, 270, 271, 272, 273, 274, 275, 276, 277, 278, 279, 280, 281, 282, 206, 283, 208, 209, 284, 285, 286, 287, 288, 532, 533, 534, 538, 539, 540, 541, 542, 543, 544, 545, 546, 535, 536, 537, 556, 557, 558, 559, 560, 561, 562, 563, 564, 565, 566, 567, 547, 548] (by decide +kernel) (by decide +kernel)) (goodIn_sub (fun _ h => List.mem_cons_of_mem _ (List.mem_append_left _ (List.mem_append_left _ (List.mem_append_right _ h)))) (by decide +kernel))) (goodIn_sub (fun _ h => List.mem_cons_of_mem _ (List.mem_append_left _ (List.mem_append_right _ h))) (by decide +kernel))) (goodIn_sub (fun _ h => List.mem_cons_of_mem _ (List.mem_append_right _ h)) (by decide +kernel))
set_option maxRecDepth 20000 in
theorem gL_refuses_L_addMetal : GoodIn wsL_refuses (va_wsS RL 172 yL_addMetal wsL_addMetal) := goodIn_app (goodIn_of _ (by decide +kernel)) ggL_refuses_L_addMetal
set_option maxRecDepth 20000 in
theorem ggL_refuses_L_setStretch : GoodIn wsL_refuses wsL_setStretch := goodIn_ca (goodIn_ca (goodIn_ca (goodIn_r _ [291, 292, 227, 2, 1, 293, 294, 295, 9, 296, 14, 15, 12, 297, 298, 299, 80, 300, 164, 165, 166, 167, 95, 31, 32, 33, 34, 35, 36, 37, 38, 39, 40, 41, 242, 243, 244, 245, 246, 247, 248, 249, 250, 251, 119, 252, 253, 254, 255, 45, 256, 47, 50, 59, 257, 258, 259, 260, 96, 261, 262, 263, 264, 82, 89, 83, 84, 265, 266, 267, 64, 268, 181, 269, 66, 270, 271, 272, 273, 274, 275, 276, 277, 278, 279, 280, 281, 282, 206, 283, 208, 209, 284, 301, 302, 303, 304, 532, 533, 534, 538, 539, 540, 541, 542, 543, 544, 545, 546, 535, 536, 537, 556, 557, 558, 559, 560, 561, 562, 563, 564, 565, 566, 567, 547, 548] (by decide +kernel) (by decide +kernel)) (goodIn_sub (fun _ h => List.mem_cons_of_mem _ (List.mem_append_left _ (List.mem_append_left _ (List.mem_append_right _ h)))) (by decide +kernel))) (goodIn_sub (fun _ h => List.mem_cons_of_mem _ (List.mem_append_left _ (List.mem_append_right _ h))) (by decide +kernel))) (goodIn_sub (fun _ h => List.mem_cons_of_mem _ (List.mem_append_right _ h)) (by decide +kernel))
set_option maxRecDepth 20000 in
theorem gL_refuses_L_setStretch : GoodIn wsL_refuses (va_wsS RL 174 yL_setStretch wsL_setStretch) := goodIn_app (goodIn_of _ (by decide +kernel)) ggL_refuses_L_setStretch
set_option maxRecDepth 20000 in
theorem ggL_refuses_L_addRod : GoodIn wsL_refuses wsL_addRod := goodIn_ca (goodIn_ca (goodIn_ca (goodIn_r _ [307, 292, 227, 232, 2, 1, 233, 308, 309, 310, 9, 311, 14, 15, 12, 312, 313, 314, 80, 315, 316, 82, 164, 165, 166, 167, 95, 31, 32, 33, 34, 35, 36, 37, 38, 39, 40, 41, 242, 243, 244, 245, 246, 247, 248, 249, 250, 251, 119, 252, 253, 254, 255, 45, 256, 47, 50, 59, 257, 258, 259, 260, 96, 261, 262, 263, 264, 89, 83, 84, 265, 266, 267, 64, 268, 181, 269, 66, 270, 271, 272, 273, 274, 275, 276, 277, 278, 279, 280, 281, 282, 206, 283, 208, 209, 284, 317, 318, 319, 320, 532, 533, 534, 538, 539, 540, 541, 542, 543, 544, 545, 546, 535, 536, 537, 556, 557, 558, 559, 560, 561, 562, 563, 564, 565, 566, 567, 547, 548] (by decide +kernel) (by decide +kernel)) (goodIn_sub (fun _ h => List.mem_cons_of_mem _ (List.mem_append_left _ (List.mem_append_left _ (List.mem_append_right _ h)))) (by decide +kernel))) (goodIn_sub (fun _ h => List.mem_cons_of_mem _ (List.mem_append_left _ (List.mem_append_right _ h))) (by decide +kernel))) (goodIn_sub (fun _ h => List.mem_cons_of_mem _ (List.mem_append_right _ h)) (by decide +kernel))
set_option maxRecDepth 20000 in
theorem gL_refuses_L_addRod : GoodIn wsL_refuses (va_wsS RL 176 yL_addRod wsL_addRod) := goodIn_app (goodIn_of _ (by decide +kernel)) ggL_refuses_L_addRod
set_option maxRecDepth 20000 in
theorem ggL_refuses_L_removeRod : GoodIn wsL_refuses wsL_removeRod := goodIn_ca (goodIn_ca (goodIn_ca (goodIn_r _ [323, 292, 2, 324, 325, 326, 9, 327, 14, 15, 12, 187, 188, 189, 80, 190, 191, 192, 193, 194, 82, 31, 32, 33, 34, 35, 36, 37, 38, 39, 40, 41, 242, 243, 244, 245, 246, 247, 248, 249, 250, 251, 119, 252, 253, 254, 255, 45, 256, 47, 50, 59, 257, 258, 259, 260, 95, 96, 261, 262, 263, 264, 89, 83, 84, 265, 266, 267, 64, 268, 181, 269, 66, 270, 271, 272, 273, 274, 275, 276, 277, 278, 279, 280, 281, 282, 206, 283, 208, 209, 284, 328, 329, 330, 331, 532, 533, 534, 538, 539, 540, 541, 542, 543, 544, 545, 546, 535, 536, 537, 556, 557, 558, 559, 560, 561, 562, 563, 564, 565, 566, 567, 547, 548] (by decide +kernel) (by decide +kernel)) (goodIn_sub (fun _ h => List.mem_cons_of_mem _ (List.mem_append_left _ (List.mem_append_left _ (List.mem_append_right _ h)))) (by decide +kernel))) (goodIn_sub (fun _ h => List.mem_cons_of_mem _ (List.mem_append_left _ (List.mem_append_right _ h))) (by decide +kernel))) (goodIn_sub (fun _ h => List.mem_cons_of_mem _ (List.mem_append_right _ h)) (by decide +kernel))
set_option maxRecDepth 20000 in
theorem gL_refuses_L_removeRod : GoodIn wsL_refuses (va_wsS RL 179 yL_removeRod wsL_removeRod) := goodIn_app (goodIn_of _ (by decide +kernel)) ggL_refuses_L_removeRod
set_option maxRecDepth 20000 in
theorem ggL_refuses_L_setLength : GoodIn wsL_refuses wsL_setLength := goodIn_ca (goodIn_ca (goodIn_ca (goodIn_r _ [334, 292, 227, 2, 1, 335, 336, 337, 9, 338, 14, 15, 12, 339, 340, 341, 80, 342, 316, 191, 192, 193, 194, 82, 31, 32, 33, 34, 35, 36, 37, 38, 39, 40, 41, 242, 243, 244, 245, 246, 247, 248, 249, 250, 251, 119, 252, 253, 254, 255, 45, 256, 47, 50, 59, 257, 258, 259, 260, 95, 96, 261, 262, 263, 264, 89, 83, 84, 265, 266, 267, 64, 268, 181, 269, 66, 270, 271, 272, 273, 274, 275, 276, 277, 278, 279, 280, 281, 282, 206, 283, 208, 209, 284, 343, 344, 345, 346, 532, 533, 534, 538, 539, 540, 541, 542, 543, 544, 545, 546, 535, 536, 537, 556, 557, 558, 559, 560, 561, 562, 563, 564, 565, 566, 567, 547, 548] (by decide +kernel) (by decide +kernel)) (goodIn_sub (fun _ h => List.mem_cons_of_mem _ (List.mem_append_left _ (List.mem_append_left _ (List.mem_append_right _ h)))) (by decide +kernel))) (goodIn_sub (fun _ h => List.mem_cons_of_mem _ (List.mem_append_left _ (List.mem_append_right _ h))) (by decide +kernel))) (goodIn_sub (fun _ h => List.mem_cons_of_mem _ (List.mem_append_right _ h)) (by decide +kernel))
set_option maxRecDepth 20000 in
theorem gL_refuses_L_setLength : GoodIn wsL_refuses (va_wsS RL 170 yL_setLength wsL_setLength) := goodIn_app (goodIn_of _ (by decide +kernel)) ggL_refuses_L_setLength
set_option maxRecDepth 20000 in
theorem ggL_refuses_L_setShelf : GoodIn wsL_refuses wsL_setShelf := goodIn_ca (goodIn_ca (goodIn_ca (goodIn_r _ [349, 292, 227, 2, 1, 350, 351, 352, 9, 353, 14, 140, 12, 354, 355, 356, 64, 357, 31, 32, 358, 359, 30, 33, 34, 35, 36, 37, 38, 39, 40, 41, 242, 243, 244, 245, 246, 247, 248, 249, 250, 251, 119, 252, 253, 254, 255, 45, 256, 47, 50, 59, 257, 258, 259, 80, 260, 95, 96, 261, 262, 263, 264, 82, 89, 83, 84, 265, 266, 267, 268, 181, 269, 66, 270, 271, 272, 273, 274, 275, 276, 277, 278, 279, 280, 281, 282, 206, 283, 208, 209, 284, 360, 361, 362, 363, 532, 533, 534, 538, 539, 540, 535, 536, 537, 541, 542, 543, 544, 545, 546, 556, 557, 558, 559, 560, 561, 562, 563, 564, 565, 566, 567, 547, 548] (by decide +kernel) (by decide +kernel)) (goodIn_sub (fun _ h => List.mem_cons_of_mem _ (List.mem_append_left _ (List.mem_append_left _ (List.mem_append_right _ h)))) (by decide +kernel))) (goodIn_sub (fun _ h => List.mem_cons_of_mem _ (List.mem_append_left _ (List.mem_append_right _ h))) (by decide +kernel))) (goodIn_sub (fun _ h => List.mem_cons_of_mem _ (List.mem_append_right _ h)) (by decide +kernel))
set_option maxRecDepth 20000 in
theorem gL_refuses_L_setShelf : GoodIn wsL_refuses (va_wsS RL 181 yL_setShelf wsL_setShelf) := goodIn_app (goodIn_of _ (by decide +kernel)) ggL_refuses_L_setShelf
set_option maxRecDepth 20000 in
theorem ggL_refuses_L_hang : GoodIn wsL_refuses wsL_hang := goodIn_ca (goodIn_ca (goodIn_ca (goodIn_r _ [366, 292, 2, 367, 368, 369, 9, 370, 14, 140, 12, 173, 174, 175, 64, 176, 31, 32, 33, 34, 35, 36, 37, 38, 39, 40, 41, 242, 243, 244, 245, 246, 247, 248, 249, 250, 251, 119, 252, 253, 254, 255, 45, 256, 47, 50, 59, 257, 258, 259, 80, 260, 95, 96, 261, 262, 263, 264, 82, 89, 83, 84, 265, 266, 267, 268, 181, 269, 66, 270, 271, 272, 273, 274, 275, 276, 277, 278, 279, 280, 281, 282, 206, 283, 208, 209, 284, 371, 372, 373, 374, 532, 533, 534, 538, 539, 540, 535, 536, 537, 541, 542, 543, 544, 545, 546, 556, 557, 558, 559, 560, 561, 562, 563, 564, 565, 566, 567, 547, 548] (by decide +kernel) (by decide +kernel)) (goodIn_sub (fun _ h => List.mem_cons_of_mem _ (List.mem_append_left _ (List.mem_append_left _ (List.mem_append_right _ h)))) (by decide +kernel))) (goodIn_sub (fun _ h => List.mem_cons_of_mem _ (List.mem_append_left _ (List.mem_append_right _ h))) (by decide +kernel))) (goodIn_sub (fun _ h => List.mem_cons_of_mem _ (List.mem_append_right _ h)) (by decide +kernel))
set_option maxRecDepth 20000 in
theorem gL_refuses_L_hang : GoodIn wsL_refuses (va_wsS RL 183 yL_hang wsL_hang) := goodIn_app (goodIn_of _ (by decide +kernel)) ggL_refuses_L_hang
set_option maxRecDepth 20000 in
theorem ggL_refuses_L_turnNut : GoodIn wsL_refuses wsL_turnNut := goodIn_ca (goodIn_ca (goodIn_ca (goodIn_r _ [377, 227, 232, 1, 233, 378, 379, 380, 9, 381, 14, 140, 12, 382, 383, 384, 64, 385, 272, 31, 32, 33, 34, 35, 36, 37, 38, 39, 40, 41, 242, 243, 244, 245, 246, 247, 248, 249, 250, 251, 119, 252, 253, 254, 255, 45, 256, 47, 50, 59, 257, 258, 259, 80, 260, 95, 96, 261, 262, 263, 264, 82, 89, 83, 84, 265, 266, 267, 268, 181, 269, 66, 270, 271, 273, 274, 275, 276, 277, 278, 279, 280, 281, 282, 206, 283, 208, 209, 284, 386, 387, 388, 389, 532, 533, 534, 538, 539, 540, 556, 557, 558, 559, 560, 561, 562, 563, 564, 565, 566, 567, 535, 536, 537, 541, 542, 543, 544, 545, 546, 547, 548] (by decide +kernel) (by decide +kernel)) (goodIn_sub (fun _ h => List.mem_cons_of_mem _ (List.mem_append_left _ (List.mem_append_left _ (List.mem_append_right _ h)))) (by decide +kernel))) (goodIn_sub (fun _ h => List.mem_cons_of_mem _ (List.mem_append_left _ (List.mem_append_right _ h))) (by decide +kernel))) (goodIn_sub (fun _ h => List.mem_cons_of_mem _ (List.mem_append_right _ h)) (by decide +kernel))
set_option maxRecDepth 20000 in
theorem gL_refuses_L_turnNut : GoodIn wsL_refuses (va_wsS RL 162 yL_turnNut wsL_turnNut) := goodIn_app (goodIn_of _ (by decide +kernel)) ggL_refuses_L_turnNut
set_option maxRecDepth 20000 in
theorem ggL_refuses_L_set : GoodIn wsL_refuses wsL_set := goodIn_ca (goodIn_ca (goodIn_ca (goodIn_r _ [392, 227, 1, 393, 394, 395, 9, 396, 14, 140, 12, 397, 398, 399, 64, 400, 31, 32, 33, 34, 35, 36, 37, 38, 39, 40, 41, 242, 243, 244, 245, 246, 247, 248, 249, 250, 251, 119, 252, 253, 254, 255, 45, 256, 47, 50, 59, 257, 258, 259, 80, 260, 95, 96, 261, 262, 263, 264, 82, 89, 83, 84, 265, 266, 267, 268, 181, 269, 66, 270, 271, 272, 273, 274, 275, 276, 277, 278, 279, 280, 281, 282, 206, 283, 208, 209, 284, 401, 402, 403, 404, 532, 533, 534, 538, 539, 540, 535, 536, 537, 541, 542, 543, 544, 545, 546, 556, 557, 558, 559, 560, 561, 562, 563, 564, 565, 566, 567, 547, 548] (by decide +kernel) (by decide +kernel)) (goodIn_sub (fun _ h => List.mem_cons_of_mem _ (List.mem_append_left _ (List.mem_append_left _ (List.mem_append_right _ h)))) (by decide +kernel))) (goodIn_sub (fun _ h => List.mem_cons_of_mem _ (List.mem_append_left _ (List.mem_append_right _ h))) (by decide +kernel))) (goodIn_sub (fun _ h => List.mem_cons_of_mem _ (List.mem_append_right _ h)) (by decide +kernel))
set_option maxRecDepth 20000 in
theorem gL_refuses_L_set : GoodIn wsL_refuses (va_wsS RL 185 yL_set wsL_set) := goodIn_app (goodIn_of _ (by decide +kernel)) ggL_refuses_L_set
set_option maxRecDepth 20000 in
theorem ggL_refuses_L_pass : GoodIn wsL_refuses wsL_pass := goodIn_ca (goodIn_ca (goodIn_ca (goodIn_r _ [407, 227, 232, 1, 233, 408, 409, 410, 9, 411, 14, 140, 12, 412, 413, 414, 64, 415, 274, 416, 31, 32, 33, 34, 35, 36, 37, 38, 39, 40, 41, 242, 243, 244, 245, 246, 247, 248, 249, 250, 251, 119, 252, 253, 254, 255, 45, 256, 47, 50, 59, 257, 258, 259, 80, 260, 95, 96, 261, 262, 263, 264, 82, 89, 83, 84, 265, 266, 267, 268, 181, 269, 66, 270, 271, 272, 273, 275, 276, 277, 278, 279, 280, 281, 282, 206, 283, 208, 209, 284, 417, 418, 419, 420, 52, 54, 421, 56, 57, 55, 422, 423, 424, 425, 426, 178, 179, 180, 112, 113, 114, 98, 99, 100, 101, 102, 103, 104, 53, 77, 78, 79, 81, 85, 86, 87, 88, 90, 91, 92, 93, 94, 97, 105, 106, 107, 108, 58, 76, 109, 110, 111, 115, 116, 117, 118, 120, 121, 122, 123, 67, 68, 69, 70, 71, 62, 63, 65, 427, 428, 429, 430, 431, 432, 433, 434, 435, 436, 437, 438, 439, 440, 441, 442, 443, 444, 445, 532, 533, 534, 538, 539, 540, 556, 557, 558, 559, 560, 561, 562, 563, 564, 565, 566, 567, 535, 536, 537, 541, 542, 543, 544, 545, 546, 547, 548] (by decide +kernel) (by decide +kernel)) (goodIn_sub (fun _ h => List.mem_cons_of_mem _ (List.mem_append_left _ (List.mem_append_left _ (List.mem_append_right _ h)))) (by decide +kernel))) (goodIn_sub (fun _ h => List.mem_cons_of_mem _ (List.mem_append_left _ (List.mem_append_right _ h))) (by decide +kernel))) (goodIn_sub (fun _ h => List.mem_cons_of_mem _ (List.mem_append_right _ h)) (by decide +kernel))
set_option maxRecDepth 20000 in
theorem gL_refuses_L_pass : GoodIn wsL_refuses (va_wsS RL 141 yL_pass wsL_pass) := goodIn_app (goodIn_of _ (by decide +kernel)) ggL_refuses_L_pass
set_option maxRecDepth 20000 in
theorem ggL_refuses_L_rod : GoodIn wsL_refuses wsL_rod := goodIn_ca (goodIn_ca (goodIn_ca (goodIn_r _ [448, 292, 227, 2, 1, 449, 183, 184, 9, 185, 14, 15, 140, 186, 187, 188, 189, 80, 190, 191, 192, 193, 194, 82, 31, 32, 33, 34, 35, 36, 37, 38, 39, 40, 41, 30, 195, 196, 197, 198, 89, 83, 84, 85, 86, 87, 88, 90, 91, 92, 93, 94, 95, 96, 97, 98, 99, 100, 532, 533, 534, 538, 539, 540, 556, 557, 558, 559, 560, 561, 562, 563, 564, 565, 566, 567, 541, 542, 543, 544, 545, 546] (by decide +kernel) (by decide +kernel)) (goodIn_sub (fun _ h => List.mem_cons_of_mem _ (List.mem_append_left _ (List.mem_append_left _ (List.mem_append_right _ h)))) (by decide +kernel))) (goodIn_sub (fun _ h => List.mem_cons_of_mem _ (List.mem_append_left _ (List.mem_append_right _ h))) (by decide +kernel))) (goodIn_sub (fun _ h => List.mem_cons_of_mem _ (List.mem_append_right _ h)) (by decide +kernel))
set_option maxRecDepth 20000 in
theorem gL_refuses_L_rod : GoodIn wsL_refuses (va_wsS RL 98 yL_rod wsL_rod) := goodIn_app (goodIn_of _ (by decide +kernel)) ggL_refuses_L_rod
set_option maxRecDepth 20000 in
theorem ggL_refuses_L_stretch : GoodIn wsL_refuses wsL_stretch := goodIn_ca (goodIn_ca (goodIn_ca (goodIn_r _ [452, 292, 2, 453, 157, 158, 9, 159, 14, 15, 160, 161, 162, 80, 163, 164, 165, 166, 167, 95, 31, 32, 33, 34, 35, 36, 37, 38, 39, 40, 41, 168, 92, 93, 94, 96, 532, 533, 534, 538, 539, 540, 541, 542, 543, 544, 545, 546] (by decide +kernel) (by decide +kernel)) (goodIn_sub (fun _ h => List.mem_cons_of_mem _ (List.mem_append_left _ (List.mem_append_left _ (List.mem_append_right _ h)))) (by decide +kernel))) (goodIn_sub (fun _ h => List.mem_cons_of_mem _ (List.mem_append_left _ (List.mem_append_right _ h))) (by decide +kernel))) (goodIn_sub (fun _ h => List.mem_cons_of_mem _ (List.mem_append_right _ h)) (by decide +kernel))
set_option maxRecDepth 20000 in
theorem gL_refuses_L_stretch : GoodIn wsL_refuses (va_wsS RL 101 yL_stretch wsL_stretch) := goodIn_app (goodIn_of _ (by decide +kernel)) ggL_refuses_L_stretch
set_option maxRecDepth 20000 in
theorem ggL_refuses_L_shelf : GoodIn wsL_refuses wsL_shelf := goodIn_ca (goodIn_ca (goodIn_ca (goodIn_r _ [456, 292, 2, 457, 170, 171, 9, 172, 14, 140, 173, 174, 175, 64, 176, 31, 32, 33, 34, 35, 36, 37, 38, 39, 40, 41, 177, 178, 179, 180, 181, 532, 533, 534, 538, 539, 540, 556, 557, 558, 559, 560, 561, 562, 563, 564, 565, 566, 567] (by decide +kernel) (by decide +kernel)) (goodIn_sub (fun _ h => List.mem_cons_of_mem _ (List.mem_append_left _ (List.mem_append_left _ (List.mem_append_right _ h)))) (by decide +kernel))) (goodIn_sub (fun _ h => List.mem_cons_of_mem _ (List.mem_append_left _ (List.mem_append_right _ h))) (by decide +kernel))) (goodIn_sub (fun _ h => List.mem_cons_of_mem _ (List.mem_append_right _ h)) (by decide +kernel))
set_option maxRecDepth 20000 in
theorem gL_refuses_L_shelf : GoodIn wsL_refuses (va_wsS RL 136 yL_shelf wsL_shelf) := goodIn_app (goodIn_of _ (by decide +kernel)) ggL_refuses_L_shelf
set_option maxRecDepth 20000 in
theorem ggL_refuses_L_day : GoodIn wsL_refuses wsL_day := goodIn_ca (goodIn_ca (goodIn_ca (goodIn_r _ [460, 227, 4, 461, 200, 201, 9, 202, 14, 18, 30, 31, 32, 33, 34, 35, 36, 37, 38, 39, 40, 41, 203, 204, 205, 206, 207, 208, 209, 210, 532, 533, 534, 538, 539, 540, 547, 548] (by decide +kernel) (by decide +kernel)) (goodIn_sub (fun _ h => List.mem_cons_of_mem _ (List.mem_append_left _ (List.mem_append_left _ (List.mem_append_right _ h)))) (by decide +kernel))) (goodIn_sub (fun _ h => List.mem_cons_of_mem _ (List.mem_append_left _ (List.mem_append_right _ h))) (by decide +kernel))) (goodIn_sub (fun _ h => List.mem_cons_of_mem _ (List.mem_append_right _ h)) (by decide +kernel))
set_option maxRecDepth 20000 in
theorem gL_refuses_L_day : GoodIn wsL_refuses (va_wsS RL 111 yL_day wsL_day) := goodIn_app (goodIn_of _ (by decide +kernel)) ggL_refuses_L_day
set_option maxRecDepth 20000 in
theorem ggL_refuses_L_rateAt : GoodIn wsL_refuses wsL_rateAt := goodIn_ca (goodIn_ca (goodIn_ca (goodIn_r _ [464, 227, 1, 465, 466, 467, 9, 468, 14, 140, 469, 470, 358, 359, 30, 31, 32, 33, 34, 35, 36, 37, 38, 39, 40, 41, 471, 102, 103, 45, 104, 50, 53, 47, 77, 78, 79, 80, 81, 82, 83, 84, 85, 86, 87, 88, 89, 90, 91, 92, 93, 94, 95, 96, 97, 98, 99, 100, 105, 106, 107, 108, 58, 76, 109, 110, 111, 112, 113, 114, 115, 116, 117, 118, 119, 120, 121, 122, 123, 67, 68, 69, 64, 70, 71, 62, 63, 65, 66, 532, 533, 534, 538, 539, 540, 556, 557, 558, 559, 560, 561, 562, 563, 564, 565, 566, 567, 541, 542, 543, 544, 545, 546] (by decide +kernel) (by decide +kernel)) (goodIn_sub (fun _ h => List.mem_cons_of_mem _ (List.mem_append_left _ (List.mem_append_left _ (List.mem_append_right _ h)))) (by decide +kernel))) (goodIn_sub (fun _ h => List.mem_cons_of_mem _ (List.mem_append_left _ (List.mem_append_right _ h))) (by decide +kernel))) (goodIn_sub (fun _ h => List.mem_cons_of_mem _ (List.mem_append_right _ h)) (by decide +kernel))
set_option maxRecDepth 20000 in
theorem gL_refuses_L_rateAt : GoodIn wsL_refuses (va_wsS RL 127 yL_rateAt wsL_rateAt) := goodIn_app (goodIn_of _ (by decide +kernel)) ggL_refuses_L_rateAt
set_option maxRecDepth 20000 in
theorem ggL_refuses_L_matchLength : GoodIn wsL_refuses wsL_matchLength := goodIn_ca (goodIn_ca (goodIn_ca (goodIn_r _ [474, 292, 2, 475, 476, 477, 9, 478, 14, 15, 187, 188, 189, 80, 190, 191, 192, 193, 194, 82, 31, 32, 33, 34, 35, 36, 37, 38, 39, 40, 41, 479, 480, 481, 482, 89, 83, 483, 484, 485, 119, 486, 91, 92, 93, 94, 95, 96, 487, 129, 130, 131, 132, 133, 134, 135, 84, 112, 113, 114, 98, 99, 100, 115, 116, 117, 118, 120, 121, 122, 123, 532, 533, 534, 538, 539, 540, 541, 542, 543, 544, 545, 546] (by decide +kernel) (by decide +kernel)) (goodIn_sub (fun _ h => List.mem_cons_of_mem _ (List.mem_append_left _ (List.mem_append_left _ (List.mem_append_right _ h)))) (by decide +kernel))) (goodIn_sub (fun _ h => List.mem_cons_of_mem _ (List.mem_append_left _ (List.mem_append_right _ h))) (by decide +kernel))) (goodIn_sub (fun _ h => List.mem_cons_of_mem _ (List.mem_append_right _ h)) (by decide +kernel))
set_option maxRecDepth 20000 in
theorem gL_refuses_L_matchLength : GoodIn wsL_refuses (va_wsS RL 167 yL_matchLength wsL_matchLength) := goodIn_app (goodIn_of _ (by decide +kernel)) ggL_refuses_L_matchLength
set_option maxRecDepth 20000 in
theorem ggL_refuses_L_rangeOfRates : GoodIn wsL_refuses wsL_rangeOfRates := goodIn_ca (goodIn_ca (goodIn_ca (goodIn_r _ [490, 227, 1, 491, 492, 493, 9, 494, 14, 470, 358, 359, 30, 31, 32, 33, 34, 35, 36, 37, 38, 39, 40, 41, 495, 496, 497, 45, 498, 50, 54, 499, 251, 119, 252, 500, 501, 502, 101, 102, 103, 104, 53, 47, 77, 78, 79, 80, 81, 82, 83, 84, 85, 86, 87, 88, 89, 90, 91, 92, 93, 94, 95, 96, 97, 98, 99, 100, 105, 106, 107, 108, 58, 76, 109, 110, 111, 112, 113, 114, 115, 116, 117, 118, 120, 121, 122, 123, 67, 68, 69, 64, 70, 71, 62, 63, 65, 66, 532, 533, 534, 538, 539, 540, 556, 557, 558, 559, 560, 561, 562, 563, 564, 565, 566, 567, 541, 542, 543, 544, 545, 546] (by decide +kernel) (by decide +kernel)) (goodIn_sub (fun _ h => List.mem_cons_of_mem _ (List.mem_append_left _ (List.mem_append_left _ (List.mem_append_right _ h)))) (by decide +kernel))) (goodIn_sub (fun _ h => List.mem_cons_of_mem _ (List.mem_append_left _ (List.mem_append_right _ h))) (by decide +kernel))) (goodIn_sub (fun _ h => List.mem_cons_of_mem _ (List.mem_append_right _ h)) (by decide +kernel))
set_option maxRecDepth 20000 in
theorem gL_refuses_L_rangeOfRates : GoodIn wsL_refuses (va_wsS RL 156 yL_rangeOfRates wsL_rangeOfRates) := goodIn_app (goodIn_of _ (by decide +kernel)) ggL_refuses_L_rangeOfRates
set_option maxRecDepth 20000 in
theorem ggL_refuses_L_changeWithin : GoodIn wsL_refuses wsL_changeWithin := goodIn_ca (goodIn_ca (goodIn_ca (goodIn_r _ [505, 227, 4, 506, 507, 508, 9, 509, 14, 30, 31, 32, 33, 34, 35, 36, 37, 38, 39, 40, 41, 510, 511, 512, 45, 513, 50, 52, 54, 422, 423, 424, 64, 425, 270, 66, 426, 178, 179, 180, 181, 112, 113, 114, 98, 99, 100, 101, 102, 103, 104, 53, 47, 77, 78, 79, 80, 81, 82, 83, 84, 85, 86, 87, 88, 89, 90, 91, 92, 93, 94, 95, 96, 97, 105, 106, 107, 108, 58, 76, 109, 110, 111, 115, 116, 117, 118, 119, 120, 121, 122, 123, 67, 68, 69, 70, 71, 62, 63, 65, 532, 533, 534, 538, 539, 540, 556, 557, 558, 559, 560, 561, 562, 563, 564, 565, 566, 567, 541, 542, 543, 544, 545, 546] (by decide +kernel) (by decide +kernel)) (goodIn_sub (fun _ h => List.mem_cons_of_mem _ (List.mem_append_left _ (List.mem_append_left _ (List.mem_append_right _ h)))) (by decide +kernel))) (goodIn_sub (fun _ h => List.mem_cons_of_mem _ (List.mem_append_left _ (List.mem_append_right _ h))) (by decide +kernel))) (goodIn_sub (fun _ h => List.mem_cons_of_mem _ (List.mem_append_right _ h)) (by decide +kernel))
set_option maxRecDepth 20000 in
theorem gL_refuses_L_changeWithin : GoodIn wsL_refuses (va_wsS RL 138 yL_changeWithin wsL_changeWithin) := goodIn_app (goodIn_of _ (by decide +kernel)) ggL_refuses_L_changeWithin
set_option maxRecDepth 20000 in
theorem ggL_refuses_L_type : GoodIn wsL_refuses wsL_type := goodIn_ca (goodIn_ca (goodIn_ca (goodIn_r _ [516, 227, 232, 1, 233, 517, 518, 519, 9, 520, 28, 521, 522, 523, 524, 525, 526, 31, 32, 33, 34, 35, 36, 37, 38, 39, 40, 41, 527, 528, 529, 530, 531, 532, 533, 534, 549, 550, 551, 552, 553, 554, 555] (by decide +kernel) (by decide +kernel)) (goodIn_sub (fun _ h => List.mem_cons_of_mem _ (List.mem_append_left _ (List.mem_append_left _ (List.mem_append_right _ h)))) (by decide +kernel))) (goodIn_sub (fun _ h => List.mem_cons_of_mem _ (List.mem_append_left _ (List.mem_append_right _ h))) (by decide +kernel))) (goodIn_sub (fun _ h => List.mem_cons_of_mem _ (List.mem_append_right _ h)) (by decide +kernel))
set_option maxRecDepth 20000 in
theorem gL_refuses_L_type : GoodIn wsL_refuses (va_wsS RL 190 yL_type wsL_type) := goodIn_app (goodIn_of _ (by decide +kernel)) ggL_refuses_L_type
theorem dL_refuses_0 : decode cL_refuses 0 = .ok (.aload_n 0, 1) := by decide +kernel
theorem dL_refuses_1 : decode cL_refuses 1 = .ok (.invokevirtual 147, 3) := by decide +kernel
theorem dL_refuses_4 : decode cL_refuses 4 = .ok (.lstore_n 1, 1) := by decide +kernel
theorem dL_refuses_5 : decode cL_refuses 5 = .ok (.aload_n 0, 1) := by decide +kernel
theorem dL_refuses_6 : decode cL_refuses 6 = .ok (.iconst 0, 1) := by decide +kernel
theorem dL_refuses_7 : decode cL_refuses 7 = .ok (.invokestatic 93, 3) := by decide +kernel
theorem dL_refuses_10 : decode cL_refuses 10 = .ok (.istore_n 3, 1) := by decide +kernel
theorem dL_refuses_11 : decode cL_refuses 11 = .ok (.aload_n 0, 1) := by decide +kernel
theorem dL_refuses_12 : decode cL_refuses 12 = .ok (.iconst 1, 1) := by decide +kernel
theorem dL_refuses_13 : decode cL_refuses 13 = .ok (.invokestatic 93, 3) := by decide +kernel
theorem dL_refuses_16 : decode cL_refuses 16 = .ok (.istore 4, 2) := by decide +kernel
theorem dL_refuses_18 : decode cL_refuses 18 = .ok (.aload_n 0, 1) := by decide +kernel
theorem dL_refuses_19 : decode cL_refuses 19 = .ok (.sipush 501, 3) := by decide +kernel
theorem dL_refuses_22 : decode cL_refuses 22 = .ok (.invokestatic 172, 3) := by decide +kernel
theorem dL_refuses_25 : decode cL_refuses 25 = .ok (.ldc 17, 2) := by decide +kernel
theorem dL_refuses_27 : decode cL_refuses 27 = .ok (.if_icmp .ne 195, 3) := by decide +kernel
theorem dL_refuses_30 : decode cL_refuses 30 = .ok (.aload_n 0, 1) := by decide +kernel
theorem dL_refuses_31 : decode cL_refuses 31 = .ok (.iconst (-1), 1) := by decide +kernel
theorem dL_refuses_32 : decode cL_refuses 32 = .ok (.invokestatic 172, 3) := by decide +kernel
theorem dL_refuses_35 : decode cL_refuses 35 = .ok (.ldc 17, 2) := by decide +kernel
theorem dL_refuses_37 : decode cL_refuses 37 = .ok (.if_icmp .ne 185, 3) := by decide +kernel
theorem dL_refuses_40 : decode cL_refuses 40 = .ok (.aload_n 0, 1) := by decide +kernel
theorem dL_refuses_41 : decode cL_refuses 41 = .ok (.iload_n 3, 1) := by decide +kernel
theorem dL_refuses_42 : decode cL_refuses 42 = .ok (.sipush 999, 3) := by decide +kernel
theorem dL_refuses_45 : decode cL_refuses 45 = .ok (.invokestatic 174, 3) := by decide +kernel
theorem dL_refuses_48 : decode cL_refuses 48 = .ok (.ldc 27, 2) := by decide +kernel
theorem dL_refuses_50 : decode cL_refuses 50 = .ok (.if_icmp .ne 172, 3) := by decide +kernel
theorem dL_refuses_53 : decode cL_refuses 53 = .ok (.aload_n 0, 1) := by decide +kernel
theorem dL_refuses_54 : decode cL_refuses 54 = .ok (.iconst 0, 1) := by decide +kernel
theorem dL_refuses_55 : decode cL_refuses 55 = .ok (.sipush 501, 3) := by decide +kernel
theorem dL_refuses_58 : decode cL_refuses 58 = .ok (.invokestatic 174, 3) := by decide +kernel
theorem dL_refuses_61 : decode cL_refuses 61 = .ok (.ldc 17, 2) := by decide +kernel
theorem dL_refuses_63 : decode cL_refuses 63 = .ok (.if_icmp .ne 159, 3) := by decide +kernel
theorem dL_refuses_66 : decode cL_refuses 66 = .ok (.aload_n 0, 1) := by decide +kernel
theorem dL_refuses_67 : decode cL_refuses 67 = .ok (.iload_n 3, 1) := by decide +kernel
theorem dL_refuses_68 : decode cL_refuses 68 = .ok (.iconst 0, 1) := by decide +kernel
theorem dL_refuses_69 : decode cL_refuses 69 = .ok (.iconst 0, 1) := by decide +kernel
theorem dL_refuses_70 : decode cL_refuses 70 = .ok (.invokestatic 176, 3) := by decide +kernel
theorem dL_refuses_73 : decode cL_refuses 73 = .ok (.ldc 27, 2) := by decide +kernel
theorem dL_refuses_75 : decode cL_refuses 75 = .ok (.if_icmp .ne 147, 3) := by decide +kernel
theorem dL_refuses_78 : decode cL_refuses 78 = .ok (.aload_n 0, 1) := by decide +kernel
theorem dL_refuses_79 : decode cL_refuses 79 = .ok (.iconst 0, 1) := by decide +kernel
theorem dL_refuses_80 : decode cL_refuses 80 = .ok (.iconst 0, 1) := by decide +kernel
theorem dL_refuses_81 : decode cL_refuses 81 = .ok (.iconst 5, 1) := by decide +kernel
theorem dL_refuses_82 : decode cL_refuses 82 = .ok (.invokestatic 176, 3) := by decide +kernel
theorem dL_refuses_85 : decode cL_refuses 85 = .ok (.ldc 17, 2) := by decide +kernel
theorem dL_refuses_87 : decode cL_refuses 87 = .ok (.if_icmp .ne 135, 3) := by decide +kernel
theorem dL_refuses_90 : decode cL_refuses 90 = .ok (.aload_n 0, 1) := by decide +kernel
theorem dL_refuses_91 : decode cL_refuses 91 = .ok (.iconst 0, 1) := by decide +kernel
theorem dL_refuses_92 : decode cL_refuses 92 = .ok (.iconst 1, 1) := by decide +kernel
theorem dL_refuses_93 : decode cL_refuses 93 = .ok (.iconst 0, 1) := by decide +kernel
theorem dL_refuses_94 : decode cL_refuses 94 = .ok (.invokestatic 176, 3) := by decide +kernel
theorem dL_refuses_97 : decode cL_refuses 97 = .ok (.ldc 17, 2) := by decide +kernel
theorem dL_refuses_99 : decode cL_refuses 99 = .ok (.if_icmp .ne 123, 3) := by decide +kernel
theorem dL_refuses_102 : decode cL_refuses 102 = .ok (.aload_n 0, 1) := by decide +kernel
theorem dL_refuses_103 : decode cL_refuses 103 = .ok (.iload 4, 2) := by decide +kernel
theorem dL_refuses_105 : decode cL_refuses 105 = .ok (.invokestatic 179, 3) := by decide +kernel
theorem dL_refuses_108 : decode cL_refuses 108 = .ok (.ldc 27, 2) := by decide +kernel
theorem dL_refuses_110 : decode cL_refuses 110 = .ok (.if_icmp .ne 112, 3) := by decide +kernel
theorem dL_refuses_113 : decode cL_refuses 113 = .ok (.aload_n 0, 1) := by decide +kernel
theorem dL_refuses_114 : decode cL_refuses 114 = .ok (.iload 4, 2) := by decide +kernel
theorem dL_refuses_116 : decode cL_refuses 116 = .ok (.iconst 0, 1) := by decide +kernel
theorem dL_refuses_117 : decode cL_refuses 117 = .ok (.invokestatic 170, 3) := by decide +kernel
theorem dL_refuses_120 : decode cL_refuses 120 = .ok (.ldc 27, 2) := by decide +kernel
theorem dL_refuses_122 : decode cL_refuses 122 = .ok (.if_icmp .ne 100, 3) := by decide +kernel
theorem dL_refuses_125 : decode cL_refuses 125 = .ok (.aload_n 0, 1) := by decide +kernel
theorem dL_refuses_126 : decode cL_refuses 126 = .ok (.iconst 5, 1) := by decide +kernel
theorem dL_refuses_127 : decode cL_refuses 127 = .ok (.sipush 999, 3) := by decide +kernel
theorem dL_refuses_130 : decode cL_refuses 130 = .ok (.invokestatic 181, 3) := by decide +kernel
theorem dL_refuses_133 : decode cL_refuses 133 = .ok (.ldc 27, 2) := by decide +kernel
theorem dL_refuses_135 : decode cL_refuses 135 = .ok (.if_icmp .ne 87, 3) := by decide +kernel
theorem dL_refuses_138 : decode cL_refuses 138 = .ok (.aload_n 0, 1) := by decide +kernel
theorem dL_refuses_139 : decode cL_refuses 139 = .ok (.iconst 0, 1) := by decide +kernel
theorem dL_refuses_140 : decode cL_refuses 140 = .ok (.sipush 601, 3) := by decide +kernel
theorem dL_refuses_143 : decode cL_refuses 143 = .ok (.invokestatic 181, 3) := by decide +kernel
theorem dL_refuses_146 : decode cL_refuses 146 = .ok (.ldc 17, 2) := by decide +kernel
theorem dL_refuses_148 : decode cL_refuses 148 = .ok (.if_icmp .ne 74, 3) := by decide +kernel
theorem dL_refuses_151 : decode cL_refuses 151 = .ok (.aload_n 0, 1) := by decide +kernel
theorem dL_refuses_152 : decode cL_refuses 152 = .ok (.iconst (-1), 1) := by decide +kernel
theorem dL_refuses_153 : decode cL_refuses 153 = .ok (.invokestatic 183, 3) := by decide +kernel
theorem dL_refuses_156 : decode cL_refuses 156 = .ok (.ldc 27, 2) := by decide +kernel
theorem dL_refuses_158 : decode cL_refuses 158 = .ok (.if_icmp .ne 64, 3) := by decide +kernel
theorem dL_refuses_161 : decode cL_refuses 161 = .ok (.aload_n 0, 1) := by decide +kernel
theorem dL_refuses_162 : decode cL_refuses 162 = .ok (.sipush 1001, 3) := by decide +kernel
theorem dL_refuses_165 : decode cL_refuses 165 = .ok (.invokestatic 162, 3) := by decide +kernel
theorem dL_refuses_168 : decode cL_refuses 168 = .ok (.ldc 17, 2) := by decide +kernel
theorem dL_refuses_170 : decode cL_refuses 170 = .ok (.if_icmp .ne 52, 3) := by decide +kernel
theorem dL_refuses_173 : decode cL_refuses 173 = .ok (.aload_n 0, 1) := by decide +kernel
theorem dL_refuses_174 : decode cL_refuses 174 = .ok (.iconst 3, 1) := by decide +kernel
theorem dL_refuses_175 : decode cL_refuses 175 = .ok (.iconst 1, 1) := by decide +kernel
theorem dL_refuses_176 : decode cL_refuses 176 = .ok (.invokestatic 185, 3) := by decide +kernel
theorem dL_refuses_179 : decode cL_refuses 179 = .ok (.ldc 17, 2) := by decide +kernel
theorem dL_refuses_181 : decode cL_refuses 181 = .ok (.if_icmp .ne 41, 3) := by decide +kernel
theorem dL_refuses_184 : decode cL_refuses 184 = .ok (.aload_n 0, 1) := by decide +kernel
theorem dL_refuses_185 : decode cL_refuses 185 = .ok (.iconst 0, 1) := by decide +kernel
theorem dL_refuses_186 : decode cL_refuses 186 = .ok (.ldc 187, 2) := by decide +kernel
theorem dL_refuses_188 : decode cL_refuses 188 = .ok (.invokestatic 185, 3) := by decide +kernel
theorem dL_refuses_191 : decode cL_refuses 191 = .ok (.ldc 17, 2) := by decide +kernel
theorem dL_refuses_193 : decode cL_refuses 193 = .ok (.if_icmp .ne 29, 3) := by decide +kernel
theorem dL_refuses_196 : decode cL_refuses 196 = .ok (.aload_n 0, 1) := by decide +kernel
theorem dL_refuses_197 : decode cL_refuses 197 = .ok (.iconst 1, 1) := by decide +kernel
theorem dL_refuses_198 : decode cL_refuses 198 = .ok (.iconst 0, 1) := by decide +kernel
theorem dL_refuses_199 : decode cL_refuses 199 = .ok (.invokestatic 185, 3) := by decide +kernel
theorem dL_refuses_202 : decode cL_refuses 202 = .ok (.ldc 17, 2) := by decide +kernel
theorem dL_refuses_204 : decode cL_refuses 204 = .ok (.if_icmp .ne 18, 3) := by decide +kernel
theorem dL_refuses_207 : decode cL_refuses 207 = .ok (.aload_n 0, 1) := by decide +kernel
theorem dL_refuses_208 : decode cL_refuses 208 = .ok (.iconst 2, 1) := by decide +kernel
theorem dL_refuses_209 : decode cL_refuses 209 = .ok (.iconst (-1), 1) := by decide +kernel
theorem dL_refuses_210 : decode cL_refuses 210 = .ok (.invokestatic 185, 3) := by decide +kernel
theorem dL_refuses_213 : decode cL_refuses 213 = .ok (.ldc 17, 2) := by decide +kernel
theorem dL_refuses_215 : decode cL_refuses 215 = .ok (.if_icmp .ne 7, 3) := by decide +kernel
theorem dL_refuses_218 : decode cL_refuses 218 = .ok (.iconst 1, 1) := by decide +kernel
theorem dL_refuses_219 : decode cL_refuses 219 = .ok (.goto 4, 3) := by decide +kernel
theorem dL_refuses_222 : decode cL_refuses 222 = .ok (.iconst 0, 1) := by decide +kernel
theorem dL_refuses_223 : decode cL_refuses 223 = .ok (.istore 5, 2) := by decide +kernel
theorem dL_refuses_225 : decode cL_refuses 225 = .ok (.iload 5, 2) := by decide +kernel
theorem dL_refuses_227 : decode cL_refuses 227 = .ok (.ifCond .eq 177, 3) := by decide +kernel
theorem dL_refuses_230 : decode cL_refuses 230 = .ok (.aload_n 0, 1) := by decide +kernel
theorem dL_refuses_231 : decode cL_refuses 231 = .ok (.iconst 0, 1) := by decide +kernel
theorem dL_refuses_232 : decode cL_refuses 232 = .ok (.invokestatic 141, 3) := by decide +kernel
