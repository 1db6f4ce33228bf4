theorem dX8_set_12 : decode cX8_set 12 = .ok (.invokestatic 40, 3) := by decide +kernel
theorem dX8_set_15 : decode cX8_set 15 = .ok (.aload_n 0, 1) := by decide +kernel
theorem dX8_set_16 : decode cX8_set 16 = .ok (.getfield 19, 3) := by decide +kernel
theorem dX8_set_19 : decode cX8_set 19 = .ok (.aload_n 0, 1) := by decide +kernel
theorem dX8_set_20 : decode cX8_set 20 = .ok (.getfield 10, 3) := by decide +kernel
theorem dX8_set_23 : decode cX8_set 23 = .ok (.invokevirtual 44, 3) := by decide +kernel
theorem dX8_set_26 : decode cX8_set 26 = .ok (.aload_n 0, 1) := by decide +kernel
theorem dX8_set_27 : decode cX8_set 27 = .ok (.getfield 10, 3) := by decide +kernel
theorem dX8_set_30 : decode cX8_set 30 = .ok (.getfield 77, 3) := by decide +kernel
theorem dX8_set_33 : decode cX8_set 33 = .ok (.iload_n 1, 1) := by decide +kernel
theorem dX8_set_34 : decode cX8_set 34 = .ok (.iload_n 2, 1) := by decide +kernel
theorem dX8_set_35 : decode cX8_set 35 = .ok (.invokevirtual 108, 3) := by decide +kernel
theorem dX8_set_38 : decode cX8_set 38 = .ok (.ireturn, 1) := by decide +kernel
set_option maxRecDepth 20000 in
theorem ggX8_pass_X1_checkHours : GoodIn wsX8_pass wsX1_checkHours := goodIn_r _ [8, 9, 10, 11, 12, 13, 175, 176, 177, 178, 179, 180, 181, 182, 183, 184, 185, 186] (by decide +kernel) (by decide +kernel)
set_option maxRecDepth 20000 in
theorem gX8_pass_X1_checkHours : GoodIn wsX8_pass (wsV RX8 111 RX1 yX1_checkHours wsX1_checkHours) := goodIn_app (goodIn_of _ (by decide +kernel)) ggX8_pass_X1_checkHours
set_option maxRecDepth 20000 in
theorem ggX8_pass_X8_refuse : GoodIn wsX8_pass wsX8_refuse := goodIn_ca (goodIn_ca (goodIn_ca (goodIn_r _ [16, 17, 18, 19, 20, 21, 22] (by decide +kernel) (by decide +kernel)) (goodIn_sub (fun _ h => List.mem_cons_of_mem _ (List.mem_append_left _ (List.mem_append_left _ (List.mem_append_right _ h)))) (by decide +kernel))) (goodIn_sub (fun _ h => List.mem_cons_of_mem _ (List.mem_append_left _ (List.mem_append_right _ h))) (by decide +kernel))) (goodIn_sub (fun _ h => List.mem_cons_of_mem _ (List.mem_append_right _ h)) (by decide +kernel))
set_option maxRecDepth 20000 in
theorem gX8_pass_X8_refuse : GoodIn wsX8_pass (va_wsS RX8 40 yX8_refuse wsX8_refuse) := goodIn_app (goodIn_of _ (by decide +kernel)) ggX8_pass_X8_refuse
set_option maxRecDepth 20000 in
theorem ggX8_pass_X5_push : GoodIn wsX8_pass wsX5_push := goodIn_r _ [27, 28, 29, 30, 31, 32, 33, 34, 35, 36, 37, 38, 39, 40, 41, 42, 43, 44, 45, 46, 47, 48, 49, 50, 51, 52, 53, 54, 55, 56, 57, 58, 59, 60, 7, 61, 62, 63, 64, 65, 66, 67, 68, 9, 69, 70, 71, 72, 73, 74, 75, 76, 77, 78, 79, 80, 81, 187, 188, 189, 172, 173, 174, 190, 191, 192, 193, 194, 195, 175, 176, 177, 178, 179, 180, 181, 182, 183, 184, 185, 186, 196, 197] (by decide +kernel) (by decide +kernel)
set_option maxRecDepth 20000 in
theorem gX8_pass_X5_push : GoodIn wsX8_pass (wsV RX8 44 RX5 yX5_push wsX5_push) := goodIn_app (goodIn_of _ (by decide +kernel)) ggX8_pass_X5_push
set_option maxRecDepth 20000 in
theorem ggX8_pass_X6_passHours : GoodIn wsX8_pass wsX6_passHours := goodIn_r _ [85, 41, 86, 87, 88, 89, 90, 91, 92, 93, 94, 7, 95, 65, 64, 96, 97, 98, 99, 62, 11, 12, 13, 100, 101, 102, 103, 104, 105, 106, 107, 108, 38, 109, 110, 40, 111, 112, 113, 46, 114, 54, 56, 57, 115, 116, 117, 118, 55, 119, 120, 121, 122, 123, 48, 49, 124, 125, 126, 127, 128, 129, 130, 131, 132, 133, 134, 135, 136, 137, 33, 138, 139, 140, 141, 142, 143, 144, 145, 146, 147, 148, 149, 150, 151, 152, 153, 42, 154, 155, 156, 157, 158, 77, 159, 80, 81, 51, 52, 53, 79, 160, 32, 34, 161, 162, 163, 164, 71, 165, 166, 167, 168, 172, 173, 174, 175, 176, 177, 178, 179, 180, 181, 182, 183, 184, 185, 186, 190, 191, 192, 193, 194, 195, 196, 197] (by decide +kernel) (by decide +kernel)
set_option maxRecDepth 20000 in
theorem gX8_pass_X6_passHours : GoodIn wsX8_pass (wsV RX8 114 RX6 yX6_passHours wsX6_passHours) := goodIn_app (goodIn_of _ (by decide +kernel)) ggX8_pass_X6_passHours
theorem dX8_pass_0 : decode cX8_pass 0 = .ok (.aload_n 0, 1) := by decide +kernel
theorem dX8_pass_1 : decode cX8_pass 1 = .ok (.getfield 10, 3) := by decide +kernel
theorem dX8_pass_4 : decode cX8_pass 4 = .ok (.getfield 77, 3) := by decide +kernel
theorem dX8_pass_7 : decode cX8_pass 7 = .ok (.iload_n 1, 1) := by decide +kernel
theorem dX8_pass_8 : decode cX8_pass 8 = .ok (.invokevirtual 111, 3) := by decide +kernel
theorem dX8_pass_11 : decode cX8_pass 11 = .ok (.invokestatic 40, 3) := by decide +kernel
theorem dX8_pass_14 : decode cX8_pass 14 = .ok (.aload_n 0, 1) := by decide +kernel
theorem dX8_pass_15 : decode cX8_pass 15 = .ok (.getfield 19, 3) := by decide +kernel
theorem dX8_pass_18 : decode cX8_pass 18 = .ok (.aload_n 0, 1) := by decide +kernel
theorem dX8_pass_19 : decode cX8_pass 19 = .ok (.getfield 10, 3) := by decide +kernel
theorem dX8_pass_22 : decode cX8_pass 22 = .ok (.invokevirtual 44, 3) := by decide +kernel
theorem dX8_pass_25 : decode cX8_pass 25 = .ok (.aload_n 0, 1) := by decide +kernel
theorem dX8_pass_26 : decode cX8_pass 26 = .ok (.getfield 10, 3) := by decide +kernel
theorem dX8_pass_29 : decode cX8_pass 29 = .ok (.iload_n 1, 1) := by decide +kernel
theorem dX8_pass_30 : decode cX8_pass 30 = .ok (.invokevirtual 114, 3) := by decide +kernel
theorem dX8_pass_33 : decode cX8_pass 33 = .ok (.ireturn, 1) := by decide +kernel
set_option maxRecDepth 20000 in
theorem ggX8_rod_X4_checkRod : GoodIn wsX8_rod wsX4_checkRod := goodIn_r _ [9, 10, 11, 12, 8, 13, 14, 15, 16, 17, 68, 69, 70, 71, 72, 73] (by decide +kernel) (by decide +kernel)
set_option maxRecDepth 20000 in
theorem gX8_rod_X4_checkRod : GoodIn wsX8_rod (wsV RX8 65 RX4 yX4_checkRod wsX4_checkRod) := goodIn_app (goodIn_of _ (by decide +kernel)) ggX8_rod_X4_checkRod
set_option maxRecDepth 20000 in
theorem ggX8_rod_X8_refuse : GoodIn wsX8_rod wsX8_refuse := goodIn_ca (goodIn_ca (goodIn_ca (goodIn_r _ [20, 21, 22, 23, 24, 25, 26] (by decide +kernel) (by decide +kernel)) (goodIn_sub (fun _ h => List.mem_cons_of_mem _ (List.mem_append_left _ (List.mem_append_left _ (List.mem_append_right _ h)))) (by decide +kernel))) (goodIn_sub (fun _ h => List.mem_cons_of_mem _ (List.mem_append_left _ (List.mem_append_right _ h))) (by decide +kernel))) (goodIn_sub (fun _ h => List.mem_cons_of_mem _ (List.mem_append_right _ h)) (by decide +kernel))
set_option maxRecDepth 20000 in
theorem gX8_rod_X8_refuse : GoodIn wsX8_rod (va_wsS RX8 40 yX8_refuse wsX8_refuse) := goodIn_app (goodIn_of _ (by decide +kernel)) ggX8_rod_X8_refuse
set_option maxRecDepth 20000 in
theorem ggX8_rod_X8_within : GoodIn wsX8_rod wsX8_within := goodIn_r _ [17] (by decide +kernel) (by decide +kernel)
set_option maxRecDepth 20000 in
theorem gX8_rod_X8_within : GoodIn wsX8_rod (va_wsS RX8 117 yX8_within wsX8_within) := goodIn_app (goodIn_of _ (by decide +kernel)) ggX8_rod_X8_within
set_option maxRecDepth 20000 in
theorem ggX8_rod_X4_rodValue : GoodIn wsX8_rod wsX4_rodValue := goodIn_r _ [31, 32, 33, 34, 35, 36, 37, 8, 38, 39, 40, 41, 42, 43, 44, 45, 46, 47, 48, 49, 68, 69, 70, 71, 72, 73] (by decide +kernel) (by decide +kernel)
set_option maxRecDepth 20000 in
theorem gX8_rod_X4_rodValue : GoodIn wsX8_rod (wsV RX8 125 RX4 yX4_rodValue wsX4_rodValue) := goodIn_app (goodIn_of _ (by decide +kernel)) ggX8_rod_X4_rodValue
theorem dX8_rod_0 : decode cX8_rod 0 = .ok (.aload_n 0, 1) := by decide +kernel
theorem dX8_rod_1 : decode cX8_rod 1 = .ok (.getfield 10, 3) := by decide +kernel
theorem dX8_rod_4 : decode cX8_rod 4 = .ok (.getfield 30, 3) := by decide +kernel
theorem dX8_rod_7 : decode cX8_rod 7 = .ok (.iload_n 1, 1) := by decide +kernel
theorem dX8_rod_8 : decode cX8_rod 8 = .ok (.invokevirtual 65, 3) := by decide +kernel
theorem dX8_rod_11 : decode cX8_rod 11 = .ok (.invokestatic 40, 3) := by decide +kernel
theorem dX8_rod_14 : decode cX8_rod 14 = .ok (.iload_n 2, 1) := by decide +kernel
theorem dX8_rod_15 : decode cX8_rod 15 = .ok (.iconst 0, 1) := by decide +kernel
theorem dX8_rod_16 : decode cX8_rod 16 = .ok (.iconst 4, 1) := by decide +kernel
theorem dX8_rod_17 : decode cX8_rod 17 = .ok (.invokestatic 117, 3) := by decide +kernel
theorem dX8_rod_20 : decode cX8_rod 20 = .ok (.ifCond .eq 7, 3) := by decide +kernel
theorem dX8_rod_23 : decode cX8_rod 23 = .ok (.iconst 0, 1) := by decide +kernel
theorem dX8_rod_24 : decode cX8_rod 24 = .ok (.goto 4, 3) := by decide +kernel
theorem dX8_rod_27 : decode cX8_rod 27 = .ok (.iconst 2, 1) := by decide +kernel
theorem dX8_rod_28 : decode cX8_rod 28 = .ok (.invokestatic 40, 3) := by decide +kernel
theorem dX8_rod_31 : decode cX8_rod 31 = .ok (.aload_n 0, 1) := by decide +kernel
theorem dX8_rod_32 : decode cX8_rod 32 = .ok (.getfield 10, 3) := by decide +kernel
theorem dX8_rod_35 : decode cX8_rod 35 = .ok (.getfield 30, 3) := by decide +kernel
theorem dX8_rod_38 : decode cX8_rod 38 = .ok (.iload_n 1, 1) := by decide +kernel
theorem dX8_rod_39 : decode cX8_rod 39 = .ok (.iload_n 2, 1) := by decide +kernel
theorem dX8_rod_40 : decode cX8_rod 40 = .ok (.aload_n 0, 1) := by decide +kernel
theorem dX8_rod_41 : decode cX8_rod 41 = .ok (.getfield 10, 3) := by decide +kernel
theorem dX8_rod_44 : decode cX8_rod 44 = .ok (.getfield 77, 3) := by decide +kernel
theorem dX8_rod_47 : decode cX8_rod 47 = .ok (.getfield 121, 3) := by decide +kernel
theorem dX8_rod_50 : decode cX8_rod 50 = .ok (.invokevirtual 125, 3) := by decide +kernel
theorem dX8_rod_53 : decode cX8_rod 53 = .ok (.ireturn, 1) := by decide +kernel
set_option maxRecDepth 20000 in
theorem ggX8_stretch_X4_checkMetal : GoodIn wsX8_stretch wsX4_checkMetal := goodIn_r _ [7, 8, 9, 10, 6, 11, 12, 13, 14, 15, 36, 37, 38, 39, 40, 41] (by decide +kernel) (by decide +kernel)
set_option maxRecDepth 20000 in
theorem gX8_stretch_X4_checkMetal : GoodIn wsX8_stretch (wsV RX8 128 RX4 yX4_checkMetal wsX4_checkMetal) := goodIn_app (goodIn_of _ (by decide +kernel)) ggX8_stretch_X4_checkMetal
set_option maxRecDepth 20000 in
theorem ggX8_stretch_X8_refuse : GoodIn wsX8_stretch wsX8_refuse := goodIn_ca (goodIn_ca (goodIn_ca (goodIn_r _ [18, 19, 20, 21, 22, 23, 24] (by decide +kernel) (by decide +kernel)) (goodIn_sub (fun _ h => List.mem_cons_of_mem _ (List.mem_append_left _ (List.mem_append_left _ (List.mem_append_right _ h)))) (by decide +kernel))) (goodIn_sub (fun _ h => List.mem_cons_of_mem _ (List.mem_append_left _ (List.mem_append_right _ h))) (by decide +kernel))) (goodIn_sub (fun _ h => List.mem_cons_of_mem _ (List.mem_append_right _ h)) (by decide +kernel))
set_option maxRecDepth 20000 in
theorem gX8_stretch_X8_refuse : GoodIn wsX8_stretch (va_wsS RX8 40 yX8_refuse wsX8_refuse) := goodIn_app (goodIn_of _ (by decide +kernel)) ggX8_stretch_X8_refuse
set_option maxRecDepth 20000 in
theorem ggX8_stretch_X4_stretchOf : GoodIn wsX8_stretch wsX4_stretchOf := goodIn_r _ [28, 12, 29, 36, 37, 38, 39, 40, 41] (by decide +kernel) (by decide +kernel)
set_option maxRecDepth 20000 in
theorem gX8_stretch_X4_stretchOf : GoodIn wsX8_stretch (wsV RX8 131 RX4 yX4_stretchOf wsX4_stretchOf) := goodIn_app (goodIn_of _ (by decide +kernel)) ggX8_stretch_X4_stretchOf
theorem dX8_stretch_0 : decode cX8_stretch 0 = .ok (.aload_n 0, 1) := by decide +kernel
theorem dX8_stretch_1 : decode cX8_stretch 1 = .ok (.getfield 10, 3) := by decide +kernel
theorem dX8_stretch_4 : decode cX8_stretch 4 = .ok (.getfield 30, 3) := by decide +kernel
theorem dX8_stretch_7 : decode cX8_stretch 7 = .ok (.iload_n 1, 1) := by decide +kernel
theorem dX8_stretch_8 : decode cX8_stretch 8 = .ok (.invokevirtual 128, 3) := by decide +kernel
theorem dX8_stretch_11 : decode cX8_stretch 11 = .ok (.invokestatic 40, 3) := by decide +kernel
theorem dX8_stretch_14 : decode cX8_stretch 14 = .ok (.aload_n 0, 1) := by decide +kernel
theorem dX8_stretch_15 : decode cX8_stretch 15 = .ok (.getfield 10, 3) := by decide +kernel
theorem dX8_stretch_18 : decode cX8_stretch 18 = .ok (.getfield 30, 3) := by decide +kernel
theorem dX8_stretch_21 : decode cX8_stretch 21 = .ok (.iload_n 1, 1) := by decide +kernel
theorem dX8_stretch_22 : decode cX8_stretch 22 = .ok (.invokevirtual 131, 3) := by decide +kernel
theorem dX8_stretch_25 : decode cX8_stretch 25 = .ok (.ireturn, 1) := by decide +kernel
set_option maxRecDepth 20000 in
theorem ggX8_shelf_X1_checkShelf : GoodIn wsX8_shelf wsX1_checkShelf := goodIn_r _ [7, 8, 9, 10] (by decide +kernel) (by decide +kernel)
set_option maxRecDepth 20000 in
theorem gX8_shelf_X1_checkShelf : GoodIn wsX8_shelf (wsV RX8 89 RX1 yX1_checkShelf wsX1_checkShelf) := goodIn_app (goodIn_of _ (by decide +kernel)) ggX8_shelf_X1_checkShelf
set_option maxRecDepth 20000 in
theorem ggX8_shelf_X8_refuse : GoodIn wsX8_shelf wsX8_refuse := goodIn_ca (goodIn_ca (goodIn_ca (goodIn_r _ [13, 14, 15, 16, 17, 18, 19] (by decide +kernel) (by decide +kernel)) (goodIn_sub (fun _ h => List.mem_cons_of_mem _ (List.mem_append_left _ (List.mem_append_left _ (List.mem_append_right _ h)))) (by decide +kernel))) (goodIn_sub (fun _ h => List.mem_cons_of_mem _ (List.mem_append_left _ (List.mem_append_right _ h))) (by decide +kernel))) (goodIn_sub (fun _ h => List.mem_cons_of_mem _ (List.mem_append_right _ h)) (by decide +kernel))
set_option maxRecDepth 20000 in
theorem gX8_shelf_X8_refuse : GoodIn wsX8_shelf (va_wsS RX8 40 yX8_refuse wsX8_refuse) := goodIn_app (goodIn_of _ (by decide +kernel)) ggX8_shelf_X8_refuse
set_option maxRecDepth 20000 in
theorem ggX8_shelf_X1_shelfWarmth : GoodIn wsX8_shelf wsX1_shelfWarmth := goodIn_r _ [23, 24, 8, 9, 10, 31, 32, 33, 34, 35, 36, 37, 38, 39, 40, 41, 42] (by decide +kernel) (by decide +kernel)
set_option maxRecDepth 20000 in
theorem gX8_shelf_X1_shelfWarmth : GoodIn wsX8_shelf (wsV RX8 134 RX1 yX1_shelfWarmth wsX1_shelfWarmth) := goodIn_app (goodIn_of _ (by decide +kernel)) ggX8_shelf_X1_shelfWarmth
theorem dX8_shelf_0 : decode cX8_shelf 0 = .ok (.aload_n 0, 1) := by decide +kernel
theorem dX8_shelf_1 : decode cX8_shelf 1 = .ok (.getfield 10, 3) := by decide +kernel
theorem dX8_shelf_4 : decode cX8_shelf 4 = .ok (.getfield 77, 3) := by decide +kernel
theorem dX8_shelf_7 : decode cX8_shelf 7 = .ok (.iload_n 1, 1) := by decide +kernel
theorem dX8_shelf_8 : decode cX8_shelf 8 = .ok (.invokevirtual 89, 3) := by decide +kernel
theorem dX8_shelf_11 : decode cX8_shelf 11 = .ok (.invokestatic 40, 3) := by decide +kernel
theorem dX8_shelf_14 : decode cX8_shelf 14 = .ok (.aload_n 0, 1) := by decide +kernel
theorem dX8_shelf_15 : decode cX8_shelf 15 = .ok (.getfield 10, 3) := by decide +kernel
theorem dX8_shelf_18 : decode cX8_shelf 18 = .ok (.getfield 77, 3) := by decide +kernel
theorem dX8_shelf_21 : decode cX8_shelf 21 = .ok (.iload_n 1, 1) := by decide +kernel
theorem dX8_shelf_22 : decode cX8_shelf 22 = .ok (.invokevirtual 134, 3) := by decide +kernel
theorem dX8_shelf_25 : decode cX8_shelf 25 = .ok (.ireturn, 1) := by decide +kernel
set_option maxRecDepth 20000 in
theorem ggX8_whole_X8_within : GoodIn wsX8_whole wsX8_within := goodIn_r _ [7] (by decide +kernel) (by decide +kernel)
set_option maxRecDepth 20000 in
theorem gX8_whole_X8_within : GoodIn wsX8_whole (va_wsS RX8 117 yX8_within wsX8_within) := goodIn_app (goodIn_of _ (by decide +kernel)) ggX8_whole_X8_within
set_option maxRecDepth 20000 in
theorem ggX8_whole_X8_refuse : GoodIn wsX8_whole wsX8_refuse := goodIn_ca (goodIn_ca (goodIn_ca (goodIn_r _ [10, 11, 12, 13, 14, 15, 16] (by decide +kernel) (by decide +kernel)) (goodIn_sub (fun _ h => List.mem_cons_of_mem _ (List.mem_append_left _ (List.mem_append_left _ (List.mem_append_right _ h)))) (by decide +kernel))) (goodIn_sub (fun _ h => List.mem_cons_of_mem _ (List.mem_append_left _ (List.mem_append_right _ h))) (by decide +kernel))) (goodIn_sub (fun _ h => List.mem_cons_of_mem _ (List.mem_append_right _ h)) (by decide +kernel))
set_option maxRecDepth 20000 in
theorem gX8_whole_X8_refuse : GoodIn wsX8_whole (va_wsS RX8 40 yX8_refuse wsX8_refuse) := goodIn_app (goodIn_of _ (by decide +kernel)) ggX8_whole_X8_refuse
set_option maxRecDepth 20000 in
theorem ggX8_whole_X6_wholeValue : GoodIn wsX8_whole wsX6_wholeValue := goodIn_r _ [21, 22, 23, 24, 25, 26, 27, 28, 29, 30, 31, 32, 33, 34, 35, 36, 37, 38, 39, 40, 41, 42, 43, 44, 45, 46, 47, 48, 49, 20, 50, 51, 52, 53, 54, 55, 56, 57, 58, 59, 60, 61, 62, 63, 64, 65, 66, 67, 68, 69, 70, 71, 72, 73, 74, 75, 76, 77, 78, 79, 80, 81, 82, 83, 84, 85, 86, 87, 6, 88, 89, 90, 91, 92, 93, 94, 95, 96, 97, 98, 109, 110, 111, 112, 113, 114, 115, 116, 117, 118, 119, 120, 121, 122, 123, 124, 125, 126, 127, 128, 129, 130, 131] (by decide +kernel) (by decide +kernel)
set_option maxRecDepth 20000 in
theorem gX8_whole_X6_wholeValue : GoodIn wsX8_whole (wsV RX8 140 RX6 yX6_wholeValue wsX6_wholeValue) := goodIn_app (goodIn_of _ (by decide +kernel)) ggX8_whole_X6_wholeValue
theorem dX8_whole_0 : decode cX8_whole 0 = .ok (.iload_n 1, 1) := by decide +kernel
theorem dX8_whole_1 : decode cX8_whole 1 = .ok (.iconst 0, 1) := by decide +kernel
theorem dX8_whole_2 : decode cX8_whole 2 = .ok (.bipush 17, 2) := by decide +kernel
theorem dX8_whole_4 : decode cX8_whole 4 = .ok (.invokestatic 117, 3) := by decide +kernel
theorem dX8_whole_7 : decode cX8_whole 7 = .ok (.ifCond .eq 7, 3) := by decide +kernel
theorem dX8_whole_10 : decode cX8_whole 10 = .ok (.iconst 0, 1) := by decide +kernel
theorem dX8_whole_11 : decode cX8_whole 11 = .ok (.goto 4, 3) := by decide +kernel
theorem dX8_whole_14 : decode cX8_whole 14 = .ok (.iconst 2, 1) := by decide +kernel
theorem dX8_whole_15 : decode cX8_whole 15 = .ok (.invokestatic 40, 3) := by decide +kernel
theorem dX8_whole_18 : decode cX8_whole 18 = .ok (.iload_n 1, 1) := by decide +kernel
theorem dX8_whole_19 : decode cX8_whole 19 = .ok (.bipush 17, 2) := by decide +kernel
theorem dX8_whole_21 : decode cX8_whole 21 = .ok (.if_icmp .ne 13, 3) := by decide +kernel
theorem dX8_whole_24 : decode cX8_whole 24 = .ok (.aload_n 0, 1) := by decide +kernel
theorem dX8_whole_25 : decode cX8_whole 25 = .ok (.getfield 26, 3) := by decide +kernel
theorem dX8_whole_28 : decode cX8_whole 28 = .ok (.getfield 137, 3) := by decide +kernel
theorem dX8_whole_31 : decode cX8_whole 31 = .ok (.goto 11, 3) := by decide +kernel
theorem dX8_whole_34 : decode cX8_whole 34 = .ok (.aload_n 0, 1) := by decide +kernel
theorem dX8_whole_35 : decode cX8_whole 35 = .ok (.getfield 10, 3) := by decide +kernel
theorem dX8_whole_38 : decode cX8_whole 38 = .ok (.iload_n 1, 1) := by decide +kernel
theorem dX8_whole_39 : decode cX8_whole 39 = .ok (.invokevirtual 140, 3) := by decide +kernel
theorem dX8_whole_42 : decode cX8_whole 42 = .ok (.ireturn, 1) := by decide +kernel
set_option maxRecDepth 20000 in
theorem ggX8_balance_X4_balanceOfRods : GoodIn wsX8_balance wsX4_balanceOfRods := goodIn_r _ [7, 8, 9, 10, 11, 6, 12, 13, 14, 15, 16, 17, 18, 19, 20, 21, 28, 29, 30, 31, 32, 33] (by decide +kernel) (by decide +kernel)
set_option maxRecDepth 20000 in
theorem gX8_balance_X4_balanceOfRods : GoodIn wsX8_balance (wsV RX8 143 RX4 yX4_balanceOfRods wsX4_balanceOfRods) := goodIn_app (goodIn_of _ (by decide +kernel)) ggX8_balance_X4_balanceOfRods
theorem dX8_balance_0 : decode cX8_balance 0 = .ok (.aload_n 0, 1) := by decide +kernel
theorem dX8_balance_1 : decode cX8_balance 1 = .ok (.getfield 10, 3) := by decide +kernel
theorem dX8_balance_4 : decode cX8_balance 4 = .ok (.getfield 30, 3) := by decide +kernel
theorem dX8_balance_7 : decode cX8_balance 7 = .ok (.invokevirtual 143, 3) := by decide +kernel
theorem dX8_balance_10 : decode cX8_balance 10 = .ok (.lreturn, 1) := by decide +kernel
theorem dX8_rates_0 : decode cX8_rates 0 = .ok (.aload_n 0, 1) := by decide +kernel
theorem dX8_rates_1 : decode cX8_rates 1 = .ok (.getfield 10, 3) := by decide +kernel
theorem dX8_rates_4 : decode cX8_rates 4 = .ok (.getfield 77, 3) := by decide +kernel
theorem dX8_rates_7 : decode cX8_rates 7 = .ok (.getfield 147, 3) := by decide +kernel
theorem dX8_rates_10 : decode cX8_rates 10 = .ok (.lreturn, 1) := by decide +kernel
set_option maxRecDepth 20000 in
theorem ggX8_balanceBits_X4_sumOfLengths : GoodIn wsX8_balanceBits wsX4_sumOfLengths := goodIn_r _ [7, 8, 9, 39, 40, 41, 42, 43, 44] (by decide +kernel) (by decide +kernel)
set_option maxRecDepth 20000 in
theorem gX8_balanceBits_X4_sumOfLengths : GoodIn wsX8_balanceBits (wsV RX8 151 RX4 yX4_sumOfLengths wsX4_sumOfLengths) := goodIn_app (goodIn_of _ (by decide +kernel)) ggX8_balanceBits_X4_sumOfLengths
set_option maxRecDepth 20000 in
theorem ggX8_balanceBits_X4_balanceOfRods : GoodIn wsX8_balanceBits wsX4_balanceOfRods := goodIn_r _ [13, 8, 14, 15, 16, 6, 17, 18, 9, 19, 20, 21, 22, 23, 24, 25, 39, 40, 41, 42, 43, 44] (by decide +kernel) (by decide +kernel)
set_option maxRecDepth 20000 in
theorem gX8_balanceBits_X4_balanceOfRods : GoodIn wsX8_balanceBits (wsV RX8 143 RX4 yX4_balanceOfRods wsX4_balanceOfRods) := goodIn_app (goodIn_of _ (by decide +kernel)) ggX8_balanceBits_X4_balanceOfRods
set_option maxRecDepth 20000 in
theorem ggX8_balanceBits_X8_bitsOf : GoodIn wsX8_balanceBits wsX8_bitsOf := goodIn_r _ [29, 30, 31, 32] (by decide +kernel) (by decide +kernel)
set_option maxRecDepth 20000 in
theorem gX8_balanceBits_X8_bitsOf : GoodIn wsX8_balanceBits (va_wsS RX8 154 yX8_bitsOf wsX8_bitsOf) := goodIn_app (goodIn_of _ (by decide +kernel)) ggX8_balanceBits_X8_bitsOf
theorem dX8_balanceBits_0 : decode cX8_balanceBits 0 = .ok (.aload_n 0, 1) := by decide +kernel
theorem dX8_balanceBits_1 : decode cX8_balanceBits 1 = .ok (.getfield 10, 3) := by decide +kernel
theorem dX8_balanceBits_4 : decode cX8_balanceBits 4 = .ok (.getfield 30, 3) := by decide +kernel
theorem dX8_balanceBits_7 : decode cX8_balanceBits 7 = .ok (.invokevirtual 151, 3) := by decide +kernel
theorem dX8_balanceBits_10 : decode cX8_balanceBits 10 = .ok (.lstore_n 1, 1) := by decide +kernel
theorem dX8_balanceBits_11 : decode cX8_balanceBits 11 = .ok (.lload_n 1, 1) := by decide +kernel
theorem dX8_balanceBits_12 : decode cX8_balanceBits 12 = .ok (.lconst 0, 1) := by decide +kernel
theorem dX8_balanceBits_13 : decode cX8_balanceBits 13 = .ok (.lcmp, 1) := by decide +kernel
theorem dX8_balanceBits_14 : decode cX8_balanceBits 14 = .ok (.ifCond .ne 7, 3) := by decide +kernel
theorem dX8_balanceBits_17 : decode cX8_balanceBits 17 = .ok (.iconst 0, 1) := by decide +kernel
theorem dX8_balanceBits_18 : decode cX8_balanceBits 18 = .ok (.goto 20, 3) := by decide +kernel
theorem dX8_balanceBits_21 : decode cX8_balanceBits 21 = .ok (.aload_n 0, 1) := by decide +kernel
theorem dX8_balanceBits_22 : decode cX8_balanceBits 22 = .ok (.getfield 10, 3) := by decide +kernel
theorem dX8_balanceBits_25 : decode cX8_balanceBits 25 = .ok (.getfield 30, 3) := by decide +kernel
theorem dX8_balanceBits_28 : decode cX8_balanceBits 28 = .ok (.invokevirtual 143, 3) := by decide +kernel
theorem dX8_balanceBits_31 : decode cX8_balanceBits 31 = .ok (.l2f, 1) := by decide +kernel
theorem dX8_balanceBits_32 : decode cX8_balanceBits 32 = .ok (.lload_n 1, 1) := by decide +kernel
theorem dX8_balanceBits_33 : decode cX8_balanceBits 33 = .ok (.l2f, 1) := by decide +kernel
theorem dX8_balanceBits_34 : decode cX8_balanceBits 34 = .ok (.fdiv, 1) := by decide +kernel
theorem dX8_balanceBits_35 : decode cX8_balanceBits 35 = .ok (.invokestatic 154, 3) := by decide +kernel
theorem dX8_balanceBits_38 : decode cX8_balanceBits 38 = .ok (.ireturn, 1) := by decide +kernel
set_option maxRecDepth 20000 in
theorem ggX8_day_X8_within : GoodIn wsX8_day wsX8_within := goodIn_r _ [6] (by decide +kernel) (by decide +kernel)
set_option maxRecDepth 20000 in
theorem gX8_day_X8_within : GoodIn wsX8_day (va_wsS RX8 117 yX8_within wsX8_within) := goodIn_app (goodIn_of _ (by decide +kernel)) ggX8_day_X8_within
set_option maxRecDepth 20000 in
theorem ggX8_day_X8_refuse : GoodIn wsX8_day wsX8_refuse := goodIn_ca (goodIn_ca (goodIn_ca (goodIn_r _ [9, 10, 11, 12, 13, 14, 15] (by decide +kernel) (by decide +kernel)) (goodIn_sub (fun _ h => List.mem_cons_of_mem _ (List.mem_append_left _ (List.mem_append_left _ (List.mem_append_right _ h)))) (by decide +kernel))) (goodIn_sub (fun _ h => List.mem_cons_of_mem _ (List.mem_append_left _ (List.mem_append_right _ h))) (by decide +kernel))) (goodIn_sub (fun _ h => List.mem_cons_of_mem _ (List.mem_append_right _ h)) (by decide +kernel))
set_option maxRecDepth 20000 in
theorem gX8_day_X8_refuse : GoodIn wsX8_day (va_wsS RX8 40 yX8_refuse wsX8_refuse) := goodIn_app (goodIn_of _ (by decide +kernel)) ggX8_day_X8_refuse
set_option maxRecDepth 20000 in
theorem ggX8_day_X3_dayValue : GoodIn wsX8_day wsX3_dayValue := goodIn_r _ [20, 21, 22, 23, 4, 5, 6, 30, 31] (by decide +kernel) (by decide +kernel)
set_option maxRecDepth 20000 in
theorem gX8_day_X3_dayValue : GoodIn wsX8_day (wsV RX8 162 RX3 yX3_dayValue wsX3_dayValue) := goodIn_app (goodIn_of _ (by decide +kernel)) ggX8_day_X3_dayValue
theorem dX8_day_0 : decode cX8_day 0 = .ok (.iload_n 1, 1) := by decide +kernel
theorem dX8_day_1 : decode cX8_day 1 = .ok (.ifCond .lt 16, 3) := by decide +kernel
theorem dX8_day_4 : decode cX8_day 4 = .ok (.iload_n 2, 1) := by decide +kernel
theorem dX8_day_5 : decode cX8_day 5 = .ok (.iconst 0, 1) := by decide +kernel
theorem dX8_day_6 : decode cX8_day 6 = .ok (.iconst 3, 1) := by decide +kernel
theorem dX8_day_7 : decode cX8_day 7 = .ok (.invokestatic 117, 3) := by decide +kernel
theorem dX8_day_10 : decode cX8_day 10 = .ok (.ifCond .eq 7, 3) := by decide +kernel
theorem dX8_day_13 : decode cX8_day 13 = .ok (.iconst 0, 1) := by decide +kernel
theorem dX8_day_14 : decode cX8_day 14 = .ok (.goto 4, 3) := by decide +kernel
theorem dX8_day_17 : decode cX8_day 17 = .ok (.iconst 2, 1) := by decide +kernel
theorem dX8_day_18 : decode cX8_day 18 = .ok (.invokestatic 40, 3) := by decide +kernel
theorem dX8_day_21 : decode cX8_day 21 = .ok (.aload_n 0, 1) := by decide +kernel
theorem dX8_day_22 : decode cX8_day 22 = .ok (.getfield 10, 3) := by decide +kernel
theorem dX8_day_25 : decode cX8_day 25 = .ok (.getfield 158, 3) := by decide +kernel
theorem dX8_day_28 : decode cX8_day 28 = .ok (.iload_n 1, 1) := by decide +kernel
theorem dX8_day_29 : decode cX8_day 29 = .ok (.iload_n 2, 1) := by decide +kernel
theorem dX8_day_30 : decode cX8_day 30 = .ok (.invokevirtual 162, 3) := by decide +kernel
theorem dX8_day_33 : decode cX8_day 33 = .ok (.lreturn, 1) := by decide +kernel
theorem dX8_meanRate_0 : decode cX8_meanRate 0 = .ok (.aload_n 0, 1) := by decide +kernel
theorem dX8_meanRate_1 : decode cX8_meanRate 1 = .ok (.getfield 10, 3) := by decide +kernel
theorem dX8_meanRate_4 : decode cX8_meanRate 4 = .ok (.getfield 77, 3) := by decide +kernel
theorem dX8_meanRate_7 : decode cX8_meanRate 7 = .ok (.getfield 168, 3) := by decide +kernel
theorem dX8_meanRate_10 : decode cX8_meanRate 10 = .ok (.istore_n 1, 1) := by decide +kernel
theorem dX8_meanRate_11 : decode cX8_meanRate 11 = .ok (.iload_n 1, 1) := by decide +kernel
theorem dX8_meanRate_12 : decode cX8_meanRate 12 = .ok (.ifCond .ne 7, 3) := by decide +kernel
theorem dX8_meanRate_15 : decode cX8_meanRate 15 = .ok (.dconst 0, 1) := by decide +kernel
theorem dX8_meanRate_16 : decode cX8_meanRate 16 = .ok (.goto 17, 3) := by decide +kernel
theorem dX8_meanRate_19 : decode cX8_meanRate 19 = .ok (.aload_n 0, 1) := by decide +kernel
theorem dX8_meanRate_20 : decode cX8_meanRate 20 = .ok (.getfield 10, 3) := by decide +kernel
theorem dX8_meanRate_23 : decode cX8_meanRate 23 = .ok (.getfield 77, 3) := by decide +kernel
theorem dX8_meanRate_26 : decode cX8_meanRate 26 = .ok (.getfield 147, 3) := by decide +kernel
theorem dX8_meanRate_29 : decode cX8_meanRate 29 = .ok (.l2d, 1) := by decide +kernel
theorem dX8_meanRate_30 : decode cX8_meanRate 30 = .ok (.iload_n 1, 1) := by decide +kernel
theorem dX8_meanRate_31 : decode cX8_meanRate 31 = .ok (.i2d, 1) := by decide +kernel
theorem dX8_meanRate_32 : decode cX8_meanRate 32 = .ok (.ddiv, 1) := by decide +kernel
theorem dX8_meanRate_33 : decode cX8_meanRate 33 = .ok (.dreturn, 1) := by decide +kernel
set_option maxRecDepth 20000 in
theorem ggX8_rateAt_X8_isWarmth : GoodIn wsX8_rateAt wsX8_isWarmth := goodIn_r _ [7, 8, 9, 6, 10] (by decide +kernel) (by decide +kernel)
set_option maxRecDepth 20000 in
theorem gX8_rateAt_X8_isWarmth : GoodIn wsX8_rateAt (va_wsS RX8 171 yX8_isWarmth wsX8_isWarmth) := goodIn_app (goodIn_of _ (by decide +kernel)) ggX8_rateAt_X8_isWarmth
set_option maxRecDepth 20000 in
theorem ggX8_rateAt_X8_refuse : GoodIn wsX8_rateAt wsX8_refuse := goodIn_ca (goodIn_ca (goodIn_ca (goodIn_r _ [13, 14, 15, 16, 17, 18, 19] (by decide +kernel) (by decide +kernel)) (goodIn_sub (fun _ h => List.mem_cons_of_mem _ (List.mem_append_left _ (List.mem_append_left _ (List.mem_append_right _ h)))) (by decide +kernel))) (goodIn_sub (fun _ h => List.mem_cons_of_mem _ (List.mem_append_left _ (List.mem_append_right _ h))) (by decide +kernel))) (goodIn_sub (fun _ h => List.mem_cons_of_mem _ (List.mem_append_right _ h)) (by decide +kernel))
set_option maxRecDepth 20000 in
theorem gX8_rateAt_X8_refuse : GoodIn wsX8_rateAt (va_wsS RX8 40 yX8_refuse wsX8_refuse) := goodIn_app (goodIn_of _ (by decide +kernel)) ggX8_rateAt_X8_refuse
set_option maxRecDepth 20000 in
theorem ggX8_rateAt_X6_rateFor : GoodIn wsX8_rateAt wsX6_rateFor := goodIn_r _ [24, 25, 26, 27, 28, 29, 30, 31, 32, 33, 34, 35, 36, 37, 38, 39, 40, 41, 42, 43, 44, 45, 46, 47, 48, 49, 50, 51, 52, 53, 54, 23, 55, 56, 57, 58, 59, 60, 61, 6, 62, 63, 64, 65, 66, 67, 68, 69, 70, 71, 72, 73, 74, 75, 76, 77, 78, 79, 80, 81, 82, 86, 87, 88, 89, 90, 91, 92, 93, 94, 95, 96, 97, 98, 99, 100, 101, 102, 103, 104, 105, 106] (by decide +kernel) (by decide +kernel)
set_option maxRecDepth 20000 in
theorem gX8_rateAt_X6_rateFor : GoodIn wsX8_rateAt (wsV RX8 178 RX6 yX6_rateFor wsX6_rateFor) := goodIn_app (goodIn_of _ (by decide +kernel)) ggX8_rateAt_X6_rateFor
theorem dX8_rateAt_0 : decode cX8_rateAt 0 = .ok (.iload_n 1, 1) := by decide +kernel
theorem dX8_rateAt_1 : decode cX8_rateAt 1 = .ok (.invokestatic 171, 3) := by decide +kernel
theorem dX8_rateAt_4 : decode cX8_rateAt 4 = .ok (.ifCond .eq 7, 3) := by decide +kernel
theorem dX8_rateAt_7 : decode cX8_rateAt 7 = .ok (.iconst 0, 1) := by decide +kernel
theorem dX8_rateAt_8 : decode cX8_rateAt 8 = .ok (.goto 4, 3) := by decide +kernel
theorem dX8_rateAt_11 : decode cX8_rateAt 11 = .ok (.iconst 2, 1) := by decide +kernel
theorem dX8_rateAt_12 : decode cX8_rateAt 12 = .ok (.invokestatic 40, 3) := by decide +kernel
theorem dX8_rateAt_15 : decode cX8_rateAt 15 = .ok (.aload_n 0, 1) := by decide +kernel
theorem dX8_rateAt_16 : decode cX8_rateAt 16 = .ok (.getfield 10, 3) := by decide +kernel
theorem dX8_rateAt_19 : decode cX8_rateAt 19 = .ok (.iload_n 1, 1) := by decide +kernel
theorem dX8_rateAt_20 : decode cX8_rateAt 20 = .ok (.aload_n 0, 1) := by decide +kernel
theorem dX8_rateAt_21 : decode cX8_rateAt 21 = .ok (.getfield 10, 3) := by decide +kernel
theorem dX8_rateAt_24 : decode cX8_rateAt 24 = .ok (.getfield 77, 3) := by decide +kernel
theorem dX8_rateAt_27 : decode cX8_rateAt 27 = .ok (.getfield 175, 3) := by decide +kernel
theorem dX8_rateAt_30 : decode cX8_rateAt 30 = .ok (.invokevirtual 178, 3) := by decide +kernel
theorem dX8_rateAt_33 : decode cX8_rateAt 33 = .ok (.ireturn, 1) := by decide +kernel
set_option maxRecDepth 20000 in
theorem ggX8_matchLength_X4_checkRod : GoodIn wsX8_matchLength wsX4_checkRod := goodIn_r _ [7, 8, 9, 10, 6, 11, 12, 13, 14, 15, 71, 72, 73, 74, 75, 76] (by decide +kernel) (by decide +kernel)
set_option maxRecDepth 20000 in
theorem gX8_matchLength_X4_checkRod : GoodIn wsX8_matchLength (wsV RX8 65 RX4 yX4_checkRod wsX4_checkRod) := goodIn_app (goodIn_of _ (by decide +kernel)) ggX8_matchLength_X4_checkRod
set_option maxRecDepth 20000 in
theorem ggX8_matchLength_X8_refuse : GoodIn wsX8_matchLength wsX8_refuse := goodIn_ca (goodIn_ca (goodIn_ca (goodIn_r _ [18, 19, 20, 21, 22, 23, 24] (by decide +kernel) (by decide +kernel)) (goodIn_sub (fun _ h => List.mem_cons_of_mem _ (List.mem_append_left _ (List.mem_append_left _ (List.mem_append_right _ h)))) (by decide +kernel))) (goodIn_sub (fun _ h => List.mem_cons_of_mem _ (List.mem_append_left _ (List.mem_append_right _ h))) (by decide +kernel))) (goodIn_sub (fun _ h => List.mem_cons_of_mem _ (List.mem_append_right _ h)) (by decide +kernel))
set_option maxRecDepth 20000 in
theorem gX8_matchLength_X8_refuse : GoodIn wsX8_matchLength (va_wsS RX8 40 yX8_refuse wsX8_refuse) := goodIn_app (goodIn_of _ (by decide +kernel)) ggX8_matchLength_X8_refuse
set_option maxRecDepth 20000 in
theorem ggX8_matchLength_X4_nearestMatch : GoodIn wsX8_matchLength wsX4_nearestMatch := goodIn_r _ [28, 29, 30, 31, 32, 33, 34, 35, 36, 37, 38, 6, 39, 40, 41, 42, 43, 44, 45, 12, 46, 47, 48, 49, 50, 51, 14, 52, 53, 54, 55, 56, 57, 58, 59, 60, 61, 62, 63, 64, 71, 72, 73, 74, 75, 76] (by decide +kernel) (by decide +kernel)
set_option maxRecDepth 20000 in
theorem gX8_matchLength_X4_nearestMatch : GoodIn wsX8_matchLength (wsV RX8 181 RX4 yX4_nearestMatch wsX4_nearestMatch) := goodIn_app (goodIn_of _ (by decide +kernel)) ggX8_matchLength_X4_nearestMatch
theorem dX8_matchLength_0 : decode cX8_matchLength 0 = .ok (.aload_n 0, 1) := by decide +kernel
theorem dX8_matchLength_1 : decode cX8_matchLength 1 = .ok (.getfield 10, 3) := by decide +kernel
theorem dX8_matchLength_4 : decode cX8_matchLength 4 = .ok (.getfield 30, 3) := by decide +kernel
theorem dX8_matchLength_7 : decode cX8_matchLength 7 = .ok (.iload_n 1, 1) := by decide +kernel
theorem dX8_matchLength_8 : decode cX8_matchLength 8 = .ok (.invokevirtual 65, 3) := by decide +kernel
theorem dX8_matchLength_11 : decode cX8_matchLength 11 = .ok (.invokestatic 40, 3) := by decide +kernel
theorem dX8_matchLength_14 : decode cX8_matchLength 14 = .ok (.aload_n 0, 1) := by decide +kernel
theorem dX8_matchLength_15 : decode cX8_matchLength 15 = .ok (.getfield 10, 3) := by decide +kernel
theorem dX8_matchLength_18 : decode cX8_matchLength 18 = .ok (.getfield 30, 3) := by decide +kernel
theorem dX8_matchLength_21 : decode cX8_matchLength 21 = .ok (.iload_n 1, 1) := by decide +kernel
theorem dX8_matchLength_22 : decode cX8_matchLength 22 = .ok (.invokevirtual 181, 3) := by decide +kernel
theorem dX8_matchLength_25 : decode cX8_matchLength 25 = .ok (.ireturn, 1) := by decide +kernel
set_option maxRecDepth 20000 in
theorem ggX8_bestNut_X6_nearestNut : GoodIn wsX8_bestNut wsX6_nearestNut := goodIn_r _ [6, 7, 8, 9, 10, 11, 12, 13, 14, 15, 16, 17, 18, 19, 20, 21, 22, 23, 24, 25, 26, 27, 28, 29, 30, 31, 32, 33, 34, 35, 36, 37, 5, 38, 39, 40, 41, 42, 43, 44, 45, 46, 47, 48, 49, 50, 51, 52, 53, 54, 55, 56, 57, 58, 59, 60, 61, 62, 63, 64, 65, 66, 67, 68, 69, 70, 74, 75, 76, 77, 78, 79, 80, 81, 82, 83, 84, 85, 86, 87, 88, 89, 90, 91, 92, 93, 94] (by decide +kernel) (by decide +kernel)
set_option maxRecDepth 20000 in
theorem gX8_bestNut_X6_nearestNut : GoodIn wsX8_bestNut (wsV RX8 184 RX6 yX6_nearestNut wsX6_nearestNut) := goodIn_app (goodIn_of _ (by decide +kernel)) ggX8_bestNut_X6_nearestNut
theorem dX8_bestNut_0 : decode cX8_bestNut 0 = .ok (.aload_n 0, 1) := by decide +kernel
theorem dX8_bestNut_1 : decode cX8_bestNut 1 = .ok (.getfield 10, 3) := by decide +kernel
theorem dX8_bestNut_4 : decode cX8_bestNut 4 = .ok (.invokevirtual 184, 3) := by decide +kernel
theorem dX8_bestNut_7 : decode cX8_bestNut 7 = .ok (.ireturn, 1) := by decide +kernel
set_option maxRecDepth 20000 in
theorem ggX8_rangeOfRates_X8_isWarmth : GoodIn wsX8_rangeOfRates wsX8_isWarmth := goodIn_r _ [5, 6, 7, 4, 8] (by decide +kernel) (by decide +kernel)
set_option maxRecDepth 20000 in
theorem gX8_rangeOfRates_X8_isWarmth : GoodIn wsX8_rangeOfRates (va_wsS RX8 171 yX8_isWarmth wsX8_isWarmth) := goodIn_app (goodIn_of _ (by decide +kernel)) ggX8_rangeOfRates_X8_isWarmth
set_option maxRecDepth 20000 in
theorem ggX8_rangeOfRates_X8_within : GoodIn wsX8_rangeOfRates wsX8_within := goodIn_r _ [8] (by decide +kernel) (by decide +kernel)
set_option maxRecDepth 20000 in
theorem gX8_rangeOfRates_X8_within : GoodIn wsX8_rangeOfRates (va_wsS RX8 117 yX8_within wsX8_within) := goodIn_app (goodIn_of _ (by decide +kernel)) ggX8_rangeOfRates_X8_within
set_option maxRecDepth 20000 in
theorem ggX8_rangeOfRates_X8_refuse : GoodIn wsX8_rangeOfRates wsX8_refuse := goodIn_ca (goodIn_ca (goodIn_ca (goodIn_r _ [11, 12, 13, 14, 15, 16, 17] (by decide +kernel) (by decide +kernel)) (goodIn_sub (fun _ h => List.mem_cons_of_mem _ (List.mem_append_left _ (List.mem_append_left _ (List.mem_append_right _ h)))) (by decide +kernel))) (goodIn_sub (fun _ h => List.mem_cons_of_mem _ (List.mem_append_left _ (List.mem_append_right _ h))) (by decide +kernel))) (goodIn_sub (fun _ h => List.mem_cons_of_mem _ (List.mem_append_right _ h)) (by decide +kernel))
set_option maxRecDepth 20000 in
theorem gX8_rangeOfRates_X8_refuse : GoodIn wsX8_rangeOfRates (va_wsS RX8 40 yX8_refuse wsX8_refuse) := goodIn_app (goodIn_of _ (by decide +kernel)) ggX8_rangeOfRates_X8_refuse
set_option maxRecDepth 20000 in
theorem ggX8_rangeOfRates_X6_spreadOfRates : GoodIn wsX8_rangeOfRates wsX6_spreadOfRates := goodIn_r _ [22, 23, 24, 25, 26, 27, 28, 29, 30, 31, 32, 33, 34, 21, 35, 36, 37, 38, 39, 40, 41, 42, 43, 44, 45, 46, 47, 48, 49, 50, 51, 52, 53, 54, 55, 56, 57, 58, 59, 60, 61, 62, 63, 64, 65, 66, 67, 68, 69, 70, 71, 4, 72, 73, 74, 75, 76, 77, 78, 79, 80, 81, 82, 83, 84, 85, 86, 87, 88, 89, 90, 91, 95, 96, 97, 98, 99, 100, 101, 102, 103, 104, 105, 106, 107, 108, 109, 110, 111, 112, 113, 114, 115] (by decide +kernel) (by decide +kernel)
set_option maxRecDepth 20000 in
theorem gX8_rangeOfRates_X6_spreadOfRates : GoodIn wsX8_rangeOfRates (wsV RX8 187 RX6 yX6_spreadOfRates wsX6_spreadOfRates) := goodIn_app (goodIn_of _ (by decide +kernel)) ggX8_rangeOfRates_X6_spreadOfRates
theorem dX8_rangeOfRates_0 : decode cX8_rangeOfRates 0 = .ok (.iload_n 1, 1) := by decide +kernel
theorem dX8_rangeOfRates_1 : decode cX8_rangeOfRates 1 = .ok (.invokestatic 171, 3) := by decide +kernel
theorem dX8_rangeOfRates_4 : decode cX8_rangeOfRates 4 = .ok (.ifCond .eq 18, 3) := by decide +kernel
theorem dX8_rangeOfRates_7 : decode cX8_rangeOfRates 7 = .ok (.iload_n 2, 1) := by decide +kernel
theorem dX8_rangeOfRates_8 : decode cX8_rangeOfRates 8 = .ok (.iload_n 1, 1) := by decide +kernel
theorem dX8_rangeOfRates_9 : decode cX8_rangeOfRates 9 = .ok (.sipush 600, 3) := by decide +kernel
theorem dX8_rangeOfRates_12 : decode cX8_rangeOfRates 12 = .ok (.invokestatic 117, 3) := by decide +kernel
theorem dX8_rangeOfRates_15 : decode cX8_rangeOfRates 15 = .ok (.ifCond .eq 7, 3) := by decide +kernel
theorem dX8_rangeOfRates_18 : decode cX8_rangeOfRates 18 = .ok (.iconst 0, 1) := by decide +kernel
theorem dX8_rangeOfRates_19 : decode cX8_rangeOfRates 19 = .ok (.goto 4, 3) := by decide +kernel
theorem dX8_rangeOfRates_22 : decode cX8_rangeOfRates 22 = .ok (.iconst 2, 1) := by decide +kernel
theorem dX8_rangeOfRates_23 : decode cX8_rangeOfRates 23 = .ok (.invokestatic 40, 3) := by decide +kernel
theorem dX8_rangeOfRates_26 : decode cX8_rangeOfRates 26 = .ok (.aload_n 0, 1) := by decide +kernel
theorem dX8_rangeOfRates_27 : decode cX8_rangeOfRates 27 = .ok (.getfield 10, 3) := by decide +kernel
theorem dX8_rangeOfRates_30 : decode cX8_rangeOfRates 30 = .ok (.iload_n 1, 1) := by decide +kernel
theorem dX8_rangeOfRates_31 : decode cX8_rangeOfRates 31 = .ok (.iload_n 2, 1) := by decide +kernel
theorem dX8_rangeOfRates_32 : decode cX8_rangeOfRates 32 = .ok (.invokevirtual 187, 3) := by decide +kernel
theorem dX8_rangeOfRates_35 : decode cX8_rangeOfRates 35 = .ok (.ireturn, 1) := by decide +kernel
set_option maxRecDepth 20000 in
theorem ggX8_changeWithin_X8_within : GoodIn wsX8_changeWithin wsX8_within := goodIn_r _ [5] (by decide +kernel) (by decide +kernel)
set_option maxRecDepth 20000 in
theorem gX8_changeWithin_X8_within : GoodIn wsX8_changeWithin (va_wsS RX8 117 yX8_within wsX8_within) := goodIn_app (goodIn_of _ (by decide +kernel)) ggX8_changeWithin_X8_within
set_option maxRecDepth 20000 in
theorem ggX8_changeWithin_X8_refuse : GoodIn wsX8_changeWithin wsX8_refuse := goodIn_ca (goodIn_ca (goodIn_ca (goodIn_r _ [8, 9, 10, 11, 12, 13, 14] (by decide +kernel) (by decide +kernel)) (goodIn_sub (fun _ h => List.mem_cons_of_mem _ (List.mem_append_left _ (List.mem_append_left _ (List.mem_append_right _ h)))) (by decide +kernel))) (goodIn_sub (fun _ h => List.mem_cons_of_mem _ (List.mem_append_left _ (List.mem_append_right _ h))) (by decide +kernel))) (goodIn_sub (fun _ h => List.mem_cons_of_mem _ (List.mem_append_right _ h)) (by decide +kernel))
set_option maxRecDepth 20000 in
theorem gX8_changeWithin_X8_refuse : GoodIn wsX8_changeWithin (va_wsS RX8 40 yX8_refuse wsX8_refuse) := goodIn_app (goodIn_of _ (by decide +kernel)) ggX8_changeWithin_X8_refuse
set_option maxRecDepth 20000 in
theorem ggX8_changeWithin_X6_changeOfRates : GoodIn wsX8_changeWithin wsX6_changeOfRates := goodIn_r _ [19, 20, 21, 22, 23, 24, 25, 26, 27, 28, 29, 30, 31, 32, 33, 34, 3, 4, 5, 35, 36, 37, 38, 39, 40, 41, 42, 43, 18, 44, 45, 46, 47, 48, 49, 50, 51, 52, 53, 54, 55, 56, 57, 58, 59, 60, 61, 62, 63, 64, 65, 66, 67, 68, 69, 70, 71, 72, 73, 74, 75, 76, 77, 78, 79, 80, 81, 82, 83, 84, 85, 86, 87, 88, 89, 90, 91, 92, 93, 97, 98, 99, 100, 101, 102, 103, 104, 105, 106, 107, 108, 109, 110, 111, 112, 113, 114, 115, 116, 117] (by decide +kernel) (by decide +kernel)
set_option maxRecDepth 20000 in
theorem gX8_changeWithin_X6_changeOfRates : GoodIn wsX8_changeWithin (wsV RX8 190 RX6 yX6_changeOfRates wsX6_changeOfRates) := goodIn_app (goodIn_of _ (by decide +kernel)) ggX8_changeWithin_X6_changeOfRates
theorem dX8_changeWithin_0 : decode cX8_changeWithin 0 = .ok (.iload_n 1, 1) := by decide +kernel
theorem dX8_changeWithin_1 : decode cX8_changeWithin 1 = .ok (.iconst 0, 1) := by decide +kernel
theorem dX8_changeWithin_2 : decode cX8_changeWithin 2 = .ok (.sipush 500, 3) := by decide +kernel
theorem dX8_changeWithin_5 : decode cX8_changeWithin 5 = .ok (.invokestatic 117, 3) := by decide +kernel
theorem dX8_changeWithin_8 : decode cX8_changeWithin 8 = .ok (.ifCond .eq 7, 3) := by decide +kernel
theorem dX8_changeWithin_11 : decode cX8_changeWithin 11 = .ok (.iconst 0, 1) := by decide +kernel
theorem dX8_changeWithin_12 : decode cX8_changeWithin 12 = .ok (.goto 4, 3) := by decide +kernel
theorem dX8_changeWithin_15 : decode cX8_changeWithin 15 = .ok (.iconst 2, 1) := by decide +kernel
theorem dX8_changeWithin_16 : decode cX8_changeWithin 16 = .ok (.invokestatic 40, 3) := by decide +kernel
theorem dX8_changeWithin_19 : decode cX8_changeWithin 19 = .ok (.aload_n 0, 1) := by decide +kernel
theorem dX8_changeWithin_20 : decode cX8_changeWithin 20 = .ok (.getfield 10, 3) := by decide +kernel
theorem dX8_changeWithin_23 : decode cX8_changeWithin 23 = .ok (.iload_n 1, 1) := by decide +kernel
theorem dX8_changeWithin_24 : decode cX8_changeWithin 24 = .ok (.invokevirtual 190, 3) := by decide +kernel
theorem dX8_changeWithin_27 : decode cX8_changeWithin 27 = .ok (.lreturn, 1) := by decide +kernel
set_option maxRecDepth 20000 in
theorem ggX8_type_X2_checkByte : GoodIn wsX8_type wsX2_checkByte := goodIn_r _ [6, 7, 8, 9, 10, 28, 29, 30, 31, 32, 33, 34] (by decide +kernel) (by decide +kernel)
set_option maxRecDepth 20000 in
theorem gX8_type_X2_checkByte : GoodIn wsX8_type (wsV RX8 194 RX2 yX2_checkByte wsX2_checkByte) := goodIn_app (goodIn_of _ (by decide +kernel)) ggX8_type_X2_checkByte
set_option maxRecDepth 20000 in
theorem ggX8_type_X8_refuse : GoodIn wsX8_type wsX8_refuse := goodIn_ca (goodIn_ca (goodIn_ca (goodIn_r _ [13, 14, 15, 16, 17, 18, 19] (by decide +kernel) (by decide +kernel)) (goodIn_sub (fun _ h => List.mem_cons_of_mem _ (List.mem_append_left _ (List.mem_append_left _ (List.mem_append_right _ h)))) (by decide +kernel))) (goodIn_sub (fun _ h => List.mem_cons_of_mem _ (List.mem_append_left _ (List.mem_append_right _ h))) (by decide +kernel))) (goodIn_sub (fun _ h => List.mem_cons_of_mem _ (List.mem_append_right _ h)) (by decide +kernel))
set_option maxRecDepth 20000 in
theorem gX8_type_X8_refuse : GoodIn wsX8_type (va_wsS RX8 40 yX8_refuse wsX8_refuse) := goodIn_app (goodIn_of _ (by decide +kernel)) ggX8_type_X8_refuse
set_option maxRecDepth 20000 in
theorem ggX8_type_X2_append : GoodIn wsX8_type wsX2_append := goodIn_r _ [23, 24, 7, 28, 29, 30, 31, 32, 33, 34] (by decide +kernel) (by decide +kernel)
set_option maxRecDepth 20000 in
theorem gX8_type_X2_append : GoodIn wsX8_type (wsV RX8 197 RX2 yX2_append wsX2_append) := goodIn_app (goodIn_of _ (by decide +kernel)) ggX8_type_X2_append
theorem dX8_type_0 : decode cX8_type 0 = .ok (.aload_n 0, 1) := by decide +kernel
theorem dX8_type_1 : decode cX8_type 1 = .ok (.getfield 26, 3) := by decide +kernel
theorem dX8_type_4 : decode cX8_type 4 = .ok (.iload_n 1, 1) := by decide +kernel
theorem dX8_type_5 : decode cX8_type 5 = .ok (.invokevirtual 194, 3) := by decide +kernel
theorem dX8_type_8 : decode cX8_type 8 = .ok (.invokestatic 40, 3) := by decide +kernel
theorem dX8_type_11 : decode cX8_type 11 = .ok (.aload_n 0, 1) := by decide +kernel
theorem dX8_type_12 : decode cX8_type 12 = .ok (.getfield 26, 3) := by decide +kernel
theorem dX8_type_15 : decode cX8_type 15 = .ok (.iload_n 1, 1) := by decide +kernel
theorem dX8_type_16 : decode cX8_type 16 = .ok (.invokevirtual 197, 3) := by decide +kernel
theorem dX8_type_19 : decode cX8_type 19 = .ok (.ireturn, 1) := by decide +kernel
set_option maxRecDepth 20000 in
theorem ggX8_runCommands_X2_findFault : GoodIn wsX8_runCommands wsX2_findFault := goodIn_r _ [11, 12, 13, 14, 15, 10, 16, 17, 18, 19, 20, 21, 22, 23, 24, 25, 26, 27, 28, 29, 30, 31, 32, 33, 34, 35, 36, 37, 38, 39, 40, 41, 42, 43, 44, 45, 46, 47, 48, 49, 50, 51, 52, 53, 54, 55, 56, 57, 58, 59, 60, 61, 62, 63, 64, 65, 66, 67, 68, 69, 70, 71, 72, 73, 74, 75, 76, 77, 78, 79, 80, 81, 82, 83, 84, 85, 86, 87, 88, 89, 90, 91, 92, 93, 94, 95, 96, 97, 98, 99, 100, 101, 102, 103, 104, 105, 106, 107, 108, 109, 110, 111, 112, 113, 365, 366, 367, 368, 369, 370, 371] (by decide +kernel) (by decide +kernel)
set_option maxRecDepth 20000 in
theorem gX8_runCommands_X2_findFault : GoodIn wsX8_runCommands (wsV RX8 203 RX2 yX2_findFault wsX2_findFault) := goodIn_app (goodIn_of _ (by decide +kernel)) ggX8_runCommands_X2_findFault
set_option maxRecDepth 20000 in
theorem ggX8_runCommands_X5_push : GoodIn wsX8_runCommands wsX5_push := goodIn_r _ [118, 119, 120, 121, 122, 123, 124, 125, 126, 127, 128, 129, 130, 131, 132, 133, 134, 135, 136, 137, 138, 139, 140, 141, 142, 143, 144, 145, 146, 147, 148, 149, 150, 151, 152, 153, 154, 155, 156, 157, 158, 159, 160, 161, 162, 163, 164, 165, 166, 167, 168, 169, 170, 171, 172, 173, 174, 372, 373, 374, 375, 376, 377, 378, 379, 380, 381, 382, 383, 384, 385, 386, 387, 388, 389, 390, 391, 392, 393, 394, 395, 396, 397] (by decide +kernel) (by decide +kernel)
set_option maxRecDepth 20000 in
theorem gX8_runCommands_X5_push : GoodIn wsX8_runCommands (wsV RX8 44 RX5 yX5_push wsX5_push) := goodIn_app (goodIn_of _ (by decide +kernel)) ggX8_runCommands_X5_push
set_option maxRecDepth 20000 in
theorem ggX8_runCommands_X2_rewind : GoodIn wsX8_runCommands wsX2_rewind := goodIn_r _ [16, 17, 12, 365, 366, 367, 368, 369, 370, 371] (by decide +kernel) (by decide +kernel)
set_option maxRecDepth 20000 in
theorem gX8_runCommands_X2_rewind : GoodIn wsX8_runCommands (wsV RX8 206 RX2 yX2_rewind wsX2_rewind) := goodIn_app (goodIn_of _ (by decide +kernel)) ggX8_runCommands_X2_rewind
set_option maxRecDepth 20000 in
theorem ggX8_runCommands_X2_readCommand : GoodIn wsX8_runCommands wsX2_readCommand := goodIn_r _ [21, 17, 22, 23, 24, 25, 10, 26, 27, 28, 29, 30, 31, 32, 33, 34, 35, 36, 37, 38, 39, 40, 41, 42, 43, 44, 45, 46, 47, 48, 49, 50, 51, 52, 53, 54, 55, 56, 57, 58, 59, 60, 61, 62, 63, 64, 65, 66, 67, 68, 69, 70, 71, 72, 73, 74, 75, 76, 77, 78, 79, 80, 81, 82, 83, 84, 85, 86, 87, 88, 89, 90, 91, 92, 93, 94, 95, 96, 97, 98, 12, 99, 100, 101, 102, 103, 104, 105, 106, 107, 108, 109, 110, 111, 112, 113, 365, 366, 367, 368, 369, 370, 371] (by decide +kernel) (by decide +kernel)
set_option maxRecDepth 20000 in
theorem gX8_runCommands_X2_readCommand : GoodIn wsX8_runCommands (wsV RX8 209 RX2 yX2_readCommand wsX2_readCommand) := goodIn_app (goodIn_of _ (by decide +kernel)) ggX8_runCommands_X2_readCommand
set_option maxRecDepth 20000 in
theorem ggX8_runCommands_X8_troubleWith : GoodIn wsX8_runCommands wsX8_troubleWith := goodIn_r _ [181, 182, 3, 183, 184, 185, 186, 187, 188, 189, 190, 191, 192, 193, 194, 137, 195, 139, 196, 180, 197, 198, 199, 200, 201, 202, 145, 203, 204, 205, 206, 207, 208, 209, 210, 211, 212, 213, 214, 215, 216, 217, 152, 218, 219, 220, 221, 222, 223, 224, 225, 226, 227, 228, 229, 159, 230, 231, 232, 233, 234, 235, 236, 237, 161, 238, 362, 363, 364, 375, 376, 377, 378, 379, 380, 381, 382, 383, 384, 385, 386, 387, 388, 389, 390, 391, 392, 393, 394, 395] (by decide +kernel) (by decide +kernel)
set_option maxRecDepth 20000 in
theorem gX8_runCommands_X8_troubleWith : GoodIn wsX8_runCommands (wsV RX8 223 RX8 yX8_troubleWith wsX8_troubleWith) := goodIn_app (goodIn_of _ (by decide +kernel)) ggX8_runCommands_X8_troubleWith
set_option maxRecDepth 20000 in
theorem ggX8_runCommands_X8_carryOut : GoodIn wsX8_runCommands wsX8_carryOut := goodIn_r _ [242, 182, 3, 183, 184, 185, 186, 187, 188, 189, 190, 191, 243, 244, 245, 137, 246, 140, 139, 247, 248, 249, 250, 146, 145, 147, 148, 251, 252, 253, 254, 255, 256, 257, 152, 258, 154, 259, 260, 261, 262, 157, 263, 264, 265, 266, 159, 267, 268, 269, 270, 160, 271, 272, 273, 274, 156, 275, 276, 277, 129, 278, 132, 279, 280, 281, 282, 283, 284, 285, 286, 287, 288, 289, 290, 291, 292, 196, 180, 197, 293, 294, 295, 296, 297, 298, 299, 300, 301, 302, 303, 131, 304, 305, 306, 307, 308, 309, 310, 311, 312, 313, 314, 315, 316, 317, 318, 319, 320, 321, 322, 323, 324, 325, 326, 327, 328, 329, 330, 124, 331, 332, 333, 334, 335, 336, 337, 338, 339, 340, 341, 342, 343, 344, 345, 346, 133, 347, 348, 349, 350, 351, 170, 352, 173, 174, 142, 143, 144, 172, 353, 123, 125, 354, 355, 356, 357, 164, 358, 359, 360, 361, 362, 363, 364, 375, 376, 377, 378, 379, 380, 381, 382, 383, 384, 385, 386, 387, 388, 389, 390, 391, 392, 393, 394, 395, 396, 397] (by decide +kernel) (by decide +kernel)
set_option maxRecDepth 20000 in
theorem gX8_runCommands_X8_carryOut : GoodIn wsX8_runCommands (wsV RX8 227 RX8 yX8_carryOut wsX8_carryOut) := goodIn_app (goodIn_of _ (by decide +kernel)) ggX8_runCommands_X8_carryOut
theorem dX8_runCommands_0 : decode cX8_runCommands 0 = .ok (.aload_n 0, 1) := by decide +kernel
theorem dX8_runCommands_1 : decode cX8_runCommands 1 = .ok (.getfield 26, 3) := by decide +kernel
theorem dX8_runCommands_4 : decode cX8_runCommands 4 = .ok (.invokevirtual 203, 3) := by decide +kernel
theorem dX8_runCommands_7 : decode cX8_runCommands 7 = .ok (.istore_n 1, 1) := by decide +kernel
theorem dX8_runCommands_8 : decode cX8_runCommands 8 = .ok (.iload_n 1, 1) := by decide +kernel
theorem dX8_runCommands_9 : decode cX8_runCommands 9 = .ok (.iconst (-1), 1) := by decide +kernel
theorem dX8_runCommands_10 : decode cX8_runCommands 10 = .ok (.if_icmp .eq 8, 3) := by decide +kernel
theorem dX8_runCommands_13 : decode cX8_runCommands 13 = .ok (.bipush (-10), 2) := by decide +kernel
theorem dX8_runCommands_15 : decode cX8_runCommands 15 = .ok (.iload_n 1, 1) := by decide +kernel
theorem dX8_runCommands_16 : decode cX8_runCommands 16 = .ok (.isub, 1) := by decide +kernel
theorem dX8_runCommands_17 : decode cX8_runCommands 17 = .ok (.ireturn, 1) := by decide +kernel
theorem dX8_runCommands_18 : decode cX8_runCommands 18 = .ok (.aload_n 0, 1) := by decide +kernel
theorem dX8_runCommands_19 : decode cX8_runCommands 19 = .ok (.getfield 19, 3) := by decide +kernel
theorem dX8_runCommands_22 : decode cX8_runCommands 22 = .ok (.aload_n 0, 1) := by decide +kernel
theorem dX8_runCommands_23 : decode cX8_runCommands 23 = .ok (.getfield 10, 3) := by decide +kernel
theorem dX8_runCommands_26 : decode cX8_runCommands 26 = .ok (.invokevirtual 44, 3) := by decide +kernel
theorem dX8_runCommands_29 : decode cX8_runCommands 29 = .ok (.aload_n 0, 1) := by decide +kernel
theorem dX8_runCommands_30 : decode cX8_runCommands 30 = .ok (.getfield 26, 3) := by decide +kernel
theorem dX8_runCommands_33 : decode cX8_runCommands 33 = .ok (.invokevirtual 206, 3) := by decide +kernel
theorem dX8_runCommands_36 : decode cX8_runCommands 36 = .ok (.iconst 0, 1) := by decide +kernel
theorem dX8_runCommands_37 : decode cX8_runCommands 37 = .ok (.istore_n 2, 1) := by decide +kernel
theorem dX8_runCommands_38 : decode cX8_runCommands 38 = .ok (.iload_n 2, 1) := by decide +kernel
theorem dX8_runCommands_39 : decode cX8_runCommands 39 = .ok (.sipush 150, 3) := by decide +kernel
theorem dX8_runCommands_42 : decode cX8_runCommands 42 = .ok (.if_icmp .ge 72, 3) := by decide +kernel
theorem dX8_runCommands_45 : decode cX8_runCommands 45 = .ok (.aload_n 0, 1) := by decide +kernel
theorem dX8_runCommands_46 : decode cX8_runCommands 46 = .ok (.getfield 26, 3) := by decide +kernel
theorem dX8_runCommands_49 : decode cX8_runCommands 49 = .ok (.invokevirtual 209, 3) := by decide +kernel
theorem dX8_runCommands_52 : decode cX8_runCommands 52 = .ok (.ifCond .eq 62, 3) := by decide +kernel
theorem dX8_runCommands_55 : decode cX8_runCommands 55 = .ok (.aload_n 0, 1) := by decide +kernel
theorem dX8_runCommands_56 : decode cX8_runCommands 56 = .ok (.aload_n 0, 1) := by decide +kernel
theorem dX8_runCommands_57 : decode cX8_runCommands 57 = .ok (.getfield 26, 3) := by decide +kernel
theorem dX8_runCommands_60 : decode cX8_runCommands 60 = .ok (.getfield 213, 3) := by decide +kernel
theorem dX8_runCommands_63 : decode cX8_runCommands 63 = .ok (.aload_n 0, 1) := by decide +kernel
theorem dX8_runCommands_64 : decode cX8_runCommands 64 = .ok (.getfield 26, 3) := by decide +kernel
theorem dX8_runCommands_67 : decode cX8_runCommands 67 = .ok (.getfield 217, 3) := by decide +kernel
theorem dX8_runCommands_70 : decode cX8_runCommands 70 = .ok (.aload_n 0, 1) := by decide +kernel
theorem dX8_runCommands_71 : decode cX8_runCommands 71 = .ok (.getfield 26, 3) := by decide +kernel
theorem dX8_runCommands_74 : decode cX8_runCommands 74 = .ok (.getfield 220, 3) := by decide +kernel
theorem dX8_runCommands_77 : decode cX8_runCommands 77 = .ok (.invokevirtual 223, 3) := by decide +kernel
theorem dX8_runCommands_80 : decode cX8_runCommands 80 = .ok (.ifCond .ne 34, 3) := by decide +kernel
theorem dX8_runCommands_83 : decode cX8_runCommands 83 = .ok (.aload_n 0, 1) := by decide +kernel
theorem dX8_runCommands_84 : decode cX8_runCommands 84 = .ok (.aload_n 0, 1) := by decide +kernel
theorem dX8_runCommands_85 : decode cX8_runCommands 85 = .ok (.getfield 26, 3) := by decide +kernel
theorem dX8_runCommands_88 : decode cX8_runCommands 88 = .ok (.getfield 213, 3) := by decide +kernel
theorem dX8_runCommands_91 : decode cX8_runCommands 91 = .ok (.aload_n 0, 1) := by decide +kernel
theorem dX8_runCommands_92 : decode cX8_runCommands 92 = .ok (.getfield 26, 3) := by decide +kernel
theorem dX8_runCommands_95 : decode cX8_runCommands 95 = .ok (.getfield 217, 3) := by decide +kernel
theorem dX8_runCommands_98 : decode cX8_runCommands 98 = .ok (.aload_n 0, 1) := by decide +kernel
theorem dX8_runCommands_99 : decode cX8_runCommands 99 = .ok (.getfield 26, 3) := by decide +kernel
theorem dX8_runCommands_102 : decode cX8_runCommands 102 = .ok (.getfield 220, 3) := by decide +kernel
theorem dX8_runCommands_105 : decode cX8_runCommands 105 = .ok (.invokevirtual 227, 3) := by decide +kernel
theorem dX8_runCommands_108 : decode cX8_runCommands 108 = .ok (.iinc 2 1, 3) := by decide +kernel
theorem dX8_runCommands_111 : decode cX8_runCommands 111 = .ok (.goto (-73), 3) := by decide +kernel
theorem dX8_runCommands_114 : decode cX8_runCommands 114 = .ok (.iload_n 2, 1) := by decide +kernel
theorem dX8_runCommands_115 : decode cX8_runCommands 115 = .ok (.ireturn, 1) := by decide +kernel
set_option maxRecDepth 20000 in
theorem ggX8_undo_X8_refuse : GoodIn wsX8_undo wsX8_refuse := goodIn_ca (goodIn_ca (goodIn_ca (goodIn_r _ [7, 8, 9, 10, 11, 12, 13] (by decide +kernel) (by decide +kernel)) (goodIn_sub (fun _ h => List.mem_cons_of_mem _ (List.mem_append_left _ (List.mem_append_left _ (List.mem_append_right _ h)))) (by decide +kernel))) (goodIn_sub (fun _ h => List.mem_cons_of_mem _ (List.mem_append_left _ (List.mem_append_right _ h))) (by decide +kernel))) (goodIn_sub (fun _ h => List.mem_cons_of_mem _ (List.mem_append_right _ h)) (by decide +kernel))
set_option maxRecDepth 20000 in
theorem gX8_undo_X8_refuse : GoodIn wsX8_undo (va_wsS RX8 40 yX8_refuse wsX8_refuse) := goodIn_app (goodIn_of _ (by decide +kernel)) ggX8_undo_X8_refuse
set_option maxRecDepth 20000 in
theorem ggX8_undo_X5_popInto : GoodIn wsX8_undo wsX5_popInto := goodIn_r _ [18, 19, 20, 21, 22, 23, 24, 25, 26, 27, 28, 29, 30, 31, 32, 33, 34, 35, 36, 37, 38, 39, 40, 41, 42, 43, 44, 45, 46, 47, 48, 49, 50, 51, 52, 53, 54, 55, 56, 57, 58, 59, 60, 61, 62, 63, 64, 65, 66, 67, 68, 69, 70, 74, 75, 76, 77, 78, 79, 80, 81, 82, 83, 84, 85, 86, 87, 88, 89, 90, 91, 92, 93, 94, 95, 96, 97, 98, 99] (by decide +kernel) (by decide +kernel)
set_option maxRecDepth 20000 in
theorem gX8_undo_X5_popInto : GoodIn wsX8_undo (wsV RX8 234 RX5 yX5_popInto wsX5_popInto) := goodIn_app (goodIn_of _ (by decide +kernel)) ggX8_undo_X5_popInto
theorem dX8_undo_0 : decode cX8_undo 0 = .ok (.aload_n 0, 1) := by decide +kernel
theorem dX8_undo_1 : decode cX8_undo 1 = .ok (.getfield 19, 3) := by decide +kernel
theorem dX8_undo_4 : decode cX8_undo 4 = .ok (.getfield 231, 3) := by decide +kernel
theorem dX8_undo_7 : decode cX8_undo 7 = .ok (.ifCond .le 7, 3) := by decide +kernel
theorem dX8_undo_10 : decode cX8_undo 10 = .ok (.iconst 0, 1) := by decide +kernel
theorem dX8_undo_11 : decode cX8_undo 11 = .ok (.goto 4, 3) := by decide +kernel
theorem dX8_undo_14 : decode cX8_undo 14 = .ok (.iconst 3, 1) := by decide +kernel
theorem dX8_undo_15 : decode cX8_undo 15 = .ok (.invokestatic 40, 3) := by decide +kernel
theorem dX8_undo_18 : decode cX8_undo 18 = .ok (.aload_n 0, 1) := by decide +kernel
theorem dX8_undo_19 : decode cX8_undo 19 = .ok (.getfield 19, 3) := by decide +kernel
theorem dX8_undo_22 : decode cX8_undo 22 = .ok (.aload_n 0, 1) := by decide +kernel
theorem dX8_undo_23 : decode cX8_undo 23 = .ok (.getfield 10, 3) := by decide +kernel
theorem dX8_undo_26 : decode cX8_undo 26 = .ok (.invokevirtual 234, 3) := by decide +kernel
theorem dX8_undo_29 : decode cX8_undo 29 = .ok (.ireturn, 1) := by decide +kernel
set_option maxRecDepth 20000 in
theorem ggX8_digest_X8_mix : GoodIn wsX8_digest wsX8_mix := goodIn_r _ [13, 14] (by decide +kernel) (by decide +kernel)
set_option maxRecDepth 20000 in
theorem gX8_digest_X8_mix : GoodIn wsX8_digest (va_wsS RX8 240 yX8_mix wsX8_mix) := goodIn_app (goodIn_of _ (by decide +kernel)) ggX8_digest_X8_mix
set_option maxRecDepth 20000 in
theorem ggX8_digest_X8_whole : GoodIn wsX8_digest wsX8_whole := goodIn_ca (goodIn_ca (goodIn_ca (goodIn_r _ [18, 19, 20, 4, 21, 22, 12, 23, 24, 25, 26, 27, 28, 29, 30, 31, 32, 33, 34, 35, 36, 37, 38, 39, 40, 41, 42, 43, 44, 45, 46, 47, 48, 49, 50, 51, 52, 53, 54, 55, 56, 57, 58, 59, 60, 61, 62, 63, 64, 65, 66, 67, 68, 69, 70, 71, 72, 73, 74, 75, 76, 77, 78, 79, 80, 81, 82, 83, 84, 85, 86, 87, 88, 89, 90, 91, 92, 93, 94, 95, 96, 97, 98, 99, 100, 101, 102, 103, 104, 105, 106, 107, 108, 109, 110, 111, 112, 113, 114, 214, 215, 216, 231, 232, 233, 234, 235, 236, 237, 220, 221, 222, 223, 224, 225, 226, 227, 228, 238, 239, 240, 241, 242, 243, 244, 245, 246, 247, 248, 249, 229, 230] (by decide +kernel) (by decide +kernel)) (goodIn_sub (fun _ h => List.mem_cons_of_mem _ (List.mem_append_left _ (List.mem_append_left _ (List.mem_append_right _ h)))) (by decide +kernel))) (goodIn_sub (fun _ h => List.mem_cons_of_mem _ (List.mem_append_left _ (List.mem_append_right _ h))) (by decide +kernel))) (goodIn_sub (fun _ h => List.mem_cons_of_mem _ (List.mem_append_right _ h)) (by decide +kernel))
set_option maxRecDepth 20000 in
theorem gX8_digest_X8_whole : GoodIn wsX8_digest (wsV RX8 244 RX8 yX8_whole wsX8_whole) := goodIn_app (goodIn_of _ (by decide +kernel)) ggX8_digest_X8_whole
set_option maxRecDepth 20000 in
theorem ggX8_digest_X8_balance : GoodIn wsX8_digest wsX8_balance := goodIn_r _ [118, 4, 5, 119, 120, 121, 71, 122, 73, 123, 124, 125, 126, 74, 75, 80, 82, 83, 84, 85, 86, 87, 214, 215, 216, 220, 221, 222, 223, 224, 225, 226, 227, 228] (by decide +kernel) (by decide +kernel)
set_option maxRecDepth 20000 in
theorem gX8_digest_X8_balance : GoodIn wsX8_digest (wsV RX8 247 RX8 yX8_balance wsX8_balance) := goodIn_app (goodIn_of _ (by decide +kernel)) ggX8_digest_X8_balance
set_option maxRecDepth 20000 in
theorem ggX8_digest_X8_rates : GoodIn wsX8_digest wsX8_rates := goodIn_r _ [130, 4, 131, 132, 214, 215, 216, 220, 221, 222, 238, 239, 240, 241, 242, 243, 244, 245, 246, 247, 248, 249] (by decide +kernel) (by decide +kernel)
set_option maxRecDepth 20000 in
theorem gX8_digest_X8_rates : GoodIn wsX8_digest (wsV RX8 250 RX8 yX8_rates wsX8_rates) := goodIn_app (goodIn_of _ (by decide +kernel)) ggX8_digest_X8_rates
set_option maxRecDepth 20000 in
theorem ggX8_digest_X8_balanceBits : GoodIn wsX8_digest wsX8_balanceBits := goodIn_r _ [136, 4, 5, 137, 138, 139, 71, 140, 73, 75, 119, 120, 121, 122, 123, 124, 125, 126, 74, 80, 82, 83, 84, 85, 86, 87, 141, 142, 12, 143, 144, 145, 146, 214, 215, 216, 220, 221, 222, 223, 224, 225, 226, 227, 228] (by decide +kernel) (by decide +kernel)
set_option maxRecDepth 20000 in
theorem gX8_digest_X8_balanceBits : GoodIn wsX8_digest (wsV RX8 253 RX8 yX8_balanceBits wsX8_balanceBits) := goodIn_app (goodIn_of _ (by decide +kernel)) ggX8_digest_X8_balanceBits
set_option maxRecDepth 20000 in
theorem ggX8_digest_X8_stretch : GoodIn wsX8_digest wsX8_stretch := goodIn_ca (goodIn_ca (goodIn_ca (goodIn_r _ [150, 4, 5, 151, 152, 153, 71, 154, 155, 156, 157, 158, 86, 22, 12, 23, 24, 25, 26, 27, 28, 29, 30, 31, 32, 159, 83, 84, 85, 87, 214, 215, 216, 220, 221, 222, 223, 224, 225, 226, 227, 228] (by decide +kernel) (by decide +kernel)) (goodIn_sub (fun _ h => List.mem_cons_of_mem _ (List.mem_append_left _ (List.mem_append_left _ (List.mem_append_right _ h)))) (by decide +kernel))) (goodIn_sub (fun _ h => List.mem_cons_of_mem _ (List.mem_append_left _ (List.mem_append_right _ h))) (by decide +kernel))) (goodIn_sub (fun _ h => List.mem_cons_of_mem _ (List.mem_append_right _ h)) (by decide +kernel))
set_option maxRecDepth 20000 in
theorem gX8_digest_X8_stretch : GoodIn wsX8_digest (wsV RX8 259 RX8 yX8_stretch wsX8_stretch) := goodIn_app (goodIn_of _ (by decide +kernel)) ggX8_digest_X8_stretch
set_option maxRecDepth 20000 in
theorem ggX8_digest_X8_shelf : GoodIn wsX8_digest wsX8_shelf := goodIn_ca (goodIn_ca (goodIn_ca (goodIn_r _ [163, 4, 131, 164, 165, 166, 55, 167, 22, 12, 23, 24, 25, 26, 27, 28, 29, 30, 31, 32, 168, 169, 170, 171, 172, 214, 215, 216, 220, 221, 222, 238, 239, 240, 241, 242, 243, 244, 245, 246, 247, 248, 249] (by decide +kernel) (by decide +kernel)) (goodIn_sub (fun _ h => List.mem_cons_of_mem _ (List.mem_append_left _ (List.mem_append_left _ (List.mem_append_right _ h)))) (by decide +kernel))) (goodIn_sub (fun _ h => List.mem_cons_of_mem _ (List.mem_append_left _ (List.mem_append_right _ h))) (by decide +kernel))) (goodIn_sub (fun _ h => List.mem_cons_of_mem _ (List.mem_append_right _ h)) (by decide +kernel))
set_option maxRecDepth 20000 in
theorem gX8_digest_X8_shelf : GoodIn wsX8_digest (wsV RX8 262 RX8 yX8_shelf wsX8_shelf) := goodIn_app (goodIn_of _ (by decide +kernel)) ggX8_digest_X8_shelf
set_option maxRecDepth 20000 in
theorem ggX8_digest_X8_rod : GoodIn wsX8_digest wsX8_rod := goodIn_ca (goodIn_ca (goodIn_ca (goodIn_r _ [176, 4, 5, 131, 177, 178, 179, 180, 71, 181, 182, 183, 184, 185, 73, 22, 12, 23, 24, 25, 26, 27, 28, 29, 30, 31, 32, 21, 186, 187, 188, 189, 80, 74, 75, 76, 77, 78, 79, 81, 82, 83, 84, 85, 86, 87, 88, 89, 90, 91, 214, 215, 216, 220, 221, 222, 238, 239, 240, 241, 242, 243, 244, 245, 246, 247, 248, 249, 223, 224, 225, 226, 227, 228] (by decide +kernel) (by decide +kernel)) (goodIn_sub (fun _ h => List.mem_cons_of_mem _ (List.mem_append_left _ (List.mem_append_left _ (List.mem_append_right _ h)))) (by decide +kernel))) (goodIn_sub (fun _ h => List.mem_cons_of_mem _ (List.mem_append_left _ (List.mem_append_right _ h))) (by decide +kernel))) (goodIn_sub (fun _ h => List.mem_cons_of_mem _ (List.mem_append_right _ h)) (by decide +kernel))
set_option maxRecDepth 20000 in
theorem gX8_digest_X8_rod : GoodIn wsX8_digest (wsV RX8 268 RX8 yX8_rod wsX8_rod) := goodIn_app (goodIn_of _ (by decide +kernel)) ggX8_digest_X8_rod
set_option maxRecDepth 20000 in
theorem ggX8_digest_X8_day : GoodIn wsX8_digest wsX8_day := goodIn_ca (goodIn_ca (goodIn_ca (goodIn_r _ [193, 4, 8, 21, 22, 12, 23, 24, 25, 26, 27, 28, 29, 30, 31, 32, 194, 195, 196, 197, 198, 199, 200, 201, 214, 215, 216, 220, 221, 222, 229, 230] (by decide +kernel) (by decide +kernel)) (goodIn_sub (fun _ h => List.mem_cons_of_mem _ (List.mem_append_left _ (List.mem_append_left _ (List.mem_append_right _ h)))) (by decide +kernel))) (goodIn_sub (fun _ h => List.mem_cons_of_mem _ (List.mem_append_left _ (List.mem_append_right _ h))) (by decide +kernel))) (goodIn_sub (fun _ h => List.mem_cons_of_mem _ (List.mem_append_right _ h)) (by decide +kernel))
set_option maxRecDepth 20000 in
theorem gX8_digest_X8_day : GoodIn wsX8_digest (wsV RX8 274 RX8 yX8_day wsX8_day) := goodIn_app (goodIn_of _ (by decide +kernel)) ggX8_digest_X8_day
set_option maxRecDepth 20000 in
theorem ggX8_digest_X8_bestNut : GoodIn wsX8_digest wsX8_bestNut := goodIn_r _ [205, 4, 206, 207, 208, 36, 209, 38, 41, 43, 45, 68, 69, 70, 71, 72, 73, 74, 75, 76, 77, 78, 79, 80, 81, 82, 83, 84, 85, 86, 87, 88, 89, 90, 91, 210, 211, 212, 213, 96, 97, 98, 99, 49, 67, 100, 101, 102, 103, 12, 104, 105, 106, 107, 108, 109, 110, 111, 112, 113, 114, 58, 59, 60, 55, 61, 62, 53, 54, 56, 57, 214, 215, 216, 220, 221, 222, 238, 239, 240, 241, 242, 243, 244, 245, 246, 247, 248, 249, 223, 224, 225, 226, 227, 228] (by decide +kernel) (by decide +kernel)
set_option maxRecDepth 20000 in
theorem gX8_digest_X8_bestNut : GoodIn wsX8_digest (wsV RX8 277 RX8 yX8_bestNut wsX8_bestNut) := goodIn_app (goodIn_of _ (by decide +kernel)) ggX8_digest_X8_bestNut
theorem dX8_digest_0 : decode cX8_digest 0 = .ok (.ldc2_w 238, 3) := by decide +kernel
theorem dX8_digest_3 : decode cX8_digest 3 = .ok (.aload_n 0, 1) := by decide +kernel
theorem dX8_digest_4 : decode cX8_digest 4 = .ok (.getfield 19, 3) := by decide +kernel
theorem dX8_digest_7 : decode cX8_digest 7 = .ok (.getfield 231, 3) := by decide +kernel
theorem dX8_digest_10 : decode cX8_digest 10 = .ok (.i2l, 1) := by decide +kernel
theorem dX8_digest_11 : decode cX8_digest 11 = .ok (.invokestatic 240, 3) := by decide +kernel
theorem dX8_digest_14 : decode cX8_digest 14 = .ok (.lstore_n 1, 1) := by decide +kernel
theorem dX8_digest_15 : decode cX8_digest 15 = .ok (.iconst 0, 1) := by decide +kernel
theorem dX8_digest_16 : decode cX8_digest 16 = .ok (.istore_n 3, 1) := by decide +kernel
theorem dX8_digest_17 : decode cX8_digest 17 = .ok (.iload_n 3, 1) := by decide +kernel
theorem dX8_digest_18 : decode cX8_digest 18 = .ok (.bipush 18, 2) := by decide +kernel
theorem dX8_digest_20 : decode cX8_digest 20 = .ok (.if_icmp .ge 20, 3) := by decide +kernel
theorem dX8_digest_23 : decode cX8_digest 23 = .ok (.lload_n 1, 1) := by decide +kernel
theorem dX8_digest_24 : decode cX8_digest 24 = .ok (.aload_n 0, 1) := by decide +kernel
theorem dX8_digest_25 : decode cX8_digest 25 = .ok (.iload_n 3, 1) := by decide +kernel
theorem dX8_digest_26 : decode cX8_digest 26 = .ok (.invokevirtual 244, 3) := by decide +kernel
theorem dX8_digest_29 : decode cX8_digest 29 = .ok (.i2l, 1) := by decide +kernel
theorem dX8_digest_30 : decode cX8_digest 30 = .ok (.invokestatic 240, 3) := by decide +kernel
theorem dX8_digest_33 : decode cX8_digest 33 = .ok (.lstore_n 1, 1) := by decide +kernel
theorem dX8_digest_34 : decode cX8_digest 34 = .ok (.iinc 3 1, 3) := by decide +kernel
theorem dX8_digest_37 : decode cX8_digest 37 = .ok (.goto (-20), 3) := by decide +kernel
theorem dX8_digest_40 : decode cX8_digest 40 = .ok (.lload_n 1, 1) := by decide +kernel
theorem dX8_digest_41 : decode cX8_digest 41 = .ok (.aload_n 0, 1) := by decide +kernel
theorem dX8_digest_42 : decode cX8_digest 42 = .ok (.invokevirtual 247, 3) := by decide +kernel
theorem dX8_digest_45 : decode cX8_digest 45 = .ok (.invokestatic 240, 3) := by decide +kernel
theorem dX8_digest_48 : decode cX8_digest 48 = .ok (.aload_n 0, 1) := by decide +kernel
theorem dX8_digest_49 : decode cX8_digest 49 = .ok (.invokevirtual 250, 3) := by decide +kernel
theorem dX8_digest_52 : decode cX8_digest 52 = .ok (.invokestatic 240, 3) := by decide +kernel
theorem dX8_digest_55 : decode cX8_digest 55 = .ok (.aload_n 0, 1) := by decide +kernel
theorem dX8_digest_56 : decode cX8_digest 56 = .ok (.invokevirtual 253, 3) := by decide +kernel
theorem dX8_digest_59 : decode cX8_digest 59 = .ok (.i2l, 1) := by decide +kernel
theorem dX8_digest_60 : decode cX8_digest 60 = .ok (.invokestatic 240, 3) := by decide +kernel
theorem dX8_digest_63 : decode cX8_digest 63 = .ok (.lstore_n 1, 1) := by decide +kernel
theorem dX8_digest_64 : decode cX8_digest 64 = .ok (.iconst 0, 1) := by decide +kernel
theorem dX8_digest_65 : decode cX8_digest 65 = .ok (.istore_n 3, 1) := by decide +kernel
theorem dX8_digest_66 : decode cX8_digest 66 = .ok (.iload_n 3, 1) := by decide +kernel
theorem dX8_digest_67 : decode cX8_digest 67 = .ok (.aload_n 0, 1) := by decide +kernel
theorem dX8_digest_68 : decode cX8_digest 68 = .ok (.getfield 10, 3) := by decide +kernel
theorem dX8_digest_71 : decode cX8_digest 71 = .ok (.getfield 30, 3) := by decide +kernel
theorem dX8_digest_74 : decode cX8_digest 74 = .ok (.getfield 256, 3) := by decide +kernel
theorem dX8_digest_77 : decode cX8_digest 77 = .ok (.if_icmp .ge 20, 3) := by decide +kernel
theorem dX8_digest_80 : decode cX8_digest 80 = .ok (.lload_n 1, 1) := by decide +kernel
theorem dX8_digest_81 : decode cX8_digest 81 = .ok (.aload_n 0, 1) := by decide +kernel
theorem dX8_digest_82 : decode cX8_digest 82 = .ok (.iload_n 3, 1) := by decide +kernel
theorem dX8_digest_83 : decode cX8_digest 83 = .ok (.invokevirtual 259, 3) := by decide +kernel
theorem dX8_digest_86 : decode cX8_digest 86 = .ok (.i2l, 1) := by decide +kernel
theorem dX8_digest_87 : decode cX8_digest 87 = .ok (.invokestatic 240, 3) := by decide +kernel
theorem dX8_digest_90 : decode cX8_digest 90 = .ok (.lstore_n 1, 1) := by decide +kernel
theorem dX8_digest_91 : decode cX8_digest 91 = .ok (.iinc 3 1, 3) := by decide +kernel
theorem dX8_digest_94 : decode cX8_digest 94 = .ok (.goto (-28), 3) := by decide +kernel
theorem dX8_digest_97 : decode cX8_digest 97 = .ok (.iconst 0, 1) := by decide +kernel
theorem dX8_digest_98 : decode cX8_digest 98 = .ok (.istore_n 3, 1) := by decide +kernel
theorem dX8_digest_99 : decode cX8_digest 99 = .ok (.iload_n 3, 1) := by decide +kernel
theorem dX8_digest_100 : decode cX8_digest 100 = .ok (.iconst 5, 1) := by decide +kernel
theorem dX8_digest_101 : decode cX8_digest 101 = .ok (.if_icmp .ge 20, 3) := by decide +kernel
theorem dX8_digest_104 : decode cX8_digest 104 = .ok (.lload_n 1, 1) := by decide +kernel
theorem dX8_digest_105 : decode cX8_digest 105 = .ok (.aload_n 0, 1) := by decide +kernel
theorem dX8_digest_106 : decode cX8_digest 106 = .ok (.iload_n 3, 1) := by decide +kernel
theorem dX8_digest_107 : decode cX8_digest 107 = .ok (.invokevirtual 262, 3) := by decide +kernel
theorem dX8_digest_110 : decode cX8_digest 110 = .ok (.i2l, 1) := by decide +kernel
theorem dX8_digest_111 : decode cX8_digest 111 = .ok (.invokestatic 240, 3) := by decide +kernel
theorem dX8_digest_114 : decode cX8_digest 114 = .ok (.lstore_n 1, 1) := by decide +kernel
theorem dX8_digest_115 : decode cX8_digest 115 = .ok (.iinc 3 1, 3) := by decide +kernel
theorem dX8_digest_118 : decode cX8_digest 118 = .ok (.goto (-19), 3) := by decide +kernel
theorem dX8_digest_121 : decode cX8_digest 121 = .ok (.iconst 0, 1) := by decide +kernel
theorem dX8_digest_122 : decode cX8_digest 122 = .ok (.istore_n 3, 1) := by decide +kernel
theorem dX8_digest_123 : decode cX8_digest 123 = .ok (.iload_n 3, 1) := by decide +kernel
theorem dX8_digest_124 : decode cX8_digest 124 = .ok (.aload_n 0, 1) := by decide +kernel
theorem dX8_digest_125 : decode cX8_digest 125 = .ok (.getfield 10, 3) := by decide +kernel
theorem dX8_digest_128 : decode cX8_digest 128 = .ok (.getfield 30, 3) := by decide +kernel
theorem dX8_digest_131 : decode cX8_digest 131 = .ok (.getfield 265, 3) := by decide +kernel
theorem dX8_digest_134 : decode cX8_digest 134 = .ok (.if_icmp .ge 37, 3) := by decide +kernel
theorem dX8_digest_137 : decode cX8_digest 137 = .ok (.iconst 0, 1) := by decide +kernel
theorem dX8_digest_138 : decode cX8_digest 138 = .ok (.istore 4, 2) := by decide +kernel
theorem dX8_digest_140 : decode cX8_digest 140 = .ok (.iload 4, 2) := by decide +kernel
theorem dX8_digest_142 : decode cX8_digest 142 = .ok (.iconst 5, 1) := by decide +kernel
theorem dX8_digest_143 : decode cX8_digest 143 = .ok (.if_icmp .ge 22, 3) := by decide +kernel
theorem dX8_digest_146 : decode cX8_digest 146 = .ok (.lload_n 1, 1) := by decide +kernel
theorem dX8_digest_147 : decode cX8_digest 147 = .ok (.aload_n 0, 1) := by decide +kernel
theorem dX8_digest_148 : decode cX8_digest 148 = .ok (.iload_n 3, 1) := by decide +kernel
theorem dX8_digest_149 : decode cX8_digest 149 = .ok (.iload 4, 2) := by decide +kernel
theorem dX8_digest_151 : decode cX8_digest 151 = .ok (.invokevirtual 268, 3) := by decide +kernel
theorem dX8_digest_154 : decode cX8_digest 154 = .ok (.i2l, 1) := by decide +kernel
theorem dX8_digest_155 : decode cX8_digest 155 = .ok (.invokestatic 240, 3) := by decide +kernel
theorem dX8_digest_158 : decode cX8_digest 158 = .ok (.lstore_n 1, 1) := by decide +kernel
theorem dX8_digest_159 : decode cX8_digest 159 = .ok (.iinc 4 1, 3) := by decide +kernel
theorem dX8_digest_162 : decode cX8_digest 162 = .ok (.goto (-22), 3) := by decide +kernel
theorem dX8_digest_165 : decode cX8_digest 165 = .ok (.iinc 3 1, 3) := by decide +kernel
theorem dX8_digest_168 : decode cX8_digest 168 = .ok (.goto (-45), 3) := by decide +kernel
theorem dX8_digest_171 : decode cX8_digest 171 = .ok (.iconst 0, 1) := by decide +kernel
theorem dX8_digest_172 : decode cX8_digest 172 = .ok (.istore_n 3, 1) := by decide +kernel
theorem dX8_digest_173 : decode cX8_digest 173 = .ok (.iload_n 3, 1) := by decide +kernel
theorem dX8_digest_174 : decode cX8_digest 174 = .ok (.aload_n 0, 1) := by decide +kernel
theorem dX8_digest_175 : decode cX8_digest 175 = .ok (.getfield 10, 3) := by decide +kernel
theorem dX8_digest_178 : decode cX8_digest 178 = .ok (.getfield 158, 3) := by decide +kernel
theorem dX8_digest_181 : decode cX8_digest 181 = .ok (.getfield 271, 3) := by decide +kernel
theorem dX8_digest_184 : decode cX8_digest 184 = .ok (.if_icmp .ge 36, 3) := by decide +kernel
theorem dX8_digest_187 : decode cX8_digest 187 = .ok (.iconst 0, 1) := by decide +kernel
theorem dX8_digest_188 : decode cX8_digest 188 = .ok (.istore 4, 2) := by decide +kernel
theorem dX8_digest_190 : decode cX8_digest 190 = .ok (.iload 4, 2) := by decide +kernel
theorem dX8_digest_192 : decode cX8_digest 192 = .ok (.iconst 4, 1) := by decide +kernel
theorem dX8_digest_193 : decode cX8_digest 193 = .ok (.if_icmp .ge 21, 3) := by decide +kernel
theorem dX8_digest_196 : decode cX8_digest 196 = .ok (.lload_n 1, 1) := by decide +kernel
theorem dX8_digest_197 : decode cX8_digest 197 = .ok (.aload_n 0, 1) := by decide +kernel
theorem dX8_digest_198 : decode cX8_digest 198 = .ok (.iload_n 3, 1) := by decide +kernel
theorem dX8_digest_199 : decode cX8_digest 199 = .ok (.iload 4, 2) := by decide +kernel
theorem dX8_digest_201 : decode cX8_digest 201 = .ok (.invokevirtual 274, 3) := by decide +kernel
theorem dX8_digest_204 : decode cX8_digest 204 = .ok (.invokestatic 240, 3) := by decide +kernel
theorem dX8_digest_207 : decode cX8_digest 207 = .ok (.lstore_n 1, 1) := by decide +kernel
theorem dX8_digest_208 : decode cX8_digest 208 = .ok (.iinc 4 1, 3) := by decide +kernel
theorem dX8_digest_211 : decode cX8_digest 211 = .ok (.goto (-21), 3) := by decide +kernel
theorem dX8_digest_214 : decode cX8_digest 214 = .ok (.iinc 3 1, 3) := by decide +kernel
theorem dX8_digest_217 : decode cX8_digest 217 = .ok (.goto (-44), 3) := by decide +kernel
theorem dX8_digest_220 : decode cX8_digest 220 = .ok (.lload_n 1, 1) := by decide +kernel
theorem dX8_digest_221 : decode cX8_digest 221 = .ok (.aload_n 0, 1) := by decide +kernel
theorem dX8_digest_222 : decode cX8_digest 222 = .ok (.invokevirtual 277, 3) := by decide +kernel
theorem dX8_digest_225 : decode cX8_digest 225 = .ok (.i2l, 1) := by decide +kernel
theorem dX8_digest_226 : decode cX8_digest 226 = .ok (.invokestatic 240, 3) := by decide +kernel
theorem dX8_digest_229 : decode cX8_digest 229 = .ok (.lreturn, 1) := by decide +kernel
theorem dX8_mix_0 : decode cX8_mix 0 = .ok (.ldc2_w 280, 3) := by decide +kernel
theorem dX8_mix_3 : decode cX8_mix 3 = .ok (.lload_n 0, 1) := by decide +kernel
theorem dX8_mix_4 : decode cX8_mix 4 = .ok (.lmul, 1) := by decide +kernel
theorem dX8_mix_5 : decode cX8_mix 5 = .ok (.lload_n 2, 1) := by decide +kernel
theorem dX8_mix_6 : decode cX8_mix 6 = .ok (.ladd, 1) := by decide +kernel
theorem dX8_mix_7 : decode cX8_mix 7 = .ok (.lreturn, 1) := by decide +kernel
theorem dX8_refuse_0 : decode cX8_refuse 0 = .ok (.iload_n 0, 1) := by decide +kernel
theorem dX8_refuse_1 : decode cX8_refuse 1 = .ok (.iconst 1, 1) := by decide +kernel
theorem dX8_refuse_2 : decode cX8_refuse 2 = .ok (.if_icmp .ne 14, 3) := by decide +kernel
theorem dX8_refuse_5 : decode cX8_refuse 5 = .ok (.new 282, 3) := by decide +kernel
theorem dX8_refuse_8 : decode cX8_refuse 8 = .ok (.dup, 1) := by decide +kernel
theorem dX8_refuse_9 : decode cX8_refuse 9 = .ok (.ldc_w 284, 3) := by decide +kernel
theorem dX8_refuse_12 : decode cX8_refuse 12 = .ok (.invokespecial 286, 3) := by decide +kernel
theorem dX8_refuse_15 : decode cX8_refuse 15 = .ok (.athrow, 1) := by decide +kernel
theorem dX8_refuse_16 : decode cX8_refuse 16 = .ok (.iload_n 0, 1) := by decide +kernel
theorem dX8_refuse_17 : decode cX8_refuse 17 = .ok (.iconst 2, 1) := by decide +kernel
theorem dX8_refuse_18 : decode cX8_refuse 18 = .ok (.if_icmp .ne 14, 3) := by decide +kernel
theorem dX8_refuse_21 : decode cX8_refuse 21 = .ok (.new 289, 3) := by decide +kernel
theorem dX8_refuse_24 : decode cX8_refuse 24 = .ok (.dup, 1) := by decide +kernel
theorem dX8_refuse_25 : decode cX8_refuse 25 = .ok (.ldc_w 291, 3) := by decide +kernel
theorem dX8_refuse_28 : decode cX8_refuse 28 = .ok (.invokespecial 293, 3) := by decide +kernel
theorem dX8_refuse_31 : decode cX8_refuse 31 = .ok (.athrow, 1) := by decide +kernel
theorem dX8_refuse_32 : decode cX8_refuse 32 = .ok (.iload_n 0, 1) := by decide +kernel
theorem dX8_refuse_33 : decode cX8_refuse 33 = .ok (.iconst 3, 1) := by decide +kernel
theorem dX8_refuse_34 : decode cX8_refuse 34 = .ok (.if_icmp .ne 14, 3) := by decide +kernel
theorem dX8_refuse_37 : decode cX8_refuse 37 = .ok (.new 294, 3) := by decide +kernel
theorem dX8_refuse_40 : decode cX8_refuse 40 = .ok (.dup, 1) := by decide +kernel
theorem dX8_refuse_41 : decode cX8_refuse 41 = .ok (.ldc_w 296, 3) := by decide +kernel
theorem dX8_refuse_44 : decode cX8_refuse 44 = .ok (.invokespecial 298, 3) := by decide +kernel
theorem dX8_refuse_47 : decode cX8_refuse 47 = .ok (.athrow, 1) := by decide +kernel
theorem dX8_refuse_48 : decode cX8_refuse 48 = .ok (.return_, 1) := by decide +kernel
set_option maxRecDepth 20000 in
theorem ggX8_troubleWith_Jx29ce0_ordinal_8abf5 : GoodIn wsX8_troubleWith wsJx29ce0_ordinal_8abf5 := goodIn_r _ [10, 11] (by decide +kernel) (by decide +kernel)
set_option maxRecDepth 20000 in
theorem ggX8_troubleWith_X4_checkNewMetal : GoodIn wsX8_troubleWith wsX4_checkNewMetal := goodIn_r _ [16, 17, 18, 19, 20, 72, 73, 74, 75, 76, 77] (by decide +kernel) (by decide +kernel)
set_option maxRecDepth 20000 in
theorem gX8_troubleWith_X4_checkNewMetal : GoodIn wsX8_troubleWith (wsV RX8 34 RX4 yX4_checkNewMetal wsX4_checkNewMetal) := goodIn_app (goodIn_of _ (by decide +kernel)) ggX8_troubleWith_X4_checkNewMetal
set_option maxRecDepth 20000 in
theorem ggX8_troubleWith_X4_checkNewRod : GoodIn wsX8_troubleWith wsX4_checkNewRod := goodIn_r _ [24, 25, 26, 27, 28, 29, 15, 30, 17, 18, 19, 20, 72, 73, 74, 75, 76, 77] (by decide +kernel) (by decide +kernel)
set_option maxRecDepth 20000 in
theorem gX8_troubleWith_X4_checkNewRod : GoodIn wsX8_troubleWith (wsV RX8 58 RX4 yX4_checkNewRod wsX4_checkNewRod) := goodIn_app (goodIn_of _ (by decide +kernel)) ggX8_troubleWith_X4_checkNewRod
set_option maxRecDepth 20000 in
theorem ggX8_troubleWith_X4_checkLength : GoodIn wsX8_troubleWith wsX4_checkLength := goodIn_r _ [34, 25, 35, 36, 37, 15, 38, 26, 18, 19, 20, 72, 73, 74, 75, 76, 77] (by decide +kernel) (by decide +kernel)
set_option maxRecDepth 20000 in
theorem gX8_troubleWith_X4_checkLength : GoodIn wsX8_troubleWith (wsV RX8 71 RX4 yX4_checkLength wsX4_checkLength) := goodIn_app (goodIn_of _ (by decide +kernel)) ggX8_troubleWith_X4_checkLength
set_option maxRecDepth 20000 in
theorem ggX8_troubleWith_X1_checkShelfWarmth : GoodIn wsX8_troubleWith wsX1_checkShelfWarmth := goodIn_r _ [43, 18, 19, 20, 44, 45, 46] (by decide +kernel) (by decide +kernel)
set_option maxRecDepth 20000 in
theorem gX8_troubleWith_X1_checkShelfWarmth : GoodIn wsX8_troubleWith (wsV RX8 81 RX1 yX1_checkShelfWarmth wsX1_checkShelfWarmth) := goodIn_app (goodIn_of _ (by decide +kernel)) ggX8_troubleWith_X1_checkShelfWarmth
set_option maxRecDepth 20000 in
theorem ggX8_troubleWith_X1_checkShelf : GoodIn wsX8_troubleWith wsX1_checkShelf := goodIn_r _ [50, 18, 19, 20] (by decide +kernel) (by decide +kernel)
set_option maxRecDepth 20000 in
theorem gX8_troubleWith_X1_checkShelf : GoodIn wsX8_troubleWith (wsV RX8 89 RX1 yX1_checkShelf wsX1_checkShelf) := goodIn_app (goodIn_of _ (by decide +kernel)) ggX8_troubleWith_X1_checkShelf
set_option maxRecDepth 20000 in
theorem ggX8_troubleWith_X1_checkTurn : GoodIn wsX8_troubleWith wsX1_checkTurn := goodIn_r _ [54, 55, 18, 19, 20, 78, 79, 80, 81, 82, 83, 84, 85, 86, 87, 88, 89] (by decide +kernel) (by decide +kernel)
set_option maxRecDepth 20000 in
theorem gX8_troubleWith_X1_checkTurn : GoodIn wsX8_troubleWith (wsV RX8 95 RX1 yX1_checkTurn wsX1_checkTurn) := goodIn_app (goodIn_of _ (by decide +kernel)) ggX8_troubleWith_X1_checkTurn
set_option maxRecDepth 20000 in
theorem ggX8_troubleWith_X1_checkSetting : GoodIn wsX8_troubleWith wsX1_checkSetting := goodIn_r _ [59, 18, 19, 20] (by decide +kernel) (by decide +kernel)
set_option maxRecDepth 20000 in
theorem gX8_troubleWith_X1_checkSetting : GoodIn wsX8_troubleWith (wsV RX8 105 RX1 yX1_checkSetting wsX1_checkSetting) := goodIn_app (goodIn_of _ (by decide +kernel)) ggX8_troubleWith_X1_checkSetting
set_option maxRecDepth 20000 in
theorem ggX8_troubleWith_X1_checkHours : GoodIn wsX8_troubleWith wsX1_checkHours := goodIn_r _ [63, 64, 65, 18, 19, 20, 78, 79, 80, 81, 82, 83, 84, 85, 86, 87, 88, 89] (by decide +kernel) (by decide +kernel)
set_option maxRecDepth 20000 in
theorem gX8_troubleWith_X1_checkHours : GoodIn wsX8_troubleWith (wsV RX8 111 RX1 yX1_checkHours wsX1_checkHours) := goodIn_app (goodIn_of _ (by decide +kernel)) ggX8_troubleWith_X1_checkHours
theorem dX8_troubleWith_0 : decode cX8_troubleWith 0 = .ok (.aload_n 1, 1) := by decide +kernel
theorem dX8_troubleWith_1 : decode cX8_troubleWith 1 = .ok (.ifnonnull 5, 3) := by decide +kernel
theorem dX8_troubleWith_4 : decode cX8_troubleWith 4 = .ok (.iconst 2, 1) := by decide +kernel
theorem dX8_troubleWith_5 : decode cX8_troubleWith 5 = .ok (.ireturn, 1) := by decide +kernel
theorem dX8_troubleWith_6 : decode cX8_troubleWith 6 = .ok (.getstatic 299, 3) := by decide +kernel
theorem dX8_troubleWith_9 : decode cX8_troubleWith 9 = .ok (.aload_n 1, 1) := by decide +kernel
theorem dX8_troubleWith_10 : decode cX8_troubleWith 10 = .ok (.invokevirtual 305, 3) := by decide +kernel
theorem dX8_troubleWith_13 : decode cX8_troubleWith 13 = .ok (.iaload, 1) := by decide +kernel
theorem dX8_troubleWith_14 : decode cX8_troubleWith 14 = .ok (.tableswitch 200 1 11 #[58, 70, 84, 98, 111, 124, 138, 150, 162, 175, 188], 58) := by decide +kernel
theorem dX8_troubleWith_72 : decode cX8_troubleWith 72 = .ok (.aload_n 0, 1) := by decide +kernel
theorem dX8_troubleWith_73 : decode cX8_troubleWith 73 = .ok (.getfield 10, 3) := by decide +kernel
theorem dX8_troubleWith_76 : decode cX8_troubleWith 76 = .ok (.getfield 30, 3) := by decide +kernel
theorem dX8_troubleWith_79 : decode cX8_troubleWith 79 = .ok (.iload_n 2, 1) := by decide +kernel
theorem dX8_troubleWith_80 : decode cX8_troubleWith 80 = .ok (.invokevirtual 34, 3) := by decide +kernel
theorem dX8_troubleWith_83 : decode cX8_troubleWith 83 = .ok (.ireturn, 1) := by decide +kernel
theorem dX8_troubleWith_84 : decode cX8_troubleWith 84 = .ok (.aload_n 0, 1) := by decide +kernel
theorem dX8_troubleWith_85 : decode cX8_troubleWith 85 = .ok (.getfield 10, 3) := by decide +kernel
theorem dX8_troubleWith_88 : decode cX8_troubleWith 88 = .ok (.getfield 30, 3) := by decide +kernel
theorem dX8_troubleWith_91 : decode cX8_troubleWith 91 = .ok (.iload_n 2, 1) := by decide +kernel
theorem dX8_troubleWith_92 : decode cX8_troubleWith 92 = .ok (.iconst 1, 1) := by decide +kernel
theorem dX8_troubleWith_93 : decode cX8_troubleWith 93 = .ok (.iload_n 3, 1) := by decide +kernel
theorem dX8_troubleWith_94 : decode cX8_troubleWith 94 = .ok (.invokevirtual 58, 3) := by decide +kernel
theorem dX8_troubleWith_97 : decode cX8_troubleWith 97 = .ok (.ireturn, 1) := by decide +kernel
theorem dX8_troubleWith_98 : decode cX8_troubleWith 98 = .ok (.aload_n 0, 1) := by decide +kernel
theorem dX8_troubleWith_99 : decode cX8_troubleWith 99 = .ok (.getfield 10, 3) := by decide +kernel
theorem dX8_troubleWith_102 : decode cX8_troubleWith 102 = .ok (.getfield 30, 3) := by decide +kernel
theorem dX8_troubleWith_105 : decode cX8_troubleWith 105 = .ok (.iload_n 2, 1) := by decide +kernel
theorem dX8_troubleWith_106 : decode cX8_troubleWith 106 = .ok (.iconst (-1), 1) := by decide +kernel
theorem dX8_troubleWith_107 : decode cX8_troubleWith 107 = .ok (.iload_n 3, 1) := by decide +kernel
theorem dX8_troubleWith_108 : decode cX8_troubleWith 108 = .ok (.invokevirtual 58, 3) := by decide +kernel
theorem dX8_troubleWith_111 : decode cX8_troubleWith 111 = .ok (.ireturn, 1) := by decide +kernel
theorem dX8_troubleWith_112 : decode cX8_troubleWith 112 = .ok (.aload_n 0, 1) := by decide +kernel
theorem dX8_troubleWith_113 : decode cX8_troubleWith 113 = .ok (.getfield 10, 3) := by decide +kernel
theorem dX8_troubleWith_116 : decode cX8_troubleWith 116 = .ok (.getfield 30, 3) := by decide +kernel
theorem dX8_troubleWith_119 : decode cX8_troubleWith 119 = .ok (.iload_n 2, 1) := by decide +kernel
theorem dX8_troubleWith_120 : decode cX8_troubleWith 120 = .ok (.iload_n 3, 1) := by decide +kernel
theorem dX8_troubleWith_121 : decode cX8_troubleWith 121 = .ok (.invokevirtual 71, 3) := by decide +kernel
theorem dX8_troubleWith_124 : decode cX8_troubleWith 124 = .ok (.ireturn, 1) := by decide +kernel
theorem dX8_troubleWith_125 : decode cX8_troubleWith 125 = .ok (.aload_n 0, 1) := by decide +kernel
theorem dX8_troubleWith_126 : decode cX8_troubleWith 126 = .ok (.getfield 10, 3) := by decide +kernel
theorem dX8_troubleWith_129 : decode cX8_troubleWith 129 = .ok (.getfield 77, 3) := by decide +kernel
theorem dX8_troubleWith_132 : decode cX8_troubleWith 132 = .ok (.iload_n 2, 1) := by decide +kernel
theorem dX8_troubleWith_133 : decode cX8_troubleWith 133 = .ok (.iload_n 3, 1) := by decide +kernel
theorem dX8_troubleWith_134 : decode cX8_troubleWith 134 = .ok (.invokevirtual 81, 3) := by decide +kernel
theorem dX8_troubleWith_137 : decode cX8_troubleWith 137 = .ok (.ireturn, 1) := by decide +kernel
theorem dX8_troubleWith_138 : decode cX8_troubleWith 138 = .ok (.aload_n 0, 1) := by decide +kernel
theorem dX8_troubleWith_139 : decode cX8_troubleWith 139 = .ok (.getfield 10, 3) := by decide +kernel
theorem dX8_troubleWith_142 : decode cX8_troubleWith 142 = .ok (.getfield 77, 3) := by decide +kernel
theorem dX8_troubleWith_145 : decode cX8_troubleWith 145 = .ok (.iload_n 2, 1) := by decide +kernel
theorem dX8_troubleWith_146 : decode cX8_troubleWith 146 = .ok (.iload_n 3, 1) := by decide +kernel
theorem dX8_troubleWith_147 : decode cX8_troubleWith 147 = .ok (.ineg, 1) := by decide +kernel
theorem dX8_troubleWith_148 : decode cX8_troubleWith 148 = .ok (.invokevirtual 81, 3) := by decide +kernel
theorem dX8_troubleWith_151 : decode cX8_troubleWith 151 = .ok (.ireturn, 1) := by decide +kernel
theorem dX8_troubleWith_152 : decode cX8_troubleWith 152 = .ok (.aload_n 0, 1) := by decide +kernel
theorem dX8_troubleWith_153 : decode cX8_troubleWith 153 = .ok (.getfield 10, 3) := by decide +kernel
theorem dX8_troubleWith_156 : decode cX8_troubleWith 156 = .ok (.getfield 77, 3) := by decide +kernel
theorem dX8_troubleWith_159 : decode cX8_troubleWith 159 = .ok (.iload_n 2, 1) := by decide +kernel
theorem dX8_troubleWith_160 : decode cX8_troubleWith 160 = .ok (.invokevirtual 89, 3) := by decide +kernel
theorem dX8_troubleWith_163 : decode cX8_troubleWith 163 = .ok (.ireturn, 1) := by decide +kernel
theorem dX8_troubleWith_164 : decode cX8_troubleWith 164 = .ok (.aload_n 0, 1) := by decide +kernel
theorem dX8_troubleWith_165 : decode cX8_troubleWith 165 = .ok (.getfield 10, 3) := by decide +kernel
theorem dX8_troubleWith_168 : decode cX8_troubleWith 168 = .ok (.getfield 77, 3) := by decide +kernel
theorem dX8_troubleWith_171 : decode cX8_troubleWith 171 = .ok (.iload_n 2, 1) := by decide +kernel
theorem dX8_troubleWith_172 : decode cX8_troubleWith 172 = .ok (.invokevirtual 95, 3) := by decide +kernel
theorem dX8_troubleWith_175 : decode cX8_troubleWith 175 = .ok (.ireturn, 1) := by decide +kernel
theorem dX8_troubleWith_176 : decode cX8_troubleWith 176 = .ok (.aload_n 0, 1) := by decide +kernel
theorem dX8_troubleWith_177 : decode cX8_troubleWith 177 = .ok (.getfield 10, 3) := by decide +kernel
theorem dX8_troubleWith_180 : decode cX8_troubleWith 180 = .ok (.getfield 77, 3) := by decide +kernel
theorem dX8_troubleWith_183 : decode cX8_troubleWith 183 = .ok (.iload_n 2, 1) := by decide +kernel
theorem dX8_troubleWith_184 : decode cX8_troubleWith 184 = .ok (.ineg, 1) := by decide +kernel
theorem dX8_troubleWith_185 : decode cX8_troubleWith 185 = .ok (.invokevirtual 95, 3) := by decide +kernel
theorem dX8_troubleWith_188 : decode cX8_troubleWith 188 = .ok (.ireturn, 1) := by decide +kernel
theorem dX8_troubleWith_189 : decode cX8_troubleWith 189 = .ok (.aload_n 0, 1) := by decide +kernel
theorem dX8_troubleWith_190 : decode cX8_troubleWith 190 = .ok (.getfield 10, 3) := by decide +kernel
theorem dX8_troubleWith_193 : decode cX8_troubleWith 193 = .ok (.getfield 77, 3) := by decide +kernel
theorem dX8_troubleWith_196 : decode cX8_troubleWith 196 = .ok (.iload_n 2, 1) := by decide +kernel
theorem dX8_troubleWith_197 : decode cX8_troubleWith 197 = .ok (.iload_n 3, 1) := by decide +kernel
theorem dX8_troubleWith_198 : decode cX8_troubleWith 198 = .ok (.invokevirtual 105, 3) := by decide +kernel
theorem dX8_troubleWith_201 : decode cX8_troubleWith 201 = .ok (.ireturn, 1) := by decide +kernel
theorem dX8_troubleWith_202 : decode cX8_troubleWith 202 = .ok (.aload_n 0, 1) := by decide +kernel
theorem dX8_troubleWith_203 : decode cX8_troubleWith 203 = .ok (.getfield 10, 3) := by decide +kernel
theorem dX8_troubleWith_206 : decode cX8_troubleWith 206 = .ok (.getfield 77, 3) := by decide +kernel
theorem dX8_troubleWith_209 : decode cX8_troubleWith 209 = .ok (.iload_n 2, 1) := by decide +kernel
theorem dX8_troubleWith_210 : decode cX8_troubleWith 210 = .ok (.invokevirtual 111, 3) := by decide +kernel
theorem dX8_troubleWith_213 : decode cX8_troubleWith 213 = .ok (.ireturn, 1) := by decide +kernel
theorem dX8_troubleWith_214 : decode cX8_troubleWith 214 = .ok (.iconst 0, 1) := by decide +kernel
theorem dX8_troubleWith_215 : decode cX8_troubleWith 215 = .ok (.ireturn, 1) := by decide +kernel
set_option maxRecDepth 20000 in
theorem ggX8_carryOut_Jx29ce0_ordinal_8abf5 : GoodIn wsX8_carryOut wsJx29ce0_ordinal_8abf5 := goodIn_r _ [10, 11] (by decide +kernel) (by decide +kernel)
set_option maxRecDepth 20000 in
theorem ggX8_carryOut_X4_appendMetal : GoodIn wsX8_carryOut wsX4_appendMetal := goodIn_r _ [16, 17, 18, 168, 169, 170, 171, 172, 173] (by decide +kernel) (by decide +kernel)
set_option maxRecDepth 20000 in
theorem gX8_carryOut_X4_appendMetal : GoodIn wsX8_carryOut (wsV RX8 48 RX4 yX4_appendMetal wsX4_appendMetal) := goodIn_app (goodIn_of _ (by decide +kernel)) ggX8_carryOut_X4_appendMetal
set_option maxRecDepth 20000 in
theorem ggX8_carryOut_X4_appendRod : GoodIn wsX8_carryOut wsX4_appendRod := goodIn_r _ [22, 23, 24, 25, 26, 168, 169, 170, 171, 172, 173] (by decide +kernel) (by decide +kernel)
set_option maxRecDepth 20000 in
theorem gX8_carryOut_X4_appendRod : GoodIn wsX8_carryOut (wsV RX8 62 RX4 yX4_appendRod wsX4_appendRod) := goodIn_app (goodIn_of _ (by decide +kernel)) ggX8_carryOut_X4_appendRod
set_option maxRecDepth 20000 in
theorem ggX8_carryOut_X4_changeLength : GoodIn wsX8_carryOut wsX4_changeLength := goodIn_r _ [30, 26, 168, 169, 170, 171, 172, 173] (by decide +kernel) (by decide +kernel)
set_option maxRecDepth 20000 in
theorem gX8_carryOut_X4_changeLength : GoodIn wsX8_carryOut (wsV RX8 74 RX4 yX4_changeLength wsX4_changeLength) := goodIn_app (goodIn_of _ (by decide +kernel)) ggX8_carryOut_X4_changeLength
set_option maxRecDepth 20000 in
theorem ggX8_carryOut_X1_changeShelfWarmth : GoodIn wsX8_carryOut wsX1_changeShelfWarmth := goodIn_r _ [35, 36, 174, 175, 176, 177, 178, 179, 180, 181, 182, 183, 184, 185] (by decide +kernel) (by decide +kernel)
set_option maxRecDepth 20000 in
theorem gX8_carryOut_X1_changeShelfWarmth : GoodIn wsX8_carryOut (wsV RX8 86 RX1 yX1_changeShelfWarmth wsX1_changeShelfWarmth) := goodIn_app (goodIn_of _ (by decide +kernel)) ggX8_carryOut_X1_changeShelfWarmth
set_option maxRecDepth 20000 in
theorem ggX8_carryOut_X1_changeShelf : GoodIn wsX8_carryOut wsX1_changeShelf := goodIn_r _ [40, 41, 174, 175, 176, 177, 178, 179, 180, 181, 182, 183, 184, 185] (by decide +kernel) (by decide +kernel)
set_option maxRecDepth 20000 in
theorem gX8_carryOut_X1_changeShelf : GoodIn wsX8_carryOut (wsV RX8 92 RX1 yX1_changeShelf wsX1_changeShelf) := goodIn_app (goodIn_of _ (by decide +kernel)) ggX8_carryOut_X1_changeShelf
set_option maxRecDepth 20000 in
theorem ggX8_carryOut_X1_changeNut : GoodIn wsX8_carryOut wsX1_changeNut := goodIn_r _ [45, 46, 174, 175, 176, 177, 178, 179, 180, 181, 182, 183, 184, 185] (by decide +kernel) (by decide +kernel)
set_option maxRecDepth 20000 in
theorem gX8_carryOut_X1_changeNut : GoodIn wsX8_carryOut (wsV RX8 98 RX1 yX1_changeNut wsX1_changeNut) := goodIn_app (goodIn_of _ (by decide +kernel)) ggX8_carryOut_X1_changeNut
set_option maxRecDepth 20000 in
theorem ggX8_carryOut_X1_fillDrive : GoodIn wsX8_carryOut wsX1_fillDrive := goodIn_r _ [50, 51, 174, 175, 176, 177, 178, 179, 180, 181, 182, 183, 184, 185] (by decide +kernel) (by decide +kernel)
set_option maxRecDepth 20000 in
theorem gX8_carryOut_X1_fillDrive : GoodIn wsX8_carryOut (wsV RX8 101 RX1 yX1_fillDrive wsX1_fillDrive) := goodIn_app (goodIn_of _ (by decide +kernel)) ggX8_carryOut_X1_fillDrive
set_option maxRecDepth 20000 in
theorem ggX8_carryOut_X1_changeSetting : GoodIn wsX8_carryOut wsX1_changeSetting := goodIn_r _ [55, 56, 174, 175, 176, 177, 178, 179, 180, 181, 182, 183, 184, 185] (by decide +kernel) (by decide +kernel)
set_option maxRecDepth 20000 in
theorem gX8_carryOut_X1_changeSetting : GoodIn wsX8_carryOut (wsV RX8 108 RX1 yX1_changeSetting wsX1_changeSetting) := goodIn_app (goodIn_of _ (by decide +kernel)) ggX8_carryOut_X1_changeSetting
set_option maxRecDepth 20000 in
theorem ggX8_carryOut_X6_passHours : GoodIn wsX8_carryOut wsX6_passHours := goodIn_r _ [61, 62, 63, 64, 65, 66, 67, 68, 69, 70, 71, 34, 72, 41, 56, 73, 74, 75, 76, 36, 77, 78, 79, 80, 81, 82, 83, 84, 85, 86, 87, 88, 60, 89, 90, 91, 92, 93, 94, 15, 95, 24, 25, 26, 96, 97, 98, 99, 23, 100, 101, 102, 103, 104, 18, 17, 105, 106, 107, 108, 109, 110, 111, 112, 113, 114, 115, 116, 117, 118, 119, 120, 121, 122, 123, 124, 125, 126, 127, 128, 129, 130, 131, 132, 133, 134, 135, 136, 137, 138, 139, 140, 141, 142, 143, 144, 145, 146, 147, 148, 149, 150, 151, 152, 153, 154, 155, 156, 157, 158, 159, 160, 161, 165, 166, 167, 174, 175, 176, 177, 178, 179, 180, 181, 182, 183, 184, 185, 168, 169, 170, 171, 172, 173, 186, 187] (by decide +kernel) (by decide +kernel)
set_option maxRecDepth 20000 in
theorem gX8_carryOut_X6_passHours : GoodIn wsX8_carryOut (wsV RX8 114 RX6 yX6_passHours wsX6_passHours) := goodIn_app (goodIn_of _ (by decide +kernel)) ggX8_carryOut_X6_passHours
theorem dX8_carryOut_0 : decode cX8_carryOut 0 = .ok (.aload_n 1, 1) := by decide +kernel
theorem dX8_carryOut_1 : decode cX8_carryOut 1 = .ok (.ifnonnull 4, 3) := by decide +kernel
theorem dX8_carryOut_4 : decode cX8_carryOut 4 = .ok (.return_, 1) := by decide +kernel
theorem dX8_carryOut_5 : decode cX8_carryOut 5 = .ok (.getstatic 299, 3) := by decide +kernel
theorem dX8_carryOut_8 : decode cX8_carryOut 8 = .ok (.aload_n 1, 1) := by decide +kernel
theorem dX8_carryOut_9 : decode cX8_carryOut 9 = .ok (.invokevirtual 305, 3) := by decide +kernel
theorem dX8_carryOut_12 : decode cX8_carryOut 12 = .ok (.iaload, 1) := by decide +kernel
theorem dX8_carryOut_13 : decode cX8_carryOut 13 = .ok (.tableswitch 249 1 12 #[63, 78, 95, 112, 128, 144, 161, 176, 191, 221, 237, 207], 63) := by decide +kernel
theorem dX8_carryOut_76 : decode cX8_carryOut 76 = .ok (.aload_n 0, 1) := by decide +kernel
theorem dX8_carryOut_77 : decode cX8_carryOut 77 = .ok (.getfield 10, 3) := by decide +kernel
theorem dX8_carryOut_80 : decode cX8_carryOut 80 = .ok (.getfield 30, 3) := by decide +kernel
theorem dX8_carryOut_83 : decode cX8_carryOut 83 = .ok (.iload_n 2, 1) := by decide +kernel
theorem dX8_carryOut_84 : decode cX8_carryOut 84 = .ok (.invokevirtual 48, 3) := by decide +kernel
theorem dX8_carryOut_87 : decode cX8_carryOut 87 = .ok (.pop, 1) := by decide +kernel
theorem dX8_carryOut_88 : decode cX8_carryOut 88 = .ok (.goto 174, 3) := by decide +kernel
theorem dX8_carryOut_91 : decode cX8_carryOut 91 = .ok (.aload_n 0, 1) := by decide +kernel
theorem dX8_carryOut_92 : decode cX8_carryOut 92 = .ok (.getfield 10, 3) := by decide +kernel
theorem dX8_carryOut_95 : decode cX8_carryOut 95 = .ok (.getfield 30, 3) := by decide +kernel
theorem dX8_carryOut_98 : decode cX8_carryOut 98 = .ok (.iload_n 2, 1) := by decide +kernel
theorem dX8_carryOut_99 : decode cX8_carryOut 99 = .ok (.iconst 1, 1) := by decide +kernel
theorem dX8_carryOut_100 : decode cX8_carryOut 100 = .ok (.iload_n 3, 1) := by decide +kernel
theorem dX8_carryOut_101 : decode cX8_carryOut 101 = .ok (.invokevirtual 62, 3) := by decide +kernel
theorem dX8_carryOut_104 : decode cX8_carryOut 104 = .ok (.pop, 1) := by decide +kernel
theorem dX8_carryOut_105 : decode cX8_carryOut 105 = .ok (.goto 157, 3) := by decide +kernel
theorem dX8_carryOut_108 : decode cX8_carryOut 108 = .ok (.aload_n 0, 1) := by decide +kernel
theorem dX8_carryOut_109 : decode cX8_carryOut 109 = .ok (.getfield 10, 3) := by decide +kernel
theorem dX8_carryOut_112 : decode cX8_carryOut 112 = .ok (.getfield 30, 3) := by decide +kernel
theorem dX8_carryOut_115 : decode cX8_carryOut 115 = .ok (.iload_n 2, 1) := by decide +kernel
theorem dX8_carryOut_116 : decode cX8_carryOut 116 = .ok (.iconst (-1), 1) := by decide +kernel
theorem dX8_carryOut_117 : decode cX8_carryOut 117 = .ok (.iload_n 3, 1) := by decide +kernel
theorem dX8_carryOut_118 : decode cX8_carryOut 118 = .ok (.invokevirtual 62, 3) := by decide +kernel
theorem dX8_carryOut_121 : decode cX8_carryOut 121 = .ok (.pop, 1) := by decide +kernel
theorem dX8_carryOut_122 : decode cX8_carryOut 122 = .ok (.goto 140, 3) := by decide +kernel
theorem dX8_carryOut_125 : decode cX8_carryOut 125 = .ok (.aload_n 0, 1) := by decide +kernel
theorem dX8_carryOut_126 : decode cX8_carryOut 126 = .ok (.getfield 10, 3) := by decide +kernel
theorem dX8_carryOut_129 : decode cX8_carryOut 129 = .ok (.getfield 30, 3) := by decide +kernel
theorem dX8_carryOut_132 : decode cX8_carryOut 132 = .ok (.iload_n 2, 1) := by decide +kernel
theorem dX8_carryOut_133 : decode cX8_carryOut 133 = .ok (.iload_n 3, 1) := by decide +kernel
theorem dX8_carryOut_134 : decode cX8_carryOut 134 = .ok (.invokevirtual 74, 3) := by decide +kernel
theorem dX8_carryOut_137 : decode cX8_carryOut 137 = .ok (.pop, 1) := by decide +kernel
theorem dX8_carryOut_138 : decode cX8_carryOut 138 = .ok (.goto 124, 3) := by decide +kernel
theorem dX8_carryOut_141 : decode cX8_carryOut 141 = .ok (.aload_n 0, 1) := by decide +kernel
theorem dX8_carryOut_142 : decode cX8_carryOut 142 = .ok (.getfield 10, 3) := by decide +kernel
theorem dX8_carryOut_145 : decode cX8_carryOut 145 = .ok (.getfield 77, 3) := by decide +kernel
theorem dX8_carryOut_148 : decode cX8_carryOut 148 = .ok (.iload_n 2, 1) := by decide +kernel
theorem dX8_carryOut_149 : decode cX8_carryOut 149 = .ok (.iload_n 3, 1) := by decide +kernel
theorem dX8_carryOut_150 : decode cX8_carryOut 150 = .ok (.invokevirtual 86, 3) := by decide +kernel
theorem dX8_carryOut_153 : decode cX8_carryOut 153 = .ok (.pop, 1) := by decide +kernel
theorem dX8_carryOut_154 : decode cX8_carryOut 154 = .ok (.goto 108, 3) := by decide +kernel
theorem dX8_carryOut_157 : decode cX8_carryOut 157 = .ok (.aload_n 0, 1) := by decide +kernel
theorem dX8_carryOut_158 : decode cX8_carryOut 158 = .ok (.getfield 10, 3) := by decide +kernel
theorem dX8_carryOut_161 : decode cX8_carryOut 161 = .ok (.getfield 77, 3) := by decide +kernel
theorem dX8_carryOut_164 : decode cX8_carryOut 164 = .ok (.iload_n 2, 1) := by decide +kernel
theorem dX8_carryOut_165 : decode cX8_carryOut 165 = .ok (.iload_n 3, 1) := by decide +kernel
theorem dX8_carryOut_166 : decode cX8_carryOut 166 = .ok (.ineg, 1) := by decide +kernel
theorem dX8_carryOut_167 : decode cX8_carryOut 167 = .ok (.invokevirtual 86, 3) := by decide +kernel
theorem dX8_carryOut_170 : decode cX8_carryOut 170 = .ok (.pop, 1) := by decide +kernel
theorem dX8_carryOut_171 : decode cX8_carryOut 171 = .ok (.goto 91, 3) := by decide +kernel
theorem dX8_carryOut_174 : decode cX8_carryOut 174 = .ok (.aload_n 0, 1) := by decide +kernel
theorem dX8_carryOut_175 : decode cX8_carryOut 175 = .ok (.getfield 10, 3) := by decide +kernel
theorem dX8_carryOut_178 : decode cX8_carryOut 178 = .ok (.getfield 77, 3) := by decide +kernel
theorem dX8_carryOut_181 : decode cX8_carryOut 181 = .ok (.iload_n 2, 1) := by decide +kernel
theorem dX8_carryOut_182 : decode cX8_carryOut 182 = .ok (.invokevirtual 92, 3) := by decide +kernel
theorem dX8_carryOut_185 : decode cX8_carryOut 185 = .ok (.pop, 1) := by decide +kernel
theorem dX8_carryOut_186 : decode cX8_carryOut 186 = .ok (.goto 76, 3) := by decide +kernel
theorem dX8_carryOut_189 : decode cX8_carryOut 189 = .ok (.aload_n 0, 1) := by decide +kernel
theorem dX8_carryOut_190 : decode cX8_carryOut 190 = .ok (.getfield 10, 3) := by decide +kernel
theorem dX8_carryOut_193 : decode cX8_carryOut 193 = .ok (.getfield 77, 3) := by decide +kernel
theorem dX8_carryOut_196 : decode cX8_carryOut 196 = .ok (.iload_n 2, 1) := by decide +kernel
theorem dX8_carryOut_197 : decode cX8_carryOut 197 = .ok (.invokevirtual 98, 3) := by decide +kernel
theorem dX8_carryOut_200 : decode cX8_carryOut 200 = .ok (.pop, 1) := by decide +kernel
theorem dX8_carryOut_201 : decode cX8_carryOut 201 = .ok (.goto 61, 3) := by decide +kernel
theorem dX8_carryOut_204 : decode cX8_carryOut 204 = .ok (.aload_n 0, 1) := by decide +kernel
theorem dX8_carryOut_205 : decode cX8_carryOut 205 = .ok (.getfield 10, 3) := by decide +kernel
theorem dX8_carryOut_208 : decode cX8_carryOut 208 = .ok (.getfield 77, 3) := by decide +kernel
theorem dX8_carryOut_211 : decode cX8_carryOut 211 = .ok (.iload_n 2, 1) := by decide +kernel
theorem dX8_carryOut_212 : decode cX8_carryOut 212 = .ok (.ineg, 1) := by decide +kernel
theorem dX8_carryOut_213 : decode cX8_carryOut 213 = .ok (.invokevirtual 98, 3) := by decide +kernel
theorem dX8_carryOut_216 : decode cX8_carryOut 216 = .ok (.pop, 1) := by decide +kernel
theorem dX8_carryOut_217 : decode cX8_carryOut 217 = .ok (.goto 45, 3) := by decide +kernel
theorem dX8_carryOut_220 : decode cX8_carryOut 220 = .ok (.aload_n 0, 1) := by decide +kernel
theorem dX8_carryOut_221 : decode cX8_carryOut 221 = .ok (.getfield 10, 3) := by decide +kernel
theorem dX8_carryOut_224 : decode cX8_carryOut 224 = .ok (.getfield 77, 3) := by decide +kernel
theorem dX8_carryOut_227 : decode cX8_carryOut 227 = .ok (.invokevirtual 101, 3) := by decide +kernel
theorem dX8_carryOut_230 : decode cX8_carryOut 230 = .ok (.pop, 1) := by decide +kernel
theorem dX8_carryOut_231 : decode cX8_carryOut 231 = .ok (.goto 31, 3) := by decide +kernel
theorem dX8_carryOut_234 : decode cX8_carryOut 234 = .ok (.aload_n 0, 1) := by decide +kernel
theorem dX8_carryOut_235 : decode cX8_carryOut 235 = .ok (.getfield 10, 3) := by decide +kernel
theorem dX8_carryOut_238 : decode cX8_carryOut 238 = .ok (.getfield 77, 3) := by decide +kernel
theorem dX8_carryOut_241 : decode cX8_carryOut 241 = .ok (.iload_n 2, 1) := by decide +kernel
theorem dX8_carryOut_242 : decode cX8_carryOut 242 = .ok (.iload_n 3, 1) := by decide +kernel
theorem dX8_carryOut_243 : decode cX8_carryOut 243 = .ok (.invokevirtual 108, 3) := by decide +kernel
theorem dX8_carryOut_246 : decode cX8_carryOut 246 = .ok (.pop, 1) := by decide +kernel
theorem dX8_carryOut_247 : decode cX8_carryOut 247 = .ok (.goto 15, 3) := by decide +kernel
theorem dX8_carryOut_250 : decode cX8_carryOut 250 = .ok (.aload_n 0, 1) := by decide +kernel
theorem dX8_carryOut_251 : decode cX8_carryOut 251 = .ok (.getfield 10, 3) := by decide +kernel
theorem dX8_carryOut_254 : decode cX8_carryOut 254 = .ok (.iload_n 2, 1) := by decide +kernel
theorem dX8_carryOut_255 : decode cX8_carryOut 255 = .ok (.invokevirtual 114, 3) := by decide +kernel
theorem dX8_carryOut_258 : decode cX8_carryOut 258 = .ok (.pop, 1) := by decide +kernel
theorem dX8_carryOut_259 : decode cX8_carryOut 259 = .ok (.goto 3, 3) := by decide +kernel
theorem dX8_carryOut_262 : decode cX8_carryOut 262 = .ok (.return_, 1) := by decide +kernel
theorem dX8_within_0 : decode cX8_within 0 = .ok (.iload_n 0, 1) := by decide +kernel
theorem dX8_within_1 : decode cX8_within 1 = .ok (.iload_n 1, 1) := by decide +kernel
theorem dX8_within_2 : decode cX8_within 2 = .ok (.if_icmp .lt 12, 3) := by decide +kernel
theorem dX8_within_5 : decode cX8_within 5 = .ok (.iload_n 0, 1) := by decide +kernel
theorem dX8_within_6 : decode cX8_within 6 = .ok (.iload_n 2, 1) := by decide +kernel
theorem dX8_within_7 : decode cX8_within 7 = .ok (.if_icmp .gt 7, 3) := by decide +kernel
theorem dX8_within_10 : decode cX8_within 10 = .ok (.iconst 1, 1) := by decide +kernel
theorem dX8_within_11 : decode cX8_within 11 = .ok (.goto 4, 3) := by decide +kernel
theorem dX8_within_14 : decode cX8_within 14 = .ok (.iconst 0, 1) := by decide +kernel
theorem dX8_within_15 : decode cX8_within 15 = .ok (.ireturn, 1) := by decide +kernel
set_option maxRecDepth 20000 in
theorem ggX8_isWarmth_X8_within : GoodIn wsX8_isWarmth wsX8_within := goodIn_r _ [4] (by decide +kernel) (by decide +kernel)
set_option maxRecDepth 20000 in
theorem gX8_isWarmth_X8_within : GoodIn wsX8_isWarmth (va_wsS RX8 117 yX8_within wsX8_within) := goodIn_app (goodIn_of _ (by decide +kernel)) ggX8_isWarmth_X8_within
theorem dX8_isWarmth_0 : decode cX8_isWarmth 0 = .ok (.iload_n 0, 1) := by decide +kernel
theorem dX8_isWarmth_1 : decode cX8_isWarmth 1 = .ok (.sipush (-300), 3) := by decide +kernel
theorem dX8_isWarmth_4 : decode cX8_isWarmth 4 = .ok (.sipush 600, 3) := by decide +kernel
theorem dX8_isWarmth_7 : decode cX8_isWarmth 7 = .ok (.invokestatic 117, 3) := by decide +kernel
theorem dX8_isWarmth_10 : decode cX8_isWarmth 10 = .ok (.ireturn, 1) := by decide +kernel
theorem dX8_clamp_0 : decode cX8_clamp 0 = .ok (.lload_n 2, 1) := by decide +kernel
theorem dX8_clamp_1 : decode cX8_clamp 1 = .ok (.lload 4, 2) := by decide +kernel
theorem dX8_clamp_3 : decode cX8_clamp 3 = .ok (.lload_n 0, 1) := by decide +kernel
theorem dX8_clamp_4 : decode cX8_clamp 4 = .ok (.invokestatic 310, 3) := by decide +kernel
theorem dX8_clamp_7 : decode cX8_clamp 7 = .ok (.invokestatic 315, 3) := by decide +kernel
theorem dX8_clamp_10 : decode cX8_clamp 10 = .ok (.lreturn, 1) := by decide +kernel
set_option maxRecDepth 20000 in
theorem ggX8_floorOf_J9_floorDiv_f86c9 : GoodIn wsX8_floorOf wsJ9_floorDiv_f86c9 := goodIn_r _ [4] (by decide +kernel) (by decide +kernel)
set_option maxRecDepth 20000 in
theorem gX8_floorOf_J9_floorDiv_f86c9 : GoodIn wsX8_floorOf (va_wsS RX8 318 yJ9_floorDiv_f86c9 wsJ9_floorDiv_f86c9) := goodIn_app (goodIn_of _ (by decide +kernel)) ggX8_floorOf_J9_floorDiv_f86c9
theorem dX8_floorOf_0 : decode cX8_floorOf 0 = .ok (.lload_n 2, 1) := by decide +kernel
theorem dX8_floorOf_1 : decode cX8_floorOf 1 = .ok (.lconst 0, 1) := by decide +kernel
theorem dX8_floorOf_2 : decode cX8_floorOf 2 = .ok (.lcmp, 1) := by decide +kernel
theorem dX8_floorOf_3 : decode cX8_floorOf 3 = .ok (.ifCond .ne 7, 3) := by decide +kernel
theorem dX8_floorOf_6 : decode cX8_floorOf 6 = .ok (.lconst 0, 1) := by decide +kernel
theorem dX8_floorOf_7 : decode cX8_floorOf 7 = .ok (.goto 8, 3) := by decide +kernel
theorem dX8_floorOf_10 : decode cX8_floorOf 10 = .ok (.lload_n 0, 1) := by decide +kernel
theorem dX8_floorOf_11 : decode cX8_floorOf 11 = .ok (.lload_n 2, 1) := by decide +kernel
theorem dX8_floorOf_12 : decode cX8_floorOf 12 = .ok (.invokestatic 318, 3) := by decide +kernel
theorem dX8_floorOf_15 : decode cX8_floorOf 15 = .ok (.lreturn, 1) := by decide +kernel
theorem dX8_bitsOf_0 : decode cX8_bitsOf 0 = .ok (.fload_n 0, 1) := by decide +kernel
theorem dX8_bitsOf_1 : decode cX8_bitsOf 1 = .ok (.fconst 0, 1) := by decide +kernel
theorem dX8_bitsOf_2 : decode cX8_bitsOf 2 = .ok (.fcmp .l, 1) := by decide +kernel
theorem dX8_bitsOf_3 : decode cX8_bitsOf 3 = .ok (.ifCond .ne 5, 3) := by decide +kernel
theorem dX8_bitsOf_6 : decode cX8_bitsOf 6 = .ok (.iconst 0, 1) := by decide +kernel
theorem dX8_bitsOf_7 : decode cX8_bitsOf 7 = .ok (.ireturn, 1) := by decide +kernel
theorem dX8_bitsOf_8 : decode cX8_bitsOf 8 = .ok (.fload_n 0, 1) := by decide +kernel
theorem dX8_bitsOf_9 : decode cX8_bitsOf 9 = .ok (.fconst 0, 1) := by decide +kernel
theorem dX8_bitsOf_10 : decode cX8_bitsOf 10 = .ok (.fcmp .g, 1) := by decide +kernel
theorem dX8_bitsOf_11 : decode cX8_bitsOf 11 = .ok (.ifCond .ge 9, 3) := by decide +kernel
theorem dX8_bitsOf_14 : decode cX8_bitsOf 14 = .ok (.ldc_w 321, 3) := by decide +kernel
theorem dX8_bitsOf_17 : decode cX8_bitsOf 17 = .ok (.goto 4, 3) := by decide +kernel
theorem dX8_bitsOf_20 : decode cX8_bitsOf 20 = .ok (.iconst 0, 1) := by decide +kernel
theorem dX8_bitsOf_21 : decode cX8_bitsOf 21 = .ok (.istore_n 1, 1) := by decide +kernel
theorem dX8_bitsOf_22 : decode cX8_bitsOf 22 = .ok (.fload_n 0, 1) := by decide +kernel
theorem dX8_bitsOf_23 : decode cX8_bitsOf 23 = .ok (.fconst 0, 1) := by decide +kernel
theorem dX8_bitsOf_24 : decode cX8_bitsOf 24 = .ok (.fcmp .g, 1) := by decide +kernel
theorem dX8_bitsOf_25 : decode cX8_bitsOf 25 = .ok (.ifCond .ge 8, 3) := by decide +kernel
theorem dX8_bitsOf_28 : decode cX8_bitsOf 28 = .ok (.fload_n 0, 1) := by decide +kernel
theorem dX8_bitsOf_29 : decode cX8_bitsOf 29 = .ok (.fneg, 1) := by decide +kernel
theorem dX8_bitsOf_30 : decode cX8_bitsOf 30 = .ok (.goto 4, 3) := by decide +kernel
theorem dX8_bitsOf_33 : decode cX8_bitsOf 33 = .ok (.fload_n 0, 1) := by decide +kernel
theorem dX8_bitsOf_34 : decode cX8_bitsOf 34 = .ok (.fstore_n 2, 1) := by decide +kernel
theorem dX8_bitsOf_35 : decode cX8_bitsOf 35 = .ok (.bipush 127, 2) := by decide +kernel
theorem dX8_bitsOf_37 : decode cX8_bitsOf 37 = .ok (.istore_n 3, 1) := by decide +kernel
theorem dX8_bitsOf_38 : decode cX8_bitsOf 38 = .ok (.iload_n 3, 1) := by decide +kernel
theorem dX8_bitsOf_39 : decode cX8_bitsOf 39 = .ok (.sipush 254, 3) := by decide +kernel
theorem dX8_bitsOf_42 : decode cX8_bitsOf 42 = .ok (.if_icmp .ge 19, 3) := by decide +kernel
theorem dX8_bitsOf_45 : decode cX8_bitsOf 45 = .ok (.fload_n 2, 1) := by decide +kernel
theorem dX8_bitsOf_46 : decode cX8_bitsOf 46 = .ok (.fconst 2, 1) := by decide +kernel
theorem dX8_bitsOf_47 : decode cX8_bitsOf 47 = .ok (.fcmp .l, 1) := by decide +kernel
theorem dX8_bitsOf_48 : decode cX8_bitsOf 48 = .ok (.ifCond .lt 13, 3) := by decide +kernel
theorem dX8_bitsOf_51 : decode cX8_bitsOf 51 = .ok (.fload_n 2, 1) := by decide +kernel
theorem dX8_bitsOf_52 : decode cX8_bitsOf 52 = .ok (.fconst 2, 1) := by decide +kernel
theorem dX8_bitsOf_53 : decode cX8_bitsOf 53 = .ok (.fdiv, 1) := by decide +kernel
theorem dX8_bitsOf_54 : decode cX8_bitsOf 54 = .ok (.fstore_n 2, 1) := by decide +kernel
theorem dX8_bitsOf_55 : decode cX8_bitsOf 55 = .ok (.iinc 3 1, 3) := by decide +kernel
theorem dX8_bitsOf_58 : decode cX8_bitsOf 58 = .ok (.goto (-20), 3) := by decide +kernel
theorem dX8_bitsOf_61 : decode cX8_bitsOf 61 = .ok (.iload_n 3, 1) := by decide +kernel
theorem dX8_bitsOf_62 : decode cX8_bitsOf 62 = .ok (.iconst 1, 1) := by decide +kernel
theorem dX8_bitsOf_63 : decode cX8_bitsOf 63 = .ok (.if_icmp .le 19, 3) := by decide +kernel
theorem dX8_bitsOf_66 : decode cX8_bitsOf 66 = .ok (.fload_n 2, 1) := by decide +kernel
theorem dX8_bitsOf_67 : decode cX8_bitsOf 67 = .ok (.fconst 1, 1) := by decide +kernel
theorem dX8_bitsOf_68 : decode cX8_bitsOf 68 = .ok (.fcmp .g, 1) := by decide +kernel
theorem dX8_bitsOf_69 : decode cX8_bitsOf 69 = .ok (.ifCond .ge 13, 3) := by decide +kernel
theorem dX8_bitsOf_72 : decode cX8_bitsOf 72 = .ok (.fload_n 2, 1) := by decide +kernel
theorem dX8_bitsOf_73 : decode cX8_bitsOf 73 = .ok (.fconst 2, 1) := by decide +kernel
theorem dX8_bitsOf_74 : decode cX8_bitsOf 74 = .ok (.fmul, 1) := by decide +kernel
theorem dX8_bitsOf_75 : decode cX8_bitsOf 75 = .ok (.fstore_n 2, 1) := by decide +kernel
theorem dX8_bitsOf_76 : decode cX8_bitsOf 76 = .ok (.iinc 3 (-1), 3) := by decide +kernel
theorem dX8_bitsOf_79 : decode cX8_bitsOf 79 = .ok (.goto (-18), 3) := by decide +kernel
theorem dX8_bitsOf_82 : decode cX8_bitsOf 82 = .ok (.fload_n 2, 1) := by decide +kernel
theorem dX8_bitsOf_83 : decode cX8_bitsOf 83 = .ok (.ldc_w 322, 3) := by decide +kernel
theorem dX8_bitsOf_86 : decode cX8_bitsOf 86 = .ok (.fmul, 1) := by decide +kernel
theorem dX8_bitsOf_87 : decode cX8_bitsOf 87 = .ok (.f2i, 1) := by decide +kernel
theorem dX8_bitsOf_88 : decode cX8_bitsOf 88 = .ok (.ldc_w 323, 3) := by decide +kernel
theorem dX8_bitsOf_91 : decode cX8_bitsOf 91 = .ok (.isub, 1) := by decide +kernel
theorem dX8_bitsOf_92 : decode cX8_bitsOf 92 = .ok (.istore 4, 2) := by decide +kernel
theorem dX8_bitsOf_94 : decode cX8_bitsOf 94 = .ok (.iload_n 1, 1) := by decide +kernel
theorem dX8_bitsOf_95 : decode cX8_bitsOf 95 = .ok (.iload_n 3, 1) := by decide +kernel
theorem dX8_bitsOf_96 : decode cX8_bitsOf 96 = .ok (.bipush 23, 2) := by decide +kernel
theorem dX8_bitsOf_98 : decode cX8_bitsOf 98 = .ok (.ishl, 1) := by decide +kernel
theorem dX8_bitsOf_99 : decode cX8_bitsOf 99 = .ok (.ior, 1) := by decide +kernel
theorem dX8_bitsOf_100 : decode cX8_bitsOf 100 = .ok (.iload 4, 2) := by decide +kernel
theorem dX8_bitsOf_102 : decode cX8_bitsOf 102 = .ok (.ior, 1) := by decide +kernel
theorem dX8_bitsOf_103 : decode cX8_bitsOf 103 = .ok (.ireturn, 1) := by decide +kernel
theorem dJx29ce0_ordinal_8abf5_0 : decode cJx29ce0_ordinal_8abf5 0 = .ok (.aload_n 0, 1) := by decide +kernel
theorem dJx29ce0_ordinal_8abf5_1 : decode cJx29ce0_ordinal_8abf5 1 = .ok (.getfield 7, 3) := by decide +kernel
theorem dJx29ce0_ordinal_8abf5_4 : decode cJx29ce0_ordinal_8abf5 4 = .ok (.ireturn, 1) := by decide +kernel
theorem dJ9_floorDiv_f86c9_0 : decode cJ9_floorDiv_f86c9 0 = .ok (.lload_n 0, 1) := by decide +kernel
theorem dJ9_floorDiv_f86c9_1 : decode cJ9_floorDiv_f86c9 1 = .ok (.lload_n 2, 1) := by decide +kernel
theorem dJ9_floorDiv_f86c9_2 : decode cJ9_floorDiv_f86c9 2 = .ok (.ldiv, 1) := by decide +kernel
theorem dJ9_floorDiv_f86c9_3 : decode cJ9_floorDiv_f86c9 3 = .ok (.lstore 4, 2) := by decide +kernel
theorem dJ9_floorDiv_f86c9_5 : decode cJ9_floorDiv_f86c9 5 = .ok (.lload_n 0, 1) := by decide +kernel
theorem dJ9_floorDiv_f86c9_6 : decode cJ9_floorDiv_f86c9 6 = .ok (.lload_n 2, 1) := by decide +kernel
theorem dJ9_floorDiv_f86c9_7 : decode cJ9_floorDiv_f86c9 7 = .ok (.lxor, 1) := by decide +kernel
theorem dJ9_floorDiv_f86c9_8 : decode cJ9_floorDiv_f86c9 8 = .ok (.lconst 0, 1) := by decide +kernel
theorem dJ9_floorDiv_f86c9_9 : decode cJ9_floorDiv_f86c9 9 = .ok (.lcmp, 1) := by decide +kernel
theorem dJ9_floorDiv_f86c9_10 : decode cJ9_floorDiv_f86c9 10 = .ok (.ifCond .ge 17, 3) := by decide +kernel
theorem dJ9_floorDiv_f86c9_13 : decode cJ9_floorDiv_f86c9 13 = .ok (.lload 4, 2) := by decide +kernel
theorem dJ9_floorDiv_f86c9_15 : decode cJ9_floorDiv_f86c9 15 = .ok (.lload_n 2, 1) := by decide +kernel
theorem dJ9_floorDiv_f86c9_16 : decode cJ9_floorDiv_f86c9 16 = .ok (.lmul, 1) := by decide +kernel
theorem dJ9_floorDiv_f86c9_17 : decode cJ9_floorDiv_f86c9 17 = .ok (.lload_n 0, 1) := by decide +kernel
theorem dJ9_floorDiv_f86c9_18 : decode cJ9_floorDiv_f86c9 18 = .ok (.lcmp, 1) := by decide +kernel
theorem dJ9_floorDiv_f86c9_19 : decode cJ9_floorDiv_f86c9 19 = .ok (.ifCond .eq 8, 3) := by decide +kernel
theorem dJ9_floorDiv_f86c9_22 : decode cJ9_floorDiv_f86c9 22 = .ok (.lload 4, 2) := by decide +kernel
theorem dJ9_floorDiv_f86c9_24 : decode cJ9_floorDiv_f86c9 24 = .ok (.lconst 1, 1) := by decide +kernel
theorem dJ9_floorDiv_f86c9_25 : decode cJ9_floorDiv_f86c9 25 = .ok (.lsub, 1) := by decide +kernel
theorem dJ9_floorDiv_f86c9_26 : decode cJ9_floorDiv_f86c9 26 = .ok (.lreturn, 1) := by decide +kernel
theorem dJ9_floorDiv_f86c9_27 : decode cJ9_floorDiv_f86c9 27 = .ok (.lload 4, 2) := by decide +kernel
theorem dJ9_floorDiv_f86c9_29 : decode cJ9_floorDiv_f86c9 29 = .ok (.lreturn, 1) := by decide +kernel
theorem dJ9_abs_067f4_0 : decode cJ9_abs_067f4 0 = .ok (.lload_n 0, 1) := by decide +kernel
theorem dJ9_abs_067f4_1 : decode cJ9_abs_067f4 1 = .ok (.lconst 0, 1) := by decide +kernel
theorem dJ9_abs_067f4_2 : decode cJ9_abs_067f4 2 = .ok (.lcmp, 1) := by decide +kernel
theorem dJ9_abs_067f4_3 : decode cJ9_abs_067f4 3 = .ok (.ifCond .ge 8, 3) := by decide +kernel
theorem dJ9_abs_067f4_6 : decode cJ9_abs_067f4 6 = .ok (.lload_n 0, 1) := by decide +kernel
theorem dJ9_abs_067f4_7 : decode cJ9_abs_067f4 7 = .ok (.lneg, 1) := by decide +kernel
theorem dJ9_abs_067f4_8 : decode cJ9_abs_067f4 8 = .ok (.goto 4, 3) := by decide +kernel
theorem dJ9_abs_067f4_11 : decode cJ9_abs_067f4 11 = .ok (.lload_n 0, 1) := by decide +kernel
theorem dJ9_abs_067f4_12 : decode cJ9_abs_067f4 12 = .ok (.lreturn, 1) := by decide +kernel
theorem dJ9_max_7cf53_0 : decode cJ9_max_7cf53 0 = .ok (.iload_n 0, 1) := by decide +kernel
theorem dJ9_max_7cf53_1 : decode cJ9_max_7cf53 1 = .ok (.iload_n 1, 1) := by decide +kernel
theorem dJ9_max_7cf53_2 : decode cJ9_max_7cf53 2 = .ok (.if_icmp .lt 7, 3) := by decide +kernel
theorem dJ9_max_7cf53_5 : decode cJ9_max_7cf53 5 = .ok (.iload_n 0, 1) := by decide +kernel
theorem dJ9_max_7cf53_6 : decode cJ9_max_7cf53 6 = .ok (.goto 4, 3) := by decide +kernel
theorem dJ9_max_7cf53_9 : decode cJ9_max_7cf53 9 = .ok (.iload_n 1, 1) := by decide +kernel
theorem dJ9_max_7cf53_10 : decode cJ9_max_7cf53 10 = .ok (.ireturn, 1) := by decide +kernel
theorem dJ9_max_f86c9_0 : decode cJ9_max_f86c9 0 = .ok (.lload_n 0, 1) := by decide +kernel
theorem dJ9_max_f86c9_1 : decode cJ9_max_f86c9 1 = .ok (.lload_n 2, 1) := by decide +kernel
theorem dJ9_max_f86c9_2 : decode cJ9_max_f86c9 2 = .ok (.lcmp, 1) := by decide +kernel
theorem dJ9_max_f86c9_3 : decode cJ9_max_f86c9 3 = .ok (.ifCond .lt 7, 3) := by decide +kernel
theorem dJ9_max_f86c9_6 : decode cJ9_max_f86c9 6 = .ok (.lload_n 0, 1) := by decide +kernel
theorem dJ9_max_f86c9_7 : decode cJ9_max_f86c9 7 = .ok (.goto 4, 3) := by decide +kernel
theorem dJ9_max_f86c9_10 : decode cJ9_max_f86c9 10 = .ok (.lload_n 2, 1) := by decide +kernel
theorem dJ9_max_f86c9_11 : decode cJ9_max_f86c9 11 = .ok (.lreturn, 1) := by decide +kernel
theorem dJ9_min_7cf53_0 : decode cJ9_min_7cf53 0 = .ok (.iload_n 0, 1) := by decide +kernel
theorem dJ9_min_7cf53_1 : decode cJ9_min_7cf53 1 = .ok (.iload_n 1, 1) := by decide +kernel
theorem dJ9_min_7cf53_2 : decode cJ9_min_7cf53 2 = .ok (.if_icmp .gt 7, 3) := by decide +kernel
theorem dJ9_min_7cf53_5 : decode cJ9_min_7cf53 5 = .ok (.iload_n 0, 1) := by decide +kernel
theorem dJ9_min_7cf53_6 : decode cJ9_min_7cf53 6 = .ok (.goto 4, 3) := by decide +kernel
theorem dJ9_min_7cf53_9 : decode cJ9_min_7cf53 9 = .ok (.iload_n 1, 1) := by decide +kernel
theorem dJ9_min_7cf53_10 : decode cJ9_min_7cf53 10 = .ok (.ireturn, 1) := by decide +kernel
theorem dJ9_min_f86c9_0 : decode cJ9_min_f86c9 0 = .ok (.lload_n 0, 1) := by decide +kernel
theorem dJ9_min_f86c9_1 : decode cJ9_min_f86c9 1 = .ok (.lload_n 2, 1) := by decide +kernel
theorem dJ9_min_f86c9_2 : decode cJ9_min_f86c9 2 = .ok (.lcmp, 1) := by decide +kernel
theorem dJ9_min_f86c9_3 : decode cJ9_min_f86c9 3 = .ok (.ifCond .gt 7, 3) := by decide +kernel
theorem dJ9_min_f86c9_6 : decode cJ9_min_f86c9 6 = .ok (.lload_n 0, 1) := by decide +kernel
theorem dJ9_min_f86c9_7 : decode cJ9_min_f86c9 7 = .ok (.goto 4, 3) := by decide +kernel
theorem dJ9_min_f86c9_10 : decode cJ9_min_f86c9 10 = .ok (.lload_n 2, 1) := by decide +kernel
theorem dJ9_min_f86c9_11 : decode cJ9_min_f86c9 11 = .ok (.lreturn, 1) := by decide +kernel
set_option maxRecDepth 20000 in
theorem ggJ0_length_8abf5_J0_coder_7d493 : GoodIn wsJ0_length_8abf5 wsJ0_coder_7d493 := goodIn_r _ [6, 7, 8] (by decide +kernel) (by decide +kernel)
set_option maxRecDepth 20000 in
theorem gJ0_length_8abf5_J0_coder_7d493 : GoodIn wsJ0_length_8abf5 (wsV RJ0 335 RJ0 yJ0_coder_7d493 wsJ0_coder_7d493) := goodIn_app (goodIn_of _ (by decide +kernel)) ggJ0_length_8abf5_J0_coder_7d493
theorem dJ0_length_8abf5_0 : decode cJ0_length_8abf5 0 = .ok (.aload_n 0, 1) := by decide +kernel
theorem dJ0_length_8abf5_1 : decode cJ0_length_8abf5 1 = .ok (.getfield 9, 3) := by decide +kernel
theorem dJ0_length_8abf5_4 : decode cJ0_length_8abf5 4 = .ok (.arraylength, 1) := by decide +kernel
theorem dJ0_length_8abf5_5 : decode cJ0_length_8abf5 5 = .ok (.aload_n 0, 1) := by decide +kernel
theorem dJ0_length_8abf5_6 : decode cJ0_length_8abf5 6 = .ok (.invokevirtual 335, 3) := by decide +kernel
theorem dJ0_length_8abf5_9 : decode cJ0_length_8abf5 9 = .ok (.ishr, 1) := by decide +kernel
theorem dJ0_length_8abf5_10 : decode cJ0_length_8abf5 10 = .ok (.ireturn, 1) := by decide +kernel
set_option maxRecDepth 20000 in
theorem ggJ0_charAt_5068e_J0_isLatin1_aae02 : GoodIn wsJ0_charAt_5068e wsJ0_isLatin1_aae02 := goodIn_r _ [6, 7, 8] (by decide +kernel) (by decide +kernel)
set_option maxRecDepth 20000 in
theorem gJ0_charAt_5068e_J0_isLatin1_aae02 : GoodIn wsJ0_charAt_5068e (wsV RJ0 492 RJ0 yJ0_isLatin1_aae02 wsJ0_isLatin1_aae02) := goodIn_app (goodIn_of _ (by decide +kernel)) ggJ0_charAt_5068e_J0_isLatin1_aae02
set_option maxRecDepth 20000 in
theorem ggJ0_charAt_5068e_J1_charAt_3b067 : GoodIn wsJ0_charAt_5068e wsJ1_charAt_3b067 := goodIn_r _ [12, 13, 14, 5, 15, 16, 17, 18, 19, 20] (by decide +kernel) (by decide +kernel)
set_option maxRecDepth 20000 in
theorem gJ0_charAt_5068e_J1_charAt_3b067 : GoodIn wsJ0_charAt_5068e (va_wsS RJ0 495 yJ1_charAt_3b067 wsJ1_charAt_3b067) := goodIn_app (goodIn_of _ (by decide +kernel)) ggJ0_charAt_5068e_J1_charAt_3b067
set_option maxRecDepth 20000 in
theorem ggJ0_charAt_5068e_J2_charAt_3b067 : GoodIn wsJ0_charAt_5068e wsJ2_charAt_3b067 := goodIn_r _ [24, 25, 26, 23, 27, 28, 29, 30, 31, 14, 5, 15, 16, 17, 18, 19, 20, 32, 33, 34, 35, 36, 37] (by decide +kernel) (by decide +kernel)
set_option maxRecDepth 20000 in
theorem gJ0_charAt_5068e_J2_charAt_3b067 : GoodIn wsJ0_charAt_5068e (va_wsS RJ0 498 yJ2_charAt_3b067 wsJ2_charAt_3b067) := goodIn_app (goodIn_of _ (by decide +kernel)) ggJ0_charAt_5068e_J2_charAt_3b067
theorem dJ0_charAt_5068e_0 : decode cJ0_charAt_5068e 0 = .ok (.aload_n 0, 1) := by decide +kernel
theorem dJ0_charAt_5068e_1 : decode cJ0_charAt_5068e 1 = .ok (.invokevirtual 492, 3) := by decide +kernel
theorem dJ0_charAt_5068e_4 : decode cJ0_charAt_5068e 4 = .ok (.ifCond .eq 12, 3) := by decide +kernel
theorem dJ0_charAt_5068e_7 : decode cJ0_charAt_5068e 7 = .ok (.aload_n 0, 1) := by decide +kernel
theorem dJ0_charAt_5068e_8 : decode cJ0_charAt_5068e 8 = .ok (.getfield 9, 3) := by decide +kernel
theorem dJ0_charAt_5068e_11 : decode cJ0_charAt_5068e 11 = .ok (.iload_n 1, 1) := by decide +kernel
theorem dJ0_charAt_5068e_12 : decode cJ0_charAt_5068e 12 = .ok (.invokestatic 495, 3) := by decide +kernel
theorem dJ0_charAt_5068e_15 : decode cJ0_charAt_5068e 15 = .ok (.ireturn, 1) := by decide +kernel
theorem dJ0_charAt_5068e_16 : decode cJ0_charAt_5068e 16 = .ok (.aload_n 0, 1) := by decide +kernel
theorem dJ0_charAt_5068e_17 : decode cJ0_charAt_5068e 17 = .ok (.getfield 9, 3) := by decide +kernel
theorem dJ0_charAt_5068e_20 : decode cJ0_charAt_5068e 20 = .ok (.iload_n 1, 1) := by decide +kernel
theorem dJ0_charAt_5068e_21 : decode cJ0_charAt_5068e 21 = .ok (.invokestatic 498, 3) := by decide +kernel
theorem dJ0_charAt_5068e_24 : decode cJ0_charAt_5068e 24 = .ok (.ireturn, 1) := by decide +kernel
theorem dJ0_coder_7d493_0 : decode cJ0_coder_7d493 0 = .ok (.getstatic 38, 3) := by decide +kernel
theorem dJ0_coder_7d493_3 : decode cJ0_coder_7d493 3 = .ok (.ifCond .eq 10, 3) := by decide +kernel
theorem dJ0_coder_7d493_6 : decode cJ0_coder_7d493 6 = .ok (.aload_n 0, 1) := by decide +kernel
theorem dJ0_coder_7d493_7 : decode cJ0_coder_7d493 7 = .ok (.getfield 15, 3) := by decide +kernel
theorem dJ0_coder_7d493_10 : decode cJ0_coder_7d493 10 = .ok (.goto 4, 3) := by decide +kernel
theorem dJ0_coder_7d493_13 : decode cJ0_coder_7d493 13 = .ok (.iconst 1, 1) := by decide +kernel
theorem dJ0_coder_7d493_14 : decode cJ0_coder_7d493 14 = .ok (.ireturn, 1) := by decide +kernel
theorem dJ0_isLatin1_aae02_0 : decode cJ0_isLatin1_aae02 0 = .ok (.getstatic 38, 3) := by decide +kernel
theorem dJ0_isLatin1_aae02_3 : decode cJ0_isLatin1_aae02 3 = .ok (.ifCond .eq 14, 3) := by decide +kernel
theorem dJ0_isLatin1_aae02_6 : decode cJ0_isLatin1_aae02 6 = .ok (.aload_n 0, 1) := by decide +kernel
theorem dJ0_isLatin1_aae02_7 : decode cJ0_isLatin1_aae02 7 = .ok (.getfield 15, 3) := by decide +kernel
theorem dJ0_isLatin1_aae02_10 : decode cJ0_isLatin1_aae02 10 = .ok (.ifCond .ne 7, 3) := by decide +kernel
theorem dJ0_isLatin1_aae02_13 : decode cJ0_isLatin1_aae02 13 = .ok (.iconst 1, 1) := by decide +kernel
theorem dJ0_isLatin1_aae02_14 : decode cJ0_isLatin1_aae02 14 = .ok (.goto 4, 3) := by decide +kernel
theorem dJ0_isLatin1_aae02_17 : decode cJ0_isLatin1_aae02 17 = .ok (.iconst 0, 1) := by decide +kernel
theorem dJ0_isLatin1_aae02_18 : decode cJ0_isLatin1_aae02 18 = .ok (.ireturn, 1) := by decide +kernel
set_option maxRecDepth 20000 in
theorem ggJ0_checkIndex_df160_J3_checkIndex_8e157 : GoodIn wsJ0_checkIndex_df160 wsJ3_checkIndex_8e157 := goodIn_r _ [5] (by decide +kernel) (by decide +kernel)
set_option maxRecDepth 20000 in
theorem gJ0_checkIndex_df160_J3_checkIndex_8e157 : GoodIn wsJ0_checkIndex_df160 (va_wsS RJ0 1059 yJ3_checkIndex_8e157 wsJ3_checkIndex_8e157) := goodIn_app (goodIn_of _ (by decide +kernel)) ggJ0_checkIndex_df160_J3_checkIndex_8e157
theorem dJ0_checkIndex_df160_0 : decode cJ0_checkIndex_df160 0 = .ok (.iload_n 0, 1) := by decide +kernel
theorem dJ0_checkIndex_df160_1 : decode cJ0_checkIndex_df160 1 = .ok (.iload_n 1, 1) := by decide +kernel
theorem dJ0_checkIndex_df160_2 : decode cJ0_checkIndex_df160 2 = .ok (.getstatic 1053, 3) := by decide +kernel
theorem dJ0_checkIndex_df160_5 : decode cJ0_checkIndex_df160 5 = .ok (.invokestatic 1059, 3) := by decide +kernel
theorem dJ0_checkIndex_df160_8 : decode cJ0_checkIndex_df160 8 = .ok (.pop, 1) := by decide +kernel
theorem dJ0_checkIndex_df160_9 : decode cJ0_checkIndex_df160 9 = .ok (.return_, 1) := by decide +kernel
set_option maxRecDepth 20000 in
theorem ggJ1_charAt_3b067_J0_checkIndex_df160 : GoodIn wsJ1_charAt_3b067 wsJ0_checkIndex_df160 := goodIn_r _ [4, 5, 6, 7, 8, 9] (by decide +kernel) (by decide +kernel)
set_option maxRecDepth 20000 in
theorem gJ1_charAt_3b067_J0_checkIndex_df160 : GoodIn wsJ1_charAt_3b067 (va_wsS RJ1 9 yJ0_checkIndex_df160 wsJ0_checkIndex_df160) := goodIn_app (goodIn_of _ (by decide +kernel)) ggJ1_charAt_3b067_J0_checkIndex_df160
theorem dJ1_charAt_3b067_0 : decode cJ1_charAt_3b067 0 = .ok (.iload_n 1, 1) := by decide +kernel
theorem dJ1_charAt_3b067_1 : decode cJ1_charAt_3b067 1 = .ok (.aload_n 0, 1) := by decide +kernel
theorem dJ1_charAt_3b067_2 : decode cJ1_charAt_3b067 2 = .ok (.arraylength, 1) := by decide +kernel
theorem dJ1_charAt_3b067_3 : decode cJ1_charAt_3b067 3 = .ok (.invokestatic 9, 3) := by decide +kernel
theorem dJ1_charAt_3b067_6 : decode cJ1_charAt_3b067 6 = .ok (.aload_n 0, 1) := by decide +kernel
theorem dJ1_charAt_3b067_7 : decode cJ1_charAt_3b067 7 = .ok (.iload_n 1, 1) := by decide +kernel
theorem dJ1_charAt_3b067_8 : decode cJ1_charAt_3b067 8 = .ok (.baload, 1) := by decide +kernel
theorem dJ1_charAt_3b067_9 : decode cJ1_charAt_3b067 9 = .ok (.sipush 255, 3) := by decide +kernel
theorem dJ1_charAt_3b067_12 : decode cJ1_charAt_3b067 12 = .ok (.iand, 1) := by decide +kernel
theorem dJ1_charAt_3b067_13 : decode cJ1_charAt_3b067 13 = .ok (.i2c, 1) := by decide +kernel
theorem dJ1_charAt_3b067_14 : decode cJ1_charAt_3b067 14 = .ok (.ireturn, 1) := by decide +kernel
set_option maxRecDepth 20000 in
theorem ggJ2_getChar_3b067_J2_length_9d52b : GoodIn wsJ2_getChar_3b067 wsJ2_length_9d52b := goodIn_r _ [7] (by decide +kernel) (by decide +kernel)
set_option maxRecDepth 20000 in
theorem gJ2_getChar_3b067_J2_length_9d52b : GoodIn wsJ2_getChar_3b067 (va_wsS RJ2 48 yJ2_length_9d52b wsJ2_length_9d52b) := goodIn_app (goodIn_of _ (by decide +kernel)) ggJ2_getChar_3b067_J2_length_9d52b
theorem dJ2_getChar_3b067_0 : decode cJ2_getChar_3b067 0 = .ok (.getstatic 44, 3) := by decide +kernel
theorem dJ2_getChar_3b067_3 : decode cJ2_getChar_3b067 3 = .ok (.ifCond .ne 25, 3) := by decide +kernel
theorem dJ2_getChar_3b067_6 : decode cJ2_getChar_3b067 6 = .ok (.iload_n 1, 1) := by decide +kernel
theorem dJ2_getChar_3b067_7 : decode cJ2_getChar_3b067 7 = .ok (.ifCond .lt 11, 3) := by decide +kernel
theorem dJ2_getChar_3b067_10 : decode cJ2_getChar_3b067 10 = .ok (.iload_n 1, 1) := by decide +kernel
theorem dJ2_getChar_3b067_11 : decode cJ2_getChar_3b067 11 = .ok (.aload_n 0, 1) := by decide +kernel
theorem dJ2_getChar_3b067_12 : decode cJ2_getChar_3b067 12 = .ok (.invokestatic 48, 3) := by decide +kernel
theorem dJ2_getChar_3b067_15 : decode cJ2_getChar_3b067 15 = .ok (.if_icmp .lt 13, 3) := by decide +kernel
theorem dJ2_getChar_3b067_18 : decode cJ2_getChar_3b067 18 = .ok (.new 52, 3) := by decide +kernel
theorem dJ2_getChar_3b067_21 : decode cJ2_getChar_3b067 21 = .ok (.dup, 1) := by decide +kernel
theorem dJ2_getChar_3b067_22 : decode cJ2_getChar_3b067 22 = .ok (.ldc 54, 2) := by decide +kernel
theorem dJ2_getChar_3b067_24 : decode cJ2_getChar_3b067 24 = .ok (.invokespecial 56, 3) := by decide +kernel
theorem dJ2_getChar_3b067_27 : decode cJ2_getChar_3b067 27 = .ok (.athrow, 1) := by decide +kernel
theorem dJ2_getChar_3b067_28 : decode cJ2_getChar_3b067 28 = .ok (.iload_n 1, 1) := by decide +kernel
theorem dJ2_getChar_3b067_29 : decode cJ2_getChar_3b067 29 = .ok (.iconst 1, 1) := by decide +kernel
theorem dJ2_getChar_3b067_30 : decode cJ2_getChar_3b067 30 = .ok (.ishl, 1) := by decide +kernel
theorem dJ2_getChar_3b067_31 : decode cJ2_getChar_3b067 31 = .ok (.istore_n 1, 1) := by decide +kernel
theorem dJ2_getChar_3b067_32 : decode cJ2_getChar_3b067 32 = .ok (.aload_n 0, 1) := by decide +kernel
theorem dJ2_getChar_3b067_33 : decode cJ2_getChar_3b067 33 = .ok (.iload_n 1, 1) := by decide +kernel
theorem dJ2_getChar_3b067_34 : decode cJ2_getChar_3b067 34 = .ok (.iinc 1 1, 3) := by decide +kernel
theorem dJ2_getChar_3b067_37 : decode cJ2_getChar_3b067 37 = .ok (.baload, 1) := by decide +kernel
theorem dJ2_getChar_3b067_38 : decode cJ2_getChar_3b067 38 = .ok (.sipush 255, 3) := by decide +kernel
theorem dJ2_getChar_3b067_41 : decode cJ2_getChar_3b067 41 = .ok (.iand, 1) := by decide +kernel
theorem dJ2_getChar_3b067_42 : decode cJ2_getChar_3b067 42 = .ok (.getstatic 59, 3) := by decide +kernel
theorem dJ2_getChar_3b067_45 : decode cJ2_getChar_3b067 45 = .ok (.ishl, 1) := by decide +kernel
theorem dJ2_getChar_3b067_46 : decode cJ2_getChar_3b067 46 = .ok (.aload_n 0, 1) := by decide +kernel
theorem dJ2_getChar_3b067_47 : decode cJ2_getChar_3b067 47 = .ok (.iload_n 1, 1) := by decide +kernel
theorem dJ2_getChar_3b067_48 : decode cJ2_getChar_3b067 48 = .ok (.baload, 1) := by decide +kernel
theorem dJ2_getChar_3b067_49 : decode cJ2_getChar_3b067 49 = .ok (.sipush 255, 3) := by decide +kernel
theorem dJ2_getChar_3b067_52 : decode cJ2_getChar_3b067 52 = .ok (.iand, 1) := by decide +kernel
theorem dJ2_getChar_3b067_53 : decode cJ2_getChar_3b067 53 = .ok (.getstatic 63, 3) := by decide +kernel
theorem dJ2_getChar_3b067_56 : decode cJ2_getChar_3b067 56 = .ok (.ishl, 1) := by decide +kernel
theorem dJ2_getChar_3b067_57 : decode cJ2_getChar_3b067 57 = .ok (.ior, 1) := by decide +kernel
theorem dJ2_getChar_3b067_58 : decode cJ2_getChar_3b067 58 = .ok (.i2c, 1) := by decide +kernel
theorem dJ2_getChar_3b067_59 : decode cJ2_getChar_3b067 59 = .ok (.ireturn, 1) := by decide +kernel
theorem dJ2_length_9d52b_0 : decode cJ2_length_9d52b 0 = .ok (.aload_n 0, 1) := by decide +kernel
theorem dJ2_length_9d52b_1 : decode cJ2_length_9d52b 1 = .ok (.arraylength, 1) := by decide +kernel
theorem dJ2_length_9d52b_2 : decode cJ2_length_9d52b 2 = .ok (.iconst 1, 1) := by decide +kernel
theorem dJ2_length_9d52b_3 : decode cJ2_length_9d52b 3 = .ok (.ishr, 1) := by decide +kernel
theorem dJ2_length_9d52b_4 : decode cJ2_length_9d52b 4 = .ok (.ireturn, 1) := by decide +kernel
set_option maxRecDepth 20000 in
theorem ggJ2_charAt_3b067_J2_checkIndex_2214a : GoodIn wsJ2_charAt_3b067 wsJ2_checkIndex_2214a := goodIn_r _ [4, 5, 6, 3, 7, 8, 9, 10, 11, 12, 13, 14, 15, 16] (by decide +kernel) (by decide +kernel)
set_option maxRecDepth 20000 in
theorem gJ2_charAt_3b067_J2_checkIndex_2214a : GoodIn wsJ2_charAt_3b067 (va_wsS RJ2 67 yJ2_checkIndex_2214a wsJ2_checkIndex_2214a) := goodIn_app (goodIn_of _ (by decide +kernel)) ggJ2_charAt_3b067_J2_checkIndex_2214a
set_option maxRecDepth 20000 in
theorem ggJ2_charAt_3b067_J2_getChar_3b067 : GoodIn wsJ2_charAt_3b067 wsJ2_getChar_3b067 := goodIn_r _ [19, 20, 21, 22, 5, 6, 3, 7] (by decide +kernel) (by decide +kernel)
set_option maxRecDepth 20000 in
theorem gJ2_charAt_3b067_J2_getChar_3b067 : GoodIn wsJ2_charAt_3b067 (va_wsS RJ2 71 yJ2_getChar_3b067 wsJ2_getChar_3b067) := goodIn_app (goodIn_of _ (by decide +kernel)) ggJ2_charAt_3b067_J2_getChar_3b067
theorem dJ2_charAt_3b067_0 : decode cJ2_charAt_3b067 0 = .ok (.iload_n 1, 1) := by decide +kernel
theorem dJ2_charAt_3b067_1 : decode cJ2_charAt_3b067 1 = .ok (.aload_n 0, 1) := by decide +kernel
theorem dJ2_charAt_3b067_2 : decode cJ2_charAt_3b067 2 = .ok (.invokestatic 67, 3) := by decide +kernel
theorem dJ2_charAt_3b067_5 : decode cJ2_charAt_3b067 5 = .ok (.aload_n 0, 1) := by decide +kernel
theorem dJ2_charAt_3b067_6 : decode cJ2_charAt_3b067 6 = .ok (.iload_n 1, 1) := by decide +kernel
theorem dJ2_charAt_3b067_7 : decode cJ2_charAt_3b067 7 = .ok (.invokestatic 71, 3) := by decide +kernel
theorem dJ2_charAt_3b067_10 : decode cJ2_charAt_3b067 10 = .ok (.ireturn, 1) := by decide +kernel
set_option maxRecDepth 20000 in
theorem ggJ2_checkIndex_2214a_J2_length_9d52b : GoodIn wsJ2_checkIndex_2214a wsJ2_length_9d52b := goodIn_r _ [4] (by decide +kernel) (by decide +kernel)
set_option maxRecDepth 20000 in
theorem gJ2_checkIndex_2214a_J2_length_9d52b : GoodIn wsJ2_checkIndex_2214a (va_wsS RJ2 48 yJ2_length_9d52b wsJ2_length_9d52b) := goodIn_app (goodIn_of _ (by decide +kernel)) ggJ2_checkIndex_2214a_J2_length_9d52b
set_option maxRecDepth 20000 in
theorem ggJ2_checkIndex_2214a_J0_checkIndex_df160 : GoodIn wsJ2_checkIndex_2214a wsJ0_checkIndex_df160 := goodIn_r _ [8, 9, 10, 11, 12, 13] (by decide +kernel) (by decide +kernel)
set_option maxRecDepth 20000 in
theorem gJ2_checkIndex_2214a_J0_checkIndex_df160 : GoodIn wsJ2_checkIndex_2214a (va_wsS RJ2 414 yJ0_checkIndex_df160 wsJ0_checkIndex_df160) := goodIn_app (goodIn_of _ (by decide +kernel)) ggJ2_checkIndex_2214a_J0_checkIndex_df160
theorem dJ2_checkIndex_2214a_0 : decode cJ2_checkIndex_2214a 0 = .ok (.iload_n 0, 1) := by decide +kernel
theorem dJ2_checkIndex_2214a_1 : decode cJ2_checkIndex_2214a 1 = .ok (.aload_n 1, 1) := by decide +kernel
theorem dJ2_checkIndex_2214a_2 : decode cJ2_checkIndex_2214a 2 = .ok (.invokestatic 48, 3) := by decide +kernel
theorem dJ2_checkIndex_2214a_5 : decode cJ2_checkIndex_2214a 5 = .ok (.invokestatic 414, 3) := by decide +kernel
theorem dJ2_checkIndex_2214a_8 : decode cJ2_checkIndex_2214a 8 = .ok (.return_, 1) := by decide +kernel
theorem dJ3_checkIndex_8e157_0 : decode cJ3_checkIndex_8e157 0 = .ok (.iload_n 0, 1) := by decide +kernel
theorem dJ3_checkIndex_8e157_1 : decode cJ3_checkIndex_8e157 1 = .ok (.ifCond .lt 8, 3) := by decide +kernel
theorem dJ3_checkIndex_8e157_4 : decode cJ3_checkIndex_8e157 4 = .ok (.iload_n 0, 1) := by decide +kernel
theorem dJ3_checkIndex_8e157_5 : decode cJ3_checkIndex_8e157 5 = .ok (.iload_n 1, 1) := by decide +kernel
theorem dJ3_checkIndex_8e157_6 : decode cJ3_checkIndex_8e157 6 = .ok (.if_icmp .lt 10, 3) := by decide +kernel
theorem dJ3_checkIndex_8e157_9 : decode cJ3_checkIndex_8e157 9 = .ok (.aload_n 2, 1) := by decide +kernel
theorem dJ3_checkIndex_8e157_10 : decode cJ3_checkIndex_8e157 10 = .ok (.iload_n 0, 1) := by decide +kernel
theorem dJ3_checkIndex_8e157_11 : decode cJ3_checkIndex_8e157 11 = .ok (.iload_n 1, 1) := by decide +kernel
theorem dJ3_checkIndex_8e157_12 : decode cJ3_checkIndex_8e157 12 = .ok (.invokestatic 95, 3) := by decide +kernel
theorem dJ3_checkIndex_8e157_15 : decode cJ3_checkIndex_8e157 15 = .ok (.athrow, 1) := by decide +kernel
theorem dJ3_checkIndex_8e157_16 : decode cJ3_checkIndex_8e157 16 = .ok (.iload_n 0, 1) := by decide +kernel
theorem dJ3_checkIndex_8e157_17 : decode cJ3_checkIndex_8e157 17 = .ok (.ireturn, 1) := by decide +kernel
