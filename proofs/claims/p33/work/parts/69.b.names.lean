theorem dL_lot_0 : decode cL_lot 0 = .ok (.iload_n 1, 1) := by decide +kernel
theorem dL_lot_1 : decode cL_lot 1 = .ok (.aload_n 0, 1) := by decide +kernel
theorem dL_lot_2 : decode cL_lot 2 = .ok (.arraylength, 1) := by decide +kernel
theorem dL_lot_3 : decode cL_lot 3 = .ok (.if_icmp .ge 9, 3) := by decide +kernel
theorem dL_lot_6 : decode cL_lot 6 = .ok (.aload_n 0, 1) := by decide +kernel
theorem dL_lot_7 : decode cL_lot 7 = .ok (.iload_n 1, 1) := by decide +kernel
theorem dL_lot_8 : decode cL_lot 8 = .ok (.iaload, 1) := by decide +kernel
theorem dL_lot_9 : decode cL_lot 9 = .ok (.goto 15, 3) := by decide +kernel
theorem dL_lot_12 : decode cL_lot 12 = .ok (.ldc 7, 2) := by decide +kernel
theorem dL_lot_14 : decode cL_lot 14 = .ok (.iload_n 1, 1) := by decide +kernel
theorem dL_lot_15 : decode cL_lot 15 = .ok (.sipush 2207, 3) := by decide +kernel
theorem dL_lot_18 : decode cL_lot 18 = .ok (.iadd, 1) := by decide +kernel
theorem dL_lot_19 : decode cL_lot 19 = .ok (.imul, 1) := by decide +kernel
theorem dL_lot_20 : decode cL_lot 20 = .ok (.sipush 2003, 3) := by decide +kernel
theorem dL_lot_23 : decode cL_lot 23 = .ok (.iadd, 1) := by decide +kernel
theorem dL_lot_24 : decode cL_lot 24 = .ok (.ireturn, 1) := by decide +kernel
theorem dL_low_0 : decode cL_low 0 = .ok (.iload_n 0, 1) := by decide +kernel
theorem dL_low_1 : decode cL_low 1 = .ok (.ldc 8, 2) := by decide +kernel
theorem dL_low_3 : decode cL_low 3 = .ok (.iand, 1) := by decide +kernel
theorem dL_low_4 : decode cL_low 4 = .ok (.iload_n 1, 1) := by decide +kernel
theorem dL_low_5 : decode cL_low 5 = .ok (.irem, 1) := by decide +kernel
theorem dL_low_6 : decode cL_low 6 = .ok (.ireturn, 1) := by decide +kernel
set_option maxRecDepth 20000 in
theorem ggL_addMetal_X8_addMetal : GoodIn wsL_addMetal wsX8_addMetal := goodIn_ca (goodIn_ca (goodIn_ca (goodIn_r _ [9, 10, 11, 12, 13, 14, 15, 16, 17, 18, 19, 8, 20, 21, 22, 23, 24, 25, 26, 27, 28, 29, 30, 31, 32, 33, 34, 35, 36, 37, 38, 39, 40, 41, 42, 43, 44, 45, 46, 47, 48, 49, 50, 51, 52, 53, 54, 55, 56, 57, 58, 59, 60, 61, 62, 63, 64, 65, 66, 67, 68, 69, 70, 71, 72, 73, 74, 75, 76, 77, 78, 79, 80, 81, 82, 83, 84, 85, 86, 87, 88, 89, 90, 91, 92, 93, 94, 95, 96, 97, 98, 99, 100, 101, 102, 103, 104, 105, 106, 107, 108, 109, 110, 111, 112, 113, 114, 115, 116, 117, 118, 119, 120, 121] (by decide +kernel) (by decide +kernel)) (goodIn_sub (fun _ h => List.mem_cons_of_mem _ (List.mem_append_left _ (List.mem_append_left _ (List.mem_append_right _ h)))) (by decide +kernel))) (goodIn_sub (fun _ h => List.mem_cons_of_mem _ (List.mem_append_left _ (List.mem_append_right _ h))) (by decide +kernel))) (goodIn_sub (fun _ h => List.mem_cons_of_mem _ (List.mem_append_right _ h)) (by decide +kernel))
set_option maxRecDepth 20000 in
theorem gL_addMetal_X8_addMetal : GoodIn wsL_addMetal (wsV RL 9 RX8 yX8_addMetal wsX8_addMetal) := goodIn_app (goodIn_of _ (by decide +kernel)) ggL_addMetal_X8_addMetal
theorem dL_addMetal_0 : decode cL_addMetal 0 = .ok (.aload_n 0, 1) := by decide +kernel
theorem dL_addMetal_1 : decode cL_addMetal 1 = .ok (.iload_n 1, 1) := by decide +kernel
theorem dL_addMetal_2 : decode cL_addMetal 2 = .ok (.invokevirtual 9, 3) := by decide +kernel
theorem dL_addMetal_5 : decode cL_addMetal 5 = .ok (.ireturn, 1) := by decide +kernel
theorem dL_addMetal_6 : decode cL_addMetal 6 = .ok (.astore_n 2, 1) := by decide +kernel
theorem dL_addMetal_7 : decode cL_addMetal 7 = .ok (.ldc 17, 2) := by decide +kernel
theorem dL_addMetal_9 : decode cL_addMetal 9 = .ok (.ireturn, 1) := by decide +kernel
theorem dL_addMetal_10 : decode cL_addMetal 10 = .ok (.astore_n 2, 1) := by decide +kernel
theorem dL_addMetal_11 : decode cL_addMetal 11 = .ok (.ldc 20, 2) := by decide +kernel
theorem dL_addMetal_13 : decode cL_addMetal 13 = .ok (.ireturn, 1) := by decide +kernel
set_option maxRecDepth 20000 in
theorem ggL_setStretch_X8_setStretch : GoodIn wsL_setStretch wsX8_setStretch := goodIn_ca (goodIn_ca (goodIn_ca (goodIn_r _ [9, 10, 11, 12, 13, 14, 15, 16, 17, 18, 19, 20, 21, 22, 23, 8, 24, 25, 26, 27, 28, 29, 30, 31, 32, 33, 34, 35, 36, 37, 38, 39, 40, 41, 42, 43, 44, 45, 46, 47, 48, 49, 50, 51, 52, 53, 54, 55, 56, 57, 58, 59, 60, 61, 62, 63, 64, 65, 66, 67, 68, 69, 70, 71, 72, 73, 74, 75, 76, 77, 78, 79, 80, 81, 82, 83, 84, 85, 86, 87, 88, 89, 90, 91, 92, 93, 94, 95, 96, 97, 98, 99, 100, 101, 102, 103, 104, 105, 106, 107, 108, 109, 110, 111, 112, 113, 114, 115, 116, 117, 118, 119, 120, 121, 122, 123, 124, 125] (by decide +kernel) (by decide +kernel)) (goodIn_sub (fun _ h => List.mem_cons_of_mem _ (List.mem_append_left _ (List.mem_append_left _ (List.mem_append_right _ h)))) (by decide +kernel))) (goodIn_sub (fun _ h => List.mem_cons_of_mem _ (List.mem_append_left _ (List.mem_append_right _ h))) (by decide +kernel))) (goodIn_sub (fun _ h => List.mem_cons_of_mem _ (List.mem_append_right _ h)) (by decide +kernel))
set_option maxRecDepth 20000 in
theorem gL_setStretch_X8_setStretch : GoodIn wsL_setStretch (wsV RL 21 RX8 yX8_setStretch wsX8_setStretch) := goodIn_app (goodIn_of _ (by decide +kernel)) ggL_setStretch_X8_setStretch
theorem dL_setStretch_0 : decode cL_setStretch 0 = .ok (.aload_n 0, 1) := by decide +kernel
theorem dL_setStretch_1 : decode cL_setStretch 1 = .ok (.iload_n 1, 1) := by decide +kernel
theorem dL_setStretch_2 : decode cL_setStretch 2 = .ok (.iload_n 2, 1) := by decide +kernel
theorem dL_setStretch_3 : decode cL_setStretch 3 = .ok (.invokevirtual 21, 3) := by decide +kernel
theorem dL_setStretch_6 : decode cL_setStretch 6 = .ok (.ireturn, 1) := by decide +kernel
theorem dL_setStretch_7 : decode cL_setStretch 7 = .ok (.astore_n 3, 1) := by decide +kernel
theorem dL_setStretch_8 : decode cL_setStretch 8 = .ok (.ldc 27, 2) := by decide +kernel
theorem dL_setStretch_10 : decode cL_setStretch 10 = .ok (.ireturn, 1) := by decide +kernel
theorem dL_setStretch_11 : decode cL_setStretch 11 = .ok (.astore_n 3, 1) := by decide +kernel
theorem dL_setStretch_12 : decode cL_setStretch 12 = .ok (.ldc 17, 2) := by decide +kernel
theorem dL_setStretch_14 : decode cL_setStretch 14 = .ok (.ireturn, 1) := by decide +kernel
set_option maxRecDepth 20000 in
theorem ggL_addRod_X8_addRod : GoodIn wsL_addRod wsX8_addRod := goodIn_ca (goodIn_ca (goodIn_ca (goodIn_r _ [11, 12, 13, 14, 15, 16, 17, 18, 19, 20, 21, 22, 23, 24, 25, 26, 27, 10, 28, 29, 30, 31, 32, 33, 34, 35, 36, 37, 38, 39, 40, 41, 42, 43, 44, 45, 46, 47, 48, 49, 50, 51, 52, 53, 54, 55, 56, 57, 58, 59, 60, 61, 62, 63, 64, 65, 66, 67, 68, 69, 70, 71, 72, 73, 74, 75, 76, 77, 78, 79, 80, 81, 82, 83, 84, 85, 86, 87, 88, 89, 90, 91, 92, 93, 94, 95, 96, 97, 98, 99, 100, 101, 102, 103, 104, 105, 106, 107, 108, 109, 110, 111, 112, 113, 114, 115, 116, 117, 118, 119, 120, 121, 122, 123, 124, 125, 126, 127, 128] (by decide +kernel) (by decide +kernel)) (goodIn_sub (fun _ h => List.mem_cons_of_mem _ (List.mem_append_left _ (List.mem_append_left _ (List.mem_append_right _ h)))) (by decide +kernel))) (goodIn_sub (fun _ h => List.mem_cons_of_mem _ (List.mem_append_left _ (List.mem_append_right _ h))) (by decide +kernel))) (goodIn_sub (fun _ h => List.mem_cons_of_mem _ (List.mem_append_right _ h)) (by decide +kernel))
set_option maxRecDepth 20000 in
theorem gL_addRod_X8_addRod : GoodIn wsL_addRod (wsV RL 28 RX8 yX8_addRod wsX8_addRod) := goodIn_app (goodIn_of _ (by decide +kernel)) ggL_addRod_X8_addRod
theorem dL_addRod_0 : decode cL_addRod 0 = .ok (.aload_n 0, 1) := by decide +kernel
theorem dL_addRod_1 : decode cL_addRod 1 = .ok (.iload_n 1, 1) := by decide +kernel
theorem dL_addRod_2 : decode cL_addRod 2 = .ok (.iload_n 2, 1) := by decide +kernel
theorem dL_addRod_3 : decode cL_addRod 3 = .ok (.iload_n 3, 1) := by decide +kernel
theorem dL_addRod_4 : decode cL_addRod 4 = .ok (.invokevirtual 28, 3) := by decide +kernel
theorem dL_addRod_7 : decode cL_addRod 7 = .ok (.ireturn, 1) := by decide +kernel
theorem dL_addRod_8 : decode cL_addRod 8 = .ok (.astore 4, 2) := by decide +kernel
theorem dL_addRod_10 : decode cL_addRod 10 = .ok (.ldc 27, 2) := by decide +kernel
theorem dL_addRod_12 : decode cL_addRod 12 = .ok (.ireturn, 1) := by decide +kernel
theorem dL_addRod_13 : decode cL_addRod 13 = .ok (.astore 4, 2) := by decide +kernel
theorem dL_addRod_15 : decode cL_addRod 15 = .ok (.ldc 17, 2) := by decide +kernel
theorem dL_addRod_17 : decode cL_addRod 17 = .ok (.ireturn, 1) := by decide +kernel
theorem dL_addRod_18 : decode cL_addRod 18 = .ok (.astore 4, 2) := by decide +kernel
theorem dL_addRod_20 : decode cL_addRod 20 = .ok (.ldc 20, 2) := by decide +kernel
theorem dL_addRod_22 : decode cL_addRod 22 = .ok (.ireturn, 1) := by decide +kernel
set_option maxRecDepth 20000 in
theorem ggL_removeRod_X8_removeRod : GoodIn wsL_removeRod wsX8_removeRod := goodIn_ca (goodIn_ca (goodIn_ca (goodIn_r _ [7, 8, 9, 10, 11, 12, 13, 14, 15, 16, 17, 18, 19, 20, 21, 6, 22, 23, 24, 25, 26, 27, 28, 29, 30, 31, 32, 33, 34, 35, 36, 37, 38, 39, 40, 41, 42, 43, 44, 45, 46, 47, 48, 49, 50, 51, 52, 53, 54, 55, 56, 57, 58, 59, 60, 61, 62, 63, 64, 65, 66, 67, 68, 69, 70, 71, 72, 73, 74, 75, 76, 77, 78, 79, 80, 81, 82, 83, 84, 85, 86, 87, 88, 89, 90, 91, 92, 93, 94, 95, 96, 97, 98, 99, 100, 101, 102, 103, 104, 105, 106, 107, 108, 109, 110, 111, 112, 113, 114, 115, 116, 117, 118, 119, 120, 121, 122, 123] (by decide +kernel) (by decide +kernel)) (goodIn_sub (fun _ h => List.mem_cons_of_mem _ (List.mem_append_left _ (List.mem_append_left _ (List.mem_append_right _ h)))) (by decide +kernel))) (goodIn_sub (fun _ h => List.mem_cons_of_mem _ (List.mem_append_left _ (List.mem_append_right _ h))) (by decide +kernel))) (goodIn_sub (fun _ h => List.mem_cons_of_mem _ (List.mem_append_right _ h)) (by decide +kernel))
set_option maxRecDepth 20000 in
theorem gL_removeRod_X8_removeRod : GoodIn wsL_removeRod (wsV RL 32 RX8 yX8_removeRod wsX8_removeRod) := goodIn_app (goodIn_of _ (by decide +kernel)) ggL_removeRod_X8_removeRod
theorem dL_removeRod_0 : decode cL_removeRod 0 = .ok (.aload_n 0, 1) := by decide +kernel
theorem dL_removeRod_1 : decode cL_removeRod 1 = .ok (.iload_n 1, 1) := by decide +kernel
theorem dL_removeRod_2 : decode cL_removeRod 2 = .ok (.invokevirtual 32, 3) := by decide +kernel
theorem dL_removeRod_5 : decode cL_removeRod 5 = .ok (.ireturn, 1) := by decide +kernel
theorem dL_removeRod_6 : decode cL_removeRod 6 = .ok (.astore_n 2, 1) := by decide +kernel
theorem dL_removeRod_7 : decode cL_removeRod 7 = .ok (.ldc 27, 2) := by decide +kernel
theorem dL_removeRod_9 : decode cL_removeRod 9 = .ok (.ireturn, 1) := by decide +kernel
set_option maxRecDepth 20000 in
theorem ggL_setLength_X8_setLength : GoodIn wsL_setLength wsX8_setLength := goodIn_ca (goodIn_ca (goodIn_ca (goodIn_r _ [9, 10, 11, 12, 13, 14, 15, 16, 17, 18, 19, 20, 21, 22, 23, 24, 8, 25, 26, 27, 28, 29, 30, 31, 32, 33, 34, 35, 36, 37, 38, 39, 40, 41, 42, 43, 44, 45, 46, 47, 48, 49, 50, 51, 52, 53, 54, 55, 56, 57, 58, 59, 60, 61, 62, 63, 64, 65, 66, 67, 68, 69, 70, 71, 72, 73, 74, 75, 76, 77, 78, 79, 80, 81, 82, 83, 84, 85, 86, 87, 88, 89, 90, 91, 92, 93, 94, 95, 96, 97, 98, 99, 100, 101, 102, 103, 104, 105, 106, 107, 108, 109, 110, 111, 112, 113, 114, 115, 116, 117, 118, 119, 120, 121, 122, 123, 124, 125, 126] (by decide +kernel) (by decide +kernel)) (goodIn_sub (fun _ h => List.mem_cons_of_mem _ (List.mem_append_left _ (List.mem_append_left _ (List.mem_append_right _ h)))) (by decide +kernel))) (goodIn_sub (fun _ h => List.mem_cons_of_mem _ (List.mem_append_left _ (List.mem_append_right _ h))) (by decide +kernel))) (goodIn_sub (fun _ h => List.mem_cons_of_mem _ (List.mem_append_right _ h)) (by decide +kernel))
set_option maxRecDepth 20000 in
theorem gL_setLength_X8_setLength : GoodIn wsL_setLength (wsV RL 35 RX8 yX8_setLength wsX8_setLength) := goodIn_app (goodIn_of _ (by decide +kernel)) ggL_setLength_X8_setLength
theorem dL_setLength_0 : decode cL_setLength 0 = .ok (.aload_n 0, 1) := by decide +kernel
theorem dL_setLength_1 : decode cL_setLength 1 = .ok (.iload_n 1, 1) := by decide +kernel
theorem dL_setLength_2 : decode cL_setLength 2 = .ok (.iload_n 2, 1) := by decide +kernel
theorem dL_setLength_3 : decode cL_setLength 3 = .ok (.invokevirtual 35, 3) := by decide +kernel
theorem dL_setLength_6 : decode cL_setLength 6 = .ok (.ireturn, 1) := by decide +kernel
theorem dL_setLength_7 : decode cL_setLength 7 = .ok (.astore_n 3, 1) := by decide +kernel
theorem dL_setLength_8 : decode cL_setLength 8 = .ok (.ldc 27, 2) := by decide +kernel
theorem dL_setLength_10 : decode cL_setLength 10 = .ok (.ireturn, 1) := by decide +kernel
theorem dL_setLength_11 : decode cL_setLength 11 = .ok (.astore_n 3, 1) := by decide +kernel
theorem dL_setLength_12 : decode cL_setLength 12 = .ok (.ldc 17, 2) := by decide +kernel
theorem dL_setLength_14 : decode cL_setLength 14 = .ok (.ireturn, 1) := by decide +kernel
set_option maxRecDepth 20000 in
theorem ggL_setShelf_X8_setShelf : GoodIn wsL_setShelf wsX8_setShelf := goodIn_ca (goodIn_ca (goodIn_ca (goodIn_r _ [9, 10, 11, 12, 13, 14, 15, 16, 17, 18, 8, 19, 20, 21, 22, 23, 24, 25, 26, 27, 28, 29, 30, 31, 32, 33, 34, 35, 36, 37, 38, 39, 40, 41, 42, 43, 44, 45, 46, 47, 48, 49, 50, 51, 52, 53, 54, 55, 56, 57, 58, 59, 60, 61, 62, 63, 64, 65, 66, 67, 68, 69, 70, 71, 72, 73, 74, 75, 76, 77, 78, 79, 80, 81, 82, 83, 84, 85, 86, 87, 88, 89, 90, 91, 92, 93, 94, 95, 96, 97, 98, 99, 100, 101, 102, 103, 104, 105, 106, 107, 108, 109, 110, 111, 112, 113, 114, 115, 116, 117, 118, 119, 120, 121, 122, 123, 124] (by decide +kernel) (by decide +kernel)) (goodIn_sub (fun _ h => List.mem_cons_of_mem _ (List.mem_append_left _ (List.mem_append_left _ (List.mem_append_right _ h)))) (by decide +kernel))) (goodIn_sub (fun _ h => List.mem_cons_of_mem _ (List.mem_append_left _ (List.mem_append_right _ h))) (by decide +kernel))) (goodIn_sub (fun _ h => List.mem_cons_of_mem _ (List.mem_append_right _ h)) (by decide +kernel))
set_option maxRecDepth 20000 in
theorem gL_setShelf_X8_setShelf : GoodIn wsL_setShelf (wsV RL 38 RX8 yX8_setShelf wsX8_setShelf) := goodIn_app (goodIn_of _ (by decide +kernel)) ggL_setShelf_X8_setShelf
theorem dL_setShelf_0 : decode cL_setShelf 0 = .ok (.aload_n 0, 1) := by decide +kernel
theorem dL_setShelf_1 : decode cL_setShelf 1 = .ok (.iload_n 1, 1) := by decide +kernel
theorem dL_setShelf_2 : decode cL_setShelf 2 = .ok (.iload_n 2, 1) := by decide +kernel
theorem dL_setShelf_3 : decode cL_setShelf 3 = .ok (.invokevirtual 38, 3) := by decide +kernel
theorem dL_setShelf_6 : decode cL_setShelf 6 = .ok (.ireturn, 1) := by decide +kernel
theorem dL_setShelf_7 : decode cL_setShelf 7 = .ok (.astore_n 3, 1) := by decide +kernel
theorem dL_setShelf_8 : decode cL_setShelf 8 = .ok (.ldc 27, 2) := by decide +kernel
theorem dL_setShelf_10 : decode cL_setShelf 10 = .ok (.ireturn, 1) := by decide +kernel
theorem dL_setShelf_11 : decode cL_setShelf 11 = .ok (.astore_n 3, 1) := by decide +kernel
theorem dL_setShelf_12 : decode cL_setShelf 12 = .ok (.ldc 17, 2) := by decide +kernel
theorem dL_setShelf_14 : decode cL_setShelf 14 = .ok (.ireturn, 1) := by decide +kernel
set_option maxRecDepth 20000 in
theorem ggL_hang_X8_hang : GoodIn wsL_hang wsX8_hang := goodIn_ca (goodIn_ca (goodIn_ca (goodIn_r _ [7, 8, 9, 10, 11, 12, 13, 14, 15, 16, 6, 17, 18, 19, 20, 21, 22, 23, 24, 25, 26, 27, 28, 29, 30, 31, 32, 33, 34, 35, 36, 37, 38, 39, 40, 41, 42, 43, 44, 45, 46, 47, 48, 49, 50, 51, 52, 53, 54, 55, 56, 57, 58, 59, 60, 61, 62, 63, 64, 65, 66, 67, 68, 69, 70, 71, 72, 73, 74, 75, 76, 77, 78, 79, 80, 81, 82, 83, 84, 85, 86, 87, 88, 89, 90, 91, 92, 93, 94, 95, 96, 97, 98, 99, 100, 101, 102, 103, 104, 105, 106, 107, 108, 109, 110, 111, 112, 113, 114, 115, 116, 117, 118, 119] (by decide +kernel) (by decide +kernel)) (goodIn_sub (fun _ h => List.mem_cons_of_mem _ (List.mem_append_left _ (List.mem_append_left _ (List.mem_append_right _ h)))) (by decide +kernel))) (goodIn_sub (fun _ h => List.mem_cons_of_mem _ (List.mem_append_left _ (List.mem_append_right _ h))) (by decide +kernel))) (goodIn_sub (fun _ h => List.mem_cons_of_mem _ (List.mem_append_right _ h)) (by decide +kernel))
set_option maxRecDepth 20000 in
theorem gL_hang_X8_hang : GoodIn wsL_hang (wsV RL 41 RX8 yX8_hang wsX8_hang) := goodIn_app (goodIn_of _ (by decide +kernel)) ggL_hang_X8_hang
theorem dL_hang_0 : decode cL_hang 0 = .ok (.aload_n 0, 1) := by decide +kernel
theorem dL_hang_1 : decode cL_hang 1 = .ok (.iload_n 1, 1) := by decide +kernel
theorem dL_hang_2 : decode cL_hang 2 = .ok (.invokevirtual 41, 3) := by decide +kernel
theorem dL_hang_5 : decode cL_hang 5 = .ok (.ireturn, 1) := by decide +kernel
theorem dL_hang_6 : decode cL_hang 6 = .ok (.astore_n 2, 1) := by decide +kernel
theorem dL_hang_7 : decode cL_hang 7 = .ok (.ldc 27, 2) := by decide +kernel
theorem dL_hang_9 : decode cL_hang 9 = .ok (.ireturn, 1) := by decide +kernel
set_option maxRecDepth 20000 in
theorem ggL_turnNut_X8_turnNut : GoodIn wsL_turnNut wsX8_turnNut := goodIn_ca (goodIn_ca (goodIn_ca (goodIn_r _ [9, 10, 11, 12, 13, 14, 15, 16, 17, 18, 19, 8, 20, 21, 22, 23, 24, 25, 26, 27, 28, 29, 30, 31, 32, 33, 34, 35, 36, 37, 38, 39, 40, 41, 42, 43, 44, 45, 46, 47, 48, 49, 50, 51, 52, 53, 54, 55, 56, 57, 58, 59, 60, 61, 62, 63, 64, 65, 66, 67, 68, 69, 70, 71, 72, 73, 74, 75, 76, 77, 78, 79, 80, 81, 82, 83, 84, 85, 86, 87, 88, 89, 90, 91, 92, 93, 94, 95, 96, 97, 98, 99, 100, 101, 102, 103, 104, 105, 106, 107, 108, 109, 110, 111, 112, 113, 114, 115, 116, 117, 118, 119, 120, 121] (by decide +kernel) (by decide +kernel)) (goodIn_sub (fun _ h => List.mem_cons_of_mem _ (List.mem_append_left _ (List.mem_append_left _ (List.mem_append_right _ h)))) (by decide +kernel))) (goodIn_sub (fun _ h => List.mem_cons_of_mem _ (List.mem_append_left _ (List.mem_append_right _ h))) (by decide +kernel))) (goodIn_sub (fun _ h => List.mem_cons_of_mem _ (List.mem_append_right _ h)) (by decide +kernel))
set_option maxRecDepth 20000 in
theorem gL_turnNut_X8_turnNut : GoodIn wsL_turnNut (wsV RL 44 RX8 yX8_turnNut wsX8_turnNut) := goodIn_app (goodIn_of _ (by decide +kernel)) ggL_turnNut_X8_turnNut
theorem dL_turnNut_0 : decode cL_turnNut 0 = .ok (.aload_n 0, 1) := by decide +kernel
theorem dL_turnNut_1 : decode cL_turnNut 1 = .ok (.iload_n 1, 1) := by decide +kernel
theorem dL_turnNut_2 : decode cL_turnNut 2 = .ok (.invokevirtual 44, 3) := by decide +kernel
theorem dL_turnNut_5 : decode cL_turnNut 5 = .ok (.ireturn, 1) := by decide +kernel
theorem dL_turnNut_6 : decode cL_turnNut 6 = .ok (.astore_n 2, 1) := by decide +kernel
theorem dL_turnNut_7 : decode cL_turnNut 7 = .ok (.ldc 17, 2) := by decide +kernel
theorem dL_turnNut_9 : decode cL_turnNut 9 = .ok (.ireturn, 1) := by decide +kernel
theorem dL_turnNut_10 : decode cL_turnNut 10 = .ok (.astore_n 2, 1) := by decide +kernel
theorem dL_turnNut_11 : decode cL_turnNut 11 = .ok (.ldc 20, 2) := by decide +kernel
theorem dL_turnNut_13 : decode cL_turnNut 13 = .ok (.ireturn, 1) := by decide +kernel
set_option maxRecDepth 20000 in
theorem ggL_set_X8_set : GoodIn wsL_set wsX8_set := goodIn_ca (goodIn_ca (goodIn_ca (goodIn_r _ [7, 8, 9, 10, 11, 12, 13, 14, 15, 16, 6, 17, 18, 19, 20, 21, 22, 23, 24, 25, 26, 27, 28, 29, 30, 31, 32, 33, 34, 35, 36, 37, 38, 39, 40, 41, 42, 43, 44, 45, 46, 47, 48, 49, 50, 51, 52, 53, 54, 55, 56, 57, 58, 59, 60, 61, 62, 63, 64, 65, 66, 67, 68, 69, 70, 71, 72, 73, 74, 75, 76, 77, 78, 79, 80, 81, 82, 83, 84, 85, 86, 87, 88, 89, 90, 91, 92, 93, 94, 95, 96, 97, 98, 99, 100, 101, 102, 103, 104, 105, 106, 107, 108, 109, 110, 111, 112, 113, 114, 115, 116, 117, 118, 119] (by decide +kernel) (by decide +kernel)) (goodIn_sub (fun _ h => List.mem_cons_of_mem _ (List.mem_append_left _ (List.mem_append_left _ (List.mem_append_right _ h)))) (by decide +kernel))) (goodIn_sub (fun _ h => List.mem_cons_of_mem _ (List.mem_append_left _ (List.mem_append_right _ h))) (by decide +kernel))) (goodIn_sub (fun _ h => List.mem_cons_of_mem _ (List.mem_append_right _ h)) (by decide +kernel))
set_option maxRecDepth 20000 in
theorem gL_set_X8_set : GoodIn wsL_set (wsV RL 47 RX8 yX8_set wsX8_set) := goodIn_app (goodIn_of _ (by decide +kernel)) ggL_set_X8_set
theorem dL_set_0 : decode cL_set 0 = .ok (.aload_n 0, 1) := by decide +kernel
theorem dL_set_1 : decode cL_set 1 = .ok (.iload_n 1, 1) := by decide +kernel
theorem dL_set_2 : decode cL_set 2 = .ok (.iload_n 2, 1) := by decide +kernel
theorem dL_set_3 : decode cL_set 3 = .ok (.invokevirtual 47, 3) := by decide +kernel
theorem dL_set_6 : decode cL_set 6 = .ok (.ireturn, 1) := by decide +kernel
theorem dL_set_7 : decode cL_set 7 = .ok (.astore_n 3, 1) := by decide +kernel
theorem dL_set_8 : decode cL_set 8 = .ok (.ldc 17, 2) := by decide +kernel
theorem dL_set_10 : decode cL_set 10 = .ok (.ireturn, 1) := by decide +kernel
set_option maxRecDepth 20000 in
theorem ggL_pass_X8_pass : GoodIn wsL_pass wsX8_pass := goodIn_ca (goodIn_ca (goodIn_ca (goodIn_r _ [9, 10, 11, 12, 13, 14, 15, 16, 17, 18, 19, 20, 8, 21, 22, 23, 24, 25, 26, 27, 28, 29, 30, 31, 32, 33, 34, 35, 36, 37, 38, 39, 40, 41, 42, 43, 44, 45, 46, 47, 48, 49, 50, 51, 52, 53, 54, 55, 56, 57, 58, 59, 60, 61, 62, 63, 64, 65, 66, 67, 68, 69, 70, 71, 72, 73, 74, 75, 76, 77, 78, 79, 80, 81, 82, 83, 84, 85, 86, 87, 88, 89, 90, 91, 92, 93, 94, 95, 96, 97, 98, 99, 100, 101, 102, 103, 104, 105, 106, 107, 108, 109, 110, 111, 112, 113, 114, 115, 116, 117, 118, 119, 120, 121, 122, 123, 124, 125, 126, 127, 128, 129, 130, 131, 132, 133, 134, 135, 136, 137, 138, 139, 140, 141, 142, 143, 144, 145, 146, 147, 148, 149, 150, 151, 152, 153, 154, 155, 156, 157, 158, 159, 160, 161, 162, 163, 164, 165, 166, 167, 168, 169, 170, 171, 172, 173, 174, 175, 176, 177, 178, 179, 180, 181, 182, 183, 184, 185, 186, 187, 188, 189, 190, 191, 192, 193, 194, 195, 196, 197, 198, 199, 200, 201, 202, 203, 204, 205] (by decide +kernel) (by decide +kernel)) (goodIn_sub (fun _ h => List.mem_cons_of_mem _ (List.mem_append_left _ (List.mem_append_left _ (List.mem_append_right _ h)))) (by decide +kernel))) (goodIn_sub (fun _ h => List.mem_cons_of_mem _ (List.mem_append_left _ (List.mem_append_right _ h))) (by decide +kernel))) (goodIn_sub (fun _ h => List.mem_cons_of_mem _ (List.mem_append_right _ h)) (by decide +kernel))
set_option maxRecDepth 20000 in
theorem gL_pass_X8_pass : GoodIn wsL_pass (wsV RL 50 RX8 yX8_pass wsX8_pass) := goodIn_app (goodIn_of _ (by decide +kernel)) ggL_pass_X8_pass
theorem dL_pass_0 : decode cL_pass 0 = .ok (.aload_n 0, 1) := by decide +kernel
theorem dL_pass_1 : decode cL_pass 1 = .ok (.iload_n 1, 1) := by decide +kernel
theorem dL_pass_2 : decode cL_pass 2 = .ok (.invokevirtual 50, 3) := by decide +kernel
theorem dL_pass_5 : decode cL_pass 5 = .ok (.ireturn, 1) := by decide +kernel
theorem dL_pass_6 : decode cL_pass 6 = .ok (.astore_n 2, 1) := by decide +kernel
theorem dL_pass_7 : decode cL_pass 7 = .ok (.ldc 17, 2) := by decide +kernel
theorem dL_pass_9 : decode cL_pass 9 = .ok (.ireturn, 1) := by decide +kernel
theorem dL_pass_10 : decode cL_pass 10 = .ok (.astore_n 2, 1) := by decide +kernel
theorem dL_pass_11 : decode cL_pass 11 = .ok (.ldc 20, 2) := by decide +kernel
theorem dL_pass_13 : decode cL_pass 13 = .ok (.ireturn, 1) := by decide +kernel
set_option maxRecDepth 20000 in
theorem ggL_rod_X8_rod : GoodIn wsL_rod wsX8_rod := goodIn_ca (goodIn_ca (goodIn_ca (goodIn_r _ [9, 10, 11, 12, 13, 14, 15, 16, 17, 18, 19, 20, 21, 22, 23, 24, 8, 25, 26, 27, 28, 29, 30, 31, 32, 33, 34, 35, 36, 37, 38, 39, 40, 41, 42, 43, 44, 45, 46, 47, 48, 49, 50, 51, 52, 53, 54, 55, 56, 57, 58, 59, 60, 61, 62, 63, 64, 65, 66, 67, 68, 69, 70, 71, 72, 73, 74, 75, 76, 77, 78, 79, 80, 81] (by decide +kernel) (by decide +kernel)) (goodIn_sub (fun _ h => List.mem_cons_of_mem _ (List.mem_append_left _ (List.mem_append_left _ (List.mem_append_right _ h)))) (by decide +kernel))) (goodIn_sub (fun _ h => List.mem_cons_of_mem _ (List.mem_append_left _ (List.mem_append_right _ h))) (by decide +kernel))) (goodIn_sub (fun _ h => List.mem_cons_of_mem _ (List.mem_append_right _ h)) (by decide +kernel))
set_option maxRecDepth 20000 in
theorem gL_rod_X8_rod : GoodIn wsL_rod (wsV RL 53 RX8 yX8_rod wsX8_rod) := goodIn_app (goodIn_of _ (by decide +kernel)) ggL_rod_X8_rod
theorem dL_rod_0 : decode cL_rod 0 = .ok (.aload_n 0, 1) := by decide +kernel
theorem dL_rod_1 : decode cL_rod 1 = .ok (.iload_n 1, 1) := by decide +kernel
theorem dL_rod_2 : decode cL_rod 2 = .ok (.iload_n 2, 1) := by decide +kernel
theorem dL_rod_3 : decode cL_rod 3 = .ok (.invokevirtual 53, 3) := by decide +kernel
theorem dL_rod_6 : decode cL_rod 6 = .ok (.ireturn, 1) := by decide +kernel
theorem dL_rod_7 : decode cL_rod 7 = .ok (.astore_n 3, 1) := by decide +kernel
theorem dL_rod_8 : decode cL_rod 8 = .ok (.ldc 27, 2) := by decide +kernel
theorem dL_rod_10 : decode cL_rod 10 = .ok (.ireturn, 1) := by decide +kernel
theorem dL_rod_11 : decode cL_rod 11 = .ok (.astore_n 3, 1) := by decide +kernel
theorem dL_rod_12 : decode cL_rod 12 = .ok (.ldc 17, 2) := by decide +kernel
theorem dL_rod_14 : decode cL_rod 14 = .ok (.ireturn, 1) := by decide +kernel
set_option maxRecDepth 20000 in
theorem ggL_stretch_X8_stretch : GoodIn wsL_stretch wsX8_stretch := goodIn_ca (goodIn_ca (goodIn_ca (goodIn_r _ [7, 8, 9, 10, 11, 12, 13, 14, 15, 16, 17, 18, 19, 20, 6, 21, 22, 23, 24, 25, 26, 27, 28, 29, 30, 31, 32, 33, 34, 35, 36, 37, 38, 39, 40, 41, 42, 43, 44, 45, 46, 47] (by decide +kernel) (by decide +kernel)) (goodIn_sub (fun _ h => List.mem_cons_of_mem _ (List.mem_append_left _ (List.mem_append_left _ (List.mem_append_right _ h)))) (by decide +kernel))) (goodIn_sub (fun _ h => List.mem_cons_of_mem _ (List.mem_append_left _ (List.mem_append_right _ h))) (by decide +kernel))) (goodIn_sub (fun _ h => List.mem_cons_of_mem _ (List.mem_append_right _ h)) (by decide +kernel))
set_option maxRecDepth 20000 in
theorem gL_stretch_X8_stretch : GoodIn wsL_stretch (wsV RL 56 RX8 yX8_stretch wsX8_stretch) := goodIn_app (goodIn_of _ (by decide +kernel)) ggL_stretch_X8_stretch
theorem dL_stretch_0 : decode cL_stretch 0 = .ok (.aload_n 0, 1) := by decide +kernel
theorem dL_stretch_1 : decode cL_stretch 1 = .ok (.iload_n 1, 1) := by decide +kernel
theorem dL_stretch_2 : decode cL_stretch 2 = .ok (.invokevirtual 56, 3) := by decide +kernel
theorem dL_stretch_5 : decode cL_stretch 5 = .ok (.ireturn, 1) := by decide +kernel
theorem dL_stretch_6 : decode cL_stretch 6 = .ok (.astore_n 2, 1) := by decide +kernel
theorem dL_stretch_7 : decode cL_stretch 7 = .ok (.ldc 27, 2) := by decide +kernel
theorem dL_stretch_9 : decode cL_stretch 9 = .ok (.ireturn, 1) := by decide +kernel
set_option maxRecDepth 20000 in
theorem ggL_shelf_X8_shelf : GoodIn wsL_shelf wsX8_shelf := goodIn_ca (goodIn_ca (goodIn_ca (goodIn_r _ [7, 8, 9, 10, 11, 12, 13, 14, 15, 6, 16, 17, 18, 19, 20, 21, 22, 23, 24, 25, 26, 27, 28, 29, 30, 31, 32, 33, 34, 35, 36, 37, 38, 39, 40, 41, 42, 43, 44, 45, 46, 47, 48] (by decide +kernel) (by decide +kernel)) (goodIn_sub (fun _ h => List.mem_cons_of_mem _ (List.mem_append_left _ (List.mem_append_left _ (List.mem_append_right _ h)))) (by decide +kernel))) (goodIn_sub (fun _ h => List.mem_cons_of_mem _ (List.mem_append_left _ (List.mem_append_right _ h))) (by decide +kernel))) (goodIn_sub (fun _ h => List.mem_cons_of_mem _ (List.mem_append_right _ h)) (by decide +kernel))
set_option maxRecDepth 20000 in
theorem gL_shelf_X8_shelf : GoodIn wsL_shelf (wsV RL 59 RX8 yX8_shelf wsX8_shelf) := goodIn_app (goodIn_of _ (by decide +kernel)) ggL_shelf_X8_shelf
theorem dL_shelf_0 : decode cL_shelf 0 = .ok (.aload_n 0, 1) := by decide +kernel
theorem dL_shelf_1 : decode cL_shelf 1 = .ok (.iload_n 1, 1) := by decide +kernel
theorem dL_shelf_2 : decode cL_shelf 2 = .ok (.invokevirtual 59, 3) := by decide +kernel
theorem dL_shelf_5 : decode cL_shelf 5 = .ok (.ireturn, 1) := by decide +kernel
theorem dL_shelf_6 : decode cL_shelf 6 = .ok (.astore_n 2, 1) := by decide +kernel
theorem dL_shelf_7 : decode cL_shelf 7 = .ok (.ldc 27, 2) := by decide +kernel
theorem dL_shelf_9 : decode cL_shelf 9 = .ok (.ireturn, 1) := by decide +kernel
set_option maxRecDepth 20000 in
theorem ggL_whole_X8_whole : GoodIn wsL_whole wsX8_whole := goodIn_ca (goodIn_ca (goodIn_ca (goodIn_r _ [7, 8, 9, 10, 11, 12, 6, 13, 14, 15, 16, 17, 18, 19, 20, 21, 22, 23, 24, 25, 26, 27, 28, 29, 30, 31, 32, 33, 34, 35, 36, 37, 38, 39, 40, 41, 42, 43, 44, 45, 46, 47, 48, 49, 50, 51, 52, 53, 54, 55, 56, 57, 58, 59, 60, 61, 62, 63, 64, 65, 66, 67, 68, 69, 70, 71, 72, 73, 74, 75, 76, 77, 78, 79, 80, 81, 82, 83, 84, 85, 86, 87, 88, 89, 90, 91, 92, 93, 94, 95, 96, 97, 98, 99, 100, 101, 102, 103, 104, 105, 106, 107, 108, 109, 110, 111, 112, 113, 114, 115, 116, 117, 118, 119, 120, 121, 122, 123, 124, 125, 126, 127, 128, 129, 130, 131, 132, 133, 134, 135, 136, 137] (by decide +kernel) (by decide +kernel)) (goodIn_sub (fun _ h => List.mem_cons_of_mem _ (List.mem_append_left _ (List.mem_append_left _ (List.mem_append_right _ h)))) (by decide +kernel))) (goodIn_sub (fun _ h => List.mem_cons_of_mem _ (List.mem_append_left _ (List.mem_append_right _ h))) (by decide +kernel))) (goodIn_sub (fun _ h => List.mem_cons_of_mem _ (List.mem_append_right _ h)) (by decide +kernel))
set_option maxRecDepth 20000 in
theorem gL_whole_X8_whole : GoodIn wsL_whole (wsV RL 62 RX8 yX8_whole wsX8_whole) := goodIn_app (goodIn_of _ (by decide +kernel)) ggL_whole_X8_whole
theorem dL_whole_0 : decode cL_whole 0 = .ok (.aload_n 0, 1) := by decide +kernel
theorem dL_whole_1 : decode cL_whole 1 = .ok (.iload_n 1, 1) := by decide +kernel
theorem dL_whole_2 : decode cL_whole 2 = .ok (.invokevirtual 62, 3) := by decide +kernel
theorem dL_whole_5 : decode cL_whole 5 = .ok (.ireturn, 1) := by decide +kernel
theorem dL_whole_6 : decode cL_whole 6 = .ok (.astore_n 2, 1) := by decide +kernel
theorem dL_whole_7 : decode cL_whole 7 = .ok (.ldc 17, 2) := by decide +kernel
theorem dL_whole_9 : decode cL_whole 9 = .ok (.ireturn, 1) := by decide +kernel
set_option maxRecDepth 20000 in
theorem ggL_day_X8_day : GoodIn wsL_day wsX8_day := goodIn_ca (goodIn_ca (goodIn_ca (goodIn_r _ [7, 8, 9, 10, 11, 6, 12, 13, 14, 15, 16, 17, 18, 19, 20, 21, 22, 23, 24, 25, 26, 27, 28, 29, 30, 31, 32, 33, 34, 35, 36, 37] (by decide +kernel) (by decide +kernel)) (goodIn_sub (fun _ h => List.mem_cons_of_mem _ (List.mem_append_left _ (List.mem_append_left _ (List.mem_append_right _ h)))) (by decide +kernel))) (goodIn_sub (fun _ h => List.mem_cons_of_mem _ (List.mem_append_left _ (List.mem_append_right _ h))) (by decide +kernel))) (goodIn_sub (fun _ h => List.mem_cons_of_mem _ (List.mem_append_right _ h)) (by decide +kernel))
set_option maxRecDepth 20000 in
theorem gL_day_X8_day : GoodIn wsL_day (wsV RL 65 RX8 yX8_day wsX8_day) := goodIn_app (goodIn_of _ (by decide +kernel)) ggL_day_X8_day
theorem dL_day_0 : decode cL_day 0 = .ok (.aload_n 0, 1) := by decide +kernel
theorem dL_day_1 : decode cL_day 1 = .ok (.iload_n 1, 1) := by decide +kernel
theorem dL_day_2 : decode cL_day 2 = .ok (.iload_n 2, 1) := by decide +kernel
theorem dL_day_3 : decode cL_day 3 = .ok (.invokevirtual 65, 3) := by decide +kernel
theorem dL_day_6 : decode cL_day 6 = .ok (.lreturn, 1) := by decide +kernel
theorem dL_day_7 : decode cL_day 7 = .ok (.astore_n 3, 1) := by decide +kernel
theorem dL_day_8 : decode cL_day 8 = .ok (.ldc2_w 69, 3) := by decide +kernel
theorem dL_day_11 : decode cL_day 11 = .ok (.lreturn, 1) := by decide +kernel
set_option maxRecDepth 20000 in
theorem ggL_rateAt_X8_rateAt : GoodIn wsL_rateAt wsX8_rateAt := goodIn_ca (goodIn_ca (goodIn_ca (goodIn_r _ [7, 8, 9, 10, 11, 12, 6, 13, 14, 15, 16, 17, 18, 19, 20, 21, 22, 23, 24, 25, 26, 27, 28, 29, 30, 31, 32, 33, 34, 35, 36, 37, 38, 39, 40, 41, 42, 43, 44, 45, 46, 47, 48, 49, 50, 51, 52, 53, 54, 55, 56, 57, 58, 59, 60, 61, 62, 63, 64, 65, 66, 67, 68, 69, 70, 71, 72, 73, 74, 75, 76, 77, 78, 79, 80, 81, 82, 83, 84, 85, 86, 87, 88, 89, 90, 91, 92, 93, 94, 95, 96, 97, 98, 99, 100, 101, 102, 103, 104, 105, 106, 107, 108, 109, 110, 111, 112] (by decide +kernel) (by decide +kernel)) (goodIn_sub (fun _ h => List.mem_cons_of_mem _ (List.mem_append_left _ (List.mem_append_left _ (List.mem_append_right _ h)))) (by decide +kernel))) (goodIn_sub (fun _ h => List.mem_cons_of_mem _ (List.mem_append_left _ (List.mem_append_right _ h))) (by decide +kernel))) (goodIn_sub (fun _ h => List.mem_cons_of_mem _ (List.mem_append_right _ h)) (by decide +kernel))
set_option maxRecDepth 20000 in
theorem gL_rateAt_X8_rateAt : GoodIn wsL_rateAt (wsV RL 71 RX8 yX8_rateAt wsX8_rateAt) := goodIn_app (goodIn_of _ (by decide +kernel)) ggL_rateAt_X8_rateAt
theorem dL_rateAt_0 : decode cL_rateAt 0 = .ok (.aload_n 0, 1) := by decide +kernel
theorem dL_rateAt_1 : decode cL_rateAt 1 = .ok (.iload_n 1, 1) := by decide +kernel
theorem dL_rateAt_2 : decode cL_rateAt 2 = .ok (.invokevirtual 71, 3) := by decide +kernel
theorem dL_rateAt_5 : decode cL_rateAt 5 = .ok (.ireturn, 1) := by decide +kernel
theorem dL_rateAt_6 : decode cL_rateAt 6 = .ok (.astore_n 2, 1) := by decide +kernel
theorem dL_rateAt_7 : decode cL_rateAt 7 = .ok (.ldc 17, 2) := by decide +kernel
theorem dL_rateAt_9 : decode cL_rateAt 9 = .ok (.ireturn, 1) := by decide +kernel
set_option maxRecDepth 20000 in
theorem ggL_matchLength_X8_matchLength : GoodIn wsL_matchLength wsX8_matchLength := goodIn_ca (goodIn_ca (goodIn_ca (goodIn_r _ [7, 8, 9, 10, 11, 12, 13, 14, 15, 16, 17, 18, 19, 20, 6, 21, 22, 23, 24, 25, 26, 27, 28, 29, 30, 31, 32, 33, 34, 35, 36, 37, 38, 39, 40, 41, 42, 43, 44, 45, 46, 47, 48, 49, 50, 51, 52, 53, 54, 55, 56, 57, 58, 59, 60, 61, 62, 63, 64, 65, 66, 67, 68, 69, 70, 71, 72, 73, 74, 75, 76, 77, 78, 79, 80, 81, 82] (by decide +kernel) (by decide +kernel)) (goodIn_sub (fun _ h => List.mem_cons_of_mem _ (List.mem_append_left _ (List.mem_append_left _ (List.mem_append_right _ h)))) (by decide +kernel))) (goodIn_sub (fun _ h => List.mem_cons_of_mem _ (List.mem_append_left _ (List.mem_append_right _ h))) (by decide +kernel))) (goodIn_sub (fun _ h => List.mem_cons_of_mem _ (List.mem_append_right _ h)) (by decide +kernel))
set_option maxRecDepth 20000 in
theorem gL_matchLength_X8_matchLength : GoodIn wsL_matchLength (wsV RL 74 RX8 yX8_matchLength wsX8_matchLength) := goodIn_app (goodIn_of _ (by decide +kernel)) ggL_matchLength_X8_matchLength
theorem dL_matchLength_0 : decode cL_matchLength 0 = .ok (.aload_n 0, 1) := by decide +kernel
theorem dL_matchLength_1 : decode cL_matchLength 1 = .ok (.iload_n 1, 1) := by decide +kernel
theorem dL_matchLength_2 : decode cL_matchLength 2 = .ok (.invokevirtual 74, 3) := by decide +kernel
theorem dL_matchLength_5 : decode cL_matchLength 5 = .ok (.ireturn, 1) := by decide +kernel
theorem dL_matchLength_6 : decode cL_matchLength 6 = .ok (.astore_n 2, 1) := by decide +kernel
theorem dL_matchLength_7 : decode cL_matchLength 7 = .ok (.ldc 27, 2) := by decide +kernel
theorem dL_matchLength_9 : decode cL_matchLength 9 = .ok (.ireturn, 1) := by decide +kernel
set_option maxRecDepth 20000 in
theorem ggL_rangeOfRates_X8_rangeOfRates : GoodIn wsL_rangeOfRates wsX8_rangeOfRates := goodIn_ca (goodIn_ca (goodIn_ca (goodIn_r _ [7, 8, 9, 10, 6, 11, 12, 13, 14, 15, 16, 17, 18, 19, 20, 21, 22, 23, 24, 25, 26, 27, 28, 29, 30, 31, 32, 33, 34, 35, 36, 37, 38, 39, 40, 41, 42, 43, 44, 45, 46, 47, 48, 49, 50, 51, 52, 53, 54, 55, 56, 57, 58, 59, 60, 61, 62, 63, 64, 65, 66, 67, 68, 69, 70, 71, 72, 73, 74, 75, 76, 77, 78, 79, 80, 81, 82, 83, 84, 85, 86, 87, 88, 89, 90, 91, 92, 93, 94, 95, 96, 97, 98, 99, 100, 101, 102, 103, 104, 105, 106, 107, 108, 109, 110, 111, 112, 113, 114, 115, 116, 117, 118, 119, 120, 121] (by decide +kernel) (by decide +kernel)) (goodIn_sub (fun _ h => List.mem_cons_of_mem _ (List.mem_append_left _ (List.mem_append_left _ (List.mem_append_right _ h)))) (by decide +kernel))) (goodIn_sub (fun _ h => List.mem_cons_of_mem _ (List.mem_append_left _ (List.mem_append_right _ h))) (by decide +kernel))) (goodIn_sub (fun _ h => List.mem_cons_of_mem _ (List.mem_append_right _ h)) (by decide +kernel))
set_option maxRecDepth 20000 in
theorem gL_rangeOfRates_X8_rangeOfRates : GoodIn wsL_rangeOfRates (wsV RL 77 RX8 yX8_rangeOfRates wsX8_rangeOfRates) := goodIn_app (goodIn_of _ (by decide +kernel)) ggL_rangeOfRates_X8_rangeOfRates
theorem dL_rangeOfRates_0 : decode cL_rangeOfRates 0 = .ok (.aload_n 0, 1) := by decide +kernel
theorem dL_rangeOfRates_1 : decode cL_rangeOfRates 1 = .ok (.iload_n 1, 1) := by decide +kernel
theorem dL_rangeOfRates_2 : decode cL_rangeOfRates 2 = .ok (.iload_n 2, 1) := by decide +kernel
theorem dL_rangeOfRates_3 : decode cL_rangeOfRates 3 = .ok (.invokevirtual 77, 3) := by decide +kernel
theorem dL_rangeOfRates_6 : decode cL_rangeOfRates 6 = .ok (.ireturn, 1) := by decide +kernel
theorem dL_rangeOfRates_7 : decode cL_rangeOfRates 7 = .ok (.astore_n 3, 1) := by decide +kernel
theorem dL_rangeOfRates_8 : decode cL_rangeOfRates 8 = .ok (.ldc 17, 2) := by decide +kernel
theorem dL_rangeOfRates_10 : decode cL_rangeOfRates 10 = .ok (.ireturn, 1) := by decide +kernel
set_option maxRecDepth 20000 in
theorem ggL_changeWithin_X8_changeWithin : GoodIn wsL_changeWithin wsX8_changeWithin := goodIn_ca (goodIn_ca (goodIn_ca (goodIn_r _ [7, 8, 9, 10, 6, 11, 12, 13, 14, 15, 16, 17, 18, 19, 20, 21, 22, 23, 24, 25, 26, 27, 28, 29, 30, 31, 32, 33, 34, 35, 36, 37, 38, 39, 40, 41, 42, 43, 44, 45, 46, 47, 48, 49, 50, 51, 52, 53, 54, 55, 56, 57, 58, 59, 60, 61, 62, 63, 64, 65, 66, 67, 68, 69, 70, 71, 72, 73, 74, 75, 76, 77, 78, 79, 80, 81, 82, 83, 84, 85, 86, 87, 88, 89, 90, 91, 92, 93, 94, 95, 96, 97, 98, 99, 100, 101, 102, 103, 104, 105, 106, 107, 108, 109, 110, 111, 112, 113, 114, 115, 116, 117, 118, 119, 120, 121, 122, 123] (by decide +kernel) (by decide +kernel)) (goodIn_sub (fun _ h => List.mem_cons_of_mem _ (List.mem_append_left _ (List.mem_append_left _ (List.mem_append_right _ h)))) (by decide +kernel))) (goodIn_sub (fun _ h => List.mem_cons_of_mem _ (List.mem_append_left _ (List.mem_append_right _ h))) (by decide +kernel))) (goodIn_sub (fun _ h => List.mem_cons_of_mem _ (List.mem_append_right _ h)) (by decide +kernel))
set_option maxRecDepth 20000 in
theorem gL_changeWithin_X8_changeWithin : GoodIn wsL_changeWithin (wsV RL 80 RX8 yX8_changeWithin wsX8_changeWithin) := goodIn_app (goodIn_of _ (by decide +kernel)) ggL_changeWithin_X8_changeWithin
theorem dL_changeWithin_0 : decode cL_changeWithin 0 = .ok (.aload_n 0, 1) := by decide +kernel
theorem dL_changeWithin_1 : decode cL_changeWithin 1 = .ok (.iload_n 1, 1) := by decide +kernel
theorem dL_changeWithin_2 : decode cL_changeWithin 2 = .ok (.invokevirtual 80, 3) := by decide +kernel
theorem dL_changeWithin_5 : decode cL_changeWithin 5 = .ok (.lreturn, 1) := by decide +kernel
theorem dL_changeWithin_6 : decode cL_changeWithin 6 = .ok (.astore_n 2, 1) := by decide +kernel
theorem dL_changeWithin_7 : decode cL_changeWithin 7 = .ok (.ldc2_w 69, 3) := by decide +kernel
theorem dL_changeWithin_10 : decode cL_changeWithin 10 = .ok (.lreturn, 1) := by decide +kernel
set_option maxRecDepth 20000 in
theorem ggL_type_X8_type : GoodIn wsL_type wsX8_type := goodIn_ca (goodIn_ca (goodIn_ca (goodIn_r _ [9, 10, 11, 12, 13, 14, 15, 16, 17, 8, 18, 19, 20, 21, 22, 23, 24, 25, 26, 27, 28, 29, 30, 31, 32, 33, 34, 35, 36, 37, 38, 39, 40, 41, 42] (by decide +kernel) (by decide +kernel)) (goodIn_sub (fun _ h => List.mem_cons_of_mem _ (List.mem_append_left _ (List.mem_append_left _ (List.mem_append_right _ h)))) (by decide +kernel))) (goodIn_sub (fun _ h => List.mem_cons_of_mem _ (List.mem_append_left _ (List.mem_append_right _ h))) (by decide +kernel))) (goodIn_sub (fun _ h => List.mem_cons_of_mem _ (List.mem_append_right _ h)) (by decide +kernel))
set_option maxRecDepth 20000 in
theorem gL_type_X8_type : GoodIn wsL_type (wsV RL 84 RX8 yX8_type wsX8_type) := goodIn_app (goodIn_of _ (by decide +kernel)) ggL_type_X8_type
theorem dL_type_0 : decode cL_type 0 = .ok (.aload_n 0, 1) := by decide +kernel
theorem dL_type_1 : decode cL_type 1 = .ok (.iload_n 1, 1) := by decide +kernel
theorem dL_type_2 : decode cL_type 2 = .ok (.invokevirtual 84, 3) := by decide +kernel
theorem dL_type_5 : decode cL_type 5 = .ok (.ireturn, 1) := by decide +kernel
theorem dL_type_6 : decode cL_type 6 = .ok (.astore_n 2, 1) := by decide +kernel
theorem dL_type_7 : decode cL_type 7 = .ok (.ldc 17, 2) := by decide +kernel
theorem dL_type_9 : decode cL_type 9 = .ok (.ireturn, 1) := by decide +kernel
theorem dL_type_10 : decode cL_type 10 = .ok (.astore_n 2, 1) := by decide +kernel
theorem dL_type_11 : decode cL_type 11 = .ok (.ldc 20, 2) := by decide +kernel
theorem dL_type_13 : decode cL_type 13 = .ok (.ireturn, 1) := by decide +kernel
set_option maxRecDepth 20000 in
theorem ggL_undo_X8_undo : GoodIn wsL_undo wsX8_undo := goodIn_ca (goodIn_ca (goodIn_ca (goodIn_r _ [7, 8, 9, 10, 11, 12, 6, 13, 14, 15, 16, 17, 18, 19, 20, 21, 22, 23, 24, 25, 26, 27, 28, 29, 30, 31, 32, 33, 34, 35, 36, 37, 38, 39, 40, 41, 42, 43, 44, 45, 46, 47, 48, 49, 50, 51, 52, 53, 54, 55, 56, 57, 58, 59, 60, 61, 62, 63, 64, 65, 66, 67, 68, 69, 70, 71, 72, 73, 74, 75, 76, 77, 78, 79, 80, 81, 82, 83, 84, 85, 86, 87, 88, 89, 90, 91, 92, 93, 94, 95, 96, 97, 98, 99, 100, 101, 102, 103, 104, 105] (by decide +kernel) (by decide +kernel)) (goodIn_sub (fun _ h => List.mem_cons_of_mem _ (List.mem_append_left _ (List.mem_append_left _ (List.mem_append_right _ h)))) (by decide +kernel))) (goodIn_sub (fun _ h => List.mem_cons_of_mem _ (List.mem_append_left _ (List.mem_append_right _ h))) (by decide +kernel))) (goodIn_sub (fun _ h => List.mem_cons_of_mem _ (List.mem_append_right _ h)) (by decide +kernel))
set_option maxRecDepth 20000 in
theorem gL_undo_X8_undo : GoodIn wsL_undo (wsV RL 87 RX8 yX8_undo wsX8_undo) := goodIn_app (goodIn_of _ (by decide +kernel)) ggL_undo_X8_undo
theorem dL_undo_0 : decode cL_undo 0 = .ok (.aload_n 0, 1) := by decide +kernel
theorem dL_undo_1 : decode cL_undo 1 = .ok (.invokevirtual 87, 3) := by decide +kernel
theorem dL_undo_4 : decode cL_undo 4 = .ok (.ireturn, 1) := by decide +kernel
theorem dL_undo_5 : decode cL_undo 5 = .ok (.astore_n 1, 1) := by decide +kernel
theorem dL_undo_6 : decode cL_undo 6 = .ok (.ldc 20, 2) := by decide +kernel
theorem dL_undo_8 : decode cL_undo 8 = .ok (.ireturn, 1) := by decide +kernel
set_option maxRecDepth 20000 in
theorem ggL_sound_L_whole : GoodIn wsL_sound wsL_whole := goodIn_ca (goodIn_ca (goodIn_ca (goodIn_r _ [12, 13, 14, 15, 16, 17, 18, 19, 20, 21, 22, 23, 24, 25, 26, 27, 28, 29, 30, 31, 32, 33, 34, 35, 36, 37, 38, 39, 40, 41, 42, 43, 44, 45, 46, 47, 48, 49, 50, 51, 52, 53, 54, 55, 56, 57, 58, 59, 60, 61, 62, 63, 64, 65, 66, 67, 68, 69, 70, 71, 72, 73, 74, 75, 76, 77, 78, 79, 80, 81, 82, 83, 84, 85, 86, 87, 88, 89, 90, 91, 92, 93, 94, 95, 96, 97, 98, 99, 100, 101, 102, 103, 104, 105, 106, 107, 108, 109, 110, 111, 112, 113, 114, 115, 116, 222, 223, 224, 225, 226, 227, 228, 229, 230, 231, 232, 233, 234, 235, 236, 237, 238, 239, 240, 241, 242, 243, 244, 245, 246, 247, 248, 249, 250, 251, 252, 253, 254] (by decide +kernel) (by decide +kernel)) (goodIn_sub (fun _ h => List.mem_cons_of_mem _ (List.mem_append_left _ (List.mem_append_left _ (List.mem_append_right _ h)))) (by decide +kernel))) (goodIn_sub (fun _ h => List.mem_cons_of_mem _ (List.mem_append_left _ (List.mem_append_right _ h))) (by decide +kernel))) (goodIn_sub (fun _ h => List.mem_cons_of_mem _ (List.mem_append_right _ h)) (by decide +kernel))
set_option maxRecDepth 20000 in
theorem gL_sound_L_whole : GoodIn wsL_sound (va_wsS RL 93 yL_whole wsL_whole) := goodIn_app (goodIn_of _ (by decide +kernel)) ggL_sound_L_whole
set_option maxRecDepth 20000 in
theorem ggL_sound_L_rod : GoodIn wsL_sound wsL_rod := goodIn_ca (goodIn_ca (goodIn_ca (goodIn_r _ [119, 120, 13, 121, 14, 122, 123, 124, 18, 125, 22, 126, 127, 128, 129, 130, 131, 73, 132, 133, 134, 135, 136, 75, 24, 25, 26, 27, 28, 29, 30, 31, 32, 33, 34, 23, 137, 138, 139, 140, 82, 76, 77, 78, 79, 80, 81, 83, 84, 85, 86, 87, 88, 89, 90, 91, 92, 93, 222, 223, 224, 232, 233, 234, 241, 242, 243, 244, 245, 246, 247, 248, 249, 250, 251, 252, 235, 236, 237, 238, 239, 240] (by decide +kernel) (by decide +kernel)) (goodIn_sub (fun _ h => List.mem_cons_of_mem _ (List.mem_append_left _ (List.mem_append_left _ (List.mem_append_right _ h)))) (by decide +kernel))) (goodIn_sub (fun _ h => List.mem_cons_of_mem _ (List.mem_append_left _ (List.mem_append_right _ h))) (by decide +kernel))) (goodIn_sub (fun _ h => List.mem_cons_of_mem _ (List.mem_append_right _ h)) (by decide +kernel))
set_option maxRecDepth 20000 in
theorem gL_sound_L_rod : GoodIn wsL_sound (va_wsS RL 98 yL_rod wsL_rod) := goodIn_app (goodIn_of _ (by decide +kernel)) ggL_sound_L_rod
set_option maxRecDepth 20000 in
theorem ggL_sound_L_stretch : GoodIn wsL_sound wsL_stretch := goodIn_ca (goodIn_ca (goodIn_ca (goodIn_r _ [143, 120, 121, 144, 145, 146, 18, 147, 22, 126, 148, 149, 150, 73, 151, 152, 153, 154, 155, 88, 24, 25, 26, 27, 28, 29, 30, 31, 32, 33, 34, 156, 85, 86, 87, 89, 222, 223, 224, 232, 233, 234, 235, 236, 237, 238, 239, 240] (by decide +kernel) (by decide +kernel)) (goodIn_sub (fun _ h => List.mem_cons_of_mem _ (List.mem_append_left _ (List.mem_append_left _ (List.mem_append_right _ h)))) (by decide +kernel))) (goodIn_sub (fun _ h => List.mem_cons_of_mem _ (List.mem_append_left _ (List.mem_append_right _ h))) (by decide +kernel))) (goodIn_sub (fun _ h => List.mem_cons_of_mem _ (List.mem_append_right _ h)) (by decide +kernel))
set_option maxRecDepth 20000 in
theorem gL_sound_L_stretch : GoodIn wsL_sound (va_wsS RL 101 yL_stretch wsL_stretch) := goodIn_app (goodIn_of _ (by decide +kernel)) ggL_sound_L_stretch
set_option maxRecDepth 20000 in
theorem ggL_sound_L_day : GoodIn wsL_sound wsL_day := goodIn_ca (goodIn_ca (goodIn_ca (goodIn_r _ [159, 13, 160, 161, 162, 163, 18, 164, 22, 165, 23, 24, 25, 26, 27, 28, 29, 30, 31, 32, 33, 34, 166, 167, 168, 169, 170, 171, 172, 173, 222, 223, 224, 232, 233, 234, 253, 254] (by decide +kernel) (by decide +kernel)) (goodIn_sub (fun _ h => List.mem_cons_of_mem _ (List.mem_append_left _ (List.mem_append_left _ (List.mem_append_right _ h)))) (by decide +kernel))) (goodIn_sub (fun _ h => List.mem_cons_of_mem _ (List.mem_append_left _ (List.mem_append_right _ h))) (by decide +kernel))) (goodIn_sub (fun _ h => List.mem_cons_of_mem _ (List.mem_append_right _ h)) (by decide +kernel))
set_option maxRecDepth 20000 in
theorem gL_sound_L_day : GoodIn wsL_sound (va_wsS RL 111 yL_day wsL_day) := goodIn_app (goodIn_of _ (by decide +kernel)) ggL_sound_L_day
set_option maxRecDepth 20000 in
theorem ggL_sound_X8_rates : GoodIn wsL_sound wsX8_rates := goodIn_r _ [177, 22, 127, 178, 222, 223, 224, 232, 233, 234, 241, 242, 243, 244, 245, 246, 247, 248, 249, 250, 251, 252] (by decide +kernel) (by decide +kernel)
set_option maxRecDepth 20000 in
theorem gL_sound_X8_rates : GoodIn wsL_sound (wsV RL 120 RX8 yX8_rates wsX8_rates) := goodIn_app (goodIn_of _ (by decide +kernel)) ggL_sound_X8_rates
set_option maxRecDepth 20000 in
theorem ggL_sound_X8_balance : GoodIn wsL_sound wsX8_balance := goodIn_r _ [182, 22, 126, 183, 184, 185, 73, 186, 75, 187, 188, 189, 190, 76, 77, 82, 84, 85, 86, 87, 88, 89, 222, 223, 224, 232, 233, 234, 235, 236, 237, 238, 239, 240] (by decide +kernel) (by decide +kernel)
set_option maxRecDepth 20000 in
theorem gL_sound_X8_balance : GoodIn wsL_sound (wsV RL 124 RX8 yX8_balance wsX8_balance) := goodIn_app (goodIn_of _ (by decide +kernel)) ggL_sound_X8_balance
set_option maxRecDepth 20000 in
theorem ggL_sound_L_rateAt : GoodIn wsL_sound wsL_rateAt := goodIn_ca (goodIn_ca (goodIn_ca (goodIn_r _ [193, 13, 14, 194, 195, 196, 18, 197, 22, 127, 198, 199, 200, 201, 23, 24, 25, 26, 27, 28, 29, 30, 31, 32, 33, 34, 202, 95, 96, 38, 97, 43, 46, 40, 70, 71, 72, 73, 74, 75, 76, 77, 78, 79, 80, 81, 82, 83, 84, 85, 86, 87, 88, 89, 90, 91, 92, 93, 98, 99, 100, 101, 51, 69, 102, 103, 104, 105, 106, 107, 108, 109, 110, 111, 112, 113, 114, 115, 116, 60, 61, 62, 57, 63, 64, 55, 56, 58, 59, 222, 223, 224, 232, 233, 234, 241, 242, 243, 244, 245, 246, 247, 248, 249, 250, 251, 252, 235, 236, 237, 238, 239, 240] (by decide +kernel) (by decide +kernel)) (goodIn_sub (fun _ h => List.mem_cons_of_mem _ (List.mem_append_left _ (List.mem_append_left _ (List.mem_append_right _ h)))) (by decide +kernel))) (goodIn_sub (fun _ h => List.mem_cons_of_mem _ (List.mem_append_left _ (List.mem_append_right _ h))) (by decide +kernel))) (goodIn_sub (fun _ h => List.mem_cons_of_mem _ (List.mem_append_right _ h)) (by decide +kernel))
set_option maxRecDepth 20000 in
theorem gL_sound_L_rateAt : GoodIn wsL_sound (va_wsS RL 127 yL_rateAt wsL_rateAt) := goodIn_app (goodIn_of _ (by decide +kernel)) ggL_sound_L_rateAt
set_option maxRecDepth 20000 in
theorem ggL_sound_X8_meanRate : GoodIn wsL_sound wsX8_meanRate := goodIn_r _ [206, 22, 127, 207, 178, 222, 223, 224, 232, 233, 234, 241, 242, 243, 244, 245, 246, 247, 248, 249, 250, 251, 252] (by decide +kernel) (by decide +kernel)
set_option maxRecDepth 20000 in
theorem gL_sound_X8_meanRate : GoodIn wsL_sound (wsV RL 129 RX8 yX8_meanRate wsX8_meanRate) := goodIn_app (goodIn_of _ (by decide +kernel)) ggL_sound_X8_meanRate
set_option maxRecDepth 20000 in
theorem ggL_sound_X8_balanceBits : GoodIn wsL_sound wsX8_balanceBits := goodIn_r _ [211, 22, 126, 212, 213, 214, 73, 215, 75, 77, 183, 184, 185, 186, 187, 188, 189, 190, 76, 82, 84, 85, 86, 87, 88, 89, 216, 217, 18, 218, 219, 220, 221, 222, 223, 224, 232, 233, 234, 235, 236, 237, 238, 239, 240] (by decide +kernel) (by decide +kernel)
set_option maxRecDepth 20000 in
theorem gL_sound_X8_balanceBits : GoodIn wsL_sound (wsV RL 133 RX8 yX8_balanceBits wsX8_balanceBits) := goodIn_app (goodIn_of _ (by decide +kernel)) ggL_sound_X8_balanceBits
theorem dL_sound_0 : decode cL_sound 0 = .ok (.ldc2_w 91, 3) := by decide +kernel
theorem dL_sound_3 : decode cL_sound 3 = .ok (.aload_n 0, 1) := by decide +kernel
theorem dL_sound_4 : decode cL_sound 4 = .ok (.iconst 4, 1) := by decide +kernel
theorem dL_sound_5 : decode cL_sound 5 = .ok (.invokestatic 93, 3) := by decide +kernel
theorem dL_sound_8 : decode cL_sound 8 = .ok (.i2l, 1) := by decide +kernel
theorem dL_sound_9 : decode cL_sound 9 = .ok (.lmul, 1) := by decide +kernel
theorem dL_sound_10 : decode cL_sound 10 = .ok (.lstore_n 1, 1) := by decide +kernel
theorem dL_sound_11 : decode cL_sound 11 = .ok (.lconst 0, 1) := by decide +kernel
theorem dL_sound_12 : decode cL_sound 12 = .ok (.lstore_n 3, 1) := by decide +kernel
theorem dL_sound_13 : decode cL_sound 13 = .ok (.aload_n 0, 1) := by decide +kernel
theorem dL_sound_14 : decode cL_sound 14 = .ok (.iconst 3, 1) := by decide +kernel
theorem dL_sound_15 : decode cL_sound 15 = .ok (.invokestatic 93, 3) := by decide +kernel
theorem dL_sound_18 : decode cL_sound 18 = .ok (.istore 5, 2) := by decide +kernel
theorem dL_sound_20 : decode cL_sound 20 = .ok (.iconst 0, 1) := by decide +kernel
theorem dL_sound_21 : decode cL_sound 21 = .ok (.istore 6, 2) := by decide +kernel
theorem dL_sound_23 : decode cL_sound 23 = .ok (.iload 6, 2) := by decide +kernel
theorem dL_sound_25 : decode cL_sound 25 = .ok (.aload_n 0, 1) := by decide +kernel
theorem dL_sound_26 : decode cL_sound 26 = .ok (.iconst 1, 1) := by decide +kernel
theorem dL_sound_27 : decode cL_sound 27 = .ok (.invokestatic 93, 3) := by decide +kernel
theorem dL_sound_30 : decode cL_sound 30 = .ok (.if_icmp .ge 191, 3) := by decide +kernel
theorem dL_sound_33 : decode cL_sound 33 = .ok (.aload_n 0, 1) := by decide +kernel
theorem dL_sound_34 : decode cL_sound 34 = .ok (.iload 6, 2) := by decide +kernel
theorem dL_sound_36 : decode cL_sound 36 = .ok (.iconst 2, 1) := by decide +kernel
theorem dL_sound_37 : decode cL_sound 37 = .ok (.invokestatic 98, 3) := by decide +kernel
theorem dL_sound_40 : decode cL_sound 40 = .ok (.i2l, 1) := by decide +kernel
theorem dL_sound_41 : decode cL_sound 41 = .ok (.aload_n 0, 1) := by decide +kernel
theorem dL_sound_42 : decode cL_sound 42 = .ok (.aload_n 0, 1) := by decide +kernel
theorem dL_sound_43 : decode cL_sound 43 = .ok (.iload 6, 2) := by decide +kernel
theorem dL_sound_45 : decode cL_sound 45 = .ok (.iconst 0, 1) := by decide +kernel
theorem dL_sound_46 : decode cL_sound 46 = .ok (.invokestatic 98, 3) := by decide +kernel
theorem dL_sound_49 : decode cL_sound 49 = .ok (.invokestatic 101, 3) := by decide +kernel
theorem dL_sound_52 : decode cL_sound 52 = .ok (.i2l, 1) := by decide +kernel
theorem dL_sound_53 : decode cL_sound 53 = .ok (.lmul, 1) := by decide +kernel
theorem dL_sound_54 : decode cL_sound 54 = .ok (.iload 5, 2) := by decide +kernel
theorem dL_sound_56 : decode cL_sound 56 = .ok (.sipush 200, 3) := by decide +kernel
theorem dL_sound_59 : decode cL_sound 59 = .ok (.isub, 1) := by decide +kernel
theorem dL_sound_60 : decode cL_sound 60 = .ok (.i2l, 1) := by decide +kernel
theorem dL_sound_61 : decode cL_sound 61 = .ok (.lmul, 1) := by decide +kernel
theorem dL_sound_62 : decode cL_sound 62 = .ok (.lstore 7, 2) := by decide +kernel
theorem dL_sound_64 : decode cL_sound 64 = .ok (.aload_n 0, 1) := by decide +kernel
theorem dL_sound_65 : decode cL_sound 65 = .ok (.iload 6, 2) := by decide +kernel
theorem dL_sound_67 : decode cL_sound 67 = .ok (.iconst 3, 1) := by decide +kernel
theorem dL_sound_68 : decode cL_sound 68 = .ok (.invokestatic 98, 3) := by decide +kernel
theorem dL_sound_71 : decode cL_sound 71 = .ok (.i2l, 1) := by decide +kernel
theorem dL_sound_72 : decode cL_sound 72 = .ok (.lstore 9, 2) := by decide +kernel
theorem dL_sound_74 : decode cL_sound 74 = .ok (.lload_n 1, 1) := by decide +kernel
theorem dL_sound_75 : decode cL_sound 75 = .ok (.aload_n 0, 1) := by decide +kernel
theorem dL_sound_76 : decode cL_sound 76 = .ok (.iload 6, 2) := by decide +kernel
theorem dL_sound_78 : decode cL_sound 78 = .ok (.iconst 1, 1) := by decide +kernel
theorem dL_sound_79 : decode cL_sound 79 = .ok (.invokestatic 98, 3) := by decide +kernel
theorem dL_sound_82 : decode cL_sound 82 = .ok (.i2l, 1) := by decide +kernel
theorem dL_sound_83 : decode cL_sound 83 = .ok (.aload_n 0, 1) := by decide +kernel
theorem dL_sound_84 : decode cL_sound 84 = .ok (.iload 6, 2) := by decide +kernel
theorem dL_sound_86 : decode cL_sound 86 = .ok (.iconst 4, 1) := by decide +kernel
theorem dL_sound_87 : decode cL_sound 87 = .ok (.invokestatic 98, 3) := by decide +kernel
theorem dL_sound_90 : decode cL_sound 90 = .ok (.i2l, 1) := by decide +kernel
theorem dL_sound_91 : decode cL_sound 91 = .ok (.lmul, 1) := by decide +kernel
theorem dL_sound_92 : decode cL_sound 92 = .ok (.ladd, 1) := by decide +kernel
theorem dL_sound_93 : decode cL_sound 93 = .ok (.lstore_n 1, 1) := by decide +kernel
theorem dL_sound_94 : decode cL_sound 94 = .ok (.lload_n 3, 1) := by decide +kernel
theorem dL_sound_95 : decode cL_sound 95 = .ok (.aload_n 0, 1) := by decide +kernel
theorem dL_sound_96 : decode cL_sound 96 = .ok (.iload 6, 2) := by decide +kernel
theorem dL_sound_98 : decode cL_sound 98 = .ok (.iconst 1, 1) := by decide +kernel
theorem dL_sound_99 : decode cL_sound 99 = .ok (.invokestatic 98, 3) := by decide +kernel
theorem dL_sound_102 : decode cL_sound 102 = .ok (.i2l, 1) := by decide +kernel
theorem dL_sound_103 : decode cL_sound 103 = .ok (.aload_n 0, 1) := by decide +kernel
theorem dL_sound_104 : decode cL_sound 104 = .ok (.iload 6, 2) := by decide +kernel
theorem dL_sound_106 : decode cL_sound 106 = .ok (.iconst 2, 1) := by decide +kernel
theorem dL_sound_107 : decode cL_sound 107 = .ok (.invokestatic 98, 3) := by decide +kernel
theorem dL_sound_110 : decode cL_sound 110 = .ok (.i2l, 1) := by decide +kernel
theorem dL_sound_111 : decode cL_sound 111 = .ok (.lmul, 1) := by decide +kernel
theorem dL_sound_112 : decode cL_sound 112 = .ok (.aload_n 0, 1) := by decide +kernel
theorem dL_sound_113 : decode cL_sound 113 = .ok (.aload_n 0, 1) := by decide +kernel
theorem dL_sound_114 : decode cL_sound 114 = .ok (.iload 6, 2) := by decide +kernel
theorem dL_sound_116 : decode cL_sound 116 = .ok (.iconst 0, 1) := by decide +kernel
theorem dL_sound_117 : decode cL_sound 117 = .ok (.invokestatic 98, 3) := by decide +kernel
theorem dL_sound_120 : decode cL_sound 120 = .ok (.invokestatic 101, 3) := by decide +kernel
theorem dL_sound_123 : decode cL_sound 123 = .ok (.i2l, 1) := by decide +kernel
theorem dL_sound_124 : decode cL_sound 124 = .ok (.lmul, 1) := by decide +kernel
theorem dL_sound_125 : decode cL_sound 125 = .ok (.ladd, 1) := by decide +kernel
theorem dL_sound_126 : decode cL_sound 126 = .ok (.lstore_n 3, 1) := by decide +kernel
theorem dL_sound_127 : decode cL_sound 127 = .ok (.aload_n 0, 1) := by decide +kernel
theorem dL_sound_128 : decode cL_sound 128 = .ok (.iload 6, 2) := by decide +kernel
theorem dL_sound_130 : decode cL_sound 130 = .ok (.iconst 4, 1) := by decide +kernel
theorem dL_sound_131 : decode cL_sound 131 = .ok (.invokestatic 98, 3) := by decide +kernel
theorem dL_sound_134 : decode cL_sound 134 = .ok (.i2l, 1) := by decide +kernel
theorem dL_sound_135 : decode cL_sound 135 = .ok (.aload_n 0, 1) := by decide +kernel
theorem dL_sound_136 : decode cL_sound 136 = .ok (.iload 6, 2) := by decide +kernel
theorem dL_sound_138 : decode cL_sound 138 = .ok (.iconst 2, 1) := by decide +kernel
theorem dL_sound_139 : decode cL_sound 139 = .ok (.invokestatic 98, 3) := by decide +kernel
theorem dL_sound_142 : decode cL_sound 142 = .ok (.i2l, 1) := by decide +kernel
theorem dL_sound_143 : decode cL_sound 143 = .ok (.lload 9, 2) := by decide +kernel
theorem dL_sound_145 : decode cL_sound 145 = .ok (.ladd, 1) := by decide +kernel
theorem dL_sound_146 : decode cL_sound 146 = .ok (.lcmp, 1) := by decide +kernel
theorem dL_sound_147 : decode cL_sound 147 = .ok (.ifCond .ne 66, 3) := by decide +kernel
theorem dL_sound_150 : decode cL_sound 150 = .ok (.lload 9, 2) := by decide +kernel
theorem dL_sound_152 : decode cL_sound 152 = .ok (.ldc2_w 103, 3) := by decide +kernel
theorem dL_sound_155 : decode cL_sound 155 = .ok (.lmul, 1) := by decide +kernel
theorem dL_sound_156 : decode cL_sound 156 = .ok (.lload 7, 2) := by decide +kernel
theorem dL_sound_158 : decode cL_sound 158 = .ok (.lcmp, 1) := by decide +kernel
theorem dL_sound_159 : decode cL_sound 159 = .ok (.ifCond .gt 54, 3) := by decide +kernel
theorem dL_sound_162 : decode cL_sound 162 = .ok (.lload 9, 2) := by decide +kernel
theorem dL_sound_164 : decode cL_sound 164 = .ok (.lconst 1, 1) := by decide +kernel
theorem dL_sound_165 : decode cL_sound 165 = .ok (.ladd, 1) := by decide +kernel
theorem dL_sound_166 : decode cL_sound 166 = .ok (.ldc2_w 103, 3) := by decide +kernel
theorem dL_sound_169 : decode cL_sound 169 = .ok (.lmul, 1) := by decide +kernel
theorem dL_sound_170 : decode cL_sound 170 = .ok (.lload 7, 2) := by decide +kernel
theorem dL_sound_172 : decode cL_sound 172 = .ok (.lcmp, 1) := by decide +kernel
theorem dL_sound_173 : decode cL_sound 173 = .ok (.ifCond .le 40, 3) := by decide +kernel
theorem dL_sound_176 : decode cL_sound 176 = .ok (.iload 5, 2) := by decide +kernel
theorem dL_sound_178 : decode cL_sound 178 = .ok (.sipush 200, 3) := by decide +kernel
theorem dL_sound_181 : decode cL_sound 181 = .ok (.if_icmp .ne 10, 3) := by decide +kernel
theorem dL_sound_184 : decode cL_sound 184 = .ok (.lload 9, 2) := by decide +kernel
theorem dL_sound_186 : decode cL_sound 186 = .ok (.lconst 0, 1) := by decide +kernel
theorem dL_sound_187 : decode cL_sound 187 = .ok (.lcmp, 1) := by decide +kernel
theorem dL_sound_188 : decode cL_sound 188 = .ok (.ifCond .ne 25, 3) := by decide +kernel
theorem dL_sound_191 : decode cL_sound 191 = .ok (.aload_n 0, 1) := by decide +kernel
theorem dL_sound_192 : decode cL_sound 192 = .ok (.iload 6, 2) := by decide +kernel
theorem dL_sound_194 : decode cL_sound 194 = .ok (.iconst 1, 1) := by decide +kernel
theorem dL_sound_195 : decode cL_sound 195 = .ok (.invokestatic 98, 3) := by decide +kernel
theorem dL_sound_198 : decode cL_sound 198 = .ok (.iconst 1, 1) := by decide +kernel
theorem dL_sound_199 : decode cL_sound 199 = .ok (.if_icmp .eq 16, 3) := by decide +kernel
theorem dL_sound_202 : decode cL_sound 202 = .ok (.aload_n 0, 1) := by decide +kernel
theorem dL_sound_203 : decode cL_sound 203 = .ok (.iload 6, 2) := by decide +kernel
theorem dL_sound_205 : decode cL_sound 205 = .ok (.iconst 1, 1) := by decide +kernel
theorem dL_sound_206 : decode cL_sound 206 = .ok (.invokestatic 98, 3) := by decide +kernel
theorem dL_sound_209 : decode cL_sound 209 = .ok (.iconst (-1), 1) := by decide +kernel
theorem dL_sound_210 : decode cL_sound 210 = .ok (.if_icmp .eq 5, 3) := by decide +kernel
theorem dL_sound_213 : decode cL_sound 213 = .ok (.iconst 0, 1) := by decide +kernel
theorem dL_sound_214 : decode cL_sound 214 = .ok (.ireturn, 1) := by decide +kernel
theorem dL_sound_215 : decode cL_sound 215 = .ok (.iinc 6 1, 3) := by decide +kernel
theorem dL_sound_218 : decode cL_sound 218 = .ok (.goto (-195), 3) := by decide +kernel
theorem dL_sound_221 : decode cL_sound 221 = .ok (.aload_n 0, 1) := by decide +kernel
theorem dL_sound_222 : decode cL_sound 222 = .ok (.bipush 15, 2) := by decide +kernel
theorem dL_sound_224 : decode cL_sound 224 = .ok (.invokestatic 93, 3) := by decide +kernel
theorem dL_sound_227 : decode cL_sound 227 = .ok (.aload_n 0, 1) := by decide +kernel
theorem dL_sound_228 : decode cL_sound 228 = .ok (.iconst 5, 1) := by decide +kernel
theorem dL_sound_229 : decode cL_sound 229 = .ok (.invokestatic 93, 3) := by decide +kernel
theorem dL_sound_232 : decode cL_sound 232 = .ok (.bipush 8, 2) := by decide +kernel
theorem dL_sound_234 : decode cL_sound 234 = .ok (.idiv, 1) := by decide +kernel
theorem dL_sound_235 : decode cL_sound 235 = .ok (.iadd, 1) := by decide +kernel
theorem dL_sound_236 : decode cL_sound 236 = .ok (.istore 6, 2) := by decide +kernel
theorem dL_sound_238 : decode cL_sound 238 = .ok (.aload_n 0, 1) := by decide +kernel
theorem dL_sound_239 : decode cL_sound 239 = .ok (.bipush 10, 2) := by decide +kernel
theorem dL_sound_241 : decode cL_sound 241 = .ok (.invokestatic 93, 3) := by decide +kernel
theorem dL_sound_244 : decode cL_sound 244 = .ok (.bipush 24, 2) := by decide +kernel
theorem dL_sound_246 : decode cL_sound 246 = .ok (.idiv, 1) := by decide +kernel
theorem dL_sound_247 : decode cL_sound 247 = .ok (.istore 7, 2) := by decide +kernel
theorem dL_sound_249 : decode cL_sound 249 = .ok (.aload_n 0, 1) := by decide +kernel
theorem dL_sound_250 : decode cL_sound 250 = .ok (.bipush 9, 2) := by decide +kernel
theorem dL_sound_252 : decode cL_sound 252 = .ok (.invokestatic 93, 3) := by decide +kernel
theorem dL_sound_255 : decode cL_sound 255 = .ok (.i2l, 1) := by decide +kernel
theorem dL_sound_256 : decode cL_sound 256 = .ok (.aload_n 0, 1) := by decide +kernel
theorem dL_sound_257 : decode cL_sound 257 = .ok (.bipush 7, 2) := by decide +kernel
theorem dL_sound_259 : decode cL_sound 259 = .ok (.invokestatic 93, 3) := by decide +kernel
theorem dL_sound_262 : decode cL_sound 262 = .ok (.i2l, 1) := by decide +kernel
theorem dL_sound_263 : decode cL_sound 263 = .ok (.ladd, 1) := by decide +kernel
theorem dL_sound_264 : decode cL_sound 264 = .ok (.lstore 8, 2) := by decide +kernel
theorem dL_sound_266 : decode cL_sound 266 = .ok (.ldc2_w 105, 3) := by decide +kernel
theorem dL_sound_269 : decode cL_sound 269 = .ok (.aload_n 0, 1) := by decide +kernel
theorem dL_sound_270 : decode cL_sound 270 = .ok (.bipush 13, 2) := by decide +kernel
theorem dL_sound_272 : decode cL_sound 272 = .ok (.invokestatic 93, 3) := by decide +kernel
theorem dL_sound_275 : decode cL_sound 275 = .ok (.i2l, 1) := by decide +kernel
theorem dL_sound_276 : decode cL_sound 276 = .ok (.lload_n 1, 1) := by decide +kernel
theorem dL_sound_277 : decode cL_sound 277 = .ok (.lsub, 1) := by decide +kernel
theorem dL_sound_278 : decode cL_sound 278 = .ok (.lmul, 1) := by decide +kernel
theorem dL_sound_279 : decode cL_sound 279 = .ok (.lstore 10, 2) := by decide +kernel
theorem dL_sound_281 : decode cL_sound 281 = .ok (.lload 8, 2) := by decide +kernel
theorem dL_sound_283 : decode cL_sound 283 = .ok (.ldc2_w 107, 3) := by decide +kernel
theorem dL_sound_286 : decode cL_sound 286 = .ok (.lcmp, 1) := by decide +kernel
theorem dL_sound_287 : decode cL_sound 287 = .ok (.ifCond .ne 19, 3) := by decide +kernel
theorem dL_sound_290 : decode cL_sound 290 = .ok (.lload 10, 2) := by decide +kernel
theorem dL_sound_292 : decode cL_sound 292 = .ok (.lload 8, 2) := by decide +kernel
theorem dL_sound_294 : decode cL_sound 294 = .ok (.aload_n 0, 1) := by decide +kernel
theorem dL_sound_295 : decode cL_sound 295 = .ok (.bipush 13, 2) := by decide +kernel
theorem dL_sound_297 : decode cL_sound 297 = .ok (.invokestatic 93, 3) := by decide +kernel
theorem dL_sound_300 : decode cL_sound 300 = .ok (.i2l, 1) := by decide +kernel
theorem dL_sound_301 : decode cL_sound 301 = .ok (.lmul, 1) := by decide +kernel
theorem dL_sound_302 : decode cL_sound 302 = .ok (.lcmp, 1) := by decide +kernel
theorem dL_sound_303 : decode cL_sound 303 = .ok (.ifCond .ge 28, 3) := by decide +kernel
theorem dL_sound_306 : decode cL_sound 306 = .ok (.lload 8, 2) := by decide +kernel
theorem dL_sound_308 : decode cL_sound 308 = .ok (.ldc2_w 109, 3) := by decide +kernel
theorem dL_sound_311 : decode cL_sound 311 = .ok (.lcmp, 1) := by decide +kernel
theorem dL_sound_312 : decode cL_sound 312 = .ok (.ifCond .ne 23, 3) := by decide +kernel
theorem dL_sound_315 : decode cL_sound 315 = .ok (.lload 10, 2) := by decide +kernel
theorem dL_sound_317 : decode cL_sound 317 = .ok (.lload 8, 2) := by decide +kernel
theorem dL_sound_319 : decode cL_sound 319 = .ok (.aload_n 0, 1) := by decide +kernel
theorem dL_sound_320 : decode cL_sound 320 = .ok (.bipush 13, 2) := by decide +kernel
theorem dL_sound_322 : decode cL_sound 322 = .ok (.invokestatic 93, 3) := by decide +kernel
theorem dL_sound_325 : decode cL_sound 325 = .ok (.i2l, 1) := by decide +kernel
theorem dL_sound_326 : decode cL_sound 326 = .ok (.lmul, 1) := by decide +kernel
theorem dL_sound_327 : decode cL_sound 327 = .ok (.lcmp, 1) := by decide +kernel
theorem dL_sound_328 : decode cL_sound 328 = .ok (.ifCond .gt 7, 3) := by decide +kernel
theorem dL_sound_331 : decode cL_sound 331 = .ok (.iconst 1, 1) := by decide +kernel
theorem dL_sound_332 : decode cL_sound 332 = .ok (.goto 4, 3) := by decide +kernel
theorem dL_sound_335 : decode cL_sound 335 = .ok (.iconst 0, 1) := by decide +kernel
theorem dL_sound_336 : decode cL_sound 336 = .ok (.istore 12, 2) := by decide +kernel
theorem dL_sound_338 : decode cL_sound 338 = .ok (.lconst 0, 1) := by decide +kernel
theorem dL_sound_339 : decode cL_sound 339 = .ok (.lstore 13, 2) := by decide +kernel
theorem dL_sound_341 : decode cL_sound 341 = .ok (.lconst 0, 1) := by decide +kernel
theorem dL_sound_342 : decode cL_sound 342 = .ok (.lstore 15, 2) := by decide +kernel
theorem dL_sound_344 : decode cL_sound 344 = .ok (.iconst 0, 1) := by decide +kernel
theorem dL_sound_345 : decode cL_sound 345 = .ok (.istore 17, 2) := by decide +kernel
theorem dL_sound_347 : decode cL_sound 347 = .ok (.iload 17, 2) := by decide +kernel
theorem dL_sound_349 : decode cL_sound 349 = .ok (.aload_n 0, 1) := by decide +kernel
theorem dL_sound_350 : decode cL_sound 350 = .ok (.bipush 16, 2) := by decide +kernel
theorem dL_sound_352 : decode cL_sound 352 = .ok (.invokestatic 93, 3) := by decide +kernel
theorem dL_sound_355 : decode cL_sound 355 = .ok (.if_icmp .ge 113, 3) := by decide +kernel
theorem dL_sound_358 : decode cL_sound 358 = .ok (.lload 13, 2) := by decide +kernel
theorem dL_sound_360 : decode cL_sound 360 = .ok (.aload_n 0, 1) := by decide +kernel
theorem dL_sound_361 : decode cL_sound 361 = .ok (.iload 17, 2) := by decide +kernel
theorem dL_sound_363 : decode cL_sound 363 = .ok (.iconst 3, 1) := by decide +kernel
theorem dL_sound_364 : decode cL_sound 364 = .ok (.invokestatic 111, 3) := by decide +kernel
theorem dL_sound_367 : decode cL_sound 367 = .ok (.ladd, 1) := by decide +kernel
theorem dL_sound_368 : decode cL_sound 368 = .ok (.lstore 13, 2) := by decide +kernel
theorem dL_sound_370 : decode cL_sound 370 = .ok (.lload 15, 2) := by decide +kernel
theorem dL_sound_372 : decode cL_sound 372 = .ok (.aload_n 0, 1) := by decide +kernel
theorem dL_sound_373 : decode cL_sound 373 = .ok (.iload 17, 2) := by decide +kernel
theorem dL_sound_375 : decode cL_sound 375 = .ok (.iconst 2, 1) := by decide +kernel
theorem dL_sound_376 : decode cL_sound 376 = .ok (.invokestatic 111, 3) := by decide +kernel
theorem dL_sound_379 : decode cL_sound 379 = .ok (.ladd, 1) := by decide +kernel
theorem dL_sound_380 : decode cL_sound 380 = .ok (.lstore 15, 2) := by decide +kernel
theorem dL_sound_382 : decode cL_sound 382 = .ok (.aload_n 0, 1) := by decide +kernel
theorem dL_sound_383 : decode cL_sound 383 = .ok (.iload 17, 2) := by decide +kernel
theorem dL_sound_385 : decode cL_sound 385 = .ok (.iconst 3, 1) := by decide +kernel
theorem dL_sound_386 : decode cL_sound 386 = .ok (.invokestatic 111, 3) := by decide +kernel
theorem dL_sound_389 : decode cL_sound 389 = .ok (.lconst 0, 1) := by decide +kernel
theorem dL_sound_390 : decode cL_sound 390 = .ok (.lcmp, 1) := by decide +kernel
theorem dL_sound_391 : decode cL_sound 391 = .ok (.ifCond .lt 69, 3) := by decide +kernel
theorem dL_sound_394 : decode cL_sound 394 = .ok (.aload_n 0, 1) := by decide +kernel
theorem dL_sound_395 : decode cL_sound 395 = .ok (.iload 17, 2) := by decide +kernel
theorem dL_sound_397 : decode cL_sound 397 = .ok (.iconst 3, 1) := by decide +kernel
theorem dL_sound_398 : decode cL_sound 398 = .ok (.invokestatic 111, 3) := by decide +kernel
theorem dL_sound_401 : decode cL_sound 401 = .ok (.ldc2_w 114, 3) := by decide +kernel
theorem dL_sound_404 : decode cL_sound 404 = .ok (.lcmp, 1) := by decide +kernel
theorem dL_sound_405 : decode cL_sound 405 = .ok (.ifCond .gt 55, 3) := by decide +kernel
theorem dL_sound_408 : decode cL_sound 408 = .ok (.aload_n 0, 1) := by decide +kernel
theorem dL_sound_409 : decode cL_sound 409 = .ok (.iload 17, 2) := by decide +kernel
theorem dL_sound_411 : decode cL_sound 411 = .ok (.iconst 3, 1) := by decide +kernel
theorem dL_sound_412 : decode cL_sound 412 = .ok (.invokestatic 111, 3) := by decide +kernel
theorem dL_sound_415 : decode cL_sound 415 = .ok (.lconst 0, 1) := by decide +kernel
theorem dL_sound_416 : decode cL_sound 416 = .ok (.lcmp, 1) := by decide +kernel
theorem dL_sound_417 : decode cL_sound 417 = .ok (.ifCond .ne 15, 3) := by decide +kernel
theorem dL_sound_420 : decode cL_sound 420 = .ok (.aload_n 0, 1) := by decide +kernel
theorem dL_sound_421 : decode cL_sound 421 = .ok (.iload 17, 2) := by decide +kernel
theorem dL_sound_423 : decode cL_sound 423 = .ok (.iconst 2, 1) := by decide +kernel
theorem dL_sound_424 : decode cL_sound 424 = .ok (.invokestatic 111, 3) := by decide +kernel
theorem dL_sound_427 : decode cL_sound 427 = .ok (.lconst 0, 1) := by decide +kernel
theorem dL_sound_428 : decode cL_sound 428 = .ok (.lcmp, 1) := by decide +kernel
theorem dL_sound_429 : decode cL_sound 429 = .ok (.ifCond .ne 31, 3) := by decide +kernel
theorem dL_sound_432 : decode cL_sound 432 = .ok (.aload_n 0, 1) := by decide +kernel
theorem dL_sound_433 : decode cL_sound 433 = .ok (.iload 17, 2) := by decide +kernel
theorem dL_sound_435 : decode cL_sound 435 = .ok (.iconst 0, 1) := by decide +kernel
theorem dL_sound_436 : decode cL_sound 436 = .ok (.invokestatic 111, 3) := by decide +kernel
theorem dL_sound_439 : decode cL_sound 439 = .ok (.ldc2_w 116, 3) := by decide +kernel
theorem dL_sound_442 : decode cL_sound 442 = .ok (.lcmp, 1) := by decide +kernel
theorem dL_sound_443 : decode cL_sound 443 = .ok (.ifCond .lt 17, 3) := by decide +kernel
theorem dL_sound_446 : decode cL_sound 446 = .ok (.aload_n 0, 1) := by decide +kernel
theorem dL_sound_447 : decode cL_sound 447 = .ok (.iload 17, 2) := by decide +kernel
theorem dL_sound_449 : decode cL_sound 449 = .ok (.iconst 0, 1) := by decide +kernel
theorem dL_sound_450 : decode cL_sound 450 = .ok (.invokestatic 111, 3) := by decide +kernel
theorem dL_sound_453 : decode cL_sound 453 = .ok (.ldc2_w 118, 3) := by decide +kernel
theorem dL_sound_456 : decode cL_sound 456 = .ok (.lcmp, 1) := by decide +kernel
theorem dL_sound_457 : decode cL_sound 457 = .ok (.ifCond .le 5, 3) := by decide +kernel
theorem dL_sound_460 : decode cL_sound 460 = .ok (.iconst 0, 1) := by decide +kernel
theorem dL_sound_461 : decode cL_sound 461 = .ok (.ireturn, 1) := by decide +kernel
theorem dL_sound_462 : decode cL_sound 462 = .ok (.iinc 17 1, 3) := by decide +kernel
theorem dL_sound_465 : decode cL_sound 465 = .ok (.goto (-118), 3) := by decide +kernel
theorem dL_sound_468 : decode cL_sound 468 = .ok (.aload_n 0, 1) := by decide +kernel
theorem dL_sound_469 : decode cL_sound 469 = .ok (.bipush 10, 2) := by decide +kernel
theorem dL_sound_471 : decode cL_sound 471 = .ok (.invokestatic 93, 3) := by decide +kernel
theorem dL_sound_474 : decode cL_sound 474 = .ok (.bipush 24, 2) := by decide +kernel
theorem dL_sound_476 : decode cL_sound 476 = .ok (.irem, 1) := by decide +kernel
theorem dL_sound_477 : decode cL_sound 477 = .ok (.ifCond .ne 14, 3) := by decide +kernel
theorem dL_sound_480 : decode cL_sound 480 = .ok (.iload 7, 2) := by decide +kernel
theorem dL_sound_482 : decode cL_sound 482 = .ok (.bipush 10, 2) := by decide +kernel
theorem dL_sound_484 : decode cL_sound 484 = .ok (.if_icmp .gt 7, 3) := by decide +kernel
theorem dL_sound_487 : decode cL_sound 487 = .ok (.iconst 1, 1) := by decide +kernel
theorem dL_sound_488 : decode cL_sound 488 = .ok (.goto 4, 3) := by decide +kernel
theorem dL_sound_491 : decode cL_sound 491 = .ok (.iconst 0, 1) := by decide +kernel
theorem dL_sound_492 : decode cL_sound 492 = .ok (.istore 17, 2) := by decide +kernel
theorem dL_sound_494 : decode cL_sound 494 = .ok (.aload_n 0, 1) := by decide +kernel
theorem dL_sound_495 : decode cL_sound 495 = .ok (.bipush 11, 2) := by decide +kernel
theorem dL_sound_497 : decode cL_sound 497 = .ok (.invokestatic 93, 3) := by decide +kernel
theorem dL_sound_500 : decode cL_sound 500 = .ok (.ifCond .ne 7, 3) := by decide +kernel
theorem dL_sound_503 : decode cL_sound 503 = .ok (.dconst 0, 1) := by decide +kernel
theorem dL_sound_504 : decode cL_sound 504 = .ok (.goto 16, 3) := by decide +kernel
theorem dL_sound_507 : decode cL_sound 507 = .ok (.aload_n 0, 1) := by decide +kernel
theorem dL_sound_508 : decode cL_sound 508 = .ok (.invokevirtual 120, 3) := by decide +kernel
theorem dL_sound_511 : decode cL_sound 511 = .ok (.l2d, 1) := by decide +kernel
theorem dL_sound_512 : decode cL_sound 512 = .ok (.aload_n 0, 1) := by decide +kernel
theorem dL_sound_513 : decode cL_sound 513 = .ok (.bipush 11, 2) := by decide +kernel
theorem dL_sound_515 : decode cL_sound 515 = .ok (.invokestatic 93, 3) := by decide +kernel
theorem dL_sound_518 : decode cL_sound 518 = .ok (.i2d, 1) := by decide +kernel
theorem dL_sound_519 : decode cL_sound 519 = .ok (.ddiv, 1) := by decide +kernel
theorem dL_sound_520 : decode cL_sound 520 = .ok (.dstore 18, 2) := by decide +kernel
theorem dL_sound_522 : decode cL_sound 522 = .ok (.aload_n 0, 1) := by decide +kernel
theorem dL_sound_523 : decode cL_sound 523 = .ok (.bipush 8, 2) := by decide +kernel
theorem dL_sound_525 : decode cL_sound 525 = .ok (.invokestatic 93, 3) := by decide +kernel
theorem dL_sound_528 : decode cL_sound 528 = .ok (.i2l, 1) := by decide +kernel
theorem dL_sound_529 : decode cL_sound 529 = .ok (.lload_n 1, 1) := by decide +kernel
theorem dL_sound_530 : decode cL_sound 530 = .ok (.lcmp, 1) := by decide +kernel
theorem dL_sound_531 : decode cL_sound 531 = .ok (.ifCond .ne 281, 3) := by decide +kernel
theorem dL_sound_534 : decode cL_sound 534 = .ok (.aload_n 0, 1) := by decide +kernel
theorem dL_sound_535 : decode cL_sound 535 = .ok (.invokevirtual 124, 3) := by decide +kernel
theorem dL_sound_538 : decode cL_sound 538 = .ok (.lload_n 3, 1) := by decide +kernel
theorem dL_sound_539 : decode cL_sound 539 = .ok (.lcmp, 1) := by decide +kernel
theorem dL_sound_540 : decode cL_sound 540 = .ok (.ifCond .ne 272, 3) := by decide +kernel
theorem dL_sound_543 : decode cL_sound 543 = .ok (.iload 12, 2) := by decide +kernel
theorem dL_sound_545 : decode cL_sound 545 = .ok (.ifCond .ne 37, 3) := by decide +kernel
theorem dL_sound_548 : decode cL_sound 548 = .ok (.lload 8, 2) := by decide +kernel
theorem dL_sound_550 : decode cL_sound 550 = .ok (.aload_n 0, 1) := by decide +kernel
theorem dL_sound_551 : decode cL_sound 551 = .ok (.bipush 13, 2) := by decide +kernel
theorem dL_sound_553 : decode cL_sound 553 = .ok (.invokestatic 93, 3) := by decide +kernel
theorem dL_sound_556 : decode cL_sound 556 = .ok (.i2l, 1) := by decide +kernel
theorem dL_sound_557 : decode cL_sound 557 = .ok (.lmul, 1) := by decide +kernel
theorem dL_sound_558 : decode cL_sound 558 = .ok (.lload 10, 2) := by decide +kernel
theorem dL_sound_560 : decode cL_sound 560 = .ok (.lcmp, 1) := by decide +kernel
theorem dL_sound_561 : decode cL_sound 561 = .ok (.ifCond .gt 251, 3) := by decide +kernel
theorem dL_sound_564 : decode cL_sound 564 = .ok (.lload 8, 2) := by decide +kernel
theorem dL_sound_566 : decode cL_sound 566 = .ok (.lconst 1, 1) := by decide +kernel
theorem dL_sound_567 : decode cL_sound 567 = .ok (.ladd, 1) := by decide +kernel
theorem dL_sound_568 : decode cL_sound 568 = .ok (.aload_n 0, 1) := by decide +kernel
theorem dL_sound_569 : decode cL_sound 569 = .ok (.bipush 13, 2) := by decide +kernel
theorem dL_sound_571 : decode cL_sound 571 = .ok (.invokestatic 93, 3) := by decide +kernel
theorem dL_sound_574 : decode cL_sound 574 = .ok (.i2l, 1) := by decide +kernel
theorem dL_sound_575 : decode cL_sound 575 = .ok (.lmul, 1) := by decide +kernel
theorem dL_sound_576 : decode cL_sound 576 = .ok (.lload 10, 2) := by decide +kernel
theorem dL_sound_578 : decode cL_sound 578 = .ok (.lcmp, 1) := by decide +kernel
theorem dL_sound_579 : decode cL_sound 579 = .ok (.ifCond .le 233, 3) := by decide +kernel
theorem dL_sound_582 : decode cL_sound 582 = .ok (.aload_n 0, 1) := by decide +kernel
theorem dL_sound_583 : decode cL_sound 583 = .ok (.bipush 9, 2) := by decide +kernel
theorem dL_sound_585 : decode cL_sound 585 = .ok (.invokestatic 93, 3) := by decide +kernel
theorem dL_sound_588 : decode cL_sound 588 = .ok (.aload_n 0, 1) := by decide +kernel
theorem dL_sound_589 : decode cL_sound 589 = .ok (.iload 5, 2) := by decide +kernel
theorem dL_sound_591 : decode cL_sound 591 = .ok (.invokestatic 127, 3) := by decide +kernel
theorem dL_sound_594 : decode cL_sound 594 = .ok (.if_icmp .ne 218, 3) := by decide +kernel
theorem dL_sound_597 : decode cL_sound 597 = .ok (.aload_n 0, 1) := by decide +kernel
theorem dL_sound_598 : decode cL_sound 598 = .ok (.bipush 6, 2) := by decide +kernel
theorem dL_sound_600 : decode cL_sound 600 = .ok (.invokestatic 93, 3) := by decide +kernel
theorem dL_sound_603 : decode cL_sound 603 = .ok (.iload 6, 2) := by decide +kernel
theorem dL_sound_605 : decode cL_sound 605 = .ok (.if_icmp .ne 207, 3) := by decide +kernel
theorem dL_sound_608 : decode cL_sound 608 = .ok (.aload_n 0, 1) := by decide +kernel
theorem dL_sound_609 : decode cL_sound 609 = .ok (.bipush 7, 2) := by decide +kernel
theorem dL_sound_611 : decode cL_sound 611 = .ok (.invokestatic 93, 3) := by decide +kernel
theorem dL_sound_614 : decode cL_sound 614 = .ok (.iload 6, 2) := by decide +kernel
theorem dL_sound_616 : decode cL_sound 616 = .ok (.iload 6, 2) := by decide +kernel
theorem dL_sound_618 : decode cL_sound 618 = .ok (.imul, 1) := by decide +kernel
theorem dL_sound_619 : decode cL_sound 619 = .ok (.sipush 165, 3) := by decide +kernel
theorem dL_sound_622 : decode cL_sound 622 = .ok (.imul, 1) := by decide +kernel
theorem dL_sound_623 : decode cL_sound 623 = .ok (.bipush 100, 2) := by decide +kernel
theorem dL_sound_625 : decode cL_sound 625 = .ok (.idiv, 1) := by decide +kernel
theorem dL_sound_626 : decode cL_sound 626 = .ok (.if_icmp .ne 186, 3) := by decide +kernel
theorem dL_sound_629 : decode cL_sound 629 = .ok (.aload_n 0, 1) := by decide +kernel
theorem dL_sound_630 : decode cL_sound 630 = .ok (.bipush 10, 2) := by decide +kernel
theorem dL_sound_632 : decode cL_sound 632 = .ok (.invokestatic 93, 3) := by decide +kernel
theorem dL_sound_635 : decode cL_sound 635 = .ok (.aload_n 0, 1) := by decide +kernel
theorem dL_sound_636 : decode cL_sound 636 = .ok (.bipush 11, 2) := by decide +kernel
theorem dL_sound_638 : decode cL_sound 638 = .ok (.invokestatic 93, 3) := by decide +kernel
theorem dL_sound_641 : decode cL_sound 641 = .ok (.aload_n 0, 1) := by decide +kernel
theorem dL_sound_642 : decode cL_sound 642 = .ok (.bipush 12, 2) := by decide +kernel
theorem dL_sound_644 : decode cL_sound 644 = .ok (.invokestatic 93, 3) := by decide +kernel
theorem dL_sound_647 : decode cL_sound 647 = .ok (.iadd, 1) := by decide +kernel
theorem dL_sound_648 : decode cL_sound 648 = .ok (.if_icmp .ne 164, 3) := by decide +kernel
theorem dL_sound_651 : decode cL_sound 651 = .ok (.aload_n 0, 1) := by decide +kernel
theorem dL_sound_652 : decode cL_sound 652 = .ok (.bipush 16, 2) := by decide +kernel
theorem dL_sound_654 : decode cL_sound 654 = .ok (.invokestatic 93, 3) := by decide +kernel
theorem dL_sound_657 : decode cL_sound 657 = .ok (.iload 7, 2) := by decide +kernel
theorem dL_sound_659 : decode cL_sound 659 = .ok (.bipush 10, 2) := by decide +kernel
theorem dL_sound_661 : decode cL_sound 661 = .ok (.if_icmp .ge 8, 3) := by decide +kernel
theorem dL_sound_664 : decode cL_sound 664 = .ok (.iload 7, 2) := by decide +kernel
theorem dL_sound_666 : decode cL_sound 666 = .ok (.goto 5, 3) := by decide +kernel
theorem dL_sound_669 : decode cL_sound 669 = .ok (.bipush 10, 2) := by decide +kernel
theorem dL_sound_671 : decode cL_sound 671 = .ok (.if_icmp .ne 141, 3) := by decide +kernel
theorem dL_sound_674 : decode cL_sound 674 = .ok (.iload 17, 2) := by decide +kernel
theorem dL_sound_676 : decode cL_sound 676 = .ok (.ifCond .eq 26, 3) := by decide +kernel
theorem dL_sound_679 : decode cL_sound 679 = .ok (.lload 15, 2) := by decide +kernel
theorem dL_sound_681 : decode cL_sound 681 = .ok (.aload_n 0, 1) := by decide +kernel
theorem dL_sound_682 : decode cL_sound 682 = .ok (.invokevirtual 120, 3) := by decide +kernel
theorem dL_sound_685 : decode cL_sound 685 = .ok (.lcmp, 1) := by decide +kernel
theorem dL_sound_686 : decode cL_sound 686 = .ok (.ifCond .ne 126, 3) := by decide +kernel
theorem dL_sound_689 : decode cL_sound 689 = .ok (.lload 13, 2) := by decide +kernel
theorem dL_sound_691 : decode cL_sound 691 = .ok (.aload_n 0, 1) := by decide +kernel
theorem dL_sound_692 : decode cL_sound 692 = .ok (.bipush 11, 2) := by decide +kernel
theorem dL_sound_694 : decode cL_sound 694 = .ok (.invokestatic 93, 3) := by decide +kernel
theorem dL_sound_697 : decode cL_sound 697 = .ok (.i2l, 1) := by decide +kernel
theorem dL_sound_698 : decode cL_sound 698 = .ok (.lcmp, 1) := by decide +kernel
theorem dL_sound_699 : decode cL_sound 699 = .ok (.ifCond .ne 113, 3) := by decide +kernel
theorem dL_sound_702 : decode cL_sound 702 = .ok (.aload_n 0, 1) := by decide +kernel
theorem dL_sound_703 : decode cL_sound 703 = .ok (.invokevirtual 129, 3) := by decide +kernel
theorem dL_sound_706 : decode cL_sound 706 = .ok (.dload 18, 2) := by decide +kernel
theorem dL_sound_708 : decode cL_sound 708 = .ok (.dcmp .l, 1) := by decide +kernel
theorem dL_sound_709 : decode cL_sound 709 = .ok (.ifCond .ne 103, 3) := by decide +kernel
theorem dL_sound_712 : decode cL_sound 712 = .ok (.lload_n 3, 1) := by decide +kernel
theorem dL_sound_713 : decode cL_sound 713 = .ok (.lconst 0, 1) := by decide +kernel
theorem dL_sound_714 : decode cL_sound 714 = .ok (.lcmp, 1) := by decide +kernel
