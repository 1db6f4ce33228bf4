theorem dX9_isShelf_0 : decode cX9_isShelf 0 = .ok (.iload_n 0, 1) := by decide +kernel
theorem dX9_isShelf_1 : decode cX9_isShelf 1 = .ok (.iconst 0, 1) := by decide +kernel
theorem dX9_isShelf_2 : decode cX9_isShelf 2 = .ok (.iconst 4, 1) := by decide +kernel
theorem dX9_isShelf_3 : decode cX9_isShelf 3 = .ok (.invokestatic 57, 3) := by decide +kernel
theorem dX9_isShelf_6 : decode cX9_isShelf 6 = .ok (.ireturn, 1) := by decide +kernel
set_option maxRecDepth 20000 in
theorem ggX9_change_X9_of : GoodIn wsX9_change wsX9_of := goodIn_r _ [6, 1, 7, 8, 9, 10, 11, 12, 13, 14, 15, 16, 17] (by decide +kernel) (by decide +kernel)
set_option maxRecDepth 20000 in
theorem gX9_change_X9_of : GoodIn wsX9_change (wsV RX9 53 RX9 yX9_of wsX9_of) := goodIn_app (goodIn_of _ (by decide +kernel)) ggX9_change_X9_of
theorem dX9_change_0 : decode cX9_change 0 = .ok (.aload_n 0, 1) := by decide +kernel
theorem dX9_change_1 : decode cX9_change 1 = .ok (.iload_n 1, 1) := by decide +kernel
theorem dX9_change_2 : decode cX9_change 2 = .ok (.invokevirtual 53, 3) := by decide +kernel
theorem dX9_change_5 : decode cX9_change 5 = .ok (.istore_n 3, 1) := by decide +kernel
theorem dX9_change_6 : decode cX9_change 6 = .ok (.aload_n 0, 1) := by decide +kernel
theorem dX9_change_7 : decode cX9_change 7 = .ok (.getfield 7, 3) := by decide +kernel
theorem dX9_change_10 : decode cX9_change 10 = .ok (.iload_n 1, 1) := by decide +kernel
theorem dX9_change_11 : decode cX9_change 11 = .ok (.iload_n 2, 1) := by decide +kernel
theorem dX9_change_12 : decode cX9_change 12 = .ok (.i2l, 1) := by decide +kernel
theorem dX9_change_13 : decode cX9_change 13 = .ok (.lastore, 1) := by decide +kernel
theorem dX9_change_14 : decode cX9_change 14 = .ok (.iload_n 3, 1) := by decide +kernel
theorem dX9_change_15 : decode cX9_change 15 = .ok (.ireturn, 1) := by decide +kernel
set_option maxRecDepth 20000 in
theorem ggX9_isStretch_X9_in : GoodIn wsX9_isStretch wsX9_in := goodIn_r _ [4] (by decide +kernel) (by decide +kernel)
set_option maxRecDepth 20000 in
theorem gX9_isStretch_X9_in : GoodIn wsX9_isStretch (va_wsS RX9 57 yX9_in wsX9_in) := goodIn_app (goodIn_of _ (by decide +kernel)) ggX9_isStretch_X9_in
theorem dX9_isStretch_0 : decode cX9_isStretch 0 = .ok (.iload_n 0, 1) := by decide +kernel
theorem dX9_isStretch_1 : decode cX9_isStretch 1 = .ok (.iconst 0, 1) := by decide +kernel
theorem dX9_isStretch_2 : decode cX9_isStretch 2 = .ok (.sipush 500, 3) := by decide +kernel
theorem dX9_isStretch_5 : decode cX9_isStretch 5 = .ok (.invokestatic 57, 3) := by decide +kernel
theorem dX9_isStretch_8 : decode cX9_isStretch 8 = .ok (.ireturn, 1) := by decide +kernel
set_option maxRecDepth 20000 in
theorem ggX9_notMetal_X9_isStretch : GoodIn wsX9_notMetal wsX9_isStretch := goodIn_r _ [4, 5, 6, 3, 7] (by decide +kernel) (by decide +kernel)
set_option maxRecDepth 20000 in
theorem gX9_notMetal_X9_isStretch : GoodIn wsX9_notMetal (va_wsS RX9 61 yX9_isStretch wsX9_isStretch) := goodIn_app (goodIn_of _ (by decide +kernel)) ggX9_notMetal_X9_isStretch
set_option maxRecDepth 20000 in
theorem ggX9_notMetal_X9_of : GoodIn wsX9_notMetal wsX9_of := goodIn_r _ [11, 12, 13, 14, 15, 16, 17, 18, 19, 20, 21, 22, 23] (by decide +kernel) (by decide +kernel)
set_option maxRecDepth 20000 in
theorem gX9_notMetal_X9_of : GoodIn wsX9_notMetal (wsV RX9 53 RX9 yX9_of wsX9_of) := goodIn_app (goodIn_of _ (by decide +kernel)) ggX9_notMetal_X9_of
theorem dX9_notMetal_0 : decode cX9_notMetal 0 = .ok (.iload_n 1, 1) := by decide +kernel
theorem dX9_notMetal_1 : decode cX9_notMetal 1 = .ok (.invokestatic 61, 3) := by decide +kernel
theorem dX9_notMetal_4 : decode cX9_notMetal 4 = .ok (.ifCond .ne 7, 3) := by decide +kernel
theorem dX9_notMetal_7 : decode cX9_notMetal 7 = .ok (.iconst 1, 1) := by decide +kernel
theorem dX9_notMetal_8 : decode cX9_notMetal 8 = .ok (.goto 18, 3) := by decide +kernel
theorem dX9_notMetal_11 : decode cX9_notMetal 11 = .ok (.aload_n 0, 1) := by decide +kernel
theorem dX9_notMetal_12 : decode cX9_notMetal 12 = .ok (.iconst 3, 1) := by decide +kernel
theorem dX9_notMetal_13 : decode cX9_notMetal 13 = .ok (.invokevirtual 53, 3) := by decide +kernel
theorem dX9_notMetal_16 : decode cX9_notMetal 16 = .ok (.bipush 6, 2) := by decide +kernel
theorem dX9_notMetal_18 : decode cX9_notMetal 18 = .ok (.if_icmp .ne 7, 3) := by decide +kernel
theorem dX9_notMetal_21 : decode cX9_notMetal 21 = .ok (.iconst 2, 1) := by decide +kernel
theorem dX9_notMetal_22 : decode cX9_notMetal 22 = .ok (.goto 4, 3) := by decide +kernel
theorem dX9_notMetal_25 : decode cX9_notMetal 25 = .ok (.iconst 0, 1) := by decide +kernel
theorem dX9_notMetal_26 : decode cX9_notMetal 26 = .ok (.ireturn, 1) := by decide +kernel
set_option maxRecDepth 20000 in
theorem ggX9_addsMetal_X9_of : GoodIn wsX9_addsMetal wsX9_of := goodIn_r _ [6, 1, 7, 8, 9, 10, 11, 12, 13, 14, 15, 16, 17] (by decide +kernel) (by decide +kernel)
set_option maxRecDepth 20000 in
theorem gX9_addsMetal_X9_of : GoodIn wsX9_addsMetal (wsV RX9 53 RX9 yX9_of wsX9_of) := goodIn_app (goodIn_of _ (by decide +kernel)) ggX9_addsMetal_X9_of
theorem dX9_addsMetal_0 : decode cX9_addsMetal 0 = .ok (.aload_n 0, 1) := by decide +kernel
theorem dX9_addsMetal_1 : decode cX9_addsMetal 1 = .ok (.iconst 3, 1) := by decide +kernel
theorem dX9_addsMetal_2 : decode cX9_addsMetal 2 = .ok (.invokevirtual 53, 3) := by decide +kernel
theorem dX9_addsMetal_5 : decode cX9_addsMetal 5 = .ok (.istore_n 2, 1) := by decide +kernel
theorem dX9_addsMetal_6 : decode cX9_addsMetal 6 = .ok (.aload_n 0, 1) := by decide +kernel
theorem dX9_addsMetal_7 : decode cX9_addsMetal 7 = .ok (.getfield 7, 3) := by decide +kernel
theorem dX9_addsMetal_10 : decode cX9_addsMetal 10 = .ok (.bipush 16, 2) := by decide +kernel
theorem dX9_addsMetal_12 : decode cX9_addsMetal 12 = .ok (.iload_n 2, 1) := by decide +kernel
theorem dX9_addsMetal_13 : decode cX9_addsMetal 13 = .ok (.iadd, 1) := by decide +kernel
theorem dX9_addsMetal_14 : decode cX9_addsMetal 14 = .ok (.iload_n 1, 1) := by decide +kernel
theorem dX9_addsMetal_15 : decode cX9_addsMetal 15 = .ok (.i2l, 1) := by decide +kernel
theorem dX9_addsMetal_16 : decode cX9_addsMetal 16 = .ok (.lastore, 1) := by decide +kernel
theorem dX9_addsMetal_17 : decode cX9_addsMetal 17 = .ok (.aload_n 0, 1) := by decide +kernel
theorem dX9_addsMetal_18 : decode cX9_addsMetal 18 = .ok (.getfield 7, 3) := by decide +kernel
theorem dX9_addsMetal_21 : decode cX9_addsMetal 21 = .ok (.iconst 3, 1) := by decide +kernel
theorem dX9_addsMetal_22 : decode cX9_addsMetal 22 = .ok (.dup2, 1) := by decide +kernel
theorem dX9_addsMetal_23 : decode cX9_addsMetal 23 = .ok (.laload, 1) := by decide +kernel
theorem dX9_addsMetal_24 : decode cX9_addsMetal 24 = .ok (.lconst 1, 1) := by decide +kernel
theorem dX9_addsMetal_25 : decode cX9_addsMetal 25 = .ok (.ladd, 1) := by decide +kernel
theorem dX9_addsMetal_26 : decode cX9_addsMetal 26 = .ok (.lastore, 1) := by decide +kernel
theorem dX9_addsMetal_27 : decode cX9_addsMetal 27 = .ok (.iload_n 2, 1) := by decide +kernel
theorem dX9_addsMetal_28 : decode cX9_addsMetal 28 = .ok (.ireturn, 1) := by decide +kernel
set_option maxRecDepth 20000 in
theorem ggX9_addMetal_X9_notMetal : GoodIn wsX9_addMetal wsX9_notMetal := goodIn_r _ [6, 7, 8, 5, 9, 10, 11, 12, 13, 14, 15, 16, 17, 31, 32, 33, 34, 35, 36, 37, 38, 39, 40, 41] (by decide +kernel) (by decide +kernel)
set_option maxRecDepth 20000 in
theorem gX9_addMetal_X9_notMetal : GoodIn wsX9_addMetal (wsV RX9 65 RX9 yX9_notMetal wsX9_notMetal) := goodIn_app (goodIn_of _ (by decide +kernel)) ggX9_addMetal_X9_notMetal
set_option maxRecDepth 20000 in
theorem ggX9_addMetal_X9_keep : GoodIn wsX9_addMetal wsX9_keep := goodIn_r _ [21, 22, 23, 17, 24, 25, 5, 26, 31, 32, 33, 34, 35, 36, 37, 38, 39, 40, 41] (by decide +kernel) (by decide +kernel)
set_option maxRecDepth 20000 in
theorem gX9_addMetal_X9_keep : GoodIn wsX9_addMetal (wsV RX9 68 RX9 yX9_keep wsX9_keep) := goodIn_app (goodIn_of _ (by decide +kernel)) ggX9_addMetal_X9_keep
set_option maxRecDepth 20000 in
theorem ggX9_addMetal_X9_addsMetal : GoodIn wsX9_addMetal wsX9_addsMetal := goodIn_r _ [30, 17, 13, 14, 15, 5, 16, 31, 32, 33, 34, 35, 36, 37, 38, 39, 40, 41] (by decide +kernel) (by decide +kernel)
set_option maxRecDepth 20000 in
theorem gX9_addMetal_X9_addsMetal : GoodIn wsX9_addMetal (wsV RX9 71 RX9 yX9_addsMetal wsX9_addsMetal) := goodIn_app (goodIn_of _ (by decide +kernel)) ggX9_addMetal_X9_addsMetal
theorem dX9_addMetal_0 : decode cX9_addMetal 0 = .ok (.aload_n 0, 1) := by decide +kernel
theorem dX9_addMetal_1 : decode cX9_addMetal 1 = .ok (.aload_n 0, 1) := by decide +kernel
theorem dX9_addMetal_2 : decode cX9_addMetal 2 = .ok (.iload_n 1, 1) := by decide +kernel
theorem dX9_addMetal_3 : decode cX9_addMetal 3 = .ok (.invokevirtual 65, 3) := by decide +kernel
theorem dX9_addMetal_6 : decode cX9_addMetal 6 = .ok (.putfield 42, 3) := by decide +kernel
theorem dX9_addMetal_9 : decode cX9_addMetal 9 = .ok (.aload_n 0, 1) := by decide +kernel
theorem dX9_addMetal_10 : decode cX9_addMetal 10 = .ok (.getfield 42, 3) := by decide +kernel
theorem dX9_addMetal_13 : decode cX9_addMetal 13 = .ok (.ifCond .eq 5, 3) := by decide +kernel
theorem dX9_addMetal_16 : decode cX9_addMetal 16 = .ok (.iconst 0, 1) := by decide +kernel
theorem dX9_addMetal_17 : decode cX9_addMetal 17 = .ok (.ireturn, 1) := by decide +kernel
theorem dX9_addMetal_18 : decode cX9_addMetal 18 = .ok (.aload_n 0, 1) := by decide +kernel
theorem dX9_addMetal_19 : decode cX9_addMetal 19 = .ok (.invokevirtual 68, 3) := by decide +kernel
theorem dX9_addMetal_22 : decode cX9_addMetal 22 = .ok (.aload_n 0, 1) := by decide +kernel
theorem dX9_addMetal_23 : decode cX9_addMetal 23 = .ok (.iload_n 1, 1) := by decide +kernel
theorem dX9_addMetal_24 : decode cX9_addMetal 24 = .ok (.invokevirtual 71, 3) := by decide +kernel
theorem dX9_addMetal_27 : decode cX9_addMetal 27 = .ok (.ireturn, 1) := by decide +kernel
set_option maxRecDepth 20000 in
theorem ggX9_setStretch_X9_isMetal : GoodIn wsX9_setStretch wsX9_isMetal := goodIn_r _ [6, 7, 8, 9, 5, 10, 11, 12, 13, 14, 31, 32, 33, 34, 35, 36, 37, 38, 39, 40, 41] (by decide +kernel) (by decide +kernel)
set_option maxRecDepth 20000 in
theorem gX9_setStretch_X9_isMetal : GoodIn wsX9_setStretch (wsV RX9 74 RX9 yX9_isMetal wsX9_isMetal) := goodIn_app (goodIn_of _ (by decide +kernel)) ggX9_setStretch_X9_isMetal
set_option maxRecDepth 20000 in
theorem ggX9_setStretch_X9_isStretch : GoodIn wsX9_setStretch wsX9_isStretch := goodIn_r _ [17, 12, 13, 5, 14] (by decide +kernel) (by decide +kernel)
set_option maxRecDepth 20000 in
theorem gX9_setStretch_X9_isStretch : GoodIn wsX9_setStretch (va_wsS RX9 61 yX9_isStretch wsX9_isStretch) := goodIn_app (goodIn_of _ (by decide +kernel)) ggX9_setStretch_X9_isStretch
set_option maxRecDepth 20000 in
theorem ggX9_setStretch_X9_keep : GoodIn wsX9_setStretch wsX9_keep := goodIn_r _ [21, 22, 23, 11, 24, 25, 5, 26, 31, 32, 33, 34, 35, 36, 37, 38, 39, 40, 41] (by decide +kernel) (by decide +kernel)
set_option maxRecDepth 20000 in
theorem gX9_setStretch_X9_keep : GoodIn wsX9_setStretch (wsV RX9 68 RX9 yX9_keep wsX9_keep) := goodIn_app (goodIn_of _ (by decide +kernel)) ggX9_setStretch_X9_keep
set_option maxRecDepth 20000 in
theorem ggX9_setStretch_X9_change : GoodIn wsX9_setStretch wsX9_change := goodIn_r _ [30, 11, 7, 8, 9, 5, 10, 31, 32, 33, 34, 35, 36, 37, 38, 39, 40, 41] (by decide +kernel) (by decide +kernel)
set_option maxRecDepth 20000 in
theorem gX9_setStretch_X9_change : GoodIn wsX9_setStretch (wsV RX9 77 RX9 yX9_change wsX9_change) := goodIn_app (goodIn_of _ (by decide +kernel)) ggX9_setStretch_X9_change
theorem dX9_setStretch_0 : decode cX9_setStretch 0 = .ok (.aload_n 0, 1) := by decide +kernel
theorem dX9_setStretch_1 : decode cX9_setStretch 1 = .ok (.aload_n 0, 1) := by decide +kernel
theorem dX9_setStretch_2 : decode cX9_setStretch 2 = .ok (.iload_n 1, 1) := by decide +kernel
theorem dX9_setStretch_3 : decode cX9_setStretch 3 = .ok (.invokevirtual 74, 3) := by decide +kernel
theorem dX9_setStretch_6 : decode cX9_setStretch 6 = .ok (.ifCond .ne 7, 3) := by decide +kernel
theorem dX9_setStretch_9 : decode cX9_setStretch 9 = .ok (.iconst 1, 1) := by decide +kernel
theorem dX9_setStretch_10 : decode cX9_setStretch 10 = .ok (.goto 15, 3) := by decide +kernel
theorem dX9_setStretch_13 : decode cX9_setStretch 13 = .ok (.iload_n 2, 1) := by decide +kernel
theorem dX9_setStretch_14 : decode cX9_setStretch 14 = .ok (.invokestatic 61, 3) := by decide +kernel
theorem dX9_setStretch_17 : decode cX9_setStretch 17 = .ok (.ifCond .eq 7, 3) := by decide +kernel
theorem dX9_setStretch_20 : decode cX9_setStretch 20 = .ok (.iconst 0, 1) := by decide +kernel
theorem dX9_setStretch_21 : decode cX9_setStretch 21 = .ok (.goto 4, 3) := by decide +kernel
theorem dX9_setStretch_24 : decode cX9_setStretch 24 = .ok (.iconst 2, 1) := by decide +kernel
theorem dX9_setStretch_25 : decode cX9_setStretch 25 = .ok (.putfield 42, 3) := by decide +kernel
theorem dX9_setStretch_28 : decode cX9_setStretch 28 = .ok (.aload_n 0, 1) := by decide +kernel
theorem dX9_setStretch_29 : decode cX9_setStretch 29 = .ok (.getfield 42, 3) := by decide +kernel
theorem dX9_setStretch_32 : decode cX9_setStretch 32 = .ok (.ifCond .eq 5, 3) := by decide +kernel
theorem dX9_setStretch_35 : decode cX9_setStretch 35 = .ok (.iconst 0, 1) := by decide +kernel
theorem dX9_setStretch_36 : decode cX9_setStretch 36 = .ok (.ireturn, 1) := by decide +kernel
theorem dX9_setStretch_37 : decode cX9_setStretch 37 = .ok (.aload_n 0, 1) := by decide +kernel
theorem dX9_setStretch_38 : decode cX9_setStretch 38 = .ok (.invokevirtual 68, 3) := by decide +kernel
theorem dX9_setStretch_41 : decode cX9_setStretch 41 = .ok (.aload_n 0, 1) := by decide +kernel
theorem dX9_setStretch_42 : decode cX9_setStretch 42 = .ok (.bipush 16, 2) := by decide +kernel
theorem dX9_setStretch_44 : decode cX9_setStretch 44 = .ok (.iload_n 1, 1) := by decide +kernel
theorem dX9_setStretch_45 : decode cX9_setStretch 45 = .ok (.iadd, 1) := by decide +kernel
theorem dX9_setStretch_46 : decode cX9_setStretch 46 = .ok (.iload_n 2, 1) := by decide +kernel
theorem dX9_setStretch_47 : decode cX9_setStretch 47 = .ok (.invokevirtual 77, 3) := by decide +kernel
theorem dX9_setStretch_50 : decode cX9_setStretch 50 = .ok (.ireturn, 1) := by decide +kernel
set_option maxRecDepth 20000 in
theorem ggX9_isLength_X9_in : GoodIn wsX9_isLength wsX9_in := goodIn_r _ [5] (by decide +kernel) (by decide +kernel)
set_option maxRecDepth 20000 in
theorem gX9_isLength_X9_in : GoodIn wsX9_isLength (va_wsS RX9 57 yX9_in wsX9_in) := goodIn_app (goodIn_of _ (by decide +kernel)) ggX9_isLength_X9_in
theorem dX9_isLength_0 : decode cX9_isLength 0 = .ok (.iload_n 0, 1) := by decide +kernel
theorem dX9_isLength_1 : decode cX9_isLength 1 = .ok (.iconst 1, 1) := by decide +kernel
theorem dX9_isLength_2 : decode cX9_isLength 2 = .ok (.ldc 81, 2) := by decide +kernel
theorem dX9_isLength_4 : decode cX9_isLength 4 = .ok (.invokestatic 57, 3) := by decide +kernel
theorem dX9_isLength_7 : decode cX9_isLength 7 = .ok (.ireturn, 1) := by decide +kernel
set_option maxRecDepth 20000 in
theorem ggX9_notRod_X9_isMetal : GoodIn wsX9_notRod wsX9_isMetal := goodIn_r _ [5, 6, 7, 8, 4, 9, 10, 11, 12, 13, 18, 19, 20, 21, 22, 23, 24, 25, 26, 27, 28] (by decide +kernel) (by decide +kernel)
set_option maxRecDepth 20000 in
theorem gX9_notRod_X9_isMetal : GoodIn wsX9_notRod (wsV RX9 74 RX9 yX9_isMetal wsX9_isMetal) := goodIn_app (goodIn_of _ (by decide +kernel)) ggX9_notRod_X9_isMetal
set_option maxRecDepth 20000 in
theorem ggX9_notRod_X9_isLength : GoodIn wsX9_notRod wsX9_isLength := goodIn_r _ [16, 17, 11, 12, 4, 13] (by decide +kernel) (by decide +kernel)
set_option maxRecDepth 20000 in
theorem gX9_notRod_X9_isLength : GoodIn wsX9_notRod (va_wsS RX9 82 yX9_isLength wsX9_isLength) := goodIn_app (goodIn_of _ (by decide +kernel)) ggX9_notRod_X9_isLength
set_option maxRecDepth 20000 in
theorem ggX9_notRod_X9_of : GoodIn wsX9_notRod wsX9_of := goodIn_r _ [9, 10, 18, 19, 20, 21, 22, 23, 24, 25, 26, 27, 28] (by decide +kernel) (by decide +kernel)
set_option maxRecDepth 20000 in
theorem gX9_notRod_X9_of : GoodIn wsX9_notRod (wsV RX9 53 RX9 yX9_of wsX9_of) := goodIn_app (goodIn_of _ (by decide +kernel)) ggX9_notRod_X9_of
theorem dX9_notRod_0 : decode cX9_notRod 0 = .ok (.aload_n 0, 1) := by decide +kernel
theorem dX9_notRod_1 : decode cX9_notRod 1 = .ok (.iload_n 1, 1) := by decide +kernel
theorem dX9_notRod_2 : decode cX9_notRod 2 = .ok (.invokevirtual 74, 3) := by decide +kernel
theorem dX9_notRod_5 : decode cX9_notRod 5 = .ok (.ifCond .ne 5, 3) := by decide +kernel
theorem dX9_notRod_8 : decode cX9_notRod 8 = .ok (.iconst 1, 1) := by decide +kernel
theorem dX9_notRod_9 : decode cX9_notRod 9 = .ok (.ireturn, 1) := by decide +kernel
theorem dX9_notRod_10 : decode cX9_notRod 10 = .ok (.iload_n 2, 1) := by decide +kernel
theorem dX9_notRod_11 : decode cX9_notRod 11 = .ok (.iconst 1, 1) := by decide +kernel
theorem dX9_notRod_12 : decode cX9_notRod 12 = .ok (.if_icmp .eq 8, 3) := by decide +kernel
theorem dX9_notRod_15 : decode cX9_notRod 15 = .ok (.iload_n 2, 1) := by decide +kernel
theorem dX9_notRod_16 : decode cX9_notRod 16 = .ok (.iconst (-1), 1) := by decide +kernel
theorem dX9_notRod_17 : decode cX9_notRod 17 = .ok (.if_icmp .ne 10, 3) := by decide +kernel
theorem dX9_notRod_20 : decode cX9_notRod 20 = .ok (.iload_n 3, 1) := by decide +kernel
theorem dX9_notRod_21 : decode cX9_notRod 21 = .ok (.invokestatic 82, 3) := by decide +kernel
theorem dX9_notRod_24 : decode cX9_notRod 24 = .ok (.ifCond .ne 7, 3) := by decide +kernel
theorem dX9_notRod_27 : decode cX9_notRod 27 = .ok (.iconst 2, 1) := by decide +kernel
theorem dX9_notRod_28 : decode cX9_notRod 28 = .ok (.goto 18, 3) := by decide +kernel
theorem dX9_notRod_31 : decode cX9_notRod 31 = .ok (.aload_n 0, 1) := by decide +kernel
theorem dX9_notRod_32 : decode cX9_notRod 32 = .ok (.iconst 4, 1) := by decide +kernel
theorem dX9_notRod_33 : decode cX9_notRod 33 = .ok (.invokevirtual 53, 3) := by decide +kernel
theorem dX9_notRod_36 : decode cX9_notRod 36 = .ok (.bipush 9, 2) := by decide +kernel
theorem dX9_notRod_38 : decode cX9_notRod 38 = .ok (.if_icmp .ne 7, 3) := by decide +kernel
theorem dX9_notRod_41 : decode cX9_notRod 41 = .ok (.iconst 3, 1) := by decide +kernel
theorem dX9_notRod_42 : decode cX9_notRod 42 = .ok (.goto 4, 3) := by decide +kernel
theorem dX9_notRod_45 : decode cX9_notRod 45 = .ok (.iconst 0, 1) := by decide +kernel
theorem dX9_notRod_46 : decode cX9_notRod 46 = .ok (.ireturn, 1) := by decide +kernel
set_option maxRecDepth 20000 in
theorem ggX9_addsRod_X9_of : GoodIn wsX9_addsRod wsX9_of := goodIn_r _ [6, 1, 7, 8, 9, 10, 11, 12, 13, 14, 15, 16, 17] (by decide +kernel) (by decide +kernel)
set_option maxRecDepth 20000 in
theorem gX9_addsRod_X9_of : GoodIn wsX9_addsRod (wsV RX9 53 RX9 yX9_of wsX9_of) := goodIn_app (goodIn_of _ (by decide +kernel)) ggX9_addsRod_X9_of
theorem dX9_addsRod_0 : decode cX9_addsRod 0 = .ok (.aload_n 0, 1) := by decide +kernel
theorem dX9_addsRod_1 : decode cX9_addsRod 1 = .ok (.iconst 4, 1) := by decide +kernel
theorem dX9_addsRod_2 : decode cX9_addsRod 2 = .ok (.invokevirtual 53, 3) := by decide +kernel
theorem dX9_addsRod_5 : decode cX9_addsRod 5 = .ok (.istore 4, 2) := by decide +kernel
theorem dX9_addsRod_7 : decode cX9_addsRod 7 = .ok (.aload_n 0, 1) := by decide +kernel
theorem dX9_addsRod_8 : decode cX9_addsRod 8 = .ok (.getfield 7, 3) := by decide +kernel
theorem dX9_addsRod_11 : decode cX9_addsRod 11 = .ok (.bipush 22, 2) := by decide +kernel
theorem dX9_addsRod_13 : decode cX9_addsRod 13 = .ok (.iconst 3, 1) := by decide +kernel
theorem dX9_addsRod_14 : decode cX9_addsRod 14 = .ok (.iload 4, 2) := by decide +kernel
theorem dX9_addsRod_16 : decode cX9_addsRod 16 = .ok (.imul, 1) := by decide +kernel
theorem dX9_addsRod_17 : decode cX9_addsRod 17 = .ok (.iadd, 1) := by decide +kernel
theorem dX9_addsRod_18 : decode cX9_addsRod 18 = .ok (.iload_n 1, 1) := by decide +kernel
theorem dX9_addsRod_19 : decode cX9_addsRod 19 = .ok (.i2l, 1) := by decide +kernel
theorem dX9_addsRod_20 : decode cX9_addsRod 20 = .ok (.lastore, 1) := by decide +kernel
theorem dX9_addsRod_21 : decode cX9_addsRod 21 = .ok (.aload_n 0, 1) := by decide +kernel
theorem dX9_addsRod_22 : decode cX9_addsRod 22 = .ok (.getfield 7, 3) := by decide +kernel
theorem dX9_addsRod_25 : decode cX9_addsRod 25 = .ok (.bipush 22, 2) := by decide +kernel
theorem dX9_addsRod_27 : decode cX9_addsRod 27 = .ok (.iconst 3, 1) := by decide +kernel
theorem dX9_addsRod_28 : decode cX9_addsRod 28 = .ok (.iload 4, 2) := by decide +kernel
theorem dX9_addsRod_30 : decode cX9_addsRod 30 = .ok (.imul, 1) := by decide +kernel
theorem dX9_addsRod_31 : decode cX9_addsRod 31 = .ok (.iadd, 1) := by decide +kernel
theorem dX9_addsRod_32 : decode cX9_addsRod 32 = .ok (.iconst 1, 1) := by decide +kernel
theorem dX9_addsRod_33 : decode cX9_addsRod 33 = .ok (.iadd, 1) := by decide +kernel
theorem dX9_addsRod_34 : decode cX9_addsRod 34 = .ok (.iload_n 2, 1) := by decide +kernel
theorem dX9_addsRod_35 : decode cX9_addsRod 35 = .ok (.i2l, 1) := by decide +kernel
theorem dX9_addsRod_36 : decode cX9_addsRod 36 = .ok (.lastore, 1) := by decide +kernel
theorem dX9_addsRod_37 : decode cX9_addsRod 37 = .ok (.aload_n 0, 1) := by decide +kernel
theorem dX9_addsRod_38 : decode cX9_addsRod 38 = .ok (.getfield 7, 3) := by decide +kernel
theorem dX9_addsRod_41 : decode cX9_addsRod 41 = .ok (.bipush 22, 2) := by decide +kernel
theorem dX9_addsRod_43 : decode cX9_addsRod 43 = .ok (.iconst 3, 1) := by decide +kernel
theorem dX9_addsRod_44 : decode cX9_addsRod 44 = .ok (.iload 4, 2) := by decide +kernel
theorem dX9_addsRod_46 : decode cX9_addsRod 46 = .ok (.imul, 1) := by decide +kernel
theorem dX9_addsRod_47 : decode cX9_addsRod 47 = .ok (.iadd, 1) := by decide +kernel
theorem dX9_addsRod_48 : decode cX9_addsRod 48 = .ok (.iconst 2, 1) := by decide +kernel
theorem dX9_addsRod_49 : decode cX9_addsRod 49 = .ok (.iadd, 1) := by decide +kernel
theorem dX9_addsRod_50 : decode cX9_addsRod 50 = .ok (.iload_n 3, 1) := by decide +kernel
theorem dX9_addsRod_51 : decode cX9_addsRod 51 = .ok (.i2l, 1) := by decide +kernel
theorem dX9_addsRod_52 : decode cX9_addsRod 52 = .ok (.lastore, 1) := by decide +kernel
theorem dX9_addsRod_53 : decode cX9_addsRod 53 = .ok (.aload_n 0, 1) := by decide +kernel
theorem dX9_addsRod_54 : decode cX9_addsRod 54 = .ok (.getfield 7, 3) := by decide +kernel
theorem dX9_addsRod_57 : decode cX9_addsRod 57 = .ok (.iconst 4, 1) := by decide +kernel
theorem dX9_addsRod_58 : decode cX9_addsRod 58 = .ok (.dup2, 1) := by decide +kernel
theorem dX9_addsRod_59 : decode cX9_addsRod 59 = .ok (.laload, 1) := by decide +kernel
theorem dX9_addsRod_60 : decode cX9_addsRod 60 = .ok (.lconst 1, 1) := by decide +kernel
theorem dX9_addsRod_61 : decode cX9_addsRod 61 = .ok (.ladd, 1) := by decide +kernel
theorem dX9_addsRod_62 : decode cX9_addsRod 62 = .ok (.lastore, 1) := by decide +kernel
theorem dX9_addsRod_63 : decode cX9_addsRod 63 = .ok (.iload 4, 2) := by decide +kernel
theorem dX9_addsRod_65 : decode cX9_addsRod 65 = .ok (.ireturn, 1) := by decide +kernel
set_option maxRecDepth 20000 in
theorem ggX9_addRod_X9_notRod : GoodIn wsX9_addRod wsX9_notRod := goodIn_r _ [6, 7, 8, 9, 5, 10, 11, 12, 13, 14, 15, 16, 17, 18, 19, 20, 21, 22, 36, 37, 38, 39, 40, 41, 42, 43, 44, 45, 46] (by decide +kernel) (by decide +kernel)
set_option maxRecDepth 20000 in
theorem gX9_addRod_X9_notRod : GoodIn wsX9_addRod (wsV RX9 85 RX9 yX9_notRod wsX9_notRod) := goodIn_app (goodIn_of _ (by decide +kernel)) ggX9_addRod_X9_notRod
set_option maxRecDepth 20000 in
theorem ggX9_addRod_X9_keep : GoodIn wsX9_addRod wsX9_keep := goodIn_r _ [26, 27, 28, 15, 29, 30, 5, 31, 36, 37, 38, 39, 40, 41, 42, 43, 44, 45, 46] (by decide +kernel) (by decide +kernel)
set_option maxRecDepth 20000 in
theorem gX9_addRod_X9_keep : GoodIn wsX9_addRod (wsV RX9 68 RX9 yX9_keep wsX9_keep) := goodIn_app (goodIn_of _ (by decide +kernel)) ggX9_addRod_X9_keep
set_option maxRecDepth 20000 in
theorem ggX9_addRod_X9_addsRod : GoodIn wsX9_addRod wsX9_addsRod := goodIn_r _ [35, 15, 11, 12, 13, 5, 14, 36, 37, 38, 39, 40, 41, 42, 43, 44, 45, 46] (by decide +kernel) (by decide +kernel)
set_option maxRecDepth 20000 in
theorem gX9_addRod_X9_addsRod : GoodIn wsX9_addRod (wsV RX9 89 RX9 yX9_addsRod wsX9_addsRod) := goodIn_app (goodIn_of _ (by decide +kernel)) ggX9_addRod_X9_addsRod
theorem dX9_addRod_0 : decode cX9_addRod 0 = .ok (.aload_n 0, 1) := by decide +kernel
theorem dX9_addRod_1 : decode cX9_addRod 1 = .ok (.aload_n 0, 1) := by decide +kernel
theorem dX9_addRod_2 : decode cX9_addRod 2 = .ok (.iload_n 1, 1) := by decide +kernel
theorem dX9_addRod_3 : decode cX9_addRod 3 = .ok (.iload_n 2, 1) := by decide +kernel
theorem dX9_addRod_4 : decode cX9_addRod 4 = .ok (.iload_n 3, 1) := by decide +kernel
theorem dX9_addRod_5 : decode cX9_addRod 5 = .ok (.invokevirtual 85, 3) := by decide +kernel
theorem dX9_addRod_8 : decode cX9_addRod 8 = .ok (.putfield 42, 3) := by decide +kernel
theorem dX9_addRod_11 : decode cX9_addRod 11 = .ok (.aload_n 0, 1) := by decide +kernel
theorem dX9_addRod_12 : decode cX9_addRod 12 = .ok (.getfield 42, 3) := by decide +kernel
theorem dX9_addRod_15 : decode cX9_addRod 15 = .ok (.ifCond .eq 5, 3) := by decide +kernel
theorem dX9_addRod_18 : decode cX9_addRod 18 = .ok (.iconst 0, 1) := by decide +kernel
theorem dX9_addRod_19 : decode cX9_addRod 19 = .ok (.ireturn, 1) := by decide +kernel
theorem dX9_addRod_20 : decode cX9_addRod 20 = .ok (.aload_n 0, 1) := by decide +kernel
theorem dX9_addRod_21 : decode cX9_addRod 21 = .ok (.invokevirtual 68, 3) := by decide +kernel
theorem dX9_addRod_24 : decode cX9_addRod 24 = .ok (.aload_n 0, 1) := by decide +kernel
theorem dX9_addRod_25 : decode cX9_addRod 25 = .ok (.iload_n 1, 1) := by decide +kernel
theorem dX9_addRod_26 : decode cX9_addRod 26 = .ok (.iload_n 2, 1) := by decide +kernel
theorem dX9_addRod_27 : decode cX9_addRod 27 = .ok (.iload_n 3, 1) := by decide +kernel
theorem dX9_addRod_28 : decode cX9_addRod 28 = .ok (.invokevirtual 89, 3) := by decide +kernel
theorem dX9_addRod_31 : decode cX9_addRod 31 = .ok (.ireturn, 1) := by decide +kernel
set_option maxRecDepth 20000 in
theorem ggX9_removeRod_X9_isRod : GoodIn wsX9_removeRod wsX9_isRod := goodIn_r _ [7, 8, 9, 10, 6, 11, 2, 12, 13, 14, 24, 25, 26, 27, 28, 29, 30, 31, 32, 33, 34] (by decide +kernel) (by decide +kernel)
set_option maxRecDepth 20000 in
theorem gX9_removeRod_X9_isRod : GoodIn wsX9_removeRod (wsV RX9 92 RX9 yX9_isRod wsX9_isRod) := goodIn_app (goodIn_of _ (by decide +kernel)) ggX9_removeRod_X9_isRod
set_option maxRecDepth 20000 in
theorem ggX9_removeRod_X9_keep : GoodIn wsX9_removeRod wsX9_keep := goodIn_r _ [18, 19, 20, 2, 21, 22, 6, 23, 24, 25, 26, 27, 28, 29, 30, 31, 32, 33, 34] (by decide +kernel) (by decide +kernel)
set_option maxRecDepth 20000 in
theorem gX9_removeRod_X9_keep : GoodIn wsX9_removeRod (wsV RX9 68 RX9 yX9_keep wsX9_keep) := goodIn_app (goodIn_of _ (by decide +kernel)) ggX9_removeRod_X9_keep
set_option maxRecDepth 20000 in
theorem ggX9_removeRod_X9_of : GoodIn wsX9_removeRod wsX9_of := goodIn_r _ [11, 2, 24, 25, 26, 27, 28, 29, 30, 31, 32, 33, 34] (by decide +kernel) (by decide +kernel)
set_option maxRecDepth 20000 in
theorem gX9_removeRod_X9_of : GoodIn wsX9_removeRod (wsV RX9 53 RX9 yX9_of wsX9_of) := goodIn_app (goodIn_of _ (by decide +kernel)) ggX9_removeRod_X9_of
theorem dX9_removeRod_0 : decode cX9_removeRod 0 = .ok (.aload_n 0, 1) := by decide +kernel
theorem dX9_removeRod_1 : decode cX9_removeRod 1 = .ok (.aload_n 0, 1) := by decide +kernel
theorem dX9_removeRod_2 : decode cX9_removeRod 2 = .ok (.iload_n 1, 1) := by decide +kernel
theorem dX9_removeRod_3 : decode cX9_removeRod 3 = .ok (.invokevirtual 92, 3) := by decide +kernel
theorem dX9_removeRod_6 : decode cX9_removeRod 6 = .ok (.ifCond .eq 7, 3) := by decide +kernel
theorem dX9_removeRod_9 : decode cX9_removeRod 9 = .ok (.iconst 0, 1) := by decide +kernel
theorem dX9_removeRod_10 : decode cX9_removeRod 10 = .ok (.goto 4, 3) := by decide +kernel
theorem dX9_removeRod_13 : decode cX9_removeRod 13 = .ok (.iconst 1, 1) := by decide +kernel
theorem dX9_removeRod_14 : decode cX9_removeRod 14 = .ok (.putfield 42, 3) := by decide +kernel
theorem dX9_removeRod_17 : decode cX9_removeRod 17 = .ok (.aload_n 0, 1) := by decide +kernel
theorem dX9_removeRod_18 : decode cX9_removeRod 18 = .ok (.getfield 42, 3) := by decide +kernel
theorem dX9_removeRod_21 : decode cX9_removeRod 21 = .ok (.ifCond .eq 5, 3) := by decide +kernel
theorem dX9_removeRod_24 : decode cX9_removeRod 24 = .ok (.iconst 0, 1) := by decide +kernel
theorem dX9_removeRod_25 : decode cX9_removeRod 25 = .ok (.ireturn, 1) := by decide +kernel
theorem dX9_removeRod_26 : decode cX9_removeRod 26 = .ok (.aload_n 0, 1) := by decide +kernel
theorem dX9_removeRod_27 : decode cX9_removeRod 27 = .ok (.invokevirtual 68, 3) := by decide +kernel
theorem dX9_removeRod_30 : decode cX9_removeRod 30 = .ok (.aload_n 0, 1) := by decide +kernel
theorem dX9_removeRod_31 : decode cX9_removeRod 31 = .ok (.getfield 7, 3) := by decide +kernel
theorem dX9_removeRod_34 : decode cX9_removeRod 34 = .ok (.iconst 4, 1) := by decide +kernel
theorem dX9_removeRod_35 : decode cX9_removeRod 35 = .ok (.dup2, 1) := by decide +kernel
theorem dX9_removeRod_36 : decode cX9_removeRod 36 = .ok (.laload, 1) := by decide +kernel
theorem dX9_removeRod_37 : decode cX9_removeRod 37 = .ok (.lconst 1, 1) := by decide +kernel
theorem dX9_removeRod_38 : decode cX9_removeRod 38 = .ok (.lsub, 1) := by decide +kernel
theorem dX9_removeRod_39 : decode cX9_removeRod 39 = .ok (.lastore, 1) := by decide +kernel
theorem dX9_removeRod_40 : decode cX9_removeRod 40 = .ok (.bipush 22, 2) := by decide +kernel
theorem dX9_removeRod_42 : decode cX9_removeRod 42 = .ok (.iconst 3, 1) := by decide +kernel
theorem dX9_removeRod_43 : decode cX9_removeRod 43 = .ok (.iload_n 1, 1) := by decide +kernel
theorem dX9_removeRod_44 : decode cX9_removeRod 44 = .ok (.imul, 1) := by decide +kernel
theorem dX9_removeRod_45 : decode cX9_removeRod 45 = .ok (.iadd, 1) := by decide +kernel
theorem dX9_removeRod_46 : decode cX9_removeRod 46 = .ok (.istore_n 2, 1) := by decide +kernel
theorem dX9_removeRod_47 : decode cX9_removeRod 47 = .ok (.iload_n 2, 1) := by decide +kernel
theorem dX9_removeRod_48 : decode cX9_removeRod 48 = .ok (.bipush 22, 2) := by decide +kernel
theorem dX9_removeRod_50 : decode cX9_removeRod 50 = .ok (.iconst 3, 1) := by decide +kernel
theorem dX9_removeRod_51 : decode cX9_removeRod 51 = .ok (.aload_n 0, 1) := by decide +kernel
theorem dX9_removeRod_52 : decode cX9_removeRod 52 = .ok (.iconst 4, 1) := by decide +kernel
theorem dX9_removeRod_53 : decode cX9_removeRod 53 = .ok (.invokevirtual 53, 3) := by decide +kernel
theorem dX9_removeRod_56 : decode cX9_removeRod 56 = .ok (.imul, 1) := by decide +kernel
theorem dX9_removeRod_57 : decode cX9_removeRod 57 = .ok (.iadd, 1) := by decide +kernel
theorem dX9_removeRod_58 : decode cX9_removeRod 58 = .ok (.if_icmp .ge 23, 3) := by decide +kernel
theorem dX9_removeRod_61 : decode cX9_removeRod 61 = .ok (.aload_n 0, 1) := by decide +kernel
theorem dX9_removeRod_62 : decode cX9_removeRod 62 = .ok (.getfield 7, 3) := by decide +kernel
theorem dX9_removeRod_65 : decode cX9_removeRod 65 = .ok (.iload_n 2, 1) := by decide +kernel
theorem dX9_removeRod_66 : decode cX9_removeRod 66 = .ok (.aload_n 0, 1) := by decide +kernel
theorem dX9_removeRod_67 : decode cX9_removeRod 67 = .ok (.getfield 7, 3) := by decide +kernel
theorem dX9_removeRod_70 : decode cX9_removeRod 70 = .ok (.iload_n 2, 1) := by decide +kernel
theorem dX9_removeRod_71 : decode cX9_removeRod 71 = .ok (.iconst 3, 1) := by decide +kernel
theorem dX9_removeRod_72 : decode cX9_removeRod 72 = .ok (.iadd, 1) := by decide +kernel
theorem dX9_removeRod_73 : decode cX9_removeRod 73 = .ok (.laload, 1) := by decide +kernel
theorem dX9_removeRod_74 : decode cX9_removeRod 74 = .ok (.lastore, 1) := by decide +kernel
theorem dX9_removeRod_75 : decode cX9_removeRod 75 = .ok (.iinc 2 1, 3) := by decide +kernel
theorem dX9_removeRod_78 : decode cX9_removeRod 78 = .ok (.goto (-31), 3) := by decide +kernel
theorem dX9_removeRod_81 : decode cX9_removeRod 81 = .ok (.aload_n 0, 1) := by decide +kernel
theorem dX9_removeRod_82 : decode cX9_removeRod 82 = .ok (.iconst 4, 1) := by decide +kernel
theorem dX9_removeRod_83 : decode cX9_removeRod 83 = .ok (.invokevirtual 53, 3) := by decide +kernel
theorem dX9_removeRod_86 : decode cX9_removeRod 86 = .ok (.ireturn, 1) := by decide +kernel
set_option maxRecDepth 20000 in
theorem ggX9_notLength_X9_isRod : GoodIn wsX9_notLength wsX9_isRod := goodIn_r _ [5, 6, 7, 8, 4, 9, 10, 11, 12, 13, 18, 19, 20, 21, 22, 23, 24, 25, 26, 27, 28] (by decide +kernel) (by decide +kernel)
set_option maxRecDepth 20000 in
theorem gX9_notLength_X9_isRod : GoodIn wsX9_notLength (wsV RX9 92 RX9 yX9_isRod wsX9_isRod) := goodIn_app (goodIn_of _ (by decide +kernel)) ggX9_notLength_X9_isRod
set_option maxRecDepth 20000 in
theorem ggX9_notLength_X9_isLength : GoodIn wsX9_notLength wsX9_isLength := goodIn_r _ [16, 17, 11, 12, 4, 13] (by decide +kernel) (by decide +kernel)
set_option maxRecDepth 20000 in
theorem gX9_notLength_X9_isLength : GoodIn wsX9_notLength (va_wsS RX9 82 yX9_isLength wsX9_isLength) := goodIn_app (goodIn_of _ (by decide +kernel)) ggX9_notLength_X9_isLength
theorem dX9_notLength_0 : decode cX9_notLength 0 = .ok (.aload_n 0, 1) := by decide +kernel
theorem dX9_notLength_1 : decode cX9_notLength 1 = .ok (.iload_n 1, 1) := by decide +kernel
theorem dX9_notLength_2 : decode cX9_notLength 2 = .ok (.invokevirtual 92, 3) := by decide +kernel
theorem dX9_notLength_5 : decode cX9_notLength 5 = .ok (.ifCond .ne 7, 3) := by decide +kernel
theorem dX9_notLength_8 : decode cX9_notLength 8 = .ok (.iconst 1, 1) := by decide +kernel
theorem dX9_notLength_9 : decode cX9_notLength 9 = .ok (.goto 15, 3) := by decide +kernel
theorem dX9_notLength_12 : decode cX9_notLength 12 = .ok (.iload_n 2, 1) := by decide +kernel
theorem dX9_notLength_13 : decode cX9_notLength 13 = .ok (.invokestatic 82, 3) := by decide +kernel
theorem dX9_notLength_16 : decode cX9_notLength 16 = .ok (.ifCond .eq 7, 3) := by decide +kernel
theorem dX9_notLength_19 : decode cX9_notLength 19 = .ok (.iconst 0, 1) := by decide +kernel
theorem dX9_notLength_20 : decode cX9_notLength 20 = .ok (.goto 4, 3) := by decide +kernel
theorem dX9_notLength_23 : decode cX9_notLength 23 = .ok (.iconst 2, 1) := by decide +kernel
theorem dX9_notLength_24 : decode cX9_notLength 24 = .ok (.ireturn, 1) := by decide +kernel
set_option maxRecDepth 20000 in
theorem ggX9_setLength_X9_notLength : GoodIn wsX9_setLength wsX9_notLength := goodIn_r _ [6, 7, 8, 9, 5, 10, 11, 12, 13, 14, 15, 16, 17, 18, 19, 20, 21, 22, 36, 37, 38, 39, 40, 41, 42, 43, 44, 45, 46] (by decide +kernel) (by decide +kernel)
set_option maxRecDepth 20000 in
theorem gX9_setLength_X9_notLength : GoodIn wsX9_setLength (wsV RX9 95 RX9 yX9_notLength wsX9_notLength) := goodIn_app (goodIn_of _ (by decide +kernel)) ggX9_setLength_X9_notLength
set_option maxRecDepth 20000 in
theorem ggX9_setLength_X9_keep : GoodIn wsX9_setLength wsX9_keep := goodIn_r _ [26, 27, 28, 15, 29, 30, 5, 31, 36, 37, 38, 39, 40, 41, 42, 43, 44, 45, 46] (by decide +kernel) (by decide +kernel)
set_option maxRecDepth 20000 in
theorem gX9_setLength_X9_keep : GoodIn wsX9_setLength (wsV RX9 68 RX9 yX9_keep wsX9_keep) := goodIn_app (goodIn_of _ (by decide +kernel)) ggX9_setLength_X9_keep
set_option maxRecDepth 20000 in
theorem ggX9_setLength_X9_change : GoodIn wsX9_setLength wsX9_change := goodIn_r _ [35, 15, 11, 12, 13, 5, 14, 36, 37, 38, 39, 40, 41, 42, 43, 44, 45, 46] (by decide +kernel) (by decide +kernel)
set_option maxRecDepth 20000 in
theorem gX9_setLength_X9_change : GoodIn wsX9_setLength (wsV RX9 77 RX9 yX9_change wsX9_change) := goodIn_app (goodIn_of _ (by decide +kernel)) ggX9_setLength_X9_change
theorem dX9_setLength_0 : decode cX9_setLength 0 = .ok (.aload_n 0, 1) := by decide +kernel
theorem dX9_setLength_1 : decode cX9_setLength 1 = .ok (.aload_n 0, 1) := by decide +kernel
theorem dX9_setLength_2 : decode cX9_setLength 2 = .ok (.iload_n 1, 1) := by decide +kernel
theorem dX9_setLength_3 : decode cX9_setLength 3 = .ok (.iload_n 2, 1) := by decide +kernel
theorem dX9_setLength_4 : decode cX9_setLength 4 = .ok (.invokevirtual 95, 3) := by decide +kernel
theorem dX9_setLength_7 : decode cX9_setLength 7 = .ok (.putfield 42, 3) := by decide +kernel
theorem dX9_setLength_10 : decode cX9_setLength 10 = .ok (.aload_n 0, 1) := by decide +kernel
theorem dX9_setLength_11 : decode cX9_setLength 11 = .ok (.getfield 42, 3) := by decide +kernel
theorem dX9_setLength_14 : decode cX9_setLength 14 = .ok (.ifCond .eq 5, 3) := by decide +kernel
theorem dX9_setLength_17 : decode cX9_setLength 17 = .ok (.iconst 0, 1) := by decide +kernel
theorem dX9_setLength_18 : decode cX9_setLength 18 = .ok (.ireturn, 1) := by decide +kernel
theorem dX9_setLength_19 : decode cX9_setLength 19 = .ok (.aload_n 0, 1) := by decide +kernel
theorem dX9_setLength_20 : decode cX9_setLength 20 = .ok (.invokevirtual 68, 3) := by decide +kernel
theorem dX9_setLength_23 : decode cX9_setLength 23 = .ok (.aload_n 0, 1) := by decide +kernel
theorem dX9_setLength_24 : decode cX9_setLength 24 = .ok (.bipush 22, 2) := by decide +kernel
theorem dX9_setLength_26 : decode cX9_setLength 26 = .ok (.iconst 3, 1) := by decide +kernel
theorem dX9_setLength_27 : decode cX9_setLength 27 = .ok (.iload_n 1, 1) := by decide +kernel
theorem dX9_setLength_28 : decode cX9_setLength 28 = .ok (.imul, 1) := by decide +kernel
theorem dX9_setLength_29 : decode cX9_setLength 29 = .ok (.iadd, 1) := by decide +kernel
theorem dX9_setLength_30 : decode cX9_setLength 30 = .ok (.iconst 2, 1) := by decide +kernel
theorem dX9_setLength_31 : decode cX9_setLength 31 = .ok (.iadd, 1) := by decide +kernel
theorem dX9_setLength_32 : decode cX9_setLength 32 = .ok (.iload_n 2, 1) := by decide +kernel
theorem dX9_setLength_33 : decode cX9_setLength 33 = .ok (.invokevirtual 77, 3) := by decide +kernel
theorem dX9_setLength_36 : decode cX9_setLength 36 = .ok (.ireturn, 1) := by decide +kernel
set_option maxRecDepth 20000 in
theorem ggX9_isWarmth_X9_in : GoodIn wsX9_isWarmth wsX9_in := goodIn_r _ [4] (by decide +kernel) (by decide +kernel)
set_option maxRecDepth 20000 in
theorem gX9_isWarmth_X9_in : GoodIn wsX9_isWarmth (va_wsS RX9 57 yX9_in wsX9_in) := goodIn_app (goodIn_of _ (by decide +kernel)) ggX9_isWarmth_X9_in
theorem dX9_isWarmth_0 : decode cX9_isWarmth 0 = .ok (.iload_n 0, 1) := by decide +kernel
theorem dX9_isWarmth_1 : decode cX9_isWarmth 1 = .ok (.sipush (-300), 3) := by decide +kernel
theorem dX9_isWarmth_4 : decode cX9_isWarmth 4 = .ok (.sipush 600, 3) := by decide +kernel
theorem dX9_isWarmth_7 : decode cX9_isWarmth 7 = .ok (.invokestatic 57, 3) := by decide +kernel
theorem dX9_isWarmth_10 : decode cX9_isWarmth 10 = .ok (.ireturn, 1) := by decide +kernel
set_option maxRecDepth 20000 in
theorem ggX9_notShelf_X9_isShelf : GoodIn wsX9_notShelf wsX9_isShelf := goodIn_r _ [4, 5, 6, 3, 7] (by decide +kernel) (by decide +kernel)
set_option maxRecDepth 20000 in
theorem gX9_notShelf_X9_isShelf : GoodIn wsX9_notShelf (va_wsS RX9 98 yX9_isShelf wsX9_isShelf) := goodIn_app (goodIn_of _ (by decide +kernel)) ggX9_notShelf_X9_isShelf
set_option maxRecDepth 20000 in
theorem ggX9_notShelf_X9_isWarmth : GoodIn wsX9_notShelf wsX9_isWarmth := goodIn_r _ [10, 5, 6, 3, 7] (by decide +kernel) (by decide +kernel)
set_option maxRecDepth 20000 in
theorem gX9_notShelf_X9_isWarmth : GoodIn wsX9_notShelf (va_wsS RX9 101 yX9_isWarmth wsX9_isWarmth) := goodIn_app (goodIn_of _ (by decide +kernel)) ggX9_notShelf_X9_isWarmth
theorem dX9_notShelf_0 : decode cX9_notShelf 0 = .ok (.iload_n 0, 1) := by decide +kernel
theorem dX9_notShelf_1 : decode cX9_notShelf 1 = .ok (.invokestatic 98, 3) := by decide +kernel
theorem dX9_notShelf_4 : decode cX9_notShelf 4 = .ok (.ifCond .ne 7, 3) := by decide +kernel
theorem dX9_notShelf_7 : decode cX9_notShelf 7 = .ok (.iconst 1, 1) := by decide +kernel
theorem dX9_notShelf_8 : decode cX9_notShelf 8 = .ok (.goto 15, 3) := by decide +kernel
theorem dX9_notShelf_11 : decode cX9_notShelf 11 = .ok (.iload_n 1, 1) := by decide +kernel
theorem dX9_notShelf_12 : decode cX9_notShelf 12 = .ok (.invokestatic 101, 3) := by decide +kernel
theorem dX9_notShelf_15 : decode cX9_notShelf 15 = .ok (.ifCond .eq 7, 3) := by decide +kernel
theorem dX9_notShelf_18 : decode cX9_notShelf 18 = .ok (.iconst 0, 1) := by decide +kernel
theorem dX9_notShelf_19 : decode cX9_notShelf 19 = .ok (.goto 4, 3) := by decide +kernel
theorem dX9_notShelf_22 : decode cX9_notShelf 22 = .ok (.iconst 2, 1) := by decide +kernel
theorem dX9_notShelf_23 : decode cX9_notShelf 23 = .ok (.ireturn, 1) := by decide +kernel
set_option maxRecDepth 20000 in
theorem ggX9_setShelf_X9_notShelf : GoodIn wsX9_setShelf wsX9_notShelf := goodIn_r _ [5, 6, 7, 4, 8, 9, 10, 11, 12, 13, 14] (by decide +kernel) (by decide +kernel)
set_option maxRecDepth 20000 in
theorem gX9_setShelf_X9_notShelf : GoodIn wsX9_setShelf (va_wsS RX9 104 yX9_notShelf wsX9_notShelf) := goodIn_app (goodIn_of _ (by decide +kernel)) ggX9_setShelf_X9_notShelf
set_option maxRecDepth 20000 in
theorem ggX9_setShelf_X9_keep : GoodIn wsX9_setShelf wsX9_keep := goodIn_r _ [18, 19, 20, 21, 22, 23, 4, 24, 33, 34, 35, 36, 37, 38, 39, 40, 41, 42, 43] (by decide +kernel) (by decide +kernel)
set_option maxRecDepth 20000 in
theorem gX9_setShelf_X9_keep : GoodIn wsX9_setShelf (wsV RX9 68 RX9 yX9_keep wsX9_keep) := goodIn_app (goodIn_of _ (by decide +kernel)) ggX9_setShelf_X9_keep
set_option maxRecDepth 20000 in
theorem ggX9_setShelf_X9_change : GoodIn wsX9_setShelf wsX9_change := goodIn_r _ [28, 21, 29, 30, 31, 4, 32, 33, 34, 35, 36, 37, 38, 39, 40, 41, 42, 43] (by decide +kernel) (by decide +kernel)
set_option maxRecDepth 20000 in
theorem gX9_setShelf_X9_change : GoodIn wsX9_setShelf (wsV RX9 77 RX9 yX9_change wsX9_change) := goodIn_app (goodIn_of _ (by decide +kernel)) ggX9_setShelf_X9_change
theorem dX9_setShelf_0 : decode cX9_setShelf 0 = .ok (.aload_n 0, 1) := by decide +kernel
theorem dX9_setShelf_1 : decode cX9_setShelf 1 = .ok (.iload_n 1, 1) := by decide +kernel
theorem dX9_setShelf_2 : decode cX9_setShelf 2 = .ok (.iload_n 2, 1) := by decide +kernel
theorem dX9_setShelf_3 : decode cX9_setShelf 3 = .ok (.invokestatic 104, 3) := by decide +kernel
theorem dX9_setShelf_6 : decode cX9_setShelf 6 = .ok (.putfield 42, 3) := by decide +kernel
theorem dX9_setShelf_9 : decode cX9_setShelf 9 = .ok (.aload_n 0, 1) := by decide +kernel
theorem dX9_setShelf_10 : decode cX9_setShelf 10 = .ok (.getfield 42, 3) := by decide +kernel
theorem dX9_setShelf_13 : decode cX9_setShelf 13 = .ok (.ifCond .eq 5, 3) := by decide +kernel
theorem dX9_setShelf_16 : decode cX9_setShelf 16 = .ok (.iconst 0, 1) := by decide +kernel
theorem dX9_setShelf_17 : decode cX9_setShelf 17 = .ok (.ireturn, 1) := by decide +kernel
theorem dX9_setShelf_18 : decode cX9_setShelf 18 = .ok (.aload_n 0, 1) := by decide +kernel
theorem dX9_setShelf_19 : decode cX9_setShelf 19 = .ok (.invokevirtual 68, 3) := by decide +kernel
theorem dX9_setShelf_22 : decode cX9_setShelf 22 = .ok (.aload_n 0, 1) := by decide +kernel
theorem dX9_setShelf_23 : decode cX9_setShelf 23 = .ok (.bipush 49, 2) := by decide +kernel
theorem dX9_setShelf_25 : decode cX9_setShelf 25 = .ok (.iload_n 1, 1) := by decide +kernel
theorem dX9_setShelf_26 : decode cX9_setShelf 26 = .ok (.iadd, 1) := by decide +kernel
theorem dX9_setShelf_27 : decode cX9_setShelf 27 = .ok (.iload_n 2, 1) := by decide +kernel
theorem dX9_setShelf_28 : decode cX9_setShelf 28 = .ok (.invokevirtual 77, 3) := by decide +kernel
theorem dX9_setShelf_31 : decode cX9_setShelf 31 = .ok (.ireturn, 1) := by decide +kernel
set_option maxRecDepth 20000 in
theorem ggX9_notHang_X9_isShelf : GoodIn wsX9_notHang wsX9_isShelf := goodIn_r _ [4, 5, 6, 3, 7] (by decide +kernel) (by decide +kernel)
set_option maxRecDepth 20000 in
theorem gX9_notHang_X9_isShelf : GoodIn wsX9_notHang (va_wsS RX9 98 yX9_isShelf wsX9_isShelf) := goodIn_app (goodIn_of _ (by decide +kernel)) ggX9_notHang_X9_isShelf
theorem dX9_notHang_0 : decode cX9_notHang 0 = .ok (.iload_n 0, 1) := by decide +kernel
theorem dX9_notHang_1 : decode cX9_notHang 1 = .ok (.invokestatic 98, 3) := by decide +kernel
theorem dX9_notHang_4 : decode cX9_notHang 4 = .ok (.ifCond .eq 7, 3) := by decide +kernel
theorem dX9_notHang_7 : decode cX9_notHang 7 = .ok (.iconst 0, 1) := by decide +kernel
theorem dX9_notHang_8 : decode cX9_notHang 8 = .ok (.goto 4, 3) := by decide +kernel
theorem dX9_notHang_11 : decode cX9_notHang 11 = .ok (.iconst 1, 1) := by decide +kernel
theorem dX9_notHang_12 : decode cX9_notHang 12 = .ok (.ireturn, 1) := by decide +kernel
set_option maxRecDepth 20000 in
theorem ggX9_hang_X9_notHang : GoodIn wsX9_hang wsX9_notHang := goodIn_r _ [5, 6, 7, 4, 8, 9, 10, 11] (by decide +kernel) (by decide +kernel)
set_option maxRecDepth 20000 in
theorem gX9_hang_X9_notHang : GoodIn wsX9_hang (va_wsS RX9 107 yX9_notHang wsX9_notHang) := goodIn_app (goodIn_of _ (by decide +kernel)) ggX9_hang_X9_notHang
set_option maxRecDepth 20000 in
theorem ggX9_hang_X9_keep : GoodIn wsX9_hang wsX9_keep := goodIn_r _ [15, 16, 17, 18, 19, 20, 4, 21, 30, 31, 32, 33, 34, 35, 36, 37, 38, 39, 40] (by decide +kernel) (by decide +kernel)
set_option maxRecDepth 20000 in
theorem gX9_hang_X9_keep : GoodIn wsX9_hang (wsV RX9 68 RX9 yX9_keep wsX9_keep) := goodIn_app (goodIn_of _ (by decide +kernel)) ggX9_hang_X9_keep
set_option maxRecDepth 20000 in
theorem ggX9_hang_X9_change : GoodIn wsX9_hang wsX9_change := goodIn_r _ [25, 18, 26, 27, 28, 4, 29, 30, 31, 32, 33, 34, 35, 36, 37, 38, 39, 40] (by decide +kernel) (by decide +kernel)
set_option maxRecDepth 20000 in
theorem gX9_hang_X9_change : GoodIn wsX9_hang (wsV RX9 77 RX9 yX9_change wsX9_change) := goodIn_app (goodIn_of _ (by decide +kernel)) ggX9_hang_X9_change
theorem dX9_hang_0 : decode cX9_hang 0 = .ok (.aload_n 0, 1) := by decide +kernel
theorem dX9_hang_1 : decode cX9_hang 1 = .ok (.iload_n 1, 1) := by decide +kernel
theorem dX9_hang_2 : decode cX9_hang 2 = .ok (.invokestatic 107, 3) := by decide +kernel
theorem dX9_hang_5 : decode cX9_hang 5 = .ok (.putfield 42, 3) := by decide +kernel
theorem dX9_hang_8 : decode cX9_hang 8 = .ok (.aload_n 0, 1) := by decide +kernel
theorem dX9_hang_9 : decode cX9_hang 9 = .ok (.getfield 42, 3) := by decide +kernel
theorem dX9_hang_12 : decode cX9_hang 12 = .ok (.ifCond .eq 5, 3) := by decide +kernel
theorem dX9_hang_15 : decode cX9_hang 15 = .ok (.iconst 0, 1) := by decide +kernel
theorem dX9_hang_16 : decode cX9_hang 16 = .ok (.ireturn, 1) := by decide +kernel
theorem dX9_hang_17 : decode cX9_hang 17 = .ok (.aload_n 0, 1) := by decide +kernel
theorem dX9_hang_18 : decode cX9_hang 18 = .ok (.invokevirtual 68, 3) := by decide +kernel
theorem dX9_hang_21 : decode cX9_hang 21 = .ok (.aload_n 0, 1) := by decide +kernel
theorem dX9_hang_22 : decode cX9_hang 22 = .ok (.iconst 5, 1) := by decide +kernel
theorem dX9_hang_23 : decode cX9_hang 23 = .ok (.iload_n 1, 1) := by decide +kernel
theorem dX9_hang_24 : decode cX9_hang 24 = .ok (.invokevirtual 77, 3) := by decide +kernel
theorem dX9_hang_27 : decode cX9_hang 27 = .ok (.ireturn, 1) := by decide +kernel
set_option maxRecDepth 20000 in
theorem ggX9_notTurn_X9_in : GoodIn wsX9_notTurn wsX9_in := goodIn_r _ [4] (by decide +kernel) (by decide +kernel)
set_option maxRecDepth 20000 in
theorem gX9_notTurn_X9_in : GoodIn wsX9_notTurn (va_wsS RX9 57 yX9_in wsX9_in) := goodIn_app (goodIn_of _ (by decide +kernel)) ggX9_notTurn_X9_in
set_option maxRecDepth 20000 in
theorem ggX9_notTurn_X9_of : GoodIn wsX9_notTurn wsX9_of := goodIn_r _ [8, 9, 10, 11, 12, 13, 14, 15, 16, 17, 18, 19, 20] (by decide +kernel) (by decide +kernel)
set_option maxRecDepth 20000 in
theorem gX9_notTurn_X9_of : GoodIn wsX9_notTurn (wsV RX9 53 RX9 yX9_of wsX9_of) := goodIn_app (goodIn_of _ (by decide +kernel)) ggX9_notTurn_X9_of
theorem dX9_notTurn_0 : decode cX9_notTurn 0 = .ok (.iload_n 1, 1) := by decide +kernel
theorem dX9_notTurn_1 : decode cX9_notTurn 1 = .ok (.sipush (-1000), 3) := by decide +kernel
theorem dX9_notTurn_4 : decode cX9_notTurn 4 = .ok (.sipush 1000, 3) := by decide +kernel
theorem dX9_notTurn_7 : decode cX9_notTurn 7 = .ok (.invokestatic 57, 3) := by decide +kernel
theorem dX9_notTurn_10 : decode cX9_notTurn 10 = .ok (.ifCond .ne 7, 3) := by decide +kernel
theorem dX9_notTurn_13 : decode cX9_notTurn 13 = .ok (.iconst 1, 1) := by decide +kernel
theorem dX9_notTurn_14 : decode cX9_notTurn 14 = .ok (.goto 28, 3) := by decide +kernel
theorem dX9_notTurn_17 : decode cX9_notTurn 17 = .ok (.aload_n 0, 1) := by decide +kernel
theorem dX9_notTurn_18 : decode cX9_notTurn 18 = .ok (.bipush 7, 2) := by decide +kernel
theorem dX9_notTurn_20 : decode cX9_notTurn 20 = .ok (.invokevirtual 53, 3) := by decide +kernel
theorem dX9_notTurn_23 : decode cX9_notTurn 23 = .ok (.iload_n 1, 1) := by decide +kernel
theorem dX9_notTurn_24 : decode cX9_notTurn 24 = .ok (.iadd, 1) := by decide +kernel
theorem dX9_notTurn_25 : decode cX9_notTurn 25 = .ok (.sipush (-500), 3) := by decide +kernel
theorem dX9_notTurn_28 : decode cX9_notTurn 28 = .ok (.sipush 500, 3) := by decide +kernel
theorem dX9_notTurn_31 : decode cX9_notTurn 31 = .ok (.invokestatic 57, 3) := by decide +kernel
theorem dX9_notTurn_34 : decode cX9_notTurn 34 = .ok (.ifCond .eq 7, 3) := by decide +kernel
theorem dX9_notTurn_37 : decode cX9_notTurn 37 = .ok (.iconst 0, 1) := by decide +kernel
theorem dX9_notTurn_38 : decode cX9_notTurn 38 = .ok (.goto 4, 3) := by decide +kernel
theorem dX9_notTurn_41 : decode cX9_notTurn 41 = .ok (.iconst 2, 1) := by decide +kernel
theorem dX9_notTurn_42 : decode cX9_notTurn 42 = .ok (.ireturn, 1) := by decide +kernel
set_option maxRecDepth 20000 in
theorem ggX9_turns_X9_of : GoodIn wsX9_turns wsX9_of := goodIn_r _ [6, 1, 7, 8, 9, 10, 11, 12, 13, 14, 15, 16, 17] (by decide +kernel) (by decide +kernel)
set_option maxRecDepth 20000 in
theorem gX9_turns_X9_of : GoodIn wsX9_turns (wsV RX9 53 RX9 yX9_of wsX9_of) := goodIn_app (goodIn_of _ (by decide +kernel)) ggX9_turns_X9_of
theorem dX9_turns_0 : decode cX9_turns 0 = .ok (.aload_n 0, 1) := by decide +kernel
theorem dX9_turns_1 : decode cX9_turns 1 = .ok (.getfield 7, 3) := by decide +kernel
theorem dX9_turns_4 : decode cX9_turns 4 = .ok (.bipush 7, 2) := by decide +kernel
theorem dX9_turns_6 : decode cX9_turns 6 = .ok (.dup2, 1) := by decide +kernel
theorem dX9_turns_7 : decode cX9_turns 7 = .ok (.laload, 1) := by decide +kernel
theorem dX9_turns_8 : decode cX9_turns 8 = .ok (.iload_n 1, 1) := by decide +kernel
theorem dX9_turns_9 : decode cX9_turns 9 = .ok (.i2l, 1) := by decide +kernel
theorem dX9_turns_10 : decode cX9_turns 10 = .ok (.ladd, 1) := by decide +kernel
theorem dX9_turns_11 : decode cX9_turns 11 = .ok (.lastore, 1) := by decide +kernel
theorem dX9_turns_12 : decode cX9_turns 12 = .ok (.aload_n 0, 1) := by decide +kernel
theorem dX9_turns_13 : decode cX9_turns 13 = .ok (.bipush 7, 2) := by decide +kernel
theorem dX9_turns_15 : decode cX9_turns 15 = .ok (.invokevirtual 53, 3) := by decide +kernel
theorem dX9_turns_18 : decode cX9_turns 18 = .ok (.ireturn, 1) := by decide +kernel
set_option maxRecDepth 20000 in
theorem ggX9_turnNut_X9_notTurn : GoodIn wsX9_turnNut wsX9_notTurn := goodIn_r _ [6, 7, 8, 5, 9, 10, 11, 12, 13, 14, 28, 29, 30, 31, 32, 33, 34, 35, 36, 37, 38] (by decide +kernel) (by decide +kernel)
set_option maxRecDepth 20000 in
theorem gX9_turnNut_X9_notTurn : GoodIn wsX9_turnNut (wsV RX9 110 RX9 yX9_notTurn wsX9_notTurn) := goodIn_app (goodIn_of _ (by decide +kernel)) ggX9_turnNut_X9_notTurn
set_option maxRecDepth 20000 in
theorem ggX9_turnNut_X9_keep : GoodIn wsX9_turnNut wsX9_keep := goodIn_r _ [18, 19, 20, 14, 21, 22, 5, 23, 28, 29, 30, 31, 32, 33, 34, 35, 36, 37, 38] (by decide +kernel) (by decide +kernel)
set_option maxRecDepth 20000 in
theorem gX9_turnNut_X9_keep : GoodIn wsX9_turnNut (wsV RX9 68 RX9 yX9_keep wsX9_keep) := goodIn_app (goodIn_of _ (by decide +kernel)) ggX9_turnNut_X9_keep
set_option maxRecDepth 20000 in
theorem ggX9_turnNut_X9_turns : GoodIn wsX9_turnNut wsX9_turns := goodIn_r _ [27, 14, 10, 11, 12, 5, 13, 28, 29, 30, 31, 32, 33, 34, 35, 36, 37, 38] (by decide +kernel) (by decide +kernel)
set_option maxRecDepth 20000 in
theorem gX9_turnNut_X9_turns : GoodIn wsX9_turnNut (wsV RX9 113 RX9 yX9_turns wsX9_turns) := goodIn_app (goodIn_of _ (by decide +kernel)) ggX9_turnNut_X9_turns
theorem dX9_turnNut_0 : decode cX9_turnNut 0 = .ok (.aload_n 0, 1) := by decide +kernel
theorem dX9_turnNut_1 : decode cX9_turnNut 1 = .ok (.aload_n 0, 1) := by decide +kernel
theorem dX9_turnNut_2 : decode cX9_turnNut 2 = .ok (.iload_n 1, 1) := by decide +kernel
theorem dX9_turnNut_3 : decode cX9_turnNut 3 = .ok (.invokevirtual 110, 3) := by decide +kernel
theorem dX9_turnNut_6 : decode cX9_turnNut 6 = .ok (.putfield 42, 3) := by decide +kernel
theorem dX9_turnNut_9 : decode cX9_turnNut 9 = .ok (.aload_n 0, 1) := by decide +kernel
theorem dX9_turnNut_10 : decode cX9_turnNut 10 = .ok (.getfield 42, 3) := by decide +kernel
theorem dX9_turnNut_13 : decode cX9_turnNut 13 = .ok (.ifCond .eq 5, 3) := by decide +kernel
theorem dX9_turnNut_16 : decode cX9_turnNut 16 = .ok (.iconst 0, 1) := by decide +kernel
theorem dX9_turnNut_17 : decode cX9_turnNut 17 = .ok (.ireturn, 1) := by decide +kernel
theorem dX9_turnNut_18 : decode cX9_turnNut 18 = .ok (.aload_n 0, 1) := by decide +kernel
theorem dX9_turnNut_19 : decode cX9_turnNut 19 = .ok (.invokevirtual 68, 3) := by decide +kernel
theorem dX9_turnNut_22 : decode cX9_turnNut 22 = .ok (.aload_n 0, 1) := by decide +kernel
theorem dX9_turnNut_23 : decode cX9_turnNut 23 = .ok (.iload_n 1, 1) := by decide +kernel
theorem dX9_turnNut_24 : decode cX9_turnNut 24 = .ok (.invokevirtual 113, 3) := by decide +kernel
theorem dX9_turnNut_27 : decode cX9_turnNut 27 = .ok (.ireturn, 1) := by decide +kernel
set_option maxRecDepth 20000 in
theorem ggX9_wind_X9_keep : GoodIn wsX9_wind wsX9_keep := goodIn_r _ [6, 7, 8, 9, 10, 11, 5, 12, 21, 22, 23, 24, 25, 26, 27, 28, 29, 30, 31] (by decide +kernel) (by decide +kernel)
set_option maxRecDepth 20000 in
theorem gX9_wind_X9_keep : GoodIn wsX9_wind (wsV RX9 68 RX9 yX9_keep wsX9_keep) := goodIn_app (goodIn_of _ (by decide +kernel)) ggX9_wind_X9_keep
set_option maxRecDepth 20000 in
theorem ggX9_wind_X9_change : GoodIn wsX9_wind wsX9_change := goodIn_r _ [16, 9, 17, 18, 19, 5, 20, 21, 22, 23, 24, 25, 26, 27, 28, 29, 30, 31] (by decide +kernel) (by decide +kernel)
set_option maxRecDepth 20000 in
theorem gX9_wind_X9_change : GoodIn wsX9_wind (wsV RX9 77 RX9 yX9_change wsX9_change) := goodIn_app (goodIn_of _ (by decide +kernel)) ggX9_wind_X9_change
theorem dX9_wind_0 : decode cX9_wind 0 = .ok (.aload_n 0, 1) := by decide +kernel
theorem dX9_wind_1 : decode cX9_wind 1 = .ok (.iconst 0, 1) := by decide +kernel
theorem dX9_wind_2 : decode cX9_wind 2 = .ok (.putfield 42, 3) := by decide +kernel
theorem dX9_wind_5 : decode cX9_wind 5 = .ok (.aload_n 0, 1) := by decide +kernel
theorem dX9_wind_6 : decode cX9_wind 6 = .ok (.invokevirtual 68, 3) := by decide +kernel
theorem dX9_wind_9 : decode cX9_wind 9 = .ok (.aload_n 0, 1) := by decide +kernel
theorem dX9_wind_10 : decode cX9_wind 10 = .ok (.bipush 8, 2) := by decide +kernel
theorem dX9_wind_12 : decode cX9_wind 12 = .ok (.sipush 192, 3) := by decide +kernel
theorem dX9_wind_15 : decode cX9_wind 15 = .ok (.invokevirtual 77, 3) := by decide +kernel
theorem dX9_wind_18 : decode cX9_wind 18 = .ok (.ireturn, 1) := by decide +kernel
set_option maxRecDepth 20000 in
theorem ggX9_notSet_X9_in : GoodIn wsX9_notSet wsX9_in := goodIn_r _ [6] (by decide +kernel) (by decide +kernel)
set_option maxRecDepth 20000 in
theorem gX9_notSet_X9_in : GoodIn wsX9_notSet (va_wsS RX9 57 yX9_in wsX9_in) := goodIn_app (goodIn_of _ (by decide +kernel)) ggX9_notSet_X9_in
theorem dX9_notSet_0 : decode cX9_notSet 0 = .ok (.iload_n 0, 1) := by decide +kernel
theorem dX9_notSet_1 : decode cX9_notSet 1 = .ok (.lookupswitch 60 #[(0, 27), (1, 44)], 27) := by decide +kernel
theorem dX9_notSet_28 : decode cX9_notSet 28 = .ok (.iload_n 1, 1) := by decide +kernel
theorem dX9_notSet_29 : decode cX9_notSet 29 = .ok (.ldc 116, 2) := by decide +kernel
theorem dX9_notSet_31 : decode cX9_notSet 31 = .ok (.ldc 117, 2) := by decide +kernel
theorem dX9_notSet_33 : decode cX9_notSet 33 = .ok (.invokestatic 57, 3) := by decide +kernel
theorem dX9_notSet_36 : decode cX9_notSet 36 = .ok (.ifCond .eq 7, 3) := by decide +kernel
theorem dX9_notSet_39 : decode cX9_notSet 39 = .ok (.iconst 0, 1) := by decide +kernel
theorem dX9_notSet_40 : decode cX9_notSet 40 = .ok (.goto 4, 3) := by decide +kernel
theorem dX9_notSet_43 : decode cX9_notSet 43 = .ok (.iconst 1, 1) := by decide +kernel
theorem dX9_notSet_44 : decode cX9_notSet 44 = .ok (.ireturn, 1) := by decide +kernel
theorem dX9_notSet_45 : decode cX9_notSet 45 = .ok (.iload_n 1, 1) := by decide +kernel
theorem dX9_notSet_46 : decode cX9_notSet 46 = .ok (.iconst 1, 1) := by decide +kernel
theorem dX9_notSet_47 : decode cX9_notSet 47 = .ok (.bipush 24, 2) := by decide +kernel
theorem dX9_notSet_49 : decode cX9_notSet 49 = .ok (.invokestatic 57, 3) := by decide +kernel
theorem dX9_notSet_52 : decode cX9_notSet 52 = .ok (.ifCond .eq 7, 3) := by decide +kernel
theorem dX9_notSet_55 : decode cX9_notSet 55 = .ok (.iconst 0, 1) := by decide +kernel
theorem dX9_notSet_56 : decode cX9_notSet 56 = .ok (.goto 4, 3) := by decide +kernel
theorem dX9_notSet_59 : decode cX9_notSet 59 = .ok (.iconst 1, 1) := by decide +kernel
theorem dX9_notSet_60 : decode cX9_notSet 60 = .ok (.ireturn, 1) := by decide +kernel
theorem dX9_notSet_61 : decode cX9_notSet 61 = .ok (.iload_n 0, 1) := by decide +kernel
theorem dX9_notSet_62 : decode cX9_notSet 62 = .ok (.iconst 2, 1) := by decide +kernel
theorem dX9_notSet_63 : decode cX9_notSet 63 = .ok (.if_icmp .ne 17, 3) := by decide +kernel
theorem dX9_notSet_66 : decode cX9_notSet 66 = .ok (.iload_n 1, 1) := by decide +kernel
theorem dX9_notSet_67 : decode cX9_notSet 67 = .ok (.iconst 0, 1) := by decide +kernel
theorem dX9_notSet_68 : decode cX9_notSet 68 = .ok (.bipush 100, 2) := by decide +kernel
theorem dX9_notSet_70 : decode cX9_notSet 70 = .ok (.invokestatic 57, 3) := by decide +kernel
theorem dX9_notSet_73 : decode cX9_notSet 73 = .ok (.ifCond .eq 7, 3) := by decide +kernel
theorem dX9_notSet_76 : decode cX9_notSet 76 = .ok (.iconst 0, 1) := by decide +kernel
theorem dX9_notSet_77 : decode cX9_notSet 77 = .ok (.goto 4, 3) := by decide +kernel
theorem dX9_notSet_80 : decode cX9_notSet 80 = .ok (.iconst 1, 1) := by decide +kernel
theorem dX9_notSet_81 : decode cX9_notSet 81 = .ok (.ireturn, 1) := by decide +kernel
set_option maxRecDepth 20000 in
theorem ggX9_set_X9_notSet : GoodIn wsX9_set wsX9_notSet := goodIn_r _ [5, 6, 7, 8, 9, 4, 10] (by decide +kernel) (by decide +kernel)
set_option maxRecDepth 20000 in
theorem gX9_set_X9_notSet : GoodIn wsX9_set (va_wsS RX9 118 yX9_notSet wsX9_notSet) := goodIn_app (goodIn_of _ (by decide +kernel)) ggX9_set_X9_notSet
set_option maxRecDepth 20000 in
theorem ggX9_set_X9_keep : GoodIn wsX9_set wsX9_keep := goodIn_r _ [14, 15, 16, 17, 18, 19, 4, 20, 29, 30, 31, 32, 33, 34, 35, 36, 37, 38, 39] (by decide +kernel) (by decide +kernel)
set_option maxRecDepth 20000 in
theorem gX9_set_X9_keep : GoodIn wsX9_set (wsV RX9 68 RX9 yX9_keep wsX9_keep) := goodIn_app (goodIn_of _ (by decide +kernel)) ggX9_set_X9_keep
set_option maxRecDepth 20000 in
theorem ggX9_set_X9_change : GoodIn wsX9_set wsX9_change := goodIn_r _ [24, 17, 25, 26, 27, 4, 28, 29, 30, 31, 32, 33, 34, 35, 36, 37, 38, 39] (by decide +kernel) (by decide +kernel)
set_option maxRecDepth 20000 in
theorem gX9_set_X9_change : GoodIn wsX9_set (wsV RX9 77 RX9 yX9_change wsX9_change) := goodIn_app (goodIn_of _ (by decide +kernel)) ggX9_set_X9_change
theorem dX9_set_0 : decode cX9_set 0 = .ok (.aload_n 0, 1) := by decide +kernel
theorem dX9_set_1 : decode cX9_set 1 = .ok (.iload_n 1, 1) := by decide +kernel
theorem dX9_set_2 : decode cX9_set 2 = .ok (.iload_n 2, 1) := by decide +kernel
theorem dX9_set_3 : decode cX9_set 3 = .ok (.invokestatic 118, 3) := by decide +kernel
theorem dX9_set_6 : decode cX9_set 6 = .ok (.putfield 42, 3) := by decide +kernel
theorem dX9_set_9 : decode cX9_set 9 = .ok (.aload_n 0, 1) := by decide +kernel
theorem dX9_set_10 : decode cX9_set 10 = .ok (.getfield 42, 3) := by decide +kernel
theorem dX9_set_13 : decode cX9_set 13 = .ok (.ifCond .eq 5, 3) := by decide +kernel
theorem dX9_set_16 : decode cX9_set 16 = .ok (.iconst 0, 1) := by decide +kernel
theorem dX9_set_17 : decode cX9_set 17 = .ok (.ireturn, 1) := by decide +kernel
theorem dX9_set_18 : decode cX9_set 18 = .ok (.aload_n 0, 1) := by decide +kernel
theorem dX9_set_19 : decode cX9_set 19 = .ok (.invokevirtual 68, 3) := by decide +kernel
theorem dX9_set_22 : decode cX9_set 22 = .ok (.aload_n 0, 1) := by decide +kernel
theorem dX9_set_23 : decode cX9_set 23 = .ok (.iload_n 1, 1) := by decide +kernel
theorem dX9_set_24 : decode cX9_set 24 = .ok (.iload_n 2, 1) := by decide +kernel
theorem dX9_set_25 : decode cX9_set 25 = .ok (.invokevirtual 77, 3) := by decide +kernel
theorem dX9_set_28 : decode cX9_set 28 = .ok (.ireturn, 1) := by decide +kernel
set_option maxRecDepth 20000 in
theorem ggX9_stretching_X9_of : GoodIn wsX9_stretching wsX9_of := goodIn_r _ [8, 1, 12, 13, 14, 15, 16, 17, 18, 19, 20, 21, 22] (by decide +kernel) (by decide +kernel)
set_option maxRecDepth 20000 in
theorem gX9_stretching_X9_of : GoodIn wsX9_stretching (wsV RX9 53 RX9 yX9_of wsX9_of) := goodIn_app (goodIn_of _ (by decide +kernel)) ggX9_stretching_X9_of
set_option maxRecDepth 20000 in
theorem ggX9_stretching_X9_floor : GoodIn wsX9_stretching wsX9_floor := goodIn_r _ [11] (by decide +kernel) (by decide +kernel)
set_option maxRecDepth 20000 in
theorem gX9_stretching_X9_floor : GoodIn wsX9_stretching (va_wsS RX9 123 yX9_floor wsX9_floor) := goodIn_app (goodIn_of _ (by decide +kernel)) ggX9_stretching_X9_floor
theorem dX9_stretching_0 : decode cX9_stretching 0 = .ok (.aload_n 0, 1) := by decide +kernel
theorem dX9_stretching_1 : decode cX9_stretching 1 = .ok (.getfield 7, 3) := by decide +kernel
theorem dX9_stretching_4 : decode cX9_stretching 4 = .ok (.bipush 22, 2) := by decide +kernel
theorem dX9_stretching_6 : decode cX9_stretching 6 = .ok (.iconst 3, 1) := by decide +kernel
theorem dX9_stretching_7 : decode cX9_stretching 7 = .ok (.iload_n 1, 1) := by decide +kernel
theorem dX9_stretching_8 : decode cX9_stretching 8 = .ok (.imul, 1) := by decide +kernel
theorem dX9_stretching_9 : decode cX9_stretching 9 = .ok (.iadd, 1) := by decide +kernel
theorem dX9_stretching_10 : decode cX9_stretching 10 = .ok (.iconst 2, 1) := by decide +kernel
theorem dX9_stretching_11 : decode cX9_stretching 11 = .ok (.iadd, 1) := by decide +kernel
theorem dX9_stretching_12 : decode cX9_stretching 12 = .ok (.laload, 1) := by decide +kernel
theorem dX9_stretching_13 : decode cX9_stretching 13 = .ok (.aload_n 0, 1) := by decide +kernel
theorem dX9_stretching_14 : decode cX9_stretching 14 = .ok (.getfield 7, 3) := by decide +kernel
theorem dX9_stretching_17 : decode cX9_stretching 17 = .ok (.bipush 16, 2) := by decide +kernel
theorem dX9_stretching_19 : decode cX9_stretching 19 = .ok (.aload_n 0, 1) := by decide +kernel
theorem dX9_stretching_20 : decode cX9_stretching 20 = .ok (.bipush 22, 2) := by decide +kernel
theorem dX9_stretching_22 : decode cX9_stretching 22 = .ok (.iconst 3, 1) := by decide +kernel
theorem dX9_stretching_23 : decode cX9_stretching 23 = .ok (.iload_n 1, 1) := by decide +kernel
theorem dX9_stretching_24 : decode cX9_stretching 24 = .ok (.imul, 1) := by decide +kernel
theorem dX9_stretching_25 : decode cX9_stretching 25 = .ok (.iadd, 1) := by decide +kernel
theorem dX9_stretching_26 : decode cX9_stretching 26 = .ok (.invokevirtual 53, 3) := by decide +kernel
theorem dX9_stretching_29 : decode cX9_stretching 29 = .ok (.iadd, 1) := by decide +kernel
theorem dX9_stretching_30 : decode cX9_stretching 30 = .ok (.laload, 1) := by decide +kernel
theorem dX9_stretching_31 : decode cX9_stretching 31 = .ok (.lmul, 1) := by decide +kernel
theorem dX9_stretching_32 : decode cX9_stretching 32 = .ok (.lload_n 2, 1) := by decide +kernel
theorem dX9_stretching_33 : decode cX9_stretching 33 = .ok (.ldc2_w 34, 3) := by decide +kernel
theorem dX9_stretching_36 : decode cX9_stretching 36 = .ok (.lsub, 1) := by decide +kernel
theorem dX9_stretching_37 : decode cX9_stretching 37 = .ok (.lmul, 1) := by decide +kernel
theorem dX9_stretching_38 : decode cX9_stretching 38 = .ok (.ldc2_w 121, 3) := by decide +kernel
theorem dX9_stretching_41 : decode cX9_stretching 41 = .ok (.invokestatic 123, 3) := by decide +kernel
theorem dX9_stretching_44 : decode cX9_stretching 44 = .ok (.lreturn, 1) := by decide +kernel
set_option maxRecDepth 20000 in
theorem ggX9_rodsAt_X9_of : GoodIn wsX9_rodsAt wsX9_of := goodIn_r _ [6, 1, 16, 17, 18, 19, 20, 21, 22, 23, 24, 25, 26] (by decide +kernel) (by decide +kernel)
set_option maxRecDepth 20000 in
theorem gX9_rodsAt_X9_of : GoodIn wsX9_rodsAt (wsV RX9 53 RX9 yX9_of wsX9_of) := goodIn_app (goodIn_of _ (by decide +kernel)) ggX9_rodsAt_X9_of
set_option maxRecDepth 20000 in
theorem ggX9_rodsAt_X9_stretching : GoodIn wsX9_rodsAt wsX9_stretching := goodIn_r _ [10, 1, 11, 12, 2, 3, 4, 5, 6, 13, 14, 15, 16, 17, 18, 19, 20, 21, 22, 23, 24, 25, 26] (by decide +kernel) (by decide +kernel)
set_option maxRecDepth 20000 in
theorem gX9_rodsAt_X9_stretching : GoodIn wsX9_rodsAt (wsV RX9 127 RX9 yX9_stretching wsX9_stretching) := goodIn_app (goodIn_of _ (by decide +kernel)) ggX9_rodsAt_X9_stretching
theorem dX9_rodsAt_0 : decode cX9_rodsAt 0 = .ok (.lconst 0, 1) := by decide +kernel
theorem dX9_rodsAt_1 : decode cX9_rodsAt 1 = .ok (.lstore_n 3, 1) := by decide +kernel
theorem dX9_rodsAt_2 : decode cX9_rodsAt 2 = .ok (.iconst 0, 1) := by decide +kernel
theorem dX9_rodsAt_3 : decode cX9_rodsAt 3 = .ok (.istore 5, 2) := by decide +kernel
theorem dX9_rodsAt_5 : decode cX9_rodsAt 5 = .ok (.iload 5, 2) := by decide +kernel
theorem dX9_rodsAt_7 : decode cX9_rodsAt 7 = .ok (.aload_n 0, 1) := by decide +kernel
theorem dX9_rodsAt_8 : decode cX9_rodsAt 8 = .ok (.iconst 4, 1) := by decide +kernel
theorem dX9_rodsAt_9 : decode cX9_rodsAt 9 = .ok (.invokevirtual 53, 3) := by decide +kernel
theorem dX9_rodsAt_12 : decode cX9_rodsAt 12 = .ok (.if_icmp .ge 49, 3) := by decide +kernel
theorem dX9_rodsAt_15 : decode cX9_rodsAt 15 = .ok (.lload_n 3, 1) := by decide +kernel
theorem dX9_rodsAt_16 : decode cX9_rodsAt 16 = .ok (.aload_n 0, 1) := by decide +kernel
theorem dX9_rodsAt_17 : decode cX9_rodsAt 17 = .ok (.getfield 7, 3) := by decide +kernel
theorem dX9_rodsAt_20 : decode cX9_rodsAt 20 = .ok (.bipush 22, 2) := by decide +kernel
theorem dX9_rodsAt_22 : decode cX9_rodsAt 22 = .ok (.iconst 3, 1) := by decide +kernel
theorem dX9_rodsAt_23 : decode cX9_rodsAt 23 = .ok (.iload 5, 2) := by decide +kernel
theorem dX9_rodsAt_25 : decode cX9_rodsAt 25 = .ok (.imul, 1) := by decide +kernel
theorem dX9_rodsAt_26 : decode cX9_rodsAt 26 = .ok (.iadd, 1) := by decide +kernel
theorem dX9_rodsAt_27 : decode cX9_rodsAt 27 = .ok (.iconst 1, 1) := by decide +kernel
theorem dX9_rodsAt_28 : decode cX9_rodsAt 28 = .ok (.iadd, 1) := by decide +kernel
theorem dX9_rodsAt_29 : decode cX9_rodsAt 29 = .ok (.laload, 1) := by decide +kernel
theorem dX9_rodsAt_30 : decode cX9_rodsAt 30 = .ok (.aload_n 0, 1) := by decide +kernel
theorem dX9_rodsAt_31 : decode cX9_rodsAt 31 = .ok (.getfield 7, 3) := by decide +kernel
theorem dX9_rodsAt_34 : decode cX9_rodsAt 34 = .ok (.bipush 22, 2) := by decide +kernel
theorem dX9_rodsAt_36 : decode cX9_rodsAt 36 = .ok (.iconst 3, 1) := by decide +kernel
theorem dX9_rodsAt_37 : decode cX9_rodsAt 37 = .ok (.iload 5, 2) := by decide +kernel
theorem dX9_rodsAt_39 : decode cX9_rodsAt 39 = .ok (.imul, 1) := by decide +kernel
theorem dX9_rodsAt_40 : decode cX9_rodsAt 40 = .ok (.iadd, 1) := by decide +kernel
theorem dX9_rodsAt_41 : decode cX9_rodsAt 41 = .ok (.iconst 2, 1) := by decide +kernel
theorem dX9_rodsAt_42 : decode cX9_rodsAt 42 = .ok (.iadd, 1) := by decide +kernel
theorem dX9_rodsAt_43 : decode cX9_rodsAt 43 = .ok (.laload, 1) := by decide +kernel
theorem dX9_rodsAt_44 : decode cX9_rodsAt 44 = .ok (.aload_n 0, 1) := by decide +kernel
theorem dX9_rodsAt_45 : decode cX9_rodsAt 45 = .ok (.iload 5, 2) := by decide +kernel
theorem dX9_rodsAt_47 : decode cX9_rodsAt 47 = .ok (.lload_n 1, 1) := by decide +kernel
theorem dX9_rodsAt_48 : decode cX9_rodsAt 48 = .ok (.invokevirtual 127, 3) := by decide +kernel
theorem dX9_rodsAt_51 : decode cX9_rodsAt 51 = .ok (.ladd, 1) := by decide +kernel
theorem dX9_rodsAt_52 : decode cX9_rodsAt 52 = .ok (.lmul, 1) := by decide +kernel
theorem dX9_rodsAt_53 : decode cX9_rodsAt 53 = .ok (.ladd, 1) := by decide +kernel
theorem dX9_rodsAt_54 : decode cX9_rodsAt 54 = .ok (.lstore_n 3, 1) := by decide +kernel
theorem dX9_rodsAt_55 : decode cX9_rodsAt 55 = .ok (.iinc 5 1, 3) := by decide +kernel
theorem dX9_rodsAt_58 : decode cX9_rodsAt 58 = .ok (.goto (-53), 3) := by decide +kernel
theorem dX9_rodsAt_61 : decode cX9_rodsAt 61 = .ok (.lload_n 3, 1) := by decide +kernel
theorem dX9_rodsAt_62 : decode cX9_rodsAt 62 = .ok (.lreturn, 1) := by decide +kernel
set_option maxRecDepth 20000 in
theorem ggX9_lengthAt_X9_rodsAt : GoodIn wsX9_lengthAt wsX9_rodsAt := goodIn_r _ [7, 2, 8, 9, 10, 6, 11, 12, 13, 14, 15, 16, 17, 18, 19, 20, 21, 22, 23, 24, 25, 26, 27, 28, 29, 30, 31] (by decide +kernel) (by decide +kernel)
set_option maxRecDepth 20000 in
theorem gX9_lengthAt_X9_rodsAt : GoodIn wsX9_lengthAt (wsV RX9 131 RX9 yX9_rodsAt wsX9_rodsAt) := goodIn_app (goodIn_of _ (by decide +kernel)) ggX9_lengthAt_X9_rodsAt
theorem dX9_lengthAt_0 : decode cX9_lengthAt 0 = .ok (.aload_n 0, 1) := by decide +kernel
theorem dX9_lengthAt_1 : decode cX9_lengthAt 1 = .ok (.lload_n 1, 1) := by decide +kernel
theorem dX9_lengthAt_2 : decode cX9_lengthAt 2 = .ok (.invokevirtual 131, 3) := by decide +kernel
theorem dX9_lengthAt_5 : decode cX9_lengthAt 5 = .ok (.ldc2_w 135, 3) := by decide +kernel
theorem dX9_lengthAt_8 : decode cX9_lengthAt 8 = .ok (.aload_n 0, 1) := by decide +kernel
theorem dX9_lengthAt_9 : decode cX9_lengthAt 9 = .ok (.getfield 7, 3) := by decide +kernel
theorem dX9_lengthAt_12 : decode cX9_lengthAt 12 = .ok (.bipush 7, 2) := by decide +kernel
theorem dX9_lengthAt_14 : decode cX9_lengthAt 14 = .ok (.laload, 1) := by decide +kernel
theorem dX9_lengthAt_15 : decode cX9_lengthAt 15 = .ok (.lmul, 1) := by decide +kernel
theorem dX9_lengthAt_16 : decode cX9_lengthAt 16 = .ok (.ladd, 1) := by decide +kernel
theorem dX9_lengthAt_17 : decode cX9_lengthAt 17 = .ok (.lreturn, 1) := by decide +kernel
theorem dX9_arc_0 : decode cX9_arc 0 = .ok (.aload_n 0, 1) := by decide +kernel
theorem dX9_arc_1 : decode cX9_arc 1 = .ok (.getfield 7, 3) := by decide +kernel
theorem dX9_arc_4 : decode cX9_arc 4 = .ok (.iconst 2, 1) := by decide +kernel
theorem dX9_arc_5 : decode cX9_arc 5 = .ok (.laload, 1) := by decide +kernel
theorem dX9_arc_6 : decode cX9_arc 6 = .ok (.aload_n 0, 1) := by decide +kernel
theorem dX9_arc_7 : decode cX9_arc 7 = .ok (.getfield 7, 3) := by decide +kernel
theorem dX9_arc_10 : decode cX9_arc 10 = .ok (.bipush 8, 2) := by decide +kernel
theorem dX9_arc_12 : decode cX9_arc 12 = .ok (.laload, 1) := by decide +kernel
theorem dX9_arc_13 : decode cX9_arc 13 = .ok (.ldc2_w 137, 3) := by decide +kernel
theorem dX9_arc_16 : decode cX9_arc 16 = .ok (.ldiv, 1) := by decide +kernel
theorem dX9_arc_17 : decode cX9_arc 17 = .ok (.ladd, 1) := by decide +kernel
theorem dX9_arc_18 : decode cX9_arc 18 = .ok (.lreturn, 1) := by decide +kernel
set_option maxRecDepth 20000 in
theorem ggX9_loss_X9_arc : GoodIn wsX9_loss wsX9_arc := goodIn_r _ [7, 8, 9, 10, 11, 12, 13, 14, 15, 16, 17, 18, 19, 20] (by decide +kernel) (by decide +kernel)
set_option maxRecDepth 20000 in
theorem gX9_loss_X9_arc : GoodIn wsX9_loss (wsV RX9 139 RX9 yX9_arc wsX9_arc) := goodIn_app (goodIn_of _ (by decide +kernel)) ggX9_loss_X9_arc
theorem dX9_loss_0 : decode cX9_loss 0 = .ok (.aload_n 0, 1) := by decide +kernel
theorem dX9_loss_1 : decode cX9_loss 1 = .ok (.invokevirtual 139, 3) := by decide +kernel
theorem dX9_loss_4 : decode cX9_loss 4 = .ok (.aload_n 0, 1) := by decide +kernel
theorem dX9_loss_5 : decode cX9_loss 5 = .ok (.invokevirtual 139, 3) := by decide +kernel
theorem dX9_loss_8 : decode cX9_loss 8 = .ok (.lmul, 1) := by decide +kernel
theorem dX9_loss_9 : decode cX9_loss 9 = .ok (.ldc2_w 143, 3) := by decide +kernel
theorem dX9_loss_12 : decode cX9_loss 12 = .ok (.lmul, 1) := by decide +kernel
theorem dX9_loss_13 : decode cX9_loss 13 = .ok (.ldc2_w 145, 3) := by decide +kernel
theorem dX9_loss_16 : decode cX9_loss 16 = .ok (.ldiv, 1) := by decide +kernel
theorem dX9_loss_17 : decode cX9_loss 17 = .ok (.lreturn, 1) := by decide +kernel
set_option maxRecDepth 20000 in
theorem ggX9_rateBy_X9_floor : GoodIn wsX9_rateBy wsX9_floor := goodIn_r _ [8] (by decide +kernel) (by decide +kernel)
set_option maxRecDepth 20000 in
theorem gX9_rateBy_X9_floor : GoodIn wsX9_rateBy (va_wsS RX9 123 yX9_floor wsX9_floor) := goodIn_app (goodIn_of _ (by decide +kernel)) ggX9_rateBy_X9_floor
set_option maxRecDepth 20000 in
theorem ggX9_rateBy_X9_within : GoodIn wsX9_rateBy wsX9_within := goodIn_r _ [11] (by decide +kernel) (by decide +kernel)
set_option maxRecDepth 20000 in
theorem gX9_rateBy_X9_within : GoodIn wsX9_rateBy (va_wsS RX9 153 yX9_within wsX9_within) := goodIn_app (goodIn_of _ (by decide +kernel)) ggX9_rateBy_X9_within
set_option maxRecDepth 20000 in
theorem ggX9_rateBy_X9_loss : GoodIn wsX9_rateBy wsX9_loss := goodIn_r _ [15, 16, 17, 18, 19, 20, 7, 21, 2, 22, 23, 24, 25, 26, 27, 28, 29, 30, 31, 32, 33] (by decide +kernel) (by decide +kernel)
set_option maxRecDepth 20000 in
theorem gX9_rateBy_X9_loss : GoodIn wsX9_rateBy (wsV RX9 157 RX9 yX9_loss wsX9_loss) := goodIn_app (goodIn_of _ (by decide +kernel)) ggX9_rateBy_X9_loss
theorem dX9_rateBy_0 : decode cX9_rateBy 0 = .ok (.ldc2_w 147, 3) := by decide +kernel
theorem dX9_rateBy_3 : decode cX9_rateBy 3 = .ok (.aload_n 0, 1) := by decide +kernel
theorem dX9_rateBy_4 : decode cX9_rateBy 4 = .ok (.getfield 7, 3) := by decide +kernel
theorem dX9_rateBy_7 : decode cX9_rateBy 7 = .ok (.iconst 0, 1) := by decide +kernel
theorem dX9_rateBy_8 : decode cX9_rateBy 8 = .ok (.laload, 1) := by decide +kernel
theorem dX9_rateBy_9 : decode cX9_rateBy 9 = .ok (.lload_n 1, 1) := by decide +kernel
theorem dX9_rateBy_10 : decode cX9_rateBy 10 = .ok (.lsub, 1) := by decide +kernel
theorem dX9_rateBy_11 : decode cX9_rateBy 11 = .ok (.lmul, 1) := by decide +kernel
theorem dX9_rateBy_12 : decode cX9_rateBy 12 = .ok (.aload_n 0, 1) := by decide +kernel
theorem dX9_rateBy_13 : decode cX9_rateBy 13 = .ok (.getfield 7, 3) := by decide +kernel
theorem dX9_rateBy_16 : decode cX9_rateBy 16 = .ok (.iconst 0, 1) := by decide +kernel
theorem dX9_rateBy_17 : decode cX9_rateBy 17 = .ok (.laload, 1) := by decide +kernel
theorem dX9_rateBy_18 : decode cX9_rateBy 18 = .ok (.invokestatic 123, 3) := by decide +kernel
theorem dX9_rateBy_21 : decode cX9_rateBy 21 = .ok (.lstore_n 3, 1) := by decide +kernel
theorem dX9_rateBy_22 : decode cX9_rateBy 22 = .ok (.lload_n 3, 1) := by decide +kernel
theorem dX9_rateBy_23 : decode cX9_rateBy 23 = .ok (.ldc2_w 149, 3) := by decide +kernel
theorem dX9_rateBy_26 : decode cX9_rateBy 26 = .ok (.ldc2_w 151, 3) := by decide +kernel
theorem dX9_rateBy_29 : decode cX9_rateBy 29 = .ok (.invokestatic 153, 3) := by decide +kernel
theorem dX9_rateBy_32 : decode cX9_rateBy 32 = .ok (.aload_n 0, 1) := by decide +kernel
theorem dX9_rateBy_33 : decode cX9_rateBy 33 = .ok (.invokevirtual 157, 3) := by decide +kernel
theorem dX9_rateBy_36 : decode cX9_rateBy 36 = .ok (.lsub, 1) := by decide +kernel
theorem dX9_rateBy_37 : decode cX9_rateBy 37 = .ok (.lreturn, 1) := by decide +kernel
set_option maxRecDepth 20000 in
theorem ggX9_rateNow_X9_lengthAt : GoodIn wsX9_rateNow wsX9_lengthAt := goodIn_r _ [6, 7, 1, 8, 9, 10, 5, 11, 12, 13, 14, 15, 16, 17, 18, 19, 20, 21, 22, 23, 24, 46, 47, 48, 49, 50, 51, 52, 53, 54, 55, 56] (by decide +kernel) (by decide +kernel)
set_option maxRecDepth 20000 in
theorem gX9_rateNow_X9_lengthAt : GoodIn wsX9_rateNow (wsV RX9 160 RX9 yX9_lengthAt wsX9_lengthAt) := goodIn_app (goodIn_of _ (by decide +kernel)) ggX9_rateNow_X9_lengthAt
set_option maxRecDepth 20000 in
theorem ggX9_rateNow_X9_rateBy : GoodIn wsX9_rateNow wsX9_rateBy := goodIn_r _ [28, 29, 1, 30, 31, 22, 23, 5, 24, 32, 33, 34, 35, 36, 37, 38, 39, 40, 41, 42, 43, 44, 45, 46, 47, 48, 49, 50, 51, 52, 53, 54, 55, 56] (by decide +kernel) (by decide +kernel)
set_option maxRecDepth 20000 in
theorem gX9_rateNow_X9_rateBy : GoodIn wsX9_rateNow (wsV RX9 163 RX9 yX9_rateBy wsX9_rateBy) := goodIn_app (goodIn_of _ (by decide +kernel)) ggX9_rateNow_X9_rateBy
theorem dX9_rateNow_0 : decode cX9_rateNow 0 = .ok (.aload_n 0, 1) := by decide +kernel
theorem dX9_rateNow_1 : decode cX9_rateNow 1 = .ok (.aload_n 0, 1) := by decide +kernel
theorem dX9_rateNow_2 : decode cX9_rateNow 2 = .ok (.aload_n 0, 1) := by decide +kernel
theorem dX9_rateNow_3 : decode cX9_rateNow 3 = .ok (.getfield 7, 3) := by decide +kernel
theorem dX9_rateNow_6 : decode cX9_rateNow 6 = .ok (.bipush 6, 2) := by decide +kernel
theorem dX9_rateNow_8 : decode cX9_rateNow 8 = .ok (.laload, 1) := by decide +kernel
theorem dX9_rateNow_9 : decode cX9_rateNow 9 = .ok (.invokevirtual 160, 3) := by decide +kernel
theorem dX9_rateNow_12 : decode cX9_rateNow 12 = .ok (.invokevirtual 163, 3) := by decide +kernel
theorem dX9_rateNow_15 : decode cX9_rateNow 15 = .ok (.lreturn, 1) := by decide +kernel
set_option maxRecDepth 20000 in
theorem ggX9_stepWarmth_X9_of : GoodIn wsX9_stepWarmth wsX9_of := goodIn_r _ [7, 1, 11, 12, 13, 14, 15, 16, 17, 18, 19, 20, 21] (by decide +kernel) (by decide +kernel)
set_option maxRecDepth 20000 in
theorem gX9_stepWarmth_X9_of : GoodIn wsX9_stepWarmth (wsV RX9 53 RX9 yX9_of wsX9_of) := goodIn_app (goodIn_of _ (by decide +kernel)) ggX9_stepWarmth_X9_of
set_option maxRecDepth 20000 in
theorem ggX9_stepWarmth_X9_floor : GoodIn wsX9_stepWarmth wsX9_floor := goodIn_r _ [10] (by decide +kernel) (by decide +kernel)
set_option maxRecDepth 20000 in
theorem gX9_stepWarmth_X9_floor : GoodIn wsX9_stepWarmth (va_wsS RX9 123 yX9_floor wsX9_floor) := goodIn_app (goodIn_of _ (by decide +kernel)) ggX9_stepWarmth_X9_floor
theorem dX9_stepWarmth_0 : decode cX9_stepWarmth 0 = .ok (.aload_n 0, 1) := by decide +kernel
theorem dX9_stepWarmth_1 : decode cX9_stepWarmth 1 = .ok (.getfield 7, 3) := by decide +kernel
theorem dX9_stepWarmth_4 : decode cX9_stepWarmth 4 = .ok (.bipush 49, 2) := by decide +kernel
theorem dX9_stepWarmth_6 : decode cX9_stepWarmth 6 = .ok (.aload_n 0, 1) := by decide +kernel
theorem dX9_stepWarmth_7 : decode cX9_stepWarmth 7 = .ok (.iconst 5, 1) := by decide +kernel
theorem dX9_stepWarmth_8 : decode cX9_stepWarmth 8 = .ok (.invokevirtual 53, 3) := by decide +kernel
theorem dX9_stepWarmth_11 : decode cX9_stepWarmth 11 = .ok (.iadd, 1) := by decide +kernel
theorem dX9_stepWarmth_12 : decode cX9_stepWarmth 12 = .ok (.laload, 1) := by decide +kernel
theorem dX9_stepWarmth_13 : decode cX9_stepWarmth 13 = .ok (.aload_n 0, 1) := by decide +kernel
theorem dX9_stepWarmth_14 : decode cX9_stepWarmth 14 = .ok (.getfield 7, 3) := by decide +kernel
theorem dX9_stepWarmth_17 : decode cX9_stepWarmth 17 = .ok (.bipush 6, 2) := by decide +kernel
theorem dX9_stepWarmth_19 : decode cX9_stepWarmth 19 = .ok (.laload, 1) := by decide +kernel
theorem dX9_stepWarmth_20 : decode cX9_stepWarmth 20 = .ok (.lsub, 1) := by decide +kernel
theorem dX9_stepWarmth_21 : decode cX9_stepWarmth 21 = .ok (.lstore_n 1, 1) := by decide +kernel
theorem dX9_stepWarmth_22 : decode cX9_stepWarmth 22 = .ok (.lload_n 1, 1) := by decide +kernel
theorem dX9_stepWarmth_23 : decode cX9_stepWarmth 23 = .ok (.aload_n 0, 1) := by decide +kernel
theorem dX9_stepWarmth_24 : decode cX9_stepWarmth 24 = .ok (.getfield 7, 3) := by decide +kernel
theorem dX9_stepWarmth_27 : decode cX9_stepWarmth 27 = .ok (.iconst 1, 1) := by decide +kernel
theorem dX9_stepWarmth_28 : decode cX9_stepWarmth 28 = .ok (.laload, 1) := by decide +kernel
theorem dX9_stepWarmth_29 : decode cX9_stepWarmth 29 = .ok (.invokestatic 123, 3) := by decide +kernel
theorem dX9_stepWarmth_32 : decode cX9_stepWarmth 32 = .ok (.lstore_n 3, 1) := by decide +kernel
theorem dX9_stepWarmth_33 : decode cX9_stepWarmth 33 = .ok (.aload_n 0, 1) := by decide +kernel
theorem dX9_stepWarmth_34 : decode cX9_stepWarmth 34 = .ok (.getfield 7, 3) := by decide +kernel
theorem dX9_stepWarmth_37 : decode cX9_stepWarmth 37 = .ok (.bipush 6, 2) := by decide +kernel
theorem dX9_stepWarmth_39 : decode cX9_stepWarmth 39 = .ok (.dup2, 1) := by decide +kernel
theorem dX9_stepWarmth_40 : decode cX9_stepWarmth 40 = .ok (.laload, 1) := by decide +kernel
theorem dX9_stepWarmth_41 : decode cX9_stepWarmth 41 = .ok (.lload_n 3, 1) := by decide +kernel
theorem dX9_stepWarmth_42 : decode cX9_stepWarmth 42 = .ok (.lconst 0, 1) := by decide +kernel
theorem dX9_stepWarmth_43 : decode cX9_stepWarmth 43 = .ok (.lcmp, 1) := by decide +kernel
theorem dX9_stepWarmth_44 : decode cX9_stepWarmth 44 = .ok (.ifCond .ne 25, 3) := by decide +kernel
theorem dX9_stepWarmth_47 : decode cX9_stepWarmth 47 = .ok (.lload_n 1, 1) := by decide +kernel
theorem dX9_stepWarmth_48 : decode cX9_stepWarmth 48 = .ok (.lconst 0, 1) := by decide +kernel
theorem dX9_stepWarmth_49 : decode cX9_stepWarmth 49 = .ok (.lcmp, 1) := by decide +kernel
theorem dX9_stepWarmth_50 : decode cX9_stepWarmth 50 = .ok (.ifCond .eq 19, 3) := by decide +kernel
theorem dX9_stepWarmth_53 : decode cX9_stepWarmth 53 = .ok (.lload_n 1, 1) := by decide +kernel
theorem dX9_stepWarmth_54 : decode cX9_stepWarmth 54 = .ok (.lconst 0, 1) := by decide +kernel
theorem dX9_stepWarmth_55 : decode cX9_stepWarmth 55 = .ok (.lcmp, 1) := by decide +kernel
theorem dX9_stepWarmth_56 : decode cX9_stepWarmth 56 = .ok (.ifCond .le 7, 3) := by decide +kernel
theorem dX9_stepWarmth_59 : decode cX9_stepWarmth 59 = .ok (.lconst 1, 1) := by decide +kernel
theorem dX9_stepWarmth_60 : decode cX9_stepWarmth 60 = .ok (.goto 10, 3) := by decide +kernel
theorem dX9_stepWarmth_63 : decode cX9_stepWarmth 63 = .ok (.ldc2_w 166, 3) := by decide +kernel
theorem dX9_stepWarmth_66 : decode cX9_stepWarmth 66 = .ok (.goto 4, 3) := by decide +kernel
theorem dX9_stepWarmth_69 : decode cX9_stepWarmth 69 = .ok (.lload_n 3, 1) := by decide +kernel
theorem dX9_stepWarmth_70 : decode cX9_stepWarmth 70 = .ok (.ladd, 1) := by decide +kernel
theorem dX9_stepWarmth_71 : decode cX9_stepWarmth 71 = .ok (.lastore, 1) := by decide +kernel
theorem dX9_stepWarmth_72 : decode cX9_stepWarmth 72 = .ok (.return_, 1) := by decide +kernel
set_option maxRecDepth 20000 in
theorem ggX9_logDay_X9_rateNow : GoodIn wsX9_logDay wsX9_rateNow := goodIn_r _ [7, 1, 8, 9, 10, 6, 11, 2, 12, 13, 14, 15, 16, 17, 18, 19, 20, 21, 22, 23, 24, 25, 26, 27, 28, 29, 30, 31, 32, 33, 34, 35, 36, 37, 38, 39, 40, 41, 42, 43, 44, 45, 46, 47, 48, 49, 50, 51, 52, 53, 54, 55, 56, 57, 58, 59, 60] (by decide +kernel) (by decide +kernel)
set_option maxRecDepth 20000 in
theorem gX9_logDay_X9_rateNow : GoodIn wsX9_logDay (wsV RX9 168 RX9 yX9_rateNow wsX9_rateNow) := goodIn_app (goodIn_of _ (by decide +kernel)) ggX9_logDay_X9_rateNow
theorem dX9_logDay_0 : decode cX9_logDay 0 = .ok (.bipush 39, 2) := by decide +kernel
theorem dX9_logDay_2 : decode cX9_logDay 2 = .ok (.istore_n 1, 1) := by decide +kernel
theorem dX9_logDay_3 : decode cX9_logDay 3 = .ok (.iload_n 1, 1) := by decide +kernel
theorem dX9_logDay_4 : decode cX9_logDay 4 = .ok (.iconst 3, 1) := by decide +kernel
theorem dX9_logDay_5 : decode cX9_logDay 5 = .ok (.if_icmp .le 29, 3) := by decide +kernel
theorem dX9_logDay_8 : decode cX9_logDay 8 = .ok (.aload_n 0, 1) := by decide +kernel
theorem dX9_logDay_9 : decode cX9_logDay 9 = .ok (.getfield 7, 3) := by decide +kernel
theorem dX9_logDay_12 : decode cX9_logDay 12 = .ok (.bipush 54, 2) := by decide +kernel
theorem dX9_logDay_14 : decode cX9_logDay 14 = .ok (.iload_n 1, 1) := by decide +kernel
theorem dX9_logDay_15 : decode cX9_logDay 15 = .ok (.iadd, 1) := by decide +kernel
theorem dX9_logDay_16 : decode cX9_logDay 16 = .ok (.aload_n 0, 1) := by decide +kernel
theorem dX9_logDay_17 : decode cX9_logDay 17 = .ok (.getfield 7, 3) := by decide +kernel
theorem dX9_logDay_20 : decode cX9_logDay 20 = .ok (.bipush 54, 2) := by decide +kernel
theorem dX9_logDay_22 : decode cX9_logDay 22 = .ok (.iload_n 1, 1) := by decide +kernel
theorem dX9_logDay_23 : decode cX9_logDay 23 = .ok (.iadd, 1) := by decide +kernel
theorem dX9_logDay_24 : decode cX9_logDay 24 = .ok (.iconst 4, 1) := by decide +kernel
theorem dX9_logDay_25 : decode cX9_logDay 25 = .ok (.isub, 1) := by decide +kernel
theorem dX9_logDay_26 : decode cX9_logDay 26 = .ok (.laload, 1) := by decide +kernel
theorem dX9_logDay_27 : decode cX9_logDay 27 = .ok (.lastore, 1) := by decide +kernel
theorem dX9_logDay_28 : decode cX9_logDay 28 = .ok (.iinc 1 (-1), 3) := by decide +kernel
theorem dX9_logDay_31 : decode cX9_logDay 31 = .ok (.goto (-28), 3) := by decide +kernel
theorem dX9_logDay_34 : decode cX9_logDay 34 = .ok (.aload_n 0, 1) := by decide +kernel
theorem dX9_logDay_35 : decode cX9_logDay 35 = .ok (.getfield 7, 3) := by decide +kernel
theorem dX9_logDay_38 : decode cX9_logDay 38 = .ok (.bipush 54, 2) := by decide +kernel
theorem dX9_logDay_40 : decode cX9_logDay 40 = .ok (.aload_n 0, 1) := by decide +kernel
theorem dX9_logDay_41 : decode cX9_logDay 41 = .ok (.getfield 7, 3) := by decide +kernel
theorem dX9_logDay_44 : decode cX9_logDay 44 = .ok (.bipush 6, 2) := by decide +kernel
theorem dX9_logDay_46 : decode cX9_logDay 46 = .ok (.laload, 1) := by decide +kernel
theorem dX9_logDay_47 : decode cX9_logDay 47 = .ok (.lastore, 1) := by decide +kernel
theorem dX9_logDay_48 : decode cX9_logDay 48 = .ok (.aload_n 0, 1) := by decide +kernel
theorem dX9_logDay_49 : decode cX9_logDay 49 = .ok (.getfield 7, 3) := by decide +kernel
theorem dX9_logDay_52 : decode cX9_logDay 52 = .ok (.bipush 55, 2) := by decide +kernel
theorem dX9_logDay_54 : decode cX9_logDay 54 = .ok (.aload_n 0, 1) := by decide +kernel
theorem dX9_logDay_55 : decode cX9_logDay 55 = .ok (.invokevirtual 168, 3) := by decide +kernel
theorem dX9_logDay_58 : decode cX9_logDay 58 = .ok (.lastore, 1) := by decide +kernel
theorem dX9_logDay_59 : decode cX9_logDay 59 = .ok (.aload_n 0, 1) := by decide +kernel
theorem dX9_logDay_60 : decode cX9_logDay 60 = .ok (.getfield 7, 3) := by decide +kernel
theorem dX9_logDay_63 : decode cX9_logDay 63 = .ok (.bipush 56, 2) := by decide +kernel
theorem dX9_logDay_65 : decode cX9_logDay 65 = .ok (.aload_n 0, 1) := by decide +kernel
theorem dX9_logDay_66 : decode cX9_logDay 66 = .ok (.getfield 7, 3) := by decide +kernel
theorem dX9_logDay_69 : decode cX9_logDay 69 = .ok (.bipush 12, 2) := by decide +kernel
theorem dX9_logDay_71 : decode cX9_logDay 71 = .ok (.laload, 1) := by decide +kernel
theorem dX9_logDay_72 : decode cX9_logDay 72 = .ok (.aload_n 0, 1) := by decide +kernel
theorem dX9_logDay_73 : decode cX9_logDay 73 = .ok (.getfield 7, 3) := by decide +kernel
theorem dX9_logDay_76 : decode cX9_logDay 76 = .ok (.bipush 13, 2) := by decide +kernel
theorem dX9_logDay_78 : decode cX9_logDay 78 = .ok (.laload, 1) := by decide +kernel
theorem dX9_logDay_79 : decode cX9_logDay 79 = .ok (.lsub, 1) := by decide +kernel
theorem dX9_logDay_80 : decode cX9_logDay 80 = .ok (.lastore, 1) := by decide +kernel
theorem dX9_logDay_81 : decode cX9_logDay 81 = .ok (.aload_n 0, 1) := by decide +kernel
theorem dX9_logDay_82 : decode cX9_logDay 82 = .ok (.getfield 7, 3) := by decide +kernel
theorem dX9_logDay_85 : decode cX9_logDay 85 = .ok (.bipush 57, 2) := by decide +kernel
theorem dX9_logDay_87 : decode cX9_logDay 87 = .ok (.aload_n 0, 1) := by decide +kernel
theorem dX9_logDay_88 : decode cX9_logDay 88 = .ok (.getfield 7, 3) := by decide +kernel
theorem dX9_logDay_91 : decode cX9_logDay 91 = .ok (.bipush 10, 2) := by decide +kernel
theorem dX9_logDay_93 : decode cX9_logDay 93 = .ok (.laload, 1) := by decide +kernel
theorem dX9_logDay_94 : decode cX9_logDay 94 = .ok (.aload_n 0, 1) := by decide +kernel
theorem dX9_logDay_95 : decode cX9_logDay 95 = .ok (.getfield 7, 3) := by decide +kernel
theorem dX9_logDay_98 : decode cX9_logDay 98 = .ok (.bipush 14, 2) := by decide +kernel
theorem dX9_logDay_100 : decode cX9_logDay 100 = .ok (.laload, 1) := by decide +kernel
theorem dX9_logDay_101 : decode cX9_logDay 101 = .ok (.lsub, 1) := by decide +kernel
theorem dX9_logDay_102 : decode cX9_logDay 102 = .ok (.lastore, 1) := by decide +kernel
theorem dX9_logDay_103 : decode cX9_logDay 103 = .ok (.aload_n 0, 1) := by decide +kernel
theorem dX9_logDay_104 : decode cX9_logDay 104 = .ok (.getfield 7, 3) := by decide +kernel
theorem dX9_logDay_107 : decode cX9_logDay 107 = .ok (.bipush 13, 2) := by decide +kernel
theorem dX9_logDay_109 : decode cX9_logDay 109 = .ok (.aload_n 0, 1) := by decide +kernel
theorem dX9_logDay_110 : decode cX9_logDay 110 = .ok (.getfield 7, 3) := by decide +kernel
theorem dX9_logDay_113 : decode cX9_logDay 113 = .ok (.bipush 12, 2) := by decide +kernel
theorem dX9_logDay_115 : decode cX9_logDay 115 = .ok (.laload, 1) := by decide +kernel
theorem dX9_logDay_116 : decode cX9_logDay 116 = .ok (.lastore, 1) := by decide +kernel
theorem dX9_logDay_117 : decode cX9_logDay 117 = .ok (.aload_n 0, 1) := by decide +kernel
theorem dX9_logDay_118 : decode cX9_logDay 118 = .ok (.getfield 7, 3) := by decide +kernel
theorem dX9_logDay_121 : decode cX9_logDay 121 = .ok (.bipush 14, 2) := by decide +kernel
theorem dX9_logDay_123 : decode cX9_logDay 123 = .ok (.aload_n 0, 1) := by decide +kernel
theorem dX9_logDay_124 : decode cX9_logDay 124 = .ok (.getfield 7, 3) := by decide +kernel
theorem dX9_logDay_127 : decode cX9_logDay 127 = .ok (.bipush 10, 2) := by decide +kernel
theorem dX9_logDay_129 : decode cX9_logDay 129 = .ok (.laload, 1) := by decide +kernel
theorem dX9_logDay_130 : decode cX9_logDay 130 = .ok (.lastore, 1) := by decide +kernel
theorem dX9_logDay_131 : decode cX9_logDay 131 = .ok (.aload_n 0, 1) := by decide +kernel
theorem dX9_logDay_132 : decode cX9_logDay 132 = .ok (.getfield 7, 3) := by decide +kernel
theorem dX9_logDay_135 : decode cX9_logDay 135 = .ok (.bipush 15, 2) := by decide +kernel
theorem dX9_logDay_137 : decode cX9_logDay 137 = .ok (.aload_n 0, 1) := by decide +kernel
theorem dX9_logDay_138 : decode cX9_logDay 138 = .ok (.getfield 7, 3) := by decide +kernel
theorem dX9_logDay_141 : decode cX9_logDay 141 = .ok (.bipush 15, 2) := by decide +kernel
theorem dX9_logDay_143 : decode cX9_logDay 143 = .ok (.laload, 1) := by decide +kernel
theorem dX9_logDay_144 : decode cX9_logDay 144 = .ok (.ldc2_w 135, 3) := by decide +kernel
theorem dX9_logDay_147 : decode cX9_logDay 147 = .ok (.lcmp, 1) := by decide +kernel
theorem dX9_logDay_148 : decode cX9_logDay 148 = .ok (.ifCond .ge 15, 3) := by decide +kernel
theorem dX9_logDay_151 : decode cX9_logDay 151 = .ok (.aload_n 0, 1) := by decide +kernel
theorem dX9_logDay_152 : decode cX9_logDay 152 = .ok (.getfield 7, 3) := by decide +kernel
theorem dX9_logDay_155 : decode cX9_logDay 155 = .ok (.bipush 15, 2) := by decide +kernel
theorem dX9_logDay_157 : decode cX9_logDay 157 = .ok (.laload, 1) := by decide +kernel
theorem dX9_logDay_158 : decode cX9_logDay 158 = .ok (.lconst 1, 1) := by decide +kernel
theorem dX9_logDay_159 : decode cX9_logDay 159 = .ok (.ladd, 1) := by decide +kernel
theorem dX9_logDay_160 : decode cX9_logDay 160 = .ok (.goto 6, 3) := by decide +kernel
theorem dX9_logDay_163 : decode cX9_logDay 163 = .ok (.ldc2_w 135, 3) := by decide +kernel
theorem dX9_logDay_166 : decode cX9_logDay 166 = .ok (.lastore, 1) := by decide +kernel
theorem dX9_logDay_167 : decode cX9_logDay 167 = .ok (.return_, 1) := by decide +kernel
set_option maxRecDepth 20000 in
theorem ggX9_hour_X9_stepWarmth : GoodIn wsX9_hour wsX9_stepWarmth := goodIn_r _ [7, 1, 8, 9, 10, 11, 6, 12, 13, 14, 15, 60, 61, 62, 63, 64, 65, 66, 67, 68, 69, 70] (by decide +kernel) (by decide +kernel)
set_option maxRecDepth 20000 in
theorem gX9_hour_X9_stepWarmth : GoodIn wsX9_hour (wsV RX9 171 RX9 yX9_stepWarmth wsX9_stepWarmth) := goodIn_app (goodIn_of _ (by decide +kernel)) ggX9_hour_X9_stepWarmth
set_option maxRecDepth 20000 in
theorem ggX9_hour_X9_rateNow : GoodIn wsX9_hour wsX9_rateNow := goodIn_r _ [19, 1, 20, 21, 22, 6, 23, 24, 25, 26, 27, 28, 9, 10, 11, 12, 29, 30, 31, 32, 33, 34, 13, 14, 15, 35, 36, 37, 38, 39, 40, 41, 42, 43, 44, 45, 46, 47, 48, 49, 50, 51, 52, 53, 54, 55, 60, 61, 62, 63, 64, 65, 66, 67, 68, 69, 70] (by decide +kernel) (by decide +kernel)
set_option maxRecDepth 20000 in
theorem gX9_hour_X9_rateNow : GoodIn wsX9_hour (wsV RX9 168 RX9 yX9_rateNow wsX9_rateNow) := goodIn_app (goodIn_of _ (by decide +kernel)) ggX9_hour_X9_rateNow
set_option maxRecDepth 20000 in
theorem ggX9_hour_X9_logDay : GoodIn wsX9_hour wsX9_logDay := goodIn_r _ [59, 1, 24, 16, 17, 18, 6, 19, 20, 21, 22, 23, 25, 26, 27, 28, 9, 10, 11, 12, 29, 30, 31, 32, 33, 34, 13, 14, 15, 35, 36, 37, 38, 39, 40, 41, 42, 43, 44, 45, 46, 47, 48, 49, 50, 51, 52, 53, 54, 55, 60, 61, 62, 63, 64, 65, 66, 67, 68, 69, 70] (by decide +kernel) (by decide +kernel)
set_option maxRecDepth 20000 in
theorem gX9_hour_X9_logDay : GoodIn wsX9_hour (wsV RX9 176 RX9 yX9_logDay wsX9_logDay) := goodIn_app (goodIn_of _ (by decide +kernel)) ggX9_hour_X9_logDay
theorem dX9_hour_0 : decode cX9_hour 0 = .ok (.aload_n 0, 1) := by decide +kernel
theorem dX9_hour_1 : decode cX9_hour 1 = .ok (.invokevirtual 171, 3) := by decide +kernel
theorem dX9_hour_4 : decode cX9_hour 4 = .ok (.aload_n 0, 1) := by decide +kernel
theorem dX9_hour_5 : decode cX9_hour 5 = .ok (.getfield 7, 3) := by decide +kernel
theorem dX9_hour_8 : decode cX9_hour 8 = .ok (.bipush 8, 2) := by decide +kernel
theorem dX9_hour_10 : decode cX9_hour 10 = .ok (.laload, 1) := by decide +kernel
theorem dX9_hour_11 : decode cX9_hour 11 = .ok (.lconst 0, 1) := by decide +kernel
theorem dX9_hour_12 : decode cX9_hour 12 = .ok (.lcmp, 1) := by decide +kernel
theorem dX9_hour_13 : decode cX9_hour 13 = .ok (.ifCond .le 42, 3) := by decide +kernel
theorem dX9_hour_16 : decode cX9_hour 16 = .ok (.aload_n 0, 1) := by decide +kernel
theorem dX9_hour_17 : decode cX9_hour 17 = .ok (.getfield 7, 3) := by decide +kernel
theorem dX9_hour_20 : decode cX9_hour 20 = .ok (.bipush 12, 2) := by decide +kernel
theorem dX9_hour_22 : decode cX9_hour 22 = .ok (.dup2, 1) := by decide +kernel
theorem dX9_hour_23 : decode cX9_hour 23 = .ok (.laload, 1) := by decide +kernel
theorem dX9_hour_24 : decode cX9_hour 24 = .ok (.aload_n 0, 1) := by decide +kernel
theorem dX9_hour_25 : decode cX9_hour 25 = .ok (.invokevirtual 168, 3) := by decide +kernel
theorem dX9_hour_28 : decode cX9_hour 28 = .ok (.ladd, 1) := by decide +kernel
theorem dX9_hour_29 : decode cX9_hour 29 = .ok (.lastore, 1) := by decide +kernel
theorem dX9_hour_30 : decode cX9_hour 30 = .ok (.aload_n 0, 1) := by decide +kernel
theorem dX9_hour_31 : decode cX9_hour 31 = .ok (.getfield 7, 3) := by decide +kernel
theorem dX9_hour_34 : decode cX9_hour 34 = .ok (.bipush 10, 2) := by decide +kernel
theorem dX9_hour_36 : decode cX9_hour 36 = .ok (.dup2, 1) := by decide +kernel
theorem dX9_hour_37 : decode cX9_hour 37 = .ok (.laload, 1) := by decide +kernel
theorem dX9_hour_38 : decode cX9_hour 38 = .ok (.lconst 1, 1) := by decide +kernel
theorem dX9_hour_39 : decode cX9_hour 39 = .ok (.ladd, 1) := by decide +kernel
theorem dX9_hour_40 : decode cX9_hour 40 = .ok (.lastore, 1) := by decide +kernel
theorem dX9_hour_41 : decode cX9_hour 41 = .ok (.aload_n 0, 1) := by decide +kernel
theorem dX9_hour_42 : decode cX9_hour 42 = .ok (.getfield 7, 3) := by decide +kernel
theorem dX9_hour_45 : decode cX9_hour 45 = .ok (.bipush 8, 2) := by decide +kernel
theorem dX9_hour_47 : decode cX9_hour 47 = .ok (.dup2, 1) := by decide +kernel
theorem dX9_hour_48 : decode cX9_hour 48 = .ok (.laload, 1) := by decide +kernel
theorem dX9_hour_49 : decode cX9_hour 49 = .ok (.lconst 1, 1) := by decide +kernel
theorem dX9_hour_50 : decode cX9_hour 50 = .ok (.lsub, 1) := by decide +kernel
theorem dX9_hour_51 : decode cX9_hour 51 = .ok (.lastore, 1) := by decide +kernel
theorem dX9_hour_52 : decode cX9_hour 52 = .ok (.goto 14, 3) := by decide +kernel
theorem dX9_hour_55 : decode cX9_hour 55 = .ok (.aload_n 0, 1) := by decide +kernel
theorem dX9_hour_56 : decode cX9_hour 56 = .ok (.getfield 7, 3) := by decide +kernel
theorem dX9_hour_59 : decode cX9_hour 59 = .ok (.bipush 11, 2) := by decide +kernel
theorem dX9_hour_61 : decode cX9_hour 61 = .ok (.dup2, 1) := by decide +kernel
theorem dX9_hour_62 : decode cX9_hour 62 = .ok (.laload, 1) := by decide +kernel
theorem dX9_hour_63 : decode cX9_hour 63 = .ok (.lconst 1, 1) := by decide +kernel
theorem dX9_hour_64 : decode cX9_hour 64 = .ok (.ladd, 1) := by decide +kernel
theorem dX9_hour_65 : decode cX9_hour 65 = .ok (.lastore, 1) := by decide +kernel
theorem dX9_hour_66 : decode cX9_hour 66 = .ok (.aload_n 0, 1) := by decide +kernel
theorem dX9_hour_67 : decode cX9_hour 67 = .ok (.getfield 7, 3) := by decide +kernel
theorem dX9_hour_70 : decode cX9_hour 70 = .ok (.bipush 9, 2) := by decide +kernel
theorem dX9_hour_72 : decode cX9_hour 72 = .ok (.dup2, 1) := by decide +kernel
theorem dX9_hour_73 : decode cX9_hour 73 = .ok (.laload, 1) := by decide +kernel
theorem dX9_hour_74 : decode cX9_hour 74 = .ok (.lconst 1, 1) := by decide +kernel
theorem dX9_hour_75 : decode cX9_hour 75 = .ok (.ladd, 1) := by decide +kernel
theorem dX9_hour_76 : decode cX9_hour 76 = .ok (.lastore, 1) := by decide +kernel
theorem dX9_hour_77 : decode cX9_hour 77 = .ok (.aload_n 0, 1) := by decide +kernel
theorem dX9_hour_78 : decode cX9_hour 78 = .ok (.getfield 7, 3) := by decide +kernel
theorem dX9_hour_81 : decode cX9_hour 81 = .ok (.bipush 9, 2) := by decide +kernel
theorem dX9_hour_83 : decode cX9_hour 83 = .ok (.laload, 1) := by decide +kernel
theorem dX9_hour_84 : decode cX9_hour 84 = .ok (.ldc2_w 174, 3) := by decide +kernel
theorem dX9_hour_87 : decode cX9_hour 87 = .ok (.lrem, 1) := by decide +kernel
theorem dX9_hour_88 : decode cX9_hour 88 = .ok (.lconst 0, 1) := by decide +kernel
theorem dX9_hour_89 : decode cX9_hour 89 = .ok (.lcmp, 1) := by decide +kernel
theorem dX9_hour_90 : decode cX9_hour 90 = .ok (.ifCond .ne 7, 3) := by decide +kernel
theorem dX9_hour_93 : decode cX9_hour 93 = .ok (.aload_n 0, 1) := by decide +kernel
theorem dX9_hour_94 : decode cX9_hour 94 = .ok (.invokevirtual 176, 3) := by decide +kernel
theorem dX9_hour_97 : decode cX9_hour 97 = .ok (.return_, 1) := by decide +kernel
set_option maxRecDepth 20000 in
theorem ggX9_notPass_X9_in : GoodIn wsX9_notPass wsX9_in := goodIn_r _ [6] (by decide +kernel) (by decide +kernel)
set_option maxRecDepth 20000 in
theorem gX9_notPass_X9_in : GoodIn wsX9_notPass (va_wsS RX9 57 yX9_in wsX9_in) := goodIn_app (goodIn_of _ (by decide +kernel)) ggX9_notPass_X9_in
theorem dX9_notPass_0 : decode cX9_notPass 0 = .ok (.iload_n 1, 1) := by decide +kernel
theorem dX9_notPass_1 : decode cX9_notPass 1 = .ok (.iconst 1, 1) := by decide +kernel
theorem dX9_notPass_2 : decode cX9_notPass 2 = .ok (.sipush 500, 3) := by decide +kernel
theorem dX9_notPass_5 : decode cX9_notPass 5 = .ok (.invokestatic 57, 3) := by decide +kernel
theorem dX9_notPass_8 : decode cX9_notPass 8 = .ok (.ifCond .ne 7, 3) := by decide +kernel
theorem dX9_notPass_11 : decode cX9_notPass 11 = .ok (.iconst 1, 1) := by decide +kernel
theorem dX9_notPass_12 : decode cX9_notPass 12 = .ok (.goto 25, 3) := by decide +kernel
theorem dX9_notPass_15 : decode cX9_notPass 15 = .ok (.aload_n 0, 1) := by decide +kernel
theorem dX9_notPass_16 : decode cX9_notPass 16 = .ok (.getfield 7, 3) := by decide +kernel
theorem dX9_notPass_19 : decode cX9_notPass 19 = .ok (.bipush 9, 2) := by decide +kernel
theorem dX9_notPass_21 : decode cX9_notPass 21 = .ok (.laload, 1) := by decide +kernel
theorem dX9_notPass_22 : decode cX9_notPass 22 = .ok (.iload_n 1, 1) := by decide +kernel
theorem dX9_notPass_23 : decode cX9_notPass 23 = .ok (.i2l, 1) := by decide +kernel
theorem dX9_notPass_24 : decode cX9_notPass 24 = .ok (.ladd, 1) := by decide +kernel
theorem dX9_notPass_25 : decode cX9_notPass 25 = .ok (.ldc2_w 179, 3) := by decide +kernel
theorem dX9_notPass_28 : decode cX9_notPass 28 = .ok (.lcmp, 1) := by decide +kernel
theorem dX9_notPass_29 : decode cX9_notPass 29 = .ok (.ifCond .le 7, 3) := by decide +kernel
theorem dX9_notPass_32 : decode cX9_notPass 32 = .ok (.iconst 2, 1) := by decide +kernel
theorem dX9_notPass_33 : decode cX9_notPass 33 = .ok (.goto 4, 3) := by decide +kernel
theorem dX9_notPass_36 : decode cX9_notPass 36 = .ok (.iconst 0, 1) := by decide +kernel
theorem dX9_notPass_37 : decode cX9_notPass 37 = .ok (.ireturn, 1) := by decide +kernel
set_option maxRecDepth 20000 in
theorem ggX9_passes_X9_hour : GoodIn wsX9_passes wsX9_hour := goodIn_r _ [9, 1, 2, 10, 11, 12, 8, 13, 14, 15, 16, 17, 18, 19, 20, 21, 22, 23, 24, 25, 26, 27, 28, 29, 30, 31, 32, 33, 34, 35, 36, 37, 38, 39, 40, 41, 42, 43, 44, 45, 46, 47, 48, 49, 50, 51, 52, 53, 54, 55, 56, 57, 58, 59, 60, 61, 62, 63, 64, 65, 66, 67, 68, 69, 70, 71, 72, 73, 74, 75, 76] (by decide +kernel) (by decide +kernel)
set_option maxRecDepth 20000 in
theorem gX9_passes_X9_hour : GoodIn wsX9_passes (wsV RX9 181 RX9 yX9_hour wsX9_hour) := goodIn_app (goodIn_of _ (by decide +kernel)) ggX9_passes_X9_hour
set_option maxRecDepth 20000 in
theorem ggX9_passes_X9_floor : GoodIn wsX9_passes wsX9_floor := goodIn_r _ [21] (by decide +kernel) (by decide +kernel)
set_option maxRecDepth 20000 in
theorem gX9_passes_X9_floor : GoodIn wsX9_passes (va_wsS RX9 123 yX9_floor wsX9_floor) := goodIn_app (goodIn_of _ (by decide +kernel)) ggX9_passes_X9_floor
set_option maxRecDepth 20000 in
theorem ggX9_passes_X9_within : GoodIn wsX9_passes wsX9_within := goodIn_r _ [50] (by decide +kernel) (by decide +kernel)
set_option maxRecDepth 20000 in
theorem gX9_passes_X9_within : GoodIn wsX9_passes (va_wsS RX9 153 yX9_within wsX9_within) := goodIn_app (goodIn_of _ (by decide +kernel)) ggX9_passes_X9_within
theorem dX9_passes_0 : decode cX9_passes 0 = .ok (.iconst 0, 1) := by decide +kernel
theorem dX9_passes_1 : decode cX9_passes 1 = .ok (.istore_n 2, 1) := by decide +kernel
theorem dX9_passes_2 : decode cX9_passes 2 = .ok (.iload_n 2, 1) := by decide +kernel
theorem dX9_passes_3 : decode cX9_passes 3 = .ok (.iload_n 1, 1) := by decide +kernel
theorem dX9_passes_4 : decode cX9_passes 4 = .ok (.if_icmp .ge 13, 3) := by decide +kernel
theorem dX9_passes_7 : decode cX9_passes 7 = .ok (.aload_n 0, 1) := by decide +kernel
theorem dX9_passes_8 : decode cX9_passes 8 = .ok (.invokevirtual 181, 3) := by decide +kernel
theorem dX9_passes_11 : decode cX9_passes 11 = .ok (.iinc 2 1, 3) := by decide +kernel
theorem dX9_passes_14 : decode cX9_passes 14 = .ok (.goto (-12), 3) := by decide +kernel
theorem dX9_passes_17 : decode cX9_passes 17 = .ok (.aload_n 0, 1) := by decide +kernel
theorem dX9_passes_18 : decode cX9_passes 18 = .ok (.getfield 7, 3) := by decide +kernel
theorem dX9_passes_21 : decode cX9_passes 21 = .ok (.bipush 12, 2) := by decide +kernel
theorem dX9_passes_23 : decode cX9_passes 23 = .ok (.laload, 1) := by decide +kernel
theorem dX9_passes_24 : decode cX9_passes 24 = .ok (.ldc2_w 174, 3) := by decide +kernel
theorem dX9_passes_27 : decode cX9_passes 27 = .ok (.invokestatic 123, 3) := by decide +kernel
theorem dX9_passes_30 : decode cX9_passes 30 = .ok (.ldc2_w 184, 3) := by decide +kernel
theorem dX9_passes_33 : decode cX9_passes 33 = .ok (.ldc2_w 186, 3) := by decide +kernel
theorem dX9_passes_36 : decode cX9_passes 36 = .ok (.invokestatic 153, 3) := by decide +kernel
theorem dX9_passes_39 : decode cX9_passes 39 = .ok (.l2i, 1) := by decide +kernel
theorem dX9_passes_40 : decode cX9_passes 40 = .ok (.ireturn, 1) := by decide +kernel
set_option maxRecDepth 20000 in
theorem ggX9_pass_X9_notPass : GoodIn wsX9_pass wsX9_notPass := goodIn_r _ [6, 7, 8, 9, 10, 5, 11, 88, 89, 90, 91, 92, 93, 94, 95, 96, 97, 98] (by decide +kernel) (by decide +kernel)
set_option maxRecDepth 20000 in
theorem gX9_pass_X9_notPass : GoodIn wsX9_pass (wsV RX9 188 RX9 yX9_notPass wsX9_notPass) := goodIn_app (goodIn_of _ (by decide +kernel)) ggX9_pass_X9_notPass
set_option maxRecDepth 20000 in
theorem ggX9_pass_X9_keep : GoodIn wsX9_pass wsX9_keep := goodIn_r _ [15, 16, 17, 7, 18, 19, 5, 20, 88, 89, 90, 91, 92, 93, 94, 95, 96, 97, 98] (by decide +kernel) (by decide +kernel)
set_option maxRecDepth 20000 in
theorem gX9_pass_X9_keep : GoodIn wsX9_pass (wsV RX9 68 RX9 yX9_keep wsX9_keep) := goodIn_app (goodIn_of _ (by decide +kernel)) ggX9_pass_X9_keep
set_option maxRecDepth 20000 in
theorem ggX9_pass_X9_passes : GoodIn wsX9_pass wsX9_passes := goodIn_r _ [24, 7, 25, 26, 27, 28, 29, 30, 5, 31, 32, 33, 34, 35, 36, 37, 38, 39, 40, 41, 42, 43, 44, 45, 46, 47, 48, 49, 50, 51, 52, 53, 54, 55, 56, 57, 58, 59, 60, 61, 62, 63, 64, 65, 66, 67, 68, 69, 70, 71, 72, 73, 74, 75, 76, 77, 78, 79, 80, 81, 82, 83, 84, 85, 86, 87, 88, 89, 90, 91, 92, 93, 94, 95, 96, 97, 98] (by decide +kernel) (by decide +kernel)
set_option maxRecDepth 20000 in
theorem gX9_pass_X9_passes : GoodIn wsX9_pass (wsV RX9 191 RX9 yX9_passes wsX9_passes) := goodIn_app (goodIn_of _ (by decide +kernel)) ggX9_pass_X9_passes
theorem dX9_pass_0 : decode cX9_pass 0 = .ok (.aload_n 0, 1) := by decide +kernel
theorem dX9_pass_1 : decode cX9_pass 1 = .ok (.aload_n 0, 1) := by decide +kernel
theorem dX9_pass_2 : decode cX9_pass 2 = .ok (.iload_n 1, 1) := by decide +kernel
theorem dX9_pass_3 : decode cX9_pass 3 = .ok (.invokevirtual 188, 3) := by decide +kernel
theorem dX9_pass_6 : decode cX9_pass 6 = .ok (.putfield 42, 3) := by decide +kernel
theorem dX9_pass_9 : decode cX9_pass 9 = .ok (.aload_n 0, 1) := by decide +kernel
theorem dX9_pass_10 : decode cX9_pass 10 = .ok (.getfield 42, 3) := by decide +kernel
theorem dX9_pass_13 : decode cX9_pass 13 = .ok (.ifCond .eq 5, 3) := by decide +kernel
theorem dX9_pass_16 : decode cX9_pass 16 = .ok (.iconst 0, 1) := by decide +kernel
theorem dX9_pass_17 : decode cX9_pass 17 = .ok (.ireturn, 1) := by decide +kernel
theorem dX9_pass_18 : decode cX9_pass 18 = .ok (.aload_n 0, 1) := by decide +kernel
theorem dX9_pass_19 : decode cX9_pass 19 = .ok (.invokevirtual 68, 3) := by decide +kernel
theorem dX9_pass_22 : decode cX9_pass 22 = .ok (.aload_n 0, 1) := by decide +kernel
theorem dX9_pass_23 : decode cX9_pass 23 = .ok (.iload_n 1, 1) := by decide +kernel
theorem dX9_pass_24 : decode cX9_pass 24 = .ok (.invokevirtual 191, 3) := by decide +kernel
theorem dX9_pass_27 : decode cX9_pass 27 = .ok (.ireturn, 1) := by decide +kernel
set_option maxRecDepth 20000 in
theorem ggX9_rodOf_X9_stretching : GoodIn wsX9_rodOf wsX9_stretching := goodIn_r _ [6, 1, 7, 8, 9, 10, 11, 5, 12, 13, 14, 15, 16, 17, 18, 19, 20, 21, 22, 23, 24, 25, 26] (by decide +kernel) (by decide +kernel)
set_option maxRecDepth 20000 in
theorem gX9_rodOf_X9_stretching : GoodIn wsX9_rodOf (wsV RX9 127 RX9 yX9_stretching wsX9_stretching) := goodIn_app (goodIn_of _ (by decide +kernel)) ggX9_rodOf_X9_stretching
set_option maxRecDepth 20000 in
theorem ggX9_rodOf_X9_of : GoodIn wsX9_rodOf wsX9_of := goodIn_r _ [12, 1, 16, 17, 18, 19, 20, 21, 22, 23, 24, 25, 26] (by decide +kernel) (by decide +kernel)
set_option maxRecDepth 20000 in
theorem gX9_rodOf_X9_of : GoodIn wsX9_rodOf (wsV RX9 53 RX9 yX9_of wsX9_of) := goodIn_app (goodIn_of _ (by decide +kernel)) ggX9_rodOf_X9_of
theorem dX9_rodOf_0 : decode cX9_rodOf 0 = .ok (.aload_n 0, 1) := by decide +kernel
theorem dX9_rodOf_1 : decode cX9_rodOf 1 = .ok (.iload_n 1, 1) := by decide +kernel
theorem dX9_rodOf_2 : decode cX9_rodOf 2 = .ok (.aload_n 0, 1) := by decide +kernel
theorem dX9_rodOf_3 : decode cX9_rodOf 3 = .ok (.getfield 7, 3) := by decide +kernel
theorem dX9_rodOf_6 : decode cX9_rodOf 6 = .ok (.bipush 6, 2) := by decide +kernel
theorem dX9_rodOf_8 : decode cX9_rodOf 8 = .ok (.laload, 1) := by decide +kernel
theorem dX9_rodOf_9 : decode cX9_rodOf 9 = .ok (.invokevirtual 127, 3) := by decide +kernel
theorem dX9_rodOf_12 : decode cX9_rodOf 12 = .ok (.lstore_n 3, 1) := by decide +kernel
theorem dX9_rodOf_13 : decode cX9_rodOf 13 = .ok (.iload_n 2, 1) := by decide +kernel
theorem dX9_rodOf_14 : decode cX9_rodOf 14 = .ok (.iconst 3, 1) := by decide +kernel
theorem dX9_rodOf_15 : decode cX9_rodOf 15 = .ok (.if_icmp .ge 18, 3) := by decide +kernel
theorem dX9_rodOf_18 : decode cX9_rodOf 18 = .ok (.aload_n 0, 1) := by decide +kernel
theorem dX9_rodOf_19 : decode cX9_rodOf 19 = .ok (.bipush 22, 2) := by decide +kernel
theorem dX9_rodOf_21 : decode cX9_rodOf 21 = .ok (.iconst 3, 1) := by decide +kernel
theorem dX9_rodOf_22 : decode cX9_rodOf 22 = .ok (.iload_n 1, 1) := by decide +kernel
theorem dX9_rodOf_23 : decode cX9_rodOf 23 = .ok (.imul, 1) := by decide +kernel
theorem dX9_rodOf_24 : decode cX9_rodOf 24 = .ok (.iadd, 1) := by decide +kernel
theorem dX9_rodOf_25 : decode cX9_rodOf 25 = .ok (.iload_n 2, 1) := by decide +kernel
theorem dX9_rodOf_26 : decode cX9_rodOf 26 = .ok (.iadd, 1) := by decide +kernel
theorem dX9_rodOf_27 : decode cX9_rodOf 27 = .ok (.invokevirtual 53, 3) := by decide +kernel
theorem dX9_rodOf_30 : decode cX9_rodOf 30 = .ok (.goto 28, 3) := by decide +kernel
theorem dX9_rodOf_33 : decode cX9_rodOf 33 = .ok (.iload_n 2, 1) := by decide +kernel
theorem dX9_rodOf_34 : decode cX9_rodOf 34 = .ok (.iconst 3, 1) := by decide +kernel
theorem dX9_rodOf_35 : decode cX9_rodOf 35 = .ok (.if_icmp .ne 7, 3) := by decide +kernel
theorem dX9_rodOf_38 : decode cX9_rodOf 38 = .ok (.lload_n 3, 1) := by decide +kernel
theorem dX9_rodOf_39 : decode cX9_rodOf 39 = .ok (.goto 18, 3) := by decide +kernel
theorem dX9_rodOf_42 : decode cX9_rodOf 42 = .ok (.lload_n 3, 1) := by decide +kernel
theorem dX9_rodOf_43 : decode cX9_rodOf 43 = .ok (.aload_n 0, 1) := by decide +kernel
theorem dX9_rodOf_44 : decode cX9_rodOf 44 = .ok (.getfield 7, 3) := by decide +kernel
theorem dX9_rodOf_47 : decode cX9_rodOf 47 = .ok (.bipush 22, 2) := by decide +kernel
theorem dX9_rodOf_49 : decode cX9_rodOf 49 = .ok (.iconst 3, 1) := by decide +kernel
theorem dX9_rodOf_50 : decode cX9_rodOf 50 = .ok (.iload_n 1, 1) := by decide +kernel
theorem dX9_rodOf_51 : decode cX9_rodOf 51 = .ok (.imul, 1) := by decide +kernel
theorem dX9_rodOf_52 : decode cX9_rodOf 52 = .ok (.iadd, 1) := by decide +kernel
theorem dX9_rodOf_53 : decode cX9_rodOf 53 = .ok (.iconst 2, 1) := by decide +kernel
theorem dX9_rodOf_54 : decode cX9_rodOf 54 = .ok (.iadd, 1) := by decide +kernel
theorem dX9_rodOf_55 : decode cX9_rodOf 55 = .ok (.laload, 1) := by decide +kernel
theorem dX9_rodOf_56 : decode cX9_rodOf 56 = .ok (.ladd, 1) := by decide +kernel
theorem dX9_rodOf_57 : decode cX9_rodOf 57 = .ok (.l2i, 1) := by decide +kernel
theorem dX9_rodOf_58 : decode cX9_rodOf 58 = .ok (.ireturn, 1) := by decide +kernel
set_option maxRecDepth 20000 in
theorem ggX9_rod_X9_isRod : GoodIn wsX9_rod wsX9_isRod := goodIn_r _ [6, 7, 8, 9, 5, 10, 11, 12, 13, 14, 28, 29, 30, 31, 32, 33, 34, 35, 36, 37, 38] (by decide +kernel) (by decide +kernel)
set_option maxRecDepth 20000 in
theorem gX9_rod_X9_isRod : GoodIn wsX9_rod (wsV RX9 92 RX9 yX9_isRod wsX9_isRod) := goodIn_app (goodIn_of _ (by decide +kernel)) ggX9_rod_X9_isRod
set_option maxRecDepth 20000 in
theorem ggX9_rod_X9_in : GoodIn wsX9_rod wsX9_in := goodIn_r _ [14] (by decide +kernel) (by decide +kernel)
set_option maxRecDepth 20000 in
theorem gX9_rod_X9_in : GoodIn wsX9_rod (va_wsS RX9 57 yX9_in wsX9_in) := goodIn_app (goodIn_of _ (by decide +kernel)) ggX9_rod_X9_in
set_option maxRecDepth 20000 in
theorem ggX9_rod_X9_rodOf : GoodIn wsX9_rod wsX9_rodOf := goodIn_r _ [18, 11, 19, 20, 21, 5, 22, 23, 24, 7, 8, 9, 10, 25, 26, 27, 28, 29, 30, 31, 32, 33, 34, 35, 36, 37, 38] (by decide +kernel) (by decide +kernel)
set_option maxRecDepth 20000 in
theorem gX9_rod_X9_rodOf : GoodIn wsX9_rod (wsV RX9 194 RX9 yX9_rodOf wsX9_rodOf) := goodIn_app (goodIn_of _ (by decide +kernel)) ggX9_rod_X9_rodOf
theorem dX9_rod_0 : decode cX9_rod 0 = .ok (.aload_n 0, 1) := by decide +kernel
theorem dX9_rod_1 : decode cX9_rod 1 = .ok (.aload_n 0, 1) := by decide +kernel
theorem dX9_rod_2 : decode cX9_rod 2 = .ok (.iload_n 1, 1) := by decide +kernel
theorem dX9_rod_3 : decode cX9_rod 3 = .ok (.invokevirtual 92, 3) := by decide +kernel
theorem dX9_rod_6 : decode cX9_rod 6 = .ok (.ifCond .ne 7, 3) := by decide +kernel
theorem dX9_rod_9 : decode cX9_rod 9 = .ok (.iconst 1, 1) := by decide +kernel
theorem dX9_rod_10 : decode cX9_rod 10 = .ok (.goto 17, 3) := by decide +kernel
theorem dX9_rod_13 : decode cX9_rod 13 = .ok (.iload_n 2, 1) := by decide +kernel
theorem dX9_rod_14 : decode cX9_rod 14 = .ok (.iconst 0, 1) := by decide +kernel
theorem dX9_rod_15 : decode cX9_rod 15 = .ok (.iconst 4, 1) := by decide +kernel
theorem dX9_rod_16 : decode cX9_rod 16 = .ok (.invokestatic 57, 3) := by decide +kernel
theorem dX9_rod_19 : decode cX9_rod 19 = .ok (.ifCond .eq 7, 3) := by decide +kernel
theorem dX9_rod_22 : decode cX9_rod 22 = .ok (.iconst 0, 1) := by decide +kernel
theorem dX9_rod_23 : decode cX9_rod 23 = .ok (.goto 4, 3) := by decide +kernel
theorem dX9_rod_26 : decode cX9_rod 26 = .ok (.iconst 2, 1) := by decide +kernel
theorem dX9_rod_27 : decode cX9_rod 27 = .ok (.putfield 42, 3) := by decide +kernel
theorem dX9_rod_30 : decode cX9_rod 30 = .ok (.aload_n 0, 1) := by decide +kernel
theorem dX9_rod_31 : decode cX9_rod 31 = .ok (.getfield 42, 3) := by decide +kernel
theorem dX9_rod_34 : decode cX9_rod 34 = .ok (.ifCond .eq 7, 3) := by decide +kernel
theorem dX9_rod_37 : decode cX9_rod 37 = .ok (.iconst 0, 1) := by decide +kernel
theorem dX9_rod_38 : decode cX9_rod 38 = .ok (.goto 9, 3) := by decide +kernel
theorem dX9_rod_41 : decode cX9_rod 41 = .ok (.aload_n 0, 1) := by decide +kernel
theorem dX9_rod_42 : decode cX9_rod 42 = .ok (.iload_n 1, 1) := by decide +kernel
theorem dX9_rod_43 : decode cX9_rod 43 = .ok (.iload_n 2, 1) := by decide +kernel
theorem dX9_rod_44 : decode cX9_rod 44 = .ok (.invokevirtual 194, 3) := by decide +kernel
theorem dX9_rod_47 : decode cX9_rod 47 = .ok (.ireturn, 1) := by decide +kernel
set_option maxRecDepth 20000 in
theorem ggX9_stretch_X9_isMetal : GoodIn wsX9_stretch wsX9_isMetal := goodIn_r _ [6, 7, 8, 9, 5, 10, 11, 12, 13, 14, 15, 16, 17, 18, 19, 20, 21, 22, 23, 24, 25] (by decide +kernel) (by decide +kernel)
set_option maxRecDepth 20000 in
theorem gX9_stretch_X9_isMetal : GoodIn wsX9_stretch (wsV RX9 74 RX9 yX9_isMetal wsX9_isMetal) := goodIn_app (goodIn_of _ (by decide +kernel)) ggX9_stretch_X9_isMetal
set_option maxRecDepth 20000 in
theorem ggX9_stretch_X9_of : GoodIn wsX9_stretch wsX9_of := goodIn_r _ [10, 11, 15, 16, 17, 18, 19, 20, 21, 22, 23, 24, 25] (by decide +kernel) (by decide +kernel)
set_option maxRecDepth 20000 in
theorem gX9_stretch_X9_of : GoodIn wsX9_stretch (wsV RX9 53 RX9 yX9_of wsX9_of) := goodIn_app (goodIn_of _ (by decide +kernel)) ggX9_stretch_X9_of
theorem dX9_stretch_0 : decode cX9_stretch 0 = .ok (.aload_n 0, 1) := by decide +kernel
theorem dX9_stretch_1 : decode cX9_stretch 1 = .ok (.aload_n 0, 1) := by decide +kernel
theorem dX9_stretch_2 : decode cX9_stretch 2 = .ok (.iload_n 1, 1) := by decide +kernel
theorem dX9_stretch_3 : decode cX9_stretch 3 = .ok (.invokevirtual 74, 3) := by decide +kernel
theorem dX9_stretch_6 : decode cX9_stretch 6 = .ok (.ifCond .eq 7, 3) := by decide +kernel
theorem dX9_stretch_9 : decode cX9_stretch 9 = .ok (.iconst 0, 1) := by decide +kernel
theorem dX9_stretch_10 : decode cX9_stretch 10 = .ok (.goto 4, 3) := by decide +kernel
theorem dX9_stretch_13 : decode cX9_stretch 13 = .ok (.iconst 1, 1) := by decide +kernel
theorem dX9_stretch_14 : decode cX9_stretch 14 = .ok (.putfield 42, 3) := by decide +kernel
theorem dX9_stretch_17 : decode cX9_stretch 17 = .ok (.aload_n 0, 1) := by decide +kernel
theorem dX9_stretch_18 : decode cX9_stretch 18 = .ok (.getfield 42, 3) := by decide +kernel
theorem dX9_stretch_21 : decode cX9_stretch 21 = .ok (.ifCond .eq 7, 3) := by decide +kernel
theorem dX9_stretch_24 : decode cX9_stretch 24 = .ok (.iconst 0, 1) := by decide +kernel
theorem dX9_stretch_25 : decode cX9_stretch 25 = .ok (.goto 11, 3) := by decide +kernel
theorem dX9_stretch_28 : decode cX9_stretch 28 = .ok (.aload_n 0, 1) := by decide +kernel
theorem dX9_stretch_29 : decode cX9_stretch 29 = .ok (.bipush 16, 2) := by decide +kernel
theorem dX9_stretch_31 : decode cX9_stretch 31 = .ok (.iload_n 1, 1) := by decide +kernel
theorem dX9_stretch_32 : decode cX9_stretch 32 = .ok (.iadd, 1) := by decide +kernel
theorem dX9_stretch_33 : decode cX9_stretch 33 = .ok (.invokevirtual 53, 3) := by decide +kernel
theorem dX9_stretch_36 : decode cX9_stretch 36 = .ok (.ireturn, 1) := by decide +kernel
set_option maxRecDepth 20000 in
theorem ggX9_shelf_X9_isShelf : GoodIn wsX9_shelf wsX9_isShelf := goodIn_r _ [5, 6, 7, 4, 8] (by decide +kernel) (by decide +kernel)
set_option maxRecDepth 20000 in
theorem gX9_shelf_X9_isShelf : GoodIn wsX9_shelf (va_wsS RX9 98 yX9_isShelf wsX9_isShelf) := goodIn_app (goodIn_of _ (by decide +kernel)) ggX9_shelf_X9_isShelf
set_option maxRecDepth 20000 in
theorem ggX9_shelf_X9_of : GoodIn wsX9_shelf wsX9_of := goodIn_r _ [12, 13, 14, 15, 16, 17, 18, 19, 20, 21, 22, 23, 24] (by decide +kernel) (by decide +kernel)
set_option maxRecDepth 20000 in
theorem gX9_shelf_X9_of : GoodIn wsX9_shelf (wsV RX9 53 RX9 yX9_of wsX9_of) := goodIn_app (goodIn_of _ (by decide +kernel)) ggX9_shelf_X9_of
