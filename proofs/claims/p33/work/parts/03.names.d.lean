theorem dX4_changeLength_12 : decode cX4_changeLength 12 = .ok (.iload_n 2, 1) := by decide +kernel
theorem dX4_changeLength_13 : decode cX4_changeLength 13 = .ok (.iastore, 1) := by decide +kernel
theorem dX4_changeLength_14 : decode cX4_changeLength 14 = .ok (.iload_n 3, 1) := by decide +kernel
theorem dX4_changeLength_15 : decode cX4_changeLength 15 = .ok (.ireturn, 1) := by decide +kernel
theorem dX4_stretchOf_0 : decode cX4_stretchOf 0 = .ok (.iload_n 1, 1) := by decide +kernel
theorem dX4_stretchOf_1 : decode cX4_stretchOf 1 = .ok (.ifCond .lt 20, 3) := by decide +kernel
theorem dX4_stretchOf_4 : decode cX4_stretchOf 4 = .ok (.iload_n 1, 1) := by decide +kernel
theorem dX4_stretchOf_5 : decode cX4_stretchOf 5 = .ok (.aload_n 0, 1) := by decide +kernel
theorem dX4_stretchOf_6 : decode cX4_stretchOf 6 = .ok (.getfield 9, 3) := by decide +kernel
theorem dX4_stretchOf_9 : decode cX4_stretchOf 9 = .ok (.if_icmp .ge 12, 3) := by decide +kernel
theorem dX4_stretchOf_12 : decode cX4_stretchOf 12 = .ok (.aload_n 0, 1) := by decide +kernel
theorem dX4_stretchOf_13 : decode cX4_stretchOf 13 = .ok (.getfield 15, 3) := by decide +kernel
theorem dX4_stretchOf_16 : decode cX4_stretchOf 16 = .ok (.iload_n 1, 1) := by decide +kernel
theorem dX4_stretchOf_17 : decode cX4_stretchOf 17 = .ok (.iaload, 1) := by decide +kernel
theorem dX4_stretchOf_18 : decode cX4_stretchOf 18 = .ok (.goto 4, 3) := by decide +kernel
theorem dX4_stretchOf_21 : decode cX4_stretchOf 21 = .ok (.iconst 0, 1) := by decide +kernel
theorem dX4_stretchOf_22 : decode cX4_stretchOf 22 = .ok (.ireturn, 1) := by decide +kernel
set_option maxRecDepth 20000 in
theorem ggX4_rodValue_X4_stretching : GoodIn wsX4_rodValue wsX4_stretching := goodIn_r _ [8, 3, 1, 9, 10, 11, 12, 7, 13, 14, 15, 16, 17, 18, 19, 20, 21, 22, 23, 24, 25] (by decide +kernel) (by decide +kernel)
set_option maxRecDepth 20000 in
theorem gX4_rodValue_X4_stretching : GoodIn wsX4_rodValue (wsV RX4 49 RX4 yX4_stretching wsX4_stretching) := goodIn_app (goodIn_of _ (by decide +kernel)) ggX4_rodValue_X4_stretching
theorem dX4_rodValue_0 : decode cX4_rodValue 0 = .ok (.iload_n 2, 1) := by decide +kernel
theorem dX4_rodValue_1 : decode cX4_rodValue 1 = .ok (.tableswitch 60 0 3 #[31, 38, 45, 52], 31) := by decide +kernel
theorem dX4_rodValue_32 : decode cX4_rodValue 32 = .ok (.aload_n 0, 1) := by decide +kernel
theorem dX4_rodValue_33 : decode cX4_rodValue 33 = .ok (.getfield 19, 3) := by decide +kernel
theorem dX4_rodValue_36 : decode cX4_rodValue 36 = .ok (.iload_n 1, 1) := by decide +kernel
theorem dX4_rodValue_37 : decode cX4_rodValue 37 = .ok (.iaload, 1) := by decide +kernel
theorem dX4_rodValue_38 : decode cX4_rodValue 38 = .ok (.ireturn, 1) := by decide +kernel
theorem dX4_rodValue_39 : decode cX4_rodValue 39 = .ok (.aload_n 0, 1) := by decide +kernel
theorem dX4_rodValue_40 : decode cX4_rodValue 40 = .ok (.getfield 22, 3) := by decide +kernel
theorem dX4_rodValue_43 : decode cX4_rodValue 43 = .ok (.iload_n 1, 1) := by decide +kernel
theorem dX4_rodValue_44 : decode cX4_rodValue 44 = .ok (.iaload, 1) := by decide +kernel
theorem dX4_rodValue_45 : decode cX4_rodValue 45 = .ok (.ireturn, 1) := by decide +kernel
theorem dX4_rodValue_46 : decode cX4_rodValue 46 = .ok (.aload_n 0, 1) := by decide +kernel
theorem dX4_rodValue_47 : decode cX4_rodValue 47 = .ok (.getfield 25, 3) := by decide +kernel
theorem dX4_rodValue_50 : decode cX4_rodValue 50 = .ok (.iload_n 1, 1) := by decide +kernel
theorem dX4_rodValue_51 : decode cX4_rodValue 51 = .ok (.iaload, 1) := by decide +kernel
theorem dX4_rodValue_52 : decode cX4_rodValue 52 = .ok (.ireturn, 1) := by decide +kernel
theorem dX4_rodValue_53 : decode cX4_rodValue 53 = .ok (.aload_n 0, 1) := by decide +kernel
theorem dX4_rodValue_54 : decode cX4_rodValue 54 = .ok (.iload_n 1, 1) := by decide +kernel
theorem dX4_rodValue_55 : decode cX4_rodValue 55 = .ok (.iload_n 3, 1) := by decide +kernel
theorem dX4_rodValue_56 : decode cX4_rodValue 56 = .ok (.invokevirtual 49, 3) := by decide +kernel
theorem dX4_rodValue_59 : decode cX4_rodValue 59 = .ok (.l2i, 1) := by decide +kernel
theorem dX4_rodValue_60 : decode cX4_rodValue 60 = .ok (.ireturn, 1) := by decide +kernel
theorem dX4_rodValue_61 : decode cX4_rodValue 61 = .ok (.aload_n 0, 1) := by decide +kernel
theorem dX4_rodValue_62 : decode cX4_rodValue 62 = .ok (.getfield 25, 3) := by decide +kernel
theorem dX4_rodValue_65 : decode cX4_rodValue 65 = .ok (.iload_n 1, 1) := by decide +kernel
theorem dX4_rodValue_66 : decode cX4_rodValue 66 = .ok (.iaload, 1) := by decide +kernel
theorem dX4_rodValue_67 : decode cX4_rodValue 67 = .ok (.i2l, 1) := by decide +kernel
theorem dX4_rodValue_68 : decode cX4_rodValue 68 = .ok (.aload_n 0, 1) := by decide +kernel
theorem dX4_rodValue_69 : decode cX4_rodValue 69 = .ok (.iload_n 1, 1) := by decide +kernel
theorem dX4_rodValue_70 : decode cX4_rodValue 70 = .ok (.iload_n 3, 1) := by decide +kernel
theorem dX4_rodValue_71 : decode cX4_rodValue 71 = .ok (.invokevirtual 49, 3) := by decide +kernel
theorem dX4_rodValue_74 : decode cX4_rodValue 74 = .ok (.ladd, 1) := by decide +kernel
theorem dX4_rodValue_75 : decode cX4_rodValue 75 = .ok (.l2i, 1) := by decide +kernel
theorem dX4_rodValue_76 : decode cX4_rodValue 76 = .ok (.ireturn, 1) := by decide +kernel
set_option maxRecDepth 20000 in
theorem ggX4_stretching_X4_stretchOf : GoodIn wsX4_stretching wsX4_stretchOf := goodIn_r _ [8, 9, 10, 15, 16, 17, 18, 19, 20] (by decide +kernel) (by decide +kernel)
set_option maxRecDepth 20000 in
theorem gX4_stretching_X4_stretchOf : GoodIn wsX4_stretching (wsV RX4 53 RX4 yX4_stretchOf wsX4_stretchOf) := goodIn_app (goodIn_of _ (by decide +kernel)) ggX4_stretching_X4_stretchOf
set_option maxRecDepth 20000 in
theorem ggX4_stretching_J9_floorDiv_f86c9 : GoodIn wsX4_stretching wsJ9_floorDiv_f86c9 := goodIn_r _ [14] (by decide +kernel) (by decide +kernel)
set_option maxRecDepth 20000 in
theorem gX4_stretching_J9_floorDiv_f86c9 : GoodIn wsX4_stretching (va_wsS RX4 59 yJ9_floorDiv_f86c9 wsJ9_floorDiv_f86c9) := goodIn_app (goodIn_of _ (by decide +kernel)) ggX4_stretching_J9_floorDiv_f86c9
theorem dX4_stretching_0 : decode cX4_stretching 0 = .ok (.aload_n 0, 1) := by decide +kernel
theorem dX4_stretching_1 : decode cX4_stretching 1 = .ok (.getfield 25, 3) := by decide +kernel
theorem dX4_stretching_4 : decode cX4_stretching 4 = .ok (.iload_n 1, 1) := by decide +kernel
theorem dX4_stretching_5 : decode cX4_stretching 5 = .ok (.iaload, 1) := by decide +kernel
theorem dX4_stretching_6 : decode cX4_stretching 6 = .ok (.i2l, 1) := by decide +kernel
theorem dX4_stretching_7 : decode cX4_stretching 7 = .ok (.aload_n 0, 1) := by decide +kernel
theorem dX4_stretching_8 : decode cX4_stretching 8 = .ok (.aload_n 0, 1) := by decide +kernel
theorem dX4_stretching_9 : decode cX4_stretching 9 = .ok (.getfield 19, 3) := by decide +kernel
theorem dX4_stretching_12 : decode cX4_stretching 12 = .ok (.iload_n 1, 1) := by decide +kernel
theorem dX4_stretching_13 : decode cX4_stretching 13 = .ok (.iaload, 1) := by decide +kernel
theorem dX4_stretching_14 : decode cX4_stretching 14 = .ok (.invokevirtual 53, 3) := by decide +kernel
theorem dX4_stretching_17 : decode cX4_stretching 17 = .ok (.i2l, 1) := by decide +kernel
theorem dX4_stretching_18 : decode cX4_stretching 18 = .ok (.lmul, 1) := by decide +kernel
theorem dX4_stretching_19 : decode cX4_stretching 19 = .ok (.iload_n 2, 1) := by decide +kernel
theorem dX4_stretching_20 : decode cX4_stretching 20 = .ok (.sipush 200, 3) := by decide +kernel
theorem dX4_stretching_23 : decode cX4_stretching 23 = .ok (.isub, 1) := by decide +kernel
theorem dX4_stretching_24 : decode cX4_stretching 24 = .ok (.i2l, 1) := by decide +kernel
theorem dX4_stretching_25 : decode cX4_stretching 25 = .ok (.lmul, 1) := by decide +kernel
theorem dX4_stretching_26 : decode cX4_stretching 26 = .ok (.lstore_n 3, 1) := by decide +kernel
theorem dX4_stretching_27 : decode cX4_stretching 27 = .ok (.lload_n 3, 1) := by decide +kernel
theorem dX4_stretching_28 : decode cX4_stretching 28 = .ok (.ldc2_w 57, 3) := by decide +kernel
theorem dX4_stretching_31 : decode cX4_stretching 31 = .ok (.invokestatic 59, 3) := by decide +kernel
theorem dX4_stretching_34 : decode cX4_stretching 34 = .ok (.lreturn, 1) := by decide +kernel
set_option maxRecDepth 20000 in
theorem ggX4_lengthOfRods_X4_stretching : GoodIn wsX4_lengthOfRods wsX4_stretching := goodIn_r _ [8, 3, 9, 10, 11, 12, 13, 7, 14, 15, 16, 17, 18, 19, 20, 21, 22, 23, 24, 25, 26] (by decide +kernel) (by decide +kernel)
set_option maxRecDepth 20000 in
theorem gX4_lengthOfRods_X4_stretching : GoodIn wsX4_lengthOfRods (wsV RX4 49 RX4 yX4_stretching wsX4_stretching) := goodIn_app (goodIn_of _ (by decide +kernel)) ggX4_lengthOfRods_X4_stretching
theorem dX4_lengthOfRods_0 : decode cX4_lengthOfRods 0 = .ok (.lconst 0, 1) := by decide +kernel
theorem dX4_lengthOfRods_1 : decode cX4_lengthOfRods 1 = .ok (.lstore_n 2, 1) := by decide +kernel
theorem dX4_lengthOfRods_2 : decode cX4_lengthOfRods 2 = .ok (.iconst 0, 1) := by decide +kernel
theorem dX4_lengthOfRods_3 : decode cX4_lengthOfRods 3 = .ok (.istore 4, 2) := by decide +kernel
theorem dX4_lengthOfRods_5 : decode cX4_lengthOfRods 5 = .ok (.iload 4, 2) := by decide +kernel
theorem dX4_lengthOfRods_7 : decode cX4_lengthOfRods 7 = .ok (.aload_n 0, 1) := by decide +kernel
theorem dX4_lengthOfRods_8 : decode cX4_lengthOfRods 8 = .ok (.getfield 34, 3) := by decide +kernel
theorem dX4_lengthOfRods_11 : decode cX4_lengthOfRods 11 = .ok (.if_icmp .ge 37, 3) := by decide +kernel
theorem dX4_lengthOfRods_14 : decode cX4_lengthOfRods 14 = .ok (.lload_n 2, 1) := by decide +kernel
theorem dX4_lengthOfRods_15 : decode cX4_lengthOfRods 15 = .ok (.aload_n 0, 1) := by decide +kernel
theorem dX4_lengthOfRods_16 : decode cX4_lengthOfRods 16 = .ok (.getfield 22, 3) := by decide +kernel
theorem dX4_lengthOfRods_19 : decode cX4_lengthOfRods 19 = .ok (.iload 4, 2) := by decide +kernel
theorem dX4_lengthOfRods_21 : decode cX4_lengthOfRods 21 = .ok (.iaload, 1) := by decide +kernel
theorem dX4_lengthOfRods_22 : decode cX4_lengthOfRods 22 = .ok (.i2l, 1) := by decide +kernel
theorem dX4_lengthOfRods_23 : decode cX4_lengthOfRods 23 = .ok (.aload_n 0, 1) := by decide +kernel
theorem dX4_lengthOfRods_24 : decode cX4_lengthOfRods 24 = .ok (.getfield 25, 3) := by decide +kernel
theorem dX4_lengthOfRods_27 : decode cX4_lengthOfRods 27 = .ok (.iload 4, 2) := by decide +kernel
theorem dX4_lengthOfRods_29 : decode cX4_lengthOfRods 29 = .ok (.iaload, 1) := by decide +kernel
theorem dX4_lengthOfRods_30 : decode cX4_lengthOfRods 30 = .ok (.i2l, 1) := by decide +kernel
theorem dX4_lengthOfRods_31 : decode cX4_lengthOfRods 31 = .ok (.aload_n 0, 1) := by decide +kernel
theorem dX4_lengthOfRods_32 : decode cX4_lengthOfRods 32 = .ok (.iload 4, 2) := by decide +kernel
theorem dX4_lengthOfRods_34 : decode cX4_lengthOfRods 34 = .ok (.iload_n 1, 1) := by decide +kernel
theorem dX4_lengthOfRods_35 : decode cX4_lengthOfRods 35 = .ok (.invokevirtual 49, 3) := by decide +kernel
theorem dX4_lengthOfRods_38 : decode cX4_lengthOfRods 38 = .ok (.ladd, 1) := by decide +kernel
theorem dX4_lengthOfRods_39 : decode cX4_lengthOfRods 39 = .ok (.lmul, 1) := by decide +kernel
theorem dX4_lengthOfRods_40 : decode cX4_lengthOfRods 40 = .ok (.ladd, 1) := by decide +kernel
theorem dX4_lengthOfRods_41 : decode cX4_lengthOfRods 41 = .ok (.lstore_n 2, 1) := by decide +kernel
theorem dX4_lengthOfRods_42 : decode cX4_lengthOfRods 42 = .ok (.iinc 4 1, 3) := by decide +kernel
theorem dX4_lengthOfRods_45 : decode cX4_lengthOfRods 45 = .ok (.goto (-40), 3) := by decide +kernel
theorem dX4_lengthOfRods_48 : decode cX4_lengthOfRods 48 = .ok (.lload_n 2, 1) := by decide +kernel
theorem dX4_lengthOfRods_49 : decode cX4_lengthOfRods 49 = .ok (.lreturn, 1) := by decide +kernel
theorem dX4_sumOfLengths_0 : decode cX4_sumOfLengths 0 = .ok (.lconst 0, 1) := by decide +kernel
theorem dX4_sumOfLengths_1 : decode cX4_sumOfLengths 1 = .ok (.lstore_n 1, 1) := by decide +kernel
theorem dX4_sumOfLengths_2 : decode cX4_sumOfLengths 2 = .ok (.iconst 0, 1) := by decide +kernel
theorem dX4_sumOfLengths_3 : decode cX4_sumOfLengths 3 = .ok (.istore_n 3, 1) := by decide +kernel
theorem dX4_sumOfLengths_4 : decode cX4_sumOfLengths 4 = .ok (.iload_n 3, 1) := by decide +kernel
theorem dX4_sumOfLengths_5 : decode cX4_sumOfLengths 5 = .ok (.aload_n 0, 1) := by decide +kernel
theorem dX4_sumOfLengths_6 : decode cX4_sumOfLengths 6 = .ok (.getfield 34, 3) := by decide +kernel
theorem dX4_sumOfLengths_9 : decode cX4_sumOfLengths 9 = .ok (.if_icmp .ge 19, 3) := by decide +kernel
theorem dX4_sumOfLengths_12 : decode cX4_sumOfLengths 12 = .ok (.lload_n 1, 1) := by decide +kernel
theorem dX4_sumOfLengths_13 : decode cX4_sumOfLengths 13 = .ok (.aload_n 0, 1) := by decide +kernel
theorem dX4_sumOfLengths_14 : decode cX4_sumOfLengths 14 = .ok (.getfield 25, 3) := by decide +kernel
theorem dX4_sumOfLengths_17 : decode cX4_sumOfLengths 17 = .ok (.iload_n 3, 1) := by decide +kernel
theorem dX4_sumOfLengths_18 : decode cX4_sumOfLengths 18 = .ok (.iaload, 1) := by decide +kernel
theorem dX4_sumOfLengths_19 : decode cX4_sumOfLengths 19 = .ok (.i2l, 1) := by decide +kernel
theorem dX4_sumOfLengths_20 : decode cX4_sumOfLengths 20 = .ok (.ladd, 1) := by decide +kernel
theorem dX4_sumOfLengths_21 : decode cX4_sumOfLengths 21 = .ok (.lstore_n 1, 1) := by decide +kernel
theorem dX4_sumOfLengths_22 : decode cX4_sumOfLengths 22 = .ok (.iinc 3 1, 3) := by decide +kernel
theorem dX4_sumOfLengths_25 : decode cX4_sumOfLengths 25 = .ok (.goto (-21), 3) := by decide +kernel
theorem dX4_sumOfLengths_28 : decode cX4_sumOfLengths 28 = .ok (.lload_n 1, 1) := by decide +kernel
theorem dX4_sumOfLengths_29 : decode cX4_sumOfLengths 29 = .ok (.lreturn, 1) := by decide +kernel
set_option maxRecDepth 20000 in
theorem ggX4_balanceOfRod_X4_stretchOf : GoodIn wsX4_balanceOfRod wsX4_stretchOf := goodIn_r _ [8, 9, 10, 11, 12, 13, 14, 15, 16] (by decide +kernel) (by decide +kernel)
set_option maxRecDepth 20000 in
theorem gX4_balanceOfRod_X4_stretchOf : GoodIn wsX4_balanceOfRod (wsV RX4 53 RX4 yX4_stretchOf wsX4_stretchOf) := goodIn_app (goodIn_of _ (by decide +kernel)) ggX4_balanceOfRod_X4_stretchOf
theorem dX4_balanceOfRod_0 : decode cX4_balanceOfRod 0 = .ok (.aload_n 0, 1) := by decide +kernel
theorem dX4_balanceOfRod_1 : decode cX4_balanceOfRod 1 = .ok (.getfield 22, 3) := by decide +kernel
theorem dX4_balanceOfRod_4 : decode cX4_balanceOfRod 4 = .ok (.iload_n 1, 1) := by decide +kernel
theorem dX4_balanceOfRod_5 : decode cX4_balanceOfRod 5 = .ok (.iaload, 1) := by decide +kernel
theorem dX4_balanceOfRod_6 : decode cX4_balanceOfRod 6 = .ok (.i2l, 1) := by decide +kernel
theorem dX4_balanceOfRod_7 : decode cX4_balanceOfRod 7 = .ok (.aload_n 0, 1) := by decide +kernel
theorem dX4_balanceOfRod_8 : decode cX4_balanceOfRod 8 = .ok (.getfield 25, 3) := by decide +kernel
theorem dX4_balanceOfRod_11 : decode cX4_balanceOfRod 11 = .ok (.iload_n 1, 1) := by decide +kernel
theorem dX4_balanceOfRod_12 : decode cX4_balanceOfRod 12 = .ok (.iaload, 1) := by decide +kernel
theorem dX4_balanceOfRod_13 : decode cX4_balanceOfRod 13 = .ok (.i2l, 1) := by decide +kernel
theorem dX4_balanceOfRod_14 : decode cX4_balanceOfRod 14 = .ok (.lmul, 1) := by decide +kernel
theorem dX4_balanceOfRod_15 : decode cX4_balanceOfRod 15 = .ok (.aload_n 0, 1) := by decide +kernel
theorem dX4_balanceOfRod_16 : decode cX4_balanceOfRod 16 = .ok (.aload_n 0, 1) := by decide +kernel
theorem dX4_balanceOfRod_17 : decode cX4_balanceOfRod 17 = .ok (.getfield 19, 3) := by decide +kernel
theorem dX4_balanceOfRod_20 : decode cX4_balanceOfRod 20 = .ok (.iload_n 1, 1) := by decide +kernel
theorem dX4_balanceOfRod_21 : decode cX4_balanceOfRod 21 = .ok (.iaload, 1) := by decide +kernel
theorem dX4_balanceOfRod_22 : decode cX4_balanceOfRod 22 = .ok (.invokevirtual 53, 3) := by decide +kernel
theorem dX4_balanceOfRod_25 : decode cX4_balanceOfRod 25 = .ok (.i2l, 1) := by decide +kernel
theorem dX4_balanceOfRod_26 : decode cX4_balanceOfRod 26 = .ok (.lmul, 1) := by decide +kernel
theorem dX4_balanceOfRod_27 : decode cX4_balanceOfRod 27 = .ok (.lreturn, 1) := by decide +kernel
set_option maxRecDepth 20000 in
theorem ggX4_balanceOfRods_X4_balanceOfRod : GoodIn wsX4_balanceOfRods wsX4_balanceOfRod := goodIn_r _ [6, 7, 8, 9, 10, 11, 12, 5, 13, 14, 15, 16, 17, 18, 19, 20, 21] (by decide +kernel) (by decide +kernel)
set_option maxRecDepth 20000 in
theorem gX4_balanceOfRods_X4_balanceOfRod : GoodIn wsX4_balanceOfRods (wsV RX4 65 RX4 yX4_balanceOfRod wsX4_balanceOfRod) := goodIn_app (goodIn_of _ (by decide +kernel)) ggX4_balanceOfRods_X4_balanceOfRod
theorem dX4_balanceOfRods_0 : decode cX4_balanceOfRods 0 = .ok (.lconst 0, 1) := by decide +kernel
theorem dX4_balanceOfRods_1 : decode cX4_balanceOfRods 1 = .ok (.lstore_n 1, 1) := by decide +kernel
theorem dX4_balanceOfRods_2 : decode cX4_balanceOfRods 2 = .ok (.iconst 0, 1) := by decide +kernel
theorem dX4_balanceOfRods_3 : decode cX4_balanceOfRods 3 = .ok (.istore_n 3, 1) := by decide +kernel
theorem dX4_balanceOfRods_4 : decode cX4_balanceOfRods 4 = .ok (.iload_n 3, 1) := by decide +kernel
theorem dX4_balanceOfRods_5 : decode cX4_balanceOfRods 5 = .ok (.aload_n 0, 1) := by decide +kernel
theorem dX4_balanceOfRods_6 : decode cX4_balanceOfRods 6 = .ok (.getfield 34, 3) := by decide +kernel
theorem dX4_balanceOfRods_9 : decode cX4_balanceOfRods 9 = .ok (.if_icmp .ge 17, 3) := by decide +kernel
theorem dX4_balanceOfRods_12 : decode cX4_balanceOfRods 12 = .ok (.lload_n 1, 1) := by decide +kernel
theorem dX4_balanceOfRods_13 : decode cX4_balanceOfRods 13 = .ok (.aload_n 0, 1) := by decide +kernel
theorem dX4_balanceOfRods_14 : decode cX4_balanceOfRods 14 = .ok (.iload_n 3, 1) := by decide +kernel
theorem dX4_balanceOfRods_15 : decode cX4_balanceOfRods 15 = .ok (.invokevirtual 65, 3) := by decide +kernel
theorem dX4_balanceOfRods_18 : decode cX4_balanceOfRods 18 = .ok (.ladd, 1) := by decide +kernel
theorem dX4_balanceOfRods_19 : decode cX4_balanceOfRods 19 = .ok (.lstore_n 1, 1) := by decide +kernel
theorem dX4_balanceOfRods_20 : decode cX4_balanceOfRods 20 = .ok (.iinc 3 1, 3) := by decide +kernel
theorem dX4_balanceOfRods_23 : decode cX4_balanceOfRods 23 = .ok (.goto (-19), 3) := by decide +kernel
theorem dX4_balanceOfRods_26 : decode cX4_balanceOfRods 26 = .ok (.lload_n 1, 1) := by decide +kernel
theorem dX4_balanceOfRods_27 : decode cX4_balanceOfRods 27 = .ok (.lreturn, 1) := by decide +kernel
set_option maxRecDepth 20000 in
theorem ggX4_nearestMatch_X4_stretchOf : GoodIn wsX4_nearestMatch wsX4_stretchOf := goodIn_r _ [12, 13, 14, 40, 41, 42, 43, 44, 45] (by decide +kernel) (by decide +kernel)
set_option maxRecDepth 20000 in
theorem gX4_nearestMatch_X4_stretchOf : GoodIn wsX4_nearestMatch (wsV RX4 53 RX4 yX4_stretchOf wsX4_stretchOf) := goodIn_app (goodIn_of _ (by decide +kernel)) ggX4_nearestMatch_X4_stretchOf
set_option maxRecDepth 20000 in
theorem ggX4_nearestMatch_X4_balanceOfRods : GoodIn wsX4_nearestMatch wsX4_balanceOfRods := goodIn_r _ [18, 19, 20, 21, 22, 11, 23, 2, 24, 1, 8, 9, 10, 12, 13, 14, 40, 41, 42, 43, 44, 45] (by decide +kernel) (by decide +kernel)
set_option maxRecDepth 20000 in
theorem gX4_nearestMatch_X4_balanceOfRods : GoodIn wsX4_nearestMatch (wsV RX4 69 RX4 yX4_balanceOfRods wsX4_balanceOfRods) := goodIn_app (goodIn_of _ (by decide +kernel)) ggX4_nearestMatch_X4_balanceOfRods
set_option maxRecDepth 20000 in
theorem ggX4_nearestMatch_X4_balanceOfRod : GoodIn wsX4_nearestMatch wsX4_balanceOfRod := goodIn_r _ [23, 2, 24, 1, 8, 9, 10, 11, 12, 13, 14, 40, 41, 42, 43, 44, 45] (by decide +kernel) (by decide +kernel)
set_option maxRecDepth 20000 in
theorem gX4_nearestMatch_X4_balanceOfRod : GoodIn wsX4_nearestMatch (wsV RX4 65 RX4 yX4_balanceOfRod wsX4_balanceOfRod) := goodIn_app (goodIn_of _ (by decide +kernel)) ggX4_nearestMatch_X4_balanceOfRod
set_option maxRecDepth 20000 in
theorem ggX4_nearestMatch_X8_floorOf : GoodIn wsX4_nearestMatch wsX8_floorOf := goodIn_r _ [27, 28, 29, 30, 31] (by decide +kernel) (by decide +kernel)
set_option maxRecDepth 20000 in
theorem gX4_nearestMatch_X8_floorOf_n73 : GoodIn wsX4_nearestMatch (wsX8_floorOf) := ggX4_nearestMatch_X8_floorOf
set_option maxRecDepth 20000 in
theorem ggX4_nearestMatch_X8_clamp : GoodIn wsX4_nearestMatch wsX8_clamp := goodIn_r _ [33, 34, 35, 6, 36, 37, 38, 39] (by decide +kernel) (by decide +kernel)
set_option maxRecDepth 20000 in
theorem gX4_nearestMatch_X8_clamp_n78 : GoodIn wsX4_nearestMatch (wsX8_clamp) := ggX4_nearestMatch_X8_clamp
theorem dX4_nearestMatch_0 : decode cX4_nearestMatch 0 = .ok (.aload_n 0, 1) := by decide +kernel
theorem dX4_nearestMatch_1 : decode cX4_nearestMatch 1 = .ok (.aload_n 0, 1) := by decide +kernel
theorem dX4_nearestMatch_2 : decode cX4_nearestMatch 2 = .ok (.getfield 19, 3) := by decide +kernel
theorem dX4_nearestMatch_5 : decode cX4_nearestMatch 5 = .ok (.iload_n 1, 1) := by decide +kernel
theorem dX4_nearestMatch_6 : decode cX4_nearestMatch 6 = .ok (.iaload, 1) := by decide +kernel
theorem dX4_nearestMatch_7 : decode cX4_nearestMatch 7 = .ok (.invokevirtual 53, 3) := by decide +kernel
theorem dX4_nearestMatch_10 : decode cX4_nearestMatch 10 = .ok (.i2l, 1) := by decide +kernel
theorem dX4_nearestMatch_11 : decode cX4_nearestMatch 11 = .ok (.lstore_n 2, 1) := by decide +kernel
theorem dX4_nearestMatch_12 : decode cX4_nearestMatch 12 = .ok (.lload_n 2, 1) := by decide +kernel
theorem dX4_nearestMatch_13 : decode cX4_nearestMatch 13 = .ok (.lconst 0, 1) := by decide +kernel
theorem dX4_nearestMatch_14 : decode cX4_nearestMatch 14 = .ok (.lcmp, 1) := by decide +kernel
theorem dX4_nearestMatch_15 : decode cX4_nearestMatch 15 = .ok (.ifCond .ne 5, 3) := by decide +kernel
theorem dX4_nearestMatch_18 : decode cX4_nearestMatch 18 = .ok (.iconst 1, 1) := by decide +kernel
theorem dX4_nearestMatch_19 : decode cX4_nearestMatch 19 = .ok (.ireturn, 1) := by decide +kernel
theorem dX4_nearestMatch_20 : decode cX4_nearestMatch 20 = .ok (.aload_n 0, 1) := by decide +kernel
theorem dX4_nearestMatch_21 : decode cX4_nearestMatch 21 = .ok (.getfield 22, 3) := by decide +kernel
theorem dX4_nearestMatch_24 : decode cX4_nearestMatch 24 = .ok (.iload_n 1, 1) := by decide +kernel
theorem dX4_nearestMatch_25 : decode cX4_nearestMatch 25 = .ok (.iaload, 1) := by decide +kernel
theorem dX4_nearestMatch_26 : decode cX4_nearestMatch 26 = .ok (.ineg, 1) := by decide +kernel
theorem dX4_nearestMatch_27 : decode cX4_nearestMatch 27 = .ok (.i2l, 1) := by decide +kernel
theorem dX4_nearestMatch_28 : decode cX4_nearestMatch 28 = .ok (.aload_n 0, 1) := by decide +kernel
theorem dX4_nearestMatch_29 : decode cX4_nearestMatch 29 = .ok (.invokevirtual 69, 3) := by decide +kernel
theorem dX4_nearestMatch_32 : decode cX4_nearestMatch 32 = .ok (.aload_n 0, 1) := by decide +kernel
theorem dX4_nearestMatch_33 : decode cX4_nearestMatch 33 = .ok (.iload_n 1, 1) := by decide +kernel
theorem dX4_nearestMatch_34 : decode cX4_nearestMatch 34 = .ok (.invokevirtual 65, 3) := by decide +kernel
theorem dX4_nearestMatch_37 : decode cX4_nearestMatch 37 = .ok (.lsub, 1) := by decide +kernel
theorem dX4_nearestMatch_38 : decode cX4_nearestMatch 38 = .ok (.lmul, 1) := by decide +kernel
theorem dX4_nearestMatch_39 : decode cX4_nearestMatch 39 = .ok (.lstore 4, 2) := by decide +kernel
theorem dX4_nearestMatch_41 : decode cX4_nearestMatch 41 = .ok (.lload 4, 2) := by decide +kernel
theorem dX4_nearestMatch_43 : decode cX4_nearestMatch 43 = .ok (.lload_n 2, 1) := by decide +kernel
theorem dX4_nearestMatch_44 : decode cX4_nearestMatch 44 = .ok (.invokestatic 73, 3) := by decide +kernel
theorem dX4_nearestMatch_47 : decode cX4_nearestMatch 47 = .ok (.lstore 6, 2) := by decide +kernel
theorem dX4_nearestMatch_49 : decode cX4_nearestMatch 49 = .ok (.lload 6, 2) := by decide +kernel
theorem dX4_nearestMatch_51 : decode cX4_nearestMatch 51 = .ok (.lconst 1, 1) := by decide +kernel
theorem dX4_nearestMatch_52 : decode cX4_nearestMatch 52 = .ok (.ldc2_w 76, 3) := by decide +kernel
theorem dX4_nearestMatch_55 : decode cX4_nearestMatch 55 = .ok (.invokestatic 78, 3) := by decide +kernel
theorem dX4_nearestMatch_58 : decode cX4_nearestMatch 58 = .ok (.lstore 8, 2) := by decide +kernel
theorem dX4_nearestMatch_60 : decode cX4_nearestMatch 60 = .ok (.lload 6, 2) := by decide +kernel
theorem dX4_nearestMatch_62 : decode cX4_nearestMatch 62 = .ok (.lconst 1, 1) := by decide +kernel
theorem dX4_nearestMatch_63 : decode cX4_nearestMatch 63 = .ok (.ladd, 1) := by decide +kernel
theorem dX4_nearestMatch_64 : decode cX4_nearestMatch 64 = .ok (.lconst 1, 1) := by decide +kernel
theorem dX4_nearestMatch_65 : decode cX4_nearestMatch 65 = .ok (.ldc2_w 76, 3) := by decide +kernel
theorem dX4_nearestMatch_68 : decode cX4_nearestMatch 68 = .ok (.invokestatic 78, 3) := by decide +kernel
theorem dX4_nearestMatch_71 : decode cX4_nearestMatch 71 = .ok (.lstore 10, 2) := by decide +kernel
theorem dX4_nearestMatch_73 : decode cX4_nearestMatch 73 = .ok (.lload 10, 2) := by decide +kernel
theorem dX4_nearestMatch_75 : decode cX4_nearestMatch 75 = .ok (.lload_n 2, 1) := by decide +kernel
theorem dX4_nearestMatch_76 : decode cX4_nearestMatch 76 = .ok (.lmul, 1) := by decide +kernel
theorem dX4_nearestMatch_77 : decode cX4_nearestMatch 77 = .ok (.lload 4, 2) := by decide +kernel
theorem dX4_nearestMatch_79 : decode cX4_nearestMatch 79 = .ok (.lsub, 1) := by decide +kernel
theorem dX4_nearestMatch_80 : decode cX4_nearestMatch 80 = .ok (.invokestatic 82, 3) := by decide +kernel
theorem dX4_nearestMatch_83 : decode cX4_nearestMatch 83 = .ok (.lload 8, 2) := by decide +kernel
theorem dX4_nearestMatch_85 : decode cX4_nearestMatch 85 = .ok (.lload_n 2, 1) := by decide +kernel
theorem dX4_nearestMatch_86 : decode cX4_nearestMatch 86 = .ok (.lmul, 1) := by decide +kernel
theorem dX4_nearestMatch_87 : decode cX4_nearestMatch 87 = .ok (.lload 4, 2) := by decide +kernel
theorem dX4_nearestMatch_89 : decode cX4_nearestMatch 89 = .ok (.lsub, 1) := by decide +kernel
theorem dX4_nearestMatch_90 : decode cX4_nearestMatch 90 = .ok (.invokestatic 82, 3) := by decide +kernel
theorem dX4_nearestMatch_93 : decode cX4_nearestMatch 93 = .ok (.lcmp, 1) := by decide +kernel
theorem dX4_nearestMatch_94 : decode cX4_nearestMatch 94 = .ok (.ifCond .ge 7, 3) := by decide +kernel
theorem dX4_nearestMatch_97 : decode cX4_nearestMatch 97 = .ok (.iconst 1, 1) := by decide +kernel
theorem dX4_nearestMatch_98 : decode cX4_nearestMatch 98 = .ok (.goto 4, 3) := by decide +kernel
theorem dX4_nearestMatch_101 : decode cX4_nearestMatch 101 = .ok (.iconst 0, 1) := by decide +kernel
theorem dX4_nearestMatch_102 : decode cX4_nearestMatch 102 = .ok (.istore 12, 2) := by decide +kernel
theorem dX4_nearestMatch_104 : decode cX4_nearestMatch 104 = .ok (.iload 12, 2) := by decide +kernel
theorem dX4_nearestMatch_106 : decode cX4_nearestMatch 106 = .ok (.ifCond .eq 8, 3) := by decide +kernel
theorem dX4_nearestMatch_109 : decode cX4_nearestMatch 109 = .ok (.lload 10, 2) := by decide +kernel
theorem dX4_nearestMatch_111 : decode cX4_nearestMatch 111 = .ok (.goto 5, 3) := by decide +kernel
theorem dX4_nearestMatch_114 : decode cX4_nearestMatch 114 = .ok (.lload 8, 2) := by decide +kernel
theorem dX4_nearestMatch_116 : decode cX4_nearestMatch 116 = .ok (.l2i, 1) := by decide +kernel
theorem dX4_nearestMatch_117 : decode cX4_nearestMatch 117 = .ok (.ireturn, 1) := by decide +kernel
set_option maxRecDepth 20000 in
theorem ggX5_init_X6_init : GoodIn wsX5_init wsX6_init := goodIn_r _ [9, 10, 2, 3, 11, 12, 13, 14, 15, 16, 17, 18, 19, 20, 21, 22, 23, 24, 25, 26, 27, 28, 29, 30, 31, 32, 33, 34, 35, 36, 37, 38, 39, 40, 41, 42, 43, 44, 45, 46, 53, 54, 55, 56, 57, 58, 50, 51, 52, 59, 60, 61, 62, 63, 64, 65, 66, 67, 68, 69, 70, 71, 72] (by decide +kernel) (by decide +kernel)
set_option maxRecDepth 20000 in
theorem gX5_init_X6_init_n17 : GoodIn wsX5_init (wsX6_init) := ggX5_init_X6_init
theorem dX5_init_0 : decode cX5_init 0 = .ok (.aload_n 0, 1) := by decide +kernel
theorem dX5_init_1 : decode cX5_init 1 = .ok (.invokespecial 3, 3) := by decide +kernel
theorem dX5_init_4 : decode cX5_init 4 = .ok (.aload_n 0, 1) := by decide +kernel
theorem dX5_init_5 : decode cX5_init 5 = .ok (.iconst 4, 1) := by decide +kernel
theorem dX5_init_6 : decode cX5_init 6 = .ok (.anewarray 9, 3) := by decide +kernel
theorem dX5_init_9 : decode cX5_init 9 = .ok (.putfield 11, 3) := by decide +kernel
theorem dX5_init_12 : decode cX5_init 12 = .ok (.iconst 0, 1) := by decide +kernel
theorem dX5_init_13 : decode cX5_init 13 = .ok (.istore_n 1, 1) := by decide +kernel
theorem dX5_init_14 : decode cX5_init 14 = .ok (.iload_n 1, 1) := by decide +kernel
theorem dX5_init_15 : decode cX5_init 15 = .ok (.iconst 4, 1) := by decide +kernel
theorem dX5_init_16 : decode cX5_init 16 = .ok (.if_icmp .ge 22, 3) := by decide +kernel
theorem dX5_init_19 : decode cX5_init 19 = .ok (.aload_n 0, 1) := by decide +kernel
theorem dX5_init_20 : decode cX5_init 20 = .ok (.getfield 11, 3) := by decide +kernel
theorem dX5_init_23 : decode cX5_init 23 = .ok (.iload_n 1, 1) := by decide +kernel
theorem dX5_init_24 : decode cX5_init 24 = .ok (.new 9, 3) := by decide +kernel
theorem dX5_init_27 : decode cX5_init 27 = .ok (.dup, 1) := by decide +kernel
theorem dX5_init_28 : decode cX5_init 28 = .ok (.invokespecial 17, 3) := by decide +kernel
theorem dX5_init_31 : decode cX5_init 31 = .ok (.aastore, 1) := by decide +kernel
theorem dX5_init_32 : decode cX5_init 32 = .ok (.iinc 1 1, 3) := by decide +kernel
theorem dX5_init_35 : decode cX5_init 35 = .ok (.goto (-21), 3) := by decide +kernel
theorem dX5_init_38 : decode cX5_init 38 = .ok (.return_, 1) := by decide +kernel
set_option maxRecDepth 20000 in
theorem ggX5_push_X6_copyFrom : GoodIn wsX5_push wsX6_copyFrom := goodIn_r _ [12, 13, 14, 15, 16, 17, 18, 19, 20, 21, 22, 23, 24, 25, 26, 27, 28, 29, 30, 31, 32, 33, 34, 35, 36, 37, 38, 39, 40, 41, 42, 43, 44, 45, 46, 47, 48, 49, 50, 51, 52, 53, 54, 55, 56, 60, 61, 62, 63, 64, 65, 66, 67, 68, 69, 70, 71, 72, 73, 74, 75, 76, 77, 78, 79, 80, 81, 82] (by decide +kernel) (by decide +kernel)
set_option maxRecDepth 20000 in
theorem gX5_push_X6_copyFrom : GoodIn wsX5_push (wsV RX5 22 RX6 yX6_copyFrom wsX6_copyFrom) := goodIn_app (goodIn_of _ (by decide +kernel)) ggX5_push_X6_copyFrom
theorem dX5_push_0 : decode cX5_push 0 = .ok (.aload_n 0, 1) := by decide +kernel
theorem dX5_push_1 : decode cX5_push 1 = .ok (.getfield 11, 3) := by decide +kernel
theorem dX5_push_4 : decode cX5_push 4 = .ok (.aload_n 0, 1) := by decide +kernel
theorem dX5_push_5 : decode cX5_push 5 = .ok (.getfield 18, 3) := by decide +kernel
theorem dX5_push_8 : decode cX5_push 8 = .ok (.aaload, 1) := by decide +kernel
theorem dX5_push_9 : decode cX5_push 9 = .ok (.astore_n 2, 1) := by decide +kernel
theorem dX5_push_10 : decode cX5_push 10 = .ok (.aload_n 2, 1) := by decide +kernel
theorem dX5_push_11 : decode cX5_push 11 = .ok (.ifnonnull 4, 3) := by decide +kernel
theorem dX5_push_14 : decode cX5_push 14 = .ok (.return_, 1) := by decide +kernel
theorem dX5_push_15 : decode cX5_push 15 = .ok (.aload_n 2, 1) := by decide +kernel
theorem dX5_push_16 : decode cX5_push 16 = .ok (.aload_n 1, 1) := by decide +kernel
theorem dX5_push_17 : decode cX5_push 17 = .ok (.invokevirtual 22, 3) := by decide +kernel
theorem dX5_push_20 : decode cX5_push 20 = .ok (.aload_n 0, 1) := by decide +kernel
theorem dX5_push_21 : decode cX5_push 21 = .ok (.aload_n 0, 1) := by decide +kernel
theorem dX5_push_22 : decode cX5_push 22 = .ok (.getfield 18, 3) := by decide +kernel
theorem dX5_push_25 : decode cX5_push 25 = .ok (.iconst 1, 1) := by decide +kernel
theorem dX5_push_26 : decode cX5_push 26 = .ok (.iadd, 1) := by decide +kernel
theorem dX5_push_27 : decode cX5_push 27 = .ok (.iconst 4, 1) := by decide +kernel
theorem dX5_push_28 : decode cX5_push 28 = .ok (.irem, 1) := by decide +kernel
theorem dX5_push_29 : decode cX5_push 29 = .ok (.putfield 18, 3) := by decide +kernel
theorem dX5_push_32 : decode cX5_push 32 = .ok (.aload_n 0, 1) := by decide +kernel
theorem dX5_push_33 : decode cX5_push 33 = .ok (.aload_n 0, 1) := by decide +kernel
theorem dX5_push_34 : decode cX5_push 34 = .ok (.getfield 26, 3) := by decide +kernel
theorem dX5_push_37 : decode cX5_push 37 = .ok (.iconst 1, 1) := by decide +kernel
theorem dX5_push_38 : decode cX5_push 38 = .ok (.iadd, 1) := by decide +kernel
theorem dX5_push_39 : decode cX5_push 39 = .ok (.iconst 4, 1) := by decide +kernel
theorem dX5_push_40 : decode cX5_push 40 = .ok (.invokestatic 29, 3) := by decide +kernel
theorem dX5_push_43 : decode cX5_push 43 = .ok (.putfield 26, 3) := by decide +kernel
theorem dX5_push_46 : decode cX5_push 46 = .ok (.return_, 1) := by decide +kernel
set_option maxRecDepth 20000 in
theorem ggX5_popInto_X6_copyFrom : GoodIn wsX5_popInto wsX6_copyFrom := goodIn_r _ [8, 9, 10, 11, 12, 13, 14, 15, 16, 17, 18, 19, 20, 21, 22, 23, 24, 25, 26, 27, 28, 29, 30, 31, 32, 33, 34, 35, 36, 37, 38, 39, 40, 41, 42, 43, 44, 45, 46, 47, 48, 49, 50, 51, 52, 56, 57, 58, 59, 60, 61, 62, 63, 64, 65, 66, 67, 68, 69, 70, 71, 72, 73, 74, 75, 76, 77, 78] (by decide +kernel) (by decide +kernel)
set_option maxRecDepth 20000 in
theorem gX5_popInto_X6_copyFrom : GoodIn wsX5_popInto (wsV RX5 22 RX6 yX6_copyFrom wsX6_copyFrom) := goodIn_app (goodIn_of _ (by decide +kernel)) ggX5_popInto_X6_copyFrom
theorem dX5_popInto_0 : decode cX5_popInto 0 = .ok (.aload_n 0, 1) := by decide +kernel
theorem dX5_popInto_1 : decode cX5_popInto 1 = .ok (.aload_n 0, 1) := by decide +kernel
theorem dX5_popInto_2 : decode cX5_popInto 2 = .ok (.getfield 18, 3) := by decide +kernel
theorem dX5_popInto_5 : decode cX5_popInto 5 = .ok (.iconst 4, 1) := by decide +kernel
theorem dX5_popInto_6 : decode cX5_popInto 6 = .ok (.iadd, 1) := by decide +kernel
theorem dX5_popInto_7 : decode cX5_popInto 7 = .ok (.iconst 1, 1) := by decide +kernel
theorem dX5_popInto_8 : decode cX5_popInto 8 = .ok (.isub, 1) := by decide +kernel
theorem dX5_popInto_9 : decode cX5_popInto 9 = .ok (.iconst 4, 1) := by decide +kernel
theorem dX5_popInto_10 : decode cX5_popInto 10 = .ok (.irem, 1) := by decide +kernel
theorem dX5_popInto_11 : decode cX5_popInto 11 = .ok (.putfield 18, 3) := by decide +kernel
theorem dX5_popInto_14 : decode cX5_popInto 14 = .ok (.aload_n 0, 1) := by decide +kernel
theorem dX5_popInto_15 : decode cX5_popInto 15 = .ok (.getfield 11, 3) := by decide +kernel
theorem dX5_popInto_18 : decode cX5_popInto 18 = .ok (.aload_n 0, 1) := by decide +kernel
theorem dX5_popInto_19 : decode cX5_popInto 19 = .ok (.getfield 18, 3) := by decide +kernel
theorem dX5_popInto_22 : decode cX5_popInto 22 = .ok (.aaload, 1) := by decide +kernel
theorem dX5_popInto_23 : decode cX5_popInto 23 = .ok (.astore_n 2, 1) := by decide +kernel
theorem dX5_popInto_24 : decode cX5_popInto 24 = .ok (.aload_n 2, 1) := by decide +kernel
theorem dX5_popInto_25 : decode cX5_popInto 25 = .ok (.ifnull 8, 3) := by decide +kernel
theorem dX5_popInto_28 : decode cX5_popInto 28 = .ok (.aload_n 1, 1) := by decide +kernel
theorem dX5_popInto_29 : decode cX5_popInto 29 = .ok (.aload_n 2, 1) := by decide +kernel
theorem dX5_popInto_30 : decode cX5_popInto 30 = .ok (.invokevirtual 22, 3) := by decide +kernel
theorem dX5_popInto_33 : decode cX5_popInto 33 = .ok (.aload_n 0, 1) := by decide +kernel
theorem dX5_popInto_34 : decode cX5_popInto 34 = .ok (.dup, 1) := by decide +kernel
theorem dX5_popInto_35 : decode cX5_popInto 35 = .ok (.getfield 26, 3) := by decide +kernel
theorem dX5_popInto_38 : decode cX5_popInto 38 = .ok (.iconst 1, 1) := by decide +kernel
theorem dX5_popInto_39 : decode cX5_popInto 39 = .ok (.isub, 1) := by decide +kernel
theorem dX5_popInto_40 : decode cX5_popInto 40 = .ok (.putfield 26, 3) := by decide +kernel
theorem dX5_popInto_43 : decode cX5_popInto 43 = .ok (.aload_n 0, 1) := by decide +kernel
theorem dX5_popInto_44 : decode cX5_popInto 44 = .ok (.getfield 26, 3) := by decide +kernel
theorem dX5_popInto_47 : decode cX5_popInto 47 = .ok (.ireturn, 1) := by decide +kernel
set_option maxRecDepth 20000 in
theorem ggX6_init_X4_init : GoodIn wsX6_init wsX4_init := goodIn_r _ [18, 19, 2, 3, 20, 21, 22, 23, 24, 25, 40, 41, 42, 43, 44, 45] (by decide +kernel) (by decide +kernel)
set_option maxRecDepth 20000 in
theorem gX6_init_X4_init : GoodIn wsX6_init (wsX4_init) := ggX6_init_X4_init
set_option maxRecDepth 20000 in
theorem ggX6_init_X1_init : GoodIn wsX6_init wsX1_init := goodIn_r _ [28, 29, 2, 3, 21, 30, 31, 32, 33, 34, 49, 50, 51, 52, 53, 54, 55, 56, 57, 58, 59, 60] (by decide +kernel) (by decide +kernel)
set_option maxRecDepth 20000 in
theorem gX6_init_X1_init : GoodIn wsX6_init (wsX1_init) := ggX6_init_X1_init
set_option maxRecDepth 20000 in
theorem ggX6_init_X3_init : GoodIn wsX6_init wsX3_init := goodIn_r _ [36, 37, 2, 3, 38, 39, 61, 62] (by decide +kernel) (by decide +kernel)
set_option maxRecDepth 20000 in
theorem gX6_init_X3_init_n27 : GoodIn wsX6_init (wsX3_init) := ggX6_init_X3_init
theorem dX6_init_0 : decode cX6_init 0 = .ok (.aload_n 0, 1) := by decide +kernel
theorem dX6_init_1 : decode cX6_init 1 = .ok (.invokespecial 3, 3) := by decide +kernel
theorem dX6_init_4 : decode cX6_init 4 = .ok (.aload_n 0, 1) := by decide +kernel
theorem dX6_init_5 : decode cX6_init 5 = .ok (.new 9, 3) := by decide +kernel
theorem dX6_init_8 : decode cX6_init 8 = .ok (.dup, 1) := by decide +kernel
theorem dX6_init_9 : decode cX6_init 9 = .ok (.invokespecial 11, 3) := by decide +kernel
theorem dX6_init_12 : decode cX6_init 12 = .ok (.putfield 12, 3) := by decide +kernel
theorem dX6_init_15 : decode cX6_init 15 = .ok (.aload_n 0, 1) := by decide +kernel
theorem dX6_init_16 : decode cX6_init 16 = .ok (.new 18, 3) := by decide +kernel
theorem dX6_init_19 : decode cX6_init 19 = .ok (.dup, 1) := by decide +kernel
theorem dX6_init_20 : decode cX6_init 20 = .ok (.invokespecial 20, 3) := by decide +kernel
theorem dX6_init_23 : decode cX6_init 23 = .ok (.putfield 21, 3) := by decide +kernel
theorem dX6_init_26 : decode cX6_init 26 = .ok (.aload_n 0, 1) := by decide +kernel
theorem dX6_init_27 : decode cX6_init 27 = .ok (.new 25, 3) := by decide +kernel
theorem dX6_init_30 : decode cX6_init 30 = .ok (.dup, 1) := by decide +kernel
theorem dX6_init_31 : decode cX6_init 31 = .ok (.invokespecial 27, 3) := by decide +kernel
theorem dX6_init_34 : decode cX6_init 34 = .ok (.putfield 28, 3) := by decide +kernel
theorem dX6_init_37 : decode cX6_init 37 = .ok (.return_, 1) := by decide +kernel
set_option maxRecDepth 20000 in
theorem ggX6_copyFrom_X4_copyFrom : GoodIn wsX6_copyFrom wsX4_copyFrom := goodIn_r _ [8, 9, 10, 11, 12, 13, 14, 15, 16, 17, 18, 48, 49, 50, 51, 52, 53] (by decide +kernel) (by decide +kernel)
set_option maxRecDepth 20000 in
theorem gX6_copyFrom_X4_copyFrom : GoodIn wsX6_copyFrom (wsV RX6 32 RX4 yX4_copyFrom wsX4_copyFrom) := goodIn_app (goodIn_of _ (by decide +kernel)) ggX6_copyFrom_X4_copyFrom
set_option maxRecDepth 20000 in
theorem ggX6_copyFrom_X1_copyFrom : GoodIn wsX6_copyFrom wsX1_copyFrom := goodIn_r _ [23, 24, 25, 12, 13, 14, 26, 27, 28, 29, 30, 31, 32, 33, 34, 35, 36, 54, 55, 56, 57, 58, 59, 60, 61, 62, 63, 64, 65] (by decide +kernel) (by decide +kernel)
set_option maxRecDepth 20000 in
theorem gX6_copyFrom_X1_copyFrom : GoodIn wsX6_copyFrom (wsV RX6 36 RX1 yX1_copyFrom wsX1_copyFrom) := goodIn_app (goodIn_of _ (by decide +kernel)) ggX6_copyFrom_X1_copyFrom
set_option maxRecDepth 20000 in
theorem ggX6_copyFrom_X3_copyFrom : GoodIn wsX6_copyFrom wsX3_copyFrom := goodIn_r _ [41, 42, 43, 44, 12, 13, 14, 66, 67] (by decide +kernel) (by decide +kernel)
set_option maxRecDepth 20000 in
theorem gX6_copyFrom_X3_copyFrom : GoodIn wsX6_copyFrom (wsV RX6 39 RX3 yX3_copyFrom wsX3_copyFrom) := goodIn_app (goodIn_of _ (by decide +kernel)) ggX6_copyFrom_X3_copyFrom
theorem dX6_copyFrom_0 : decode cX6_copyFrom 0 = .ok (.aload_n 0, 1) := by decide +kernel
theorem dX6_copyFrom_1 : decode cX6_copyFrom 1 = .ok (.getfield 12, 3) := by decide +kernel
theorem dX6_copyFrom_4 : decode cX6_copyFrom 4 = .ok (.aload_n 1, 1) := by decide +kernel
theorem dX6_copyFrom_5 : decode cX6_copyFrom 5 = .ok (.getfield 12, 3) := by decide +kernel
theorem dX6_copyFrom_8 : decode cX6_copyFrom 8 = .ok (.invokevirtual 32, 3) := by decide +kernel
theorem dX6_copyFrom_11 : decode cX6_copyFrom 11 = .ok (.aload_n 0, 1) := by decide +kernel
theorem dX6_copyFrom_12 : decode cX6_copyFrom 12 = .ok (.getfield 21, 3) := by decide +kernel
theorem dX6_copyFrom_15 : decode cX6_copyFrom 15 = .ok (.aload_n 1, 1) := by decide +kernel
theorem dX6_copyFrom_16 : decode cX6_copyFrom 16 = .ok (.getfield 21, 3) := by decide +kernel
theorem dX6_copyFrom_19 : decode cX6_copyFrom 19 = .ok (.invokevirtual 36, 3) := by decide +kernel
theorem dX6_copyFrom_22 : decode cX6_copyFrom 22 = .ok (.aload_n 0, 1) := by decide +kernel
theorem dX6_copyFrom_23 : decode cX6_copyFrom 23 = .ok (.getfield 28, 3) := by decide +kernel
theorem dX6_copyFrom_26 : decode cX6_copyFrom 26 = .ok (.aload_n 1, 1) := by decide +kernel
theorem dX6_copyFrom_27 : decode cX6_copyFrom 27 = .ok (.getfield 28, 3) := by decide +kernel
theorem dX6_copyFrom_30 : decode cX6_copyFrom 30 = .ok (.invokevirtual 39, 3) := by decide +kernel
theorem dX6_copyFrom_33 : decode cX6_copyFrom 33 = .ok (.return_, 1) := by decide +kernel
set_option maxRecDepth 20000 in
theorem ggX6_wholeValue_X1_arcBy : GoodIn wsX6_wholeValue wsX1_arcBy := goodIn_r _ [19, 20, 89, 90, 91, 92, 93, 94, 95, 96, 97, 98, 99, 100] (by decide +kernel) (by decide +kernel)
set_option maxRecDepth 20000 in
theorem gX6_wholeValue_X1_arcBy : GoodIn wsX6_wholeValue (wsV RX6 61 RX1 yX1_arcBy wsX1_arcBy) := goodIn_app (goodIn_of _ (by decide +kernel)) ggX6_wholeValue_X1_arcBy
set_option maxRecDepth 20000 in
theorem ggX6_wholeValue_X1_lossBy : GoodIn wsX6_wholeValue wsX1_lossBy := goodIn_r _ [24, 25, 16, 17, 18, 19, 20, 89, 90, 91, 92, 93, 94, 95, 96, 97, 98, 99, 100] (by decide +kernel) (by decide +kernel)
set_option maxRecDepth 20000 in
theorem gX6_wholeValue_X1_lossBy : GoodIn wsX6_wholeValue (wsV RX6 65 RX1 yX1_lossBy wsX1_lossBy) := goodIn_app (goodIn_of _ (by decide +kernel)) ggX6_wholeValue_X1_lossBy
set_option maxRecDepth 20000 in
theorem ggX6_wholeValue_X6_lengthNow : GoodIn wsX6_wholeValue wsX6_lengthNow := goodIn_r _ [30, 1, 4, 6, 31, 7, 32, 33, 34, 35, 36, 37, 38, 39, 40, 41, 42, 43, 44, 45, 46, 47, 48, 49, 50, 51, 52, 53, 54, 55, 80, 81, 82, 89, 90, 91, 92, 93, 94, 95, 96, 97, 98, 99, 100, 83, 84, 85, 86, 87, 88] (by decide +kernel) (by decide +kernel)
set_option maxRecDepth 20000 in
theorem gX6_wholeValue_X6_lengthNow : GoodIn wsX6_wholeValue (wsV RX6 68 RX6 yX6_lengthNow wsX6_lengthNow) := goodIn_app (goodIn_of _ (by decide +kernel)) ggX6_wholeValue_X6_lengthNow
set_option maxRecDepth 20000 in
theorem ggX6_wholeValue_X6_rateFor : GoodIn wsX6_wholeValue wsX6_rateFor := goodIn_r _ [59, 4, 7, 1, 32, 33, 34, 35, 36, 37, 38, 39, 40, 41, 42, 43, 44, 45, 46, 47, 48, 49, 50, 51, 52, 53, 54, 55, 60, 61, 62, 29, 63, 12, 31, 64, 65, 66, 67, 68, 69, 70, 71, 72, 73, 74, 75, 76, 77, 78, 79, 21, 22, 23, 18, 24, 25, 16, 17, 19, 20, 80, 81, 82, 89, 90, 91, 92, 93, 94, 95, 96, 97, 98, 99, 100, 83, 84, 85, 86, 87, 88] (by decide +kernel) (by decide +kernel)
set_option maxRecDepth 20000 in
theorem gX6_wholeValue_X6_rateFor : GoodIn wsX6_wholeValue (wsV RX6 72 RX6 yX6_rateFor wsX6_rateFor) := goodIn_app (goodIn_of _ (by decide +kernel)) ggX6_wholeValue_X6_rateFor
theorem dX6_wholeValue_0 : decode cX6_wholeValue 0 = .ok (.iload_n 1, 1) := by decide +kernel
theorem dX6_wholeValue_1 : decode cX6_wholeValue 1 = .ok (.tableswitch 235 0 15 #[79, 87, 95, 103, 111, 119, 127, 142, 157, 162, 181, 189, 197, 205, 215, 225], 79) := by decide +kernel
theorem dX6_wholeValue_80 : decode cX6_wholeValue 80 = .ok (.aload_n 0, 1) := by decide +kernel
theorem dX6_wholeValue_81 : decode cX6_wholeValue 81 = .ok (.getfield 12, 3) := by decide +kernel
theorem dX6_wholeValue_84 : decode cX6_wholeValue 84 = .ok (.getfield 42, 3) := by decide +kernel
theorem dX6_wholeValue_87 : decode cX6_wholeValue 87 = .ok (.ireturn, 1) := by decide +kernel
theorem dX6_wholeValue_88 : decode cX6_wholeValue 88 = .ok (.aload_n 0, 1) := by decide +kernel
theorem dX6_wholeValue_89 : decode cX6_wholeValue 89 = .ok (.getfield 12, 3) := by decide +kernel
theorem dX6_wholeValue_92 : decode cX6_wholeValue 92 = .ok (.getfield 46, 3) := by decide +kernel
theorem dX6_wholeValue_95 : decode cX6_wholeValue 95 = .ok (.ireturn, 1) := by decide +kernel
theorem dX6_wholeValue_96 : decode cX6_wholeValue 96 = .ok (.aload_n 0, 1) := by decide +kernel
theorem dX6_wholeValue_97 : decode cX6_wholeValue 97 = .ok (.getfield 21, 3) := by decide +kernel
theorem dX6_wholeValue_100 : decode cX6_wholeValue 100 = .ok (.getfield 49, 3) := by decide +kernel
theorem dX6_wholeValue_103 : decode cX6_wholeValue 103 = .ok (.ireturn, 1) := by decide +kernel
theorem dX6_wholeValue_104 : decode cX6_wholeValue 104 = .ok (.aload_n 0, 1) := by decide +kernel
theorem dX6_wholeValue_105 : decode cX6_wholeValue 105 = .ok (.getfield 21, 3) := by decide +kernel
theorem dX6_wholeValue_108 : decode cX6_wholeValue 108 = .ok (.getfield 52, 3) := by decide +kernel
theorem dX6_wholeValue_111 : decode cX6_wholeValue 111 = .ok (.ireturn, 1) := by decide +kernel
theorem dX6_wholeValue_112 : decode cX6_wholeValue 112 = .ok (.aload_n 0, 1) := by decide +kernel
theorem dX6_wholeValue_113 : decode cX6_wholeValue 113 = .ok (.getfield 21, 3) := by decide +kernel
theorem dX6_wholeValue_116 : decode cX6_wholeValue 116 = .ok (.getfield 55, 3) := by decide +kernel
theorem dX6_wholeValue_119 : decode cX6_wholeValue 119 = .ok (.ireturn, 1) := by decide +kernel
theorem dX6_wholeValue_120 : decode cX6_wholeValue 120 = .ok (.aload_n 0, 1) := by decide +kernel
theorem dX6_wholeValue_121 : decode cX6_wholeValue 121 = .ok (.getfield 21, 3) := by decide +kernel
theorem dX6_wholeValue_124 : decode cX6_wholeValue 124 = .ok (.getfield 58, 3) := by decide +kernel
theorem dX6_wholeValue_127 : decode cX6_wholeValue 127 = .ok (.ireturn, 1) := by decide +kernel
theorem dX6_wholeValue_128 : decode cX6_wholeValue 128 = .ok (.aload_n 0, 1) := by decide +kernel
theorem dX6_wholeValue_129 : decode cX6_wholeValue 129 = .ok (.getfield 21, 3) := by decide +kernel
theorem dX6_wholeValue_132 : decode cX6_wholeValue 132 = .ok (.aload_n 0, 1) := by decide +kernel
theorem dX6_wholeValue_133 : decode cX6_wholeValue 133 = .ok (.getfield 21, 3) := by decide +kernel
theorem dX6_wholeValue_136 : decode cX6_wholeValue 136 = .ok (.getfield 58, 3) := by decide +kernel
theorem dX6_wholeValue_139 : decode cX6_wholeValue 139 = .ok (.invokevirtual 61, 3) := by decide +kernel
theorem dX6_wholeValue_142 : decode cX6_wholeValue 142 = .ok (.ireturn, 1) := by decide +kernel
theorem dX6_wholeValue_143 : decode cX6_wholeValue 143 = .ok (.aload_n 0, 1) := by decide +kernel
theorem dX6_wholeValue_144 : decode cX6_wholeValue 144 = .ok (.getfield 21, 3) := by decide +kernel
theorem dX6_wholeValue_147 : decode cX6_wholeValue 147 = .ok (.aload_n 0, 1) := by decide +kernel
theorem dX6_wholeValue_148 : decode cX6_wholeValue 148 = .ok (.getfield 21, 3) := by decide +kernel
theorem dX6_wholeValue_151 : decode cX6_wholeValue 151 = .ok (.getfield 58, 3) := by decide +kernel
theorem dX6_wholeValue_154 : decode cX6_wholeValue 154 = .ok (.invokevirtual 65, 3) := by decide +kernel
theorem dX6_wholeValue_157 : decode cX6_wholeValue 157 = .ok (.ireturn, 1) := by decide +kernel
theorem dX6_wholeValue_158 : decode cX6_wholeValue 158 = .ok (.aload_n 0, 1) := by decide +kernel
theorem dX6_wholeValue_159 : decode cX6_wholeValue 159 = .ok (.invokevirtual 68, 3) := by decide +kernel
theorem dX6_wholeValue_162 : decode cX6_wholeValue 162 = .ok (.ireturn, 1) := by decide +kernel
theorem dX6_wholeValue_163 : decode cX6_wholeValue 163 = .ok (.aload_n 0, 1) := by decide +kernel
theorem dX6_wholeValue_164 : decode cX6_wholeValue 164 = .ok (.aload_n 0, 1) := by decide +kernel
theorem dX6_wholeValue_165 : decode cX6_wholeValue 165 = .ok (.getfield 21, 3) := by decide +kernel
theorem dX6_wholeValue_168 : decode cX6_wholeValue 168 = .ok (.getfield 52, 3) := by decide +kernel
theorem dX6_wholeValue_171 : decode cX6_wholeValue 171 = .ok (.aload_n 0, 1) := by decide +kernel
theorem dX6_wholeValue_172 : decode cX6_wholeValue 172 = .ok (.getfield 21, 3) := by decide +kernel
theorem dX6_wholeValue_175 : decode cX6_wholeValue 175 = .ok (.getfield 58, 3) := by decide +kernel
theorem dX6_wholeValue_178 : decode cX6_wholeValue 178 = .ok (.invokevirtual 72, 3) := by decide +kernel
theorem dX6_wholeValue_181 : decode cX6_wholeValue 181 = .ok (.ireturn, 1) := by decide +kernel
theorem dX6_wholeValue_182 : decode cX6_wholeValue 182 = .ok (.aload_n 0, 1) := by decide +kernel
theorem dX6_wholeValue_183 : decode cX6_wholeValue 183 = .ok (.getfield 21, 3) := by decide +kernel
theorem dX6_wholeValue_186 : decode cX6_wholeValue 186 = .ok (.getfield 76, 3) := by decide +kernel
theorem dX6_wholeValue_189 : decode cX6_wholeValue 189 = .ok (.ireturn, 1) := by decide +kernel
theorem dX6_wholeValue_190 : decode cX6_wholeValue 190 = .ok (.aload_n 0, 1) := by decide +kernel
theorem dX6_wholeValue_191 : decode cX6_wholeValue 191 = .ok (.getfield 21, 3) := by decide +kernel
theorem dX6_wholeValue_194 : decode cX6_wholeValue 194 = .ok (.getfield 79, 3) := by decide +kernel
theorem dX6_wholeValue_197 : decode cX6_wholeValue 197 = .ok (.ireturn, 1) := by decide +kernel
theorem dX6_wholeValue_198 : decode cX6_wholeValue 198 = .ok (.aload_n 0, 1) := by decide +kernel
theorem dX6_wholeValue_199 : decode cX6_wholeValue 199 = .ok (.getfield 21, 3) := by decide +kernel
theorem dX6_wholeValue_202 : decode cX6_wholeValue 202 = .ok (.getfield 82, 3) := by decide +kernel
theorem dX6_wholeValue_205 : decode cX6_wholeValue 205 = .ok (.ireturn, 1) := by decide +kernel
theorem dX6_wholeValue_206 : decode cX6_wholeValue 206 = .ok (.aload_n 0, 1) := by decide +kernel
theorem dX6_wholeValue_207 : decode cX6_wholeValue 207 = .ok (.getfield 21, 3) := by decide +kernel
theorem dX6_wholeValue_210 : decode cX6_wholeValue 210 = .ok (.getfield 85, 3) := by decide +kernel
theorem dX6_wholeValue_213 : decode cX6_wholeValue 213 = .ok (.iconst 0, 1) := by decide +kernel
theorem dX6_wholeValue_214 : decode cX6_wholeValue 214 = .ok (.iaload, 1) := by decide +kernel
theorem dX6_wholeValue_215 : decode cX6_wholeValue 215 = .ok (.ireturn, 1) := by decide +kernel
theorem dX6_wholeValue_216 : decode cX6_wholeValue 216 = .ok (.aload_n 0, 1) := by decide +kernel
theorem dX6_wholeValue_217 : decode cX6_wholeValue 217 = .ok (.getfield 21, 3) := by decide +kernel
theorem dX6_wholeValue_220 : decode cX6_wholeValue 220 = .ok (.getfield 85, 3) := by decide +kernel
theorem dX6_wholeValue_223 : decode cX6_wholeValue 223 = .ok (.iconst 1, 1) := by decide +kernel
theorem dX6_wholeValue_224 : decode cX6_wholeValue 224 = .ok (.iaload, 1) := by decide +kernel
theorem dX6_wholeValue_225 : decode cX6_wholeValue 225 = .ok (.ireturn, 1) := by decide +kernel
theorem dX6_wholeValue_226 : decode cX6_wholeValue 226 = .ok (.aload_n 0, 1) := by decide +kernel
theorem dX6_wholeValue_227 : decode cX6_wholeValue 227 = .ok (.getfield 21, 3) := by decide +kernel
theorem dX6_wholeValue_230 : decode cX6_wholeValue 230 = .ok (.getfield 85, 3) := by decide +kernel
theorem dX6_wholeValue_233 : decode cX6_wholeValue 233 = .ok (.iconst 2, 1) := by decide +kernel
theorem dX6_wholeValue_234 : decode cX6_wholeValue 234 = .ok (.iaload, 1) := by decide +kernel
theorem dX6_wholeValue_235 : decode cX6_wholeValue 235 = .ok (.ireturn, 1) := by decide +kernel
theorem dX6_wholeValue_236 : decode cX6_wholeValue 236 = .ok (.aload_n 0, 1) := by decide +kernel
theorem dX6_wholeValue_237 : decode cX6_wholeValue 237 = .ok (.getfield 28, 3) := by decide +kernel
theorem dX6_wholeValue_240 : decode cX6_wholeValue 240 = .ok (.getfield 89, 3) := by decide +kernel
theorem dX6_wholeValue_243 : decode cX6_wholeValue 243 = .ok (.ireturn, 1) := by decide +kernel
set_option maxRecDepth 20000 in
theorem ggX6_lengthNow_X4_lengthOfRods : GoodIn wsX6_lengthNow wsX4_lengthOfRods := goodIn_r _ [10, 11, 12, 13, 14, 15, 16, 9, 17, 18, 19, 20, 21, 22, 23, 24, 25, 26, 27, 28, 29, 45, 46, 47, 48, 49, 50] (by decide +kernel) (by decide +kernel)
set_option maxRecDepth 20000 in
theorem gX6_lengthNow_X4_lengthOfRods : GoodIn wsX6_lengthNow (wsV RX6 92 RX4 yX4_lengthOfRods wsX4_lengthOfRods) := goodIn_app (goodIn_of _ (by decide +kernel)) ggX6_lengthNow_X4_lengthOfRods
theorem dX6_lengthNow_0 : decode cX6_lengthNow 0 = .ok (.aload_n 0, 1) := by decide +kernel
theorem dX6_lengthNow_1 : decode cX6_lengthNow 1 = .ok (.getfield 12, 3) := by decide +kernel
theorem dX6_lengthNow_4 : decode cX6_lengthNow 4 = .ok (.aload_n 0, 1) := by decide +kernel
theorem dX6_lengthNow_5 : decode cX6_lengthNow 5 = .ok (.getfield 21, 3) := by decide +kernel
theorem dX6_lengthNow_8 : decode cX6_lengthNow 8 = .ok (.getfield 52, 3) := by decide +kernel
theorem dX6_lengthNow_11 : decode cX6_lengthNow 11 = .ok (.invokevirtual 92, 3) := by decide +kernel
theorem dX6_lengthNow_14 : decode cX6_lengthNow 14 = .ok (.ldc2_w 96, 3) := by decide +kernel
theorem dX6_lengthNow_17 : decode cX6_lengthNow 17 = .ok (.aload_n 0, 1) := by decide +kernel
theorem dX6_lengthNow_18 : decode cX6_lengthNow 18 = .ok (.getfield 21, 3) := by decide +kernel
theorem dX6_lengthNow_21 : decode cX6_lengthNow 21 = .ok (.getfield 55, 3) := by decide +kernel
theorem dX6_lengthNow_24 : decode cX6_lengthNow 24 = .ok (.i2l, 1) := by decide +kernel
theorem dX6_lengthNow_25 : decode cX6_lengthNow 25 = .ok (.lmul, 1) := by decide +kernel
theorem dX6_lengthNow_26 : decode cX6_lengthNow 26 = .ok (.ladd, 1) := by decide +kernel
theorem dX6_lengthNow_27 : decode cX6_lengthNow 27 = .ok (.l2i, 1) := by decide +kernel
theorem dX6_lengthNow_28 : decode cX6_lengthNow 28 = .ok (.ireturn, 1) := by decide +kernel
set_option maxRecDepth 20000 in
theorem ggX6_rateFor_X4_lengthOfRods : GoodIn wsX6_rateFor wsX4_lengthOfRods := goodIn_r _ [8, 9, 10, 11, 12, 13, 14, 7, 15, 16, 17, 18, 19, 20, 21, 22, 23, 24, 25, 26, 27, 76, 77, 78, 79, 80, 81] (by decide +kernel) (by decide +kernel)
set_option maxRecDepth 20000 in
theorem gX6_rateFor_X4_lengthOfRods : GoodIn wsX6_rateFor (wsV RX6 92 RX4 yX4_lengthOfRods wsX4_lengthOfRods) := goodIn_app (goodIn_of _ (by decide +kernel)) ggX6_rateFor_X4_lengthOfRods
set_option maxRecDepth 20000 in
theorem ggX6_rateFor_X6_rateWith : GoodIn wsX6_rateFor wsX6_rateWith := goodIn_r _ [32, 1, 33, 34, 35, 36, 37, 38, 39, 40, 41, 25, 26, 27, 42, 43, 44, 45, 46, 47, 48, 49, 50, 51, 52, 53, 54, 55, 56, 57, 58, 59, 60, 61, 62, 63, 64, 65, 66, 67, 68, 69, 70, 71, 72, 73, 74, 75] (by decide +kernel) (by decide +kernel)
set_option maxRecDepth 20000 in
theorem gX6_rateFor_X6_rateWith : GoodIn wsX6_rateFor (wsV RX6 98 RX6 yX6_rateWith wsX6_rateWith) := goodIn_app (goodIn_of _ (by decide +kernel)) ggX6_rateFor_X6_rateWith
theorem dX6_rateFor_0 : decode cX6_rateFor 0 = .ok (.aload_n 0, 1) := by decide +kernel
theorem dX6_rateFor_1 : decode cX6_rateFor 1 = .ok (.aload_n 0, 1) := by decide +kernel
theorem dX6_rateFor_2 : decode cX6_rateFor 2 = .ok (.getfield 21, 3) := by decide +kernel
theorem dX6_rateFor_5 : decode cX6_rateFor 5 = .ok (.getfield 55, 3) := by decide +kernel
theorem dX6_rateFor_8 : decode cX6_rateFor 8 = .ok (.aload_n 0, 1) := by decide +kernel
theorem dX6_rateFor_9 : decode cX6_rateFor 9 = .ok (.getfield 12, 3) := by decide +kernel
theorem dX6_rateFor_12 : decode cX6_rateFor 12 = .ok (.iload_n 1, 1) := by decide +kernel
theorem dX6_rateFor_13 : decode cX6_rateFor 13 = .ok (.invokevirtual 92, 3) := by decide +kernel
theorem dX6_rateFor_16 : decode cX6_rateFor 16 = .ok (.iload_n 2, 1) := by decide +kernel
theorem dX6_rateFor_17 : decode cX6_rateFor 17 = .ok (.invokevirtual 98, 3) := by decide +kernel
theorem dX6_rateFor_20 : decode cX6_rateFor 20 = .ok (.ireturn, 1) := by decide +kernel
set_option maxRecDepth 20000 in
theorem ggX6_rateWith_X8_floorOf : GoodIn wsX6_rateWith wsX8_floorOf := goodIn_r _ [9, 10, 11, 12, 13] (by decide +kernel) (by decide +kernel)
set_option maxRecDepth 20000 in
theorem gX6_rateWith_X8_floorOf_n104 : GoodIn wsX6_rateWith (wsX8_floorOf) := ggX6_rateWith_X8_floorOf
set_option maxRecDepth 20000 in
theorem ggX6_rateWith_X8_clamp : GoodIn wsX6_rateWith wsX8_clamp := goodIn_r _ [15, 16, 17, 18, 19, 20, 21, 22] (by decide +kernel) (by decide +kernel)
set_option maxRecDepth 20000 in
theorem gX6_rateWith_X8_clamp_n112 : GoodIn wsX6_rateWith (wsX8_clamp) := ggX6_rateWith_X8_clamp
set_option maxRecDepth 20000 in
theorem ggX6_rateWith_X1_lossBy : GoodIn wsX6_rateWith wsX1_lossBy := goodIn_r _ [27, 28, 29, 30, 26, 31, 32, 36, 37, 38, 39, 40, 41, 42, 43, 44, 45, 46, 47] (by decide +kernel) (by decide +kernel)
set_option maxRecDepth 20000 in
theorem gX6_rateWith_X1_lossBy : GoodIn wsX6_rateWith (wsV RX6 65 RX1 yX1_lossBy wsX1_lossBy) := goodIn_app (goodIn_of _ (by decide +kernel)) ggX6_rateWith_X1_lossBy
theorem dX6_rateWith_0 : decode cX6_rateWith 0 = .ok (.aload_n 0, 1) := by decide +kernel
theorem dX6_rateWith_1 : decode cX6_rateWith 1 = .ok (.getfield 21, 3) := by decide +kernel
theorem dX6_rateWith_4 : decode cX6_rateWith 4 = .ok (.getfield 85, 3) := by decide +kernel
theorem dX6_rateWith_7 : decode cX6_rateWith 7 = .ok (.iconst 0, 1) := by decide +kernel
theorem dX6_rateWith_8 : decode cX6_rateWith 8 = .ok (.iaload, 1) := by decide +kernel
theorem dX6_rateWith_9 : decode cX6_rateWith 9 = .ok (.i2l, 1) := by decide +kernel
theorem dX6_rateWith_10 : decode cX6_rateWith 10 = .ok (.lstore 5, 2) := by decide +kernel
theorem dX6_rateWith_12 : decode cX6_rateWith 12 = .ok (.lload_n 2, 1) := by decide +kernel
theorem dX6_rateWith_13 : decode cX6_rateWith 13 = .ok (.ldc2_w 96, 3) := by decide +kernel
theorem dX6_rateWith_16 : decode cX6_rateWith 16 = .ok (.iload_n 1, 1) := by decide +kernel
theorem dX6_rateWith_17 : decode cX6_rateWith 17 = .ok (.i2l, 1) := by decide +kernel
theorem dX6_rateWith_18 : decode cX6_rateWith 18 = .ok (.lmul, 1) := by decide +kernel
theorem dX6_rateWith_19 : decode cX6_rateWith 19 = .ok (.ladd, 1) := by decide +kernel
theorem dX6_rateWith_20 : decode cX6_rateWith 20 = .ok (.lstore 7, 2) := by decide +kernel
theorem dX6_rateWith_22 : decode cX6_rateWith 22 = .ok (.ldc2_w 102, 3) := by decide +kernel
theorem dX6_rateWith_25 : decode cX6_rateWith 25 = .ok (.lload 5, 2) := by decide +kernel
theorem dX6_rateWith_27 : decode cX6_rateWith 27 = .ok (.lload 7, 2) := by decide +kernel
theorem dX6_rateWith_29 : decode cX6_rateWith 29 = .ok (.lsub, 1) := by decide +kernel
theorem dX6_rateWith_30 : decode cX6_rateWith 30 = .ok (.lmul, 1) := by decide +kernel
theorem dX6_rateWith_31 : decode cX6_rateWith 31 = .ok (.lload 5, 2) := by decide +kernel
theorem dX6_rateWith_33 : decode cX6_rateWith 33 = .ok (.invokestatic 104, 3) := by decide +kernel
theorem dX6_rateWith_36 : decode cX6_rateWith 36 = .ok (.lstore 9, 2) := by decide +kernel
theorem dX6_rateWith_38 : decode cX6_rateWith 38 = .ok (.lload 9, 2) := by decide +kernel
theorem dX6_rateWith_40 : decode cX6_rateWith 40 = .ok (.ldc2_w 108, 3) := by decide +kernel
theorem dX6_rateWith_43 : decode cX6_rateWith 43 = .ok (.ldc2_w 110, 3) := by decide +kernel
theorem dX6_rateWith_46 : decode cX6_rateWith 46 = .ok (.invokestatic 112, 3) := by decide +kernel
theorem dX6_rateWith_49 : decode cX6_rateWith 49 = .ok (.l2i, 1) := by decide +kernel
theorem dX6_rateWith_50 : decode cX6_rateWith 50 = .ok (.aload_n 0, 1) := by decide +kernel
theorem dX6_rateWith_51 : decode cX6_rateWith 51 = .ok (.getfield 21, 3) := by decide +kernel
theorem dX6_rateWith_54 : decode cX6_rateWith 54 = .ok (.iload 4, 2) := by decide +kernel
theorem dX6_rateWith_56 : decode cX6_rateWith 56 = .ok (.invokevirtual 65, 3) := by decide +kernel
theorem dX6_rateWith_59 : decode cX6_rateWith 59 = .ok (.isub, 1) := by decide +kernel
theorem dX6_rateWith_60 : decode cX6_rateWith 60 = .ok (.ireturn, 1) := by decide +kernel
set_option maxRecDepth 20000 in
theorem ggX6_passHours_X1_warmthAfterHour : GoodIn wsX6_passHours wsX1_warmthAfterHour := goodIn_r _ [12, 13, 14, 15, 16, 17, 11, 18, 19, 20, 21, 22, 23, 24, 25, 26, 27, 28, 116, 117, 118, 119, 120, 121, 122, 123, 124, 125, 126, 127] (by decide +kernel) (by decide +kernel)
set_option maxRecDepth 20000 in
theorem gX6_passHours_X1_warmthAfterHour : GoodIn wsX6_passHours (wsV RX6 116 RX1 yX1_warmthAfterHour wsX1_warmthAfterHour) := goodIn_app (goodIn_of _ (by decide +kernel)) ggX6_passHours_X1_warmthAfterHour
set_option maxRecDepth 20000 in
theorem ggX6_passHours_X6_rateFor : GoodIn wsX6_passHours wsX6_rateFor := goodIn_r _ [33, 1, 34, 35, 36, 37, 38, 39, 40, 41, 42, 43, 44, 45, 46, 47, 48, 49, 50, 51, 52, 53, 54, 55, 56, 26, 27, 28, 57, 58, 59, 32, 60, 61, 62, 63, 64, 65, 23, 21, 24, 25, 66, 67, 68, 69, 70, 71, 72, 73, 74, 75, 76, 77, 11, 78, 79, 80, 81, 82, 14, 113, 114, 115, 116, 117, 118, 119, 120, 121, 122, 123, 124, 125, 126, 127, 128, 129, 130, 131, 132, 133] (by decide +kernel) (by decide +kernel)
set_option maxRecDepth 20000 in
theorem gX6_passHours_X6_rateFor : GoodIn wsX6_passHours (wsV RX6 72 RX6 yX6_rateFor wsX6_rateFor) := goodIn_app (goodIn_of _ (by decide +kernel)) ggX6_passHours_X6_rateFor
set_option maxRecDepth 20000 in
theorem ggX6_passHours_X6_endDay : GoodIn wsX6_passHours wsX6_endDay := goodIn_r _ [86, 87, 1, 2, 4, 88, 5, 89, 90, 91, 92, 93, 94, 95, 96, 97, 98, 99, 100, 101, 102, 70, 103, 113, 114, 115, 116, 117, 118, 119, 120, 121, 122, 123, 124, 125, 126, 127, 134, 135] (by decide +kernel) (by decide +kernel)
set_option maxRecDepth 20000 in
theorem gX6_passHours_X6_endDay : GoodIn wsX6_passHours (wsV RX6 123 RX6 yX6_endDay wsX6_endDay) := goodIn_app (goodIn_of _ (by decide +kernel)) ggX6_passHours_X6_endDay
set_option maxRecDepth 20000 in
theorem ggX6_passHours_X1_errorOfClock : GoodIn wsX6_passHours wsX1_errorOfClock := goodIn_r _ [107, 108, 109, 110, 111, 112, 26, 27, 28, 66, 21, 67, 68, 69, 70, 71, 72, 73, 74, 116, 117, 118, 119, 120, 121, 122, 123, 124, 125, 126, 127] (by decide +kernel) (by decide +kernel)
set_option maxRecDepth 20000 in
theorem gX6_passHours_X1_errorOfClock : GoodIn wsX6_passHours (wsV RX6 127 RX1 yX1_errorOfClock wsX1_errorOfClock) := goodIn_app (goodIn_of _ (by decide +kernel)) ggX6_passHours_X1_errorOfClock
theorem dX6_passHours_0 : decode cX6_passHours 0 = .ok (.iconst 0, 1) := by decide +kernel
theorem dX6_passHours_1 : decode cX6_passHours 1 = .ok (.istore_n 2, 1) := by decide +kernel
theorem dX6_passHours_2 : decode cX6_passHours 2 = .ok (.iload_n 2, 1) := by decide +kernel
theorem dX6_passHours_3 : decode cX6_passHours 3 = .ok (.iload_n 1, 1) := by decide +kernel
theorem dX6_passHours_4 : decode cX6_passHours 4 = .ok (.if_icmp .ge 161, 3) := by decide +kernel
theorem dX6_passHours_7 : decode cX6_passHours 7 = .ok (.aload_n 0, 1) := by decide +kernel
theorem dX6_passHours_8 : decode cX6_passHours 8 = .ok (.getfield 21, 3) := by decide +kernel
theorem dX6_passHours_11 : decode cX6_passHours 11 = .ok (.aload_n 0, 1) := by decide +kernel
theorem dX6_passHours_12 : decode cX6_passHours 12 = .ok (.getfield 21, 3) := by decide +kernel
theorem dX6_passHours_15 : decode cX6_passHours 15 = .ok (.aload_n 0, 1) := by decide +kernel
theorem dX6_passHours_16 : decode cX6_passHours 16 = .ok (.getfield 21, 3) := by decide +kernel
theorem dX6_passHours_19 : decode cX6_passHours 19 = .ok (.getfield 52, 3) := by decide +kernel
theorem dX6_passHours_22 : decode cX6_passHours 22 = .ok (.invokevirtual 116, 3) := by decide +kernel
theorem dX6_passHours_25 : decode cX6_passHours 25 = .ok (.putfield 52, 3) := by decide +kernel
theorem dX6_passHours_28 : decode cX6_passHours 28 = .ok (.aload_n 0, 1) := by decide +kernel
theorem dX6_passHours_29 : decode cX6_passHours 29 = .ok (.getfield 21, 3) := by decide +kernel
theorem dX6_passHours_32 : decode cX6_passHours 32 = .ok (.getfield 58, 3) := by decide +kernel
theorem dX6_passHours_35 : decode cX6_passHours 35 = .ok (.ifCond .le 63, 3) := by decide +kernel
theorem dX6_passHours_38 : decode cX6_passHours 38 = .ok (.aload_n 0, 1) := by decide +kernel
theorem dX6_passHours_39 : decode cX6_passHours 39 = .ok (.getfield 21, 3) := by decide +kernel
theorem dX6_passHours_42 : decode cX6_passHours 42 = .ok (.dup, 1) := by decide +kernel
theorem dX6_passHours_43 : decode cX6_passHours 43 = .ok (.getfield 119, 3) := by decide +kernel
theorem dX6_passHours_46 : decode cX6_passHours 46 = .ok (.aload_n 0, 1) := by decide +kernel
theorem dX6_passHours_47 : decode cX6_passHours 47 = .ok (.aload_n 0, 1) := by decide +kernel
theorem dX6_passHours_48 : decode cX6_passHours 48 = .ok (.getfield 21, 3) := by decide +kernel
theorem dX6_passHours_51 : decode cX6_passHours 51 = .ok (.getfield 52, 3) := by decide +kernel
theorem dX6_passHours_54 : decode cX6_passHours 54 = .ok (.aload_n 0, 1) := by decide +kernel
theorem dX6_passHours_55 : decode cX6_passHours 55 = .ok (.getfield 21, 3) := by decide +kernel
theorem dX6_passHours_58 : decode cX6_passHours 58 = .ok (.getfield 58, 3) := by decide +kernel
theorem dX6_passHours_61 : decode cX6_passHours 61 = .ok (.invokevirtual 72, 3) := by decide +kernel
theorem dX6_passHours_64 : decode cX6_passHours 64 = .ok (.i2l, 1) := by decide +kernel
theorem dX6_passHours_65 : decode cX6_passHours 65 = .ok (.ladd, 1) := by decide +kernel
theorem dX6_passHours_66 : decode cX6_passHours 66 = .ok (.putfield 119, 3) := by decide +kernel
theorem dX6_passHours_69 : decode cX6_passHours 69 = .ok (.aload_n 0, 1) := by decide +kernel
theorem dX6_passHours_70 : decode cX6_passHours 70 = .ok (.getfield 21, 3) := by decide +kernel
theorem dX6_passHours_73 : decode cX6_passHours 73 = .ok (.dup, 1) := by decide +kernel
theorem dX6_passHours_74 : decode cX6_passHours 74 = .ok (.getfield 79, 3) := by decide +kernel
theorem dX6_passHours_77 : decode cX6_passHours 77 = .ok (.iconst 1, 1) := by decide +kernel
theorem dX6_passHours_78 : decode cX6_passHours 78 = .ok (.iadd, 1) := by decide +kernel
theorem dX6_passHours_79 : decode cX6_passHours 79 = .ok (.putfield 79, 3) := by decide +kernel
theorem dX6_passHours_82 : decode cX6_passHours 82 = .ok (.aload_n 0, 1) := by decide +kernel
theorem dX6_passHours_83 : decode cX6_passHours 83 = .ok (.getfield 21, 3) := by decide +kernel
theorem dX6_passHours_86 : decode cX6_passHours 86 = .ok (.dup, 1) := by decide +kernel
theorem dX6_passHours_87 : decode cX6_passHours 87 = .ok (.getfield 58, 3) := by decide +kernel
theorem dX6_passHours_90 : decode cX6_passHours 90 = .ok (.iconst 1, 1) := by decide +kernel
theorem dX6_passHours_91 : decode cX6_passHours 91 = .ok (.isub, 1) := by decide +kernel
theorem dX6_passHours_92 : decode cX6_passHours 92 = .ok (.putfield 58, 3) := by decide +kernel
theorem dX6_passHours_95 : decode cX6_passHours 95 = .ok (.goto 16, 3) := by decide +kernel
theorem dX6_passHours_98 : decode cX6_passHours 98 = .ok (.aload_n 0, 1) := by decide +kernel
theorem dX6_passHours_99 : decode cX6_passHours 99 = .ok (.getfield 21, 3) := by decide +kernel
theorem dX6_passHours_102 : decode cX6_passHours 102 = .ok (.dup, 1) := by decide +kernel
theorem dX6_passHours_103 : decode cX6_passHours 103 = .ok (.getfield 82, 3) := by decide +kernel
theorem dX6_passHours_106 : decode cX6_passHours 106 = .ok (.iconst 1, 1) := by decide +kernel
theorem dX6_passHours_107 : decode cX6_passHours 107 = .ok (.iadd, 1) := by decide +kernel
theorem dX6_passHours_108 : decode cX6_passHours 108 = .ok (.putfield 82, 3) := by decide +kernel
theorem dX6_passHours_111 : decode cX6_passHours 111 = .ok (.aload_n 0, 1) := by decide +kernel
theorem dX6_passHours_112 : decode cX6_passHours 112 = .ok (.getfield 21, 3) := by decide +kernel
theorem dX6_passHours_115 : decode cX6_passHours 115 = .ok (.dup, 1) := by decide +kernel
theorem dX6_passHours_116 : decode cX6_passHours 116 = .ok (.getfield 76, 3) := by decide +kernel
theorem dX6_passHours_119 : decode cX6_passHours 119 = .ok (.iconst 1, 1) := by decide +kernel
theorem dX6_passHours_120 : decode cX6_passHours 120 = .ok (.iadd, 1) := by decide +kernel
theorem dX6_passHours_121 : decode cX6_passHours 121 = .ok (.putfield 76, 3) := by decide +kernel
theorem dX6_passHours_124 : decode cX6_passHours 124 = .ok (.aload_n 0, 1) := by decide +kernel
theorem dX6_passHours_125 : decode cX6_passHours 125 = .ok (.getfield 21, 3) := by decide +kernel
theorem dX6_passHours_128 : decode cX6_passHours 128 = .ok (.getfield 76, 3) := by decide +kernel
theorem dX6_passHours_131 : decode cX6_passHours 131 = .ok (.bipush 24, 2) := by decide +kernel
theorem dX6_passHours_133 : decode cX6_passHours 133 = .ok (.irem, 1) := by decide +kernel
theorem dX6_passHours_134 : decode cX6_passHours 134 = .ok (.ifCond .ne 25, 3) := by decide +kernel
theorem dX6_passHours_137 : decode cX6_passHours 137 = .ok (.aload_n 0, 1) := by decide +kernel
theorem dX6_passHours_138 : decode cX6_passHours 138 = .ok (.aload_n 0, 1) := by decide +kernel
theorem dX6_passHours_139 : decode cX6_passHours 139 = .ok (.aload_n 0, 1) := by decide +kernel
theorem dX6_passHours_140 : decode cX6_passHours 140 = .ok (.getfield 21, 3) := by decide +kernel
theorem dX6_passHours_143 : decode cX6_passHours 143 = .ok (.getfield 52, 3) := by decide +kernel
theorem dX6_passHours_146 : decode cX6_passHours 146 = .ok (.aload_n 0, 1) := by decide +kernel
theorem dX6_passHours_147 : decode cX6_passHours 147 = .ok (.getfield 21, 3) := by decide +kernel
theorem dX6_passHours_150 : decode cX6_passHours 150 = .ok (.getfield 58, 3) := by decide +kernel
theorem dX6_passHours_153 : decode cX6_passHours 153 = .ok (.invokevirtual 72, 3) := by decide +kernel
theorem dX6_passHours_156 : decode cX6_passHours 156 = .ok (.invokevirtual 123, 3) := by decide +kernel
theorem dX6_passHours_159 : decode cX6_passHours 159 = .ok (.iinc 2 1, 3) := by decide +kernel
theorem dX6_passHours_162 : decode cX6_passHours 162 = .ok (.goto (-160), 3) := by decide +kernel
theorem dX6_passHours_165 : decode cX6_passHours 165 = .ok (.aload_n 0, 1) := by decide +kernel
theorem dX6_passHours_166 : decode cX6_passHours 166 = .ok (.getfield 21, 3) := by decide +kernel
theorem dX6_passHours_169 : decode cX6_passHours 169 = .ok (.invokevirtual 127, 3) := by decide +kernel
theorem dX6_passHours_172 : decode cX6_passHours 172 = .ok (.ireturn, 1) := by decide +kernel
set_option maxRecDepth 20000 in
theorem ggX6_endDay_X3_append : GoodIn wsX6_endDay wsX3_append := goodIn_r _ [12, 13, 14, 15, 16, 17, 18, 19, 20, 21, 22, 38, 39] (by decide +kernel) (by decide +kernel)
set_option maxRecDepth 20000 in
theorem gX6_endDay_X3_append : GoodIn wsX6_endDay (wsV RX6 136 RX3 yX3_append wsX3_append) := goodIn_app (goodIn_of _ (by decide +kernel)) ggX6_endDay_X3_append
theorem dX6_endDay_0 : decode cX6_endDay 0 = .ok (.aload_n 0, 1) := by decide +kernel
theorem dX6_endDay_1 : decode cX6_endDay 1 = .ok (.getfield 28, 3) := by decide +kernel
theorem dX6_endDay_4 : decode cX6_endDay 4 = .ok (.aload_n 0, 1) := by decide +kernel
theorem dX6_endDay_5 : decode cX6_endDay 5 = .ok (.getfield 21, 3) := by decide +kernel
theorem dX6_endDay_8 : decode cX6_endDay 8 = .ok (.getfield 52, 3) := by decide +kernel
theorem dX6_endDay_11 : decode cX6_endDay 11 = .ok (.iload_n 1, 1) := by decide +kernel
theorem dX6_endDay_12 : decode cX6_endDay 12 = .ok (.aload_n 0, 1) := by decide +kernel
theorem dX6_endDay_13 : decode cX6_endDay 13 = .ok (.getfield 21, 3) := by decide +kernel
theorem dX6_endDay_16 : decode cX6_endDay 16 = .ok (.getfield 119, 3) := by decide +kernel
theorem dX6_endDay_19 : decode cX6_endDay 19 = .ok (.aload_n 0, 1) := by decide +kernel
theorem dX6_endDay_20 : decode cX6_endDay 20 = .ok (.getfield 21, 3) := by decide +kernel
theorem dX6_endDay_23 : decode cX6_endDay 23 = .ok (.getfield 130, 3) := by decide +kernel
theorem dX6_endDay_26 : decode cX6_endDay 26 = .ok (.lsub, 1) := by decide +kernel
theorem dX6_endDay_27 : decode cX6_endDay 27 = .ok (.aload_n 0, 1) := by decide +kernel
theorem dX6_endDay_28 : decode cX6_endDay 28 = .ok (.getfield 21, 3) := by decide +kernel
theorem dX6_endDay_31 : decode cX6_endDay 31 = .ok (.getfield 79, 3) := by decide +kernel
theorem dX6_endDay_34 : decode cX6_endDay 34 = .ok (.aload_n 0, 1) := by decide +kernel
theorem dX6_endDay_35 : decode cX6_endDay 35 = .ok (.getfield 21, 3) := by decide +kernel
theorem dX6_endDay_38 : decode cX6_endDay 38 = .ok (.getfield 133, 3) := by decide +kernel
theorem dX6_endDay_41 : decode cX6_endDay 41 = .ok (.isub, 1) := by decide +kernel
theorem dX6_endDay_42 : decode cX6_endDay 42 = .ok (.invokevirtual 136, 3) := by decide +kernel
theorem dX6_endDay_45 : decode cX6_endDay 45 = .ok (.aload_n 0, 1) := by decide +kernel
theorem dX6_endDay_46 : decode cX6_endDay 46 = .ok (.getfield 21, 3) := by decide +kernel
theorem dX6_endDay_49 : decode cX6_endDay 49 = .ok (.aload_n 0, 1) := by decide +kernel
theorem dX6_endDay_50 : decode cX6_endDay 50 = .ok (.getfield 21, 3) := by decide +kernel
theorem dX6_endDay_53 : decode cX6_endDay 53 = .ok (.getfield 119, 3) := by decide +kernel
theorem dX6_endDay_56 : decode cX6_endDay 56 = .ok (.putfield 130, 3) := by decide +kernel
theorem dX6_endDay_59 : decode cX6_endDay 59 = .ok (.aload_n 0, 1) := by decide +kernel
theorem dX6_endDay_60 : decode cX6_endDay 60 = .ok (.getfield 21, 3) := by decide +kernel
theorem dX6_endDay_63 : decode cX6_endDay 63 = .ok (.aload_n 0, 1) := by decide +kernel
theorem dX6_endDay_64 : decode cX6_endDay 64 = .ok (.getfield 21, 3) := by decide +kernel
theorem dX6_endDay_67 : decode cX6_endDay 67 = .ok (.getfield 79, 3) := by decide +kernel
theorem dX6_endDay_70 : decode cX6_endDay 70 = .ok (.putfield 133, 3) := by decide +kernel
theorem dX6_endDay_73 : decode cX6_endDay 73 = .ok (.return_, 1) := by decide +kernel
set_option maxRecDepth 20000 in
theorem ggX6_changeOfRates_X1_warmthAfterHour : GoodIn wsX6_changeOfRates wsX1_warmthAfterHour := goodIn_r _ [8, 9, 10, 11, 12, 13, 7, 14, 15, 16, 17, 18, 19, 20, 21, 22, 23, 24, 82, 83, 84, 85, 86, 87, 88, 89, 90, 91, 92, 93] (by decide +kernel) (by decide +kernel)
set_option maxRecDepth 20000 in
theorem gX6_changeOfRates_X1_warmthAfterHour : GoodIn wsX6_changeOfRates (wsV RX6 116 RX1 yX1_warmthAfterHour wsX1_warmthAfterHour) := goodIn_app (goodIn_of _ (by decide +kernel)) ggX6_changeOfRates_X1_warmthAfterHour
set_option maxRecDepth 20000 in
theorem ggX6_changeOfRates_X6_rateFor : GoodIn wsX6_changeOfRates wsX6_rateFor := goodIn_r _ [29, 1, 30, 31, 32, 33, 34, 35, 36, 37, 38, 39, 40, 41, 42, 43, 44, 45, 46, 47, 48, 49, 50, 51, 52, 22, 23, 24, 53, 54, 55, 28, 56, 57, 58, 59, 60, 61, 19, 17, 20, 21, 62, 63, 64, 65, 66, 67, 68, 69, 70, 71, 72, 73, 7, 74, 75, 76, 77, 78, 10, 79, 80, 81, 82, 83, 84, 85, 86, 87, 88, 89, 90, 91, 92, 93, 94, 95, 96, 97, 98, 99] (by decide +kernel) (by decide +kernel)
set_option maxRecDepth 20000 in
theorem gX6_changeOfRates_X6_rateFor : GoodIn wsX6_changeOfRates (wsV RX6 72 RX6 yX6_rateFor wsX6_rateFor) := goodIn_app (goodIn_of _ (by decide +kernel)) ggX6_changeOfRates_X6_rateFor
theorem dX6_changeOfRates_0 : decode cX6_changeOfRates 0 = .ok (.lconst 0, 1) := by decide +kernel
theorem dX6_changeOfRates_1 : decode cX6_changeOfRates 1 = .ok (.lstore_n 2, 1) := by decide +kernel
theorem dX6_changeOfRates_2 : decode cX6_changeOfRates 2 = .ok (.aload_n 0, 1) := by decide +kernel
theorem dX6_changeOfRates_3 : decode cX6_changeOfRates 3 = .ok (.getfield 21, 3) := by decide +kernel
theorem dX6_changeOfRates_6 : decode cX6_changeOfRates 6 = .ok (.getfield 52, 3) := by decide +kernel
theorem dX6_changeOfRates_9 : decode cX6_changeOfRates 9 = .ok (.istore 4, 2) := by decide +kernel
theorem dX6_changeOfRates_11 : decode cX6_changeOfRates 11 = .ok (.aload_n 0, 1) := by decide +kernel
theorem dX6_changeOfRates_12 : decode cX6_changeOfRates 12 = .ok (.getfield 21, 3) := by decide +kernel
theorem dX6_changeOfRates_15 : decode cX6_changeOfRates 15 = .ok (.getfield 58, 3) := by decide +kernel
theorem dX6_changeOfRates_18 : decode cX6_changeOfRates 18 = .ok (.istore 5, 2) := by decide +kernel
theorem dX6_changeOfRates_20 : decode cX6_changeOfRates 20 = .ok (.iconst 0, 1) := by decide +kernel
theorem dX6_changeOfRates_21 : decode cX6_changeOfRates 21 = .ok (.istore 6, 2) := by decide +kernel
theorem dX6_changeOfRates_23 : decode cX6_changeOfRates 23 = .ok (.iload 6, 2) := by decide +kernel
theorem dX6_changeOfRates_25 : decode cX6_changeOfRates 25 = .ok (.iload_n 1, 1) := by decide +kernel
theorem dX6_changeOfRates_26 : decode cX6_changeOfRates 26 = .ok (.if_icmp .ge 40, 3) := by decide +kernel
theorem dX6_changeOfRates_29 : decode cX6_changeOfRates 29 = .ok (.iload 5, 2) := by decide +kernel
theorem dX6_changeOfRates_31 : decode cX6_changeOfRates 31 = .ok (.ifCond .le 35, 3) := by decide +kernel
theorem dX6_changeOfRates_34 : decode cX6_changeOfRates 34 = .ok (.aload_n 0, 1) := by decide +kernel
theorem dX6_changeOfRates_35 : decode cX6_changeOfRates 35 = .ok (.getfield 21, 3) := by decide +kernel
theorem dX6_changeOfRates_38 : decode cX6_changeOfRates 38 = .ok (.iload 4, 2) := by decide +kernel
theorem dX6_changeOfRates_40 : decode cX6_changeOfRates 40 = .ok (.invokevirtual 116, 3) := by decide +kernel
theorem dX6_changeOfRates_43 : decode cX6_changeOfRates 43 = .ok (.istore 4, 2) := by decide +kernel
theorem dX6_changeOfRates_45 : decode cX6_changeOfRates 45 = .ok (.lload_n 2, 1) := by decide +kernel
theorem dX6_changeOfRates_46 : decode cX6_changeOfRates 46 = .ok (.aload_n 0, 1) := by decide +kernel
theorem dX6_changeOfRates_47 : decode cX6_changeOfRates 47 = .ok (.iload 4, 2) := by decide +kernel
theorem dX6_changeOfRates_49 : decode cX6_changeOfRates 49 = .ok (.iload 5, 2) := by decide +kernel
theorem dX6_changeOfRates_51 : decode cX6_changeOfRates 51 = .ok (.invokevirtual 72, 3) := by decide +kernel
theorem dX6_changeOfRates_54 : decode cX6_changeOfRates 54 = .ok (.i2l, 1) := by decide +kernel
theorem dX6_changeOfRates_55 : decode cX6_changeOfRates 55 = .ok (.ladd, 1) := by decide +kernel
theorem dX6_changeOfRates_56 : decode cX6_changeOfRates 56 = .ok (.lstore_n 2, 1) := by decide +kernel
theorem dX6_changeOfRates_57 : decode cX6_changeOfRates 57 = .ok (.iinc 5 (-1), 3) := by decide +kernel
theorem dX6_changeOfRates_60 : decode cX6_changeOfRates 60 = .ok (.iinc 6 1, 3) := by decide +kernel
theorem dX6_changeOfRates_63 : decode cX6_changeOfRates 63 = .ok (.goto (-40), 3) := by decide +kernel
theorem dX6_changeOfRates_66 : decode cX6_changeOfRates 66 = .ok (.lload_n 2, 1) := by decide +kernel
theorem dX6_changeOfRates_67 : decode cX6_changeOfRates 67 = .ok (.lreturn, 1) := by decide +kernel
set_option maxRecDepth 20000 in
theorem ggX6_spreadOfRates_X6_rateFor : GoodIn wsX6_spreadOfRates wsX6_rateFor := goodIn_r _ [14, 1, 15, 16, 17, 18, 19, 20, 21, 22, 23, 24, 25, 26, 27, 28, 29, 30, 31, 32, 33, 34, 35, 36, 37, 38, 39, 40, 41, 42, 43, 13, 44, 45, 46, 47, 48, 49, 50, 51, 52, 53, 54, 55, 56, 57, 5, 58, 59, 60, 61, 62, 63, 64, 65, 66, 67, 68, 69, 70, 71, 72, 73, 74, 75, 76, 77, 78, 79, 80, 81, 82, 83, 84, 85, 86, 87, 88, 89, 90, 91, 92] (by decide +kernel) (by decide +kernel)
set_option maxRecDepth 20000 in
theorem gX6_spreadOfRates_X6_rateFor : GoodIn wsX6_spreadOfRates (wsV RX6 72 RX6 yX6_rateFor wsX6_rateFor) := goodIn_app (goodIn_of _ (by decide +kernel)) ggX6_spreadOfRates_X6_rateFor
theorem dX6_spreadOfRates_0 : decode cX6_spreadOfRates 0 = .ok (.aload_n 0, 1) := by decide +kernel
theorem dX6_spreadOfRates_1 : decode cX6_spreadOfRates 1 = .ok (.iload_n 1, 1) := by decide +kernel
theorem dX6_spreadOfRates_2 : decode cX6_spreadOfRates 2 = .ok (.aload_n 0, 1) := by decide +kernel
theorem dX6_spreadOfRates_3 : decode cX6_spreadOfRates 3 = .ok (.getfield 21, 3) := by decide +kernel
theorem dX6_spreadOfRates_6 : decode cX6_spreadOfRates 6 = .ok (.getfield 58, 3) := by decide +kernel
theorem dX6_spreadOfRates_9 : decode cX6_spreadOfRates 9 = .ok (.invokevirtual 72, 3) := by decide +kernel
theorem dX6_spreadOfRates_12 : decode cX6_spreadOfRates 12 = .ok (.istore_n 3, 1) := by decide +kernel
theorem dX6_spreadOfRates_13 : decode cX6_spreadOfRates 13 = .ok (.iload_n 3, 1) := by decide +kernel
theorem dX6_spreadOfRates_14 : decode cX6_spreadOfRates 14 = .ok (.istore 4, 2) := by decide +kernel
theorem dX6_spreadOfRates_16 : decode cX6_spreadOfRates 16 = .ok (.iload_n 1, 1) := by decide +kernel
theorem dX6_spreadOfRates_17 : decode cX6_spreadOfRates 17 = .ok (.bipush 10, 2) := by decide +kernel
theorem dX6_spreadOfRates_19 : decode cX6_spreadOfRates 19 = .ok (.iadd, 1) := by decide +kernel
theorem dX6_spreadOfRates_20 : decode cX6_spreadOfRates 20 = .ok (.istore 5, 2) := by decide +kernel
theorem dX6_spreadOfRates_22 : decode cX6_spreadOfRates 22 = .ok (.iload 5, 2) := by decide +kernel
theorem dX6_spreadOfRates_24 : decode cX6_spreadOfRates 24 = .ok (.iload_n 2, 1) := by decide +kernel
theorem dX6_spreadOfRates_25 : decode cX6_spreadOfRates 25 = .ok (.if_icmp .gt 40, 3) := by decide +kernel
theorem dX6_spreadOfRates_28 : decode cX6_spreadOfRates 28 = .ok (.aload_n 0, 1) := by decide +kernel
theorem dX6_spreadOfRates_29 : decode cX6_spreadOfRates 29 = .ok (.iload 5, 2) := by decide +kernel
theorem dX6_spreadOfRates_31 : decode cX6_spreadOfRates 31 = .ok (.aload_n 0, 1) := by decide +kernel
theorem dX6_spreadOfRates_32 : decode cX6_spreadOfRates 32 = .ok (.getfield 21, 3) := by decide +kernel
theorem dX6_spreadOfRates_35 : decode cX6_spreadOfRates 35 = .ok (.getfield 58, 3) := by decide +kernel
theorem dX6_spreadOfRates_38 : decode cX6_spreadOfRates 38 = .ok (.invokevirtual 72, 3) := by decide +kernel
theorem dX6_spreadOfRates_41 : decode cX6_spreadOfRates 41 = .ok (.istore 6, 2) := by decide +kernel
theorem dX6_spreadOfRates_43 : decode cX6_spreadOfRates 43 = .ok (.iload_n 3, 1) := by decide +kernel
theorem dX6_spreadOfRates_44 : decode cX6_spreadOfRates 44 = .ok (.iload 6, 2) := by decide +kernel
theorem dX6_spreadOfRates_46 : decode cX6_spreadOfRates 46 = .ok (.invokestatic 140, 3) := by decide +kernel
theorem dX6_spreadOfRates_49 : decode cX6_spreadOfRates 49 = .ok (.istore_n 3, 1) := by decide +kernel
theorem dX6_spreadOfRates_50 : decode cX6_spreadOfRates 50 = .ok (.iload 4, 2) := by decide +kernel
theorem dX6_spreadOfRates_52 : decode cX6_spreadOfRates 52 = .ok (.iload 6, 2) := by decide +kernel
theorem dX6_spreadOfRates_54 : decode cX6_spreadOfRates 54 = .ok (.invokestatic 145, 3) := by decide +kernel
theorem dX6_spreadOfRates_57 : decode cX6_spreadOfRates 57 = .ok (.istore 4, 2) := by decide +kernel
theorem dX6_spreadOfRates_59 : decode cX6_spreadOfRates 59 = .ok (.iinc 5 10, 3) := by decide +kernel
theorem dX6_spreadOfRates_62 : decode cX6_spreadOfRates 62 = .ok (.goto (-40), 3) := by decide +kernel
theorem dX6_spreadOfRates_65 : decode cX6_spreadOfRates 65 = .ok (.iload 4, 2) := by decide +kernel
theorem dX6_spreadOfRates_67 : decode cX6_spreadOfRates 67 = .ok (.iload_n 3, 1) := by decide +kernel
theorem dX6_spreadOfRates_68 : decode cX6_spreadOfRates 68 = .ok (.isub, 1) := by decide +kernel
theorem dX6_spreadOfRates_69 : decode cX6_spreadOfRates 69 = .ok (.ireturn, 1) := by decide +kernel
set_option maxRecDepth 20000 in
theorem ggX6_nearestNut_X4_lengthOfRods : GoodIn wsX6_nearestNut wsX4_lengthOfRods := goodIn_r _ [9, 10, 11, 12, 13, 14, 15, 8, 16, 17, 18, 19, 20, 21, 22, 23, 24, 25, 26, 27, 28, 81, 82, 83, 84, 85, 86] (by decide +kernel) (by decide +kernel)
set_option maxRecDepth 20000 in
theorem gX6_nearestNut_X4_lengthOfRods : GoodIn wsX6_nearestNut (wsV RX6 92 RX4 yX4_lengthOfRods wsX4_lengthOfRods) := goodIn_app (goodIn_of _ (by decide +kernel)) ggX6_nearestNut_X4_lengthOfRods
set_option maxRecDepth 20000 in
theorem ggX6_nearestNut_X6_leastNutWithRateTo : GoodIn wsX6_nearestNut wsX6_leastNutWithRateTo := goodIn_r _ [33, 2, 4, 34, 35, 36, 32, 37, 38, 39, 40, 41, 42, 43, 44, 45, 46, 26, 27, 28, 47, 48, 49, 50, 51, 52, 53, 54, 55, 56, 57, 58, 59, 60, 61, 62, 63, 64, 65, 66, 67, 68, 69, 70, 71, 72, 73, 74, 75, 76, 77, 78, 79, 80] (by decide +kernel) (by decide +kernel)
set_option maxRecDepth 20000 in
theorem gX6_nearestNut_X6_leastNutWithRateTo : GoodIn wsX6_nearestNut (wsV RX6 148 RX6 yX6_leastNutWithRateTo wsX6_leastNutWithRateTo) := goodIn_app (goodIn_of _ (by decide +kernel)) ggX6_nearestNut_X6_leastNutWithRateTo
set_option maxRecDepth 20000 in
theorem ggX6_nearestNut_X6_rateWith : GoodIn wsX6_nearestNut wsX6_rateWith := goodIn_r _ [37, 2, 38, 39, 40, 41, 42, 43, 44, 45, 46, 26, 27, 28, 47, 48, 49, 50, 51, 52, 53, 54, 55, 56, 57, 58, 59, 60, 61, 62, 63, 64, 65, 66, 67, 68, 69, 70, 71, 72, 73, 74, 75, 76, 77, 78, 79, 80] (by decide +kernel) (by decide +kernel)
set_option maxRecDepth 20000 in
theorem gX6_nearestNut_X6_rateWith : GoodIn wsX6_nearestNut (wsV RX6 98 RX6 yX6_rateWith wsX6_rateWith) := goodIn_app (goodIn_of _ (by decide +kernel)) ggX6_nearestNut_X6_rateWith
theorem dX6_nearestNut_0 : decode cX6_nearestNut 0 = .ok (.aload_n 0, 1) := by decide +kernel
theorem dX6_nearestNut_1 : decode cX6_nearestNut 1 = .ok (.getfield 12, 3) := by decide +kernel
theorem dX6_nearestNut_4 : decode cX6_nearestNut 4 = .ok (.aload_n 0, 1) := by decide +kernel
theorem dX6_nearestNut_5 : decode cX6_nearestNut 5 = .ok (.getfield 21, 3) := by decide +kernel
theorem dX6_nearestNut_8 : decode cX6_nearestNut 8 = .ok (.getfield 52, 3) := by decide +kernel
theorem dX6_nearestNut_11 : decode cX6_nearestNut 11 = .ok (.invokevirtual 92, 3) := by decide +kernel
theorem dX6_nearestNut_14 : decode cX6_nearestNut 14 = .ok (.lstore_n 1, 1) := by decide +kernel
theorem dX6_nearestNut_15 : decode cX6_nearestNut 15 = .ok (.aload_n 0, 1) := by decide +kernel
theorem dX6_nearestNut_16 : decode cX6_nearestNut 16 = .ok (.iconst 0, 1) := by decide +kernel
theorem dX6_nearestNut_17 : decode cX6_nearestNut 17 = .ok (.lload_n 1, 1) := by decide +kernel
theorem dX6_nearestNut_18 : decode cX6_nearestNut 18 = .ok (.invokevirtual 148, 3) := by decide +kernel
theorem dX6_nearestNut_21 : decode cX6_nearestNut 21 = .ok (.istore_n 3, 1) := by decide +kernel
theorem dX6_nearestNut_22 : decode cX6_nearestNut 22 = .ok (.iload_n 3, 1) := by decide +kernel
theorem dX6_nearestNut_23 : decode cX6_nearestNut 23 = .ok (.sipush (-500), 3) := by decide +kernel
theorem dX6_nearestNut_26 : decode cX6_nearestNut 26 = .ok (.if_icmp .gt 7, 3) := by decide +kernel
theorem dX6_nearestNut_29 : decode cX6_nearestNut 29 = .ok (.sipush (-500), 3) := by decide +kernel
theorem dX6_nearestNut_32 : decode cX6_nearestNut 32 = .ok (.ireturn, 1) := by decide +kernel
theorem dX6_nearestNut_33 : decode cX6_nearestNut 33 = .ok (.aload_n 0, 1) := by decide +kernel
theorem dX6_nearestNut_34 : decode cX6_nearestNut 34 = .ok (.iload_n 3, 1) := by decide +kernel
theorem dX6_nearestNut_35 : decode cX6_nearestNut 35 = .ok (.iconst 1, 1) := by decide +kernel
theorem dX6_nearestNut_36 : decode cX6_nearestNut 36 = .ok (.isub, 1) := by decide +kernel
theorem dX6_nearestNut_37 : decode cX6_nearestNut 37 = .ok (.lload_n 1, 1) := by decide +kernel
theorem dX6_nearestNut_38 : decode cX6_nearestNut 38 = .ok (.aload_n 0, 1) := by decide +kernel
theorem dX6_nearestNut_39 : decode cX6_nearestNut 39 = .ok (.getfield 21, 3) := by decide +kernel
theorem dX6_nearestNut_42 : decode cX6_nearestNut 42 = .ok (.getfield 58, 3) := by decide +kernel
theorem dX6_nearestNut_45 : decode cX6_nearestNut 45 = .ok (.invokevirtual 98, 3) := by decide +kernel
theorem dX6_nearestNut_48 : decode cX6_nearestNut 48 = .ok (.istore 4, 2) := by decide +kernel
theorem dX6_nearestNut_50 : decode cX6_nearestNut 50 = .ok (.iload_n 3, 1) := by decide +kernel
theorem dX6_nearestNut_51 : decode cX6_nearestNut 51 = .ok (.sipush 500, 3) := by decide +kernel
theorem dX6_nearestNut_54 : decode cX6_nearestNut 54 = .ok (.if_icmp .gt 22, 3) := by decide +kernel
theorem dX6_nearestNut_57 : decode cX6_nearestNut 57 = .ok (.iload 4, 2) := by decide +kernel
theorem dX6_nearestNut_59 : decode cX6_nearestNut 59 = .ok (.aload_n 0, 1) := by decide +kernel
theorem dX6_nearestNut_60 : decode cX6_nearestNut 60 = .ok (.iload_n 3, 1) := by decide +kernel
theorem dX6_nearestNut_61 : decode cX6_nearestNut 61 = .ok (.lload_n 1, 1) := by decide +kernel
theorem dX6_nearestNut_62 : decode cX6_nearestNut 62 = .ok (.aload_n 0, 1) := by decide +kernel
theorem dX6_nearestNut_63 : decode cX6_nearestNut 63 = .ok (.getfield 21, 3) := by decide +kernel
theorem dX6_nearestNut_66 : decode cX6_nearestNut 66 = .ok (.getfield 58, 3) := by decide +kernel
theorem dX6_nearestNut_69 : decode cX6_nearestNut 69 = .ok (.invokevirtual 98, 3) := by decide +kernel
theorem dX6_nearestNut_72 : decode cX6_nearestNut 72 = .ok (.ineg, 1) := by decide +kernel
theorem dX6_nearestNut_73 : decode cX6_nearestNut 73 = .ok (.if_icmp .gt 11, 3) := by decide +kernel
theorem dX6_nearestNut_76 : decode cX6_nearestNut 76 = .ok (.aload_n 0, 1) := by decide +kernel
theorem dX6_nearestNut_77 : decode cX6_nearestNut 77 = .ok (.iload 4, 2) := by decide +kernel
theorem dX6_nearestNut_79 : decode cX6_nearestNut 79 = .ok (.lload_n 1, 1) := by decide +kernel
theorem dX6_nearestNut_80 : decode cX6_nearestNut 80 = .ok (.invokevirtual 148, 3) := by decide +kernel
theorem dX6_nearestNut_83 : decode cX6_nearestNut 83 = .ok (.ireturn, 1) := by decide +kernel
theorem dX6_nearestNut_84 : decode cX6_nearestNut 84 = .ok (.iload_n 3, 1) := by decide +kernel
theorem dX6_nearestNut_85 : decode cX6_nearestNut 85 = .ok (.ireturn, 1) := by decide +kernel
set_option maxRecDepth 20000 in
theorem ggX6_leastNutWithRateTo_X6_rateWith : GoodIn wsX6_leastNutWithRateTo wsX6_rateWith := goodIn_r _ [7, 1, 8, 9, 10, 11, 12, 13, 14, 15, 16, 17, 18, 19, 20, 21, 22, 23, 24, 25, 26, 27, 28, 29, 30, 31, 32, 33, 34, 35, 36, 37, 38, 39, 40, 41, 42, 43, 44, 45, 46, 47, 48, 49, 50, 51, 52, 53] (by decide +kernel) (by decide +kernel)
set_option maxRecDepth 20000 in
theorem gX6_leastNutWithRateTo_X6_rateWith : GoodIn wsX6_leastNutWithRateTo (wsV RX6 98 RX6 yX6_rateWith wsX6_rateWith) := goodIn_app (goodIn_of _ (by decide +kernel)) ggX6_leastNutWithRateTo_X6_rateWith
theorem dX6_leastNutWithRateTo_0 : decode cX6_leastNutWithRateTo 0 = .ok (.sipush (-501), 3) := by decide +kernel
theorem dX6_leastNutWithRateTo_3 : decode cX6_leastNutWithRateTo 3 = .ok (.istore 4, 2) := by decide +kernel
theorem dX6_leastNutWithRateTo_5 : decode cX6_leastNutWithRateTo 5 = .ok (.sipush 512, 3) := by decide +kernel
theorem dX6_leastNutWithRateTo_8 : decode cX6_leastNutWithRateTo 8 = .ok (.istore 5, 2) := by decide +kernel
theorem dX6_leastNutWithRateTo_10 : decode cX6_leastNutWithRateTo 10 = .ok (.iload 5, 2) := by decide +kernel
theorem dX6_leastNutWithRateTo_12 : decode cX6_leastNutWithRateTo 12 = .ok (.ifCond .le 49, 3) := by decide +kernel
theorem dX6_leastNutWithRateTo_15 : decode cX6_leastNutWithRateTo 15 = .ok (.iload 4, 2) := by decide +kernel
theorem dX6_leastNutWithRateTo_17 : decode cX6_leastNutWithRateTo 17 = .ok (.iload 5, 2) := by decide +kernel
theorem dX6_leastNutWithRateTo_19 : decode cX6_leastNutWithRateTo 19 = .ok (.iadd, 1) := by decide +kernel
theorem dX6_leastNutWithRateTo_20 : decode cX6_leastNutWithRateTo 20 = .ok (.istore 6, 2) := by decide +kernel
theorem dX6_leastNutWithRateTo_22 : decode cX6_leastNutWithRateTo 22 = .ok (.iload 6, 2) := by decide +kernel
theorem dX6_leastNutWithRateTo_24 : decode cX6_leastNutWithRateTo 24 = .ok (.sipush 500, 3) := by decide +kernel
theorem dX6_leastNutWithRateTo_27 : decode cX6_leastNutWithRateTo 27 = .ok (.if_icmp .gt 25, 3) := by decide +kernel
theorem dX6_leastNutWithRateTo_30 : decode cX6_leastNutWithRateTo 30 = .ok (.aload_n 0, 1) := by decide +kernel
theorem dX6_leastNutWithRateTo_31 : decode cX6_leastNutWithRateTo 31 = .ok (.iload 6, 2) := by decide +kernel
theorem dX6_leastNutWithRateTo_33 : decode cX6_leastNutWithRateTo 33 = .ok (.lload_n 2, 1) := by decide +kernel
theorem dX6_leastNutWithRateTo_34 : decode cX6_leastNutWithRateTo 34 = .ok (.aload_n 0, 1) := by decide +kernel
theorem dX6_leastNutWithRateTo_35 : decode cX6_leastNutWithRateTo 35 = .ok (.getfield 21, 3) := by decide +kernel
theorem dX6_leastNutWithRateTo_38 : decode cX6_leastNutWithRateTo 38 = .ok (.getfield 58, 3) := by decide +kernel
theorem dX6_leastNutWithRateTo_41 : decode cX6_leastNutWithRateTo 41 = .ok (.invokevirtual 98, 3) := by decide +kernel
theorem dX6_leastNutWithRateTo_44 : decode cX6_leastNutWithRateTo 44 = .ok (.iload_n 1, 1) := by decide +kernel
theorem dX6_leastNutWithRateTo_45 : decode cX6_leastNutWithRateTo 45 = .ok (.if_icmp .le 7, 3) := by decide +kernel
theorem dX6_leastNutWithRateTo_48 : decode cX6_leastNutWithRateTo 48 = .ok (.iload 6, 2) := by decide +kernel
theorem dX6_leastNutWithRateTo_50 : decode cX6_leastNutWithRateTo 50 = .ok (.istore 4, 2) := by decide +kernel
theorem dX6_leastNutWithRateTo_52 : decode cX6_leastNutWithRateTo 52 = .ok (.iload 5, 2) := by decide +kernel
theorem dX6_leastNutWithRateTo_54 : decode cX6_leastNutWithRateTo 54 = .ok (.iconst 2, 1) := by decide +kernel
theorem dX6_leastNutWithRateTo_55 : decode cX6_leastNutWithRateTo 55 = .ok (.idiv, 1) := by decide +kernel
theorem dX6_leastNutWithRateTo_56 : decode cX6_leastNutWithRateTo 56 = .ok (.istore 5, 2) := by decide +kernel
theorem dX6_leastNutWithRateTo_58 : decode cX6_leastNutWithRateTo 58 = .ok (.goto (-48), 3) := by decide +kernel
theorem dX6_leastNutWithRateTo_61 : decode cX6_leastNutWithRateTo 61 = .ok (.iload 4, 2) := by decide +kernel
theorem dX6_leastNutWithRateTo_63 : decode cX6_leastNutWithRateTo 63 = .ok (.iconst 1, 1) := by decide +kernel
theorem dX6_leastNutWithRateTo_64 : decode cX6_leastNutWithRateTo 64 = .ok (.iadd, 1) := by decide +kernel
theorem dX6_leastNutWithRateTo_65 : decode cX6_leastNutWithRateTo 65 = .ok (.ireturn, 1) := by decide +kernel
set_option maxRecDepth 20000 in
theorem ggX8_init_X6_init : GoodIn wsX8_init wsX6_init := goodIn_r _ [17, 18, 2, 3, 19, 20, 21, 22, 23, 24, 25, 26, 27, 28, 29, 30, 31, 32, 33, 34, 35, 36, 37, 38, 39, 40, 41, 42, 43, 44, 45, 46, 47, 48, 49, 50, 51, 52, 53, 54, 82, 83, 84, 85, 86, 87, 66, 67, 68, 88, 89, 90, 91, 92, 93, 94, 95, 96, 97, 98, 99, 100, 101] (by decide +kernel) (by decide +kernel)
set_option maxRecDepth 20000 in
theorem gX8_init_X6_init_n9 : GoodIn wsX8_init (wsX6_init) := ggX8_init_X6_init
set_option maxRecDepth 20000 in
theorem ggX8_init_X5_init : GoodIn wsX8_init wsX5_init := goodIn_r _ [57, 58, 2, 3, 59, 60, 5, 6, 16, 17, 18, 19, 20, 21, 22, 23, 24, 25, 26, 27, 28, 29, 30, 31, 32, 33, 34, 35, 36, 37, 38, 39, 40, 41, 42, 43, 44, 45, 46, 47, 48, 49, 50, 51, 52, 53, 54, 72, 73, 74, 66, 67, 68, 82, 83, 84, 85, 86, 87, 88, 89, 90, 91, 92, 93, 94, 95, 96, 97, 98, 99, 100, 101] (by decide +kernel) (by decide +kernel)
set_option maxRecDepth 20000 in
theorem gX8_init_X5_init : GoodIn wsX8_init (wsX5_init) := ggX8_init_X5_init
set_option maxRecDepth 20000 in
theorem ggX8_init_X2_init : GoodIn wsX8_init wsX2_init := goodIn_r _ [62, 63, 2, 3, 64, 65, 75, 76, 77, 78, 79, 80, 81] (by decide +kernel) (by decide +kernel)
set_option maxRecDepth 20000 in
theorem gX8_init_X2_init_n25 : GoodIn wsX8_init (wsX2_init) := ggX8_init_X2_init
theorem dX8_init_0 : decode cX8_init 0 = .ok (.aload_n 0, 1) := by decide +kernel
theorem dX8_init_1 : decode cX8_init 1 = .ok (.invokespecial 1, 3) := by decide +kernel
theorem dX8_init_4 : decode cX8_init 4 = .ok (.aload_n 0, 1) := by decide +kernel
theorem dX8_init_5 : decode cX8_init 5 = .ok (.new 7, 3) := by decide +kernel
theorem dX8_init_8 : decode cX8_init 8 = .ok (.dup, 1) := by decide +kernel
theorem dX8_init_9 : decode cX8_init 9 = .ok (.invokespecial 9, 3) := by decide +kernel
theorem dX8_init_12 : decode cX8_init 12 = .ok (.putfield 10, 3) := by decide +kernel
theorem dX8_init_15 : decode cX8_init 15 = .ok (.aload_n 0, 1) := by decide +kernel
theorem dX8_init_16 : decode cX8_init 16 = .ok (.new 16, 3) := by decide +kernel
theorem dX8_init_19 : decode cX8_init 19 = .ok (.dup, 1) := by decide +kernel
theorem dX8_init_20 : decode cX8_init 20 = .ok (.invokespecial 18, 3) := by decide +kernel
theorem dX8_init_23 : decode cX8_init 23 = .ok (.putfield 19, 3) := by decide +kernel
theorem dX8_init_26 : decode cX8_init 26 = .ok (.aload_n 0, 1) := by decide +kernel
theorem dX8_init_27 : decode cX8_init 27 = .ok (.new 23, 3) := by decide +kernel
theorem dX8_init_30 : decode cX8_init 30 = .ok (.dup, 1) := by decide +kernel
theorem dX8_init_31 : decode cX8_init 31 = .ok (.invokespecial 25, 3) := by decide +kernel
theorem dX8_init_34 : decode cX8_init 34 = .ok (.putfield 26, 3) := by decide +kernel
theorem dX8_init_37 : decode cX8_init 37 = .ok (.return_, 1) := by decide +kernel
set_option maxRecDepth 20000 in
theorem ggX8_addMetal_X4_checkNewMetal : GoodIn wsX8_addMetal wsX4_checkNewMetal := goodIn_r _ [8, 9, 10, 11, 12, 91, 92, 93, 94, 95, 96] (by decide +kernel) (by decide +kernel)
set_option maxRecDepth 20000 in
theorem gX8_addMetal_X4_checkNewMetal : GoodIn wsX8_addMetal (wsV RX8 34 RX4 yX4_checkNewMetal wsX4_checkNewMetal) := goodIn_app (goodIn_of _ (by decide +kernel)) ggX8_addMetal_X4_checkNewMetal
set_option maxRecDepth 20000 in
theorem ggX8_addMetal_X8_refuse : GoodIn wsX8_addMetal wsX8_refuse := goodIn_ca (goodIn_ca (goodIn_ca (goodIn_r _ [15, 16, 17, 18, 19, 20, 21] (by decide +kernel) (by decide +kernel)) (goodIn_sub (fun _ h => List.mem_cons_of_mem _ (List.mem_append_left _ (List.mem_append_left _ (List.mem_append_right _ h)))) (by decide +kernel))) (goodIn_sub (fun _ h => List.mem_cons_of_mem _ (List.mem_append_left _ (List.mem_append_right _ h))) (by decide +kernel))) (goodIn_sub (fun _ h => List.mem_cons_of_mem _ (List.mem_append_right _ h)) (by decide +kernel))
set_option maxRecDepth 20000 in
theorem gX8_addMetal_X8_refuse : GoodIn wsX8_addMetal (va_wsS RX8 40 yX8_refuse wsX8_refuse) := goodIn_app (goodIn_of _ (by decide +kernel)) ggX8_addMetal_X8_refuse
set_option maxRecDepth 20000 in
theorem ggX8_addMetal_X5_push : GoodIn wsX8_addMetal wsX5_push := goodIn_r _ [26, 27, 28, 29, 30, 31, 32, 33, 34, 35, 36, 37, 38, 39, 40, 41, 42, 43, 44, 7, 45, 9, 46, 47, 48, 49, 50, 51, 52, 53, 54, 55, 56, 57, 58, 59, 60, 61, 62, 63, 64, 65, 66, 67, 68, 69, 70, 71, 72, 73, 74, 75, 76, 77, 78, 79, 80, 97, 98, 99, 88, 89, 90, 91, 92, 93, 94, 95, 96, 100, 101, 102, 103, 104, 105, 106, 107, 108, 109, 110, 111, 112, 113] (by decide +kernel) (by decide +kernel)
set_option maxRecDepth 20000 in
theorem gX8_addMetal_X5_push : GoodIn wsX8_addMetal (wsV RX8 44 RX5 yX5_push wsX5_push) := goodIn_app (goodIn_of _ (by decide +kernel)) ggX8_addMetal_X5_push
set_option maxRecDepth 20000 in
theorem ggX8_addMetal_X4_appendMetal : GoodIn wsX8_addMetal wsX4_appendMetal := goodIn_r _ [84, 46, 9, 91, 92, 93, 94, 95, 96] (by decide +kernel) (by decide +kernel)
set_option maxRecDepth 20000 in
theorem gX8_addMetal_X4_appendMetal : GoodIn wsX8_addMetal (wsV RX8 48 RX4 yX4_appendMetal wsX4_appendMetal) := goodIn_app (goodIn_of _ (by decide +kernel)) ggX8_addMetal_X4_appendMetal
theorem dX8_addMetal_0 : decode cX8_addMetal 0 = .ok (.aload_n 0, 1) := by decide +kernel
theorem dX8_addMetal_1 : decode cX8_addMetal 1 = .ok (.getfield 10, 3) := by decide +kernel
theorem dX8_addMetal_4 : decode cX8_addMetal 4 = .ok (.getfield 30, 3) := by decide +kernel
theorem dX8_addMetal_7 : decode cX8_addMetal 7 = .ok (.iload_n 1, 1) := by decide +kernel
theorem dX8_addMetal_8 : decode cX8_addMetal 8 = .ok (.invokevirtual 34, 3) := by decide +kernel
theorem dX8_addMetal_11 : decode cX8_addMetal 11 = .ok (.invokestatic 40, 3) := by decide +kernel
theorem dX8_addMetal_14 : decode cX8_addMetal 14 = .ok (.aload_n 0, 1) := by decide +kernel
theorem dX8_addMetal_15 : decode cX8_addMetal 15 = .ok (.getfield 19, 3) := by decide +kernel
theorem dX8_addMetal_18 : decode cX8_addMetal 18 = .ok (.aload_n 0, 1) := by decide +kernel
theorem dX8_addMetal_19 : decode cX8_addMetal 19 = .ok (.getfield 10, 3) := by decide +kernel
theorem dX8_addMetal_22 : decode cX8_addMetal 22 = .ok (.invokevirtual 44, 3) := by decide +kernel
theorem dX8_addMetal_25 : decode cX8_addMetal 25 = .ok (.aload_n 0, 1) := by decide +kernel
theorem dX8_addMetal_26 : decode cX8_addMetal 26 = .ok (.getfield 10, 3) := by decide +kernel
theorem dX8_addMetal_29 : decode cX8_addMetal 29 = .ok (.getfield 30, 3) := by decide +kernel
theorem dX8_addMetal_32 : decode cX8_addMetal 32 = .ok (.iload_n 1, 1) := by decide +kernel
theorem dX8_addMetal_33 : decode cX8_addMetal 33 = .ok (.invokevirtual 48, 3) := by decide +kernel
theorem dX8_addMetal_36 : decode cX8_addMetal 36 = .ok (.ireturn, 1) := by decide +kernel
set_option maxRecDepth 20000 in
theorem ggX8_setStretch_X4_checkStretch : GoodIn wsX8_setStretch wsX4_checkStretch := goodIn_r _ [8, 9, 10, 11, 7, 12, 13, 14, 15, 16, 95, 96, 97, 98, 99, 100] (by decide +kernel) (by decide +kernel)
set_option maxRecDepth 20000 in
theorem gX8_setStretch_X4_checkStretch : GoodIn wsX8_setStretch (wsV RX8 51 RX4 yX4_checkStretch wsX4_checkStretch) := goodIn_app (goodIn_of _ (by decide +kernel)) ggX8_setStretch_X4_checkStretch
set_option maxRecDepth 20000 in
theorem ggX8_setStretch_X8_refuse : GoodIn wsX8_setStretch wsX8_refuse := goodIn_ca (goodIn_ca (goodIn_ca (goodIn_r _ [19, 20, 21, 22, 23, 24, 25] (by decide +kernel) (by decide +kernel)) (goodIn_sub (fun _ h => List.mem_cons_of_mem _ (List.mem_append_left _ (List.mem_append_left _ (List.mem_append_right _ h)))) (by decide +kernel))) (goodIn_sub (fun _ h => List.mem_cons_of_mem _ (List.mem_append_left _ (List.mem_append_right _ h))) (by decide +kernel))) (goodIn_sub (fun _ h => List.mem_cons_of_mem _ (List.mem_append_right _ h)) (by decide +kernel))
set_option maxRecDepth 20000 in
theorem gX8_setStretch_X8_refuse : GoodIn wsX8_setStretch (va_wsS RX8 40 yX8_refuse wsX8_refuse) := goodIn_app (goodIn_of _ (by decide +kernel)) ggX8_setStretch_X8_refuse
set_option maxRecDepth 20000 in
theorem ggX8_setStretch_X5_push : GoodIn wsX8_setStretch wsX5_push := goodIn_r _ [30, 31, 32, 33, 34, 35, 36, 37, 38, 39, 40, 41, 42, 43, 44, 45, 46, 47, 48, 7, 49, 13, 50, 51, 52, 53, 54, 55, 56, 57, 58, 59, 60, 61, 62, 63, 64, 65, 66, 67, 68, 69, 70, 71, 72, 73, 74, 75, 76, 77, 78, 79, 80, 81, 82, 83, 84, 101, 102, 103, 92, 93, 94, 95, 96, 97, 98, 99, 100, 104, 105, 106, 107, 108, 109, 110, 111, 112, 113, 114, 115, 116, 117] (by decide +kernel) (by decide +kernel)
set_option maxRecDepth 20000 in
theorem gX8_setStretch_X5_push : GoodIn wsX8_setStretch (wsV RX8 44 RX5 yX5_push wsX5_push) := goodIn_app (goodIn_of _ (by decide +kernel)) ggX8_setStretch_X5_push
set_option maxRecDepth 20000 in
theorem ggX8_setStretch_X4_changeStretch : GoodIn wsX8_setStretch wsX4_changeStretch := goodIn_r _ [88, 50, 95, 96, 97, 98, 99, 100] (by decide +kernel) (by decide +kernel)
set_option maxRecDepth 20000 in
theorem gX8_setStretch_X4_changeStretch : GoodIn wsX8_setStretch (wsV RX8 55 RX4 yX4_changeStretch wsX4_changeStretch) := goodIn_app (goodIn_of _ (by decide +kernel)) ggX8_setStretch_X4_changeStretch
theorem dX8_setStretch_0 : decode cX8_setStretch 0 = .ok (.aload_n 0, 1) := by decide +kernel
theorem dX8_setStretch_1 : decode cX8_setStretch 1 = .ok (.getfield 10, 3) := by decide +kernel
theorem dX8_setStretch_4 : decode cX8_setStretch 4 = .ok (.getfield 30, 3) := by decide +kernel
theorem dX8_setStretch_7 : decode cX8_setStretch 7 = .ok (.iload_n 1, 1) := by decide +kernel
theorem dX8_setStretch_8 : decode cX8_setStretch 8 = .ok (.iload_n 2, 1) := by decide +kernel
theorem dX8_setStretch_9 : decode cX8_setStretch 9 = .ok (.invokevirtual 51, 3) := by decide +kernel
theorem dX8_setStretch_12 : decode cX8_setStretch 12 = .ok (.invokestatic 40, 3) := by decide +kernel
theorem dX8_setStretch_15 : decode cX8_setStretch 15 = .ok (.aload_n 0, 1) := by decide +kernel
theorem dX8_setStretch_16 : decode cX8_setStretch 16 = .ok (.getfield 19, 3) := by decide +kernel
theorem dX8_setStretch_19 : decode cX8_setStretch 19 = .ok (.aload_n 0, 1) := by decide +kernel
theorem dX8_setStretch_20 : decode cX8_setStretch 20 = .ok (.getfield 10, 3) := by decide +kernel
theorem dX8_setStretch_23 : decode cX8_setStretch 23 = .ok (.invokevirtual 44, 3) := by decide +kernel
theorem dX8_setStretch_26 : decode cX8_setStretch 26 = .ok (.aload_n 0, 1) := by decide +kernel
theorem dX8_setStretch_27 : decode cX8_setStretch 27 = .ok (.getfield 10, 3) := by decide +kernel
theorem dX8_setStretch_30 : decode cX8_setStretch 30 = .ok (.getfield 30, 3) := by decide +kernel
theorem dX8_setStretch_33 : decode cX8_setStretch 33 = .ok (.iload_n 1, 1) := by decide +kernel
theorem dX8_setStretch_34 : decode cX8_setStretch 34 = .ok (.iload_n 2, 1) := by decide +kernel
theorem dX8_setStretch_35 : decode cX8_setStretch 35 = .ok (.invokevirtual 55, 3) := by decide +kernel
theorem dX8_setStretch_38 : decode cX8_setStretch 38 = .ok (.ireturn, 1) := by decide +kernel
set_option maxRecDepth 20000 in
theorem ggX8_addRod_X4_checkNewRod : GoodIn wsX8_addRod wsX4_checkNewRod := goodIn_r _ [8, 9, 10, 11, 12, 13, 7, 14, 15, 16, 17, 18, 96, 97, 98, 99, 100, 101] (by decide +kernel) (by decide +kernel)
set_option maxRecDepth 20000 in
theorem gX8_addRod_X4_checkNewRod : GoodIn wsX8_addRod (wsV RX8 58 RX4 yX4_checkNewRod wsX4_checkNewRod) := goodIn_app (goodIn_of _ (by decide +kernel)) ggX8_addRod_X4_checkNewRod
set_option maxRecDepth 20000 in
theorem ggX8_addRod_X8_refuse : GoodIn wsX8_addRod wsX8_refuse := goodIn_ca (goodIn_ca (goodIn_ca (goodIn_r _ [21, 22, 23, 24, 25, 26, 27] (by decide +kernel) (by decide +kernel)) (goodIn_sub (fun _ h => List.mem_cons_of_mem _ (List.mem_append_left _ (List.mem_append_left _ (List.mem_append_right _ h)))) (by decide +kernel))) (goodIn_sub (fun _ h => List.mem_cons_of_mem _ (List.mem_append_left _ (List.mem_append_right _ h))) (by decide +kernel))) (goodIn_sub (fun _ h => List.mem_cons_of_mem _ (List.mem_append_right _ h)) (by decide +kernel))
set_option maxRecDepth 20000 in
theorem gX8_addRod_X8_refuse : GoodIn wsX8_addRod (va_wsS RX8 40 yX8_refuse wsX8_refuse) := goodIn_app (goodIn_of _ (by decide +kernel)) ggX8_addRod_X8_refuse
set_option maxRecDepth 20000 in
theorem ggX8_addRod_X5_push : GoodIn wsX8_addRod wsX5_push := goodIn_r _ [32, 33, 34, 35, 36, 37, 38, 39, 40, 41, 42, 43, 44, 45, 46, 47, 48, 49, 50, 7, 51, 15, 52, 53, 54, 55, 56, 10, 57, 58, 59, 60, 61, 62, 63, 64, 65, 66, 67, 68, 69, 70, 71, 72, 73, 74, 75, 76, 77, 78, 79, 80, 81, 82, 83, 84, 85, 102, 103, 104, 93, 94, 95, 96, 97, 98, 99, 100, 101, 105, 106, 107, 108, 109, 110, 111, 112, 113, 114, 115, 116, 117, 118] (by decide +kernel) (by decide +kernel)
set_option maxRecDepth 20000 in
theorem gX8_addRod_X5_push : GoodIn wsX8_addRod (wsV RX8 44 RX5 yX5_push wsX5_push) := goodIn_app (goodIn_of _ (by decide +kernel)) ggX8_addRod_X5_push
set_option maxRecDepth 20000 in
theorem ggX8_addRod_X4_appendRod : GoodIn wsX8_addRod wsX4_appendRod := goodIn_r _ [89, 57, 10, 58, 59, 96, 97, 98, 99, 100, 101] (by decide +kernel) (by decide +kernel)
set_option maxRecDepth 20000 in
theorem gX8_addRod_X4_appendRod : GoodIn wsX8_addRod (wsV RX8 62 RX4 yX4_appendRod wsX4_appendRod) := goodIn_app (goodIn_of _ (by decide +kernel)) ggX8_addRod_X4_appendRod
theorem dX8_addRod_0 : decode cX8_addRod 0 = .ok (.aload_n 0, 1) := by decide +kernel
theorem dX8_addRod_1 : decode cX8_addRod 1 = .ok (.getfield 10, 3) := by decide +kernel
theorem dX8_addRod_4 : decode cX8_addRod 4 = .ok (.getfield 30, 3) := by decide +kernel
theorem dX8_addRod_7 : decode cX8_addRod 7 = .ok (.iload_n 1, 1) := by decide +kernel
theorem dX8_addRod_8 : decode cX8_addRod 8 = .ok (.iload_n 2, 1) := by decide +kernel
theorem dX8_addRod_9 : decode cX8_addRod 9 = .ok (.iload_n 3, 1) := by decide +kernel
theorem dX8_addRod_10 : decode cX8_addRod 10 = .ok (.invokevirtual 58, 3) := by decide +kernel
theorem dX8_addRod_13 : decode cX8_addRod 13 = .ok (.invokestatic 40, 3) := by decide +kernel
theorem dX8_addRod_16 : decode cX8_addRod 16 = .ok (.aload_n 0, 1) := by decide +kernel
theorem dX8_addRod_17 : decode cX8_addRod 17 = .ok (.getfield 19, 3) := by decide +kernel
theorem dX8_addRod_20 : decode cX8_addRod 20 = .ok (.aload_n 0, 1) := by decide +kernel
theorem dX8_addRod_21 : decode cX8_addRod 21 = .ok (.getfield 10, 3) := by decide +kernel
theorem dX8_addRod_24 : decode cX8_addRod 24 = .ok (.invokevirtual 44, 3) := by decide +kernel
theorem dX8_addRod_27 : decode cX8_addRod 27 = .ok (.aload_n 0, 1) := by decide +kernel
theorem dX8_addRod_28 : decode cX8_addRod 28 = .ok (.getfield 10, 3) := by decide +kernel
theorem dX8_addRod_31 : decode cX8_addRod 31 = .ok (.getfield 30, 3) := by decide +kernel
theorem dX8_addRod_34 : decode cX8_addRod 34 = .ok (.iload_n 1, 1) := by decide +kernel
theorem dX8_addRod_35 : decode cX8_addRod 35 = .ok (.iload_n 2, 1) := by decide +kernel
theorem dX8_addRod_36 : decode cX8_addRod 36 = .ok (.iload_n 3, 1) := by decide +kernel
theorem dX8_addRod_37 : decode cX8_addRod 37 = .ok (.invokevirtual 62, 3) := by decide +kernel
theorem dX8_addRod_40 : decode cX8_addRod 40 = .ok (.ireturn, 1) := by decide +kernel
set_option maxRecDepth 20000 in
theorem ggX8_removeRod_X4_checkRod : GoodIn wsX8_removeRod wsX4_checkRod := goodIn_r _ [8, 9, 10, 11, 7, 12, 13, 14, 15, 16, 95, 96, 97, 98, 99, 100] (by decide +kernel) (by decide +kernel)
set_option maxRecDepth 20000 in
theorem gX8_removeRod_X4_checkRod : GoodIn wsX8_removeRod (wsV RX8 65 RX4 yX4_checkRod wsX4_checkRod) := goodIn_app (goodIn_of _ (by decide +kernel)) ggX8_removeRod_X4_checkRod
set_option maxRecDepth 20000 in
theorem ggX8_removeRod_X8_refuse : GoodIn wsX8_removeRod wsX8_refuse := goodIn_ca (goodIn_ca (goodIn_ca (goodIn_r _ [19, 20, 21, 22, 23, 24, 25] (by decide +kernel) (by decide +kernel)) (goodIn_sub (fun _ h => List.mem_cons_of_mem _ (List.mem_append_left _ (List.mem_append_left _ (List.mem_append_right _ h)))) (by decide +kernel))) (goodIn_sub (fun _ h => List.mem_cons_of_mem _ (List.mem_append_left _ (List.mem_append_right _ h))) (by decide +kernel))) (goodIn_sub (fun _ h => List.mem_cons_of_mem _ (List.mem_append_right _ h)) (by decide +kernel))
set_option maxRecDepth 20000 in
theorem gX8_removeRod_X8_refuse : GoodIn wsX8_removeRod (va_wsS RX8 40 yX8_refuse wsX8_refuse) := goodIn_app (goodIn_of _ (by decide +kernel)) ggX8_removeRod_X8_refuse
set_option maxRecDepth 20000 in
theorem ggX8_removeRod_X5_push : GoodIn wsX8_removeRod wsX5_push := goodIn_r _ [30, 31, 32, 33, 34, 35, 36, 37, 38, 39, 40, 41, 42, 43, 44, 45, 46, 47, 48, 7, 49, 50, 51, 52, 53, 54, 55, 13, 56, 57, 58, 59, 60, 61, 62, 63, 64, 65, 66, 67, 68, 69, 70, 71, 72, 73, 74, 75, 76, 77, 78, 79, 80, 81, 82, 83, 84, 101, 102, 103, 92, 93, 94, 95, 96, 97, 98, 99, 100, 104, 105, 106, 107, 108, 109, 110, 111, 112, 113, 114, 115, 116, 117] (by decide +kernel) (by decide +kernel)
set_option maxRecDepth 20000 in
theorem gX8_removeRod_X5_push : GoodIn wsX8_removeRod (wsV RX8 44 RX5 yX5_push wsX5_push) := goodIn_app (goodIn_of _ (by decide +kernel)) ggX8_removeRod_X5_push
set_option maxRecDepth 20000 in
theorem ggX8_removeRod_X4_dropRod : GoodIn wsX8_removeRod wsX4_dropRod := goodIn_r _ [88, 13, 56, 57, 58, 95, 96, 97, 98, 99, 100] (by decide +kernel) (by decide +kernel)
set_option maxRecDepth 20000 in
theorem gX8_removeRod_X4_dropRod : GoodIn wsX8_removeRod (wsV RX8 68 RX4 yX4_dropRod wsX4_dropRod) := goodIn_app (goodIn_of _ (by decide +kernel)) ggX8_removeRod_X4_dropRod
theorem dX8_removeRod_0 : decode cX8_removeRod 0 = .ok (.aload_n 0, 1) := by decide +kernel
theorem dX8_removeRod_1 : decode cX8_removeRod 1 = .ok (.getfield 10, 3) := by decide +kernel
theorem dX8_removeRod_4 : decode cX8_removeRod 4 = .ok (.getfield 30, 3) := by decide +kernel
theorem dX8_removeRod_7 : decode cX8_removeRod 7 = .ok (.iload_n 1, 1) := by decide +kernel
theorem dX8_removeRod_8 : decode cX8_removeRod 8 = .ok (.invokevirtual 65, 3) := by decide +kernel
theorem dX8_removeRod_11 : decode cX8_removeRod 11 = .ok (.invokestatic 40, 3) := by decide +kernel
theorem dX8_removeRod_14 : decode cX8_removeRod 14 = .ok (.aload_n 0, 1) := by decide +kernel
theorem dX8_removeRod_15 : decode cX8_removeRod 15 = .ok (.getfield 19, 3) := by decide +kernel
theorem dX8_removeRod_18 : decode cX8_removeRod 18 = .ok (.aload_n 0, 1) := by decide +kernel
theorem dX8_removeRod_19 : decode cX8_removeRod 19 = .ok (.getfield 10, 3) := by decide +kernel
theorem dX8_removeRod_22 : decode cX8_removeRod 22 = .ok (.invokevirtual 44, 3) := by decide +kernel
theorem dX8_removeRod_25 : decode cX8_removeRod 25 = .ok (.aload_n 0, 1) := by decide +kernel
theorem dX8_removeRod_26 : decode cX8_removeRod 26 = .ok (.getfield 10, 3) := by decide +kernel
theorem dX8_removeRod_29 : decode cX8_removeRod 29 = .ok (.getfield 30, 3) := by decide +kernel
theorem dX8_removeRod_32 : decode cX8_removeRod 32 = .ok (.iload_n 1, 1) := by decide +kernel
theorem dX8_removeRod_33 : decode cX8_removeRod 33 = .ok (.invokevirtual 68, 3) := by decide +kernel
theorem dX8_removeRod_36 : decode cX8_removeRod 36 = .ok (.ireturn, 1) := by decide +kernel
set_option maxRecDepth 20000 in
theorem ggX8_setLength_X4_checkLength : GoodIn wsX8_setLength wsX4_checkLength := goodIn_r _ [8, 9, 10, 11, 12, 7, 13, 14, 15, 16, 17, 96, 97, 98, 99, 100, 101] (by decide +kernel) (by decide +kernel)
set_option maxRecDepth 20000 in
theorem gX8_setLength_X4_checkLength : GoodIn wsX8_setLength (wsV RX8 71 RX4 yX4_checkLength wsX4_checkLength) := goodIn_app (goodIn_of _ (by decide +kernel)) ggX8_setLength_X4_checkLength
set_option maxRecDepth 20000 in
theorem ggX8_setLength_X8_refuse : GoodIn wsX8_setLength wsX8_refuse := goodIn_ca (goodIn_ca (goodIn_ca (goodIn_r _ [20, 21, 22, 23, 24, 25, 26] (by decide +kernel) (by decide +kernel)) (goodIn_sub (fun _ h => List.mem_cons_of_mem _ (List.mem_append_left _ (List.mem_append_left _ (List.mem_append_right _ h)))) (by decide +kernel))) (goodIn_sub (fun _ h => List.mem_cons_of_mem _ (List.mem_append_left _ (List.mem_append_right _ h))) (by decide +kernel))) (goodIn_sub (fun _ h => List.mem_cons_of_mem _ (List.mem_append_right _ h)) (by decide +kernel))
set_option maxRecDepth 20000 in
theorem gX8_setLength_X8_refuse : GoodIn wsX8_setLength (va_wsS RX8 40 yX8_refuse wsX8_refuse) := goodIn_app (goodIn_of _ (by decide +kernel)) ggX8_setLength_X8_refuse
set_option maxRecDepth 20000 in
theorem ggX8_setLength_X5_push : GoodIn wsX8_setLength wsX5_push := goodIn_r _ [31, 32, 33, 34, 35, 36, 37, 38, 39, 40, 41, 42, 43, 44, 45, 46, 47, 48, 49, 7, 50, 51, 52, 53, 54, 55, 56, 14, 57, 58, 59, 60, 61, 62, 63, 64, 65, 66, 67, 68, 69, 70, 71, 72, 73, 74, 75, 76, 77, 78, 79, 80, 81, 82, 83, 84, 85, 102, 103, 104, 93, 94, 95, 96, 97, 98, 99, 100, 101, 105, 106, 107, 108, 109, 110, 111, 112, 113, 114, 115, 116, 117, 118] (by decide +kernel) (by decide +kernel)
set_option maxRecDepth 20000 in
theorem gX8_setLength_X5_push : GoodIn wsX8_setLength (wsV RX8 44 RX5 yX5_push wsX5_push) := goodIn_app (goodIn_of _ (by decide +kernel)) ggX8_setLength_X5_push
set_option maxRecDepth 20000 in
theorem ggX8_setLength_X4_changeLength : GoodIn wsX8_setLength wsX4_changeLength := goodIn_r _ [89, 59, 96, 97, 98, 99, 100, 101] (by decide +kernel) (by decide +kernel)
set_option maxRecDepth 20000 in
theorem gX8_setLength_X4_changeLength : GoodIn wsX8_setLength (wsV RX8 74 RX4 yX4_changeLength wsX4_changeLength) := goodIn_app (goodIn_of _ (by decide +kernel)) ggX8_setLength_X4_changeLength
theorem dX8_setLength_0 : decode cX8_setLength 0 = .ok (.aload_n 0, 1) := by decide +kernel
theorem dX8_setLength_1 : decode cX8_setLength 1 = .ok (.getfield 10, 3) := by decide +kernel
theorem dX8_setLength_4 : decode cX8_setLength 4 = .ok (.getfield 30, 3) := by decide +kernel
theorem dX8_setLength_7 : decode cX8_setLength 7 = .ok (.iload_n 1, 1) := by decide +kernel
theorem dX8_setLength_8 : decode cX8_setLength 8 = .ok (.iload_n 2, 1) := by decide +kernel
theorem dX8_setLength_9 : decode cX8_setLength 9 = .ok (.invokevirtual 71, 3) := by decide +kernel
theorem dX8_setLength_12 : decode cX8_setLength 12 = .ok (.invokestatic 40, 3) := by decide +kernel
theorem dX8_setLength_15 : decode cX8_setLength 15 = .ok (.aload_n 0, 1) := by decide +kernel
theorem dX8_setLength_16 : decode cX8_setLength 16 = .ok (.getfield 19, 3) := by decide +kernel
theorem dX8_setLength_19 : decode cX8_setLength 19 = .ok (.aload_n 0, 1) := by decide +kernel
theorem dX8_setLength_20 : decode cX8_setLength 20 = .ok (.getfield 10, 3) := by decide +kernel
theorem dX8_setLength_23 : decode cX8_setLength 23 = .ok (.invokevirtual 44, 3) := by decide +kernel
theorem dX8_setLength_26 : decode cX8_setLength 26 = .ok (.aload_n 0, 1) := by decide +kernel
theorem dX8_setLength_27 : decode cX8_setLength 27 = .ok (.getfield 10, 3) := by decide +kernel
theorem dX8_setLength_30 : decode cX8_setLength 30 = .ok (.getfield 30, 3) := by decide +kernel
theorem dX8_setLength_33 : decode cX8_setLength 33 = .ok (.iload_n 1, 1) := by decide +kernel
theorem dX8_setLength_34 : decode cX8_setLength 34 = .ok (.iload_n 2, 1) := by decide +kernel
theorem dX8_setLength_35 : decode cX8_setLength 35 = .ok (.invokevirtual 74, 3) := by decide +kernel
theorem dX8_setLength_38 : decode cX8_setLength 38 = .ok (.ireturn, 1) := by decide +kernel
set_option maxRecDepth 20000 in
theorem ggX8_setShelf_X1_checkShelfWarmth : GoodIn wsX8_setShelf wsX1_checkShelfWarmth := goodIn_r _ [8, 9, 10, 11, 12, 13, 14] (by decide +kernel) (by decide +kernel)
set_option maxRecDepth 20000 in
theorem gX8_setShelf_X1_checkShelfWarmth : GoodIn wsX8_setShelf (wsV RX8 81 RX1 yX1_checkShelfWarmth wsX1_checkShelfWarmth) := goodIn_app (goodIn_of _ (by decide +kernel)) ggX8_setShelf_X1_checkShelfWarmth
set_option maxRecDepth 20000 in
theorem ggX8_setShelf_X8_refuse : GoodIn wsX8_setShelf wsX8_refuse := goodIn_ca (goodIn_ca (goodIn_ca (goodIn_r _ [17, 18, 19, 20, 21, 22, 23] (by decide +kernel) (by decide +kernel)) (goodIn_sub (fun _ h => List.mem_cons_of_mem _ (List.mem_append_left _ (List.mem_append_left _ (List.mem_append_right _ h)))) (by decide +kernel))) (goodIn_sub (fun _ h => List.mem_cons_of_mem _ (List.mem_append_left _ (List.mem_append_right _ h))) (by decide +kernel))) (goodIn_sub (fun _ h => List.mem_cons_of_mem _ (List.mem_append_right _ h)) (by decide +kernel))
set_option maxRecDepth 20000 in
theorem gX8_setShelf_X8_refuse : GoodIn wsX8_setShelf (va_wsS RX8 40 yX8_refuse wsX8_refuse) := goodIn_app (goodIn_of _ (by decide +kernel)) ggX8_setShelf_X8_refuse
set_option maxRecDepth 20000 in
theorem ggX8_setShelf_X5_push : GoodIn wsX8_setShelf wsX5_push := goodIn_r _ [28, 29, 30, 31, 32, 33, 34, 35, 36, 37, 38, 39, 40, 41, 42, 43, 44, 45, 46, 47, 48, 49, 50, 51, 52, 53, 54, 55, 56, 57, 58, 59, 60, 61, 7, 62, 63, 64, 65, 66, 67, 68, 69, 70, 71, 72, 73, 74, 75, 76, 77, 78, 79, 80, 81, 82, 83, 94, 95, 96, 91, 92, 93, 97, 98, 99, 100, 101, 102, 103, 104, 105, 106, 107, 108, 109, 110, 111, 112, 113, 114, 115, 116] (by decide +kernel) (by decide +kernel)
set_option maxRecDepth 20000 in
theorem gX8_setShelf_X5_push : GoodIn wsX8_setShelf (wsV RX8 44 RX5 yX5_push wsX5_push) := goodIn_app (goodIn_of _ (by decide +kernel)) ggX8_setShelf_X5_push
set_option maxRecDepth 20000 in
theorem ggX8_setShelf_X1_changeShelfWarmth : GoodIn wsX8_setShelf wsX1_changeShelfWarmth := goodIn_r _ [87, 63, 103, 104, 105, 106, 107, 108, 109, 110, 111, 112, 113, 114] (by decide +kernel) (by decide +kernel)
set_option maxRecDepth 20000 in
theorem gX8_setShelf_X1_changeShelfWarmth : GoodIn wsX8_setShelf (wsV RX8 86 RX1 yX1_changeShelfWarmth wsX1_changeShelfWarmth) := goodIn_app (goodIn_of _ (by decide +kernel)) ggX8_setShelf_X1_changeShelfWarmth
theorem dX8_setShelf_0 : decode cX8_setShelf 0 = .ok (.aload_n 0, 1) := by decide +kernel
theorem dX8_setShelf_1 : decode cX8_setShelf 1 = .ok (.getfield 10, 3) := by decide +kernel
theorem dX8_setShelf_4 : decode cX8_setShelf 4 = .ok (.getfield 77, 3) := by decide +kernel
theorem dX8_setShelf_7 : decode cX8_setShelf 7 = .ok (.iload_n 1, 1) := by decide +kernel
theorem dX8_setShelf_8 : decode cX8_setShelf 8 = .ok (.iload_n 2, 1) := by decide +kernel
theorem dX8_setShelf_9 : decode cX8_setShelf 9 = .ok (.invokevirtual 81, 3) := by decide +kernel
theorem dX8_setShelf_12 : decode cX8_setShelf 12 = .ok (.invokestatic 40, 3) := by decide +kernel
theorem dX8_setShelf_15 : decode cX8_setShelf 15 = .ok (.aload_n 0, 1) := by decide +kernel
theorem dX8_setShelf_16 : decode cX8_setShelf 16 = .ok (.getfield 19, 3) := by decide +kernel
theorem dX8_setShelf_19 : decode cX8_setShelf 19 = .ok (.aload_n 0, 1) := by decide +kernel
theorem dX8_setShelf_20 : decode cX8_setShelf 20 = .ok (.getfield 10, 3) := by decide +kernel
theorem dX8_setShelf_23 : decode cX8_setShelf 23 = .ok (.invokevirtual 44, 3) := by decide +kernel
theorem dX8_setShelf_26 : decode cX8_setShelf 26 = .ok (.aload_n 0, 1) := by decide +kernel
theorem dX8_setShelf_27 : decode cX8_setShelf 27 = .ok (.getfield 10, 3) := by decide +kernel
theorem dX8_setShelf_30 : decode cX8_setShelf 30 = .ok (.getfield 77, 3) := by decide +kernel
theorem dX8_setShelf_33 : decode cX8_setShelf 33 = .ok (.iload_n 1, 1) := by decide +kernel
theorem dX8_setShelf_34 : decode cX8_setShelf 34 = .ok (.iload_n 2, 1) := by decide +kernel
theorem dX8_setShelf_35 : decode cX8_setShelf 35 = .ok (.invokevirtual 86, 3) := by decide +kernel
theorem dX8_setShelf_38 : decode cX8_setShelf 38 = .ok (.ireturn, 1) := by decide +kernel
set_option maxRecDepth 20000 in
theorem ggX8_hang_X1_checkShelf : GoodIn wsX8_hang wsX1_checkShelf := goodIn_r _ [8, 9, 10, 11] (by decide +kernel) (by decide +kernel)
set_option maxRecDepth 20000 in
theorem gX8_hang_X1_checkShelf : GoodIn wsX8_hang (wsV RX8 89 RX1 yX1_checkShelf wsX1_checkShelf) := goodIn_app (goodIn_of _ (by decide +kernel)) ggX8_hang_X1_checkShelf
set_option maxRecDepth 20000 in
theorem ggX8_hang_X8_refuse : GoodIn wsX8_hang wsX8_refuse := goodIn_ca (goodIn_ca (goodIn_ca (goodIn_r _ [14, 15, 16, 17, 18, 19, 20] (by decide +kernel) (by decide +kernel)) (goodIn_sub (fun _ h => List.mem_cons_of_mem _ (List.mem_append_left _ (List.mem_append_left _ (List.mem_append_right _ h)))) (by decide +kernel))) (goodIn_sub (fun _ h => List.mem_cons_of_mem _ (List.mem_append_left _ (List.mem_append_right _ h))) (by decide +kernel))) (goodIn_sub (fun _ h => List.mem_cons_of_mem _ (List.mem_append_right _ h)) (by decide +kernel))
set_option maxRecDepth 20000 in
theorem gX8_hang_X8_refuse : GoodIn wsX8_hang (va_wsS RX8 40 yX8_refuse wsX8_refuse) := goodIn_app (goodIn_of _ (by decide +kernel)) ggX8_hang_X8_refuse
set_option maxRecDepth 20000 in
theorem ggX8_hang_X5_push : GoodIn wsX8_hang wsX5_push := goodIn_r _ [25, 26, 27, 28, 29, 30, 31, 32, 33, 34, 35, 36, 37, 38, 39, 40, 41, 42, 43, 44, 45, 46, 47, 48, 49, 50, 51, 52, 53, 54, 55, 56, 57, 58, 7, 59, 60, 61, 62, 63, 64, 65, 66, 67, 68, 69, 70, 71, 72, 73, 74, 75, 76, 77, 78, 79, 80, 91, 92, 93, 88, 89, 90, 94, 95, 96, 97, 98, 99, 100, 101, 102, 103, 104, 105, 106, 107, 108, 109, 110, 111, 112, 113] (by decide +kernel) (by decide +kernel)
set_option maxRecDepth 20000 in
theorem gX8_hang_X5_push : GoodIn wsX8_hang (wsV RX8 44 RX5 yX5_push wsX5_push) := goodIn_app (goodIn_of _ (by decide +kernel)) ggX8_hang_X5_push
set_option maxRecDepth 20000 in
theorem ggX8_hang_X1_changeShelf : GoodIn wsX8_hang wsX1_changeShelf := goodIn_r _ [84, 63, 100, 101, 102, 103, 104, 105, 106, 107, 108, 109, 110, 111] (by decide +kernel) (by decide +kernel)
set_option maxRecDepth 20000 in
theorem gX8_hang_X1_changeShelf : GoodIn wsX8_hang (wsV RX8 92 RX1 yX1_changeShelf wsX1_changeShelf) := goodIn_app (goodIn_of _ (by decide +kernel)) ggX8_hang_X1_changeShelf
theorem dX8_hang_0 : decode cX8_hang 0 = .ok (.aload_n 0, 1) := by decide +kernel
theorem dX8_hang_1 : decode cX8_hang 1 = .ok (.getfield 10, 3) := by decide +kernel
theorem dX8_hang_4 : decode cX8_hang 4 = .ok (.getfield 77, 3) := by decide +kernel
theorem dX8_hang_7 : decode cX8_hang 7 = .ok (.iload_n 1, 1) := by decide +kernel
theorem dX8_hang_8 : decode cX8_hang 8 = .ok (.invokevirtual 89, 3) := by decide +kernel
theorem dX8_hang_11 : decode cX8_hang 11 = .ok (.invokestatic 40, 3) := by decide +kernel
theorem dX8_hang_14 : decode cX8_hang 14 = .ok (.aload_n 0, 1) := by decide +kernel
theorem dX8_hang_15 : decode cX8_hang 15 = .ok (.getfield 19, 3) := by decide +kernel
theorem dX8_hang_18 : decode cX8_hang 18 = .ok (.aload_n 0, 1) := by decide +kernel
theorem dX8_hang_19 : decode cX8_hang 19 = .ok (.getfield 10, 3) := by decide +kernel
theorem dX8_hang_22 : decode cX8_hang 22 = .ok (.invokevirtual 44, 3) := by decide +kernel
theorem dX8_hang_25 : decode cX8_hang 25 = .ok (.aload_n 0, 1) := by decide +kernel
theorem dX8_hang_26 : decode cX8_hang 26 = .ok (.getfield 10, 3) := by decide +kernel
theorem dX8_hang_29 : decode cX8_hang 29 = .ok (.getfield 77, 3) := by decide +kernel
theorem dX8_hang_32 : decode cX8_hang 32 = .ok (.iload_n 1, 1) := by decide +kernel
theorem dX8_hang_33 : decode cX8_hang 33 = .ok (.invokevirtual 92, 3) := by decide +kernel
theorem dX8_hang_36 : decode cX8_hang 36 = .ok (.ireturn, 1) := by decide +kernel
set_option maxRecDepth 20000 in
theorem ggX8_turnNut_X1_checkTurn : GoodIn wsX8_turnNut wsX1_checkTurn := goodIn_r _ [8, 9, 10, 11, 12, 91, 92, 93, 94, 95, 96, 97, 98, 99, 100, 101, 102] (by decide +kernel) (by decide +kernel)
set_option maxRecDepth 20000 in
theorem gX8_turnNut_X1_checkTurn : GoodIn wsX8_turnNut (wsV RX8 95 RX1 yX1_checkTurn wsX1_checkTurn) := goodIn_app (goodIn_of _ (by decide +kernel)) ggX8_turnNut_X1_checkTurn
set_option maxRecDepth 20000 in
theorem ggX8_turnNut_X8_refuse : GoodIn wsX8_turnNut wsX8_refuse := goodIn_ca (goodIn_ca (goodIn_ca (goodIn_r _ [15, 16, 17, 18, 19, 20, 21] (by decide +kernel) (by decide +kernel)) (goodIn_sub (fun _ h => List.mem_cons_of_mem _ (List.mem_append_left _ (List.mem_append_left _ (List.mem_append_right _ h)))) (by decide +kernel))) (goodIn_sub (fun _ h => List.mem_cons_of_mem _ (List.mem_append_left _ (List.mem_append_right _ h))) (by decide +kernel))) (goodIn_sub (fun _ h => List.mem_cons_of_mem _ (List.mem_append_right _ h)) (by decide +kernel))
set_option maxRecDepth 20000 in
theorem gX8_turnNut_X8_refuse : GoodIn wsX8_turnNut (va_wsS RX8 40 yX8_refuse wsX8_refuse) := goodIn_app (goodIn_of _ (by decide +kernel)) ggX8_turnNut_X8_refuse
set_option maxRecDepth 20000 in
theorem ggX8_turnNut_X5_push : GoodIn wsX8_turnNut wsX5_push := goodIn_r _ [26, 27, 28, 29, 30, 31, 32, 33, 34, 35, 36, 37, 38, 39, 40, 41, 42, 43, 44, 45, 46, 47, 48, 49, 50, 51, 52, 53, 54, 55, 56, 57, 58, 59, 7, 60, 61, 62, 63, 64, 65, 9, 66, 67, 68, 69, 70, 71, 72, 73, 74, 75, 76, 77, 78, 79, 80, 103, 104, 105, 88, 89, 90, 106, 107, 108, 109, 110, 111, 91, 92, 93, 94, 95, 96, 97, 98, 99, 100, 101, 102, 112, 113] (by decide +kernel) (by decide +kernel)
set_option maxRecDepth 20000 in
theorem gX8_turnNut_X5_push : GoodIn wsX8_turnNut (wsV RX8 44 RX5 yX5_push wsX5_push) := goodIn_app (goodIn_of _ (by decide +kernel)) ggX8_turnNut_X5_push
set_option maxRecDepth 20000 in
theorem ggX8_turnNut_X1_changeNut : GoodIn wsX8_turnNut wsX1_changeNut := goodIn_r _ [84, 9, 91, 92, 93, 94, 95, 96, 97, 98, 99, 100, 101, 102] (by decide +kernel) (by decide +kernel)
set_option maxRecDepth 20000 in
theorem gX8_turnNut_X1_changeNut : GoodIn wsX8_turnNut (wsV RX8 98 RX1 yX1_changeNut wsX1_changeNut) := goodIn_app (goodIn_of _ (by decide +kernel)) ggX8_turnNut_X1_changeNut
theorem dX8_turnNut_0 : decode cX8_turnNut 0 = .ok (.aload_n 0, 1) := by decide +kernel
theorem dX8_turnNut_1 : decode cX8_turnNut 1 = .ok (.getfield 10, 3) := by decide +kernel
theorem dX8_turnNut_4 : decode cX8_turnNut 4 = .ok (.getfield 77, 3) := by decide +kernel
theorem dX8_turnNut_7 : decode cX8_turnNut 7 = .ok (.iload_n 1, 1) := by decide +kernel
theorem dX8_turnNut_8 : decode cX8_turnNut 8 = .ok (.invokevirtual 95, 3) := by decide +kernel
theorem dX8_turnNut_11 : decode cX8_turnNut 11 = .ok (.invokestatic 40, 3) := by decide +kernel
theorem dX8_turnNut_14 : decode cX8_turnNut 14 = .ok (.aload_n 0, 1) := by decide +kernel
theorem dX8_turnNut_15 : decode cX8_turnNut 15 = .ok (.getfield 19, 3) := by decide +kernel
theorem dX8_turnNut_18 : decode cX8_turnNut 18 = .ok (.aload_n 0, 1) := by decide +kernel
theorem dX8_turnNut_19 : decode cX8_turnNut 19 = .ok (.getfield 10, 3) := by decide +kernel
theorem dX8_turnNut_22 : decode cX8_turnNut 22 = .ok (.invokevirtual 44, 3) := by decide +kernel
theorem dX8_turnNut_25 : decode cX8_turnNut 25 = .ok (.aload_n 0, 1) := by decide +kernel
theorem dX8_turnNut_26 : decode cX8_turnNut 26 = .ok (.getfield 10, 3) := by decide +kernel
theorem dX8_turnNut_29 : decode cX8_turnNut 29 = .ok (.getfield 77, 3) := by decide +kernel
theorem dX8_turnNut_32 : decode cX8_turnNut 32 = .ok (.iload_n 1, 1) := by decide +kernel
theorem dX8_turnNut_33 : decode cX8_turnNut 33 = .ok (.invokevirtual 98, 3) := by decide +kernel
theorem dX8_turnNut_36 : decode cX8_turnNut 36 = .ok (.ireturn, 1) := by decide +kernel
set_option maxRecDepth 20000 in
theorem ggX8_wind_X5_push : GoodIn wsX8_wind wsX5_push := goodIn_r _ [8, 9, 10, 11, 12, 13, 14, 15, 16, 17, 18, 19, 20, 21, 22, 23, 24, 25, 26, 27, 28, 29, 30, 31, 32, 33, 34, 35, 36, 37, 38, 39, 40, 41, 42, 43, 44, 45, 46, 47, 48, 49, 50, 51, 52, 53, 54, 55, 56, 57, 58, 59, 60, 61, 62, 63, 64, 75, 76, 77, 72, 73, 74, 78, 79, 80, 81, 82, 83, 84, 85, 86, 87, 88, 89, 90, 91, 92, 93, 94, 95, 96, 97] (by decide +kernel) (by decide +kernel)
set_option maxRecDepth 20000 in
theorem gX8_wind_X5_push : GoodIn wsX8_wind (wsV RX8 44 RX5 yX5_push wsX5_push) := goodIn_app (goodIn_of _ (by decide +kernel)) ggX8_wind_X5_push
set_option maxRecDepth 20000 in
theorem ggX8_wind_X1_fillDrive : GoodIn wsX8_wind wsX1_fillDrive := goodIn_r _ [68, 50, 84, 85, 86, 87, 88, 89, 90, 91, 92, 93, 94, 95] (by decide +kernel) (by decide +kernel)
set_option maxRecDepth 20000 in
theorem gX8_wind_X1_fillDrive : GoodIn wsX8_wind (wsV RX8 101 RX1 yX1_fillDrive wsX1_fillDrive) := goodIn_app (goodIn_of _ (by decide +kernel)) ggX8_wind_X1_fillDrive
theorem dX8_wind_0 : decode cX8_wind 0 = .ok (.aload_n 0, 1) := by decide +kernel
theorem dX8_wind_1 : decode cX8_wind 1 = .ok (.getfield 19, 3) := by decide +kernel
theorem dX8_wind_4 : decode cX8_wind 4 = .ok (.aload_n 0, 1) := by decide +kernel
theorem dX8_wind_5 : decode cX8_wind 5 = .ok (.getfield 10, 3) := by decide +kernel
theorem dX8_wind_8 : decode cX8_wind 8 = .ok (.invokevirtual 44, 3) := by decide +kernel
theorem dX8_wind_11 : decode cX8_wind 11 = .ok (.aload_n 0, 1) := by decide +kernel
theorem dX8_wind_12 : decode cX8_wind 12 = .ok (.getfield 10, 3) := by decide +kernel
theorem dX8_wind_15 : decode cX8_wind 15 = .ok (.getfield 77, 3) := by decide +kernel
theorem dX8_wind_18 : decode cX8_wind 18 = .ok (.invokevirtual 101, 3) := by decide +kernel
theorem dX8_wind_21 : decode cX8_wind 21 = .ok (.ireturn, 1) := by decide +kernel
set_option maxRecDepth 20000 in
theorem ggX8_set_X1_checkSetting : GoodIn wsX8_set wsX1_checkSetting := goodIn_r _ [8, 9, 10, 11] (by decide +kernel) (by decide +kernel)
set_option maxRecDepth 20000 in
theorem gX8_set_X1_checkSetting : GoodIn wsX8_set (wsV RX8 105 RX1 yX1_checkSetting wsX1_checkSetting) := goodIn_app (goodIn_of _ (by decide +kernel)) ggX8_set_X1_checkSetting
set_option maxRecDepth 20000 in
theorem ggX8_set_X8_refuse : GoodIn wsX8_set wsX8_refuse := goodIn_ca (goodIn_ca (goodIn_ca (goodIn_r _ [14, 15, 16, 17, 18, 19, 20] (by decide +kernel) (by decide +kernel)) (goodIn_sub (fun _ h => List.mem_cons_of_mem _ (List.mem_append_left _ (List.mem_append_left _ (List.mem_append_right _ h)))) (by decide +kernel))) (goodIn_sub (fun _ h => List.mem_cons_of_mem _ (List.mem_append_left _ (List.mem_append_right _ h))) (by decide +kernel))) (goodIn_sub (fun _ h => List.mem_cons_of_mem _ (List.mem_append_right _ h)) (by decide +kernel))
set_option maxRecDepth 20000 in
theorem gX8_set_X8_refuse : GoodIn wsX8_set (va_wsS RX8 40 yX8_refuse wsX8_refuse) := goodIn_app (goodIn_of _ (by decide +kernel)) ggX8_set_X8_refuse
set_option maxRecDepth 20000 in
theorem ggX8_set_X5_push : GoodIn wsX8_set wsX5_push := goodIn_r _ [25, 26, 27, 28, 29, 30, 31, 32, 33, 34, 35, 36, 37, 38, 39, 40, 41, 42, 43, 44, 45, 46, 47, 48, 49, 50, 51, 52, 53, 54, 55, 56, 57, 58, 7, 59, 60, 61, 62, 63, 64, 65, 66, 67, 68, 69, 70, 71, 72, 73, 74, 75, 76, 77, 78, 79, 80, 91, 92, 93, 88, 89, 90, 94, 95, 96, 97, 98, 99, 100, 101, 102, 103, 104, 105, 106, 107, 108, 109, 110, 111, 112, 113] (by decide +kernel) (by decide +kernel)
set_option maxRecDepth 20000 in
theorem gX8_set_X5_push : GoodIn wsX8_set (wsV RX8 44 RX5 yX5_push wsX5_push) := goodIn_app (goodIn_of _ (by decide +kernel)) ggX8_set_X5_push
set_option maxRecDepth 20000 in
theorem ggX8_set_X1_changeSetting : GoodIn wsX8_set wsX1_changeSetting := goodIn_r _ [84, 62, 100, 101, 102, 103, 104, 105, 106, 107, 108, 109, 110, 111] (by decide +kernel) (by decide +kernel)
set_option maxRecDepth 20000 in
theorem gX8_set_X1_changeSetting : GoodIn wsX8_set (wsV RX8 108 RX1 yX1_changeSetting wsX1_changeSetting) := goodIn_app (goodIn_of _ (by decide +kernel)) ggX8_set_X1_changeSetting
theorem dX8_set_0 : decode cX8_set 0 = .ok (.aload_n 0, 1) := by decide +kernel
theorem dX8_set_1 : decode cX8_set 1 = .ok (.getfield 10, 3) := by decide +kernel
theorem dX8_set_4 : decode cX8_set 4 = .ok (.getfield 77, 3) := by decide +kernel
theorem dX8_set_7 : decode cX8_set 7 = .ok (.iload_n 1, 1) := by decide +kernel
theorem dX8_set_8 : decode cX8_set 8 = .ok (.iload_n 2, 1) := by decide +kernel
theorem dX8_set_9 : decode cX8_set 9 = .ok (.invokevirtual 105, 3) := by decide +kernel
