theorem dX9_shelf_0 : decode cX9_shelf 0 = .ok (.aload_n 0, 1) := by decide +kernel
theorem dX9_shelf_1 : decode cX9_shelf 1 = .ok (.iload_n 1, 1) := by decide +kernel
theorem dX9_shelf_2 : decode cX9_shelf 2 = .ok (.invokestatic 98, 3) := by decide +kernel
theorem dX9_shelf_5 : decode cX9_shelf 5 = .ok (.ifCond .eq 7, 3) := by decide +kernel
theorem dX9_shelf_8 : decode cX9_shelf 8 = .ok (.iconst 0, 1) := by decide +kernel
theorem dX9_shelf_9 : decode cX9_shelf 9 = .ok (.goto 4, 3) := by decide +kernel
theorem dX9_shelf_12 : decode cX9_shelf 12 = .ok (.iconst 1, 1) := by decide +kernel
theorem dX9_shelf_13 : decode cX9_shelf 13 = .ok (.putfield 42, 3) := by decide +kernel
theorem dX9_shelf_16 : decode cX9_shelf 16 = .ok (.aload_n 0, 1) := by decide +kernel
theorem dX9_shelf_17 : decode cX9_shelf 17 = .ok (.getfield 42, 3) := by decide +kernel
theorem dX9_shelf_20 : decode cX9_shelf 20 = .ok (.ifCond .eq 7, 3) := by decide +kernel
theorem dX9_shelf_23 : decode cX9_shelf 23 = .ok (.iconst 0, 1) := by decide +kernel
theorem dX9_shelf_24 : decode cX9_shelf 24 = .ok (.goto 11, 3) := by decide +kernel
theorem dX9_shelf_27 : decode cX9_shelf 27 = .ok (.aload_n 0, 1) := by decide +kernel
theorem dX9_shelf_28 : decode cX9_shelf 28 = .ok (.bipush 49, 2) := by decide +kernel
theorem dX9_shelf_30 : decode cX9_shelf 30 = .ok (.iload_n 1, 1) := by decide +kernel
theorem dX9_shelf_31 : decode cX9_shelf 31 = .ok (.iadd, 1) := by decide +kernel
theorem dX9_shelf_32 : decode cX9_shelf 32 = .ok (.invokevirtual 53, 3) := by decide +kernel
theorem dX9_shelf_35 : decode cX9_shelf 35 = .ok (.ireturn, 1) := by decide +kernel
set_option maxRecDepth 20000 in
theorem ggX9_wholeOf_X9_arc : GoodIn wsX9_wholeOf wsX9_arc := goodIn_r _ [7, 1, 8, 51, 52, 53, 54, 55, 56, 57, 58, 59, 60, 61] (by decide +kernel) (by decide +kernel)
set_option maxRecDepth 20000 in
theorem gX9_wholeOf_X9_arc : GoodIn wsX9_wholeOf (wsV RX9 139 RX9 yX9_arc wsX9_arc) := goodIn_app (goodIn_of _ (by decide +kernel)) ggX9_wholeOf_X9_arc
set_option maxRecDepth 20000 in
theorem ggX9_wholeOf_X9_loss : GoodIn wsX9_wholeOf wsX9_loss := goodIn_r _ [12, 13, 14, 3, 4, 5, 6, 7, 1, 8, 51, 52, 53, 54, 55, 56, 57, 58, 59, 60, 61] (by decide +kernel) (by decide +kernel)
set_option maxRecDepth 20000 in
theorem gX9_wholeOf_X9_loss : GoodIn wsX9_wholeOf (wsV RX9 157 RX9 yX9_loss wsX9_loss) := goodIn_app (goodIn_of _ (by decide +kernel)) ggX9_wholeOf_X9_loss
set_option maxRecDepth 20000 in
theorem ggX9_wholeOf_X9_lengthAt : GoodIn wsX9_wholeOf wsX9_lengthAt := goodIn_r _ [18, 19, 1, 20, 21, 22, 6, 23, 24, 25, 26, 27, 28, 29, 30, 31, 32, 33, 34, 35, 36, 51, 52, 53, 54, 55, 56, 57, 58, 59, 60, 61] (by decide +kernel) (by decide +kernel)
set_option maxRecDepth 20000 in
theorem gX9_wholeOf_X9_lengthAt : GoodIn wsX9_wholeOf (wsV RX9 160 RX9 yX9_lengthAt wsX9_lengthAt) := goodIn_app (goodIn_of _ (by decide +kernel)) ggX9_wholeOf_X9_lengthAt
set_option maxRecDepth 20000 in
theorem ggX9_wholeOf_X9_rateNow : GoodIn wsX9_wholeOf wsX9_rateNow := goodIn_r _ [40, 1, 15, 16, 17, 6, 18, 19, 20, 21, 22, 23, 24, 25, 26, 27, 28, 29, 30, 31, 32, 33, 34, 35, 36, 41, 42, 43, 44, 45, 46, 47, 48, 49, 50, 9, 10, 11, 12, 13, 14, 3, 4, 5, 7, 8, 51, 52, 53, 54, 55, 56, 57, 58, 59, 60, 61] (by decide +kernel) (by decide +kernel)
set_option maxRecDepth 20000 in
theorem gX9_wholeOf_X9_rateNow : GoodIn wsX9_wholeOf (wsV RX9 168 RX9 yX9_rateNow wsX9_rateNow) := goodIn_app (goodIn_of _ (by decide +kernel)) ggX9_wholeOf_X9_rateNow
set_option maxRecDepth 20000 in
theorem ggX9_wholeOf_X9_of : GoodIn wsX9_wholeOf wsX9_of := goodIn_r _ [27, 1, 51, 52, 53, 54, 55, 56, 57, 58, 59, 60, 61] (by decide +kernel) (by decide +kernel)
set_option maxRecDepth 20000 in
theorem gX9_wholeOf_X9_of : GoodIn wsX9_wholeOf (wsV RX9 53 RX9 yX9_of wsX9_of) := goodIn_app (goodIn_of _ (by decide +kernel)) ggX9_wholeOf_X9_of
theorem dX9_wholeOf_0 : decode cX9_wholeOf 0 = .ok (.iload_n 1, 1) := by decide +kernel
theorem dX9_wholeOf_1 : decode cX9_wholeOf 1 = .ok (.tableswitch 127 6 17 #[63, 69, 75, 88, 94, 94, 94, 106, 106, 106, 115, 122], 63) := by decide +kernel
theorem dX9_wholeOf_64 : decode cX9_wholeOf 64 = .ok (.aload_n 0, 1) := by decide +kernel
theorem dX9_wholeOf_65 : decode cX9_wholeOf 65 = .ok (.invokevirtual 139, 3) := by decide +kernel
theorem dX9_wholeOf_68 : decode cX9_wholeOf 68 = .ok (.l2i, 1) := by decide +kernel
theorem dX9_wholeOf_69 : decode cX9_wholeOf 69 = .ok (.ireturn, 1) := by decide +kernel
theorem dX9_wholeOf_70 : decode cX9_wholeOf 70 = .ok (.aload_n 0, 1) := by decide +kernel
theorem dX9_wholeOf_71 : decode cX9_wholeOf 71 = .ok (.invokevirtual 157, 3) := by decide +kernel
theorem dX9_wholeOf_74 : decode cX9_wholeOf 74 = .ok (.l2i, 1) := by decide +kernel
theorem dX9_wholeOf_75 : decode cX9_wholeOf 75 = .ok (.ireturn, 1) := by decide +kernel
theorem dX9_wholeOf_76 : decode cX9_wholeOf 76 = .ok (.aload_n 0, 1) := by decide +kernel
theorem dX9_wholeOf_77 : decode cX9_wholeOf 77 = .ok (.aload_n 0, 1) := by decide +kernel
theorem dX9_wholeOf_78 : decode cX9_wholeOf 78 = .ok (.getfield 7, 3) := by decide +kernel
theorem dX9_wholeOf_81 : decode cX9_wholeOf 81 = .ok (.bipush 6, 2) := by decide +kernel
theorem dX9_wholeOf_83 : decode cX9_wholeOf 83 = .ok (.laload, 1) := by decide +kernel
theorem dX9_wholeOf_84 : decode cX9_wholeOf 84 = .ok (.invokevirtual 160, 3) := by decide +kernel
theorem dX9_wholeOf_87 : decode cX9_wholeOf 87 = .ok (.l2i, 1) := by decide +kernel
theorem dX9_wholeOf_88 : decode cX9_wholeOf 88 = .ok (.ireturn, 1) := by decide +kernel
theorem dX9_wholeOf_89 : decode cX9_wholeOf 89 = .ok (.aload_n 0, 1) := by decide +kernel
theorem dX9_wholeOf_90 : decode cX9_wholeOf 90 = .ok (.invokevirtual 168, 3) := by decide +kernel
theorem dX9_wholeOf_93 : decode cX9_wholeOf 93 = .ok (.l2i, 1) := by decide +kernel
theorem dX9_wholeOf_94 : decode cX9_wholeOf 94 = .ok (.ireturn, 1) := by decide +kernel
theorem dX9_wholeOf_95 : decode cX9_wholeOf 95 = .ok (.aload_n 0, 1) := by decide +kernel
theorem dX9_wholeOf_96 : decode cX9_wholeOf 96 = .ok (.bipush 9, 2) := by decide +kernel
theorem dX9_wholeOf_98 : decode cX9_wholeOf 98 = .ok (.iload_n 1, 1) := by decide +kernel
theorem dX9_wholeOf_99 : decode cX9_wholeOf 99 = .ok (.iadd, 1) := by decide +kernel
theorem dX9_wholeOf_100 : decode cX9_wholeOf 100 = .ok (.bipush 10, 2) := by decide +kernel
theorem dX9_wholeOf_102 : decode cX9_wholeOf 102 = .ok (.isub, 1) := by decide +kernel
theorem dX9_wholeOf_103 : decode cX9_wholeOf 103 = .ok (.invokevirtual 53, 3) := by decide +kernel
theorem dX9_wholeOf_106 : decode cX9_wholeOf 106 = .ok (.ireturn, 1) := by decide +kernel
theorem dX9_wholeOf_107 : decode cX9_wholeOf 107 = .ok (.aload_n 0, 1) := by decide +kernel
theorem dX9_wholeOf_108 : decode cX9_wholeOf 108 = .ok (.iload_n 1, 1) := by decide +kernel
theorem dX9_wholeOf_109 : decode cX9_wholeOf 109 = .ok (.bipush 13, 2) := by decide +kernel
theorem dX9_wholeOf_111 : decode cX9_wholeOf 111 = .ok (.isub, 1) := by decide +kernel
theorem dX9_wholeOf_112 : decode cX9_wholeOf 112 = .ok (.invokevirtual 53, 3) := by decide +kernel
theorem dX9_wholeOf_115 : decode cX9_wholeOf 115 = .ok (.ireturn, 1) := by decide +kernel
theorem dX9_wholeOf_116 : decode cX9_wholeOf 116 = .ok (.aload_n 0, 1) := by decide +kernel
theorem dX9_wholeOf_117 : decode cX9_wholeOf 117 = .ok (.bipush 15, 2) := by decide +kernel
theorem dX9_wholeOf_119 : decode cX9_wholeOf 119 = .ok (.invokevirtual 53, 3) := by decide +kernel
theorem dX9_wholeOf_122 : decode cX9_wholeOf 122 = .ok (.ireturn, 1) := by decide +kernel
theorem dX9_wholeOf_123 : decode cX9_wholeOf 123 = .ok (.aload_n 0, 1) := by decide +kernel
theorem dX9_wholeOf_124 : decode cX9_wholeOf 124 = .ok (.getfield 197, 3) := by decide +kernel
theorem dX9_wholeOf_127 : decode cX9_wholeOf 127 = .ok (.ireturn, 1) := by decide +kernel
theorem dX9_wholeOf_128 : decode cX9_wholeOf 128 = .ok (.aload_n 0, 1) := by decide +kernel
theorem dX9_wholeOf_129 : decode cX9_wholeOf 129 = .ok (.iconst 3, 1) := by decide +kernel
theorem dX9_wholeOf_130 : decode cX9_wholeOf 130 = .ok (.iload_n 1, 1) := by decide +kernel
theorem dX9_wholeOf_131 : decode cX9_wholeOf 131 = .ok (.iadd, 1) := by decide +kernel
theorem dX9_wholeOf_132 : decode cX9_wholeOf 132 = .ok (.invokevirtual 53, 3) := by decide +kernel
theorem dX9_wholeOf_135 : decode cX9_wholeOf 135 = .ok (.ireturn, 1) := by decide +kernel
set_option maxRecDepth 20000 in
theorem ggX9_whole_X9_in : GoodIn wsX9_whole wsX9_in := goodIn_r _ [5] (by decide +kernel) (by decide +kernel)
set_option maxRecDepth 20000 in
theorem gX9_whole_X9_in : GoodIn wsX9_whole (va_wsS RX9 57 yX9_in wsX9_in) := goodIn_app (goodIn_of _ (by decide +kernel)) ggX9_whole_X9_in
set_option maxRecDepth 20000 in
theorem ggX9_whole_X9_wholeOf : GoodIn wsX9_whole wsX9_wholeOf := goodIn_r _ [9, 10, 11, 12, 13, 14, 4, 15, 16, 17, 18, 19, 20, 21, 22, 23, 24, 25, 26, 27, 28, 29, 30, 31, 32, 33, 34, 35, 36, 37, 38, 39, 40, 41, 42, 43, 44, 45, 46, 47, 48, 49, 50, 51, 52, 53, 54, 55, 56, 57, 58, 59, 60, 61, 62, 63, 64, 65, 66, 67, 68, 69] (by decide +kernel) (by decide +kernel)
set_option maxRecDepth 20000 in
theorem gX9_whole_X9_wholeOf : GoodIn wsX9_whole (wsV RX9 200 RX9 yX9_wholeOf wsX9_wholeOf) := goodIn_app (goodIn_of _ (by decide +kernel)) ggX9_whole_X9_wholeOf
theorem dX9_whole_0 : decode cX9_whole 0 = .ok (.aload_n 0, 1) := by decide +kernel
theorem dX9_whole_1 : decode cX9_whole 1 = .ok (.iload_n 1, 1) := by decide +kernel
theorem dX9_whole_2 : decode cX9_whole 2 = .ok (.iconst 0, 1) := by decide +kernel
theorem dX9_whole_3 : decode cX9_whole 3 = .ok (.bipush 17, 2) := by decide +kernel
theorem dX9_whole_5 : decode cX9_whole 5 = .ok (.invokestatic 57, 3) := by decide +kernel
theorem dX9_whole_8 : decode cX9_whole 8 = .ok (.ifCond .eq 7, 3) := by decide +kernel
theorem dX9_whole_11 : decode cX9_whole 11 = .ok (.iconst 0, 1) := by decide +kernel
theorem dX9_whole_12 : decode cX9_whole 12 = .ok (.goto 4, 3) := by decide +kernel
theorem dX9_whole_15 : decode cX9_whole 15 = .ok (.iconst 1, 1) := by decide +kernel
theorem dX9_whole_16 : decode cX9_whole 16 = .ok (.putfield 42, 3) := by decide +kernel
theorem dX9_whole_19 : decode cX9_whole 19 = .ok (.aload_n 0, 1) := by decide +kernel
theorem dX9_whole_20 : decode cX9_whole 20 = .ok (.getfield 42, 3) := by decide +kernel
theorem dX9_whole_23 : decode cX9_whole 23 = .ok (.ifCond .eq 7, 3) := by decide +kernel
theorem dX9_whole_26 : decode cX9_whole 26 = .ok (.iconst 0, 1) := by decide +kernel
theorem dX9_whole_27 : decode cX9_whole 27 = .ok (.goto 8, 3) := by decide +kernel
theorem dX9_whole_30 : decode cX9_whole 30 = .ok (.aload_n 0, 1) := by decide +kernel
theorem dX9_whole_31 : decode cX9_whole 31 = .ok (.iload_n 1, 1) := by decide +kernel
theorem dX9_whole_32 : decode cX9_whole 32 = .ok (.invokevirtual 200, 3) := by decide +kernel
theorem dX9_whole_35 : decode cX9_whole 35 = .ok (.ireturn, 1) := by decide +kernel
set_option maxRecDepth 20000 in
theorem ggX9_weight_X9_of : GoodIn wsX9_weight wsX9_of := goodIn_r _ [6, 1, 7, 8, 9, 10, 11, 12, 13, 14, 15, 16, 17] (by decide +kernel) (by decide +kernel)
set_option maxRecDepth 20000 in
theorem gX9_weight_X9_of : GoodIn wsX9_weight (wsV RX9 53 RX9 yX9_of wsX9_of) := goodIn_app (goodIn_of _ (by decide +kernel)) ggX9_weight_X9_of
theorem dX9_weight_0 : decode cX9_weight 0 = .ok (.aload_n 0, 1) := by decide +kernel
theorem dX9_weight_1 : decode cX9_weight 1 = .ok (.getfield 7, 3) := by decide +kernel
theorem dX9_weight_4 : decode cX9_weight 4 = .ok (.bipush 22, 2) := by decide +kernel
theorem dX9_weight_6 : decode cX9_weight 6 = .ok (.iconst 3, 1) := by decide +kernel
theorem dX9_weight_7 : decode cX9_weight 7 = .ok (.iload_n 1, 1) := by decide +kernel
theorem dX9_weight_8 : decode cX9_weight 8 = .ok (.imul, 1) := by decide +kernel
theorem dX9_weight_9 : decode cX9_weight 9 = .ok (.iadd, 1) := by decide +kernel
theorem dX9_weight_10 : decode cX9_weight 10 = .ok (.iconst 1, 1) := by decide +kernel
theorem dX9_weight_11 : decode cX9_weight 11 = .ok (.iadd, 1) := by decide +kernel
theorem dX9_weight_12 : decode cX9_weight 12 = .ok (.laload, 1) := by decide +kernel
theorem dX9_weight_13 : decode cX9_weight 13 = .ok (.aload_n 0, 1) := by decide +kernel
theorem dX9_weight_14 : decode cX9_weight 14 = .ok (.getfield 7, 3) := by decide +kernel
theorem dX9_weight_17 : decode cX9_weight 17 = .ok (.bipush 22, 2) := by decide +kernel
theorem dX9_weight_19 : decode cX9_weight 19 = .ok (.iconst 3, 1) := by decide +kernel
theorem dX9_weight_20 : decode cX9_weight 20 = .ok (.iload_n 1, 1) := by decide +kernel
theorem dX9_weight_21 : decode cX9_weight 21 = .ok (.imul, 1) := by decide +kernel
theorem dX9_weight_22 : decode cX9_weight 22 = .ok (.iadd, 1) := by decide +kernel
theorem dX9_weight_23 : decode cX9_weight 23 = .ok (.iconst 2, 1) := by decide +kernel
theorem dX9_weight_24 : decode cX9_weight 24 = .ok (.iadd, 1) := by decide +kernel
theorem dX9_weight_25 : decode cX9_weight 25 = .ok (.laload, 1) := by decide +kernel
theorem dX9_weight_26 : decode cX9_weight 26 = .ok (.lmul, 1) := by decide +kernel
theorem dX9_weight_27 : decode cX9_weight 27 = .ok (.aload_n 0, 1) := by decide +kernel
theorem dX9_weight_28 : decode cX9_weight 28 = .ok (.getfield 7, 3) := by decide +kernel
theorem dX9_weight_31 : decode cX9_weight 31 = .ok (.bipush 16, 2) := by decide +kernel
theorem dX9_weight_33 : decode cX9_weight 33 = .ok (.aload_n 0, 1) := by decide +kernel
theorem dX9_weight_34 : decode cX9_weight 34 = .ok (.bipush 22, 2) := by decide +kernel
theorem dX9_weight_36 : decode cX9_weight 36 = .ok (.iconst 3, 1) := by decide +kernel
theorem dX9_weight_37 : decode cX9_weight 37 = .ok (.iload_n 1, 1) := by decide +kernel
theorem dX9_weight_38 : decode cX9_weight 38 = .ok (.imul, 1) := by decide +kernel
theorem dX9_weight_39 : decode cX9_weight 39 = .ok (.iadd, 1) := by decide +kernel
theorem dX9_weight_40 : decode cX9_weight 40 = .ok (.invokevirtual 53, 3) := by decide +kernel
theorem dX9_weight_43 : decode cX9_weight 43 = .ok (.iadd, 1) := by decide +kernel
theorem dX9_weight_44 : decode cX9_weight 44 = .ok (.laload, 1) := by decide +kernel
theorem dX9_weight_45 : decode cX9_weight 45 = .ok (.lmul, 1) := by decide +kernel
theorem dX9_weight_46 : decode cX9_weight 46 = .ok (.lreturn, 1) := by decide +kernel
set_option maxRecDepth 20000 in
theorem ggX9_balanceNow_X9_of : GoodIn wsX9_balanceNow wsX9_of := goodIn_r _ [5, 6, 11, 12, 13, 14, 15, 16, 17, 18, 19, 20, 21] (by decide +kernel) (by decide +kernel)
set_option maxRecDepth 20000 in
theorem gX9_balanceNow_X9_of : GoodIn wsX9_balanceNow (wsV RX9 53 RX9 yX9_of wsX9_of) := goodIn_app (goodIn_of _ (by decide +kernel)) ggX9_balanceNow_X9_of
set_option maxRecDepth 20000 in
theorem ggX9_balanceNow_X9_weight : GoodIn wsX9_balanceNow wsX9_weight := goodIn_r _ [10, 6, 1, 2, 3, 4, 5, 11, 12, 13, 14, 15, 16, 17, 18, 19, 20, 21] (by decide +kernel) (by decide +kernel)
set_option maxRecDepth 20000 in
theorem gX9_balanceNow_X9_weight : GoodIn wsX9_balanceNow (wsV RX9 203 RX9 yX9_weight wsX9_weight) := goodIn_app (goodIn_of _ (by decide +kernel)) ggX9_balanceNow_X9_weight
theorem dX9_balanceNow_0 : decode cX9_balanceNow 0 = .ok (.lconst 0, 1) := by decide +kernel
theorem dX9_balanceNow_1 : decode cX9_balanceNow 1 = .ok (.lstore_n 1, 1) := by decide +kernel
theorem dX9_balanceNow_2 : decode cX9_balanceNow 2 = .ok (.iconst 0, 1) := by decide +kernel
theorem dX9_balanceNow_3 : decode cX9_balanceNow 3 = .ok (.istore_n 3, 1) := by decide +kernel
theorem dX9_balanceNow_4 : decode cX9_balanceNow 4 = .ok (.iload_n 3, 1) := by decide +kernel
theorem dX9_balanceNow_5 : decode cX9_balanceNow 5 = .ok (.aload_n 0, 1) := by decide +kernel
theorem dX9_balanceNow_6 : decode cX9_balanceNow 6 = .ok (.iconst 4, 1) := by decide +kernel
theorem dX9_balanceNow_7 : decode cX9_balanceNow 7 = .ok (.invokevirtual 53, 3) := by decide +kernel
theorem dX9_balanceNow_10 : decode cX9_balanceNow 10 = .ok (.if_icmp .ge 17, 3) := by decide +kernel
theorem dX9_balanceNow_13 : decode cX9_balanceNow 13 = .ok (.lload_n 1, 1) := by decide +kernel
theorem dX9_balanceNow_14 : decode cX9_balanceNow 14 = .ok (.aload_n 0, 1) := by decide +kernel
theorem dX9_balanceNow_15 : decode cX9_balanceNow 15 = .ok (.iload_n 3, 1) := by decide +kernel
theorem dX9_balanceNow_16 : decode cX9_balanceNow 16 = .ok (.invokevirtual 203, 3) := by decide +kernel
theorem dX9_balanceNow_19 : decode cX9_balanceNow 19 = .ok (.ladd, 1) := by decide +kernel
theorem dX9_balanceNow_20 : decode cX9_balanceNow 20 = .ok (.lstore_n 1, 1) := by decide +kernel
theorem dX9_balanceNow_21 : decode cX9_balanceNow 21 = .ok (.iinc 3 1, 3) := by decide +kernel
theorem dX9_balanceNow_24 : decode cX9_balanceNow 24 = .ok (.goto (-20), 3) := by decide +kernel
theorem dX9_balanceNow_27 : decode cX9_balanceNow 27 = .ok (.lload_n 1, 1) := by decide +kernel
theorem dX9_balanceNow_28 : decode cX9_balanceNow 28 = .ok (.lreturn, 1) := by decide +kernel
set_option maxRecDepth 20000 in
theorem ggX9_balance_X9_balanceNow : GoodIn wsX9_balance wsX9_balanceNow := goodIn_r _ [6, 7, 8, 9, 5, 10, 11, 12, 13, 14, 15, 16, 17, 18, 19, 20, 21, 22, 23, 24, 25, 26] (by decide +kernel) (by decide +kernel)
set_option maxRecDepth 20000 in
theorem gX9_balance_X9_balanceNow : GoodIn wsX9_balance (wsV RX9 207 RX9 yX9_balanceNow wsX9_balanceNow) := goodIn_app (goodIn_of _ (by decide +kernel)) ggX9_balance_X9_balanceNow
theorem dX9_balance_0 : decode cX9_balance 0 = .ok (.aload_n 0, 1) := by decide +kernel
theorem dX9_balance_1 : decode cX9_balance 1 = .ok (.iconst 0, 1) := by decide +kernel
theorem dX9_balance_2 : decode cX9_balance 2 = .ok (.putfield 42, 3) := by decide +kernel
theorem dX9_balance_5 : decode cX9_balance 5 = .ok (.aload_n 0, 1) := by decide +kernel
theorem dX9_balance_6 : decode cX9_balance 6 = .ok (.invokevirtual 207, 3) := by decide +kernel
theorem dX9_balance_9 : decode cX9_balance 9 = .ok (.lreturn, 1) := by decide +kernel
theorem dX9_rates_0 : decode cX9_rates 0 = .ok (.aload_n 0, 1) := by decide +kernel
theorem dX9_rates_1 : decode cX9_rates 1 = .ok (.iconst 0, 1) := by decide +kernel
theorem dX9_rates_2 : decode cX9_rates 2 = .ok (.putfield 42, 3) := by decide +kernel
theorem dX9_rates_5 : decode cX9_rates 5 = .ok (.aload_n 0, 1) := by decide +kernel
theorem dX9_rates_6 : decode cX9_rates 6 = .ok (.getfield 7, 3) := by decide +kernel
theorem dX9_rates_9 : decode cX9_rates 9 = .ok (.bipush 12, 2) := by decide +kernel
theorem dX9_rates_11 : decode cX9_rates 11 = .ok (.laload, 1) := by decide +kernel
theorem dX9_rates_12 : decode cX9_rates 12 = .ok (.lreturn, 1) := by decide +kernel
set_option maxRecDepth 20000 in
theorem ggX9_bitsNow_X9_of : GoodIn wsX9_bitsNow wsX9_of := goodIn_r _ [6, 1, 27, 28, 29, 30, 31, 32, 33, 34, 35, 36, 37] (by decide +kernel) (by decide +kernel)
set_option maxRecDepth 20000 in
theorem gX9_bitsNow_X9_of : GoodIn wsX9_bitsNow (wsV RX9 53 RX9 yX9_of wsX9_of) := goodIn_app (goodIn_of _ (by decide +kernel)) ggX9_bitsNow_X9_of
set_option maxRecDepth 20000 in
theorem ggX9_bitsNow_X9_balanceNow : GoodIn wsX9_bitsNow wsX9_balanceNow := goodIn_r _ [10, 2, 3, 4, 5, 6, 1, 11, 12, 13, 14, 27, 28, 29, 30, 31, 32, 33, 34, 35, 36, 37] (by decide +kernel) (by decide +kernel)
set_option maxRecDepth 20000 in
theorem gX9_bitsNow_X9_balanceNow : GoodIn wsX9_bitsNow (wsV RX9 207 RX9 yX9_balanceNow wsX9_balanceNow) := goodIn_app (goodIn_of _ (by decide +kernel)) ggX9_bitsNow_X9_balanceNow
set_option maxRecDepth 20000 in
theorem ggX9_bitsNow_Jxf58ca_floatToIntBits_5c35a : GoodIn wsX9_bitsNow wsJxf58ca_floatToIntBits_5c35a := goodIn_r _ [18, 19, 20, 21, 22, 23, 24, 25, 17, 26] (by decide +kernel) (by decide +kernel)
set_option maxRecDepth 20000 in
theorem gX9_bitsNow_Jxf58ca_floatToIntBits_5c35a : GoodIn wsX9_bitsNow (va_wsS RX9 210 yJxf58ca_floatToIntBits_5c35a wsJxf58ca_floatToIntBits_5c35a) := goodIn_app (goodIn_of _ (by decide +kernel)) ggX9_bitsNow_Jxf58ca_floatToIntBits_5c35a
theorem dX9_bitsNow_0 : decode cX9_bitsNow 0 = .ok (.lconst 0, 1) := by decide +kernel
theorem dX9_bitsNow_1 : decode cX9_bitsNow 1 = .ok (.lstore_n 1, 1) := by decide +kernel
theorem dX9_bitsNow_2 : decode cX9_bitsNow 2 = .ok (.iconst 0, 1) := by decide +kernel
theorem dX9_bitsNow_3 : decode cX9_bitsNow 3 = .ok (.istore_n 3, 1) := by decide +kernel
theorem dX9_bitsNow_4 : decode cX9_bitsNow 4 = .ok (.iload_n 3, 1) := by decide +kernel
theorem dX9_bitsNow_5 : decode cX9_bitsNow 5 = .ok (.aload_n 0, 1) := by decide +kernel
theorem dX9_bitsNow_6 : decode cX9_bitsNow 6 = .ok (.iconst 4, 1) := by decide +kernel
theorem dX9_bitsNow_7 : decode cX9_bitsNow 7 = .ok (.invokevirtual 53, 3) := by decide +kernel
theorem dX9_bitsNow_10 : decode cX9_bitsNow 10 = .ok (.if_icmp .ge 25, 3) := by decide +kernel
theorem dX9_bitsNow_13 : decode cX9_bitsNow 13 = .ok (.lload_n 1, 1) := by decide +kernel
theorem dX9_bitsNow_14 : decode cX9_bitsNow 14 = .ok (.aload_n 0, 1) := by decide +kernel
theorem dX9_bitsNow_15 : decode cX9_bitsNow 15 = .ok (.getfield 7, 3) := by decide +kernel
theorem dX9_bitsNow_18 : decode cX9_bitsNow 18 = .ok (.bipush 22, 2) := by decide +kernel
theorem dX9_bitsNow_20 : decode cX9_bitsNow 20 = .ok (.iconst 3, 1) := by decide +kernel
theorem dX9_bitsNow_21 : decode cX9_bitsNow 21 = .ok (.iload_n 3, 1) := by decide +kernel
theorem dX9_bitsNow_22 : decode cX9_bitsNow 22 = .ok (.imul, 1) := by decide +kernel
theorem dX9_bitsNow_23 : decode cX9_bitsNow 23 = .ok (.iadd, 1) := by decide +kernel
theorem dX9_bitsNow_24 : decode cX9_bitsNow 24 = .ok (.iconst 2, 1) := by decide +kernel
theorem dX9_bitsNow_25 : decode cX9_bitsNow 25 = .ok (.iadd, 1) := by decide +kernel
theorem dX9_bitsNow_26 : decode cX9_bitsNow 26 = .ok (.laload, 1) := by decide +kernel
theorem dX9_bitsNow_27 : decode cX9_bitsNow 27 = .ok (.ladd, 1) := by decide +kernel
theorem dX9_bitsNow_28 : decode cX9_bitsNow 28 = .ok (.lstore_n 1, 1) := by decide +kernel
theorem dX9_bitsNow_29 : decode cX9_bitsNow 29 = .ok (.iinc 3 1, 3) := by decide +kernel
theorem dX9_bitsNow_32 : decode cX9_bitsNow 32 = .ok (.goto (-28), 3) := by decide +kernel
theorem dX9_bitsNow_35 : decode cX9_bitsNow 35 = .ok (.lload_n 1, 1) := by decide +kernel
theorem dX9_bitsNow_36 : decode cX9_bitsNow 36 = .ok (.lconst 0, 1) := by decide +kernel
theorem dX9_bitsNow_37 : decode cX9_bitsNow 37 = .ok (.lcmp, 1) := by decide +kernel
theorem dX9_bitsNow_38 : decode cX9_bitsNow 38 = .ok (.ifCond .ne 7, 3) := by decide +kernel
theorem dX9_bitsNow_41 : decode cX9_bitsNow 41 = .ok (.iconst 0, 1) := by decide +kernel
theorem dX9_bitsNow_42 : decode cX9_bitsNow 42 = .ok (.goto 14, 3) := by decide +kernel
theorem dX9_bitsNow_45 : decode cX9_bitsNow 45 = .ok (.aload_n 0, 1) := by decide +kernel
theorem dX9_bitsNow_46 : decode cX9_bitsNow 46 = .ok (.invokevirtual 207, 3) := by decide +kernel
theorem dX9_bitsNow_49 : decode cX9_bitsNow 49 = .ok (.l2f, 1) := by decide +kernel
theorem dX9_bitsNow_50 : decode cX9_bitsNow 50 = .ok (.lload_n 1, 1) := by decide +kernel
theorem dX9_bitsNow_51 : decode cX9_bitsNow 51 = .ok (.l2f, 1) := by decide +kernel
theorem dX9_bitsNow_52 : decode cX9_bitsNow 52 = .ok (.fdiv, 1) := by decide +kernel
theorem dX9_bitsNow_53 : decode cX9_bitsNow 53 = .ok (.invokestatic 210, 3) := by decide +kernel
theorem dX9_bitsNow_56 : decode cX9_bitsNow 56 = .ok (.ireturn, 1) := by decide +kernel
set_option maxRecDepth 20000 in
theorem ggX9_balanceBits_X9_bitsNow : GoodIn wsX9_balanceBits wsX9_bitsNow := goodIn_r _ [6, 7, 8, 9, 10, 5, 11, 12, 13, 14, 15, 16, 17, 18, 19, 20, 21, 22, 23, 24, 25, 26, 27, 28, 29, 30, 31, 32, 33, 34, 35, 36, 37, 38, 39, 40, 41, 42] (by decide +kernel) (by decide +kernel)
set_option maxRecDepth 20000 in
theorem gX9_balanceBits_X9_bitsNow : GoodIn wsX9_balanceBits (wsV RX9 216 RX9 yX9_bitsNow wsX9_bitsNow) := goodIn_app (goodIn_of _ (by decide +kernel)) ggX9_balanceBits_X9_bitsNow
theorem dX9_balanceBits_0 : decode cX9_balanceBits 0 = .ok (.aload_n 0, 1) := by decide +kernel
theorem dX9_balanceBits_1 : decode cX9_balanceBits 1 = .ok (.iconst 0, 1) := by decide +kernel
theorem dX9_balanceBits_2 : decode cX9_balanceBits 2 = .ok (.putfield 42, 3) := by decide +kernel
theorem dX9_balanceBits_5 : decode cX9_balanceBits 5 = .ok (.aload_n 0, 1) := by decide +kernel
theorem dX9_balanceBits_6 : decode cX9_balanceBits 6 = .ok (.invokevirtual 216, 3) := by decide +kernel
theorem dX9_balanceBits_9 : decode cX9_balanceBits 9 = .ok (.ireturn, 1) := by decide +kernel
set_option maxRecDepth 20000 in
theorem ggX9_day_X9_in : GoodIn wsX9_day wsX9_in := goodIn_r _ [7] (by decide +kernel) (by decide +kernel)
set_option maxRecDepth 20000 in
theorem gX9_day_X9_in : GoodIn wsX9_day (va_wsS RX9 57 yX9_in wsX9_in) := goodIn_app (goodIn_of _ (by decide +kernel)) ggX9_day_X9_in
set_option maxRecDepth 20000 in
theorem ggX9_day_X9_of : GoodIn wsX9_day wsX9_of := goodIn_r _ [11, 2, 12, 13, 14, 15, 16, 17, 18, 19, 20, 21, 22] (by decide +kernel) (by decide +kernel)
set_option maxRecDepth 20000 in
theorem gX9_day_X9_of : GoodIn wsX9_day (wsV RX9 53 RX9 yX9_of wsX9_of) := goodIn_app (goodIn_of _ (by decide +kernel)) ggX9_day_X9_of
theorem dX9_day_0 : decode cX9_day 0 = .ok (.aload_n 0, 1) := by decide +kernel
theorem dX9_day_1 : decode cX9_day 1 = .ok (.iload_n 1, 1) := by decide +kernel
theorem dX9_day_2 : decode cX9_day 2 = .ok (.ifCond .lt 16, 3) := by decide +kernel
theorem dX9_day_5 : decode cX9_day 5 = .ok (.iload_n 2, 1) := by decide +kernel
theorem dX9_day_6 : decode cX9_day 6 = .ok (.iconst 0, 1) := by decide +kernel
theorem dX9_day_7 : decode cX9_day 7 = .ok (.iconst 3, 1) := by decide +kernel
theorem dX9_day_8 : decode cX9_day 8 = .ok (.invokestatic 57, 3) := by decide +kernel
theorem dX9_day_11 : decode cX9_day 11 = .ok (.ifCond .eq 7, 3) := by decide +kernel
theorem dX9_day_14 : decode cX9_day 14 = .ok (.iconst 0, 1) := by decide +kernel
theorem dX9_day_15 : decode cX9_day 15 = .ok (.goto 4, 3) := by decide +kernel
theorem dX9_day_18 : decode cX9_day 18 = .ok (.iconst 1, 1) := by decide +kernel
theorem dX9_day_19 : decode cX9_day 19 = .ok (.putfield 42, 3) := by decide +kernel
theorem dX9_day_22 : decode cX9_day 22 = .ok (.aload_n 0, 1) := by decide +kernel
theorem dX9_day_23 : decode cX9_day 23 = .ok (.getfield 42, 3) := by decide +kernel
theorem dX9_day_26 : decode cX9_day 26 = .ok (.ifCond .eq 5, 3) := by decide +kernel
theorem dX9_day_29 : decode cX9_day 29 = .ok (.lconst 0, 1) := by decide +kernel
theorem dX9_day_30 : decode cX9_day 30 = .ok (.lreturn, 1) := by decide +kernel
theorem dX9_day_31 : decode cX9_day 31 = .ok (.iload_n 1, 1) := by decide +kernel
theorem dX9_day_32 : decode cX9_day 32 = .ok (.aload_n 0, 1) := by decide +kernel
theorem dX9_day_33 : decode cX9_day 33 = .ok (.bipush 15, 2) := by decide +kernel
theorem dX9_day_35 : decode cX9_day 35 = .ok (.invokevirtual 53, 3) := by decide +kernel
theorem dX9_day_38 : decode cX9_day 38 = .ok (.if_icmp .ge 19, 3) := by decide +kernel
theorem dX9_day_41 : decode cX9_day 41 = .ok (.aload_n 0, 1) := by decide +kernel
theorem dX9_day_42 : decode cX9_day 42 = .ok (.getfield 7, 3) := by decide +kernel
theorem dX9_day_45 : decode cX9_day 45 = .ok (.bipush 54, 2) := by decide +kernel
theorem dX9_day_47 : decode cX9_day 47 = .ok (.iconst 4, 1) := by decide +kernel
theorem dX9_day_48 : decode cX9_day 48 = .ok (.iload_n 1, 1) := by decide +kernel
theorem dX9_day_49 : decode cX9_day 49 = .ok (.imul, 1) := by decide +kernel
theorem dX9_day_50 : decode cX9_day 50 = .ok (.iadd, 1) := by decide +kernel
theorem dX9_day_51 : decode cX9_day 51 = .ok (.iload_n 2, 1) := by decide +kernel
theorem dX9_day_52 : decode cX9_day 52 = .ok (.iadd, 1) := by decide +kernel
theorem dX9_day_53 : decode cX9_day 53 = .ok (.laload, 1) := by decide +kernel
theorem dX9_day_54 : decode cX9_day 54 = .ok (.goto 6, 3) := by decide +kernel
theorem dX9_day_57 : decode cX9_day 57 = .ok (.ldc2_w 220, 3) := by decide +kernel
theorem dX9_day_60 : decode cX9_day 60 = .ok (.lreturn, 1) := by decide +kernel
theorem dX9_meanRate_0 : decode cX9_meanRate 0 = .ok (.aload_n 0, 1) := by decide +kernel
theorem dX9_meanRate_1 : decode cX9_meanRate 1 = .ok (.iconst 0, 1) := by decide +kernel
theorem dX9_meanRate_2 : decode cX9_meanRate 2 = .ok (.putfield 42, 3) := by decide +kernel
theorem dX9_meanRate_5 : decode cX9_meanRate 5 = .ok (.aload_n 0, 1) := by decide +kernel
theorem dX9_meanRate_6 : decode cX9_meanRate 6 = .ok (.getfield 7, 3) := by decide +kernel
theorem dX9_meanRate_9 : decode cX9_meanRate 9 = .ok (.bipush 10, 2) := by decide +kernel
theorem dX9_meanRate_11 : decode cX9_meanRate 11 = .ok (.laload, 1) := by decide +kernel
theorem dX9_meanRate_12 : decode cX9_meanRate 12 = .ok (.lconst 0, 1) := by decide +kernel
theorem dX9_meanRate_13 : decode cX9_meanRate 13 = .ok (.lcmp, 1) := by decide +kernel
theorem dX9_meanRate_14 : decode cX9_meanRate 14 = .ok (.ifCond .ne 7, 3) := by decide +kernel
theorem dX9_meanRate_17 : decode cX9_meanRate 17 = .ok (.dconst 0, 1) := by decide +kernel
theorem dX9_meanRate_18 : decode cX9_meanRate 18 = .ok (.goto 20, 3) := by decide +kernel
theorem dX9_meanRate_21 : decode cX9_meanRate 21 = .ok (.aload_n 0, 1) := by decide +kernel
theorem dX9_meanRate_22 : decode cX9_meanRate 22 = .ok (.getfield 7, 3) := by decide +kernel
theorem dX9_meanRate_25 : decode cX9_meanRate 25 = .ok (.bipush 12, 2) := by decide +kernel
theorem dX9_meanRate_27 : decode cX9_meanRate 27 = .ok (.laload, 1) := by decide +kernel
theorem dX9_meanRate_28 : decode cX9_meanRate 28 = .ok (.l2d, 1) := by decide +kernel
theorem dX9_meanRate_29 : decode cX9_meanRate 29 = .ok (.aload_n 0, 1) := by decide +kernel
theorem dX9_meanRate_30 : decode cX9_meanRate 30 = .ok (.getfield 7, 3) := by decide +kernel
theorem dX9_meanRate_33 : decode cX9_meanRate 33 = .ok (.bipush 10, 2) := by decide +kernel
theorem dX9_meanRate_35 : decode cX9_meanRate 35 = .ok (.laload, 1) := by decide +kernel
theorem dX9_meanRate_36 : decode cX9_meanRate 36 = .ok (.l2d, 1) := by decide +kernel
theorem dX9_meanRate_37 : decode cX9_meanRate 37 = .ok (.ddiv, 1) := by decide +kernel
theorem dX9_meanRate_38 : decode cX9_meanRate 38 = .ok (.dreturn, 1) := by decide +kernel
set_option maxRecDepth 20000 in
theorem ggX9_rateAt_X9_isWarmth : GoodIn wsX9_rateAt wsX9_isWarmth := goodIn_r _ [5, 6, 7, 4, 8] (by decide +kernel) (by decide +kernel)
set_option maxRecDepth 20000 in
theorem gX9_rateAt_X9_isWarmth : GoodIn wsX9_rateAt (va_wsS RX9 101 yX9_isWarmth wsX9_isWarmth) := goodIn_app (goodIn_of _ (by decide +kernel)) ggX9_rateAt_X9_isWarmth
set_option maxRecDepth 20000 in
theorem ggX9_rateAt_X9_lengthAt : GoodIn wsX9_rateAt wsX9_lengthAt := goodIn_r _ [12, 13, 14, 15, 16, 17, 4, 18, 19, 20, 21, 22, 23, 24, 25, 26, 27, 28, 29, 30, 31, 53, 54, 55, 56, 57, 58, 59, 60, 61, 62, 63] (by decide +kernel) (by decide +kernel)
set_option maxRecDepth 20000 in
theorem gX9_rateAt_X9_lengthAt : GoodIn wsX9_rateAt (wsV RX9 160 RX9 yX9_lengthAt wsX9_lengthAt) := goodIn_app (goodIn_of _ (by decide +kernel)) ggX9_rateAt_X9_lengthAt
set_option maxRecDepth 20000 in
theorem ggX9_rateAt_X9_rateBy : GoodIn wsX9_rateAt wsX9_rateBy := goodIn_r _ [35, 36, 14, 37, 38, 29, 30, 4, 31, 39, 40, 41, 42, 43, 44, 45, 46, 47, 48, 49, 50, 51, 52, 53, 54, 55, 56, 57, 58, 59, 60, 61, 62, 63] (by decide +kernel) (by decide +kernel)
set_option maxRecDepth 20000 in
theorem gX9_rateAt_X9_rateBy : GoodIn wsX9_rateAt (wsV RX9 163 RX9 yX9_rateBy wsX9_rateBy) := goodIn_app (goodIn_of _ (by decide +kernel)) ggX9_rateAt_X9_rateBy
theorem dX9_rateAt_0 : decode cX9_rateAt 0 = .ok (.aload_n 0, 1) := by decide +kernel
theorem dX9_rateAt_1 : decode cX9_rateAt 1 = .ok (.iload_n 1, 1) := by decide +kernel
theorem dX9_rateAt_2 : decode cX9_rateAt 2 = .ok (.invokestatic 101, 3) := by decide +kernel
theorem dX9_rateAt_5 : decode cX9_rateAt 5 = .ok (.ifCond .eq 7, 3) := by decide +kernel
theorem dX9_rateAt_8 : decode cX9_rateAt 8 = .ok (.iconst 0, 1) := by decide +kernel
theorem dX9_rateAt_9 : decode cX9_rateAt 9 = .ok (.goto 4, 3) := by decide +kernel
theorem dX9_rateAt_12 : decode cX9_rateAt 12 = .ok (.iconst 1, 1) := by decide +kernel
theorem dX9_rateAt_13 : decode cX9_rateAt 13 = .ok (.putfield 42, 3) := by decide +kernel
theorem dX9_rateAt_16 : decode cX9_rateAt 16 = .ok (.aload_n 0, 1) := by decide +kernel
theorem dX9_rateAt_17 : decode cX9_rateAt 17 = .ok (.getfield 42, 3) := by decide +kernel
theorem dX9_rateAt_20 : decode cX9_rateAt 20 = .ok (.ifCond .eq 7, 3) := by decide +kernel
theorem dX9_rateAt_23 : decode cX9_rateAt 23 = .ok (.iconst 0, 1) := by decide +kernel
theorem dX9_rateAt_24 : decode cX9_rateAt 24 = .ok (.goto 14, 3) := by decide +kernel
theorem dX9_rateAt_27 : decode cX9_rateAt 27 = .ok (.aload_n 0, 1) := by decide +kernel
theorem dX9_rateAt_28 : decode cX9_rateAt 28 = .ok (.aload_n 0, 1) := by decide +kernel
theorem dX9_rateAt_29 : decode cX9_rateAt 29 = .ok (.iload_n 1, 1) := by decide +kernel
theorem dX9_rateAt_30 : decode cX9_rateAt 30 = .ok (.i2l, 1) := by decide +kernel
theorem dX9_rateAt_31 : decode cX9_rateAt 31 = .ok (.invokevirtual 160, 3) := by decide +kernel
theorem dX9_rateAt_34 : decode cX9_rateAt 34 = .ok (.invokevirtual 163, 3) := by decide +kernel
theorem dX9_rateAt_37 : decode cX9_rateAt 37 = .ok (.l2i, 1) := by decide +kernel
theorem dX9_rateAt_38 : decode cX9_rateAt 38 = .ok (.ireturn, 1) := by decide +kernel
set_option maxRecDepth 20000 in
theorem ggX9_matchLength_X9_isRod : GoodIn wsX9_matchLength wsX9_isRod := goodIn_r _ [8, 9, 10, 11, 7, 12, 2, 13, 14, 15, 33, 34, 35, 36, 37, 38, 39, 40, 41, 42, 43] (by decide +kernel) (by decide +kernel)
set_option maxRecDepth 20000 in
theorem gX9_matchLength_X9_isRod : GoodIn wsX9_matchLength (wsV RX9 92 RX9 yX9_isRod wsX9_isRod) := goodIn_app (goodIn_of _ (by decide +kernel)) ggX9_matchLength_X9_isRod
set_option maxRecDepth 20000 in
theorem ggX9_matchLength_X9_balanceNow : GoodIn wsX9_matchLength wsX9_balanceNow := goodIn_r _ [19, 9, 10, 11, 7, 12, 2, 20, 21, 22, 23, 33, 34, 35, 36, 37, 38, 39, 40, 41, 42, 43] (by decide +kernel) (by decide +kernel)
set_option maxRecDepth 20000 in
theorem gX9_matchLength_X9_balanceNow : GoodIn wsX9_matchLength (wsV RX9 207 RX9 yX9_balanceNow wsX9_balanceNow) := goodIn_app (goodIn_of _ (by decide +kernel)) ggX9_matchLength_X9_balanceNow
set_option maxRecDepth 20000 in
theorem ggX9_matchLength_X9_weight : GoodIn wsX9_matchLength wsX9_weight := goodIn_r _ [23, 2, 9, 10, 11, 7, 12, 33, 34, 35, 36, 37, 38, 39, 40, 41, 42, 43] (by decide +kernel) (by decide +kernel)
set_option maxRecDepth 20000 in
theorem gX9_matchLength_X9_weight : GoodIn wsX9_matchLength (wsV RX9 203 RX9 yX9_weight wsX9_weight) := goodIn_app (goodIn_of _ (by decide +kernel)) ggX9_matchLength_X9_weight
set_option maxRecDepth 20000 in
theorem ggX9_matchLength_X9_of : GoodIn wsX9_matchLength wsX9_of := goodIn_r _ [12, 2, 33, 34, 35, 36, 37, 38, 39, 40, 41, 42, 43] (by decide +kernel) (by decide +kernel)
set_option maxRecDepth 20000 in
theorem gX9_matchLength_X9_of : GoodIn wsX9_matchLength (wsV RX9 53 RX9 yX9_of wsX9_of) := goodIn_app (goodIn_of _ (by decide +kernel)) ggX9_matchLength_X9_of
set_option maxRecDepth 20000 in
theorem ggX9_matchLength_X9_floor : GoodIn wsX9_matchLength wsX9_floor := goodIn_r _ [26] (by decide +kernel) (by decide +kernel)
set_option maxRecDepth 20000 in
theorem gX9_matchLength_X9_floor : GoodIn wsX9_matchLength (va_wsS RX9 123 yX9_floor wsX9_floor) := goodIn_app (goodIn_of _ (by decide +kernel)) ggX9_matchLength_X9_floor
set_option maxRecDepth 20000 in
theorem ggX9_matchLength_X9_within : GoodIn wsX9_matchLength wsX9_within := goodIn_r _ [29] (by decide +kernel) (by decide +kernel)
set_option maxRecDepth 20000 in
theorem gX9_matchLength_X9_within : GoodIn wsX9_matchLength (va_wsS RX9 153 yX9_within wsX9_within) := goodIn_app (goodIn_of _ (by decide +kernel)) ggX9_matchLength_X9_within
set_option maxRecDepth 20000 in
theorem ggX9_matchLength_X9_size : GoodIn wsX9_matchLength wsX9_size := goodIn_r _ [32] (by decide +kernel) (by decide +kernel)
set_option maxRecDepth 20000 in
theorem gX9_matchLength_X9_size : GoodIn wsX9_matchLength (va_wsS RX9 224 yX9_size wsX9_size) := goodIn_app (goodIn_of _ (by decide +kernel)) ggX9_matchLength_X9_size
theorem dX9_matchLength_0 : decode cX9_matchLength 0 = .ok (.aload_n 0, 1) := by decide +kernel
theorem dX9_matchLength_1 : decode cX9_matchLength 1 = .ok (.aload_n 0, 1) := by decide +kernel
theorem dX9_matchLength_2 : decode cX9_matchLength 2 = .ok (.iload_n 1, 1) := by decide +kernel
theorem dX9_matchLength_3 : decode cX9_matchLength 3 = .ok (.invokevirtual 92, 3) := by decide +kernel
theorem dX9_matchLength_6 : decode cX9_matchLength 6 = .ok (.ifCond .eq 7, 3) := by decide +kernel
theorem dX9_matchLength_9 : decode cX9_matchLength 9 = .ok (.iconst 0, 1) := by decide +kernel
theorem dX9_matchLength_10 : decode cX9_matchLength 10 = .ok (.goto 4, 3) := by decide +kernel
theorem dX9_matchLength_13 : decode cX9_matchLength 13 = .ok (.iconst 1, 1) := by decide +kernel
theorem dX9_matchLength_14 : decode cX9_matchLength 14 = .ok (.putfield 42, 3) := by decide +kernel
theorem dX9_matchLength_17 : decode cX9_matchLength 17 = .ok (.aload_n 0, 1) := by decide +kernel
theorem dX9_matchLength_18 : decode cX9_matchLength 18 = .ok (.getfield 42, 3) := by decide +kernel
theorem dX9_matchLength_21 : decode cX9_matchLength 21 = .ok (.ifCond .eq 5, 3) := by decide +kernel
theorem dX9_matchLength_24 : decode cX9_matchLength 24 = .ok (.iconst 0, 1) := by decide +kernel
theorem dX9_matchLength_25 : decode cX9_matchLength 25 = .ok (.ireturn, 1) := by decide +kernel
theorem dX9_matchLength_26 : decode cX9_matchLength 26 = .ok (.aload_n 0, 1) := by decide +kernel
theorem dX9_matchLength_27 : decode cX9_matchLength 27 = .ok (.invokevirtual 207, 3) := by decide +kernel
theorem dX9_matchLength_30 : decode cX9_matchLength 30 = .ok (.aload_n 0, 1) := by decide +kernel
theorem dX9_matchLength_31 : decode cX9_matchLength 31 = .ok (.iload_n 1, 1) := by decide +kernel
theorem dX9_matchLength_32 : decode cX9_matchLength 32 = .ok (.invokevirtual 203, 3) := by decide +kernel
theorem dX9_matchLength_35 : decode cX9_matchLength 35 = .ok (.lsub, 1) := by decide +kernel
theorem dX9_matchLength_36 : decode cX9_matchLength 36 = .ok (.lstore_n 2, 1) := by decide +kernel
theorem dX9_matchLength_37 : decode cX9_matchLength 37 = .ok (.aload_n 0, 1) := by decide +kernel
theorem dX9_matchLength_38 : decode cX9_matchLength 38 = .ok (.getfield 7, 3) := by decide +kernel
theorem dX9_matchLength_41 : decode cX9_matchLength 41 = .ok (.bipush 22, 2) := by decide +kernel
theorem dX9_matchLength_43 : decode cX9_matchLength 43 = .ok (.iconst 3, 1) := by decide +kernel
theorem dX9_matchLength_44 : decode cX9_matchLength 44 = .ok (.iload_n 1, 1) := by decide +kernel
theorem dX9_matchLength_45 : decode cX9_matchLength 45 = .ok (.imul, 1) := by decide +kernel
theorem dX9_matchLength_46 : decode cX9_matchLength 46 = .ok (.iadd, 1) := by decide +kernel
theorem dX9_matchLength_47 : decode cX9_matchLength 47 = .ok (.iconst 1, 1) := by decide +kernel
theorem dX9_matchLength_48 : decode cX9_matchLength 48 = .ok (.iadd, 1) := by decide +kernel
theorem dX9_matchLength_49 : decode cX9_matchLength 49 = .ok (.laload, 1) := by decide +kernel
theorem dX9_matchLength_50 : decode cX9_matchLength 50 = .ok (.aload_n 0, 1) := by decide +kernel
theorem dX9_matchLength_51 : decode cX9_matchLength 51 = .ok (.getfield 7, 3) := by decide +kernel
theorem dX9_matchLength_54 : decode cX9_matchLength 54 = .ok (.bipush 16, 2) := by decide +kernel
theorem dX9_matchLength_56 : decode cX9_matchLength 56 = .ok (.aload_n 0, 1) := by decide +kernel
theorem dX9_matchLength_57 : decode cX9_matchLength 57 = .ok (.bipush 22, 2) := by decide +kernel
theorem dX9_matchLength_59 : decode cX9_matchLength 59 = .ok (.iconst 3, 1) := by decide +kernel
theorem dX9_matchLength_60 : decode cX9_matchLength 60 = .ok (.iload_n 1, 1) := by decide +kernel
theorem dX9_matchLength_61 : decode cX9_matchLength 61 = .ok (.imul, 1) := by decide +kernel
theorem dX9_matchLength_62 : decode cX9_matchLength 62 = .ok (.iadd, 1) := by decide +kernel
theorem dX9_matchLength_63 : decode cX9_matchLength 63 = .ok (.invokevirtual 53, 3) := by decide +kernel
theorem dX9_matchLength_66 : decode cX9_matchLength 66 = .ok (.iadd, 1) := by decide +kernel
theorem dX9_matchLength_67 : decode cX9_matchLength 67 = .ok (.laload, 1) := by decide +kernel
theorem dX9_matchLength_68 : decode cX9_matchLength 68 = .ok (.lmul, 1) := by decide +kernel
theorem dX9_matchLength_69 : decode cX9_matchLength 69 = .ok (.lstore 4, 2) := by decide +kernel
theorem dX9_matchLength_71 : decode cX9_matchLength 71 = .ok (.lload 4, 2) := by decide +kernel
theorem dX9_matchLength_73 : decode cX9_matchLength 73 = .ok (.lconst 0, 1) := by decide +kernel
theorem dX9_matchLength_74 : decode cX9_matchLength 74 = .ok (.lcmp, 1) := by decide +kernel
theorem dX9_matchLength_75 : decode cX9_matchLength 75 = .ok (.ifCond .ne 5, 3) := by decide +kernel
theorem dX9_matchLength_78 : decode cX9_matchLength 78 = .ok (.iconst 1, 1) := by decide +kernel
theorem dX9_matchLength_79 : decode cX9_matchLength 79 = .ok (.ireturn, 1) := by decide +kernel
theorem dX9_matchLength_80 : decode cX9_matchLength 80 = .ok (.lload 4, 2) := by decide +kernel
theorem dX9_matchLength_82 : decode cX9_matchLength 82 = .ok (.lconst 0, 1) := by decide +kernel
theorem dX9_matchLength_83 : decode cX9_matchLength 83 = .ok (.lcmp, 1) := by decide +kernel
theorem dX9_matchLength_84 : decode cX9_matchLength 84 = .ok (.ifCond .le 13, 3) := by decide +kernel
theorem dX9_matchLength_87 : decode cX9_matchLength 87 = .ok (.lload_n 2, 1) := by decide +kernel
theorem dX9_matchLength_88 : decode cX9_matchLength 88 = .ok (.lneg, 1) := by decide +kernel
theorem dX9_matchLength_89 : decode cX9_matchLength 89 = .ok (.lload 4, 2) := by decide +kernel
theorem dX9_matchLength_91 : decode cX9_matchLength 91 = .ok (.invokestatic 123, 3) := by decide +kernel
theorem dX9_matchLength_94 : decode cX9_matchLength 94 = .ok (.goto 10, 3) := by decide +kernel
theorem dX9_matchLength_97 : decode cX9_matchLength 97 = .ok (.lload_n 2, 1) := by decide +kernel
theorem dX9_matchLength_98 : decode cX9_matchLength 98 = .ok (.lload 4, 2) := by decide +kernel
theorem dX9_matchLength_100 : decode cX9_matchLength 100 = .ok (.lneg, 1) := by decide +kernel
theorem dX9_matchLength_101 : decode cX9_matchLength 101 = .ok (.invokestatic 123, 3) := by decide +kernel
theorem dX9_matchLength_104 : decode cX9_matchLength 104 = .ok (.lconst 1, 1) := by decide +kernel
theorem dX9_matchLength_105 : decode cX9_matchLength 105 = .ok (.ldc2_w 222, 3) := by decide +kernel
theorem dX9_matchLength_108 : decode cX9_matchLength 108 = .ok (.invokestatic 153, 3) := by decide +kernel
theorem dX9_matchLength_111 : decode cX9_matchLength 111 = .ok (.lstore 6, 2) := by decide +kernel
theorem dX9_matchLength_113 : decode cX9_matchLength 113 = .ok (.lload 6, 2) := by decide +kernel
theorem dX9_matchLength_115 : decode cX9_matchLength 115 = .ok (.lconst 1, 1) := by decide +kernel
theorem dX9_matchLength_116 : decode cX9_matchLength 116 = .ok (.ladd, 1) := by decide +kernel
theorem dX9_matchLength_117 : decode cX9_matchLength 117 = .ok (.lconst 1, 1) := by decide +kernel
theorem dX9_matchLength_118 : decode cX9_matchLength 118 = .ok (.ldc2_w 222, 3) := by decide +kernel
theorem dX9_matchLength_121 : decode cX9_matchLength 121 = .ok (.invokestatic 153, 3) := by decide +kernel
theorem dX9_matchLength_124 : decode cX9_matchLength 124 = .ok (.lstore 8, 2) := by decide +kernel
theorem dX9_matchLength_126 : decode cX9_matchLength 126 = .ok (.lload_n 2, 1) := by decide +kernel
theorem dX9_matchLength_127 : decode cX9_matchLength 127 = .ok (.lload 4, 2) := by decide +kernel
theorem dX9_matchLength_129 : decode cX9_matchLength 129 = .ok (.lload 8, 2) := by decide +kernel
theorem dX9_matchLength_131 : decode cX9_matchLength 131 = .ok (.lmul, 1) := by decide +kernel
theorem dX9_matchLength_132 : decode cX9_matchLength 132 = .ok (.ladd, 1) := by decide +kernel
theorem dX9_matchLength_133 : decode cX9_matchLength 133 = .ok (.invokestatic 224, 3) := by decide +kernel
theorem dX9_matchLength_136 : decode cX9_matchLength 136 = .ok (.lload_n 2, 1) := by decide +kernel
theorem dX9_matchLength_137 : decode cX9_matchLength 137 = .ok (.lload 4, 2) := by decide +kernel
theorem dX9_matchLength_139 : decode cX9_matchLength 139 = .ok (.lload 6, 2) := by decide +kernel
theorem dX9_matchLength_141 : decode cX9_matchLength 141 = .ok (.lmul, 1) := by decide +kernel
theorem dX9_matchLength_142 : decode cX9_matchLength 142 = .ok (.ladd, 1) := by decide +kernel
theorem dX9_matchLength_143 : decode cX9_matchLength 143 = .ok (.invokestatic 224, 3) := by decide +kernel
theorem dX9_matchLength_146 : decode cX9_matchLength 146 = .ok (.lcmp, 1) := by decide +kernel
theorem dX9_matchLength_147 : decode cX9_matchLength 147 = .ok (.ifCond .ge 8, 3) := by decide +kernel
theorem dX9_matchLength_150 : decode cX9_matchLength 150 = .ok (.lload 8, 2) := by decide +kernel
theorem dX9_matchLength_152 : decode cX9_matchLength 152 = .ok (.goto 5, 3) := by decide +kernel
theorem dX9_matchLength_155 : decode cX9_matchLength 155 = .ok (.lload 6, 2) := by decide +kernel
theorem dX9_matchLength_157 : decode cX9_matchLength 157 = .ok (.l2i, 1) := by decide +kernel
theorem dX9_matchLength_158 : decode cX9_matchLength 158 = .ok (.ireturn, 1) := by decide +kernel
set_option maxRecDepth 20000 in
theorem ggX9_bestNutNow_X9_rodsAt : GoodIn wsX9_bestNutNow wsX9_rodsAt := goodIn_r _ [7, 1, 8, 9, 10, 6, 11, 12, 13, 14, 15, 16, 17, 18, 19, 20, 45, 46, 47, 48, 49, 50, 51, 52, 53, 54, 55] (by decide +kernel) (by decide +kernel)
set_option maxRecDepth 20000 in
theorem gX9_bestNutNow_X9_rodsAt : GoodIn wsX9_bestNutNow (wsV RX9 131 RX9 yX9_rodsAt wsX9_rodsAt) := goodIn_app (goodIn_of _ (by decide +kernel)) ggX9_bestNutNow_X9_rodsAt
set_option maxRecDepth 20000 in
theorem ggX9_bestNutNow_X9_rateBy : GoodIn wsX9_bestNutNow wsX9_rateBy := goodIn_r _ [24, 25, 1, 26, 27, 18, 19, 6, 20, 28, 29, 30, 31, 32, 33, 34, 35, 36, 37, 38, 39, 40, 41, 45, 46, 47, 48, 49, 50, 51, 52, 53, 54, 55] (by decide +kernel) (by decide +kernel)
set_option maxRecDepth 20000 in
theorem gX9_bestNutNow_X9_rateBy : GoodIn wsX9_bestNutNow (wsV RX9 163 RX9 yX9_rateBy wsX9_rateBy) := goodIn_app (goodIn_of _ (by decide +kernel)) ggX9_bestNutNow_X9_rateBy
set_option maxRecDepth 20000 in
theorem ggX9_bestNutNow_X9_size : GoodIn wsX9_bestNutNow wsX9_size := goodIn_r _ [44] (by decide +kernel) (by decide +kernel)
set_option maxRecDepth 20000 in
theorem gX9_bestNutNow_X9_size : GoodIn wsX9_bestNutNow (va_wsS RX9 224 yX9_size wsX9_size) := goodIn_app (goodIn_of _ (by decide +kernel)) ggX9_bestNutNow_X9_size
theorem dX9_bestNutNow_0 : decode cX9_bestNutNow 0 = .ok (.aload_n 0, 1) := by decide +kernel
theorem dX9_bestNutNow_1 : decode cX9_bestNutNow 1 = .ok (.aload_n 0, 1) := by decide +kernel
theorem dX9_bestNutNow_2 : decode cX9_bestNutNow 2 = .ok (.getfield 7, 3) := by decide +kernel
theorem dX9_bestNutNow_5 : decode cX9_bestNutNow 5 = .ok (.bipush 6, 2) := by decide +kernel
theorem dX9_bestNutNow_7 : decode cX9_bestNutNow 7 = .ok (.laload, 1) := by decide +kernel
theorem dX9_bestNutNow_8 : decode cX9_bestNutNow 8 = .ok (.invokevirtual 131, 3) := by decide +kernel
theorem dX9_bestNutNow_11 : decode cX9_bestNutNow 11 = .ok (.lstore_n 1, 1) := by decide +kernel
theorem dX9_bestNutNow_12 : decode cX9_bestNutNow 12 = .ok (.sipush (-500), 3) := by decide +kernel
theorem dX9_bestNutNow_15 : decode cX9_bestNutNow 15 = .ok (.istore_n 3, 1) := by decide +kernel
theorem dX9_bestNutNow_16 : decode cX9_bestNutNow 16 = .ok (.sipush (-500), 3) := by decide +kernel
theorem dX9_bestNutNow_19 : decode cX9_bestNutNow 19 = .ok (.istore 4, 2) := by decide +kernel
theorem dX9_bestNutNow_21 : decode cX9_bestNutNow 21 = .ok (.iload 4, 2) := by decide +kernel
theorem dX9_bestNutNow_23 : decode cX9_bestNutNow 23 = .ok (.sipush 500, 3) := by decide +kernel
theorem dX9_bestNutNow_26 : decode cX9_bestNutNow 26 = .ok (.if_icmp .gt 51, 3) := by decide +kernel
theorem dX9_bestNutNow_29 : decode cX9_bestNutNow 29 = .ok (.aload_n 0, 1) := by decide +kernel
theorem dX9_bestNutNow_30 : decode cX9_bestNutNow 30 = .ok (.lload_n 1, 1) := by decide +kernel
theorem dX9_bestNutNow_31 : decode cX9_bestNutNow 31 = .ok (.ldc2_w 135, 3) := by decide +kernel
theorem dX9_bestNutNow_34 : decode cX9_bestNutNow 34 = .ok (.iload 4, 2) := by decide +kernel
theorem dX9_bestNutNow_36 : decode cX9_bestNutNow 36 = .ok (.i2l, 1) := by decide +kernel
theorem dX9_bestNutNow_37 : decode cX9_bestNutNow 37 = .ok (.lmul, 1) := by decide +kernel
theorem dX9_bestNutNow_38 : decode cX9_bestNutNow 38 = .ok (.ladd, 1) := by decide +kernel
theorem dX9_bestNutNow_39 : decode cX9_bestNutNow 39 = .ok (.invokevirtual 163, 3) := by decide +kernel
theorem dX9_bestNutNow_42 : decode cX9_bestNutNow 42 = .ok (.invokestatic 224, 3) := by decide +kernel
theorem dX9_bestNutNow_45 : decode cX9_bestNutNow 45 = .ok (.aload_n 0, 1) := by decide +kernel
theorem dX9_bestNutNow_46 : decode cX9_bestNutNow 46 = .ok (.lload_n 1, 1) := by decide +kernel
theorem dX9_bestNutNow_47 : decode cX9_bestNutNow 47 = .ok (.ldc2_w 135, 3) := by decide +kernel
theorem dX9_bestNutNow_50 : decode cX9_bestNutNow 50 = .ok (.iload_n 3, 1) := by decide +kernel
theorem dX9_bestNutNow_51 : decode cX9_bestNutNow 51 = .ok (.i2l, 1) := by decide +kernel
theorem dX9_bestNutNow_52 : decode cX9_bestNutNow 52 = .ok (.lmul, 1) := by decide +kernel
theorem dX9_bestNutNow_53 : decode cX9_bestNutNow 53 = .ok (.ladd, 1) := by decide +kernel
theorem dX9_bestNutNow_54 : decode cX9_bestNutNow 54 = .ok (.invokevirtual 163, 3) := by decide +kernel
theorem dX9_bestNutNow_57 : decode cX9_bestNutNow 57 = .ok (.invokestatic 224, 3) := by decide +kernel
theorem dX9_bestNutNow_60 : decode cX9_bestNutNow 60 = .ok (.lcmp, 1) := by decide +kernel
theorem dX9_bestNutNow_61 : decode cX9_bestNutNow 61 = .ok (.ifCond .ge 8, 3) := by decide +kernel
theorem dX9_bestNutNow_64 : decode cX9_bestNutNow 64 = .ok (.iload 4, 2) := by decide +kernel
theorem dX9_bestNutNow_66 : decode cX9_bestNutNow 66 = .ok (.goto 4, 3) := by decide +kernel
theorem dX9_bestNutNow_69 : decode cX9_bestNutNow 69 = .ok (.iload_n 3, 1) := by decide +kernel
theorem dX9_bestNutNow_70 : decode cX9_bestNutNow 70 = .ok (.istore_n 3, 1) := by decide +kernel
theorem dX9_bestNutNow_71 : decode cX9_bestNutNow 71 = .ok (.iinc 4 1, 3) := by decide +kernel
theorem dX9_bestNutNow_74 : decode cX9_bestNutNow 74 = .ok (.goto (-53), 3) := by decide +kernel
theorem dX9_bestNutNow_77 : decode cX9_bestNutNow 77 = .ok (.iload_n 3, 1) := by decide +kernel
theorem dX9_bestNutNow_78 : decode cX9_bestNutNow 78 = .ok (.ireturn, 1) := by decide +kernel
set_option maxRecDepth 20000 in
theorem ggX9_bestNut_X9_bestNutNow : GoodIn wsX9_bestNut wsX9_bestNutNow := goodIn_r _ [6, 7, 8, 9, 10, 11, 5, 12, 13, 14, 15, 16, 17, 18, 19, 20, 21, 22, 23, 24, 25, 26, 27, 28, 29, 30, 31, 32, 33, 34, 35, 36, 37, 38, 39, 40, 41, 42, 43, 44, 45, 46, 47, 48, 49, 50, 51, 52, 53, 54, 55, 56, 57, 58, 59, 60] (by decide +kernel) (by decide +kernel)
set_option maxRecDepth 20000 in
theorem gX9_bestNut_X9_bestNutNow : GoodIn wsX9_bestNut (wsV RX9 227 RX9 yX9_bestNutNow wsX9_bestNutNow) := goodIn_app (goodIn_of _ (by decide +kernel)) ggX9_bestNut_X9_bestNutNow
theorem dX9_bestNut_0 : decode cX9_bestNut 0 = .ok (.aload_n 0, 1) := by decide +kernel
theorem dX9_bestNut_1 : decode cX9_bestNut 1 = .ok (.iconst 0, 1) := by decide +kernel
theorem dX9_bestNut_2 : decode cX9_bestNut 2 = .ok (.putfield 42, 3) := by decide +kernel
theorem dX9_bestNut_5 : decode cX9_bestNut 5 = .ok (.aload_n 0, 1) := by decide +kernel
theorem dX9_bestNut_6 : decode cX9_bestNut 6 = .ok (.invokevirtual 227, 3) := by decide +kernel
theorem dX9_bestNut_9 : decode cX9_bestNut 9 = .ok (.ireturn, 1) := by decide +kernel
set_option maxRecDepth 20000 in
theorem ggX9_rangeOfRates_X9_isWarmth : GoodIn wsX9_rangeOfRates wsX9_isWarmth := goodIn_r _ [5, 6, 7, 4, 8] (by decide +kernel) (by decide +kernel)
set_option maxRecDepth 20000 in
theorem gX9_rangeOfRates_X9_isWarmth : GoodIn wsX9_rangeOfRates (va_wsS RX9 101 yX9_isWarmth wsX9_isWarmth) := goodIn_app (goodIn_of _ (by decide +kernel)) ggX9_rangeOfRates_X9_isWarmth
set_option maxRecDepth 20000 in
theorem ggX9_rangeOfRates_X9_in : GoodIn wsX9_rangeOfRates wsX9_in := goodIn_r _ [8] (by decide +kernel) (by decide +kernel)
set_option maxRecDepth 20000 in
theorem gX9_rangeOfRates_X9_in : GoodIn wsX9_rangeOfRates (va_wsS RX9 57 yX9_in wsX9_in) := goodIn_app (goodIn_of _ (by decide +kernel)) ggX9_rangeOfRates_X9_in
set_option maxRecDepth 20000 in
theorem ggX9_rangeOfRates_X9_lengthAt : GoodIn wsX9_rangeOfRates wsX9_lengthAt := goodIn_r _ [12, 13, 14, 15, 16, 17, 4, 18, 19, 20, 21, 22, 23, 24, 25, 26, 27, 28, 29, 30, 31, 53, 54, 55, 56, 57, 58, 59, 60, 61, 62, 63] (by decide +kernel) (by decide +kernel)
set_option maxRecDepth 20000 in
theorem gX9_rangeOfRates_X9_lengthAt : GoodIn wsX9_rangeOfRates (wsV RX9 160 RX9 yX9_lengthAt wsX9_lengthAt) := goodIn_app (goodIn_of _ (by decide +kernel)) ggX9_rangeOfRates_X9_lengthAt
set_option maxRecDepth 20000 in
theorem ggX9_rangeOfRates_X9_rateBy : GoodIn wsX9_rangeOfRates wsX9_rateBy := goodIn_r _ [35, 36, 14, 37, 38, 29, 30, 4, 31, 39, 40, 41, 42, 43, 44, 45, 46, 47, 48, 49, 50, 51, 52, 53, 54, 55, 56, 57, 58, 59, 60, 61, 62, 63] (by decide +kernel) (by decide +kernel)
set_option maxRecDepth 20000 in
theorem gX9_rangeOfRates_X9_rateBy : GoodIn wsX9_rangeOfRates (wsV RX9 163 RX9 yX9_rateBy wsX9_rateBy) := goodIn_app (goodIn_of _ (by decide +kernel)) ggX9_rangeOfRates_X9_rateBy
theorem dX9_rangeOfRates_0 : decode cX9_rangeOfRates 0 = .ok (.aload_n 0, 1) := by decide +kernel
theorem dX9_rangeOfRates_1 : decode cX9_rangeOfRates 1 = .ok (.iload_n 1, 1) := by decide +kernel
theorem dX9_rangeOfRates_2 : decode cX9_rangeOfRates 2 = .ok (.invokestatic 101, 3) := by decide +kernel
theorem dX9_rangeOfRates_5 : decode cX9_rangeOfRates 5 = .ok (.ifCond .eq 18, 3) := by decide +kernel
theorem dX9_rangeOfRates_8 : decode cX9_rangeOfRates 8 = .ok (.iload_n 2, 1) := by decide +kernel
theorem dX9_rangeOfRates_9 : decode cX9_rangeOfRates 9 = .ok (.iload_n 1, 1) := by decide +kernel
theorem dX9_rangeOfRates_10 : decode cX9_rangeOfRates 10 = .ok (.sipush 600, 3) := by decide +kernel
theorem dX9_rangeOfRates_13 : decode cX9_rangeOfRates 13 = .ok (.invokestatic 57, 3) := by decide +kernel
theorem dX9_rangeOfRates_16 : decode cX9_rangeOfRates 16 = .ok (.ifCond .eq 7, 3) := by decide +kernel
theorem dX9_rangeOfRates_19 : decode cX9_rangeOfRates 19 = .ok (.iconst 0, 1) := by decide +kernel
theorem dX9_rangeOfRates_20 : decode cX9_rangeOfRates 20 = .ok (.goto 4, 3) := by decide +kernel
theorem dX9_rangeOfRates_23 : decode cX9_rangeOfRates 23 = .ok (.iconst 1, 1) := by decide +kernel
theorem dX9_rangeOfRates_24 : decode cX9_rangeOfRates 24 = .ok (.putfield 42, 3) := by decide +kernel
theorem dX9_rangeOfRates_27 : decode cX9_rangeOfRates 27 = .ok (.aload_n 0, 1) := by decide +kernel
theorem dX9_rangeOfRates_28 : decode cX9_rangeOfRates 28 = .ok (.getfield 42, 3) := by decide +kernel
theorem dX9_rangeOfRates_31 : decode cX9_rangeOfRates 31 = .ok (.ifCond .eq 5, 3) := by decide +kernel
theorem dX9_rangeOfRates_34 : decode cX9_rangeOfRates 34 = .ok (.iconst 0, 1) := by decide +kernel
theorem dX9_rangeOfRates_35 : decode cX9_rangeOfRates 35 = .ok (.ireturn, 1) := by decide +kernel
theorem dX9_rangeOfRates_36 : decode cX9_rangeOfRates 36 = .ok (.aload_n 0, 1) := by decide +kernel
theorem dX9_rangeOfRates_37 : decode cX9_rangeOfRates 37 = .ok (.aload_n 0, 1) := by decide +kernel
theorem dX9_rangeOfRates_38 : decode cX9_rangeOfRates 38 = .ok (.iload_n 1, 1) := by decide +kernel
theorem dX9_rangeOfRates_39 : decode cX9_rangeOfRates 39 = .ok (.i2l, 1) := by decide +kernel
theorem dX9_rangeOfRates_40 : decode cX9_rangeOfRates 40 = .ok (.invokevirtual 160, 3) := by decide +kernel
theorem dX9_rangeOfRates_43 : decode cX9_rangeOfRates 43 = .ok (.invokevirtual 163, 3) := by decide +kernel
theorem dX9_rangeOfRates_46 : decode cX9_rangeOfRates 46 = .ok (.lstore_n 3, 1) := by decide +kernel
theorem dX9_rangeOfRates_47 : decode cX9_rangeOfRates 47 = .ok (.lload_n 3, 1) := by decide +kernel
theorem dX9_rangeOfRates_48 : decode cX9_rangeOfRates 48 = .ok (.lstore 5, 2) := by decide +kernel
theorem dX9_rangeOfRates_50 : decode cX9_rangeOfRates 50 = .ok (.iload_n 1, 1) := by decide +kernel
theorem dX9_rangeOfRates_51 : decode cX9_rangeOfRates 51 = .ok (.istore 7, 2) := by decide +kernel
theorem dX9_rangeOfRates_53 : decode cX9_rangeOfRates 53 = .ok (.iload 7, 2) := by decide +kernel
theorem dX9_rangeOfRates_55 : decode cX9_rangeOfRates 55 = .ok (.iload_n 2, 1) := by decide +kernel
theorem dX9_rangeOfRates_56 : decode cX9_rangeOfRates 56 = .ok (.if_icmp .gt 53, 3) := by decide +kernel
theorem dX9_rangeOfRates_59 : decode cX9_rangeOfRates 59 = .ok (.aload_n 0, 1) := by decide +kernel
theorem dX9_rangeOfRates_60 : decode cX9_rangeOfRates 60 = .ok (.aload_n 0, 1) := by decide +kernel
theorem dX9_rangeOfRates_61 : decode cX9_rangeOfRates 61 = .ok (.iload 7, 2) := by decide +kernel
theorem dX9_rangeOfRates_63 : decode cX9_rangeOfRates 63 = .ok (.i2l, 1) := by decide +kernel
theorem dX9_rangeOfRates_64 : decode cX9_rangeOfRates 64 = .ok (.invokevirtual 160, 3) := by decide +kernel
theorem dX9_rangeOfRates_67 : decode cX9_rangeOfRates 67 = .ok (.invokevirtual 163, 3) := by decide +kernel
theorem dX9_rangeOfRates_70 : decode cX9_rangeOfRates 70 = .ok (.lstore 8, 2) := by decide +kernel
theorem dX9_rangeOfRates_72 : decode cX9_rangeOfRates 72 = .ok (.lload 8, 2) := by decide +kernel
theorem dX9_rangeOfRates_74 : decode cX9_rangeOfRates 74 = .ok (.lload_n 3, 1) := by decide +kernel
theorem dX9_rangeOfRates_75 : decode cX9_rangeOfRates 75 = .ok (.lcmp, 1) := by decide +kernel
theorem dX9_rangeOfRates_76 : decode cX9_rangeOfRates 76 = .ok (.ifCond .ge 8, 3) := by decide +kernel
theorem dX9_rangeOfRates_79 : decode cX9_rangeOfRates 79 = .ok (.lload 8, 2) := by decide +kernel
theorem dX9_rangeOfRates_81 : decode cX9_rangeOfRates 81 = .ok (.goto 4, 3) := by decide +kernel
theorem dX9_rangeOfRates_84 : decode cX9_rangeOfRates 84 = .ok (.lload_n 3, 1) := by decide +kernel
theorem dX9_rangeOfRates_85 : decode cX9_rangeOfRates 85 = .ok (.lstore_n 3, 1) := by decide +kernel
theorem dX9_rangeOfRates_86 : decode cX9_rangeOfRates 86 = .ok (.lload 8, 2) := by decide +kernel
theorem dX9_rangeOfRates_88 : decode cX9_rangeOfRates 88 = .ok (.lload 5, 2) := by decide +kernel
theorem dX9_rangeOfRates_90 : decode cX9_rangeOfRates 90 = .ok (.lcmp, 1) := by decide +kernel
theorem dX9_rangeOfRates_91 : decode cX9_rangeOfRates 91 = .ok (.ifCond .le 8, 3) := by decide +kernel
theorem dX9_rangeOfRates_94 : decode cX9_rangeOfRates 94 = .ok (.lload 8, 2) := by decide +kernel
theorem dX9_rangeOfRates_96 : decode cX9_rangeOfRates 96 = .ok (.goto 5, 3) := by decide +kernel
theorem dX9_rangeOfRates_99 : decode cX9_rangeOfRates 99 = .ok (.lload 5, 2) := by decide +kernel
theorem dX9_rangeOfRates_101 : decode cX9_rangeOfRates 101 = .ok (.lstore 5, 2) := by decide +kernel
theorem dX9_rangeOfRates_103 : decode cX9_rangeOfRates 103 = .ok (.iinc 7 10, 3) := by decide +kernel
theorem dX9_rangeOfRates_106 : decode cX9_rangeOfRates 106 = .ok (.goto (-53), 3) := by decide +kernel
theorem dX9_rangeOfRates_109 : decode cX9_rangeOfRates 109 = .ok (.lload 5, 2) := by decide +kernel
theorem dX9_rangeOfRates_111 : decode cX9_rangeOfRates 111 = .ok (.lload_n 3, 1) := by decide +kernel
theorem dX9_rangeOfRates_112 : decode cX9_rangeOfRates 112 = .ok (.lsub, 1) := by decide +kernel
theorem dX9_rangeOfRates_113 : decode cX9_rangeOfRates 113 = .ok (.l2i, 1) := by decide +kernel
theorem dX9_rangeOfRates_114 : decode cX9_rangeOfRates 114 = .ok (.ireturn, 1) := by decide +kernel
set_option maxRecDepth 20000 in
theorem ggX9_changeWithin_X9_in : GoodIn wsX9_changeWithin wsX9_in := goodIn_r _ [7] (by decide +kernel) (by decide +kernel)
set_option maxRecDepth 20000 in
theorem gX9_changeWithin_X9_in : GoodIn wsX9_changeWithin (va_wsS RX9 57 yX9_in wsX9_in) := goodIn_app (goodIn_of _ (by decide +kernel)) ggX9_changeWithin_X9_in
set_option maxRecDepth 20000 in
theorem ggX9_changeWithin_X9_bring : GoodIn wsX9_changeWithin wsX9_bring := goodIn_r _ [10] (by decide +kernel) (by decide +kernel)
set_option maxRecDepth 20000 in
theorem gX9_changeWithin_X9_bring : GoodIn wsX9_changeWithin (va_wsS RX9 49 yX9_bring wsX9_bring) := goodIn_app (goodIn_of _ (by decide +kernel)) ggX9_changeWithin_X9_bring
set_option maxRecDepth 20000 in
theorem ggX9_changeWithin_X9_passes : GoodIn wsX9_changeWithin wsX9_passes := goodIn_r _ [14, 2, 15, 16, 17, 18, 19, 20, 6, 21, 22, 23, 24, 25, 26, 27, 28, 29, 30, 31, 32, 33, 34, 35, 36, 37, 38, 39, 40, 41, 42, 43, 44, 45, 46, 47, 48, 49, 50, 51, 52, 53, 54, 55, 56, 57, 58, 59, 60, 61, 62, 63, 64, 65, 66, 67, 68, 69, 70, 71, 72, 73, 74, 75, 76, 77, 78, 79, 80, 81, 82, 83, 84, 85, 86, 87, 88] (by decide +kernel) (by decide +kernel)
set_option maxRecDepth 20000 in
theorem gX9_changeWithin_X9_passes : GoodIn wsX9_changeWithin (wsV RX9 191 RX9 yX9_passes wsX9_passes) := goodIn_app (goodIn_of _ (by decide +kernel)) ggX9_changeWithin_X9_passes
theorem dX9_changeWithin_0 : decode cX9_changeWithin 0 = .ok (.aload_n 0, 1) := by decide +kernel
theorem dX9_changeWithin_1 : decode cX9_changeWithin 1 = .ok (.iload_n 1, 1) := by decide +kernel
theorem dX9_changeWithin_2 : decode cX9_changeWithin 2 = .ok (.iconst 0, 1) := by decide +kernel
theorem dX9_changeWithin_3 : decode cX9_changeWithin 3 = .ok (.sipush 500, 3) := by decide +kernel
theorem dX9_changeWithin_6 : decode cX9_changeWithin 6 = .ok (.invokestatic 57, 3) := by decide +kernel
theorem dX9_changeWithin_9 : decode cX9_changeWithin 9 = .ok (.ifCond .eq 7, 3) := by decide +kernel
theorem dX9_changeWithin_12 : decode cX9_changeWithin 12 = .ok (.iconst 0, 1) := by decide +kernel
theorem dX9_changeWithin_13 : decode cX9_changeWithin 13 = .ok (.goto 4, 3) := by decide +kernel
theorem dX9_changeWithin_16 : decode cX9_changeWithin 16 = .ok (.iconst 1, 1) := by decide +kernel
theorem dX9_changeWithin_17 : decode cX9_changeWithin 17 = .ok (.putfield 42, 3) := by decide +kernel
theorem dX9_changeWithin_20 : decode cX9_changeWithin 20 = .ok (.aload_n 0, 1) := by decide +kernel
theorem dX9_changeWithin_21 : decode cX9_changeWithin 21 = .ok (.getfield 42, 3) := by decide +kernel
theorem dX9_changeWithin_24 : decode cX9_changeWithin 24 = .ok (.ifCond .eq 5, 3) := by decide +kernel
theorem dX9_changeWithin_27 : decode cX9_changeWithin 27 = .ok (.lconst 0, 1) := by decide +kernel
theorem dX9_changeWithin_28 : decode cX9_changeWithin 28 = .ok (.lreturn, 1) := by decide +kernel
theorem dX9_changeWithin_29 : decode cX9_changeWithin 29 = .ok (.aload_n 0, 1) := by decide +kernel
theorem dX9_changeWithin_30 : decode cX9_changeWithin 30 = .ok (.getfield 7, 3) := by decide +kernel
theorem dX9_changeWithin_33 : decode cX9_changeWithin 33 = .ok (.iconst 0, 1) := by decide +kernel
theorem dX9_changeWithin_34 : decode cX9_changeWithin 34 = .ok (.aload_n 0, 1) := by decide +kernel
theorem dX9_changeWithin_35 : decode cX9_changeWithin 35 = .ok (.getfield 13, 3) := by decide +kernel
theorem dX9_changeWithin_38 : decode cX9_changeWithin 38 = .ok (.iconst 0, 1) := by decide +kernel
theorem dX9_changeWithin_39 : decode cX9_changeWithin 39 = .ok (.invokestatic 49, 3) := by decide +kernel
theorem dX9_changeWithin_42 : decode cX9_changeWithin 42 = .ok (.aload_n 0, 1) := by decide +kernel
theorem dX9_changeWithin_43 : decode cX9_changeWithin 43 = .ok (.iload_n 1, 1) := by decide +kernel
theorem dX9_changeWithin_44 : decode cX9_changeWithin 44 = .ok (.invokevirtual 191, 3) := by decide +kernel
theorem dX9_changeWithin_47 : decode cX9_changeWithin 47 = .ok (.istore_n 2, 1) := by decide +kernel
theorem dX9_changeWithin_48 : decode cX9_changeWithin 48 = .ok (.aload_n 0, 1) := by decide +kernel
theorem dX9_changeWithin_49 : decode cX9_changeWithin 49 = .ok (.getfield 7, 3) := by decide +kernel
theorem dX9_changeWithin_52 : decode cX9_changeWithin 52 = .ok (.bipush 12, 2) := by decide +kernel
theorem dX9_changeWithin_54 : decode cX9_changeWithin 54 = .ok (.laload, 1) := by decide +kernel
theorem dX9_changeWithin_55 : decode cX9_changeWithin 55 = .ok (.aload_n 0, 1) := by decide +kernel
theorem dX9_changeWithin_56 : decode cX9_changeWithin 56 = .ok (.getfield 13, 3) := by decide +kernel
theorem dX9_changeWithin_59 : decode cX9_changeWithin 59 = .ok (.bipush 12, 2) := by decide +kernel
theorem dX9_changeWithin_61 : decode cX9_changeWithin 61 = .ok (.laload, 1) := by decide +kernel
theorem dX9_changeWithin_62 : decode cX9_changeWithin 62 = .ok (.lsub, 1) := by decide +kernel
theorem dX9_changeWithin_63 : decode cX9_changeWithin 63 = .ok (.lstore_n 3, 1) := by decide +kernel
theorem dX9_changeWithin_64 : decode cX9_changeWithin 64 = .ok (.aload_n 0, 1) := by decide +kernel
theorem dX9_changeWithin_65 : decode cX9_changeWithin 65 = .ok (.getfield 13, 3) := by decide +kernel
theorem dX9_changeWithin_68 : decode cX9_changeWithin 68 = .ok (.iconst 0, 1) := by decide +kernel
theorem dX9_changeWithin_69 : decode cX9_changeWithin 69 = .ok (.aload_n 0, 1) := by decide +kernel
theorem dX9_changeWithin_70 : decode cX9_changeWithin 70 = .ok (.getfield 7, 3) := by decide +kernel
theorem dX9_changeWithin_73 : decode cX9_changeWithin 73 = .ok (.iconst 0, 1) := by decide +kernel
theorem dX9_changeWithin_74 : decode cX9_changeWithin 74 = .ok (.invokestatic 49, 3) := by decide +kernel
theorem dX9_changeWithin_77 : decode cX9_changeWithin 77 = .ok (.lload_n 3, 1) := by decide +kernel
theorem dX9_changeWithin_78 : decode cX9_changeWithin 78 = .ok (.lreturn, 1) := by decide +kernel
set_option maxRecDepth 20000 in
theorem ggX9_type_X9_in : GoodIn wsX9_type wsX9_in := goodIn_r _ [7] (by decide +kernel) (by decide +kernel)
set_option maxRecDepth 20000 in
theorem gX9_type_X9_in : GoodIn wsX9_type (va_wsS RX9 57 yX9_in wsX9_in) := goodIn_app (goodIn_of _ (by decide +kernel)) ggX9_type_X9_in
theorem dX9_type_0 : decode cX9_type 0 = .ok (.aload_n 0, 1) := by decide +kernel
theorem dX9_type_1 : decode cX9_type 1 = .ok (.iload_n 1, 1) := by decide +kernel
theorem dX9_type_2 : decode cX9_type 2 = .ok (.iconst 0, 1) := by decide +kernel
theorem dX9_type_3 : decode cX9_type 3 = .ok (.bipush 127, 2) := by decide +kernel
theorem dX9_type_5 : decode cX9_type 5 = .ok (.invokestatic 57, 3) := by decide +kernel
theorem dX9_type_8 : decode cX9_type 8 = .ok (.ifCond .ne 7, 3) := by decide +kernel
theorem dX9_type_11 : decode cX9_type 11 = .ok (.iconst 1, 1) := by decide +kernel
theorem dX9_type_12 : decode cX9_type 12 = .ok (.goto 18, 3) := by decide +kernel
theorem dX9_type_15 : decode cX9_type 15 = .ok (.aload_n 0, 1) := by decide +kernel
theorem dX9_type_16 : decode cX9_type 16 = .ok (.getfield 197, 3) := by decide +kernel
theorem dX9_type_19 : decode cX9_type 19 = .ok (.sipush 150, 3) := by decide +kernel
theorem dX9_type_22 : decode cX9_type 22 = .ok (.if_icmp .ne 7, 3) := by decide +kernel
theorem dX9_type_25 : decode cX9_type 25 = .ok (.iconst 2, 1) := by decide +kernel
theorem dX9_type_26 : decode cX9_type 26 = .ok (.goto 4, 3) := by decide +kernel
theorem dX9_type_29 : decode cX9_type 29 = .ok (.iconst 0, 1) := by decide +kernel
theorem dX9_type_30 : decode cX9_type 30 = .ok (.putfield 42, 3) := by decide +kernel
theorem dX9_type_33 : decode cX9_type 33 = .ok (.aload_n 0, 1) := by decide +kernel
theorem dX9_type_34 : decode cX9_type 34 = .ok (.getfield 42, 3) := by decide +kernel
theorem dX9_type_37 : decode cX9_type 37 = .ok (.ifCond .eq 5, 3) := by decide +kernel
theorem dX9_type_40 : decode cX9_type 40 = .ok (.iconst 0, 1) := by decide +kernel
theorem dX9_type_41 : decode cX9_type 41 = .ok (.ireturn, 1) := by decide +kernel
theorem dX9_type_42 : decode cX9_type 42 = .ok (.aload_n 0, 1) := by decide +kernel
theorem dX9_type_43 : decode cX9_type 43 = .ok (.getfield 19, 3) := by decide +kernel
theorem dX9_type_46 : decode cX9_type 46 = .ok (.aload_n 0, 1) := by decide +kernel
theorem dX9_type_47 : decode cX9_type 47 = .ok (.getfield 197, 3) := by decide +kernel
theorem dX9_type_50 : decode cX9_type 50 = .ok (.iload_n 1, 1) := by decide +kernel
theorem dX9_type_51 : decode cX9_type 51 = .ok (.iastore, 1) := by decide +kernel
theorem dX9_type_52 : decode cX9_type 52 = .ok (.aload_n 0, 1) := by decide +kernel
theorem dX9_type_53 : decode cX9_type 53 = .ok (.dup, 1) := by decide +kernel
theorem dX9_type_54 : decode cX9_type 54 = .ok (.getfield 197, 3) := by decide +kernel
theorem dX9_type_57 : decode cX9_type 57 = .ok (.iconst 1, 1) := by decide +kernel
theorem dX9_type_58 : decode cX9_type 58 = .ok (.iadd, 1) := by decide +kernel
theorem dX9_type_59 : decode cX9_type 59 = .ok (.putfield 197, 3) := by decide +kernel
theorem dX9_type_62 : decode cX9_type 62 = .ok (.aload_n 0, 1) := by decide +kernel
theorem dX9_type_63 : decode cX9_type 63 = .ok (.getfield 197, 3) := by decide +kernel
theorem dX9_type_66 : decode cX9_type 66 = .ok (.ireturn, 1) := by decide +kernel
theorem dX9_clearCommands_0 : decode cX9_clearCommands 0 = .ok (.aload_n 0, 1) := by decide +kernel
theorem dX9_clearCommands_1 : decode cX9_clearCommands 1 = .ok (.iconst 0, 1) := by decide +kernel
theorem dX9_clearCommands_2 : decode cX9_clearCommands 2 = .ok (.putfield 42, 3) := by decide +kernel
theorem dX9_clearCommands_5 : decode cX9_clearCommands 5 = .ok (.aload_n 0, 1) := by decide +kernel
theorem dX9_clearCommands_6 : decode cX9_clearCommands 6 = .ok (.getfield 197, 3) := by decide +kernel
theorem dX9_clearCommands_9 : decode cX9_clearCommands 9 = .ok (.istore_n 1, 1) := by decide +kernel
theorem dX9_clearCommands_10 : decode cX9_clearCommands 10 = .ok (.aload_n 0, 1) := by decide +kernel
theorem dX9_clearCommands_11 : decode cX9_clearCommands 11 = .ok (.iconst 0, 1) := by decide +kernel
theorem dX9_clearCommands_12 : decode cX9_clearCommands 12 = .ok (.putfield 197, 3) := by decide +kernel
theorem dX9_clearCommands_15 : decode cX9_clearCommands 15 = .ok (.iload_n 1, 1) := by decide +kernel
theorem dX9_clearCommands_16 : decode cX9_clearCommands 16 = .ok (.ireturn, 1) := by decide +kernel
theorem dX9_here_0 : decode cX9_here 0 = .ok (.aload_n 0, 1) := by decide +kernel
theorem dX9_here_1 : decode cX9_here 1 = .ok (.getfield 230, 3) := by decide +kernel
theorem dX9_here_4 : decode cX9_here 4 = .ok (.aload_n 0, 1) := by decide +kernel
theorem dX9_here_5 : decode cX9_here 5 = .ok (.getfield 197, 3) := by decide +kernel
theorem dX9_here_8 : decode cX9_here 8 = .ok (.if_icmp .ge 15, 3) := by decide +kernel
theorem dX9_here_11 : decode cX9_here 11 = .ok (.aload_n 0, 1) := by decide +kernel
theorem dX9_here_12 : decode cX9_here 12 = .ok (.getfield 19, 3) := by decide +kernel
theorem dX9_here_15 : decode cX9_here 15 = .ok (.aload_n 0, 1) := by decide +kernel
theorem dX9_here_16 : decode cX9_here 16 = .ok (.getfield 230, 3) := by decide +kernel
theorem dX9_here_19 : decode cX9_here 19 = .ok (.iaload, 1) := by decide +kernel
theorem dX9_here_20 : decode cX9_here 20 = .ok (.goto 5, 3) := by decide +kernel
theorem dX9_here_23 : decode cX9_here 23 = .ok (.ldc 233, 2) := by decide +kernel
theorem dX9_here_25 : decode cX9_here 25 = .ok (.ireturn, 1) := by decide +kernel
set_option maxRecDepth 20000 in
theorem ggX9_skips_X9_here : GoodIn wsX9_skips wsX9_here := goodIn_r _ [6, 1, 7, 8, 9, 10, 11, 12, 13, 14, 15, 16, 17, 18, 19, 20] (by decide +kernel) (by decide +kernel)
set_option maxRecDepth 20000 in
theorem gX9_skips_X9_here : GoodIn wsX9_skips (wsV RX9 234 RX9 yX9_here wsX9_here) := goodIn_app (goodIn_of _ (by decide +kernel)) ggX9_skips_X9_here
theorem dX9_skips_0 : decode cX9_skips 0 = .ok (.aload_n 0, 1) := by decide +kernel
theorem dX9_skips_1 : decode cX9_skips 1 = .ok (.getfield 230, 3) := by decide +kernel
theorem dX9_skips_4 : decode cX9_skips 4 = .ok (.istore_n 1, 1) := by decide +kernel
theorem dX9_skips_5 : decode cX9_skips 5 = .ok (.aload_n 0, 1) := by decide +kernel
theorem dX9_skips_6 : decode cX9_skips 6 = .ok (.invokevirtual 234, 3) := by decide +kernel
theorem dX9_skips_9 : decode cX9_skips 9 = .ok (.bipush 32, 2) := by decide +kernel
theorem dX9_skips_11 : decode cX9_skips 11 = .ok (.if_icmp .ne 16, 3) := by decide +kernel
theorem dX9_skips_14 : decode cX9_skips 14 = .ok (.aload_n 0, 1) := by decide +kernel
theorem dX9_skips_15 : decode cX9_skips 15 = .ok (.dup, 1) := by decide +kernel
theorem dX9_skips_16 : decode cX9_skips 16 = .ok (.getfield 230, 3) := by decide +kernel
theorem dX9_skips_19 : decode cX9_skips 19 = .ok (.iconst 1, 1) := by decide +kernel
theorem dX9_skips_20 : decode cX9_skips 20 = .ok (.iadd, 1) := by decide +kernel
theorem dX9_skips_21 : decode cX9_skips 21 = .ok (.putfield 230, 3) := by decide +kernel
theorem dX9_skips_24 : decode cX9_skips 24 = .ok (.goto (-19), 3) := by decide +kernel
theorem dX9_skips_27 : decode cX9_skips 27 = .ok (.aload_n 0, 1) := by decide +kernel
theorem dX9_skips_28 : decode cX9_skips 28 = .ok (.getfield 230, 3) := by decide +kernel
theorem dX9_skips_31 : decode cX9_skips 31 = .ok (.iload_n 1, 1) := by decide +kernel
theorem dX9_skips_32 : decode cX9_skips 32 = .ok (.if_icmp .le 7, 3) := by decide +kernel
theorem dX9_skips_35 : decode cX9_skips 35 = .ok (.iconst 1, 1) := by decide +kernel
theorem dX9_skips_36 : decode cX9_skips 36 = .ok (.goto 4, 3) := by decide +kernel
theorem dX9_skips_39 : decode cX9_skips 39 = .ok (.iconst 0, 1) := by decide +kernel
theorem dX9_skips_40 : decode cX9_skips 40 = .ok (.ireturn, 1) := by decide +kernel
theorem dX9_commandOf_0 : decode cX9_commandOf 0 = .ok (.lload_n 0, 1) := by decide +kernel
theorem dX9_commandOf_1 : decode cX9_commandOf 1 = .ok (.ldc2_w 237, 3) := by decide +kernel
theorem dX9_commandOf_4 : decode cX9_commandOf 4 = .ok (.lcmp, 1) := by decide +kernel
theorem dX9_commandOf_5 : decode cX9_commandOf 5 = .ok (.ifCond .eq 27, 3) := by decide +kernel
theorem dX9_commandOf_8 : decode cX9_commandOf 8 = .ok (.lload_n 0, 1) := by decide +kernel
theorem dX9_commandOf_9 : decode cX9_commandOf 9 = .ok (.ldc2_w 239, 3) := by decide +kernel
theorem dX9_commandOf_12 : decode cX9_commandOf 12 = .ok (.lcmp, 1) := by decide +kernel
theorem dX9_commandOf_13 : decode cX9_commandOf 13 = .ok (.ifCond .eq 19, 3) := by decide +kernel
theorem dX9_commandOf_16 : decode cX9_commandOf 16 = .ok (.lload_n 0, 1) := by decide +kernel
theorem dX9_commandOf_17 : decode cX9_commandOf 17 = .ok (.ldc2_w 241, 3) := by decide +kernel
theorem dX9_commandOf_20 : decode cX9_commandOf 20 = .ok (.lcmp, 1) := by decide +kernel
theorem dX9_commandOf_21 : decode cX9_commandOf 21 = .ok (.ifCond .eq 11, 3) := by decide +kernel
theorem dX9_commandOf_24 : decode cX9_commandOf 24 = .ok (.lload_n 0, 1) := by decide +kernel
theorem dX9_commandOf_25 : decode cX9_commandOf 25 = .ok (.ldc2_w 243, 3) := by decide +kernel
theorem dX9_commandOf_28 : decode cX9_commandOf 28 = .ok (.lcmp, 1) := by decide +kernel
theorem dX9_commandOf_29 : decode cX9_commandOf 29 = .ok (.ifCond .ne 41, 3) := by decide +kernel
theorem dX9_commandOf_32 : decode cX9_commandOf 32 = .ok (.lload_n 0, 1) := by decide +kernel
theorem dX9_commandOf_33 : decode cX9_commandOf 33 = .ok (.ldc2_w 237, 3) := by decide +kernel
theorem dX9_commandOf_36 : decode cX9_commandOf 36 = .ok (.lcmp, 1) := by decide +kernel
theorem dX9_commandOf_37 : decode cX9_commandOf 37 = .ok (.ifCond .ne 7, 3) := by decide +kernel
theorem dX9_commandOf_40 : decode cX9_commandOf 40 = .ok (.iconst 0, 1) := by decide +kernel
theorem dX9_commandOf_41 : decode cX9_commandOf 41 = .ok (.goto 28, 3) := by decide +kernel
theorem dX9_commandOf_44 : decode cX9_commandOf 44 = .ok (.lload_n 0, 1) := by decide +kernel
theorem dX9_commandOf_45 : decode cX9_commandOf 45 = .ok (.ldc2_w 239, 3) := by decide +kernel
theorem dX9_commandOf_48 : decode cX9_commandOf 48 = .ok (.lcmp, 1) := by decide +kernel
theorem dX9_commandOf_49 : decode cX9_commandOf 49 = .ok (.ifCond .ne 7, 3) := by decide +kernel
theorem dX9_commandOf_52 : decode cX9_commandOf 52 = .ok (.iconst 1, 1) := by decide +kernel
theorem dX9_commandOf_53 : decode cX9_commandOf 53 = .ok (.goto 16, 3) := by decide +kernel
theorem dX9_commandOf_56 : decode cX9_commandOf 56 = .ok (.lload_n 0, 1) := by decide +kernel
theorem dX9_commandOf_57 : decode cX9_commandOf 57 = .ok (.ldc2_w 241, 3) := by decide +kernel
theorem dX9_commandOf_60 : decode cX9_commandOf 60 = .ok (.lcmp, 1) := by decide +kernel
theorem dX9_commandOf_61 : decode cX9_commandOf 61 = .ok (.ifCond .ne 7, 3) := by decide +kernel
theorem dX9_commandOf_64 : decode cX9_commandOf 64 = .ok (.iconst 2, 1) := by decide +kernel
theorem dX9_commandOf_65 : decode cX9_commandOf 65 = .ok (.goto 4, 3) := by decide +kernel
theorem dX9_commandOf_68 : decode cX9_commandOf 68 = .ok (.iconst 3, 1) := by decide +kernel
theorem dX9_commandOf_69 : decode cX9_commandOf 69 = .ok (.ireturn, 1) := by decide +kernel
theorem dX9_commandOf_70 : decode cX9_commandOf 70 = .ok (.lload_n 0, 1) := by decide +kernel
theorem dX9_commandOf_71 : decode cX9_commandOf 71 = .ok (.ldc2_w 245, 3) := by decide +kernel
theorem dX9_commandOf_74 : decode cX9_commandOf 74 = .ok (.lcmp, 1) := by decide +kernel
theorem dX9_commandOf_75 : decode cX9_commandOf 75 = .ok (.ifCond .eq 27, 3) := by decide +kernel
theorem dX9_commandOf_78 : decode cX9_commandOf 78 = .ok (.lload_n 0, 1) := by decide +kernel
theorem dX9_commandOf_79 : decode cX9_commandOf 79 = .ok (.ldc2_w 247, 3) := by decide +kernel
theorem dX9_commandOf_82 : decode cX9_commandOf 82 = .ok (.lcmp, 1) := by decide +kernel
theorem dX9_commandOf_83 : decode cX9_commandOf 83 = .ok (.ifCond .eq 19, 3) := by decide +kernel
theorem dX9_commandOf_86 : decode cX9_commandOf 86 = .ok (.lload_n 0, 1) := by decide +kernel
theorem dX9_commandOf_87 : decode cX9_commandOf 87 = .ok (.ldc2_w 249, 3) := by decide +kernel
theorem dX9_commandOf_90 : decode cX9_commandOf 90 = .ok (.lcmp, 1) := by decide +kernel
theorem dX9_commandOf_91 : decode cX9_commandOf 91 = .ok (.ifCond .eq 11, 3) := by decide +kernel
theorem dX9_commandOf_94 : decode cX9_commandOf 94 = .ok (.lload_n 0, 1) := by decide +kernel
theorem dX9_commandOf_95 : decode cX9_commandOf 95 = .ok (.ldc2_w 251, 3) := by decide +kernel
theorem dX9_commandOf_98 : decode cX9_commandOf 98 = .ok (.lcmp, 1) := by decide +kernel
theorem dX9_commandOf_99 : decode cX9_commandOf 99 = .ok (.ifCond .ne 43, 3) := by decide +kernel
theorem dX9_commandOf_102 : decode cX9_commandOf 102 = .ok (.lload_n 0, 1) := by decide +kernel
theorem dX9_commandOf_103 : decode cX9_commandOf 103 = .ok (.ldc2_w 245, 3) := by decide +kernel
theorem dX9_commandOf_106 : decode cX9_commandOf 106 = .ok (.lcmp, 1) := by decide +kernel
theorem dX9_commandOf_107 : decode cX9_commandOf 107 = .ok (.ifCond .ne 7, 3) := by decide +kernel
theorem dX9_commandOf_110 : decode cX9_commandOf 110 = .ok (.iconst 4, 1) := by decide +kernel
theorem dX9_commandOf_111 : decode cX9_commandOf 111 = .ok (.goto 30, 3) := by decide +kernel
theorem dX9_commandOf_114 : decode cX9_commandOf 114 = .ok (.lload_n 0, 1) := by decide +kernel
theorem dX9_commandOf_115 : decode cX9_commandOf 115 = .ok (.ldc2_w 247, 3) := by decide +kernel
theorem dX9_commandOf_118 : decode cX9_commandOf 118 = .ok (.lcmp, 1) := by decide +kernel
theorem dX9_commandOf_119 : decode cX9_commandOf 119 = .ok (.ifCond .ne 7, 3) := by decide +kernel
theorem dX9_commandOf_122 : decode cX9_commandOf 122 = .ok (.iconst 5, 1) := by decide +kernel
theorem dX9_commandOf_123 : decode cX9_commandOf 123 = .ok (.goto 18, 3) := by decide +kernel
theorem dX9_commandOf_126 : decode cX9_commandOf 126 = .ok (.lload_n 0, 1) := by decide +kernel
theorem dX9_commandOf_127 : decode cX9_commandOf 127 = .ok (.ldc2_w 249, 3) := by decide +kernel
theorem dX9_commandOf_130 : decode cX9_commandOf 130 = .ok (.lcmp, 1) := by decide +kernel
theorem dX9_commandOf_131 : decode cX9_commandOf 131 = .ok (.ifCond .ne 8, 3) := by decide +kernel
theorem dX9_commandOf_134 : decode cX9_commandOf 134 = .ok (.bipush 6, 2) := by decide +kernel
theorem dX9_commandOf_136 : decode cX9_commandOf 136 = .ok (.goto 5, 3) := by decide +kernel
theorem dX9_commandOf_139 : decode cX9_commandOf 139 = .ok (.bipush 7, 2) := by decide +kernel
theorem dX9_commandOf_141 : decode cX9_commandOf 141 = .ok (.ireturn, 1) := by decide +kernel
theorem dX9_commandOf_142 : decode cX9_commandOf 142 = .ok (.lload_n 0, 1) := by decide +kernel
theorem dX9_commandOf_143 : decode cX9_commandOf 143 = .ok (.ldc2_w 253, 3) := by decide +kernel
theorem dX9_commandOf_146 : decode cX9_commandOf 146 = .ok (.lcmp, 1) := by decide +kernel
theorem dX9_commandOf_147 : decode cX9_commandOf 147 = .ok (.ifCond .ne 8, 3) := by decide +kernel
theorem dX9_commandOf_150 : decode cX9_commandOf 150 = .ok (.bipush 8, 2) := by decide +kernel
theorem dX9_commandOf_152 : decode cX9_commandOf 152 = .ok (.goto 44, 3) := by decide +kernel
theorem dX9_commandOf_155 : decode cX9_commandOf 155 = .ok (.lload_n 0, 1) := by decide +kernel
theorem dX9_commandOf_156 : decode cX9_commandOf 156 = .ok (.ldc2_w 255, 3) := by decide +kernel
theorem dX9_commandOf_159 : decode cX9_commandOf 159 = .ok (.lcmp, 1) := by decide +kernel
theorem dX9_commandOf_160 : decode cX9_commandOf 160 = .ok (.ifCond .ne 8, 3) := by decide +kernel
theorem dX9_commandOf_163 : decode cX9_commandOf 163 = .ok (.bipush 9, 2) := by decide +kernel
theorem dX9_commandOf_165 : decode cX9_commandOf 165 = .ok (.goto 31, 3) := by decide +kernel
theorem dX9_commandOf_168 : decode cX9_commandOf 168 = .ok (.lload_n 0, 1) := by decide +kernel
theorem dX9_commandOf_169 : decode cX9_commandOf 169 = .ok (.ldc2_w 257, 3) := by decide +kernel
theorem dX9_commandOf_172 : decode cX9_commandOf 172 = .ok (.lcmp, 1) := by decide +kernel
theorem dX9_commandOf_173 : decode cX9_commandOf 173 = .ok (.ifCond .ne 8, 3) := by decide +kernel
theorem dX9_commandOf_176 : decode cX9_commandOf 176 = .ok (.bipush 10, 2) := by decide +kernel
theorem dX9_commandOf_178 : decode cX9_commandOf 178 = .ok (.goto 18, 3) := by decide +kernel
theorem dX9_commandOf_181 : decode cX9_commandOf 181 = .ok (.lload_n 0, 1) := by decide +kernel
theorem dX9_commandOf_182 : decode cX9_commandOf 182 = .ok (.ldc2_w 259, 3) := by decide +kernel
theorem dX9_commandOf_185 : decode cX9_commandOf 185 = .ok (.lcmp, 1) := by decide +kernel
theorem dX9_commandOf_186 : decode cX9_commandOf 186 = .ok (.ifCond .ne 8, 3) := by decide +kernel
theorem dX9_commandOf_189 : decode cX9_commandOf 189 = .ok (.bipush 11, 2) := by decide +kernel
theorem dX9_commandOf_191 : decode cX9_commandOf 191 = .ok (.goto 5, 3) := by decide +kernel
theorem dX9_commandOf_194 : decode cX9_commandOf 194 = .ok (.ldc 233, 2) := by decide +kernel
theorem dX9_commandOf_196 : decode cX9_commandOf 196 = .ok (.ireturn, 1) := by decide +kernel
set_option maxRecDepth 20000 in
theorem ggX9_readWord_X9_here : GoodIn wsX9_readWord wsX9_here := goodIn_r _ [11, 1, 12, 13, 5, 32, 33, 34, 35, 36, 37, 38, 39, 40, 41, 42] (by decide +kernel) (by decide +kernel)
set_option maxRecDepth 20000 in
theorem gX9_readWord_X9_here : GoodIn wsX9_readWord (wsV RX9 234 RX9 yX9_here wsX9_here) := goodIn_app (goodIn_of _ (by decide +kernel)) ggX9_readWord_X9_here
set_option maxRecDepth 20000 in
theorem ggX9_readWord_X9_in : GoodIn wsX9_readWord wsX9_in := goodIn_r _ [16] (by decide +kernel) (by decide +kernel)
set_option maxRecDepth 20000 in
theorem gX9_readWord_X9_in : GoodIn wsX9_readWord (va_wsS RX9 57 yX9_in wsX9_in) := goodIn_app (goodIn_of _ (by decide +kernel)) ggX9_readWord_X9_in
set_option maxRecDepth 20000 in
theorem ggX9_readWord_X9_commandOf : GoodIn wsX9_readWord wsX9_commandOf := goodIn_r _ [19, 20, 21, 22, 23, 24, 25, 26, 27, 28, 29, 30, 31, 5] (by decide +kernel) (by decide +kernel)
set_option maxRecDepth 20000 in
theorem gX9_readWord_X9_commandOf : GoodIn wsX9_readWord (va_wsS RX9 265 yX9_commandOf wsX9_commandOf) := goodIn_app (goodIn_of _ (by decide +kernel)) ggX9_readWord_X9_commandOf
theorem dX9_readWord_0 : decode cX9_readWord 0 = .ok (.aload_n 0, 1) := by decide +kernel
theorem dX9_readWord_1 : decode cX9_readWord 1 = .ok (.getfield 230, 3) := by decide +kernel
theorem dX9_readWord_4 : decode cX9_readWord 4 = .ok (.istore_n 1, 1) := by decide +kernel
theorem dX9_readWord_5 : decode cX9_readWord 5 = .ok (.lconst 0, 1) := by decide +kernel
theorem dX9_readWord_6 : decode cX9_readWord 6 = .ok (.lstore_n 2, 1) := by decide +kernel
theorem dX9_readWord_7 : decode cX9_readWord 7 = .ok (.aload_n 0, 1) := by decide +kernel
theorem dX9_readWord_8 : decode cX9_readWord 8 = .ok (.invokevirtual 234, 3) := by decide +kernel
theorem dX9_readWord_11 : decode cX9_readWord 11 = .ok (.bipush 97, 2) := by decide +kernel
theorem dX9_readWord_13 : decode cX9_readWord 13 = .ok (.bipush 122, 2) := by decide +kernel
theorem dX9_readWord_15 : decode cX9_readWord 15 = .ok (.invokestatic 57, 3) := by decide +kernel
theorem dX9_readWord_18 : decode cX9_readWord 18 = .ok (.ifCond .eq 49, 3) := by decide +kernel
theorem dX9_readWord_21 : decode cX9_readWord 21 = .ok (.aload_n 0, 1) := by decide +kernel
theorem dX9_readWord_22 : decode cX9_readWord 22 = .ok (.getfield 230, 3) := by decide +kernel
theorem dX9_readWord_25 : decode cX9_readWord 25 = .ok (.iload_n 1, 1) := by decide +kernel
theorem dX9_readWord_26 : decode cX9_readWord 26 = .ok (.isub, 1) := by decide +kernel
theorem dX9_readWord_27 : decode cX9_readWord 27 = .ok (.bipush 6, 2) := by decide +kernel
theorem dX9_readWord_29 : decode cX9_readWord 29 = .ok (.if_icmp .ge 21, 3) := by decide +kernel
theorem dX9_readWord_32 : decode cX9_readWord 32 = .ok (.lload_n 2, 1) := by decide +kernel
theorem dX9_readWord_33 : decode cX9_readWord 33 = .ok (.ldc2_w 261, 3) := by decide +kernel
theorem dX9_readWord_36 : decode cX9_readWord 36 = .ok (.lmul, 1) := by decide +kernel
theorem dX9_readWord_37 : decode cX9_readWord 37 = .ok (.aload_n 0, 1) := by decide +kernel
theorem dX9_readWord_38 : decode cX9_readWord 38 = .ok (.invokevirtual 234, 3) := by decide +kernel
theorem dX9_readWord_41 : decode cX9_readWord 41 = .ok (.i2l, 1) := by decide +kernel
theorem dX9_readWord_42 : decode cX9_readWord 42 = .ok (.ladd, 1) := by decide +kernel
theorem dX9_readWord_43 : decode cX9_readWord 43 = .ok (.ldc2_w 263, 3) := by decide +kernel
theorem dX9_readWord_46 : decode cX9_readWord 46 = .ok (.lsub, 1) := by decide +kernel
theorem dX9_readWord_47 : decode cX9_readWord 47 = .ok (.goto 6, 3) := by decide +kernel
theorem dX9_readWord_50 : decode cX9_readWord 50 = .ok (.ldc2_w 166, 3) := by decide +kernel
theorem dX9_readWord_53 : decode cX9_readWord 53 = .ok (.lstore_n 2, 1) := by decide +kernel
theorem dX9_readWord_54 : decode cX9_readWord 54 = .ok (.aload_n 0, 1) := by decide +kernel
theorem dX9_readWord_55 : decode cX9_readWord 55 = .ok (.dup, 1) := by decide +kernel
theorem dX9_readWord_56 : decode cX9_readWord 56 = .ok (.getfield 230, 3) := by decide +kernel
theorem dX9_readWord_59 : decode cX9_readWord 59 = .ok (.iconst 1, 1) := by decide +kernel
theorem dX9_readWord_60 : decode cX9_readWord 60 = .ok (.iadd, 1) := by decide +kernel
theorem dX9_readWord_61 : decode cX9_readWord 61 = .ok (.putfield 230, 3) := by decide +kernel
theorem dX9_readWord_64 : decode cX9_readWord 64 = .ok (.goto (-57), 3) := by decide +kernel
theorem dX9_readWord_67 : decode cX9_readWord 67 = .ok (.aload_n 0, 1) := by decide +kernel
theorem dX9_readWord_68 : decode cX9_readWord 68 = .ok (.aload_n 0, 1) := by decide +kernel
theorem dX9_readWord_69 : decode cX9_readWord 69 = .ok (.getfield 230, 3) := by decide +kernel
theorem dX9_readWord_72 : decode cX9_readWord 72 = .ok (.iload_n 1, 1) := by decide +kernel
theorem dX9_readWord_73 : decode cX9_readWord 73 = .ok (.isub, 1) := by decide +kernel
theorem dX9_readWord_74 : decode cX9_readWord 74 = .ok (.iconst 5, 1) := by decide +kernel
theorem dX9_readWord_75 : decode cX9_readWord 75 = .ok (.if_icmp .le 8, 3) := by decide +kernel
theorem dX9_readWord_78 : decode cX9_readWord 78 = .ok (.ldc 233, 2) := by decide +kernel
theorem dX9_readWord_80 : decode cX9_readWord 80 = .ok (.goto 7, 3) := by decide +kernel
theorem dX9_readWord_83 : decode cX9_readWord 83 = .ok (.lload_n 2, 1) := by decide +kernel
theorem dX9_readWord_84 : decode cX9_readWord 84 = .ok (.invokestatic 265, 3) := by decide +kernel
theorem dX9_readWord_87 : decode cX9_readWord 87 = .ok (.putfield 269, 3) := by decide +kernel
theorem dX9_readWord_90 : decode cX9_readWord 90 = .ok (.aload_n 0, 1) := by decide +kernel
theorem dX9_readWord_91 : decode cX9_readWord 91 = .ok (.aload_n 0, 1) := by decide +kernel
theorem dX9_readWord_92 : decode cX9_readWord 92 = .ok (.getfield 269, 3) := by decide +kernel
theorem dX9_readWord_95 : decode cX9_readWord 95 = .ok (.ldc 233, 2) := by decide +kernel
theorem dX9_readWord_97 : decode cX9_readWord 97 = .ok (.if_icmp .ne 7, 3) := by decide +kernel
theorem dX9_readWord_100 : decode cX9_readWord 100 = .ok (.iload_n 1, 1) := by decide +kernel
theorem dX9_readWord_101 : decode cX9_readWord 101 = .ok (.goto 7, 3) := by decide +kernel
theorem dX9_readWord_104 : decode cX9_readWord 104 = .ok (.aload_n 0, 1) := by decide +kernel
theorem dX9_readWord_105 : decode cX9_readWord 105 = .ok (.getfield 230, 3) := by decide +kernel
theorem dX9_readWord_108 : decode cX9_readWord 108 = .ok (.putfield 230, 3) := by decide +kernel
theorem dX9_readWord_111 : decode cX9_readWord 111 = .ok (.aload_n 0, 1) := by decide +kernel
theorem dX9_readWord_112 : decode cX9_readWord 112 = .ok (.getfield 269, 3) := by decide +kernel
theorem dX9_readWord_115 : decode cX9_readWord 115 = .ok (.ldc 233, 2) := by decide +kernel
theorem dX9_readWord_117 : decode cX9_readWord 117 = .ok (.if_icmp .eq 7, 3) := by decide +kernel
theorem dX9_readWord_120 : decode cX9_readWord 120 = .ok (.iconst 1, 1) := by decide +kernel
theorem dX9_readWord_121 : decode cX9_readWord 121 = .ok (.goto 4, 3) := by decide +kernel
theorem dX9_readWord_124 : decode cX9_readWord 124 = .ok (.iconst 0, 1) := by decide +kernel
theorem dX9_readWord_125 : decode cX9_readWord 125 = .ok (.ireturn, 1) := by decide +kernel
set_option maxRecDepth 20000 in
theorem ggX9_readNumber_X9_skips : GoodIn wsX9_readNumber wsX9_skips := goodIn_r _ [7, 1, 8, 9, 10, 6, 11, 12, 13, 14, 18, 19, 20, 21, 22, 23, 24, 25, 26, 27, 28] (by decide +kernel) (by decide +kernel)
set_option maxRecDepth 20000 in
theorem gX9_readNumber_X9_skips : GoodIn wsX9_readNumber (wsV RX9 272 RX9 yX9_skips wsX9_skips) := goodIn_app (goodIn_of _ (by decide +kernel)) ggX9_readNumber_X9_skips
set_option maxRecDepth 20000 in
theorem ggX9_readNumber_X9_here : GoodIn wsX9_readNumber wsX9_here := goodIn_r _ [11, 1, 12, 13, 14, 18, 19, 20, 21, 22, 23, 24, 25, 26, 27, 28] (by decide +kernel) (by decide +kernel)
set_option maxRecDepth 20000 in
theorem gX9_readNumber_X9_here : GoodIn wsX9_readNumber (wsV RX9 234 RX9 yX9_here wsX9_here) := goodIn_app (goodIn_of _ (by decide +kernel)) ggX9_readNumber_X9_here
set_option maxRecDepth 20000 in
theorem ggX9_readNumber_X9_in : GoodIn wsX9_readNumber wsX9_in := goodIn_r _ [17] (by decide +kernel) (by decide +kernel)
set_option maxRecDepth 20000 in
theorem gX9_readNumber_X9_in : GoodIn wsX9_readNumber (va_wsS RX9 57 yX9_in wsX9_in) := goodIn_app (goodIn_of _ (by decide +kernel)) ggX9_readNumber_X9_in
theorem dX9_readNumber_0 : decode cX9_readNumber 0 = .ok (.aload_n 0, 1) := by decide +kernel
theorem dX9_readNumber_1 : decode cX9_readNumber 1 = .ok (.invokevirtual 272, 3) := by decide +kernel
theorem dX9_readNumber_4 : decode cX9_readNumber 4 = .ok (.ifCond .ne 5, 3) := by decide +kernel
theorem dX9_readNumber_7 : decode cX9_readNumber 7 = .ok (.iconst 0, 1) := by decide +kernel
theorem dX9_readNumber_8 : decode cX9_readNumber 8 = .ok (.ireturn, 1) := by decide +kernel
theorem dX9_readNumber_9 : decode cX9_readNumber 9 = .ok (.aload_n 0, 1) := by decide +kernel
theorem dX9_readNumber_10 : decode cX9_readNumber 10 = .ok (.getfield 230, 3) := by decide +kernel
theorem dX9_readNumber_13 : decode cX9_readNumber 13 = .ok (.istore_n 2, 1) := by decide +kernel
theorem dX9_readNumber_14 : decode cX9_readNumber 14 = .ok (.iconst 0, 1) := by decide +kernel
theorem dX9_readNumber_15 : decode cX9_readNumber 15 = .ok (.istore_n 3, 1) := by decide +kernel
theorem dX9_readNumber_16 : decode cX9_readNumber 16 = .ok (.aload_n 0, 1) := by decide +kernel
theorem dX9_readNumber_17 : decode cX9_readNumber 17 = .ok (.getfield 230, 3) := by decide +kernel
theorem dX9_readNumber_20 : decode cX9_readNumber 20 = .ok (.iload_n 2, 1) := by decide +kernel
theorem dX9_readNumber_21 : decode cX9_readNumber 21 = .ok (.bipush 7, 2) := by decide +kernel
theorem dX9_readNumber_23 : decode cX9_readNumber 23 = .ok (.iadd, 1) := by decide +kernel
theorem dX9_readNumber_24 : decode cX9_readNumber 24 = .ok (.if_icmp .ge 43, 3) := by decide +kernel
theorem dX9_readNumber_27 : decode cX9_readNumber 27 = .ok (.aload_n 0, 1) := by decide +kernel
theorem dX9_readNumber_28 : decode cX9_readNumber 28 = .ok (.invokevirtual 234, 3) := by decide +kernel
theorem dX9_readNumber_31 : decode cX9_readNumber 31 = .ok (.bipush 48, 2) := by decide +kernel
theorem dX9_readNumber_33 : decode cX9_readNumber 33 = .ok (.bipush 57, 2) := by decide +kernel
theorem dX9_readNumber_35 : decode cX9_readNumber 35 = .ok (.invokestatic 57, 3) := by decide +kernel
theorem dX9_readNumber_38 : decode cX9_readNumber 38 = .ok (.ifCond .eq 29, 3) := by decide +kernel
theorem dX9_readNumber_41 : decode cX9_readNumber 41 = .ok (.bipush 10, 2) := by decide +kernel
theorem dX9_readNumber_43 : decode cX9_readNumber 43 = .ok (.iload_n 3, 1) := by decide +kernel
theorem dX9_readNumber_44 : decode cX9_readNumber 44 = .ok (.imul, 1) := by decide +kernel
theorem dX9_readNumber_45 : decode cX9_readNumber 45 = .ok (.aload_n 0, 1) := by decide +kernel
theorem dX9_readNumber_46 : decode cX9_readNumber 46 = .ok (.invokevirtual 234, 3) := by decide +kernel
theorem dX9_readNumber_49 : decode cX9_readNumber 49 = .ok (.iadd, 1) := by decide +kernel
theorem dX9_readNumber_50 : decode cX9_readNumber 50 = .ok (.bipush 48, 2) := by decide +kernel
theorem dX9_readNumber_52 : decode cX9_readNumber 52 = .ok (.isub, 1) := by decide +kernel
theorem dX9_readNumber_53 : decode cX9_readNumber 53 = .ok (.istore_n 3, 1) := by decide +kernel
theorem dX9_readNumber_54 : decode cX9_readNumber 54 = .ok (.aload_n 0, 1) := by decide +kernel
theorem dX9_readNumber_55 : decode cX9_readNumber 55 = .ok (.dup, 1) := by decide +kernel
theorem dX9_readNumber_56 : decode cX9_readNumber 56 = .ok (.getfield 230, 3) := by decide +kernel
theorem dX9_readNumber_59 : decode cX9_readNumber 59 = .ok (.iconst 1, 1) := by decide +kernel
theorem dX9_readNumber_60 : decode cX9_readNumber 60 = .ok (.iadd, 1) := by decide +kernel
theorem dX9_readNumber_61 : decode cX9_readNumber 61 = .ok (.putfield 230, 3) := by decide +kernel
theorem dX9_readNumber_64 : decode cX9_readNumber 64 = .ok (.goto (-48), 3) := by decide +kernel
theorem dX9_readNumber_67 : decode cX9_readNumber 67 = .ok (.aload_n 0, 1) := by decide +kernel
theorem dX9_readNumber_68 : decode cX9_readNumber 68 = .ok (.getfield 23, 3) := by decide +kernel
theorem dX9_readNumber_71 : decode cX9_readNumber 71 = .ok (.iload_n 1, 1) := by decide +kernel
theorem dX9_readNumber_72 : decode cX9_readNumber 72 = .ok (.iload_n 3, 1) := by decide +kernel
theorem dX9_readNumber_73 : decode cX9_readNumber 73 = .ok (.iastore, 1) := by decide +kernel
theorem dX9_readNumber_74 : decode cX9_readNumber 74 = .ok (.aload_n 0, 1) := by decide +kernel
theorem dX9_readNumber_75 : decode cX9_readNumber 75 = .ok (.getfield 230, 3) := by decide +kernel
theorem dX9_readNumber_78 : decode cX9_readNumber 78 = .ok (.iload_n 2, 1) := by decide +kernel
theorem dX9_readNumber_79 : decode cX9_readNumber 79 = .ok (.if_icmp .le 7, 3) := by decide +kernel
theorem dX9_readNumber_82 : decode cX9_readNumber 82 = .ok (.iconst 1, 1) := by decide +kernel
theorem dX9_readNumber_83 : decode cX9_readNumber 83 = .ok (.goto 4, 3) := by decide +kernel
theorem dX9_readNumber_86 : decode cX9_readNumber 86 = .ok (.iconst 0, 1) := by decide +kernel
theorem dX9_readNumber_87 : decode cX9_readNumber 87 = .ok (.ireturn, 1) := by decide +kernel
theorem dX9_manyFor_0 : decode cX9_manyFor 0 = .ok (.aload_n 0, 1) := by decide +kernel
theorem dX9_manyFor_1 : decode cX9_manyFor 1 = .ok (.getfield 269, 3) := by decide +kernel
theorem dX9_manyFor_4 : decode cX9_manyFor 4 = .ok (.tableswitch 68 0 11 #[66, 68, 68, 68, 68, 68, 66, 66, 66, 64, 68, 66], 64) := by decide +kernel
theorem dX9_manyFor_68 : decode cX9_manyFor 68 = .ok (.iconst 0, 1) := by decide +kernel
theorem dX9_manyFor_69 : decode cX9_manyFor 69 = .ok (.ireturn, 1) := by decide +kernel
theorem dX9_manyFor_70 : decode cX9_manyFor 70 = .ok (.iconst 1, 1) := by decide +kernel
theorem dX9_manyFor_71 : decode cX9_manyFor 71 = .ok (.ireturn, 1) := by decide +kernel
theorem dX9_manyFor_72 : decode cX9_manyFor 72 = .ok (.iconst 2, 1) := by decide +kernel
theorem dX9_manyFor_73 : decode cX9_manyFor 73 = .ok (.ireturn, 1) := by decide +kernel
set_option maxRecDepth 20000 in
theorem ggX9_readCommand_X9_readWord : GoodIn wsX9_readCommand wsX9_readWord := goodIn_r _ [6, 1, 7, 8, 9, 10, 11, 12, 13, 14, 5, 15, 16, 17, 18, 19, 20, 21, 22, 23, 24, 25, 26, 27, 28, 29, 30, 31, 32, 33, 34, 35, 49, 50, 51, 52, 53, 54, 55, 56, 57, 58, 59] (by decide +kernel) (by decide +kernel)
set_option maxRecDepth 20000 in
theorem gX9_readCommand_X9_readWord : GoodIn wsX9_readCommand (wsV RX9 276 RX9 yX9_readWord wsX9_readWord) := goodIn_app (goodIn_of _ (by decide +kernel)) ggX9_readCommand_X9_readWord
set_option maxRecDepth 20000 in
theorem ggX9_readCommand_X9_manyFor : GoodIn wsX9_readCommand wsX9_manyFor := goodIn_r _ [39, 11, 49, 50, 51, 52, 53, 54, 55, 56, 57, 58, 59] (by decide +kernel) (by decide +kernel)
set_option maxRecDepth 20000 in
theorem gX9_readCommand_X9_manyFor : GoodIn wsX9_readCommand (wsV RX9 279 RX9 yX9_manyFor wsX9_manyFor) := goodIn_app (goodIn_of _ (by decide +kernel)) ggX9_readCommand_X9_manyFor
set_option maxRecDepth 20000 in
theorem ggX9_readCommand_X9_readNumber : GoodIn wsX9_readCommand wsX9_readNumber := goodIn_r _ [43, 1, 44, 45, 46, 47, 5, 48, 12, 13, 14, 15, 16, 17, 10, 18, 19, 20, 49, 50, 51, 52, 53, 54, 55, 56, 57, 58, 59] (by decide +kernel) (by decide +kernel)
set_option maxRecDepth 20000 in
theorem gX9_readCommand_X9_readNumber : GoodIn wsX9_readCommand (wsV RX9 282 RX9 yX9_readNumber wsX9_readNumber) := goodIn_app (goodIn_of _ (by decide +kernel)) ggX9_readCommand_X9_readNumber
set_option maxRecDepth 20000 in
theorem ggX9_readCommand_X9_skips : GoodIn wsX9_readCommand wsX9_skips := goodIn_r _ [48, 1, 12, 13, 14, 5, 15, 16, 17, 10, 49, 50, 51, 52, 53, 54, 55, 56, 57, 58, 59] (by decide +kernel) (by decide +kernel)
set_option maxRecDepth 20000 in
theorem gX9_readCommand_X9_skips : GoodIn wsX9_readCommand (wsV RX9 272 RX9 yX9_skips wsX9_skips) := goodIn_app (goodIn_of _ (by decide +kernel)) ggX9_readCommand_X9_skips
set_option maxRecDepth 20000 in
theorem ggX9_readCommand_X9_here : GoodIn wsX9_readCommand wsX9_here := goodIn_r _ [15, 1, 16, 17, 10, 49, 50, 51, 52, 53, 54, 55, 56, 57, 58, 59] (by decide +kernel) (by decide +kernel)
set_option maxRecDepth 20000 in
theorem gX9_readCommand_X9_here : GoodIn wsX9_readCommand (wsV RX9 234 RX9 yX9_here wsX9_here) := goodIn_app (goodIn_of _ (by decide +kernel)) ggX9_readCommand_X9_here
theorem dX9_readCommand_0 : decode cX9_readCommand 0 = .ok (.aload_n 0, 1) := by decide +kernel
theorem dX9_readCommand_1 : decode cX9_readCommand 1 = .ok (.invokevirtual 276, 3) := by decide +kernel
theorem dX9_readCommand_4 : decode cX9_readCommand 4 = .ok (.ifCond .ne 5, 3) := by decide +kernel
theorem dX9_readCommand_7 : decode cX9_readCommand 7 = .ok (.iconst 0, 1) := by decide +kernel
theorem dX9_readCommand_8 : decode cX9_readCommand 8 = .ok (.ireturn, 1) := by decide +kernel
theorem dX9_readCommand_9 : decode cX9_readCommand 9 = .ok (.iconst 0, 1) := by decide +kernel
theorem dX9_readCommand_10 : decode cX9_readCommand 10 = .ok (.istore_n 1, 1) := by decide +kernel
theorem dX9_readCommand_11 : decode cX9_readCommand 11 = .ok (.iload_n 1, 1) := by decide +kernel
theorem dX9_readCommand_12 : decode cX9_readCommand 12 = .ok (.aload_n 0, 1) := by decide +kernel
theorem dX9_readCommand_13 : decode cX9_readCommand 13 = .ok (.invokevirtual 279, 3) := by decide +kernel
theorem dX9_readCommand_16 : decode cX9_readCommand 16 = .ok (.if_icmp .ge 19, 3) := by decide +kernel
theorem dX9_readCommand_19 : decode cX9_readCommand 19 = .ok (.aload_n 0, 1) := by decide +kernel
theorem dX9_readCommand_20 : decode cX9_readCommand 20 = .ok (.iload_n 1, 1) := by decide +kernel
theorem dX9_readCommand_21 : decode cX9_readCommand 21 = .ok (.invokevirtual 282, 3) := by decide +kernel
theorem dX9_readCommand_24 : decode cX9_readCommand 24 = .ok (.ifCond .ne 5, 3) := by decide +kernel
theorem dX9_readCommand_27 : decode cX9_readCommand 27 = .ok (.iconst 0, 1) := by decide +kernel
theorem dX9_readCommand_28 : decode cX9_readCommand 28 = .ok (.ireturn, 1) := by decide +kernel
theorem dX9_readCommand_29 : decode cX9_readCommand 29 = .ok (.iinc 1 1, 3) := by decide +kernel
theorem dX9_readCommand_32 : decode cX9_readCommand 32 = .ok (.goto (-21), 3) := by decide +kernel
theorem dX9_readCommand_35 : decode cX9_readCommand 35 = .ok (.aload_n 0, 1) := by decide +kernel
theorem dX9_readCommand_36 : decode cX9_readCommand 36 = .ok (.invokevirtual 272, 3) := by decide +kernel
theorem dX9_readCommand_39 : decode cX9_readCommand 39 = .ok (.istore_n 1, 1) := by decide +kernel
theorem dX9_readCommand_40 : decode cX9_readCommand 40 = .ok (.aload_n 0, 1) := by decide +kernel
theorem dX9_readCommand_41 : decode cX9_readCommand 41 = .ok (.invokevirtual 234, 3) := by decide +kernel
theorem dX9_readCommand_44 : decode cX9_readCommand 44 = .ok (.bipush 59, 2) := by decide +kernel
theorem dX9_readCommand_46 : decode cX9_readCommand 46 = .ok (.if_icmp .eq 5, 3) := by decide +kernel
theorem dX9_readCommand_49 : decode cX9_readCommand 49 = .ok (.iconst 0, 1) := by decide +kernel
theorem dX9_readCommand_50 : decode cX9_readCommand 50 = .ok (.ireturn, 1) := by decide +kernel
theorem dX9_readCommand_51 : decode cX9_readCommand 51 = .ok (.aload_n 0, 1) := by decide +kernel
theorem dX9_readCommand_52 : decode cX9_readCommand 52 = .ok (.dup, 1) := by decide +kernel
theorem dX9_readCommand_53 : decode cX9_readCommand 53 = .ok (.getfield 230, 3) := by decide +kernel
theorem dX9_readCommand_56 : decode cX9_readCommand 56 = .ok (.iconst 1, 1) := by decide +kernel
theorem dX9_readCommand_57 : decode cX9_readCommand 57 = .ok (.iadd, 1) := by decide +kernel
theorem dX9_readCommand_58 : decode cX9_readCommand 58 = .ok (.putfield 230, 3) := by decide +kernel
theorem dX9_readCommand_61 : decode cX9_readCommand 61 = .ok (.iconst 1, 1) := by decide +kernel
theorem dX9_readCommand_62 : decode cX9_readCommand 62 = .ok (.ireturn, 1) := by decide +kernel
set_option maxRecDepth 20000 in
theorem ggX9_isText_X9_skips : GoodIn wsX9_isText wsX9_skips := goodIn_r _ [7, 1, 8, 9, 10, 6, 11, 2, 12, 13, 53, 54, 55, 56, 57, 58, 59, 60, 61, 62, 63] (by decide +kernel) (by decide +kernel)
set_option maxRecDepth 20000 in
theorem gX9_isText_X9_skips : GoodIn wsX9_isText (wsV RX9 272 RX9 yX9_skips wsX9_skips) := goodIn_app (goodIn_of _ (by decide +kernel)) ggX9_isText_X9_skips
set_option maxRecDepth 20000 in
theorem ggX9_isText_X9_readCommand : GoodIn wsX9_isText wsX9_readCommand := goodIn_r _ [17, 1, 18, 19, 20, 6, 21, 22, 23, 24, 13, 25, 8, 9, 10, 11, 2, 12, 26, 27, 28, 29, 30, 31, 32, 33, 34, 35, 36, 37, 38, 39, 40, 41, 42, 43, 44, 45, 46, 47, 48, 49, 50, 51, 52, 3, 4, 5, 7, 53, 54, 55, 56, 57, 58, 59, 60, 61, 62, 63] (by decide +kernel) (by decide +kernel)
set_option maxRecDepth 20000 in
theorem gX9_isText_X9_readCommand : GoodIn wsX9_isText (wsV RX9 285 RX9 yX9_readCommand wsX9_readCommand) := goodIn_app (goodIn_of _ (by decide +kernel)) ggX9_isText_X9_readCommand
theorem dX9_isText_0 : decode cX9_isText 0 = .ok (.aload_n 0, 1) := by decide +kernel
theorem dX9_isText_1 : decode cX9_isText 1 = .ok (.iconst 0, 1) := by decide +kernel
theorem dX9_isText_2 : decode cX9_isText 2 = .ok (.putfield 230, 3) := by decide +kernel
theorem dX9_isText_5 : decode cX9_isText 5 = .ok (.iconst 1, 1) := by decide +kernel
theorem dX9_isText_6 : decode cX9_isText 6 = .ok (.istore_n 1, 1) := by decide +kernel
theorem dX9_isText_7 : decode cX9_isText 7 = .ok (.aload_n 0, 1) := by decide +kernel
theorem dX9_isText_8 : decode cX9_isText 8 = .ok (.invokevirtual 272, 3) := by decide +kernel
theorem dX9_isText_11 : decode cX9_isText 11 = .ok (.istore_n 2, 1) := by decide +kernel
theorem dX9_isText_12 : decode cX9_isText 12 = .ok (.iload_n 1, 1) := by decide +kernel
theorem dX9_isText_13 : decode cX9_isText 13 = .ok (.ifCond .eq 39, 3) := by decide +kernel
theorem dX9_isText_16 : decode cX9_isText 16 = .ok (.aload_n 0, 1) := by decide +kernel
theorem dX9_isText_17 : decode cX9_isText 17 = .ok (.getfield 230, 3) := by decide +kernel
theorem dX9_isText_20 : decode cX9_isText 20 = .ok (.aload_n 0, 1) := by decide +kernel
theorem dX9_isText_21 : decode cX9_isText 21 = .ok (.getfield 197, 3) := by decide +kernel
theorem dX9_isText_24 : decode cX9_isText 24 = .ok (.if_icmp .ge 28, 3) := by decide +kernel
theorem dX9_isText_27 : decode cX9_isText 27 = .ok (.aload_n 0, 1) := by decide +kernel
theorem dX9_isText_28 : decode cX9_isText 28 = .ok (.invokevirtual 285, 3) := by decide +kernel
theorem dX9_isText_31 : decode cX9_isText 31 = .ok (.istore_n 1, 1) := by decide +kernel
theorem dX9_isText_32 : decode cX9_isText 32 = .ok (.iload_n 1, 1) := by decide +kernel
theorem dX9_isText_33 : decode cX9_isText 33 = .ok (.ifCond .eq 14, 3) := by decide +kernel
theorem dX9_isText_36 : decode cX9_isText 36 = .ok (.aload_n 0, 1) := by decide +kernel
theorem dX9_isText_37 : decode cX9_isText 37 = .ok (.invokevirtual 272, 3) := by decide +kernel
theorem dX9_isText_40 : decode cX9_isText 40 = .ok (.ifCond .eq 7, 3) := by decide +kernel
theorem dX9_isText_43 : decode cX9_isText 43 = .ok (.iconst 1, 1) := by decide +kernel
theorem dX9_isText_44 : decode cX9_isText 44 = .ok (.goto 4, 3) := by decide +kernel
theorem dX9_isText_47 : decode cX9_isText 47 = .ok (.iconst 0, 1) := by decide +kernel
theorem dX9_isText_48 : decode cX9_isText 48 = .ok (.istore_n 2, 1) := by decide +kernel
theorem dX9_isText_49 : decode cX9_isText 49 = .ok (.goto (-37), 3) := by decide +kernel
theorem dX9_isText_52 : decode cX9_isText 52 = .ok (.iload_n 1, 1) := by decide +kernel
theorem dX9_isText_53 : decode cX9_isText 53 = .ok (.ireturn, 1) := by decide +kernel
set_option maxRecDepth 20000 in
theorem ggX9_whyNot_X9_notMetal : GoodIn wsX9_whyNot wsX9_notMetal := goodIn_r _ [7, 8, 9, 6, 10, 11, 12, 13, 14, 15, 16, 17, 18, 65, 66, 67, 68, 69, 70, 71, 72, 73, 74, 75] (by decide +kernel) (by decide +kernel)
set_option maxRecDepth 20000 in
theorem gX9_whyNot_X9_notMetal : GoodIn wsX9_whyNot (wsV RX9 65 RX9 yX9_notMetal wsX9_notMetal) := goodIn_app (goodIn_of _ (by decide +kernel)) ggX9_whyNot_X9_notMetal
set_option maxRecDepth 20000 in
theorem ggX9_whyNot_X9_notRod : GoodIn wsX9_whyNot wsX9_notRod := goodIn_r _ [22, 23, 24, 25, 6, 26, 14, 15, 16, 17, 18, 11, 12, 13, 27, 28, 29, 30, 65, 66, 67, 68, 69, 70, 71, 72, 73, 74, 75] (by decide +kernel) (by decide +kernel)
set_option maxRecDepth 20000 in
theorem gX9_whyNot_X9_notRod : GoodIn wsX9_whyNot (wsV RX9 85 RX9 yX9_notRod wsX9_notRod) := goodIn_app (goodIn_of _ (by decide +kernel)) ggX9_whyNot_X9_notRod
set_option maxRecDepth 20000 in
theorem ggX9_whyNot_X9_notLength : GoodIn wsX9_whyNot wsX9_notLength := goodIn_r _ [34, 35, 36, 37, 6, 38, 14, 15, 16, 17, 18, 11, 12, 13, 27, 28, 29, 30, 65, 66, 67, 68, 69, 70, 71, 72, 73, 74, 75] (by decide +kernel) (by decide +kernel)
set_option maxRecDepth 20000 in
theorem gX9_whyNot_X9_notLength : GoodIn wsX9_whyNot (wsV RX9 95 RX9 yX9_notLength wsX9_notLength) := goodIn_app (goodIn_of _ (by decide +kernel)) ggX9_whyNot_X9_notLength
set_option maxRecDepth 20000 in
theorem ggX9_whyNot_X9_notShelf : GoodIn wsX9_whyNot wsX9_notShelf := goodIn_r _ [41, 42, 43, 6, 44, 11, 12, 13, 45, 46, 47] (by decide +kernel) (by decide +kernel)
set_option maxRecDepth 20000 in
theorem gX9_whyNot_X9_notShelf : GoodIn wsX9_whyNot (va_wsS RX9 104 yX9_notShelf wsX9_notShelf) := goodIn_app (goodIn_of _ (by decide +kernel)) ggX9_whyNot_X9_notShelf
set_option maxRecDepth 20000 in
theorem ggX9_whyNot_X9_notHang : GoodIn wsX9_whyNot wsX9_notHang := goodIn_r _ [50, 42, 43, 6, 44, 11, 12, 13] (by decide +kernel) (by decide +kernel)
set_option maxRecDepth 20000 in
theorem gX9_whyNot_X9_notHang : GoodIn wsX9_whyNot (va_wsS RX9 107 yX9_notHang wsX9_notHang) := goodIn_app (goodIn_of _ (by decide +kernel)) ggX9_whyNot_X9_notHang
set_option maxRecDepth 20000 in
theorem ggX9_whyNot_X9_notTurn : GoodIn wsX9_whyNot wsX9_notTurn := goodIn_r _ [54, 11, 12, 6, 13, 14, 15, 16, 17, 18, 65, 66, 67, 68, 69, 70, 71, 72, 73, 74, 75] (by decide +kernel) (by decide +kernel)
set_option maxRecDepth 20000 in
theorem gX9_whyNot_X9_notTurn : GoodIn wsX9_whyNot (wsV RX9 110 RX9 yX9_notTurn wsX9_notTurn) := goodIn_app (goodIn_of _ (by decide +kernel)) ggX9_whyNot_X9_notTurn
set_option maxRecDepth 20000 in
theorem ggX9_whyNot_X9_notSet : GoodIn wsX9_whyNot wsX9_notSet := goodIn_r _ [57, 58, 59, 11, 12, 6, 13] (by decide +kernel) (by decide +kernel)
set_option maxRecDepth 20000 in
theorem gX9_whyNot_X9_notSet : GoodIn wsX9_whyNot (va_wsS RX9 118 yX9_notSet wsX9_notSet) := goodIn_app (goodIn_of _ (by decide +kernel)) ggX9_whyNot_X9_notSet
set_option maxRecDepth 20000 in
theorem ggX9_whyNot_X9_notPass : GoodIn wsX9_whyNot wsX9_notPass := goodIn_r _ [63, 18, 64, 11, 12, 6, 13, 65, 66, 67, 68, 69, 70, 71, 72, 73, 74, 75] (by decide +kernel) (by decide +kernel)
set_option maxRecDepth 20000 in
theorem gX9_whyNot_X9_notPass : GoodIn wsX9_whyNot (wsV RX9 188 RX9 yX9_notPass wsX9_notPass) := goodIn_app (goodIn_of _ (by decide +kernel)) ggX9_whyNot_X9_notPass
theorem dX9_whyNot_0 : decode cX9_whyNot 0 = .ok (.aload_n 0, 1) := by decide +kernel
theorem dX9_whyNot_1 : decode cX9_whyNot 1 = .ok (.getfield 269, 3) := by decide +kernel
theorem dX9_whyNot_4 : decode cX9_whyNot 4 = .ok (.tableswitch 210 0 10 #[60, 71, 71, 101, 118, 118, 152, 162, 162, 192, 194], 60) := by decide +kernel
theorem dX9_whyNot_64 : decode cX9_whyNot 64 = .ok (.aload_n 0, 1) := by decide +kernel
theorem dX9_whyNot_65 : decode cX9_whyNot 65 = .ok (.aload_n 0, 1) := by decide +kernel
theorem dX9_whyNot_66 : decode cX9_whyNot 66 = .ok (.getfield 23, 3) := by decide +kernel
theorem dX9_whyNot_69 : decode cX9_whyNot 69 = .ok (.iconst 0, 1) := by decide +kernel
theorem dX9_whyNot_70 : decode cX9_whyNot 70 = .ok (.iaload, 1) := by decide +kernel
theorem dX9_whyNot_71 : decode cX9_whyNot 71 = .ok (.invokevirtual 65, 3) := by decide +kernel
theorem dX9_whyNot_74 : decode cX9_whyNot 74 = .ok (.ireturn, 1) := by decide +kernel
theorem dX9_whyNot_75 : decode cX9_whyNot 75 = .ok (.aload_n 0, 1) := by decide +kernel
theorem dX9_whyNot_76 : decode cX9_whyNot 76 = .ok (.aload_n 0, 1) := by decide +kernel
theorem dX9_whyNot_77 : decode cX9_whyNot 77 = .ok (.getfield 23, 3) := by decide +kernel
theorem dX9_whyNot_80 : decode cX9_whyNot 80 = .ok (.iconst 0, 1) := by decide +kernel
theorem dX9_whyNot_81 : decode cX9_whyNot 81 = .ok (.iaload, 1) := by decide +kernel
theorem dX9_whyNot_82 : decode cX9_whyNot 82 = .ok (.aload_n 0, 1) := by decide +kernel
theorem dX9_whyNot_83 : decode cX9_whyNot 83 = .ok (.getfield 269, 3) := by decide +kernel
theorem dX9_whyNot_86 : decode cX9_whyNot 86 = .ok (.iconst 1, 1) := by decide +kernel
theorem dX9_whyNot_87 : decode cX9_whyNot 87 = .ok (.if_icmp .ne 7, 3) := by decide +kernel
theorem dX9_whyNot_90 : decode cX9_whyNot 90 = .ok (.iconst 1, 1) := by decide +kernel
theorem dX9_whyNot_91 : decode cX9_whyNot 91 = .ok (.goto 4, 3) := by decide +kernel
theorem dX9_whyNot_94 : decode cX9_whyNot 94 = .ok (.iconst (-1), 1) := by decide +kernel
theorem dX9_whyNot_95 : decode cX9_whyNot 95 = .ok (.aload_n 0, 1) := by decide +kernel
theorem dX9_whyNot_96 : decode cX9_whyNot 96 = .ok (.getfield 23, 3) := by decide +kernel
theorem dX9_whyNot_99 : decode cX9_whyNot 99 = .ok (.iconst 1, 1) := by decide +kernel
theorem dX9_whyNot_100 : decode cX9_whyNot 100 = .ok (.iaload, 1) := by decide +kernel
theorem dX9_whyNot_101 : decode cX9_whyNot 101 = .ok (.invokevirtual 85, 3) := by decide +kernel
theorem dX9_whyNot_104 : decode cX9_whyNot 104 = .ok (.ireturn, 1) := by decide +kernel
theorem dX9_whyNot_105 : decode cX9_whyNot 105 = .ok (.aload_n 0, 1) := by decide +kernel
theorem dX9_whyNot_106 : decode cX9_whyNot 106 = .ok (.aload_n 0, 1) := by decide +kernel
theorem dX9_whyNot_107 : decode cX9_whyNot 107 = .ok (.getfield 23, 3) := by decide +kernel
theorem dX9_whyNot_110 : decode cX9_whyNot 110 = .ok (.iconst 0, 1) := by decide +kernel
theorem dX9_whyNot_111 : decode cX9_whyNot 111 = .ok (.iaload, 1) := by decide +kernel
theorem dX9_whyNot_112 : decode cX9_whyNot 112 = .ok (.aload_n 0, 1) := by decide +kernel
theorem dX9_whyNot_113 : decode cX9_whyNot 113 = .ok (.getfield 23, 3) := by decide +kernel
theorem dX9_whyNot_116 : decode cX9_whyNot 116 = .ok (.iconst 1, 1) := by decide +kernel
theorem dX9_whyNot_117 : decode cX9_whyNot 117 = .ok (.iaload, 1) := by decide +kernel
theorem dX9_whyNot_118 : decode cX9_whyNot 118 = .ok (.invokevirtual 95, 3) := by decide +kernel
theorem dX9_whyNot_121 : decode cX9_whyNot 121 = .ok (.ireturn, 1) := by decide +kernel
theorem dX9_whyNot_122 : decode cX9_whyNot 122 = .ok (.aload_n 0, 1) := by decide +kernel
theorem dX9_whyNot_123 : decode cX9_whyNot 123 = .ok (.getfield 23, 3) := by decide +kernel
theorem dX9_whyNot_126 : decode cX9_whyNot 126 = .ok (.iconst 0, 1) := by decide +kernel
theorem dX9_whyNot_127 : decode cX9_whyNot 127 = .ok (.iaload, 1) := by decide +kernel
theorem dX9_whyNot_128 : decode cX9_whyNot 128 = .ok (.aload_n 0, 1) := by decide +kernel
theorem dX9_whyNot_129 : decode cX9_whyNot 129 = .ok (.getfield 269, 3) := by decide +kernel
theorem dX9_whyNot_132 : decode cX9_whyNot 132 = .ok (.iconst 4, 1) := by decide +kernel
theorem dX9_whyNot_133 : decode cX9_whyNot 133 = .ok (.if_icmp .ne 12, 3) := by decide +kernel
theorem dX9_whyNot_136 : decode cX9_whyNot 136 = .ok (.aload_n 0, 1) := by decide +kernel
theorem dX9_whyNot_137 : decode cX9_whyNot 137 = .ok (.getfield 23, 3) := by decide +kernel
theorem dX9_whyNot_140 : decode cX9_whyNot 140 = .ok (.iconst 1, 1) := by decide +kernel
theorem dX9_whyNot_141 : decode cX9_whyNot 141 = .ok (.iaload, 1) := by decide +kernel
theorem dX9_whyNot_142 : decode cX9_whyNot 142 = .ok (.goto 10, 3) := by decide +kernel
theorem dX9_whyNot_145 : decode cX9_whyNot 145 = .ok (.aload_n 0, 1) := by decide +kernel
theorem dX9_whyNot_146 : decode cX9_whyNot 146 = .ok (.getfield 23, 3) := by decide +kernel
theorem dX9_whyNot_149 : decode cX9_whyNot 149 = .ok (.iconst 1, 1) := by decide +kernel
theorem dX9_whyNot_150 : decode cX9_whyNot 150 = .ok (.iaload, 1) := by decide +kernel
theorem dX9_whyNot_151 : decode cX9_whyNot 151 = .ok (.ineg, 1) := by decide +kernel
theorem dX9_whyNot_152 : decode cX9_whyNot 152 = .ok (.invokestatic 104, 3) := by decide +kernel
theorem dX9_whyNot_155 : decode cX9_whyNot 155 = .ok (.ireturn, 1) := by decide +kernel
theorem dX9_whyNot_156 : decode cX9_whyNot 156 = .ok (.aload_n 0, 1) := by decide +kernel
theorem dX9_whyNot_157 : decode cX9_whyNot 157 = .ok (.getfield 23, 3) := by decide +kernel
theorem dX9_whyNot_160 : decode cX9_whyNot 160 = .ok (.iconst 0, 1) := by decide +kernel
theorem dX9_whyNot_161 : decode cX9_whyNot 161 = .ok (.iaload, 1) := by decide +kernel
theorem dX9_whyNot_162 : decode cX9_whyNot 162 = .ok (.invokestatic 107, 3) := by decide +kernel
theorem dX9_whyNot_165 : decode cX9_whyNot 165 = .ok (.ireturn, 1) := by decide +kernel
theorem dX9_whyNot_166 : decode cX9_whyNot 166 = .ok (.aload_n 0, 1) := by decide +kernel
theorem dX9_whyNot_167 : decode cX9_whyNot 167 = .ok (.aload_n 0, 1) := by decide +kernel
theorem dX9_whyNot_168 : decode cX9_whyNot 168 = .ok (.getfield 269, 3) := by decide +kernel
theorem dX9_whyNot_171 : decode cX9_whyNot 171 = .ok (.bipush 7, 2) := by decide +kernel
theorem dX9_whyNot_173 : decode cX9_whyNot 173 = .ok (.if_icmp .ne 12, 3) := by decide +kernel
theorem dX9_whyNot_176 : decode cX9_whyNot 176 = .ok (.aload_n 0, 1) := by decide +kernel
theorem dX9_whyNot_177 : decode cX9_whyNot 177 = .ok (.getfield 23, 3) := by decide +kernel
theorem dX9_whyNot_180 : decode cX9_whyNot 180 = .ok (.iconst 0, 1) := by decide +kernel
theorem dX9_whyNot_181 : decode cX9_whyNot 181 = .ok (.iaload, 1) := by decide +kernel
theorem dX9_whyNot_182 : decode cX9_whyNot 182 = .ok (.goto 10, 3) := by decide +kernel
theorem dX9_whyNot_185 : decode cX9_whyNot 185 = .ok (.aload_n 0, 1) := by decide +kernel
theorem dX9_whyNot_186 : decode cX9_whyNot 186 = .ok (.getfield 23, 3) := by decide +kernel
theorem dX9_whyNot_189 : decode cX9_whyNot 189 = .ok (.iconst 0, 1) := by decide +kernel
theorem dX9_whyNot_190 : decode cX9_whyNot 190 = .ok (.iaload, 1) := by decide +kernel
theorem dX9_whyNot_191 : decode cX9_whyNot 191 = .ok (.ineg, 1) := by decide +kernel
theorem dX9_whyNot_192 : decode cX9_whyNot 192 = .ok (.invokevirtual 110, 3) := by decide +kernel
theorem dX9_whyNot_195 : decode cX9_whyNot 195 = .ok (.ireturn, 1) := by decide +kernel
theorem dX9_whyNot_196 : decode cX9_whyNot 196 = .ok (.iconst 0, 1) := by decide +kernel
theorem dX9_whyNot_197 : decode cX9_whyNot 197 = .ok (.ireturn, 1) := by decide +kernel
theorem dX9_whyNot_198 : decode cX9_whyNot 198 = .ok (.aload_n 0, 1) := by decide +kernel
theorem dX9_whyNot_199 : decode cX9_whyNot 199 = .ok (.getfield 23, 3) := by decide +kernel
theorem dX9_whyNot_202 : decode cX9_whyNot 202 = .ok (.iconst 0, 1) := by decide +kernel
theorem dX9_whyNot_203 : decode cX9_whyNot 203 = .ok (.iaload, 1) := by decide +kernel
theorem dX9_whyNot_204 : decode cX9_whyNot 204 = .ok (.aload_n 0, 1) := by decide +kernel
theorem dX9_whyNot_205 : decode cX9_whyNot 205 = .ok (.getfield 23, 3) := by decide +kernel
theorem dX9_whyNot_208 : decode cX9_whyNot 208 = .ok (.iconst 1, 1) := by decide +kernel
theorem dX9_whyNot_209 : decode cX9_whyNot 209 = .ok (.iaload, 1) := by decide +kernel
theorem dX9_whyNot_210 : decode cX9_whyNot 210 = .ok (.invokestatic 118, 3) := by decide +kernel
theorem dX9_whyNot_213 : decode cX9_whyNot 213 = .ok (.ireturn, 1) := by decide +kernel
theorem dX9_whyNot_214 : decode cX9_whyNot 214 = .ok (.aload_n 0, 1) := by decide +kernel
theorem dX9_whyNot_215 : decode cX9_whyNot 215 = .ok (.aload_n 0, 1) := by decide +kernel
theorem dX9_whyNot_216 : decode cX9_whyNot 216 = .ok (.getfield 23, 3) := by decide +kernel
theorem dX9_whyNot_219 : decode cX9_whyNot 219 = .ok (.iconst 0, 1) := by decide +kernel
theorem dX9_whyNot_220 : decode cX9_whyNot 220 = .ok (.iaload, 1) := by decide +kernel
theorem dX9_whyNot_221 : decode cX9_whyNot 221 = .ok (.invokevirtual 188, 3) := by decide +kernel
theorem dX9_whyNot_224 : decode cX9_whyNot 224 = .ok (.ireturn, 1) := by decide +kernel
set_option maxRecDepth 20000 in
theorem ggX9_carryOut_X9_addsMetal : GoodIn wsX9_carryOut wsX9_addsMetal := goodIn_r _ [7, 8, 9, 10, 11, 6, 12, 88, 89, 90, 91, 92, 93, 94, 95, 96, 97, 98] (by decide +kernel) (by decide +kernel)
set_option maxRecDepth 20000 in
theorem gX9_carryOut_X9_addsMetal : GoodIn wsX9_carryOut (wsV RX9 71 RX9 yX9_addsMetal wsX9_addsMetal) := goodIn_app (goodIn_of _ (by decide +kernel)) ggX9_carryOut_X9_addsMetal
set_option maxRecDepth 20000 in
theorem ggX9_carryOut_X9_addsRod : GoodIn wsX9_carryOut wsX9_addsRod := goodIn_r _ [16, 8, 9, 10, 11, 6, 12, 88, 89, 90, 91, 92, 93, 94, 95, 96, 97, 98] (by decide +kernel) (by decide +kernel)
set_option maxRecDepth 20000 in
theorem gX9_carryOut_X9_addsRod : GoodIn wsX9_carryOut (wsV RX9 89 RX9 yX9_addsRod wsX9_addsRod) := goodIn_app (goodIn_of _ (by decide +kernel)) ggX9_carryOut_X9_addsRod
set_option maxRecDepth 20000 in
theorem ggX9_carryOut_X9_change : GoodIn wsX9_carryOut wsX9_change := goodIn_r _ [20, 8, 9, 10, 11, 6, 12, 88, 89, 90, 91, 92, 93, 94, 95, 96, 97, 98] (by decide +kernel) (by decide +kernel)
set_option maxRecDepth 20000 in
theorem gX9_carryOut_X9_change : GoodIn wsX9_carryOut (wsV RX9 77 RX9 yX9_change wsX9_change) := goodIn_app (goodIn_of _ (by decide +kernel)) ggX9_carryOut_X9_change
set_option maxRecDepth 20000 in
theorem ggX9_carryOut_X9_turns : GoodIn wsX9_carryOut wsX9_turns := goodIn_r _ [24, 8, 9, 10, 11, 6, 12, 88, 89, 90, 91, 92, 93, 94, 95, 96, 97, 98] (by decide +kernel) (by decide +kernel)
set_option maxRecDepth 20000 in
theorem gX9_carryOut_X9_turns : GoodIn wsX9_carryOut (wsV RX9 113 RX9 yX9_turns wsX9_turns) := goodIn_app (goodIn_of _ (by decide +kernel)) ggX9_carryOut_X9_turns
set_option maxRecDepth 20000 in
theorem ggX9_carryOut_X9_passes : GoodIn wsX9_carryOut wsX9_passes := goodIn_r _ [28, 8, 29, 30, 31, 32, 33, 34, 6, 35, 36, 37, 38, 39, 40, 9, 10, 11, 12, 41, 42, 43, 44, 45, 46, 47, 48, 49, 50, 51, 52, 53, 54, 55, 56, 57, 58, 59, 60, 61, 62, 63, 64, 65, 66, 67, 68, 69, 70, 71, 72, 73, 74, 75, 76, 77, 78, 79, 80, 81, 82, 83, 84, 85, 86, 87, 88, 89, 90, 91, 92, 93, 94, 95, 96, 97, 98] (by decide +kernel) (by decide +kernel)
set_option maxRecDepth 20000 in
theorem gX9_carryOut_X9_passes : GoodIn wsX9_carryOut (wsV RX9 191 RX9 yX9_passes wsX9_passes) := goodIn_app (goodIn_of _ (by decide +kernel)) ggX9_carryOut_X9_passes
