theorem dX1_init_0 : decode cX1_init 0 = .ok (.aload_n 0, 1) := by decide +kernel
theorem dX1_init_1 : decode cX1_init 1 = .ok (.invokespecial 3, 3) := by decide +kernel
theorem dX1_init_4 : decode cX1_init 4 = .ok (.aload_n 0, 1) := by decide +kernel
theorem dX1_init_5 : decode cX1_init 5 = .ok (.iconst 5, 1) := by decide +kernel
theorem dX1_init_6 : decode cX1_init 6 = .ok (.newarray .int, 2) := by decide +kernel
theorem dX1_init_8 : decode cX1_init 8 = .ok (.putfield 9, 3) := by decide +kernel
theorem dX1_init_11 : decode cX1_init 11 = .ok (.aload_n 0, 1) := by decide +kernel
theorem dX1_init_12 : decode cX1_init 12 = .ok (.iconst 3, 1) := by decide +kernel
theorem dX1_init_13 : decode cX1_init 13 = .ok (.newarray .int, 2) := by decide +kernel
theorem dX1_init_15 : decode cX1_init 15 = .ok (.putfield 15, 3) := by decide +kernel
theorem dX1_init_18 : decode cX1_init 18 = .ok (.aload_n 0, 1) := by decide +kernel
theorem dX1_init_19 : decode cX1_init 19 = .ok (.sipush 200, 3) := by decide +kernel
theorem dX1_init_22 : decode cX1_init 22 = .ok (.putfield 18, 3) := by decide +kernel
theorem dX1_init_25 : decode cX1_init 25 = .ok (.aload_n 0, 1) := by decide +kernel
theorem dX1_init_26 : decode cX1_init 26 = .ok (.sipush 192, 3) := by decide +kernel
theorem dX1_init_29 : decode cX1_init 29 = .ok (.putfield 22, 3) := by decide +kernel
theorem dX1_init_32 : decode cX1_init 32 = .ok (.iconst 0, 1) := by decide +kernel
theorem dX1_init_33 : decode cX1_init 33 = .ok (.istore_n 1, 1) := by decide +kernel
theorem dX1_init_34 : decode cX1_init 34 = .ok (.iload_n 1, 1) := by decide +kernel
theorem dX1_init_35 : decode cX1_init 35 = .ok (.iconst 5, 1) := by decide +kernel
theorem dX1_init_36 : decode cX1_init 36 = .ok (.if_icmp .ge 18, 3) := by decide +kernel
theorem dX1_init_39 : decode cX1_init 39 = .ok (.aload_n 0, 1) := by decide +kernel
theorem dX1_init_40 : decode cX1_init 40 = .ok (.getfield 9, 3) := by decide +kernel
theorem dX1_init_43 : decode cX1_init 43 = .ok (.iload_n 1, 1) := by decide +kernel
theorem dX1_init_44 : decode cX1_init 44 = .ok (.sipush 200, 3) := by decide +kernel
theorem dX1_init_47 : decode cX1_init 47 = .ok (.iastore, 1) := by decide +kernel
theorem dX1_init_48 : decode cX1_init 48 = .ok (.iinc 1 1, 3) := by decide +kernel
theorem dX1_init_51 : decode cX1_init 51 = .ok (.goto (-17), 3) := by decide +kernel
theorem dX1_init_54 : decode cX1_init 54 = .ok (.aload_n 0, 1) := by decide +kernel
theorem dX1_init_55 : decode cX1_init 55 = .ok (.getfield 15, 3) := by decide +kernel
theorem dX1_init_58 : decode cX1_init 58 = .ok (.iconst 0, 1) := by decide +kernel
theorem dX1_init_59 : decode cX1_init 59 = .ok (.ldc 25, 2) := by decide +kernel
theorem dX1_init_61 : decode cX1_init 61 = .ok (.iastore, 1) := by decide +kernel
theorem dX1_init_62 : decode cX1_init 62 = .ok (.aload_n 0, 1) := by decide +kernel
theorem dX1_init_63 : decode cX1_init 63 = .ok (.getfield 15, 3) := by decide +kernel
theorem dX1_init_66 : decode cX1_init 66 = .ok (.iconst 1, 1) := by decide +kernel
theorem dX1_init_67 : decode cX1_init 67 = .ok (.iconst 4, 1) := by decide +kernel
theorem dX1_init_68 : decode cX1_init 68 = .ok (.iastore, 1) := by decide +kernel
theorem dX1_init_69 : decode cX1_init 69 = .ok (.aload_n 0, 1) := by decide +kernel
theorem dX1_init_70 : decode cX1_init 70 = .ok (.getfield 15, 3) := by decide +kernel
theorem dX1_init_73 : decode cX1_init 73 = .ok (.iconst 2, 1) := by decide +kernel
theorem dX1_init_74 : decode cX1_init 74 = .ok (.bipush 20, 2) := by decide +kernel
theorem dX1_init_76 : decode cX1_init 76 = .ok (.iastore, 1) := by decide +kernel
theorem dX1_init_77 : decode cX1_init 77 = .ok (.return_, 1) := by decide +kernel
theorem dX1_copyFrom_0 : decode cX1_copyFrom 0 = .ok (.aload_n 1, 1) := by decide +kernel
theorem dX1_copyFrom_1 : decode cX1_copyFrom 1 = .ok (.getfield 9, 3) := by decide +kernel
theorem dX1_copyFrom_4 : decode cX1_copyFrom 4 = .ok (.iconst 0, 1) := by decide +kernel
theorem dX1_copyFrom_5 : decode cX1_copyFrom 5 = .ok (.aload_n 0, 1) := by decide +kernel
theorem dX1_copyFrom_6 : decode cX1_copyFrom 6 = .ok (.getfield 9, 3) := by decide +kernel
theorem dX1_copyFrom_9 : decode cX1_copyFrom 9 = .ok (.iconst 0, 1) := by decide +kernel
theorem dX1_copyFrom_10 : decode cX1_copyFrom 10 = .ok (.iconst 5, 1) := by decide +kernel
theorem dX1_copyFrom_11 : decode cX1_copyFrom 11 = .ok (.invokestatic 26, 3) := by decide +kernel
theorem dX1_copyFrom_14 : decode cX1_copyFrom 14 = .ok (.aload_n 1, 1) := by decide +kernel
theorem dX1_copyFrom_15 : decode cX1_copyFrom 15 = .ok (.getfield 15, 3) := by decide +kernel
theorem dX1_copyFrom_18 : decode cX1_copyFrom 18 = .ok (.iconst 0, 1) := by decide +kernel
theorem dX1_copyFrom_19 : decode cX1_copyFrom 19 = .ok (.aload_n 0, 1) := by decide +kernel
theorem dX1_copyFrom_20 : decode cX1_copyFrom 20 = .ok (.getfield 15, 3) := by decide +kernel
theorem dX1_copyFrom_23 : decode cX1_copyFrom 23 = .ok (.iconst 0, 1) := by decide +kernel
theorem dX1_copyFrom_24 : decode cX1_copyFrom 24 = .ok (.iconst 3, 1) := by decide +kernel
theorem dX1_copyFrom_25 : decode cX1_copyFrom 25 = .ok (.invokestatic 26, 3) := by decide +kernel
theorem dX1_copyFrom_28 : decode cX1_copyFrom 28 = .ok (.aload_n 0, 1) := by decide +kernel
theorem dX1_copyFrom_29 : decode cX1_copyFrom 29 = .ok (.aload_n 1, 1) := by decide +kernel
theorem dX1_copyFrom_30 : decode cX1_copyFrom 30 = .ok (.getfield 32, 3) := by decide +kernel
theorem dX1_copyFrom_33 : decode cX1_copyFrom 33 = .ok (.putfield 32, 3) := by decide +kernel
theorem dX1_copyFrom_36 : decode cX1_copyFrom 36 = .ok (.aload_n 0, 1) := by decide +kernel
theorem dX1_copyFrom_37 : decode cX1_copyFrom 37 = .ok (.aload_n 1, 1) := by decide +kernel
theorem dX1_copyFrom_38 : decode cX1_copyFrom 38 = .ok (.getfield 18, 3) := by decide +kernel
theorem dX1_copyFrom_41 : decode cX1_copyFrom 41 = .ok (.putfield 18, 3) := by decide +kernel
theorem dX1_copyFrom_44 : decode cX1_copyFrom 44 = .ok (.aload_n 0, 1) := by decide +kernel
theorem dX1_copyFrom_45 : decode cX1_copyFrom 45 = .ok (.aload_n 1, 1) := by decide +kernel
theorem dX1_copyFrom_46 : decode cX1_copyFrom 46 = .ok (.getfield 35, 3) := by decide +kernel
theorem dX1_copyFrom_49 : decode cX1_copyFrom 49 = .ok (.putfield 35, 3) := by decide +kernel
theorem dX1_copyFrom_52 : decode cX1_copyFrom 52 = .ok (.aload_n 0, 1) := by decide +kernel
theorem dX1_copyFrom_53 : decode cX1_copyFrom 53 = .ok (.aload_n 1, 1) := by decide +kernel
theorem dX1_copyFrom_54 : decode cX1_copyFrom 54 = .ok (.getfield 22, 3) := by decide +kernel
theorem dX1_copyFrom_57 : decode cX1_copyFrom 57 = .ok (.putfield 22, 3) := by decide +kernel
theorem dX1_copyFrom_60 : decode cX1_copyFrom 60 = .ok (.aload_n 0, 1) := by decide +kernel
theorem dX1_copyFrom_61 : decode cX1_copyFrom 61 = .ok (.aload_n 1, 1) := by decide +kernel
theorem dX1_copyFrom_62 : decode cX1_copyFrom 62 = .ok (.getfield 38, 3) := by decide +kernel
theorem dX1_copyFrom_65 : decode cX1_copyFrom 65 = .ok (.putfield 38, 3) := by decide +kernel
theorem dX1_copyFrom_68 : decode cX1_copyFrom 68 = .ok (.aload_n 0, 1) := by decide +kernel
theorem dX1_copyFrom_69 : decode cX1_copyFrom 69 = .ok (.aload_n 1, 1) := by decide +kernel
theorem dX1_copyFrom_70 : decode cX1_copyFrom 70 = .ok (.getfield 41, 3) := by decide +kernel
theorem dX1_copyFrom_73 : decode cX1_copyFrom 73 = .ok (.putfield 41, 3) := by decide +kernel
theorem dX1_copyFrom_76 : decode cX1_copyFrom 76 = .ok (.aload_n 0, 1) := by decide +kernel
theorem dX1_copyFrom_77 : decode cX1_copyFrom 77 = .ok (.aload_n 1, 1) := by decide +kernel
theorem dX1_copyFrom_78 : decode cX1_copyFrom 78 = .ok (.getfield 44, 3) := by decide +kernel
theorem dX1_copyFrom_81 : decode cX1_copyFrom 81 = .ok (.putfield 44, 3) := by decide +kernel
theorem dX1_copyFrom_84 : decode cX1_copyFrom 84 = .ok (.aload_n 0, 1) := by decide +kernel
theorem dX1_copyFrom_85 : decode cX1_copyFrom 85 = .ok (.aload_n 1, 1) := by decide +kernel
theorem dX1_copyFrom_86 : decode cX1_copyFrom 86 = .ok (.getfield 47, 3) := by decide +kernel
theorem dX1_copyFrom_89 : decode cX1_copyFrom 89 = .ok (.putfield 47, 3) := by decide +kernel
theorem dX1_copyFrom_92 : decode cX1_copyFrom 92 = .ok (.aload_n 0, 1) := by decide +kernel
theorem dX1_copyFrom_93 : decode cX1_copyFrom 93 = .ok (.aload_n 1, 1) := by decide +kernel
theorem dX1_copyFrom_94 : decode cX1_copyFrom 94 = .ok (.getfield 51, 3) := by decide +kernel
theorem dX1_copyFrom_97 : decode cX1_copyFrom 97 = .ok (.putfield 51, 3) := by decide +kernel
theorem dX1_copyFrom_100 : decode cX1_copyFrom 100 = .ok (.aload_n 0, 1) := by decide +kernel
theorem dX1_copyFrom_101 : decode cX1_copyFrom 101 = .ok (.aload_n 1, 1) := by decide +kernel
theorem dX1_copyFrom_102 : decode cX1_copyFrom 102 = .ok (.getfield 54, 3) := by decide +kernel
theorem dX1_copyFrom_105 : decode cX1_copyFrom 105 = .ok (.putfield 54, 3) := by decide +kernel
theorem dX1_copyFrom_108 : decode cX1_copyFrom 108 = .ok (.return_, 1) := by decide +kernel
set_option maxRecDepth 20000 in
theorem ggX1_checkShelf_X8_within : GoodIn wsX1_checkShelf wsX8_within := goodIn_r _ [3] (by decide +kernel) (by decide +kernel)
set_option maxRecDepth 20000 in
theorem gX1_checkShelf_X8_within_n57 : GoodIn wsX1_checkShelf (wsX8_within) := ggX1_checkShelf_X8_within
theorem dX1_checkShelf_0 : decode cX1_checkShelf 0 = .ok (.iload_n 1, 1) := by decide +kernel
theorem dX1_checkShelf_1 : decode cX1_checkShelf 1 = .ok (.iconst 0, 1) := by decide +kernel
theorem dX1_checkShelf_2 : decode cX1_checkShelf 2 = .ok (.iconst 4, 1) := by decide +kernel
theorem dX1_checkShelf_3 : decode cX1_checkShelf 3 = .ok (.invokestatic 57, 3) := by decide +kernel
theorem dX1_checkShelf_6 : decode cX1_checkShelf 6 = .ok (.ifCond .eq 7, 3) := by decide +kernel
theorem dX1_checkShelf_9 : decode cX1_checkShelf 9 = .ok (.iconst 0, 1) := by decide +kernel
theorem dX1_checkShelf_10 : decode cX1_checkShelf 10 = .ok (.goto 4, 3) := by decide +kernel
theorem dX1_checkShelf_13 : decode cX1_checkShelf 13 = .ok (.iconst 1, 1) := by decide +kernel
theorem dX1_checkShelf_14 : decode cX1_checkShelf 14 = .ok (.ireturn, 1) := by decide +kernel
set_option maxRecDepth 20000 in
theorem ggX1_checkShelfWarmth_X8_within : GoodIn wsX1_checkShelfWarmth wsX8_within := goodIn_r _ [3] (by decide +kernel) (by decide +kernel)
set_option maxRecDepth 20000 in
theorem gX1_checkShelfWarmth_X8_within_n57 : GoodIn wsX1_checkShelfWarmth (wsX8_within) := ggX1_checkShelfWarmth_X8_within
set_option maxRecDepth 20000 in
theorem ggX1_checkShelfWarmth_X8_isWarmth : GoodIn wsX1_checkShelfWarmth wsX8_isWarmth := goodIn_r _ [5, 6, 1, 2, 3] (by decide +kernel) (by decide +kernel)
set_option maxRecDepth 20000 in
theorem gX1_checkShelfWarmth_X8_isWarmth_n61 : GoodIn wsX1_checkShelfWarmth (wsX8_isWarmth) := ggX1_checkShelfWarmth_X8_isWarmth
theorem dX1_checkShelfWarmth_0 : decode cX1_checkShelfWarmth 0 = .ok (.iload_n 1, 1) := by decide +kernel
theorem dX1_checkShelfWarmth_1 : decode cX1_checkShelfWarmth 1 = .ok (.iconst 0, 1) := by decide +kernel
theorem dX1_checkShelfWarmth_2 : decode cX1_checkShelfWarmth 2 = .ok (.iconst 4, 1) := by decide +kernel
theorem dX1_checkShelfWarmth_3 : decode cX1_checkShelfWarmth 3 = .ok (.invokestatic 57, 3) := by decide +kernel
theorem dX1_checkShelfWarmth_6 : decode cX1_checkShelfWarmth 6 = .ok (.ifCond .ne 5, 3) := by decide +kernel
theorem dX1_checkShelfWarmth_9 : decode cX1_checkShelfWarmth 9 = .ok (.iconst 1, 1) := by decide +kernel
theorem dX1_checkShelfWarmth_10 : decode cX1_checkShelfWarmth 10 = .ok (.ireturn, 1) := by decide +kernel
theorem dX1_checkShelfWarmth_11 : decode cX1_checkShelfWarmth 11 = .ok (.iload_n 2, 1) := by decide +kernel
theorem dX1_checkShelfWarmth_12 : decode cX1_checkShelfWarmth 12 = .ok (.invokestatic 61, 3) := by decide +kernel
theorem dX1_checkShelfWarmth_15 : decode cX1_checkShelfWarmth 15 = .ok (.ifCond .eq 7, 3) := by decide +kernel
theorem dX1_checkShelfWarmth_18 : decode cX1_checkShelfWarmth 18 = .ok (.iconst 0, 1) := by decide +kernel
theorem dX1_checkShelfWarmth_19 : decode cX1_checkShelfWarmth 19 = .ok (.goto 4, 3) := by decide +kernel
theorem dX1_checkShelfWarmth_22 : decode cX1_checkShelfWarmth 22 = .ok (.iconst 2, 1) := by decide +kernel
theorem dX1_checkShelfWarmth_23 : decode cX1_checkShelfWarmth 23 = .ok (.ireturn, 1) := by decide +kernel
set_option maxRecDepth 20000 in
theorem ggX1_checkTurn_X8_within : GoodIn wsX1_checkTurn wsX8_within := goodIn_r _ [4] (by decide +kernel) (by decide +kernel)
set_option maxRecDepth 20000 in
theorem gX1_checkTurn_X8_within_n57 : GoodIn wsX1_checkTurn (wsX8_within) := ggX1_checkTurn_X8_within
theorem dX1_checkTurn_0 : decode cX1_checkTurn 0 = .ok (.iload_n 1, 1) := by decide +kernel
theorem dX1_checkTurn_1 : decode cX1_checkTurn 1 = .ok (.sipush (-1000), 3) := by decide +kernel
theorem dX1_checkTurn_4 : decode cX1_checkTurn 4 = .ok (.sipush 1000, 3) := by decide +kernel
theorem dX1_checkTurn_7 : decode cX1_checkTurn 7 = .ok (.invokestatic 57, 3) := by decide +kernel
theorem dX1_checkTurn_10 : decode cX1_checkTurn 10 = .ok (.ifCond .ne 5, 3) := by decide +kernel
theorem dX1_checkTurn_13 : decode cX1_checkTurn 13 = .ok (.iconst 2, 1) := by decide +kernel
theorem dX1_checkTurn_14 : decode cX1_checkTurn 14 = .ok (.ireturn, 1) := by decide +kernel
theorem dX1_checkTurn_15 : decode cX1_checkTurn 15 = .ok (.aload_n 0, 1) := by decide +kernel
theorem dX1_checkTurn_16 : decode cX1_checkTurn 16 = .ok (.getfield 35, 3) := by decide +kernel
theorem dX1_checkTurn_19 : decode cX1_checkTurn 19 = .ok (.iload_n 1, 1) := by decide +kernel
theorem dX1_checkTurn_20 : decode cX1_checkTurn 20 = .ok (.iadd, 1) := by decide +kernel
theorem dX1_checkTurn_21 : decode cX1_checkTurn 21 = .ok (.sipush (-500), 3) := by decide +kernel
theorem dX1_checkTurn_24 : decode cX1_checkTurn 24 = .ok (.sipush 500, 3) := by decide +kernel
theorem dX1_checkTurn_27 : decode cX1_checkTurn 27 = .ok (.invokestatic 57, 3) := by decide +kernel
theorem dX1_checkTurn_30 : decode cX1_checkTurn 30 = .ok (.ifCond .eq 7, 3) := by decide +kernel
theorem dX1_checkTurn_33 : decode cX1_checkTurn 33 = .ok (.iconst 0, 1) := by decide +kernel
theorem dX1_checkTurn_34 : decode cX1_checkTurn 34 = .ok (.goto 4, 3) := by decide +kernel
theorem dX1_checkTurn_37 : decode cX1_checkTurn 37 = .ok (.iconst 3, 1) := by decide +kernel
theorem dX1_checkTurn_38 : decode cX1_checkTurn 38 = .ok (.ireturn, 1) := by decide +kernel
set_option maxRecDepth 20000 in
theorem ggX1_checkSetting_X8_within : GoodIn wsX1_checkSetting wsX8_within := goodIn_r _ [3] (by decide +kernel) (by decide +kernel)
set_option maxRecDepth 20000 in
theorem gX1_checkSetting_X8_within_n57 : GoodIn wsX1_checkSetting (wsX8_within) := ggX1_checkSetting_X8_within
theorem dX1_checkSetting_0 : decode cX1_checkSetting 0 = .ok (.iload_n 1, 1) := by decide +kernel
theorem dX1_checkSetting_1 : decode cX1_checkSetting 1 = .ok (.iconst 0, 1) := by decide +kernel
theorem dX1_checkSetting_2 : decode cX1_checkSetting 2 = .ok (.iconst 2, 1) := by decide +kernel
theorem dX1_checkSetting_3 : decode cX1_checkSetting 3 = .ok (.invokestatic 57, 3) := by decide +kernel
theorem dX1_checkSetting_6 : decode cX1_checkSetting 6 = .ok (.ifCond .eq 24, 3) := by decide +kernel
theorem dX1_checkSetting_9 : decode cX1_checkSetting 9 = .ok (.iload_n 2, 1) := by decide +kernel
theorem dX1_checkSetting_10 : decode cX1_checkSetting 10 = .ok (.getstatic 65, 3) := by decide +kernel
theorem dX1_checkSetting_13 : decode cX1_checkSetting 13 = .ok (.iload_n 1, 1) := by decide +kernel
theorem dX1_checkSetting_14 : decode cX1_checkSetting 14 = .ok (.iaload, 1) := by decide +kernel
theorem dX1_checkSetting_15 : decode cX1_checkSetting 15 = .ok (.getstatic 68, 3) := by decide +kernel
theorem dX1_checkSetting_18 : decode cX1_checkSetting 18 = .ok (.iload_n 1, 1) := by decide +kernel
theorem dX1_checkSetting_19 : decode cX1_checkSetting 19 = .ok (.iaload, 1) := by decide +kernel
theorem dX1_checkSetting_20 : decode cX1_checkSetting 20 = .ok (.invokestatic 57, 3) := by decide +kernel
theorem dX1_checkSetting_23 : decode cX1_checkSetting 23 = .ok (.ifCond .eq 7, 3) := by decide +kernel
theorem dX1_checkSetting_26 : decode cX1_checkSetting 26 = .ok (.iconst 1, 1) := by decide +kernel
theorem dX1_checkSetting_27 : decode cX1_checkSetting 27 = .ok (.goto 4, 3) := by decide +kernel
theorem dX1_checkSetting_30 : decode cX1_checkSetting 30 = .ok (.iconst 0, 1) := by decide +kernel
theorem dX1_checkSetting_31 : decode cX1_checkSetting 31 = .ok (.istore_n 3, 1) := by decide +kernel
theorem dX1_checkSetting_32 : decode cX1_checkSetting 32 = .ok (.iload_n 3, 1) := by decide +kernel
theorem dX1_checkSetting_33 : decode cX1_checkSetting 33 = .ok (.ifCond .eq 7, 3) := by decide +kernel
theorem dX1_checkSetting_36 : decode cX1_checkSetting 36 = .ok (.iconst 0, 1) := by decide +kernel
theorem dX1_checkSetting_37 : decode cX1_checkSetting 37 = .ok (.goto 4, 3) := by decide +kernel
theorem dX1_checkSetting_40 : decode cX1_checkSetting 40 = .ok (.iconst 2, 1) := by decide +kernel
theorem dX1_checkSetting_41 : decode cX1_checkSetting 41 = .ok (.ireturn, 1) := by decide +kernel
set_option maxRecDepth 20000 in
theorem ggX1_checkHours_X8_within : GoodIn wsX1_checkHours wsX8_within := goodIn_r _ [5] (by decide +kernel) (by decide +kernel)
set_option maxRecDepth 20000 in
theorem gX1_checkHours_X8_within_n57 : GoodIn wsX1_checkHours (wsX8_within) := ggX1_checkHours_X8_within
theorem dX1_checkHours_0 : decode cX1_checkHours 0 = .ok (.iload_n 1, 1) := by decide +kernel
theorem dX1_checkHours_1 : decode cX1_checkHours 1 = .ok (.iconst 1, 1) := by decide +kernel
theorem dX1_checkHours_2 : decode cX1_checkHours 2 = .ok (.sipush 500, 3) := by decide +kernel
theorem dX1_checkHours_5 : decode cX1_checkHours 5 = .ok (.invokestatic 57, 3) := by decide +kernel
theorem dX1_checkHours_8 : decode cX1_checkHours 8 = .ok (.ifCond .ne 5, 3) := by decide +kernel
theorem dX1_checkHours_11 : decode cX1_checkHours 11 = .ok (.iconst 2, 1) := by decide +kernel
theorem dX1_checkHours_12 : decode cX1_checkHours 12 = .ok (.ireturn, 1) := by decide +kernel
theorem dX1_checkHours_13 : decode cX1_checkHours 13 = .ok (.aload_n 0, 1) := by decide +kernel
theorem dX1_checkHours_14 : decode cX1_checkHours 14 = .ok (.getfield 38, 3) := by decide +kernel
theorem dX1_checkHours_17 : decode cX1_checkHours 17 = .ok (.iload_n 1, 1) := by decide +kernel
theorem dX1_checkHours_18 : decode cX1_checkHours 18 = .ok (.iadd, 1) := by decide +kernel
theorem dX1_checkHours_19 : decode cX1_checkHours 19 = .ok (.ldc 71, 2) := by decide +kernel
theorem dX1_checkHours_21 : decode cX1_checkHours 21 = .ok (.if_icmp .gt 7, 3) := by decide +kernel
theorem dX1_checkHours_24 : decode cX1_checkHours 24 = .ok (.iconst 0, 1) := by decide +kernel
theorem dX1_checkHours_25 : decode cX1_checkHours 25 = .ok (.goto 4, 3) := by decide +kernel
theorem dX1_checkHours_28 : decode cX1_checkHours 28 = .ok (.iconst 3, 1) := by decide +kernel
theorem dX1_checkHours_29 : decode cX1_checkHours 29 = .ok (.ireturn, 1) := by decide +kernel
theorem dX1_changeShelfWarmth_0 : decode cX1_changeShelfWarmth 0 = .ok (.aload_n 0, 1) := by decide +kernel
theorem dX1_changeShelfWarmth_1 : decode cX1_changeShelfWarmth 1 = .ok (.getfield 9, 3) := by decide +kernel
theorem dX1_changeShelfWarmth_4 : decode cX1_changeShelfWarmth 4 = .ok (.iload_n 1, 1) := by decide +kernel
theorem dX1_changeShelfWarmth_5 : decode cX1_changeShelfWarmth 5 = .ok (.iaload, 1) := by decide +kernel
theorem dX1_changeShelfWarmth_6 : decode cX1_changeShelfWarmth 6 = .ok (.istore_n 3, 1) := by decide +kernel
theorem dX1_changeShelfWarmth_7 : decode cX1_changeShelfWarmth 7 = .ok (.aload_n 0, 1) := by decide +kernel
theorem dX1_changeShelfWarmth_8 : decode cX1_changeShelfWarmth 8 = .ok (.getfield 9, 3) := by decide +kernel
theorem dX1_changeShelfWarmth_11 : decode cX1_changeShelfWarmth 11 = .ok (.iload_n 1, 1) := by decide +kernel
theorem dX1_changeShelfWarmth_12 : decode cX1_changeShelfWarmth 12 = .ok (.iload_n 2, 1) := by decide +kernel
theorem dX1_changeShelfWarmth_13 : decode cX1_changeShelfWarmth 13 = .ok (.iastore, 1) := by decide +kernel
theorem dX1_changeShelfWarmth_14 : decode cX1_changeShelfWarmth 14 = .ok (.iload_n 3, 1) := by decide +kernel
theorem dX1_changeShelfWarmth_15 : decode cX1_changeShelfWarmth 15 = .ok (.ireturn, 1) := by decide +kernel
theorem dX1_changeShelf_0 : decode cX1_changeShelf 0 = .ok (.aload_n 0, 1) := by decide +kernel
theorem dX1_changeShelf_1 : decode cX1_changeShelf 1 = .ok (.getfield 32, 3) := by decide +kernel
theorem dX1_changeShelf_4 : decode cX1_changeShelf 4 = .ok (.istore_n 2, 1) := by decide +kernel
theorem dX1_changeShelf_5 : decode cX1_changeShelf 5 = .ok (.aload_n 0, 1) := by decide +kernel
theorem dX1_changeShelf_6 : decode cX1_changeShelf 6 = .ok (.iload_n 1, 1) := by decide +kernel
theorem dX1_changeShelf_7 : decode cX1_changeShelf 7 = .ok (.putfield 32, 3) := by decide +kernel
theorem dX1_changeShelf_10 : decode cX1_changeShelf 10 = .ok (.iload_n 2, 1) := by decide +kernel
theorem dX1_changeShelf_11 : decode cX1_changeShelf 11 = .ok (.ireturn, 1) := by decide +kernel
theorem dX1_changeNut_0 : decode cX1_changeNut 0 = .ok (.aload_n 0, 1) := by decide +kernel
theorem dX1_changeNut_1 : decode cX1_changeNut 1 = .ok (.dup, 1) := by decide +kernel
theorem dX1_changeNut_2 : decode cX1_changeNut 2 = .ok (.getfield 35, 3) := by decide +kernel
theorem dX1_changeNut_5 : decode cX1_changeNut 5 = .ok (.iload_n 1, 1) := by decide +kernel
theorem dX1_changeNut_6 : decode cX1_changeNut 6 = .ok (.iadd, 1) := by decide +kernel
theorem dX1_changeNut_7 : decode cX1_changeNut 7 = .ok (.putfield 35, 3) := by decide +kernel
theorem dX1_changeNut_10 : decode cX1_changeNut 10 = .ok (.aload_n 0, 1) := by decide +kernel
theorem dX1_changeNut_11 : decode cX1_changeNut 11 = .ok (.getfield 35, 3) := by decide +kernel
theorem dX1_changeNut_14 : decode cX1_changeNut 14 = .ok (.ireturn, 1) := by decide +kernel
theorem dX1_fillDrive_0 : decode cX1_fillDrive 0 = .ok (.aload_n 0, 1) := by decide +kernel
theorem dX1_fillDrive_1 : decode cX1_fillDrive 1 = .ok (.getfield 22, 3) := by decide +kernel
theorem dX1_fillDrive_4 : decode cX1_fillDrive 4 = .ok (.istore_n 1, 1) := by decide +kernel
theorem dX1_fillDrive_5 : decode cX1_fillDrive 5 = .ok (.aload_n 0, 1) := by decide +kernel
theorem dX1_fillDrive_6 : decode cX1_fillDrive 6 = .ok (.sipush 192, 3) := by decide +kernel
theorem dX1_fillDrive_9 : decode cX1_fillDrive 9 = .ok (.putfield 22, 3) := by decide +kernel
theorem dX1_fillDrive_12 : decode cX1_fillDrive 12 = .ok (.iload_n 1, 1) := by decide +kernel
theorem dX1_fillDrive_13 : decode cX1_fillDrive 13 = .ok (.ireturn, 1) := by decide +kernel
theorem dX1_changeSetting_0 : decode cX1_changeSetting 0 = .ok (.aload_n 0, 1) := by decide +kernel
theorem dX1_changeSetting_1 : decode cX1_changeSetting 1 = .ok (.getfield 15, 3) := by decide +kernel
theorem dX1_changeSetting_4 : decode cX1_changeSetting 4 = .ok (.iload_n 1, 1) := by decide +kernel
theorem dX1_changeSetting_5 : decode cX1_changeSetting 5 = .ok (.iaload, 1) := by decide +kernel
theorem dX1_changeSetting_6 : decode cX1_changeSetting 6 = .ok (.istore_n 3, 1) := by decide +kernel
theorem dX1_changeSetting_7 : decode cX1_changeSetting 7 = .ok (.aload_n 0, 1) := by decide +kernel
theorem dX1_changeSetting_8 : decode cX1_changeSetting 8 = .ok (.getfield 15, 3) := by decide +kernel
theorem dX1_changeSetting_11 : decode cX1_changeSetting 11 = .ok (.iload_n 1, 1) := by decide +kernel
theorem dX1_changeSetting_12 : decode cX1_changeSetting 12 = .ok (.iload_n 2, 1) := by decide +kernel
theorem dX1_changeSetting_13 : decode cX1_changeSetting 13 = .ok (.iastore, 1) := by decide +kernel
theorem dX1_changeSetting_14 : decode cX1_changeSetting 14 = .ok (.iload_n 3, 1) := by decide +kernel
theorem dX1_changeSetting_15 : decode cX1_changeSetting 15 = .ok (.ireturn, 1) := by decide +kernel
set_option maxRecDepth 20000 in
theorem ggX1_shelfWarmth_X8_within : GoodIn wsX1_shelfWarmth wsX8_within := goodIn_r _ [4] (by decide +kernel) (by decide +kernel)
set_option maxRecDepth 20000 in
theorem gX1_shelfWarmth_X8_within_n57 : GoodIn wsX1_shelfWarmth (wsX8_within) := ggX1_shelfWarmth_X8_within
theorem dX1_shelfWarmth_0 : decode cX1_shelfWarmth 0 = .ok (.iload_n 1, 1) := by decide +kernel
theorem dX1_shelfWarmth_1 : decode cX1_shelfWarmth 1 = .ok (.iconst 0, 1) := by decide +kernel
theorem dX1_shelfWarmth_2 : decode cX1_shelfWarmth 2 = .ok (.iconst 4, 1) := by decide +kernel
theorem dX1_shelfWarmth_3 : decode cX1_shelfWarmth 3 = .ok (.invokestatic 57, 3) := by decide +kernel
theorem dX1_shelfWarmth_6 : decode cX1_shelfWarmth 6 = .ok (.ifCond .eq 12, 3) := by decide +kernel
theorem dX1_shelfWarmth_9 : decode cX1_shelfWarmth 9 = .ok (.aload_n 0, 1) := by decide +kernel
theorem dX1_shelfWarmth_10 : decode cX1_shelfWarmth 10 = .ok (.getfield 9, 3) := by decide +kernel
theorem dX1_shelfWarmth_13 : decode cX1_shelfWarmth 13 = .ok (.iload_n 1, 1) := by decide +kernel
theorem dX1_shelfWarmth_14 : decode cX1_shelfWarmth 14 = .ok (.iaload, 1) := by decide +kernel
theorem dX1_shelfWarmth_15 : decode cX1_shelfWarmth 15 = .ok (.goto 6, 3) := by decide +kernel
theorem dX1_shelfWarmth_18 : decode cX1_shelfWarmth 18 = .ok (.sipush 200, 3) := by decide +kernel
theorem dX1_shelfWarmth_21 : decode cX1_shelfWarmth 21 = .ok (.ireturn, 1) := by decide +kernel
theorem dX1_arcBy_0 : decode cX1_arcBy 0 = .ok (.aload_n 0, 1) := by decide +kernel
theorem dX1_arcBy_1 : decode cX1_arcBy 1 = .ok (.getfield 15, 3) := by decide +kernel
theorem dX1_arcBy_4 : decode cX1_arcBy 4 = .ok (.iconst 2, 1) := by decide +kernel
theorem dX1_arcBy_5 : decode cX1_arcBy 5 = .ok (.iaload, 1) := by decide +kernel
theorem dX1_arcBy_6 : decode cX1_arcBy 6 = .ok (.iload_n 1, 1) := by decide +kernel
theorem dX1_arcBy_7 : decode cX1_arcBy 7 = .ok (.bipush 8, 2) := by decide +kernel
theorem dX1_arcBy_9 : decode cX1_arcBy 9 = .ok (.idiv, 1) := by decide +kernel
theorem dX1_arcBy_10 : decode cX1_arcBy 10 = .ok (.iadd, 1) := by decide +kernel
theorem dX1_arcBy_11 : decode cX1_arcBy 11 = .ok (.ireturn, 1) := by decide +kernel
set_option maxRecDepth 20000 in
theorem ggX1_lossBy_X1_arcBy : GoodIn wsX1_lossBy wsX1_arcBy := goodIn_r _ [5, 6, 7, 8, 9, 10, 11, 12, 13, 14, 15, 16, 17, 18] (by decide +kernel) (by decide +kernel)
set_option maxRecDepth 20000 in
theorem gX1_lossBy_X1_arcBy : GoodIn wsX1_lossBy (wsV RX1 72 RX1 yX1_arcBy wsX1_arcBy) := goodIn_app (goodIn_of _ (by decide +kernel)) ggX1_lossBy_X1_arcBy
theorem dX1_lossBy_0 : decode cX1_lossBy 0 = .ok (.aload_n 0, 1) := by decide +kernel
theorem dX1_lossBy_1 : decode cX1_lossBy 1 = .ok (.iload_n 1, 1) := by decide +kernel
theorem dX1_lossBy_2 : decode cX1_lossBy 2 = .ok (.invokevirtual 72, 3) := by decide +kernel
theorem dX1_lossBy_5 : decode cX1_lossBy 5 = .ok (.istore_n 2, 1) := by decide +kernel
theorem dX1_lossBy_6 : decode cX1_lossBy 6 = .ok (.iload_n 2, 1) := by decide +kernel
theorem dX1_lossBy_7 : decode cX1_lossBy 7 = .ok (.iload_n 2, 1) := by decide +kernel
theorem dX1_lossBy_8 : decode cX1_lossBy 8 = .ok (.imul, 1) := by decide +kernel
theorem dX1_lossBy_9 : decode cX1_lossBy 9 = .ok (.sipush 165, 3) := by decide +kernel
theorem dX1_lossBy_12 : decode cX1_lossBy 12 = .ok (.imul, 1) := by decide +kernel
theorem dX1_lossBy_13 : decode cX1_lossBy 13 = .ok (.bipush 100, 2) := by decide +kernel
theorem dX1_lossBy_15 : decode cX1_lossBy 15 = .ok (.idiv, 1) := by decide +kernel
theorem dX1_lossBy_16 : decode cX1_lossBy 16 = .ok (.ireturn, 1) := by decide +kernel
set_option maxRecDepth 20000 in
theorem ggX1_warmthAfterHour_X1_shelfWarmth : GoodIn wsX1_warmthAfterHour wsX1_shelfWarmth := goodIn_r _ [7, 8, 9, 10, 11, 18, 19, 20, 21, 22, 23, 24, 25, 26, 27, 28, 29] (by decide +kernel) (by decide +kernel)
set_option maxRecDepth 20000 in
theorem gX1_warmthAfterHour_X1_shelfWarmth : GoodIn wsX1_warmthAfterHour (wsV RX1 76 RX1 yX1_shelfWarmth wsX1_shelfWarmth) := goodIn_app (goodIn_of _ (by decide +kernel)) ggX1_warmthAfterHour_X1_shelfWarmth
set_option maxRecDepth 20000 in
theorem ggX1_warmthAfterHour_X8_floorOf : GoodIn wsX1_warmthAfterHour wsX8_floorOf := goodIn_r _ [13, 14, 15, 16, 17] (by decide +kernel) (by decide +kernel)
set_option maxRecDepth 20000 in
theorem gX1_warmthAfterHour_X8_floorOf_n79 : GoodIn wsX1_warmthAfterHour (wsX8_floorOf) := ggX1_warmthAfterHour_X8_floorOf
theorem dX1_warmthAfterHour_0 : decode cX1_warmthAfterHour 0 = .ok (.aload_n 0, 1) := by decide +kernel
theorem dX1_warmthAfterHour_1 : decode cX1_warmthAfterHour 1 = .ok (.aload_n 0, 1) := by decide +kernel
theorem dX1_warmthAfterHour_2 : decode cX1_warmthAfterHour 2 = .ok (.getfield 32, 3) := by decide +kernel
theorem dX1_warmthAfterHour_5 : decode cX1_warmthAfterHour 5 = .ok (.invokevirtual 76, 3) := by decide +kernel
theorem dX1_warmthAfterHour_8 : decode cX1_warmthAfterHour 8 = .ok (.iload_n 1, 1) := by decide +kernel
theorem dX1_warmthAfterHour_9 : decode cX1_warmthAfterHour 9 = .ok (.isub, 1) := by decide +kernel
theorem dX1_warmthAfterHour_10 : decode cX1_warmthAfterHour 10 = .ok (.istore_n 2, 1) := by decide +kernel
theorem dX1_warmthAfterHour_11 : decode cX1_warmthAfterHour 11 = .ok (.iload_n 2, 1) := by decide +kernel
theorem dX1_warmthAfterHour_12 : decode cX1_warmthAfterHour 12 = .ok (.i2l, 1) := by decide +kernel
theorem dX1_warmthAfterHour_13 : decode cX1_warmthAfterHour 13 = .ok (.aload_n 0, 1) := by decide +kernel
theorem dX1_warmthAfterHour_14 : decode cX1_warmthAfterHour 14 = .ok (.getfield 15, 3) := by decide +kernel
theorem dX1_warmthAfterHour_17 : decode cX1_warmthAfterHour 17 = .ok (.iconst 1, 1) := by decide +kernel
theorem dX1_warmthAfterHour_18 : decode cX1_warmthAfterHour 18 = .ok (.iaload, 1) := by decide +kernel
theorem dX1_warmthAfterHour_19 : decode cX1_warmthAfterHour 19 = .ok (.i2l, 1) := by decide +kernel
theorem dX1_warmthAfterHour_20 : decode cX1_warmthAfterHour 20 = .ok (.invokestatic 79, 3) := by decide +kernel
theorem dX1_warmthAfterHour_23 : decode cX1_warmthAfterHour 23 = .ok (.l2i, 1) := by decide +kernel
theorem dX1_warmthAfterHour_24 : decode cX1_warmthAfterHour 24 = .ok (.istore_n 3, 1) := by decide +kernel
theorem dX1_warmthAfterHour_25 : decode cX1_warmthAfterHour 25 = .ok (.iload_n 1, 1) := by decide +kernel
theorem dX1_warmthAfterHour_26 : decode cX1_warmthAfterHour 26 = .ok (.iload_n 3, 1) := by decide +kernel
theorem dX1_warmthAfterHour_27 : decode cX1_warmthAfterHour 27 = .ok (.ifCond .ne 11, 3) := by decide +kernel
theorem dX1_warmthAfterHour_30 : decode cX1_warmthAfterHour 30 = .ok (.iload_n 2, 1) := by decide +kernel
theorem dX1_warmthAfterHour_31 : decode cX1_warmthAfterHour 31 = .ok (.ifCond .eq 7, 3) := by decide +kernel
theorem dX1_warmthAfterHour_34 : decode cX1_warmthAfterHour 34 = .ok (.iconst 1, 1) := by decide +kernel
theorem dX1_warmthAfterHour_35 : decode cX1_warmthAfterHour 35 = .ok (.goto 4, 3) := by decide +kernel
theorem dX1_warmthAfterHour_38 : decode cX1_warmthAfterHour 38 = .ok (.iload_n 3, 1) := by decide +kernel
theorem dX1_warmthAfterHour_39 : decode cX1_warmthAfterHour 39 = .ok (.iadd, 1) := by decide +kernel
theorem dX1_warmthAfterHour_40 : decode cX1_warmthAfterHour 40 = .ok (.ireturn, 1) := by decide +kernel
set_option maxRecDepth 20000 in
theorem ggX1_errorOfClock_J9_floorDiv_f86c9 : GoodIn wsX1_errorOfClock wsJ9_floorDiv_f86c9 := goodIn_r _ [8] (by decide +kernel) (by decide +kernel)
set_option maxRecDepth 20000 in
theorem gX1_errorOfClock_J9_floorDiv_f86c9 : GoodIn wsX1_errorOfClock (va_wsS RX1 85 yJ9_floorDiv_f86c9 wsJ9_floorDiv_f86c9) := goodIn_app (goodIn_of _ (by decide +kernel)) ggX1_errorOfClock_J9_floorDiv_f86c9
set_option maxRecDepth 20000 in
theorem ggX1_errorOfClock_X8_clamp : GoodIn wsX1_errorOfClock wsX8_clamp := goodIn_r _ [11, 12, 13, 14, 15, 16, 17, 18] (by decide +kernel) (by decide +kernel)
set_option maxRecDepth 20000 in
theorem gX1_errorOfClock_X8_clamp_n94 : GoodIn wsX1_errorOfClock (wsX8_clamp) := ggX1_errorOfClock_X8_clamp
theorem dX1_errorOfClock_0 : decode cX1_errorOfClock 0 = .ok (.aload_n 0, 1) := by decide +kernel
theorem dX1_errorOfClock_1 : decode cX1_errorOfClock 1 = .ok (.getfield 47, 3) := by decide +kernel
theorem dX1_errorOfClock_4 : decode cX1_errorOfClock 4 = .ok (.ldc2_w 83, 3) := by decide +kernel
theorem dX1_errorOfClock_7 : decode cX1_errorOfClock 7 = .ok (.invokestatic 85, 3) := by decide +kernel
theorem dX1_errorOfClock_10 : decode cX1_errorOfClock 10 = .ok (.ldc2_w 90, 3) := by decide +kernel
theorem dX1_errorOfClock_13 : decode cX1_errorOfClock 13 = .ok (.ldc2_w 92, 3) := by decide +kernel
theorem dX1_errorOfClock_16 : decode cX1_errorOfClock 16 = .ok (.invokestatic 94, 3) := by decide +kernel
theorem dX1_errorOfClock_19 : decode cX1_errorOfClock 19 = .ok (.l2i, 1) := by decide +kernel
theorem dX1_errorOfClock_20 : decode cX1_errorOfClock 20 = .ok (.ireturn, 1) := by decide +kernel
theorem dX2_init_0 : decode cX2_init 0 = .ok (.aload_n 0, 1) := by decide +kernel
theorem dX2_init_1 : decode cX2_init 1 = .ok (.invokespecial 3, 3) := by decide +kernel
theorem dX2_init_4 : decode cX2_init 4 = .ok (.aload_n 0, 1) := by decide +kernel
theorem dX2_init_5 : decode cX2_init 5 = .ok (.sipush 150, 3) := by decide +kernel
theorem dX2_init_8 : decode cX2_init 8 = .ok (.newarray .byte, 2) := by decide +kernel
theorem dX2_init_10 : decode cX2_init 10 = .ok (.putfield 9, 3) := by decide +kernel
theorem dX2_init_13 : decode cX2_init 13 = .ok (.return_, 1) := by decide +kernel
set_option maxRecDepth 20000 in
theorem ggX2_checkByte_X8_within : GoodIn wsX2_checkByte wsX8_within := goodIn_r _ [4] (by decide +kernel) (by decide +kernel)
set_option maxRecDepth 20000 in
theorem gX2_checkByte_X8_within_n15 : GoodIn wsX2_checkByte (wsX8_within) := ggX2_checkByte_X8_within
theorem dX2_checkByte_0 : decode cX2_checkByte 0 = .ok (.iload_n 1, 1) := by decide +kernel
theorem dX2_checkByte_1 : decode cX2_checkByte 1 = .ok (.iconst 0, 1) := by decide +kernel
theorem dX2_checkByte_2 : decode cX2_checkByte 2 = .ok (.bipush 127, 2) := by decide +kernel
theorem dX2_checkByte_4 : decode cX2_checkByte 4 = .ok (.invokestatic 15, 3) := by decide +kernel
theorem dX2_checkByte_7 : decode cX2_checkByte 7 = .ok (.ifCond .ne 5, 3) := by decide +kernel
theorem dX2_checkByte_10 : decode cX2_checkByte 10 = .ok (.iconst 2, 1) := by decide +kernel
theorem dX2_checkByte_11 : decode cX2_checkByte 11 = .ok (.ireturn, 1) := by decide +kernel
theorem dX2_checkByte_12 : decode cX2_checkByte 12 = .ok (.aload_n 0, 1) := by decide +kernel
theorem dX2_checkByte_13 : decode cX2_checkByte 13 = .ok (.getfield 19, 3) := by decide +kernel
theorem dX2_checkByte_16 : decode cX2_checkByte 16 = .ok (.sipush 150, 3) := by decide +kernel
theorem dX2_checkByte_19 : decode cX2_checkByte 19 = .ok (.if_icmp .ge 7, 3) := by decide +kernel
theorem dX2_checkByte_22 : decode cX2_checkByte 22 = .ok (.iconst 0, 1) := by decide +kernel
theorem dX2_checkByte_23 : decode cX2_checkByte 23 = .ok (.goto 4, 3) := by decide +kernel
theorem dX2_checkByte_26 : decode cX2_checkByte 26 = .ok (.iconst 3, 1) := by decide +kernel
theorem dX2_checkByte_27 : decode cX2_checkByte 27 = .ok (.ireturn, 1) := by decide +kernel
theorem dX2_append_0 : decode cX2_append 0 = .ok (.aload_n 0, 1) := by decide +kernel
theorem dX2_append_1 : decode cX2_append 1 = .ok (.getfield 9, 3) := by decide +kernel
theorem dX2_append_4 : decode cX2_append 4 = .ok (.aload_n 0, 1) := by decide +kernel
theorem dX2_append_5 : decode cX2_append 5 = .ok (.getfield 19, 3) := by decide +kernel
theorem dX2_append_8 : decode cX2_append 8 = .ok (.iload_n 1, 1) := by decide +kernel
theorem dX2_append_9 : decode cX2_append 9 = .ok (.i2b, 1) := by decide +kernel
theorem dX2_append_10 : decode cX2_append 10 = .ok (.bastore, 1) := by decide +kernel
theorem dX2_append_11 : decode cX2_append 11 = .ok (.aload_n 0, 1) := by decide +kernel
theorem dX2_append_12 : decode cX2_append 12 = .ok (.dup, 1) := by decide +kernel
theorem dX2_append_13 : decode cX2_append 13 = .ok (.getfield 19, 3) := by decide +kernel
theorem dX2_append_16 : decode cX2_append 16 = .ok (.iconst 1, 1) := by decide +kernel
theorem dX2_append_17 : decode cX2_append 17 = .ok (.iadd, 1) := by decide +kernel
theorem dX2_append_18 : decode cX2_append 18 = .ok (.putfield 19, 3) := by decide +kernel
theorem dX2_append_21 : decode cX2_append 21 = .ok (.aload_n 0, 1) := by decide +kernel
theorem dX2_append_22 : decode cX2_append 22 = .ok (.getfield 19, 3) := by decide +kernel
theorem dX2_append_25 : decode cX2_append 25 = .ok (.ireturn, 1) := by decide +kernel
theorem dX2_rewind_0 : decode cX2_rewind 0 = .ok (.aload_n 0, 1) := by decide +kernel
theorem dX2_rewind_1 : decode cX2_rewind 1 = .ok (.iconst 0, 1) := by decide +kernel
theorem dX2_rewind_2 : decode cX2_rewind 2 = .ok (.putfield 23, 3) := by decide +kernel
theorem dX2_rewind_5 : decode cX2_rewind 5 = .ok (.aload_n 0, 1) := by decide +kernel
theorem dX2_rewind_6 : decode cX2_rewind 6 = .ok (.iconst (-1), 1) := by decide +kernel
theorem dX2_rewind_7 : decode cX2_rewind 7 = .ok (.putfield 26, 3) := by decide +kernel
theorem dX2_rewind_10 : decode cX2_rewind 10 = .ok (.return_, 1) := by decide +kernel
set_option maxRecDepth 20000 in
theorem ggX2_findFault_X2_rewind : GoodIn wsX2_findFault wsX2_rewind := goodIn_r _ [6, 7, 1, 104, 105, 106, 107, 108, 109, 110] (by decide +kernel) (by decide +kernel)
set_option maxRecDepth 20000 in
theorem gX2_findFault_X2_rewind : GoodIn wsX2_findFault (wsV RX2 29 RX2 yX2_rewind wsX2_rewind) := goodIn_app (goodIn_of _ (by decide +kernel)) ggX2_findFault_X2_rewind
set_option maxRecDepth 20000 in
theorem ggX2_findFault_X2_readCommand : GoodIn wsX2_findFault wsX2_readCommand := goodIn_r _ [11, 7, 12, 13, 14, 15, 5, 16, 17, 18, 19, 20, 21, 22, 23, 24, 25, 26, 27, 28, 29, 30, 31, 32, 33, 34, 35, 36, 37, 38, 39, 40, 41, 42, 43, 44, 45, 46, 47, 48, 49, 50, 51, 52, 53, 54, 55, 56, 57, 58, 59, 60, 61, 62, 63, 64, 65, 66, 67, 68, 69, 70, 71, 72, 73, 74, 75, 76, 77, 78, 79, 80, 81, 82, 83, 84, 85, 86, 87, 88, 1, 89, 90, 91, 92, 93, 94, 95, 96, 97, 98, 99, 100, 101, 102, 103, 104, 105, 106, 107, 108, 109, 110] (by decide +kernel) (by decide +kernel)
set_option maxRecDepth 20000 in
theorem gX2_findFault_X2_readCommand : GoodIn wsX2_findFault (wsV RX2 32 RX2 yX2_readCommand wsX2_readCommand) := goodIn_app (goodIn_of _ (by decide +kernel)) ggX2_findFault_X2_readCommand
theorem dX2_findFault_0 : decode cX2_findFault 0 = .ok (.aload_n 0, 1) := by decide +kernel
theorem dX2_findFault_1 : decode cX2_findFault 1 = .ok (.invokevirtual 29, 3) := by decide +kernel
theorem dX2_findFault_4 : decode cX2_findFault 4 = .ok (.iconst 0, 1) := by decide +kernel
theorem dX2_findFault_5 : decode cX2_findFault 5 = .ok (.istore_n 1, 1) := by decide +kernel
theorem dX2_findFault_6 : decode cX2_findFault 6 = .ok (.iload_n 1, 1) := by decide +kernel
theorem dX2_findFault_7 : decode cX2_findFault 7 = .ok (.sipush 150, 3) := by decide +kernel
theorem dX2_findFault_10 : decode cX2_findFault 10 = .ok (.if_icmp .ge 16, 3) := by decide +kernel
theorem dX2_findFault_13 : decode cX2_findFault 13 = .ok (.aload_n 0, 1) := by decide +kernel
theorem dX2_findFault_14 : decode cX2_findFault 14 = .ok (.invokevirtual 32, 3) := by decide +kernel
theorem dX2_findFault_17 : decode cX2_findFault 17 = .ok (.ifCond .eq 9, 3) := by decide +kernel
theorem dX2_findFault_20 : decode cX2_findFault 20 = .ok (.iinc 1 1, 3) := by decide +kernel
theorem dX2_findFault_23 : decode cX2_findFault 23 = .ok (.goto (-17), 3) := by decide +kernel
theorem dX2_findFault_26 : decode cX2_findFault 26 = .ok (.aload_n 0, 1) := by decide +kernel
theorem dX2_findFault_27 : decode cX2_findFault 27 = .ok (.getfield 26, 3) := by decide +kernel
theorem dX2_findFault_30 : decode cX2_findFault 30 = .ok (.ireturn, 1) := by decide +kernel
set_option maxRecDepth 20000 in
theorem ggX2_readCommand_X2_skipSpaces : GoodIn wsX2_readCommand wsX2_skipSpaces := goodIn_r _ [7, 1, 2, 8, 96, 97, 98, 99, 100, 101, 102] (by decide +kernel) (by decide +kernel)
set_option maxRecDepth 20000 in
theorem gX2_readCommand_X2_skipSpaces : GoodIn wsX2_readCommand (wsV RX2 36 RX2 yX2_skipSpaces wsX2_skipSpaces) := goodIn_app (goodIn_of _ (by decide +kernel)) ggX2_readCommand_X2_skipSpaces
set_option maxRecDepth 20000 in
theorem ggX2_readCommand_X2_readWord : GoodIn wsX2_readCommand wsX2_readWord := goodIn_r _ [12, 1, 2, 13, 14, 15, 16, 6, 17, 8, 18, 19, 20, 21, 22, 23, 24, 25, 26, 27, 28, 29, 30, 31, 32, 33, 34, 35, 36, 37, 38, 39, 40, 41, 42, 43, 44, 45, 46, 47, 48, 49, 50, 51, 52, 53, 54, 55, 56, 57, 58, 59, 60, 61, 62, 63, 64, 65, 66, 67, 68, 69, 70, 71, 72, 73, 74, 75, 76, 77, 78, 79, 80, 96, 97, 98, 99, 100, 101, 102] (by decide +kernel) (by decide +kernel)
set_option maxRecDepth 20000 in
theorem gX2_readCommand_X2_readWord : GoodIn wsX2_readCommand (wsV RX2 39 RX2 yX2_readWord wsX2_readWord) := goodIn_app (goodIn_of _ (by decide +kernel)) ggX2_readCommand_X2_readWord
set_option maxRecDepth 20000 in
theorem ggX2_readCommand_X2_readNumbers : GoodIn wsX2_readCommand wsX2_readNumbers := goodIn_r _ [84, 13, 85, 86, 87, 88, 89, 90, 6, 91, 1, 80, 14, 15, 16, 17, 2, 8, 3, 4, 5, 7, 96, 97, 98, 99, 100, 101, 102] (by decide +kernel) (by decide +kernel)
set_option maxRecDepth 20000 in
theorem gX2_readCommand_X2_readNumbers : GoodIn wsX2_readCommand (wsV RX2 42 RX2 yX2_readNumbers wsX2_readNumbers) := goodIn_app (goodIn_of _ (by decide +kernel)) ggX2_readCommand_X2_readNumbers
set_option maxRecDepth 20000 in
theorem ggX2_readCommand_X2_readSemicolon : GoodIn wsX2_readCommand wsX2_readSemicolon := goodIn_r _ [95, 1, 3, 4, 5, 6, 7, 2, 8, 14, 15, 16, 17, 76, 77, 78, 79, 80, 96, 97, 98, 99, 100, 101, 102] (by decide +kernel) (by decide +kernel)
set_option maxRecDepth 20000 in
theorem gX2_readCommand_X2_readSemicolon : GoodIn wsX2_readCommand (wsV RX2 45 RX2 yX2_readSemicolon wsX2_readSemicolon) := goodIn_app (goodIn_of _ (by decide +kernel)) ggX2_readCommand_X2_readSemicolon
theorem dX2_readCommand_0 : decode cX2_readCommand 0 = .ok (.aload_n 0, 1) := by decide +kernel
theorem dX2_readCommand_1 : decode cX2_readCommand 1 = .ok (.invokevirtual 36, 3) := by decide +kernel
theorem dX2_readCommand_4 : decode cX2_readCommand 4 = .ok (.aload_n 0, 1) := by decide +kernel
theorem dX2_readCommand_5 : decode cX2_readCommand 5 = .ok (.getfield 23, 3) := by decide +kernel
theorem dX2_readCommand_8 : decode cX2_readCommand 8 = .ok (.aload_n 0, 1) := by decide +kernel
theorem dX2_readCommand_9 : decode cX2_readCommand 9 = .ok (.getfield 19, 3) := by decide +kernel
theorem dX2_readCommand_12 : decode cX2_readCommand 12 = .ok (.if_icmp .ge 28, 3) := by decide +kernel
theorem dX2_readCommand_15 : decode cX2_readCommand 15 = .ok (.aload_n 0, 1) := by decide +kernel
theorem dX2_readCommand_16 : decode cX2_readCommand 16 = .ok (.invokevirtual 39, 3) := by decide +kernel
theorem dX2_readCommand_19 : decode cX2_readCommand 19 = .ok (.ifCond .eq 21, 3) := by decide +kernel
theorem dX2_readCommand_22 : decode cX2_readCommand 22 = .ok (.aload_n 0, 1) := by decide +kernel
theorem dX2_readCommand_23 : decode cX2_readCommand 23 = .ok (.invokevirtual 42, 3) := by decide +kernel
theorem dX2_readCommand_26 : decode cX2_readCommand 26 = .ok (.ifCond .eq 14, 3) := by decide +kernel
theorem dX2_readCommand_29 : decode cX2_readCommand 29 = .ok (.aload_n 0, 1) := by decide +kernel
theorem dX2_readCommand_30 : decode cX2_readCommand 30 = .ok (.invokevirtual 45, 3) := by decide +kernel
theorem dX2_readCommand_33 : decode cX2_readCommand 33 = .ok (.ifCond .eq 7, 3) := by decide +kernel
theorem dX2_readCommand_36 : decode cX2_readCommand 36 = .ok (.iconst 1, 1) := by decide +kernel
theorem dX2_readCommand_37 : decode cX2_readCommand 37 = .ok (.goto 4, 3) := by decide +kernel
theorem dX2_readCommand_40 : decode cX2_readCommand 40 = .ok (.iconst 0, 1) := by decide +kernel
theorem dX2_readCommand_41 : decode cX2_readCommand 41 = .ok (.ireturn, 1) := by decide +kernel
set_option maxRecDepth 20000 in
theorem ggX2_readWord_X2_byteHere : GoodIn wsX2_readWord wsX2_byteHere := goodIn_r _ [8, 1, 2, 9, 73, 74, 75, 76, 77, 78, 79] (by decide +kernel) (by decide +kernel)
set_option maxRecDepth 20000 in
theorem gX2_readWord_X2_byteHere : GoodIn wsX2_readWord (wsV RX2 48 RX2 yX2_byteHere wsX2_byteHere) := goodIn_app (goodIn_of _ (by decide +kernel)) ggX2_readWord_X2_byteHere
set_option maxRecDepth 20000 in
theorem ggX2_readWord_X2_wordBetween : GoodIn wsX2_readWord wsX2_wordBetween := goodIn_r _ [13, 14, 15, 16, 17, 7, 18, 2, 9, 19, 20, 21, 22, 23, 24, 25, 26, 27, 28, 29, 30, 31, 32, 33, 34, 35, 36, 37, 38, 39, 40, 41, 42, 43, 44, 45, 46, 47, 48, 49, 50, 51, 52, 53, 54, 55, 56, 57, 58, 59, 60, 61, 62, 63, 64, 65, 66, 67, 73, 74, 75, 76, 77, 78, 79] (by decide +kernel) (by decide +kernel)
set_option maxRecDepth 20000 in
theorem gX2_readWord_X2_wordBetween : GoodIn wsX2_readWord (wsV RX2 52 RX2 yX2_wordBetween wsX2_wordBetween) := goodIn_app (goodIn_of _ (by decide +kernel)) ggX2_readWord_X2_wordBetween
set_option maxRecDepth 20000 in
theorem ggX2_readWord_X2_failAt : GoodIn wsX2_readWord wsX2_failAt := goodIn_r _ [71, 72, 73, 74, 75, 76, 77, 78, 79] (by decide +kernel) (by decide +kernel)
set_option maxRecDepth 20000 in
theorem gX2_readWord_X2_failAt : GoodIn wsX2_readWord (wsV RX2 60 RX2 yX2_failAt wsX2_failAt) := goodIn_app (goodIn_of _ (by decide +kernel)) ggX2_readWord_X2_failAt
theorem dX2_readWord_0 : decode cX2_readWord 0 = .ok (.aload_n 0, 1) := by decide +kernel
theorem dX2_readWord_1 : decode cX2_readWord 1 = .ok (.getfield 23, 3) := by decide +kernel
theorem dX2_readWord_4 : decode cX2_readWord 4 = .ok (.istore_n 1, 1) := by decide +kernel
theorem dX2_readWord_5 : decode cX2_readWord 5 = .ok (.aload_n 0, 1) := by decide +kernel
theorem dX2_readWord_6 : decode cX2_readWord 6 = .ok (.getfield 23, 3) := by decide +kernel
theorem dX2_readWord_9 : decode cX2_readWord 9 = .ok (.aload_n 0, 1) := by decide +kernel
theorem dX2_readWord_10 : decode cX2_readWord 10 = .ok (.getfield 19, 3) := by decide +kernel
theorem dX2_readWord_13 : decode cX2_readWord 13 = .ok (.if_icmp .ge 34, 3) := by decide +kernel
theorem dX2_readWord_16 : decode cX2_readWord 16 = .ok (.aload_n 0, 1) := by decide +kernel
theorem dX2_readWord_17 : decode cX2_readWord 17 = .ok (.invokevirtual 48, 3) := by decide +kernel
theorem dX2_readWord_20 : decode cX2_readWord 20 = .ok (.bipush 97, 2) := by decide +kernel
theorem dX2_readWord_22 : decode cX2_readWord 22 = .ok (.if_icmp .lt 25, 3) := by decide +kernel
theorem dX2_readWord_25 : decode cX2_readWord 25 = .ok (.aload_n 0, 1) := by decide +kernel
theorem dX2_readWord_26 : decode cX2_readWord 26 = .ok (.invokevirtual 48, 3) := by decide +kernel
theorem dX2_readWord_29 : decode cX2_readWord 29 = .ok (.bipush 122, 2) := by decide +kernel
theorem dX2_readWord_31 : decode cX2_readWord 31 = .ok (.if_icmp .gt 16, 3) := by decide +kernel
theorem dX2_readWord_34 : decode cX2_readWord 34 = .ok (.aload_n 0, 1) := by decide +kernel
theorem dX2_readWord_35 : decode cX2_readWord 35 = .ok (.dup, 1) := by decide +kernel
theorem dX2_readWord_36 : decode cX2_readWord 36 = .ok (.getfield 23, 3) := by decide +kernel
theorem dX2_readWord_39 : decode cX2_readWord 39 = .ok (.iconst 1, 1) := by decide +kernel
theorem dX2_readWord_40 : decode cX2_readWord 40 = .ok (.iadd, 1) := by decide +kernel
theorem dX2_readWord_41 : decode cX2_readWord 41 = .ok (.putfield 23, 3) := by decide +kernel
theorem dX2_readWord_44 : decode cX2_readWord 44 = .ok (.goto (-39), 3) := by decide +kernel
theorem dX2_readWord_47 : decode cX2_readWord 47 = .ok (.aload_n 0, 1) := by decide +kernel
theorem dX2_readWord_48 : decode cX2_readWord 48 = .ok (.aload_n 0, 1) := by decide +kernel
theorem dX2_readWord_49 : decode cX2_readWord 49 = .ok (.iload_n 1, 1) := by decide +kernel
theorem dX2_readWord_50 : decode cX2_readWord 50 = .ok (.aload_n 0, 1) := by decide +kernel
theorem dX2_readWord_51 : decode cX2_readWord 51 = .ok (.getfield 23, 3) := by decide +kernel
theorem dX2_readWord_54 : decode cX2_readWord 54 = .ok (.invokevirtual 52, 3) := by decide +kernel
theorem dX2_readWord_57 : decode cX2_readWord 57 = .ok (.putfield 56, 3) := by decide +kernel
theorem dX2_readWord_60 : decode cX2_readWord 60 = .ok (.aload_n 0, 1) := by decide +kernel
theorem dX2_readWord_61 : decode cX2_readWord 61 = .ok (.getfield 56, 3) := by decide +kernel
theorem dX2_readWord_64 : decode cX2_readWord 64 = .ok (.ifnonnull 11, 3) := by decide +kernel
theorem dX2_readWord_67 : decode cX2_readWord 67 = .ok (.aload_n 0, 1) := by decide +kernel
theorem dX2_readWord_68 : decode cX2_readWord 68 = .ok (.iload_n 1, 1) := by decide +kernel
theorem dX2_readWord_69 : decode cX2_readWord 69 = .ok (.invokevirtual 60, 3) := by decide +kernel
theorem dX2_readWord_72 : decode cX2_readWord 72 = .ok (.ifCond .eq 7, 3) := by decide +kernel
theorem dX2_readWord_75 : decode cX2_readWord 75 = .ok (.iconst 1, 1) := by decide +kernel
theorem dX2_readWord_76 : decode cX2_readWord 76 = .ok (.goto 4, 3) := by decide +kernel
theorem dX2_readWord_79 : decode cX2_readWord 79 = .ok (.iconst 0, 1) := by decide +kernel
theorem dX2_readWord_80 : decode cX2_readWord 80 = .ok (.ireturn, 1) := by decide +kernel
set_option maxRecDepth 20000 in
theorem ggX2_readNumbers_X2_readNumber : GoodIn wsX2_readNumbers wsX2_readNumber := goodIn_r _ [9, 10, 11, 12, 13, 14, 8, 15, 16, 17, 18, 19, 20, 21, 22, 23, 24, 25, 26, 27, 28] (by decide +kernel) (by decide +kernel)
set_option maxRecDepth 20000 in
theorem gX2_readNumbers_X2_readNumber : GoodIn wsX2_readNumbers (wsV RX2 69 RX2 yX2_readNumber wsX2_readNumber) := goodIn_app (goodIn_of _ (by decide +kernel)) ggX2_readNumbers_X2_readNumber
theorem dX2_readNumbers_0 : decode cX2_readNumbers 0 = .ok (.aload_n 0, 1) := by decide +kernel
theorem dX2_readNumbers_1 : decode cX2_readNumbers 1 = .ok (.getfield 56, 3) := by decide +kernel
theorem dX2_readNumbers_4 : decode cX2_readNumbers 4 = .ok (.ifnonnull 7, 3) := by decide +kernel
theorem dX2_readNumbers_7 : decode cX2_readNumbers 7 = .ok (.iconst 0, 1) := by decide +kernel
theorem dX2_readNumbers_8 : decode cX2_readNumbers 8 = .ok (.goto 10, 3) := by decide +kernel
theorem dX2_readNumbers_11 : decode cX2_readNumbers 11 = .ok (.aload_n 0, 1) := by decide +kernel
theorem dX2_readNumbers_12 : decode cX2_readNumbers 12 = .ok (.getfield 56, 3) := by decide +kernel
theorem dX2_readNumbers_15 : decode cX2_readNumbers 15 = .ok (.getfield 64, 3) := by decide +kernel
theorem dX2_readNumbers_18 : decode cX2_readNumbers 18 = .ok (.istore_n 1, 1) := by decide +kernel
theorem dX2_readNumbers_19 : decode cX2_readNumbers 19 = .ok (.aload_n 0, 1) := by decide +kernel
theorem dX2_readNumbers_20 : decode cX2_readNumbers 20 = .ok (.iload_n 1, 1) := by decide +kernel
theorem dX2_readNumbers_21 : decode cX2_readNumbers 21 = .ok (.ifCond .le 10, 3) := by decide +kernel
theorem dX2_readNumbers_24 : decode cX2_readNumbers 24 = .ok (.aload_n 0, 1) := by decide +kernel
theorem dX2_readNumbers_25 : decode cX2_readNumbers 25 = .ok (.invokevirtual 69, 3) := by decide +kernel
theorem dX2_readNumbers_28 : decode cX2_readNumbers 28 = .ok (.goto 4, 3) := by decide +kernel
theorem dX2_readNumbers_31 : decode cX2_readNumbers 31 = .ok (.iconst 0, 1) := by decide +kernel
theorem dX2_readNumbers_32 : decode cX2_readNumbers 32 = .ok (.putfield 72, 3) := by decide +kernel
theorem dX2_readNumbers_35 : decode cX2_readNumbers 35 = .ok (.aload_n 0, 1) := by decide +kernel
theorem dX2_readNumbers_36 : decode cX2_readNumbers 36 = .ok (.iload_n 1, 1) := by decide +kernel
theorem dX2_readNumbers_37 : decode cX2_readNumbers 37 = .ok (.iconst 1, 1) := by decide +kernel
theorem dX2_readNumbers_38 : decode cX2_readNumbers 38 = .ok (.if_icmp .le 18, 3) := by decide +kernel
theorem dX2_readNumbers_41 : decode cX2_readNumbers 41 = .ok (.aload_n 0, 1) := by decide +kernel
theorem dX2_readNumbers_42 : decode cX2_readNumbers 42 = .ok (.getfield 72, 3) := by decide +kernel
theorem dX2_readNumbers_45 : decode cX2_readNumbers 45 = .ok (.iconst (-1), 1) := by decide +kernel
theorem dX2_readNumbers_46 : decode cX2_readNumbers 46 = .ok (.if_icmp .eq 10, 3) := by decide +kernel
theorem dX2_readNumbers_49 : decode cX2_readNumbers 49 = .ok (.aload_n 0, 1) := by decide +kernel
theorem dX2_readNumbers_50 : decode cX2_readNumbers 50 = .ok (.invokevirtual 69, 3) := by decide +kernel
theorem dX2_readNumbers_53 : decode cX2_readNumbers 53 = .ok (.goto 4, 3) := by decide +kernel
theorem dX2_readNumbers_56 : decode cX2_readNumbers 56 = .ok (.iconst 0, 1) := by decide +kernel
theorem dX2_readNumbers_57 : decode cX2_readNumbers 57 = .ok (.putfield 75, 3) := by decide +kernel
theorem dX2_readNumbers_60 : decode cX2_readNumbers 60 = .ok (.aload_n 0, 1) := by decide +kernel
theorem dX2_readNumbers_61 : decode cX2_readNumbers 61 = .ok (.getfield 72, 3) := by decide +kernel
theorem dX2_readNumbers_64 : decode cX2_readNumbers 64 = .ok (.iconst (-1), 1) := by decide +kernel
theorem dX2_readNumbers_65 : decode cX2_readNumbers 65 = .ok (.if_icmp .eq 15, 3) := by decide +kernel
theorem dX2_readNumbers_68 : decode cX2_readNumbers 68 = .ok (.aload_n 0, 1) := by decide +kernel
theorem dX2_readNumbers_69 : decode cX2_readNumbers 69 = .ok (.getfield 75, 3) := by decide +kernel
theorem dX2_readNumbers_72 : decode cX2_readNumbers 72 = .ok (.iconst (-1), 1) := by decide +kernel
theorem dX2_readNumbers_73 : decode cX2_readNumbers 73 = .ok (.if_icmp .eq 7, 3) := by decide +kernel
theorem dX2_readNumbers_76 : decode cX2_readNumbers 76 = .ok (.iconst 1, 1) := by decide +kernel
theorem dX2_readNumbers_77 : decode cX2_readNumbers 77 = .ok (.goto 4, 3) := by decide +kernel
theorem dX2_readNumbers_80 : decode cX2_readNumbers 80 = .ok (.iconst 0, 1) := by decide +kernel
theorem dX2_readNumbers_81 : decode cX2_readNumbers 81 = .ok (.ireturn, 1) := by decide +kernel
set_option maxRecDepth 20000 in
theorem ggX2_readNumber_X2_byteHere : GoodIn wsX2_readNumber wsX2_byteHere := goodIn_r _ [7, 1, 8, 9, 14, 15, 16, 17, 18, 19, 20] (by decide +kernel) (by decide +kernel)
set_option maxRecDepth 20000 in
theorem gX2_readNumber_X2_byteHere : GoodIn wsX2_readNumber (wsV RX2 48 RX2 yX2_byteHere wsX2_byteHere) := goodIn_app (goodIn_of _ (by decide +kernel)) ggX2_readNumber_X2_byteHere
set_option maxRecDepth 20000 in
theorem ggX2_readNumber_X2_skipSpaces : GoodIn wsX2_readNumber wsX2_skipSpaces := goodIn_r _ [13, 1, 8, 9, 14, 15, 16, 17, 18, 19, 20] (by decide +kernel) (by decide +kernel)
set_option maxRecDepth 20000 in
theorem gX2_readNumber_X2_skipSpaces : GoodIn wsX2_readNumber (wsV RX2 36 RX2 yX2_skipSpaces wsX2_skipSpaces) := goodIn_app (goodIn_of _ (by decide +kernel)) ggX2_readNumber_X2_skipSpaces
theorem dX2_readNumber_0 : decode cX2_readNumber 0 = .ok (.aload_n 0, 1) := by decide +kernel
theorem dX2_readNumber_1 : decode cX2_readNumber 1 = .ok (.invokevirtual 48, 3) := by decide +kernel
theorem dX2_readNumber_4 : decode cX2_readNumber 4 = .ok (.bipush 32, 2) := by decide +kernel
theorem dX2_readNumber_6 : decode cX2_readNumber 6 = .ok (.if_icmp .ne 7, 3) := by decide +kernel
theorem dX2_readNumber_9 : decode cX2_readNumber 9 = .ok (.iconst 1, 1) := by decide +kernel
theorem dX2_readNumber_10 : decode cX2_readNumber 10 = .ok (.goto 4, 3) := by decide +kernel
theorem dX2_readNumber_13 : decode cX2_readNumber 13 = .ok (.iconst 0, 1) := by decide +kernel
theorem dX2_readNumber_14 : decode cX2_readNumber 14 = .ok (.istore_n 1, 1) := by decide +kernel
theorem dX2_readNumber_15 : decode cX2_readNumber 15 = .ok (.aload_n 0, 1) := by decide +kernel
theorem dX2_readNumber_16 : decode cX2_readNumber 16 = .ok (.invokevirtual 36, 3) := by decide +kernel
theorem dX2_readNumber_19 : decode cX2_readNumber 19 = .ok (.iconst 0, 1) := by decide +kernel
theorem dX2_readNumber_20 : decode cX2_readNumber 20 = .ok (.istore_n 2, 1) := by decide +kernel
theorem dX2_readNumber_21 : decode cX2_readNumber 21 = .ok (.iconst 0, 1) := by decide +kernel
theorem dX2_readNumber_22 : decode cX2_readNumber 22 = .ok (.istore_n 3, 1) := by decide +kernel
theorem dX2_readNumber_23 : decode cX2_readNumber 23 = .ok (.iload_n 1, 1) := by decide +kernel
theorem dX2_readNumber_24 : decode cX2_readNumber 24 = .ok (.ifCond .eq 56, 3) := by decide +kernel
theorem dX2_readNumber_27 : decode cX2_readNumber 27 = .ok (.iload_n 3, 1) := by decide +kernel
theorem dX2_readNumber_28 : decode cX2_readNumber 28 = .ok (.bipush 7, 2) := by decide +kernel
theorem dX2_readNumber_30 : decode cX2_readNumber 30 = .ok (.if_icmp .ge 50, 3) := by decide +kernel
theorem dX2_readNumber_33 : decode cX2_readNumber 33 = .ok (.aload_n 0, 1) := by decide +kernel
theorem dX2_readNumber_34 : decode cX2_readNumber 34 = .ok (.invokevirtual 48, 3) := by decide +kernel
theorem dX2_readNumber_37 : decode cX2_readNumber 37 = .ok (.bipush 48, 2) := by decide +kernel
theorem dX2_readNumber_39 : decode cX2_readNumber 39 = .ok (.if_icmp .lt 41, 3) := by decide +kernel
theorem dX2_readNumber_42 : decode cX2_readNumber 42 = .ok (.aload_n 0, 1) := by decide +kernel
theorem dX2_readNumber_43 : decode cX2_readNumber 43 = .ok (.invokevirtual 48, 3) := by decide +kernel
theorem dX2_readNumber_46 : decode cX2_readNumber 46 = .ok (.bipush 57, 2) := by decide +kernel
theorem dX2_readNumber_48 : decode cX2_readNumber 48 = .ok (.if_icmp .gt 32, 3) := by decide +kernel
theorem dX2_readNumber_51 : decode cX2_readNumber 51 = .ok (.bipush 10, 2) := by decide +kernel
theorem dX2_readNumber_53 : decode cX2_readNumber 53 = .ok (.iload_n 2, 1) := by decide +kernel
theorem dX2_readNumber_54 : decode cX2_readNumber 54 = .ok (.imul, 1) := by decide +kernel
theorem dX2_readNumber_55 : decode cX2_readNumber 55 = .ok (.aload_n 0, 1) := by decide +kernel
theorem dX2_readNumber_56 : decode cX2_readNumber 56 = .ok (.invokevirtual 48, 3) := by decide +kernel
theorem dX2_readNumber_59 : decode cX2_readNumber 59 = .ok (.iadd, 1) := by decide +kernel
theorem dX2_readNumber_60 : decode cX2_readNumber 60 = .ok (.bipush 48, 2) := by decide +kernel
theorem dX2_readNumber_62 : decode cX2_readNumber 62 = .ok (.isub, 1) := by decide +kernel
theorem dX2_readNumber_63 : decode cX2_readNumber 63 = .ok (.istore_n 2, 1) := by decide +kernel
theorem dX2_readNumber_64 : decode cX2_readNumber 64 = .ok (.iinc 3 1, 3) := by decide +kernel
theorem dX2_readNumber_67 : decode cX2_readNumber 67 = .ok (.aload_n 0, 1) := by decide +kernel
theorem dX2_readNumber_68 : decode cX2_readNumber 68 = .ok (.dup, 1) := by decide +kernel
theorem dX2_readNumber_69 : decode cX2_readNumber 69 = .ok (.getfield 23, 3) := by decide +kernel
theorem dX2_readNumber_72 : decode cX2_readNumber 72 = .ok (.iconst 1, 1) := by decide +kernel
theorem dX2_readNumber_73 : decode cX2_readNumber 73 = .ok (.iadd, 1) := by decide +kernel
theorem dX2_readNumber_74 : decode cX2_readNumber 74 = .ok (.putfield 23, 3) := by decide +kernel
theorem dX2_readNumber_77 : decode cX2_readNumber 77 = .ok (.goto (-54), 3) := by decide +kernel
theorem dX2_readNumber_80 : decode cX2_readNumber 80 = .ok (.iload_n 3, 1) := by decide +kernel
theorem dX2_readNumber_81 : decode cX2_readNumber 81 = .ok (.ifCond .ne 11, 3) := by decide +kernel
theorem dX2_readNumber_84 : decode cX2_readNumber 84 = .ok (.aload_n 0, 1) := by decide +kernel
theorem dX2_readNumber_85 : decode cX2_readNumber 85 = .ok (.aload_n 0, 1) := by decide +kernel
theorem dX2_readNumber_86 : decode cX2_readNumber 86 = .ok (.getfield 23, 3) := by decide +kernel
theorem dX2_readNumber_89 : decode cX2_readNumber 89 = .ok (.putfield 26, 3) := by decide +kernel
theorem dX2_readNumber_92 : decode cX2_readNumber 92 = .ok (.iload_n 3, 1) := by decide +kernel
theorem dX2_readNumber_93 : decode cX2_readNumber 93 = .ok (.ifCond .ne 7, 3) := by decide +kernel
theorem dX2_readNumber_96 : decode cX2_readNumber 96 = .ok (.iconst (-1), 1) := by decide +kernel
theorem dX2_readNumber_97 : decode cX2_readNumber 97 = .ok (.goto 4, 3) := by decide +kernel
theorem dX2_readNumber_100 : decode cX2_readNumber 100 = .ok (.iload_n 2, 1) := by decide +kernel
theorem dX2_readNumber_101 : decode cX2_readNumber 101 = .ok (.ireturn, 1) := by decide +kernel
set_option maxRecDepth 20000 in
theorem ggX2_readSemicolon_X2_skipSpaces : GoodIn wsX2_readSemicolon wsX2_skipSpaces := goodIn_r _ [6, 1, 7, 8, 18, 19, 20, 21, 22, 23, 24] (by decide +kernel) (by decide +kernel)
set_option maxRecDepth 20000 in
theorem gX2_readSemicolon_X2_skipSpaces : GoodIn wsX2_readSemicolon (wsV RX2 36 RX2 yX2_skipSpaces wsX2_skipSpaces) := goodIn_app (goodIn_of _ (by decide +kernel)) ggX2_readSemicolon_X2_skipSpaces
set_option maxRecDepth 20000 in
theorem ggX2_readSemicolon_X2_byteHere : GoodIn wsX2_readSemicolon wsX2_byteHere := goodIn_r _ [12, 1, 7, 8, 18, 19, 20, 21, 22, 23, 24] (by decide +kernel) (by decide +kernel)
set_option maxRecDepth 20000 in
theorem gX2_readSemicolon_X2_byteHere : GoodIn wsX2_readSemicolon (wsV RX2 48 RX2 yX2_byteHere wsX2_byteHere) := goodIn_app (goodIn_of _ (by decide +kernel)) ggX2_readSemicolon_X2_byteHere
set_option maxRecDepth 20000 in
theorem ggX2_readSemicolon_X2_failAt : GoodIn wsX2_readSemicolon wsX2_failAt := goodIn_r _ [16, 17, 18, 19, 20, 21, 22, 23, 24] (by decide +kernel) (by decide +kernel)
set_option maxRecDepth 20000 in
theorem gX2_readSemicolon_X2_failAt : GoodIn wsX2_readSemicolon (wsV RX2 60 RX2 yX2_failAt wsX2_failAt) := goodIn_app (goodIn_of _ (by decide +kernel)) ggX2_readSemicolon_X2_failAt
theorem dX2_readSemicolon_0 : decode cX2_readSemicolon 0 = .ok (.aload_n 0, 1) := by decide +kernel
theorem dX2_readSemicolon_1 : decode cX2_readSemicolon 1 = .ok (.invokevirtual 36, 3) := by decide +kernel
theorem dX2_readSemicolon_4 : decode cX2_readSemicolon 4 = .ok (.aload_n 0, 1) := by decide +kernel
theorem dX2_readSemicolon_5 : decode cX2_readSemicolon 5 = .ok (.invokevirtual 48, 3) := by decide +kernel
theorem dX2_readSemicolon_8 : decode cX2_readSemicolon 8 = .ok (.bipush 59, 2) := by decide +kernel
theorem dX2_readSemicolon_10 : decode cX2_readSemicolon 10 = .ok (.if_icmp .eq 12, 3) := by decide +kernel
theorem dX2_readSemicolon_13 : decode cX2_readSemicolon 13 = .ok (.aload_n 0, 1) := by decide +kernel
theorem dX2_readSemicolon_14 : decode cX2_readSemicolon 14 = .ok (.aload_n 0, 1) := by decide +kernel
theorem dX2_readSemicolon_15 : decode cX2_readSemicolon 15 = .ok (.getfield 23, 3) := by decide +kernel
theorem dX2_readSemicolon_18 : decode cX2_readSemicolon 18 = .ok (.invokevirtual 60, 3) := by decide +kernel
theorem dX2_readSemicolon_21 : decode cX2_readSemicolon 21 = .ok (.ireturn, 1) := by decide +kernel
theorem dX2_readSemicolon_22 : decode cX2_readSemicolon 22 = .ok (.aload_n 0, 1) := by decide +kernel
theorem dX2_readSemicolon_23 : decode cX2_readSemicolon 23 = .ok (.dup, 1) := by decide +kernel
theorem dX2_readSemicolon_24 : decode cX2_readSemicolon 24 = .ok (.getfield 23, 3) := by decide +kernel
theorem dX2_readSemicolon_27 : decode cX2_readSemicolon 27 = .ok (.iconst 1, 1) := by decide +kernel
theorem dX2_readSemicolon_28 : decode cX2_readSemicolon 28 = .ok (.iadd, 1) := by decide +kernel
theorem dX2_readSemicolon_29 : decode cX2_readSemicolon 29 = .ok (.putfield 23, 3) := by decide +kernel
theorem dX2_readSemicolon_32 : decode cX2_readSemicolon 32 = .ok (.iconst 1, 1) := by decide +kernel
theorem dX2_readSemicolon_33 : decode cX2_readSemicolon 33 = .ok (.ireturn, 1) := by decide +kernel
theorem dX2_skipSpaces_0 : decode cX2_skipSpaces 0 = .ok (.aload_n 0, 1) := by decide +kernel
theorem dX2_skipSpaces_1 : decode cX2_skipSpaces 1 = .ok (.getfield 23, 3) := by decide +kernel
theorem dX2_skipSpaces_4 : decode cX2_skipSpaces 4 = .ok (.aload_n 0, 1) := by decide +kernel
theorem dX2_skipSpaces_5 : decode cX2_skipSpaces 5 = .ok (.getfield 19, 3) := by decide +kernel
theorem dX2_skipSpaces_8 : decode cX2_skipSpaces 8 = .ok (.if_icmp .ge 30, 3) := by decide +kernel
theorem dX2_skipSpaces_11 : decode cX2_skipSpaces 11 = .ok (.aload_n 0, 1) := by decide +kernel
theorem dX2_skipSpaces_12 : decode cX2_skipSpaces 12 = .ok (.getfield 9, 3) := by decide +kernel
theorem dX2_skipSpaces_15 : decode cX2_skipSpaces 15 = .ok (.aload_n 0, 1) := by decide +kernel
theorem dX2_skipSpaces_16 : decode cX2_skipSpaces 16 = .ok (.getfield 23, 3) := by decide +kernel
theorem dX2_skipSpaces_19 : decode cX2_skipSpaces 19 = .ok (.baload, 1) := by decide +kernel
theorem dX2_skipSpaces_20 : decode cX2_skipSpaces 20 = .ok (.bipush 32, 2) := by decide +kernel
theorem dX2_skipSpaces_22 : decode cX2_skipSpaces 22 = .ok (.if_icmp .ne 16, 3) := by decide +kernel
theorem dX2_skipSpaces_25 : decode cX2_skipSpaces 25 = .ok (.aload_n 0, 1) := by decide +kernel
theorem dX2_skipSpaces_26 : decode cX2_skipSpaces 26 = .ok (.dup, 1) := by decide +kernel
theorem dX2_skipSpaces_27 : decode cX2_skipSpaces 27 = .ok (.getfield 23, 3) := by decide +kernel
theorem dX2_skipSpaces_30 : decode cX2_skipSpaces 30 = .ok (.iconst 1, 1) := by decide +kernel
theorem dX2_skipSpaces_31 : decode cX2_skipSpaces 31 = .ok (.iadd, 1) := by decide +kernel
theorem dX2_skipSpaces_32 : decode cX2_skipSpaces 32 = .ok (.putfield 23, 3) := by decide +kernel
theorem dX2_skipSpaces_35 : decode cX2_skipSpaces 35 = .ok (.goto (-35), 3) := by decide +kernel
theorem dX2_skipSpaces_38 : decode cX2_skipSpaces 38 = .ok (.return_, 1) := by decide +kernel
theorem dX2_failAt_0 : decode cX2_failAt 0 = .ok (.aload_n 0, 1) := by decide +kernel
theorem dX2_failAt_1 : decode cX2_failAt 1 = .ok (.iload_n 1, 1) := by decide +kernel
theorem dX2_failAt_2 : decode cX2_failAt 2 = .ok (.putfield 26, 3) := by decide +kernel
theorem dX2_failAt_5 : decode cX2_failAt 5 = .ok (.iconst 0, 1) := by decide +kernel
theorem dX2_failAt_6 : decode cX2_failAt 6 = .ok (.ireturn, 1) := by decide +kernel
theorem dX2_byteHere_0 : decode cX2_byteHere 0 = .ok (.aload_n 0, 1) := by decide +kernel
theorem dX2_byteHere_1 : decode cX2_byteHere 1 = .ok (.getfield 23, 3) := by decide +kernel
theorem dX2_byteHere_4 : decode cX2_byteHere 4 = .ok (.ifCond .lt 26, 3) := by decide +kernel
theorem dX2_byteHere_7 : decode cX2_byteHere 7 = .ok (.aload_n 0, 1) := by decide +kernel
theorem dX2_byteHere_8 : decode cX2_byteHere 8 = .ok (.getfield 23, 3) := by decide +kernel
theorem dX2_byteHere_11 : decode cX2_byteHere 11 = .ok (.aload_n 0, 1) := by decide +kernel
theorem dX2_byteHere_12 : decode cX2_byteHere 12 = .ok (.getfield 19, 3) := by decide +kernel
theorem dX2_byteHere_15 : decode cX2_byteHere 15 = .ok (.if_icmp .ge 15, 3) := by decide +kernel
theorem dX2_byteHere_18 : decode cX2_byteHere 18 = .ok (.aload_n 0, 1) := by decide +kernel
theorem dX2_byteHere_19 : decode cX2_byteHere 19 = .ok (.getfield 9, 3) := by decide +kernel
theorem dX2_byteHere_22 : decode cX2_byteHere 22 = .ok (.aload_n 0, 1) := by decide +kernel
theorem dX2_byteHere_23 : decode cX2_byteHere 23 = .ok (.getfield 23, 3) := by decide +kernel
theorem dX2_byteHere_26 : decode cX2_byteHere 26 = .ok (.baload, 1) := by decide +kernel
theorem dX2_byteHere_27 : decode cX2_byteHere 27 = .ok (.goto 4, 3) := by decide +kernel
theorem dX2_byteHere_30 : decode cX2_byteHere 30 = .ok (.iconst (-1), 1) := by decide +kernel
theorem dX2_byteHere_31 : decode cX2_byteHere 31 = .ok (.ireturn, 1) := by decide +kernel
set_option maxRecDepth 20000 in
theorem ggX2_wordBetween_X2_isBetween : GoodIn wsX2_wordBetween wsX2_isBetween := goodIn_r _ [6, 7, 8, 9, 10, 11, 12, 13, 14, 15, 16, 17, 18, 19, 20, 21, 22, 23, 24, 25, 26, 27, 28, 29, 30, 31, 32, 33, 34, 35, 36, 37, 38, 39, 40, 41, 42, 43, 44, 45, 46, 47, 48, 49, 50, 51, 52, 53, 54, 55, 56, 57, 58, 59, 60, 61, 62, 63, 64] (by decide +kernel) (by decide +kernel)
set_option maxRecDepth 20000 in
theorem gX2_wordBetween_X2_isBetween : GoodIn wsX2_wordBetween (wsV RX2 86 RX2 yX2_isBetween wsX2_isBetween) := goodIn_app (goodIn_of _ (by decide +kernel)) ggX2_wordBetween_X2_isBetween
theorem dX2_wordBetween_0 : decode cX2_wordBetween 0 = .ok (.iconst 0, 1) := by decide +kernel
theorem dX2_wordBetween_1 : decode cX2_wordBetween 1 = .ok (.istore_n 3, 1) := by decide +kernel
theorem dX2_wordBetween_2 : decode cX2_wordBetween 2 = .ok (.iload_n 3, 1) := by decide +kernel
theorem dX2_wordBetween_3 : decode cX2_wordBetween 3 = .ok (.getstatic 78, 3) := by decide +kernel
theorem dX2_wordBetween_6 : decode cX2_wordBetween 6 = .ok (.arraylength, 1) := by decide +kernel
theorem dX2_wordBetween_7 : decode cX2_wordBetween 7 = .ok (.if_icmp .ge 32, 3) := by decide +kernel
theorem dX2_wordBetween_10 : decode cX2_wordBetween 10 = .ok (.aload_n 0, 1) := by decide +kernel
theorem dX2_wordBetween_11 : decode cX2_wordBetween 11 = .ok (.getstatic 78, 3) := by decide +kernel
theorem dX2_wordBetween_14 : decode cX2_wordBetween 14 = .ok (.iload_n 3, 1) := by decide +kernel
theorem dX2_wordBetween_15 : decode cX2_wordBetween 15 = .ok (.aaload, 1) := by decide +kernel
theorem dX2_wordBetween_16 : decode cX2_wordBetween 16 = .ok (.getfield 82, 3) := by decide +kernel
theorem dX2_wordBetween_19 : decode cX2_wordBetween 19 = .ok (.iload_n 1, 1) := by decide +kernel
theorem dX2_wordBetween_20 : decode cX2_wordBetween 20 = .ok (.iload_n 2, 1) := by decide +kernel
theorem dX2_wordBetween_21 : decode cX2_wordBetween 21 = .ok (.invokevirtual 86, 3) := by decide +kernel
theorem dX2_wordBetween_24 : decode cX2_wordBetween 24 = .ok (.ifCond .eq 9, 3) := by decide +kernel
theorem dX2_wordBetween_27 : decode cX2_wordBetween 27 = .ok (.getstatic 78, 3) := by decide +kernel
theorem dX2_wordBetween_30 : decode cX2_wordBetween 30 = .ok (.iload_n 3, 1) := by decide +kernel
theorem dX2_wordBetween_31 : decode cX2_wordBetween 31 = .ok (.aaload, 1) := by decide +kernel
theorem dX2_wordBetween_32 : decode cX2_wordBetween 32 = .ok (.areturn, 1) := by decide +kernel
theorem dX2_wordBetween_33 : decode cX2_wordBetween 33 = .ok (.iinc 3 1, 3) := by decide +kernel
theorem dX2_wordBetween_36 : decode cX2_wordBetween 36 = .ok (.goto (-34), 3) := by decide +kernel
theorem dX2_wordBetween_39 : decode cX2_wordBetween 39 = .ok (.aconst_null, 1) := by decide +kernel
theorem dX2_wordBetween_40 : decode cX2_wordBetween 40 = .ok (.areturn, 1) := by decide +kernel
set_option maxRecDepth 20000 in
theorem ggX2_isBetween_J0_length_8abf5 : GoodIn wsX2_isBetween wsJ0_length_8abf5 := goodIn_r _ [7, 8, 9, 10, 11, 6, 12, 13, 14] (by decide +kernel) (by decide +kernel)
set_option maxRecDepth 20000 in
theorem gX2_isBetween_J0_length_8abf5 : GoodIn wsX2_isBetween (wsV RX2 90 RJ0 yJ0_length_8abf5 wsJ0_length_8abf5) := goodIn_app (goodIn_of _ (by decide +kernel)) ggX2_isBetween_J0_length_8abf5
set_option maxRecDepth 20000 in
theorem ggX2_isBetween_J0_charAt_5068e : GoodIn wsX2_isBetween wsJ0_charAt_5068e := goodIn_r _ [18, 8, 19, 20, 21, 6, 22, 13, 14, 23, 24, 25, 26, 27, 28, 29, 30, 31, 32, 33, 34, 35, 36, 37, 38, 39, 40, 41, 42, 43, 44, 45, 46, 47, 48, 49, 50, 51] (by decide +kernel) (by decide +kernel)
set_option maxRecDepth 20000 in
theorem gX2_isBetween_J0_charAt_5068e : GoodIn wsX2_isBetween (wsV RX2 94 RJ0 yJ0_charAt_5068e wsJ0_charAt_5068e) := goodIn_app (goodIn_of _ (by decide +kernel)) ggX2_isBetween_J0_charAt_5068e
theorem dX2_isBetween_0 : decode cX2_isBetween 0 = .ok (.aload_n 1, 1) := by decide +kernel
theorem dX2_isBetween_1 : decode cX2_isBetween 1 = .ok (.invokevirtual 90, 3) := by decide +kernel
theorem dX2_isBetween_4 : decode cX2_isBetween 4 = .ok (.iload_n 3, 1) := by decide +kernel
theorem dX2_isBetween_5 : decode cX2_isBetween 5 = .ok (.iload_n 2, 1) := by decide +kernel
theorem dX2_isBetween_6 : decode cX2_isBetween 6 = .ok (.isub, 1) := by decide +kernel
theorem dX2_isBetween_7 : decode cX2_isBetween 7 = .ok (.if_icmp .ne 15, 3) := by decide +kernel
theorem dX2_isBetween_10 : decode cX2_isBetween 10 = .ok (.iload_n 2, 1) := by decide +kernel
theorem dX2_isBetween_11 : decode cX2_isBetween 11 = .ok (.ifCond .lt 11, 3) := by decide +kernel
theorem dX2_isBetween_14 : decode cX2_isBetween 14 = .ok (.iload_n 3, 1) := by decide +kernel
theorem dX2_isBetween_15 : decode cX2_isBetween 15 = .ok (.aload_n 0, 1) := by decide +kernel
theorem dX2_isBetween_16 : decode cX2_isBetween 16 = .ok (.getfield 19, 3) := by decide +kernel
theorem dX2_isBetween_19 : decode cX2_isBetween 19 = .ok (.if_icmp .le 5, 3) := by decide +kernel
theorem dX2_isBetween_22 : decode cX2_isBetween 22 = .ok (.iconst 0, 1) := by decide +kernel
theorem dX2_isBetween_23 : decode cX2_isBetween 23 = .ok (.ireturn, 1) := by decide +kernel
theorem dX2_isBetween_24 : decode cX2_isBetween 24 = .ok (.iconst 0, 1) := by decide +kernel
theorem dX2_isBetween_25 : decode cX2_isBetween 25 = .ok (.istore 4, 2) := by decide +kernel
theorem dX2_isBetween_27 : decode cX2_isBetween 27 = .ok (.iload 4, 2) := by decide +kernel
theorem dX2_isBetween_29 : decode cX2_isBetween 29 = .ok (.aload_n 1, 1) := by decide +kernel
theorem dX2_isBetween_30 : decode cX2_isBetween 30 = .ok (.invokevirtual 90, 3) := by decide +kernel
theorem dX2_isBetween_33 : decode cX2_isBetween 33 = .ok (.if_icmp .ge 29, 3) := by decide +kernel
theorem dX2_isBetween_36 : decode cX2_isBetween 36 = .ok (.aload_n 1, 1) := by decide +kernel
theorem dX2_isBetween_37 : decode cX2_isBetween 37 = .ok (.iload 4, 2) := by decide +kernel
theorem dX2_isBetween_39 : decode cX2_isBetween 39 = .ok (.invokevirtual 94, 3) := by decide +kernel
theorem dX2_isBetween_42 : decode cX2_isBetween 42 = .ok (.aload_n 0, 1) := by decide +kernel
theorem dX2_isBetween_43 : decode cX2_isBetween 43 = .ok (.getfield 9, 3) := by decide +kernel
theorem dX2_isBetween_46 : decode cX2_isBetween 46 = .ok (.iload_n 2, 1) := by decide +kernel
theorem dX2_isBetween_47 : decode cX2_isBetween 47 = .ok (.iload 4, 2) := by decide +kernel
theorem dX2_isBetween_49 : decode cX2_isBetween 49 = .ok (.iadd, 1) := by decide +kernel
theorem dX2_isBetween_50 : decode cX2_isBetween 50 = .ok (.baload, 1) := by decide +kernel
theorem dX2_isBetween_51 : decode cX2_isBetween 51 = .ok (.if_icmp .eq 5, 3) := by decide +kernel
theorem dX2_isBetween_54 : decode cX2_isBetween 54 = .ok (.iconst 0, 1) := by decide +kernel
theorem dX2_isBetween_55 : decode cX2_isBetween 55 = .ok (.ireturn, 1) := by decide +kernel
theorem dX2_isBetween_56 : decode cX2_isBetween 56 = .ok (.iinc 4 1, 3) := by decide +kernel
theorem dX2_isBetween_59 : decode cX2_isBetween 59 = .ok (.goto (-32), 3) := by decide +kernel
theorem dX2_isBetween_62 : decode cX2_isBetween 62 = .ok (.iconst 1, 1) := by decide +kernel
theorem dX2_isBetween_63 : decode cX2_isBetween 63 = .ok (.ireturn, 1) := by decide +kernel
theorem dX3_init_0 : decode cX3_init 0 = .ok (.aload_n 0, 1) := by decide +kernel
theorem dX3_init_1 : decode cX3_init 1 = .ok (.invokespecial 3, 3) := by decide +kernel
theorem dX3_init_4 : decode cX3_init 4 = .ok (.aload_n 0, 1) := by decide +kernel
theorem dX3_init_5 : decode cX3_init 5 = .ok (.bipush 40, 2) := by decide +kernel
theorem dX3_init_7 : decode cX3_init 7 = .ok (.newarray .long, 2) := by decide +kernel
theorem dX3_init_9 : decode cX3_init 9 = .ok (.putfield 9, 3) := by decide +kernel
theorem dX3_init_12 : decode cX3_init 12 = .ok (.return_, 1) := by decide +kernel
theorem dX3_copyFrom_0 : decode cX3_copyFrom 0 = .ok (.aload_n 0, 1) := by decide +kernel
theorem dX3_copyFrom_1 : decode cX3_copyFrom 1 = .ok (.aload_n 1, 1) := by decide +kernel
theorem dX3_copyFrom_2 : decode cX3_copyFrom 2 = .ok (.getfield 15, 3) := by decide +kernel
theorem dX3_copyFrom_5 : decode cX3_copyFrom 5 = .ok (.putfield 15, 3) := by decide +kernel
theorem dX3_copyFrom_8 : decode cX3_copyFrom 8 = .ok (.aload_n 1, 1) := by decide +kernel
theorem dX3_copyFrom_9 : decode cX3_copyFrom 9 = .ok (.getfield 9, 3) := by decide +kernel
theorem dX3_copyFrom_12 : decode cX3_copyFrom 12 = .ok (.iconst 0, 1) := by decide +kernel
theorem dX3_copyFrom_13 : decode cX3_copyFrom 13 = .ok (.aload_n 0, 1) := by decide +kernel
theorem dX3_copyFrom_14 : decode cX3_copyFrom 14 = .ok (.getfield 9, 3) := by decide +kernel
theorem dX3_copyFrom_17 : decode cX3_copyFrom 17 = .ok (.iconst 0, 1) := by decide +kernel
theorem dX3_copyFrom_18 : decode cX3_copyFrom 18 = .ok (.bipush 40, 2) := by decide +kernel
theorem dX3_copyFrom_20 : decode cX3_copyFrom 20 = .ok (.invokestatic 19, 3) := by decide +kernel
theorem dX3_copyFrom_23 : decode cX3_copyFrom 23 = .ok (.return_, 1) := by decide +kernel
theorem dX3_append_0 : decode cX3_append 0 = .ok (.aload_n 0, 1) := by decide +kernel
theorem dX3_append_1 : decode cX3_append 1 = .ok (.getfield 9, 3) := by decide +kernel
theorem dX3_append_4 : decode cX3_append 4 = .ok (.iconst 0, 1) := by decide +kernel
theorem dX3_append_5 : decode cX3_append 5 = .ok (.aload_n 0, 1) := by decide +kernel
theorem dX3_append_6 : decode cX3_append 6 = .ok (.getfield 9, 3) := by decide +kernel
theorem dX3_append_9 : decode cX3_append 9 = .ok (.iconst 4, 1) := by decide +kernel
theorem dX3_append_10 : decode cX3_append 10 = .ok (.bipush 36, 2) := by decide +kernel
theorem dX3_append_12 : decode cX3_append 12 = .ok (.invokestatic 19, 3) := by decide +kernel
theorem dX3_append_15 : decode cX3_append 15 = .ok (.aload_n 0, 1) := by decide +kernel
theorem dX3_append_16 : decode cX3_append 16 = .ok (.getfield 9, 3) := by decide +kernel
theorem dX3_append_19 : decode cX3_append 19 = .ok (.iconst 0, 1) := by decide +kernel
theorem dX3_append_20 : decode cX3_append 20 = .ok (.iload_n 1, 1) := by decide +kernel
theorem dX3_append_21 : decode cX3_append 21 = .ok (.i2l, 1) := by decide +kernel
theorem dX3_append_22 : decode cX3_append 22 = .ok (.lastore, 1) := by decide +kernel
theorem dX3_append_23 : decode cX3_append 23 = .ok (.aload_n 0, 1) := by decide +kernel
theorem dX3_append_24 : decode cX3_append 24 = .ok (.getfield 9, 3) := by decide +kernel
theorem dX3_append_27 : decode cX3_append 27 = .ok (.iconst 1, 1) := by decide +kernel
theorem dX3_append_28 : decode cX3_append 28 = .ok (.iload_n 2, 1) := by decide +kernel
theorem dX3_append_29 : decode cX3_append 29 = .ok (.i2l, 1) := by decide +kernel
theorem dX3_append_30 : decode cX3_append 30 = .ok (.lastore, 1) := by decide +kernel
theorem dX3_append_31 : decode cX3_append 31 = .ok (.aload_n 0, 1) := by decide +kernel
theorem dX3_append_32 : decode cX3_append 32 = .ok (.getfield 9, 3) := by decide +kernel
theorem dX3_append_35 : decode cX3_append 35 = .ok (.iconst 2, 1) := by decide +kernel
theorem dX3_append_36 : decode cX3_append 36 = .ok (.lload_n 3, 1) := by decide +kernel
theorem dX3_append_37 : decode cX3_append 37 = .ok (.lastore, 1) := by decide +kernel
theorem dX3_append_38 : decode cX3_append 38 = .ok (.aload_n 0, 1) := by decide +kernel
theorem dX3_append_39 : decode cX3_append 39 = .ok (.getfield 9, 3) := by decide +kernel
theorem dX3_append_42 : decode cX3_append 42 = .ok (.iconst 3, 1) := by decide +kernel
theorem dX3_append_43 : decode cX3_append 43 = .ok (.iload 5, 2) := by decide +kernel
theorem dX3_append_45 : decode cX3_append 45 = .ok (.i2l, 1) := by decide +kernel
theorem dX3_append_46 : decode cX3_append 46 = .ok (.lastore, 1) := by decide +kernel
theorem dX3_append_47 : decode cX3_append 47 = .ok (.aload_n 0, 1) := by decide +kernel
theorem dX3_append_48 : decode cX3_append 48 = .ok (.aload_n 0, 1) := by decide +kernel
theorem dX3_append_49 : decode cX3_append 49 = .ok (.getfield 15, 3) := by decide +kernel
theorem dX3_append_52 : decode cX3_append 52 = .ok (.iconst 1, 1) := by decide +kernel
theorem dX3_append_53 : decode cX3_append 53 = .ok (.iadd, 1) := by decide +kernel
theorem dX3_append_54 : decode cX3_append 54 = .ok (.bipush 10, 2) := by decide +kernel
theorem dX3_append_56 : decode cX3_append 56 = .ok (.invokestatic 25, 3) := by decide +kernel
theorem dX3_append_59 : decode cX3_append 59 = .ok (.putfield 15, 3) := by decide +kernel
theorem dX3_append_62 : decode cX3_append 62 = .ok (.return_, 1) := by decide +kernel
set_option maxRecDepth 20000 in
theorem ggX3_dayValue_X8_within : GoodIn wsX3_dayValue wsX8_within := goodIn_r _ [6] (by decide +kernel) (by decide +kernel)
set_option maxRecDepth 20000 in
theorem gX3_dayValue_X8_within_n31 : GoodIn wsX3_dayValue (wsX8_within) := ggX3_dayValue_X8_within
theorem dX3_dayValue_0 : decode cX3_dayValue 0 = .ok (.iload_n 1, 1) := by decide +kernel
theorem dX3_dayValue_1 : decode cX3_dayValue 1 = .ok (.iconst 0, 1) := by decide +kernel
theorem dX3_dayValue_2 : decode cX3_dayValue 2 = .ok (.aload_n 0, 1) := by decide +kernel
theorem dX3_dayValue_3 : decode cX3_dayValue 3 = .ok (.getfield 15, 3) := by decide +kernel
theorem dX3_dayValue_6 : decode cX3_dayValue 6 = .ok (.iconst 1, 1) := by decide +kernel
theorem dX3_dayValue_7 : decode cX3_dayValue 7 = .ok (.isub, 1) := by decide +kernel
theorem dX3_dayValue_8 : decode cX3_dayValue 8 = .ok (.invokestatic 31, 3) := by decide +kernel
theorem dX3_dayValue_11 : decode cX3_dayValue 11 = .ok (.ifCond .eq 16, 3) := by decide +kernel
theorem dX3_dayValue_14 : decode cX3_dayValue 14 = .ok (.iload_n 2, 1) := by decide +kernel
theorem dX3_dayValue_15 : decode cX3_dayValue 15 = .ok (.iconst 0, 1) := by decide +kernel
theorem dX3_dayValue_16 : decode cX3_dayValue 16 = .ok (.iconst 3, 1) := by decide +kernel
theorem dX3_dayValue_17 : decode cX3_dayValue 17 = .ok (.invokestatic 31, 3) := by decide +kernel
theorem dX3_dayValue_20 : decode cX3_dayValue 20 = .ok (.ifCond .eq 7, 3) := by decide +kernel
theorem dX3_dayValue_23 : decode cX3_dayValue 23 = .ok (.iconst 1, 1) := by decide +kernel
theorem dX3_dayValue_24 : decode cX3_dayValue 24 = .ok (.goto 4, 3) := by decide +kernel
theorem dX3_dayValue_27 : decode cX3_dayValue 27 = .ok (.iconst 0, 1) := by decide +kernel
theorem dX3_dayValue_28 : decode cX3_dayValue 28 = .ok (.istore_n 3, 1) := by decide +kernel
theorem dX3_dayValue_29 : decode cX3_dayValue 29 = .ok (.iload_n 3, 1) := by decide +kernel
theorem dX3_dayValue_30 : decode cX3_dayValue 30 = .ok (.ifCond .eq 16, 3) := by decide +kernel
theorem dX3_dayValue_33 : decode cX3_dayValue 33 = .ok (.aload_n 0, 1) := by decide +kernel
theorem dX3_dayValue_34 : decode cX3_dayValue 34 = .ok (.getfield 9, 3) := by decide +kernel
theorem dX3_dayValue_37 : decode cX3_dayValue 37 = .ok (.iload_n 1, 1) := by decide +kernel
theorem dX3_dayValue_38 : decode cX3_dayValue 38 = .ok (.iconst 4, 1) := by decide +kernel
theorem dX3_dayValue_39 : decode cX3_dayValue 39 = .ok (.imul, 1) := by decide +kernel
theorem dX3_dayValue_40 : decode cX3_dayValue 40 = .ok (.iload_n 2, 1) := by decide +kernel
theorem dX3_dayValue_41 : decode cX3_dayValue 41 = .ok (.iadd, 1) := by decide +kernel
theorem dX3_dayValue_42 : decode cX3_dayValue 42 = .ok (.laload, 1) := by decide +kernel
theorem dX3_dayValue_43 : decode cX3_dayValue 43 = .ok (.goto 6, 3) := by decide +kernel
theorem dX3_dayValue_46 : decode cX3_dayValue 46 = .ok (.ldc2_w 35, 3) := by decide +kernel
theorem dX3_dayValue_49 : decode cX3_dayValue 49 = .ok (.lreturn, 1) := by decide +kernel
theorem dX4_init_0 : decode cX4_init 0 = .ok (.aload_n 0, 1) := by decide +kernel
theorem dX4_init_1 : decode cX4_init 1 = .ok (.invokespecial 3, 3) := by decide +kernel
theorem dX4_init_4 : decode cX4_init 4 = .ok (.aload_n 0, 1) := by decide +kernel
theorem dX4_init_5 : decode cX4_init 5 = .ok (.iconst 2, 1) := by decide +kernel
theorem dX4_init_6 : decode cX4_init 6 = .ok (.putfield 9, 3) := by decide +kernel
theorem dX4_init_9 : decode cX4_init 9 = .ok (.aload_n 0, 1) := by decide +kernel
theorem dX4_init_10 : decode cX4_init 10 = .ok (.bipush 6, 2) := by decide +kernel
theorem dX4_init_12 : decode cX4_init 12 = .ok (.newarray .int, 2) := by decide +kernel
theorem dX4_init_14 : decode cX4_init 14 = .ok (.putfield 15, 3) := by decide +kernel
theorem dX4_init_17 : decode cX4_init 17 = .ok (.aload_n 0, 1) := by decide +kernel
theorem dX4_init_18 : decode cX4_init 18 = .ok (.bipush 9, 2) := by decide +kernel
theorem dX4_init_20 : decode cX4_init 20 = .ok (.newarray .int, 2) := by decide +kernel
theorem dX4_init_22 : decode cX4_init 22 = .ok (.putfield 19, 3) := by decide +kernel
theorem dX4_init_25 : decode cX4_init 25 = .ok (.aload_n 0, 1) := by decide +kernel
theorem dX4_init_26 : decode cX4_init 26 = .ok (.bipush 9, 2) := by decide +kernel
theorem dX4_init_28 : decode cX4_init 28 = .ok (.newarray .int, 2) := by decide +kernel
theorem dX4_init_30 : decode cX4_init 30 = .ok (.putfield 22, 3) := by decide +kernel
theorem dX4_init_33 : decode cX4_init 33 = .ok (.aload_n 0, 1) := by decide +kernel
theorem dX4_init_34 : decode cX4_init 34 = .ok (.bipush 9, 2) := by decide +kernel
theorem dX4_init_36 : decode cX4_init 36 = .ok (.newarray .int, 2) := by decide +kernel
theorem dX4_init_38 : decode cX4_init 38 = .ok (.putfield 25, 3) := by decide +kernel
theorem dX4_init_41 : decode cX4_init 41 = .ok (.aload_n 0, 1) := by decide +kernel
theorem dX4_init_42 : decode cX4_init 42 = .ok (.getfield 15, 3) := by decide +kernel
theorem dX4_init_45 : decode cX4_init 45 = .ok (.iconst 0, 1) := by decide +kernel
theorem dX4_init_46 : decode cX4_init 46 = .ok (.bipush 115, 2) := by decide +kernel
theorem dX4_init_48 : decode cX4_init 48 = .ok (.iastore, 1) := by decide +kernel
theorem dX4_init_49 : decode cX4_init 49 = .ok (.aload_n 0, 1) := by decide +kernel
theorem dX4_init_50 : decode cX4_init 50 = .ok (.getfield 15, 3) := by decide +kernel
theorem dX4_init_53 : decode cX4_init 53 = .ok (.iconst 1, 1) := by decide +kernel
theorem dX4_init_54 : decode cX4_init 54 = .ok (.sipush 190, 3) := by decide +kernel
theorem dX4_init_57 : decode cX4_init 57 = .ok (.iastore, 1) := by decide +kernel
theorem dX4_init_58 : decode cX4_init 58 = .ok (.return_, 1) := by decide +kernel
theorem dX4_copyFrom_0 : decode cX4_copyFrom 0 = .ok (.aload_n 0, 1) := by decide +kernel
theorem dX4_copyFrom_1 : decode cX4_copyFrom 1 = .ok (.aload_n 1, 1) := by decide +kernel
theorem dX4_copyFrom_2 : decode cX4_copyFrom 2 = .ok (.getfield 9, 3) := by decide +kernel
theorem dX4_copyFrom_5 : decode cX4_copyFrom 5 = .ok (.putfield 9, 3) := by decide +kernel
theorem dX4_copyFrom_8 : decode cX4_copyFrom 8 = .ok (.aload_n 1, 1) := by decide +kernel
theorem dX4_copyFrom_9 : decode cX4_copyFrom 9 = .ok (.getfield 15, 3) := by decide +kernel
theorem dX4_copyFrom_12 : decode cX4_copyFrom 12 = .ok (.iconst 0, 1) := by decide +kernel
theorem dX4_copyFrom_13 : decode cX4_copyFrom 13 = .ok (.aload_n 0, 1) := by decide +kernel
theorem dX4_copyFrom_14 : decode cX4_copyFrom 14 = .ok (.getfield 15, 3) := by decide +kernel
theorem dX4_copyFrom_17 : decode cX4_copyFrom 17 = .ok (.iconst 0, 1) := by decide +kernel
theorem dX4_copyFrom_18 : decode cX4_copyFrom 18 = .ok (.bipush 6, 2) := by decide +kernel
theorem dX4_copyFrom_20 : decode cX4_copyFrom 20 = .ok (.invokestatic 28, 3) := by decide +kernel
theorem dX4_copyFrom_23 : decode cX4_copyFrom 23 = .ok (.aload_n 0, 1) := by decide +kernel
theorem dX4_copyFrom_24 : decode cX4_copyFrom 24 = .ok (.aload_n 1, 1) := by decide +kernel
theorem dX4_copyFrom_25 : decode cX4_copyFrom 25 = .ok (.getfield 34, 3) := by decide +kernel
theorem dX4_copyFrom_28 : decode cX4_copyFrom 28 = .ok (.putfield 34, 3) := by decide +kernel
theorem dX4_copyFrom_31 : decode cX4_copyFrom 31 = .ok (.aload_n 1, 1) := by decide +kernel
theorem dX4_copyFrom_32 : decode cX4_copyFrom 32 = .ok (.getfield 19, 3) := by decide +kernel
theorem dX4_copyFrom_35 : decode cX4_copyFrom 35 = .ok (.iconst 0, 1) := by decide +kernel
theorem dX4_copyFrom_36 : decode cX4_copyFrom 36 = .ok (.aload_n 0, 1) := by decide +kernel
theorem dX4_copyFrom_37 : decode cX4_copyFrom 37 = .ok (.getfield 19, 3) := by decide +kernel
theorem dX4_copyFrom_40 : decode cX4_copyFrom 40 = .ok (.iconst 0, 1) := by decide +kernel
theorem dX4_copyFrom_41 : decode cX4_copyFrom 41 = .ok (.bipush 9, 2) := by decide +kernel
theorem dX4_copyFrom_43 : decode cX4_copyFrom 43 = .ok (.invokestatic 28, 3) := by decide +kernel
theorem dX4_copyFrom_46 : decode cX4_copyFrom 46 = .ok (.aload_n 1, 1) := by decide +kernel
theorem dX4_copyFrom_47 : decode cX4_copyFrom 47 = .ok (.getfield 22, 3) := by decide +kernel
theorem dX4_copyFrom_50 : decode cX4_copyFrom 50 = .ok (.iconst 0, 1) := by decide +kernel
theorem dX4_copyFrom_51 : decode cX4_copyFrom 51 = .ok (.aload_n 0, 1) := by decide +kernel
theorem dX4_copyFrom_52 : decode cX4_copyFrom 52 = .ok (.getfield 22, 3) := by decide +kernel
theorem dX4_copyFrom_55 : decode cX4_copyFrom 55 = .ok (.iconst 0, 1) := by decide +kernel
theorem dX4_copyFrom_56 : decode cX4_copyFrom 56 = .ok (.bipush 9, 2) := by decide +kernel
theorem dX4_copyFrom_58 : decode cX4_copyFrom 58 = .ok (.invokestatic 28, 3) := by decide +kernel
theorem dX4_copyFrom_61 : decode cX4_copyFrom 61 = .ok (.aload_n 1, 1) := by decide +kernel
theorem dX4_copyFrom_62 : decode cX4_copyFrom 62 = .ok (.getfield 25, 3) := by decide +kernel
theorem dX4_copyFrom_65 : decode cX4_copyFrom 65 = .ok (.iconst 0, 1) := by decide +kernel
theorem dX4_copyFrom_66 : decode cX4_copyFrom 66 = .ok (.aload_n 0, 1) := by decide +kernel
theorem dX4_copyFrom_67 : decode cX4_copyFrom 67 = .ok (.getfield 25, 3) := by decide +kernel
theorem dX4_copyFrom_70 : decode cX4_copyFrom 70 = .ok (.iconst 0, 1) := by decide +kernel
theorem dX4_copyFrom_71 : decode cX4_copyFrom 71 = .ok (.bipush 9, 2) := by decide +kernel
theorem dX4_copyFrom_73 : decode cX4_copyFrom 73 = .ok (.invokestatic 28, 3) := by decide +kernel
theorem dX4_copyFrom_76 : decode cX4_copyFrom 76 = .ok (.return_, 1) := by decide +kernel
set_option maxRecDepth 20000 in
theorem ggX4_hasMetal_X8_within : GoodIn wsX4_hasMetal wsX8_within := goodIn_r _ [4] (by decide +kernel) (by decide +kernel)
set_option maxRecDepth 20000 in
theorem gX4_hasMetal_X8_within_n37 : GoodIn wsX4_hasMetal (wsX8_within) := ggX4_hasMetal_X8_within
theorem dX4_hasMetal_0 : decode cX4_hasMetal 0 = .ok (.iload_n 1, 1) := by decide +kernel
theorem dX4_hasMetal_1 : decode cX4_hasMetal 1 = .ok (.iconst 0, 1) := by decide +kernel
theorem dX4_hasMetal_2 : decode cX4_hasMetal 2 = .ok (.aload_n 0, 1) := by decide +kernel
theorem dX4_hasMetal_3 : decode cX4_hasMetal 3 = .ok (.getfield 9, 3) := by decide +kernel
theorem dX4_hasMetal_6 : decode cX4_hasMetal 6 = .ok (.iconst 1, 1) := by decide +kernel
theorem dX4_hasMetal_7 : decode cX4_hasMetal 7 = .ok (.isub, 1) := by decide +kernel
theorem dX4_hasMetal_8 : decode cX4_hasMetal 8 = .ok (.invokestatic 37, 3) := by decide +kernel
theorem dX4_hasMetal_11 : decode cX4_hasMetal 11 = .ok (.ireturn, 1) := by decide +kernel
set_option maxRecDepth 20000 in
theorem ggX4_hasRod_X8_within : GoodIn wsX4_hasRod wsX8_within := goodIn_r _ [4] (by decide +kernel) (by decide +kernel)
set_option maxRecDepth 20000 in
theorem gX4_hasRod_X8_within_n37 : GoodIn wsX4_hasRod (wsX8_within) := ggX4_hasRod_X8_within
theorem dX4_hasRod_0 : decode cX4_hasRod 0 = .ok (.iload_n 1, 1) := by decide +kernel
theorem dX4_hasRod_1 : decode cX4_hasRod 1 = .ok (.iconst 0, 1) := by decide +kernel
theorem dX4_hasRod_2 : decode cX4_hasRod 2 = .ok (.aload_n 0, 1) := by decide +kernel
theorem dX4_hasRod_3 : decode cX4_hasRod 3 = .ok (.getfield 34, 3) := by decide +kernel
theorem dX4_hasRod_6 : decode cX4_hasRod 6 = .ok (.iconst 1, 1) := by decide +kernel
theorem dX4_hasRod_7 : decode cX4_hasRod 7 = .ok (.isub, 1) := by decide +kernel
theorem dX4_hasRod_8 : decode cX4_hasRod 8 = .ok (.invokestatic 37, 3) := by decide +kernel
theorem dX4_hasRod_11 : decode cX4_hasRod 11 = .ok (.ireturn, 1) := by decide +kernel
set_option maxRecDepth 20000 in
theorem ggX4_checkMetal_X4_hasMetal : GoodIn wsX4_checkMetal wsX4_hasMetal := goodIn_r _ [5, 6, 7, 8, 9, 10, 11, 12, 13, 14, 15] (by decide +kernel) (by decide +kernel)
set_option maxRecDepth 20000 in
theorem gX4_checkMetal_X4_hasMetal : GoodIn wsX4_checkMetal (wsV RX4 41 RX4 yX4_hasMetal wsX4_hasMetal) := goodIn_app (goodIn_of _ (by decide +kernel)) ggX4_checkMetal_X4_hasMetal
theorem dX4_checkMetal_0 : decode cX4_checkMetal 0 = .ok (.aload_n 0, 1) := by decide +kernel
theorem dX4_checkMetal_1 : decode cX4_checkMetal 1 = .ok (.iload_n 1, 1) := by decide +kernel
theorem dX4_checkMetal_2 : decode cX4_checkMetal 2 = .ok (.invokevirtual 41, 3) := by decide +kernel
theorem dX4_checkMetal_5 : decode cX4_checkMetal 5 = .ok (.ifCond .eq 7, 3) := by decide +kernel
theorem dX4_checkMetal_8 : decode cX4_checkMetal 8 = .ok (.iconst 0, 1) := by decide +kernel
theorem dX4_checkMetal_9 : decode cX4_checkMetal 9 = .ok (.goto 4, 3) := by decide +kernel
theorem dX4_checkMetal_12 : decode cX4_checkMetal 12 = .ok (.iconst 1, 1) := by decide +kernel
theorem dX4_checkMetal_13 : decode cX4_checkMetal 13 = .ok (.ireturn, 1) := by decide +kernel
set_option maxRecDepth 20000 in
theorem ggX4_checkRod_X4_hasRod : GoodIn wsX4_checkRod wsX4_hasRod := goodIn_r _ [5, 6, 7, 8, 9, 10, 11, 12, 13, 14, 15] (by decide +kernel) (by decide +kernel)
set_option maxRecDepth 20000 in
theorem gX4_checkRod_X4_hasRod : GoodIn wsX4_checkRod (wsV RX4 45 RX4 yX4_hasRod wsX4_hasRod) := goodIn_app (goodIn_of _ (by decide +kernel)) ggX4_checkRod_X4_hasRod
theorem dX4_checkRod_0 : decode cX4_checkRod 0 = .ok (.aload_n 0, 1) := by decide +kernel
theorem dX4_checkRod_1 : decode cX4_checkRod 1 = .ok (.iload_n 1, 1) := by decide +kernel
theorem dX4_checkRod_2 : decode cX4_checkRod 2 = .ok (.invokevirtual 45, 3) := by decide +kernel
theorem dX4_checkRod_5 : decode cX4_checkRod 5 = .ok (.ifCond .eq 7, 3) := by decide +kernel
theorem dX4_checkRod_8 : decode cX4_checkRod 8 = .ok (.iconst 0, 1) := by decide +kernel
theorem dX4_checkRod_9 : decode cX4_checkRod 9 = .ok (.goto 4, 3) := by decide +kernel
theorem dX4_checkRod_12 : decode cX4_checkRod 12 = .ok (.iconst 1, 1) := by decide +kernel
theorem dX4_checkRod_13 : decode cX4_checkRod 13 = .ok (.ireturn, 1) := by decide +kernel
set_option maxRecDepth 20000 in
theorem ggX4_checkNewMetal_X8_within : GoodIn wsX4_checkNewMetal wsX8_within := goodIn_r _ [4] (by decide +kernel) (by decide +kernel)
set_option maxRecDepth 20000 in
theorem gX4_checkNewMetal_X8_within_n37 : GoodIn wsX4_checkNewMetal (wsX8_within) := ggX4_checkNewMetal_X8_within
theorem dX4_checkNewMetal_0 : decode cX4_checkNewMetal 0 = .ok (.iload_n 1, 1) := by decide +kernel
theorem dX4_checkNewMetal_1 : decode cX4_checkNewMetal 1 = .ok (.iconst 0, 1) := by decide +kernel
theorem dX4_checkNewMetal_2 : decode cX4_checkNewMetal 2 = .ok (.sipush 500, 3) := by decide +kernel
theorem dX4_checkNewMetal_5 : decode cX4_checkNewMetal 5 = .ok (.invokestatic 37, 3) := by decide +kernel
theorem dX4_checkNewMetal_8 : decode cX4_checkNewMetal 8 = .ok (.ifCond .ne 5, 3) := by decide +kernel
theorem dX4_checkNewMetal_11 : decode cX4_checkNewMetal 11 = .ok (.iconst 2, 1) := by decide +kernel
theorem dX4_checkNewMetal_12 : decode cX4_checkNewMetal 12 = .ok (.ireturn, 1) := by decide +kernel
theorem dX4_checkNewMetal_13 : decode cX4_checkNewMetal 13 = .ok (.aload_n 0, 1) := by decide +kernel
theorem dX4_checkNewMetal_14 : decode cX4_checkNewMetal 14 = .ok (.getfield 9, 3) := by decide +kernel
theorem dX4_checkNewMetal_17 : decode cX4_checkNewMetal 17 = .ok (.bipush 6, 2) := by decide +kernel
theorem dX4_checkNewMetal_19 : decode cX4_checkNewMetal 19 = .ok (.if_icmp .ge 7, 3) := by decide +kernel
theorem dX4_checkNewMetal_22 : decode cX4_checkNewMetal 22 = .ok (.iconst 0, 1) := by decide +kernel
theorem dX4_checkNewMetal_23 : decode cX4_checkNewMetal 23 = .ok (.goto 4, 3) := by decide +kernel
theorem dX4_checkNewMetal_26 : decode cX4_checkNewMetal 26 = .ok (.iconst 3, 1) := by decide +kernel
theorem dX4_checkNewMetal_27 : decode cX4_checkNewMetal 27 = .ok (.ireturn, 1) := by decide +kernel
set_option maxRecDepth 20000 in
theorem ggX4_checkStretch_X4_hasMetal : GoodIn wsX4_checkStretch wsX4_hasMetal := goodIn_r _ [5, 6, 7, 8, 9, 10, 11, 12, 13, 14, 15] (by decide +kernel) (by decide +kernel)
set_option maxRecDepth 20000 in
theorem gX4_checkStretch_X4_hasMetal : GoodIn wsX4_checkStretch (wsV RX4 41 RX4 yX4_hasMetal wsX4_hasMetal) := goodIn_app (goodIn_of _ (by decide +kernel)) ggX4_checkStretch_X4_hasMetal
set_option maxRecDepth 20000 in
theorem ggX4_checkStretch_X8_within : GoodIn wsX4_checkStretch wsX8_within := goodIn_r _ [9] (by decide +kernel) (by decide +kernel)
set_option maxRecDepth 20000 in
theorem gX4_checkStretch_X8_within_n37 : GoodIn wsX4_checkStretch (wsX8_within) := ggX4_checkStretch_X8_within
theorem dX4_checkStretch_0 : decode cX4_checkStretch 0 = .ok (.aload_n 0, 1) := by decide +kernel
theorem dX4_checkStretch_1 : decode cX4_checkStretch 1 = .ok (.iload_n 1, 1) := by decide +kernel
theorem dX4_checkStretch_2 : decode cX4_checkStretch 2 = .ok (.invokevirtual 41, 3) := by decide +kernel
theorem dX4_checkStretch_5 : decode cX4_checkStretch 5 = .ok (.ifCond .ne 5, 3) := by decide +kernel
theorem dX4_checkStretch_8 : decode cX4_checkStretch 8 = .ok (.iconst 1, 1) := by decide +kernel
theorem dX4_checkStretch_9 : decode cX4_checkStretch 9 = .ok (.ireturn, 1) := by decide +kernel
theorem dX4_checkStretch_10 : decode cX4_checkStretch 10 = .ok (.iload_n 2, 1) := by decide +kernel
theorem dX4_checkStretch_11 : decode cX4_checkStretch 11 = .ok (.iconst 0, 1) := by decide +kernel
theorem dX4_checkStretch_12 : decode cX4_checkStretch 12 = .ok (.sipush 500, 3) := by decide +kernel
theorem dX4_checkStretch_15 : decode cX4_checkStretch 15 = .ok (.invokestatic 37, 3) := by decide +kernel
theorem dX4_checkStretch_18 : decode cX4_checkStretch 18 = .ok (.ifCond .eq 7, 3) := by decide +kernel
theorem dX4_checkStretch_21 : decode cX4_checkStretch 21 = .ok (.iconst 0, 1) := by decide +kernel
theorem dX4_checkStretch_22 : decode cX4_checkStretch 22 = .ok (.goto 4, 3) := by decide +kernel
theorem dX4_checkStretch_25 : decode cX4_checkStretch 25 = .ok (.iconst 2, 1) := by decide +kernel
theorem dX4_checkStretch_26 : decode cX4_checkStretch 26 = .ok (.ireturn, 1) := by decide +kernel
set_option maxRecDepth 20000 in
theorem ggX4_checkNewRod_X4_hasMetal : GoodIn wsX4_checkNewRod wsX4_hasMetal := goodIn_r _ [7, 8, 9, 10, 11, 12, 13, 14, 15, 16, 17] (by decide +kernel) (by decide +kernel)
set_option maxRecDepth 20000 in
theorem gX4_checkNewRod_X4_hasMetal : GoodIn wsX4_checkNewRod (wsV RX4 41 RX4 yX4_hasMetal wsX4_hasMetal) := goodIn_app (goodIn_of _ (by decide +kernel)) ggX4_checkNewRod_X4_hasMetal
set_option maxRecDepth 20000 in
theorem ggX4_checkNewRod_X8_within : GoodIn wsX4_checkNewRod wsX8_within := goodIn_r _ [11] (by decide +kernel) (by decide +kernel)
set_option maxRecDepth 20000 in
theorem gX4_checkNewRod_X8_within_n37 : GoodIn wsX4_checkNewRod (wsX8_within) := ggX4_checkNewRod_X8_within
theorem dX4_checkNewRod_0 : decode cX4_checkNewRod 0 = .ok (.aload_n 0, 1) := by decide +kernel
theorem dX4_checkNewRod_1 : decode cX4_checkNewRod 1 = .ok (.iload_n 1, 1) := by decide +kernel
theorem dX4_checkNewRod_2 : decode cX4_checkNewRod 2 = .ok (.invokevirtual 41, 3) := by decide +kernel
theorem dX4_checkNewRod_5 : decode cX4_checkNewRod 5 = .ok (.ifCond .ne 5, 3) := by decide +kernel
theorem dX4_checkNewRod_8 : decode cX4_checkNewRod 8 = .ok (.iconst 1, 1) := by decide +kernel
theorem dX4_checkNewRod_9 : decode cX4_checkNewRod 9 = .ok (.ireturn, 1) := by decide +kernel
theorem dX4_checkNewRod_10 : decode cX4_checkNewRod 10 = .ok (.iload_n 2, 1) := by decide +kernel
theorem dX4_checkNewRod_11 : decode cX4_checkNewRod 11 = .ok (.iconst 1, 1) := by decide +kernel
theorem dX4_checkNewRod_12 : decode cX4_checkNewRod 12 = .ok (.if_icmp .eq 8, 3) := by decide +kernel
theorem dX4_checkNewRod_15 : decode cX4_checkNewRod 15 = .ok (.iload_n 2, 1) := by decide +kernel
theorem dX4_checkNewRod_16 : decode cX4_checkNewRod 16 = .ok (.iconst (-1), 1) := by decide +kernel
theorem dX4_checkNewRod_17 : decode cX4_checkNewRod 17 = .ok (.if_icmp .ne 13, 3) := by decide +kernel
theorem dX4_checkNewRod_20 : decode cX4_checkNewRod 20 = .ok (.iload_n 3, 1) := by decide +kernel
theorem dX4_checkNewRod_21 : decode cX4_checkNewRod 21 = .ok (.iconst 1, 1) := by decide +kernel
theorem dX4_checkNewRod_22 : decode cX4_checkNewRod 22 = .ok (.ldc 48, 2) := by decide +kernel
theorem dX4_checkNewRod_24 : decode cX4_checkNewRod 24 = .ok (.invokestatic 37, 3) := by decide +kernel
theorem dX4_checkNewRod_27 : decode cX4_checkNewRod 27 = .ok (.ifCond .ne 5, 3) := by decide +kernel
theorem dX4_checkNewRod_30 : decode cX4_checkNewRod 30 = .ok (.iconst 2, 1) := by decide +kernel
theorem dX4_checkNewRod_31 : decode cX4_checkNewRod 31 = .ok (.ireturn, 1) := by decide +kernel
theorem dX4_checkNewRod_32 : decode cX4_checkNewRod 32 = .ok (.aload_n 0, 1) := by decide +kernel
theorem dX4_checkNewRod_33 : decode cX4_checkNewRod 33 = .ok (.getfield 34, 3) := by decide +kernel
theorem dX4_checkNewRod_36 : decode cX4_checkNewRod 36 = .ok (.bipush 9, 2) := by decide +kernel
theorem dX4_checkNewRod_38 : decode cX4_checkNewRod 38 = .ok (.if_icmp .ge 7, 3) := by decide +kernel
theorem dX4_checkNewRod_41 : decode cX4_checkNewRod 41 = .ok (.iconst 0, 1) := by decide +kernel
theorem dX4_checkNewRod_42 : decode cX4_checkNewRod 42 = .ok (.goto 4, 3) := by decide +kernel
theorem dX4_checkNewRod_45 : decode cX4_checkNewRod 45 = .ok (.iconst 3, 1) := by decide +kernel
theorem dX4_checkNewRod_46 : decode cX4_checkNewRod 46 = .ok (.ireturn, 1) := by decide +kernel
set_option maxRecDepth 20000 in
theorem ggX4_checkLength_X4_hasRod : GoodIn wsX4_checkLength wsX4_hasRod := goodIn_r _ [6, 7, 8, 9, 10, 11, 12, 13, 14, 15, 16] (by decide +kernel) (by decide +kernel)
set_option maxRecDepth 20000 in
theorem gX4_checkLength_X4_hasRod : GoodIn wsX4_checkLength (wsV RX4 45 RX4 yX4_hasRod wsX4_hasRod) := goodIn_app (goodIn_of _ (by decide +kernel)) ggX4_checkLength_X4_hasRod
set_option maxRecDepth 20000 in
theorem ggX4_checkLength_X8_within : GoodIn wsX4_checkLength wsX8_within := goodIn_r _ [10] (by decide +kernel) (by decide +kernel)
set_option maxRecDepth 20000 in
theorem gX4_checkLength_X8_within_n37 : GoodIn wsX4_checkLength (wsX8_within) := ggX4_checkLength_X8_within
theorem dX4_checkLength_0 : decode cX4_checkLength 0 = .ok (.aload_n 0, 1) := by decide +kernel
theorem dX4_checkLength_1 : decode cX4_checkLength 1 = .ok (.iload_n 1, 1) := by decide +kernel
theorem dX4_checkLength_2 : decode cX4_checkLength 2 = .ok (.invokevirtual 45, 3) := by decide +kernel
theorem dX4_checkLength_5 : decode cX4_checkLength 5 = .ok (.ifCond .ne 5, 3) := by decide +kernel
theorem dX4_checkLength_8 : decode cX4_checkLength 8 = .ok (.iconst 1, 1) := by decide +kernel
theorem dX4_checkLength_9 : decode cX4_checkLength 9 = .ok (.ireturn, 1) := by decide +kernel
theorem dX4_checkLength_10 : decode cX4_checkLength 10 = .ok (.iload_n 2, 1) := by decide +kernel
theorem dX4_checkLength_11 : decode cX4_checkLength 11 = .ok (.iconst 1, 1) := by decide +kernel
theorem dX4_checkLength_12 : decode cX4_checkLength 12 = .ok (.ldc 48, 2) := by decide +kernel
theorem dX4_checkLength_14 : decode cX4_checkLength 14 = .ok (.invokestatic 37, 3) := by decide +kernel
theorem dX4_checkLength_17 : decode cX4_checkLength 17 = .ok (.ifCond .eq 7, 3) := by decide +kernel
theorem dX4_checkLength_20 : decode cX4_checkLength 20 = .ok (.iconst 0, 1) := by decide +kernel
theorem dX4_checkLength_21 : decode cX4_checkLength 21 = .ok (.goto 4, 3) := by decide +kernel
theorem dX4_checkLength_24 : decode cX4_checkLength 24 = .ok (.iconst 2, 1) := by decide +kernel
theorem dX4_checkLength_25 : decode cX4_checkLength 25 = .ok (.ireturn, 1) := by decide +kernel
theorem dX4_appendMetal_0 : decode cX4_appendMetal 0 = .ok (.aload_n 0, 1) := by decide +kernel
theorem dX4_appendMetal_1 : decode cX4_appendMetal 1 = .ok (.getfield 15, 3) := by decide +kernel
theorem dX4_appendMetal_4 : decode cX4_appendMetal 4 = .ok (.aload_n 0, 1) := by decide +kernel
theorem dX4_appendMetal_5 : decode cX4_appendMetal 5 = .ok (.getfield 9, 3) := by decide +kernel
theorem dX4_appendMetal_8 : decode cX4_appendMetal 8 = .ok (.iload_n 1, 1) := by decide +kernel
theorem dX4_appendMetal_9 : decode cX4_appendMetal 9 = .ok (.iastore, 1) := by decide +kernel
theorem dX4_appendMetal_10 : decode cX4_appendMetal 10 = .ok (.aload_n 0, 1) := by decide +kernel
theorem dX4_appendMetal_11 : decode cX4_appendMetal 11 = .ok (.dup, 1) := by decide +kernel
theorem dX4_appendMetal_12 : decode cX4_appendMetal 12 = .ok (.getfield 9, 3) := by decide +kernel
theorem dX4_appendMetal_15 : decode cX4_appendMetal 15 = .ok (.iconst 1, 1) := by decide +kernel
theorem dX4_appendMetal_16 : decode cX4_appendMetal 16 = .ok (.iadd, 1) := by decide +kernel
theorem dX4_appendMetal_17 : decode cX4_appendMetal 17 = .ok (.putfield 9, 3) := by decide +kernel
theorem dX4_appendMetal_20 : decode cX4_appendMetal 20 = .ok (.aload_n 0, 1) := by decide +kernel
theorem dX4_appendMetal_21 : decode cX4_appendMetal 21 = .ok (.getfield 9, 3) := by decide +kernel
theorem dX4_appendMetal_24 : decode cX4_appendMetal 24 = .ok (.iconst 1, 1) := by decide +kernel
theorem dX4_appendMetal_25 : decode cX4_appendMetal 25 = .ok (.isub, 1) := by decide +kernel
theorem dX4_appendMetal_26 : decode cX4_appendMetal 26 = .ok (.ireturn, 1) := by decide +kernel
theorem dX4_changeStretch_0 : decode cX4_changeStretch 0 = .ok (.aload_n 0, 1) := by decide +kernel
theorem dX4_changeStretch_1 : decode cX4_changeStretch 1 = .ok (.getfield 15, 3) := by decide +kernel
theorem dX4_changeStretch_4 : decode cX4_changeStretch 4 = .ok (.iload_n 1, 1) := by decide +kernel
theorem dX4_changeStretch_5 : decode cX4_changeStretch 5 = .ok (.iaload, 1) := by decide +kernel
theorem dX4_changeStretch_6 : decode cX4_changeStretch 6 = .ok (.istore_n 3, 1) := by decide +kernel
theorem dX4_changeStretch_7 : decode cX4_changeStretch 7 = .ok (.aload_n 0, 1) := by decide +kernel
theorem dX4_changeStretch_8 : decode cX4_changeStretch 8 = .ok (.getfield 15, 3) := by decide +kernel
theorem dX4_changeStretch_11 : decode cX4_changeStretch 11 = .ok (.iload_n 1, 1) := by decide +kernel
theorem dX4_changeStretch_12 : decode cX4_changeStretch 12 = .ok (.iload_n 2, 1) := by decide +kernel
theorem dX4_changeStretch_13 : decode cX4_changeStretch 13 = .ok (.iastore, 1) := by decide +kernel
theorem dX4_changeStretch_14 : decode cX4_changeStretch 14 = .ok (.iload_n 3, 1) := by decide +kernel
theorem dX4_changeStretch_15 : decode cX4_changeStretch 15 = .ok (.ireturn, 1) := by decide +kernel
theorem dX4_appendRod_0 : decode cX4_appendRod 0 = .ok (.aload_n 0, 1) := by decide +kernel
theorem dX4_appendRod_1 : decode cX4_appendRod 1 = .ok (.getfield 19, 3) := by decide +kernel
theorem dX4_appendRod_4 : decode cX4_appendRod 4 = .ok (.aload_n 0, 1) := by decide +kernel
theorem dX4_appendRod_5 : decode cX4_appendRod 5 = .ok (.getfield 34, 3) := by decide +kernel
theorem dX4_appendRod_8 : decode cX4_appendRod 8 = .ok (.iload_n 1, 1) := by decide +kernel
theorem dX4_appendRod_9 : decode cX4_appendRod 9 = .ok (.iastore, 1) := by decide +kernel
theorem dX4_appendRod_10 : decode cX4_appendRod 10 = .ok (.aload_n 0, 1) := by decide +kernel
theorem dX4_appendRod_11 : decode cX4_appendRod 11 = .ok (.getfield 22, 3) := by decide +kernel
theorem dX4_appendRod_14 : decode cX4_appendRod 14 = .ok (.aload_n 0, 1) := by decide +kernel
theorem dX4_appendRod_15 : decode cX4_appendRod 15 = .ok (.getfield 34, 3) := by decide +kernel
theorem dX4_appendRod_18 : decode cX4_appendRod 18 = .ok (.iload_n 2, 1) := by decide +kernel
theorem dX4_appendRod_19 : decode cX4_appendRod 19 = .ok (.iastore, 1) := by decide +kernel
theorem dX4_appendRod_20 : decode cX4_appendRod 20 = .ok (.aload_n 0, 1) := by decide +kernel
theorem dX4_appendRod_21 : decode cX4_appendRod 21 = .ok (.getfield 25, 3) := by decide +kernel
theorem dX4_appendRod_24 : decode cX4_appendRod 24 = .ok (.aload_n 0, 1) := by decide +kernel
theorem dX4_appendRod_25 : decode cX4_appendRod 25 = .ok (.getfield 34, 3) := by decide +kernel
theorem dX4_appendRod_28 : decode cX4_appendRod 28 = .ok (.iload_n 3, 1) := by decide +kernel
theorem dX4_appendRod_29 : decode cX4_appendRod 29 = .ok (.iastore, 1) := by decide +kernel
theorem dX4_appendRod_30 : decode cX4_appendRod 30 = .ok (.aload_n 0, 1) := by decide +kernel
theorem dX4_appendRod_31 : decode cX4_appendRod 31 = .ok (.dup, 1) := by decide +kernel
theorem dX4_appendRod_32 : decode cX4_appendRod 32 = .ok (.getfield 34, 3) := by decide +kernel
theorem dX4_appendRod_35 : decode cX4_appendRod 35 = .ok (.iconst 1, 1) := by decide +kernel
theorem dX4_appendRod_36 : decode cX4_appendRod 36 = .ok (.iadd, 1) := by decide +kernel
theorem dX4_appendRod_37 : decode cX4_appendRod 37 = .ok (.putfield 34, 3) := by decide +kernel
theorem dX4_appendRod_40 : decode cX4_appendRod 40 = .ok (.aload_n 0, 1) := by decide +kernel
theorem dX4_appendRod_41 : decode cX4_appendRod 41 = .ok (.getfield 34, 3) := by decide +kernel
theorem dX4_appendRod_44 : decode cX4_appendRod 44 = .ok (.iconst 1, 1) := by decide +kernel
theorem dX4_appendRod_45 : decode cX4_appendRod 45 = .ok (.isub, 1) := by decide +kernel
theorem dX4_appendRod_46 : decode cX4_appendRod 46 = .ok (.ireturn, 1) := by decide +kernel
theorem dX4_dropRod_0 : decode cX4_dropRod 0 = .ok (.iload_n 1, 1) := by decide +kernel
theorem dX4_dropRod_1 : decode cX4_dropRod 1 = .ok (.iconst 1, 1) := by decide +kernel
theorem dX4_dropRod_2 : decode cX4_dropRod 2 = .ok (.iadd, 1) := by decide +kernel
theorem dX4_dropRod_3 : decode cX4_dropRod 3 = .ok (.istore_n 2, 1) := by decide +kernel
theorem dX4_dropRod_4 : decode cX4_dropRod 4 = .ok (.iload_n 2, 1) := by decide +kernel
theorem dX4_dropRod_5 : decode cX4_dropRod 5 = .ok (.aload_n 0, 1) := by decide +kernel
theorem dX4_dropRod_6 : decode cX4_dropRod 6 = .ok (.getfield 34, 3) := by decide +kernel
theorem dX4_dropRod_9 : decode cX4_dropRod 9 = .ok (.if_icmp .ge 51, 3) := by decide +kernel
theorem dX4_dropRod_12 : decode cX4_dropRod 12 = .ok (.aload_n 0, 1) := by decide +kernel
theorem dX4_dropRod_13 : decode cX4_dropRod 13 = .ok (.getfield 19, 3) := by decide +kernel
theorem dX4_dropRod_16 : decode cX4_dropRod 16 = .ok (.iload_n 2, 1) := by decide +kernel
theorem dX4_dropRod_17 : decode cX4_dropRod 17 = .ok (.iconst 1, 1) := by decide +kernel
theorem dX4_dropRod_18 : decode cX4_dropRod 18 = .ok (.isub, 1) := by decide +kernel
theorem dX4_dropRod_19 : decode cX4_dropRod 19 = .ok (.aload_n 0, 1) := by decide +kernel
theorem dX4_dropRod_20 : decode cX4_dropRod 20 = .ok (.getfield 19, 3) := by decide +kernel
theorem dX4_dropRod_23 : decode cX4_dropRod 23 = .ok (.iload_n 2, 1) := by decide +kernel
theorem dX4_dropRod_24 : decode cX4_dropRod 24 = .ok (.iaload, 1) := by decide +kernel
theorem dX4_dropRod_25 : decode cX4_dropRod 25 = .ok (.iastore, 1) := by decide +kernel
theorem dX4_dropRod_26 : decode cX4_dropRod 26 = .ok (.aload_n 0, 1) := by decide +kernel
theorem dX4_dropRod_27 : decode cX4_dropRod 27 = .ok (.getfield 22, 3) := by decide +kernel
theorem dX4_dropRod_30 : decode cX4_dropRod 30 = .ok (.iload_n 2, 1) := by decide +kernel
theorem dX4_dropRod_31 : decode cX4_dropRod 31 = .ok (.iconst 1, 1) := by decide +kernel
theorem dX4_dropRod_32 : decode cX4_dropRod 32 = .ok (.isub, 1) := by decide +kernel
theorem dX4_dropRod_33 : decode cX4_dropRod 33 = .ok (.aload_n 0, 1) := by decide +kernel
theorem dX4_dropRod_34 : decode cX4_dropRod 34 = .ok (.getfield 22, 3) := by decide +kernel
theorem dX4_dropRod_37 : decode cX4_dropRod 37 = .ok (.iload_n 2, 1) := by decide +kernel
theorem dX4_dropRod_38 : decode cX4_dropRod 38 = .ok (.iaload, 1) := by decide +kernel
theorem dX4_dropRod_39 : decode cX4_dropRod 39 = .ok (.iastore, 1) := by decide +kernel
theorem dX4_dropRod_40 : decode cX4_dropRod 40 = .ok (.aload_n 0, 1) := by decide +kernel
theorem dX4_dropRod_41 : decode cX4_dropRod 41 = .ok (.getfield 25, 3) := by decide +kernel
theorem dX4_dropRod_44 : decode cX4_dropRod 44 = .ok (.iload_n 2, 1) := by decide +kernel
theorem dX4_dropRod_45 : decode cX4_dropRod 45 = .ok (.iconst 1, 1) := by decide +kernel
theorem dX4_dropRod_46 : decode cX4_dropRod 46 = .ok (.isub, 1) := by decide +kernel
theorem dX4_dropRod_47 : decode cX4_dropRod 47 = .ok (.aload_n 0, 1) := by decide +kernel
theorem dX4_dropRod_48 : decode cX4_dropRod 48 = .ok (.getfield 25, 3) := by decide +kernel
theorem dX4_dropRod_51 : decode cX4_dropRod 51 = .ok (.iload_n 2, 1) := by decide +kernel
theorem dX4_dropRod_52 : decode cX4_dropRod 52 = .ok (.iaload, 1) := by decide +kernel
theorem dX4_dropRod_53 : decode cX4_dropRod 53 = .ok (.iastore, 1) := by decide +kernel
theorem dX4_dropRod_54 : decode cX4_dropRod 54 = .ok (.iinc 2 1, 3) := by decide +kernel
theorem dX4_dropRod_57 : decode cX4_dropRod 57 = .ok (.goto (-53), 3) := by decide +kernel
theorem dX4_dropRod_60 : decode cX4_dropRod 60 = .ok (.aload_n 0, 1) := by decide +kernel
theorem dX4_dropRod_61 : decode cX4_dropRod 61 = .ok (.dup, 1) := by decide +kernel
theorem dX4_dropRod_62 : decode cX4_dropRod 62 = .ok (.getfield 34, 3) := by decide +kernel
theorem dX4_dropRod_65 : decode cX4_dropRod 65 = .ok (.iconst 1, 1) := by decide +kernel
theorem dX4_dropRod_66 : decode cX4_dropRod 66 = .ok (.isub, 1) := by decide +kernel
theorem dX4_dropRod_67 : decode cX4_dropRod 67 = .ok (.putfield 34, 3) := by decide +kernel
theorem dX4_dropRod_70 : decode cX4_dropRod 70 = .ok (.aload_n 0, 1) := by decide +kernel
theorem dX4_dropRod_71 : decode cX4_dropRod 71 = .ok (.getfield 34, 3) := by decide +kernel
theorem dX4_dropRod_74 : decode cX4_dropRod 74 = .ok (.ireturn, 1) := by decide +kernel
theorem dX4_changeLength_0 : decode cX4_changeLength 0 = .ok (.aload_n 0, 1) := by decide +kernel
theorem dX4_changeLength_1 : decode cX4_changeLength 1 = .ok (.getfield 25, 3) := by decide +kernel
theorem dX4_changeLength_4 : decode cX4_changeLength 4 = .ok (.iload_n 1, 1) := by decide +kernel
theorem dX4_changeLength_5 : decode cX4_changeLength 5 = .ok (.iaload, 1) := by decide +kernel
theorem dX4_changeLength_6 : decode cX4_changeLength 6 = .ok (.istore_n 3, 1) := by decide +kernel
theorem dX4_changeLength_7 : decode cX4_changeLength 7 = .ok (.aload_n 0, 1) := by decide +kernel
theorem dX4_changeLength_8 : decode cX4_changeLength 8 = .ok (.getfield 25, 3) := by decide +kernel
theorem dX4_changeLength_11 : decode cX4_changeLength 11 = .ok (.iload_n 1, 1) := by decide +kernel
