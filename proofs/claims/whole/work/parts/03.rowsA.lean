theorem dX0_init_0 : decode cX0_init 0 = .ok (.aload_n 0, 1) := by decide +kernel
theorem dX0_init_1 : decode cX0_init 1 = .ok (.invokespecial 1, 3) := by decide +kernel
theorem dX0_init_4 : decode cX0_init 4 = .ok (.aload_n 0, 1) := by decide +kernel
theorem dX0_init_5 : decode cX0_init 5 = .ok (.bipush 48, 2) := by decide +kernel
theorem dX0_init_7 : decode cX0_init 7 = .ok (.newarray .int, 2) := by decide +kernel
theorem dX0_init_9 : decode cX0_init 9 = .ok (.putfield 9, 3) := by decide +kernel
theorem dX0_init_12 : decode cX0_init 12 = .ok (.aload_n 0, 1) := by decide +kernel
theorem dX0_init_13 : decode cX0_init 13 = .ok (.bipush 48, 2) := by decide +kernel
theorem dX0_init_15 : decode cX0_init 15 = .ok (.newarray .int, 2) := by decide +kernel
theorem dX0_init_17 : decode cX0_init 17 = .ok (.putfield 13, 3) := by decide +kernel
theorem dX0_init_20 : decode cX0_init 20 = .ok (.aload_n 0, 1) := by decide +kernel
theorem dX0_init_21 : decode cX0_init 21 = .ok (.bipush 8, 2) := by decide +kernel
theorem dX0_init_23 : decode cX0_init 23 = .ok (.newarray .int, 2) := by decide +kernel
theorem dX0_init_25 : decode cX0_init 25 = .ok (.putfield 16, 3) := by decide +kernel
theorem dX0_init_28 : decode cX0_init 28 = .ok (.aload_n 0, 1) := by decide +kernel
theorem dX0_init_29 : decode cX0_init 29 = .ok (.bipush 8, 2) := by decide +kernel
theorem dX0_init_31 : decode cX0_init 31 = .ok (.newarray .int, 2) := by decide +kernel
theorem dX0_init_33 : decode cX0_init 33 = .ok (.putfield 19, 3) := by decide +kernel
theorem dX0_init_36 : decode cX0_init 36 = .ok (.aload_n 0, 1) := by decide +kernel
theorem dX0_init_37 : decode cX0_init 37 = .ok (.bipush 8, 2) := by decide +kernel
theorem dX0_init_39 : decode cX0_init 39 = .ok (.newarray .boolean, 2) := by decide +kernel
theorem dX0_init_41 : decode cX0_init 41 = .ok (.putfield 22, 3) := by decide +kernel
theorem dX0_init_44 : decode cX0_init 44 = .ok (.aload_n 0, 1) := by decide +kernel
theorem dX0_init_45 : decode cX0_init 45 = .ok (.iconst 0, 1) := by decide +kernel
theorem dX0_init_46 : decode cX0_init 46 = .ok (.putfield 26, 3) := by decide +kernel
theorem dX0_init_49 : decode cX0_init 49 = .ok (.aload_n 0, 1) := by decide +kernel
theorem dX0_init_50 : decode cX0_init 50 = .ok (.iconst (-1), 1) := by decide +kernel
theorem dX0_init_51 : decode cX0_init 51 = .ok (.putfield 30, 3) := by decide +kernel
theorem dX0_init_54 : decode cX0_init 54 = .ok (.aload_n 0, 1) := by decide +kernel
theorem dX0_init_55 : decode cX0_init 55 = .ok (.iconst (-1), 1) := by decide +kernel
theorem dX0_init_56 : decode cX0_init 56 = .ok (.putfield 33, 3) := by decide +kernel
theorem dX0_init_59 : decode cX0_init 59 = .ok (.aload_n 0, 1) := by decide +kernel
theorem dX0_init_60 : decode cX0_init 60 = .ok (.bipush 100, 2) := by decide +kernel
theorem dX0_init_62 : decode cX0_init 62 = .ok (.putfield 36, 3) := by decide +kernel
theorem dX0_init_65 : decode cX0_init 65 = .ok (.return_, 1) := by decide +kernel
theorem dX0_admit_0 : decode cX0_admit 0 = .ok (.aload_n 0, 1) := by decide +kernel
theorem dX0_admit_1 : decode cX0_admit 1 = .ok (.getfield 26, 3) := by decide +kernel
theorem dX0_admit_4 : decode cX0_admit 4 = .ok (.bipush 8, 2) := by decide +kernel
theorem dX0_admit_6 : decode cX0_admit 6 = .ok (.if_icmp .lt 5, 3) := by decide +kernel
theorem dX0_admit_9 : decode cX0_admit 9 = .ok (.iconst (-1), 1) := by decide +kernel
theorem dX0_admit_10 : decode cX0_admit 10 = .ok (.ireturn, 1) := by decide +kernel
theorem dX0_admit_11 : decode cX0_admit 11 = .ok (.aload_n 0, 1) := by decide +kernel
theorem dX0_admit_12 : decode cX0_admit 12 = .ok (.getfield 26, 3) := by decide +kernel
theorem dX0_admit_15 : decode cX0_admit 15 = .ok (.istore_n 1, 1) := by decide +kernel
theorem dX0_admit_16 : decode cX0_admit 16 = .ok (.aload_n 0, 1) := by decide +kernel
theorem dX0_admit_17 : decode cX0_admit 17 = .ok (.getfield 19, 3) := by decide +kernel
theorem dX0_admit_20 : decode cX0_admit 20 = .ok (.iload_n 1, 1) := by decide +kernel
theorem dX0_admit_21 : decode cX0_admit 21 = .ok (.iconst (-1), 1) := by decide +kernel
theorem dX0_admit_22 : decode cX0_admit 22 = .ok (.iastore, 1) := by decide +kernel
theorem dX0_admit_23 : decode cX0_admit 23 = .ok (.aload_n 0, 1) := by decide +kernel
theorem dX0_admit_24 : decode cX0_admit 24 = .ok (.dup, 1) := by decide +kernel
theorem dX0_admit_25 : decode cX0_admit 25 = .ok (.getfield 26, 3) := by decide +kernel
theorem dX0_admit_28 : decode cX0_admit 28 = .ok (.iconst 1, 1) := by decide +kernel
theorem dX0_admit_29 : decode cX0_admit 29 = .ok (.iadd, 1) := by decide +kernel
theorem dX0_admit_30 : decode cX0_admit 30 = .ok (.putfield 26, 3) := by decide +kernel
theorem dX0_admit_33 : decode cX0_admit 33 = .ok (.iload_n 1, 1) := by decide +kernel
theorem dX0_admit_34 : decode cX0_admit 34 = .ok (.ireturn, 1) := by decide +kernel
set_option maxRecDepth 20000 in
theorem ggX0_prize_X0_isRate : GoodIn wsX0_prize wsX0_isRate := goodIn_r _ [5, 6, 7, 4, 8] (by decide +kernel) (by decide +kernel)
set_option maxRecDepth 20000 in
theorem gX0_prize_X0_isRate : GoodIn wsX0_prize (va_wsS RX0 39 yX0_isRate wsX0_isRate) := goodIn_app (goodIn_of _ (by decide +kernel)) ggX0_prize_X0_isRate
theorem dX0_prize_0 : decode cX0_prize 0 = .ok (.iload_n 1, 1) := by decide +kernel
theorem dX0_prize_1 : decode cX0_prize 1 = .ok (.invokestatic 39, 3) := by decide +kernel
theorem dX0_prize_4 : decode cX0_prize 4 = .ok (.ifCond .ne 5, 3) := by decide +kernel
theorem dX0_prize_7 : decode cX0_prize 7 = .ok (.iconst 0, 1) := by decide +kernel
theorem dX0_prize_8 : decode cX0_prize 8 = .ok (.ireturn, 1) := by decide +kernel
theorem dX0_prize_9 : decode cX0_prize 9 = .ok (.aload_n 0, 1) := by decide +kernel
theorem dX0_prize_10 : decode cX0_prize 10 = .ok (.iload_n 1, 1) := by decide +kernel
theorem dX0_prize_11 : decode cX0_prize 11 = .ok (.putfield 30, 3) := by decide +kernel
theorem dX0_prize_14 : decode cX0_prize 14 = .ok (.iconst 1, 1) := by decide +kernel
theorem dX0_prize_15 : decode cX0_prize 15 = .ok (.ireturn, 1) := by decide +kernel
set_option maxRecDepth 20000 in
theorem ggX0_frost_X0_isChill : GoodIn wsX0_frost wsX0_isChill := goodIn_r _ [5, 6, 7, 4, 8] (by decide +kernel) (by decide +kernel)
set_option maxRecDepth 20000 in
theorem gX0_frost_X0_isChill : GoodIn wsX0_frost (va_wsS RX0 43 yX0_isChill wsX0_isChill) := goodIn_app (goodIn_of _ (by decide +kernel)) ggX0_frost_X0_isChill
theorem dX0_frost_0 : decode cX0_frost 0 = .ok (.iload_n 1, 1) := by decide +kernel
theorem dX0_frost_1 : decode cX0_frost 1 = .ok (.invokestatic 43, 3) := by decide +kernel
theorem dX0_frost_4 : decode cX0_frost 4 = .ok (.ifCond .ne 5, 3) := by decide +kernel
theorem dX0_frost_7 : decode cX0_frost 7 = .ok (.iconst 0, 1) := by decide +kernel
theorem dX0_frost_8 : decode cX0_frost 8 = .ok (.ireturn, 1) := by decide +kernel
theorem dX0_frost_9 : decode cX0_frost 9 = .ok (.aload_n 0, 1) := by decide +kernel
theorem dX0_frost_10 : decode cX0_frost 10 = .ok (.iload_n 1, 1) := by decide +kernel
theorem dX0_frost_11 : decode cX0_frost 11 = .ok (.putfield 36, 3) := by decide +kernel
theorem dX0_frost_14 : decode cX0_frost 14 = .ok (.iconst 1, 1) := by decide +kernel
theorem dX0_frost_15 : decode cX0_frost 15 = .ok (.ireturn, 1) := by decide +kernel
set_option maxRecDepth 20000 in
theorem ggX0_trial_X0_isClock : GoodIn wsX0_trial wsX0_isClock := goodIn_r _ [10, 11, 46, 47, 48, 49, 50, 51, 52, 53, 54] (by decide +kernel) (by decide +kernel)
set_option maxRecDepth 20000 in
theorem gX0_trial_X0_isClock : GoodIn wsX0_trial (wsV RX0 46 RX0 yX0_isClock wsX0_isClock) := goodIn_app (goodIn_of _ (by decide +kernel)) ggX0_trial_X0_isClock
set_option maxRecDepth 20000 in
theorem ggX0_trial_X0_isRate : GoodIn wsX0_trial wsX0_isRate := goodIn_r _ [14, 15, 16, 9, 17] (by decide +kernel) (by decide +kernel)
set_option maxRecDepth 20000 in
theorem gX0_trial_X0_isRate : GoodIn wsX0_trial (va_wsS RX0 39 yX0_isRate wsX0_isRate) := goodIn_app (goodIn_of _ (by decide +kernel)) ggX0_trial_X0_isRate
set_option maxRecDepth 20000 in
theorem ggX0_trial_X0_isChill : GoodIn wsX0_trial wsX0_isChill := goodIn_r _ [20, 15, 16, 9, 17] (by decide +kernel) (by decide +kernel)
set_option maxRecDepth 20000 in
theorem gX0_trial_X0_isChill : GoodIn wsX0_trial (va_wsS RX0 43 yX0_isChill wsX0_isChill) := goodIn_app (goodIn_of _ (by decide +kernel)) ggX0_trial_X0_isChill
set_option maxRecDepth 20000 in
theorem ggX0_trial_X0_marksOf : GoodIn wsX0_trial wsX0_marksOf := goodIn_r _ [24, 25, 4, 5, 26, 27, 28, 9, 29, 30, 31, 32, 33, 34, 35, 36, 37, 38, 39, 40, 41, 42, 46, 47, 48, 49, 50, 51, 52, 53, 54] (by decide +kernel) (by decide +kernel)
set_option maxRecDepth 20000 in
theorem gX0_trial_X0_marksOf : GoodIn wsX0_trial (wsV RX0 49 RX0 yX0_marksOf wsX0_marksOf) := goodIn_app (goodIn_of _ (by decide +kernel)) ggX0_trial_X0_marksOf
set_option maxRecDepth 20000 in
theorem ggX0_trial_X0_slot : GoodIn wsX0_trial wsX0_slot := goodIn_r _ [45] (by decide +kernel) (by decide +kernel)
set_option maxRecDepth 20000 in
theorem gX0_trial_X0_slot : GoodIn wsX0_trial (va_wsS RX0 53 yX0_slot wsX0_slot) := goodIn_app (goodIn_of _ (by decide +kernel)) ggX0_trial_X0_slot
theorem dX0_trial_0 : decode cX0_trial 0 = .ok (.aload_n 0, 1) := by decide +kernel
theorem dX0_trial_1 : decode cX0_trial 1 = .ok (.iload_n 1, 1) := by decide +kernel
theorem dX0_trial_2 : decode cX0_trial 2 = .ok (.invokevirtual 46, 3) := by decide +kernel
theorem dX0_trial_5 : decode cX0_trial 5 = .ok (.ifCond .eq 17, 3) := by decide +kernel
theorem dX0_trial_8 : decode cX0_trial 8 = .ok (.iload_n 2, 1) := by decide +kernel
theorem dX0_trial_9 : decode cX0_trial 9 = .ok (.invokestatic 39, 3) := by decide +kernel
theorem dX0_trial_12 : decode cX0_trial 12 = .ok (.ifCond .eq 10, 3) := by decide +kernel
theorem dX0_trial_15 : decode cX0_trial 15 = .ok (.iload_n 3, 1) := by decide +kernel
theorem dX0_trial_16 : decode cX0_trial 16 = .ok (.invokestatic 43, 3) := by decide +kernel
theorem dX0_trial_19 : decode cX0_trial 19 = .ok (.ifCond .ne 5, 3) := by decide +kernel
theorem dX0_trial_22 : decode cX0_trial 22 = .ok (.iconst (-1), 1) := by decide +kernel
theorem dX0_trial_23 : decode cX0_trial 23 = .ok (.ireturn, 1) := by decide +kernel
theorem dX0_trial_24 : decode cX0_trial 24 = .ok (.aload_n 0, 1) := by decide +kernel
theorem dX0_trial_25 : decode cX0_trial 25 = .ok (.getfield 16, 3) := by decide +kernel
theorem dX0_trial_28 : decode cX0_trial 28 = .ok (.iload_n 1, 1) := by decide +kernel
theorem dX0_trial_29 : decode cX0_trial 29 = .ok (.iaload, 1) := by decide +kernel
theorem dX0_trial_30 : decode cX0_trial 30 = .ok (.bipush 6, 2) := by decide +kernel
theorem dX0_trial_32 : decode cX0_trial 32 = .ok (.if_icmp .lt 5, 3) := by decide +kernel
theorem dX0_trial_35 : decode cX0_trial 35 = .ok (.iconst (-1), 1) := by decide +kernel
theorem dX0_trial_36 : decode cX0_trial 36 = .ok (.ireturn, 1) := by decide +kernel
theorem dX0_trial_37 : decode cX0_trial 37 = .ok (.aload_n 0, 1) := by decide +kernel
theorem dX0_trial_38 : decode cX0_trial 38 = .ok (.iload_n 1, 1) := by decide +kernel
theorem dX0_trial_39 : decode cX0_trial 39 = .ok (.iload_n 2, 1) := by decide +kernel
theorem dX0_trial_40 : decode cX0_trial 40 = .ok (.iload_n 3, 1) := by decide +kernel
theorem dX0_trial_41 : decode cX0_trial 41 = .ok (.invokevirtual 49, 3) := by decide +kernel
theorem dX0_trial_44 : decode cX0_trial 44 = .ok (.istore 4, 2) := by decide +kernel
theorem dX0_trial_46 : decode cX0_trial 46 = .ok (.iload_n 1, 1) := by decide +kernel
theorem dX0_trial_47 : decode cX0_trial 47 = .ok (.aload_n 0, 1) := by decide +kernel
theorem dX0_trial_48 : decode cX0_trial 48 = .ok (.getfield 16, 3) := by decide +kernel
theorem dX0_trial_51 : decode cX0_trial 51 = .ok (.iload_n 1, 1) := by decide +kernel
theorem dX0_trial_52 : decode cX0_trial 52 = .ok (.iaload, 1) := by decide +kernel
theorem dX0_trial_53 : decode cX0_trial 53 = .ok (.invokestatic 53, 3) := by decide +kernel
theorem dX0_trial_56 : decode cX0_trial 56 = .ok (.istore 5, 2) := by decide +kernel
theorem dX0_trial_58 : decode cX0_trial 58 = .ok (.aload_n 0, 1) := by decide +kernel
theorem dX0_trial_59 : decode cX0_trial 59 = .ok (.getfield 9, 3) := by decide +kernel
theorem dX0_trial_62 : decode cX0_trial 62 = .ok (.iload 5, 2) := by decide +kernel
theorem dX0_trial_64 : decode cX0_trial 64 = .ok (.iload_n 2, 1) := by decide +kernel
theorem dX0_trial_65 : decode cX0_trial 65 = .ok (.iastore, 1) := by decide +kernel
theorem dX0_trial_66 : decode cX0_trial 66 = .ok (.aload_n 0, 1) := by decide +kernel
theorem dX0_trial_67 : decode cX0_trial 67 = .ok (.getfield 13, 3) := by decide +kernel
theorem dX0_trial_70 : decode cX0_trial 70 = .ok (.iload 5, 2) := by decide +kernel
theorem dX0_trial_72 : decode cX0_trial 72 = .ok (.iload_n 3, 1) := by decide +kernel
theorem dX0_trial_73 : decode cX0_trial 73 = .ok (.iastore, 1) := by decide +kernel
theorem dX0_trial_74 : decode cX0_trial 74 = .ok (.aload_n 0, 1) := by decide +kernel
theorem dX0_trial_75 : decode cX0_trial 75 = .ok (.getfield 16, 3) := by decide +kernel
theorem dX0_trial_78 : decode cX0_trial 78 = .ok (.iload_n 1, 1) := by decide +kernel
theorem dX0_trial_79 : decode cX0_trial 79 = .ok (.dup2, 1) := by decide +kernel
theorem dX0_trial_80 : decode cX0_trial 80 = .ok (.iaload, 1) := by decide +kernel
theorem dX0_trial_81 : decode cX0_trial 81 = .ok (.iconst 1, 1) := by decide +kernel
theorem dX0_trial_82 : decode cX0_trial 82 = .ok (.iadd, 1) := by decide +kernel
theorem dX0_trial_83 : decode cX0_trial 83 = .ok (.iastore, 1) := by decide +kernel
theorem dX0_trial_84 : decode cX0_trial 84 = .ok (.iload 4, 2) := by decide +kernel
theorem dX0_trial_86 : decode cX0_trial 86 = .ok (.iconst 4, 1) := by decide +kernel
theorem dX0_trial_87 : decode cX0_trial 87 = .ok (.iand, 1) := by decide +kernel
theorem dX0_trial_88 : decode cX0_trial 88 = .ok (.ifCond .eq 10, 3) := by decide +kernel
theorem dX0_trial_91 : decode cX0_trial 91 = .ok (.aload_n 0, 1) := by decide +kernel
theorem dX0_trial_92 : decode cX0_trial 92 = .ok (.getfield 19, 3) := by decide +kernel
theorem dX0_trial_95 : decode cX0_trial 95 = .ok (.iload_n 1, 1) := by decide +kernel
theorem dX0_trial_96 : decode cX0_trial 96 = .ok (.iload_n 2, 1) := by decide +kernel
theorem dX0_trial_97 : decode cX0_trial 97 = .ok (.iastore, 1) := by decide +kernel
theorem dX0_trial_98 : decode cX0_trial 98 = .ok (.iload 4, 2) := by decide +kernel
theorem dX0_trial_100 : decode cX0_trial 100 = .ok (.bipush 8, 2) := by decide +kernel
theorem dX0_trial_102 : decode cX0_trial 102 = .ok (.iand, 1) := by decide +kernel
theorem dX0_trial_103 : decode cX0_trial 103 = .ok (.ifCond .eq 8, 3) := by decide +kernel
theorem dX0_trial_106 : decode cX0_trial 106 = .ok (.aload_n 0, 1) := by decide +kernel
theorem dX0_trial_107 : decode cX0_trial 107 = .ok (.iload_n 2, 1) := by decide +kernel
theorem dX0_trial_108 : decode cX0_trial 108 = .ok (.putfield 33, 3) := by decide +kernel
theorem dX0_trial_111 : decode cX0_trial 111 = .ok (.iload 4, 2) := by decide +kernel
theorem dX0_trial_113 : decode cX0_trial 113 = .ok (.ireturn, 1) := by decide +kernel
set_option maxRecDepth 20000 in
theorem ggX0_annul_X0_isClock : GoodIn wsX0_annul wsX0_isClock := goodIn_r _ [7, 8, 26, 27, 28, 29, 30, 31, 32, 33, 34] (by decide +kernel) (by decide +kernel)
set_option maxRecDepth 20000 in
theorem gX0_annul_X0_isClock : GoodIn wsX0_annul (wsV RX0 46 RX0 yX0_isClock wsX0_isClock) := goodIn_app (goodIn_of _ (by decide +kernel)) ggX0_annul_X0_isClock
set_option maxRecDepth 20000 in
theorem ggX0_annul_X0_leastRate : GoodIn wsX0_annul wsX0_leastRate := goodIn_r _ [12, 1, 13, 14, 15, 6, 16, 17, 18, 19, 20, 21, 22, 23, 24, 25, 26, 27, 28, 29, 30, 31, 32, 33, 34] (by decide +kernel) (by decide +kernel)
set_option maxRecDepth 20000 in
theorem gX0_annul_X0_leastRate : GoodIn wsX0_annul (wsV RX0 57 RX0 yX0_leastRate wsX0_leastRate) := goodIn_app (goodIn_of _ (by decide +kernel)) ggX0_annul_X0_leastRate
theorem dX0_annul_0 : decode cX0_annul 0 = .ok (.aload_n 0, 1) := by decide +kernel
theorem dX0_annul_1 : decode cX0_annul 1 = .ok (.iload_n 1, 1) := by decide +kernel
theorem dX0_annul_2 : decode cX0_annul 2 = .ok (.invokevirtual 46, 3) := by decide +kernel
theorem dX0_annul_5 : decode cX0_annul 5 = .ok (.ifCond .eq 12, 3) := by decide +kernel
theorem dX0_annul_8 : decode cX0_annul 8 = .ok (.aload_n 0, 1) := by decide +kernel
theorem dX0_annul_9 : decode cX0_annul 9 = .ok (.getfield 16, 3) := by decide +kernel
theorem dX0_annul_12 : decode cX0_annul 12 = .ok (.iload_n 1, 1) := by decide +kernel
theorem dX0_annul_13 : decode cX0_annul 13 = .ok (.iaload, 1) := by decide +kernel
theorem dX0_annul_14 : decode cX0_annul 14 = .ok (.ifCond .gt 5, 3) := by decide +kernel
theorem dX0_annul_17 : decode cX0_annul 17 = .ok (.iconst (-1), 1) := by decide +kernel
theorem dX0_annul_18 : decode cX0_annul 18 = .ok (.ireturn, 1) := by decide +kernel
theorem dX0_annul_19 : decode cX0_annul 19 = .ok (.aload_n 0, 1) := by decide +kernel
theorem dX0_annul_20 : decode cX0_annul 20 = .ok (.getfield 16, 3) := by decide +kernel
theorem dX0_annul_23 : decode cX0_annul 23 = .ok (.iload_n 1, 1) := by decide +kernel
theorem dX0_annul_24 : decode cX0_annul 24 = .ok (.dup2, 1) := by decide +kernel
theorem dX0_annul_25 : decode cX0_annul 25 = .ok (.iaload, 1) := by decide +kernel
theorem dX0_annul_26 : decode cX0_annul 26 = .ok (.iconst 1, 1) := by decide +kernel
theorem dX0_annul_27 : decode cX0_annul 27 = .ok (.isub, 1) := by decide +kernel
theorem dX0_annul_28 : decode cX0_annul 28 = .ok (.iastore, 1) := by decide +kernel
theorem dX0_annul_29 : decode cX0_annul 29 = .ok (.aload_n 0, 1) := by decide +kernel
theorem dX0_annul_30 : decode cX0_annul 30 = .ok (.getfield 19, 3) := by decide +kernel
theorem dX0_annul_33 : decode cX0_annul 33 = .ok (.iload_n 1, 1) := by decide +kernel
theorem dX0_annul_34 : decode cX0_annul 34 = .ok (.aload_n 0, 1) := by decide +kernel
theorem dX0_annul_35 : decode cX0_annul 35 = .ok (.iload_n 1, 1) := by decide +kernel
theorem dX0_annul_36 : decode cX0_annul 36 = .ok (.invokevirtual 57, 3) := by decide +kernel
theorem dX0_annul_39 : decode cX0_annul 39 = .ok (.iastore, 1) := by decide +kernel
theorem dX0_annul_40 : decode cX0_annul 40 = .ok (.aload_n 0, 1) := by decide +kernel
theorem dX0_annul_41 : decode cX0_annul 41 = .ok (.getfield 16, 3) := by decide +kernel
theorem dX0_annul_44 : decode cX0_annul 44 = .ok (.iload_n 1, 1) := by decide +kernel
theorem dX0_annul_45 : decode cX0_annul 45 = .ok (.iaload, 1) := by decide +kernel
theorem dX0_annul_46 : decode cX0_annul 46 = .ok (.ireturn, 1) := by decide +kernel
set_option maxRecDepth 20000 in
theorem ggX0_place_X0_clocksAhead : GoodIn wsX0_place wsX0_clocksAhead := goodIn_r _ [6, 1, 7, 8, 9, 5, 10, 11, 12, 13, 14, 15, 16, 17, 18, 19, 20, 21, 22, 23, 24, 25, 26, 27, 28, 29] (by decide +kernel) (by decide +kernel)
set_option maxRecDepth 20000 in
theorem gX0_place_X0_clocksAhead : GoodIn wsX0_place (wsV RX0 61 RX0 yX0_clocksAhead wsX0_clocksAhead) := goodIn_app (goodIn_of _ (by decide +kernel)) ggX0_place_X0_clocksAhead
theorem dX0_place_0 : decode cX0_place 0 = .ok (.iconst 0, 1) := by decide +kernel
theorem dX0_place_1 : decode cX0_place 1 = .ok (.istore_n 2, 1) := by decide +kernel
theorem dX0_place_2 : decode cX0_place 2 = .ok (.iload_n 2, 1) := by decide +kernel
theorem dX0_place_3 : decode cX0_place 3 = .ok (.aload_n 0, 1) := by decide +kernel
theorem dX0_place_4 : decode cX0_place 4 = .ok (.getfield 26, 3) := by decide +kernel
theorem dX0_place_7 : decode cX0_place 7 = .ok (.if_icmp .ge 20, 3) := by decide +kernel
theorem dX0_place_10 : decode cX0_place 10 = .ok (.aload_n 0, 1) := by decide +kernel
theorem dX0_place_11 : decode cX0_place 11 = .ok (.iload_n 2, 1) := by decide +kernel
theorem dX0_place_12 : decode cX0_place 12 = .ok (.invokevirtual 61, 3) := by decide +kernel
theorem dX0_place_15 : decode cX0_place 15 = .ok (.iload_n 1, 1) := by decide +kernel
theorem dX0_place_16 : decode cX0_place 16 = .ok (.if_icmp .ne 5, 3) := by decide +kernel
theorem dX0_place_19 : decode cX0_place 19 = .ok (.iload_n 2, 1) := by decide +kernel
theorem dX0_place_20 : decode cX0_place 20 = .ok (.ireturn, 1) := by decide +kernel
theorem dX0_place_21 : decode cX0_place 21 = .ok (.iinc 2 1, 3) := by decide +kernel
theorem dX0_place_24 : decode cX0_place 24 = .ok (.goto (-22), 3) := by decide +kernel
theorem dX0_place_27 : decode cX0_place 27 = .ok (.iconst (-1), 1) := by decide +kernel
theorem dX0_place_28 : decode cX0_place 28 = .ok (.ireturn, 1) := by decide +kernel
set_option maxRecDepth 20000 in
theorem ggX0_tell_X0_isClock : GoodIn wsX0_tell wsX0_isClock := goodIn_r _ [8, 9, 51, 52, 53, 54, 55, 56, 57, 58, 59] (by decide +kernel) (by decide +kernel)
set_option maxRecDepth 20000 in
theorem gX0_tell_X0_isClock : GoodIn wsX0_tell (wsV RX0 46 RX0 yX0_isClock wsX0_isClock) := goodIn_app (goodIn_of _ (by decide +kernel)) ggX0_tell_X0_isClock
set_option maxRecDepth 20000 in
theorem ggX0_tell_X0_rank : GoodIn wsX0_tell wsX0_rank := goodIn_r _ [13, 9, 2, 14, 15, 7, 16, 17, 18, 19, 20, 21, 22, 51, 52, 53, 54, 55, 56, 57, 58, 59] (by decide +kernel) (by decide +kernel)
set_option maxRecDepth 20000 in
theorem gX0_tell_X0_rank : GoodIn wsX0_tell (wsV RX0 64 RX0 yX0_rank wsX0_rank) := goodIn_app (goodIn_of _ (by decide +kernel)) ggX0_tell_X0_rank
set_option maxRecDepth 20000 in
theorem ggX0_tell_X0_oneIf : GoodIn wsX0_tell wsX0_oneIf := goodIn_r _ [25] (by decide +kernel) (by decide +kernel)
set_option maxRecDepth 20000 in
theorem gX0_tell_X0_oneIf : GoodIn wsX0_tell (va_wsS RX0 67 yX0_oneIf wsX0_oneIf) := goodIn_app (goodIn_of _ (by decide +kernel)) ggX0_tell_X0_oneIf
set_option maxRecDepth 20000 in
theorem ggX0_tell_X0_coldTrials : GoodIn wsX0_tell wsX0_coldTrials := goodIn_r _ [29, 1, 30, 31, 32, 7, 33, 34, 35, 36, 37, 38, 39, 40, 41, 20, 21, 22, 51, 52, 53, 54, 55, 56, 57, 58, 59] (by decide +kernel) (by decide +kernel)
set_option maxRecDepth 20000 in
theorem gX0_tell_X0_coldTrials : GoodIn wsX0_tell (wsV RX0 71 RX0 yX0_coldTrials wsX0_coldTrials) := goodIn_app (goodIn_of _ (by decide +kernel)) ggX0_tell_X0_coldTrials
set_option maxRecDepth 20000 in
theorem ggX0_tell_X0_trialsAheadOfBest : GoodIn wsX0_tell wsX0_trialsAheadOfBest := goodIn_r _ [45, 1, 46, 2, 31, 32, 7, 33, 17, 18, 19, 20, 21, 22, 51, 52, 53, 54, 55, 56, 57, 58, 59] (by decide +kernel) (by decide +kernel)
set_option maxRecDepth 20000 in
theorem gX0_tell_X0_trialsAheadOfBest : GoodIn wsX0_tell (wsV RX0 74 RX0 yX0_trialsAheadOfBest wsX0_trialsAheadOfBest) := goodIn_app (goodIn_of _ (by decide +kernel)) ggX0_tell_X0_trialsAheadOfBest
set_option maxRecDepth 20000 in
theorem ggX0_tell_X0_latestChill : GoodIn wsX0_tell wsX0_latestChill := goodIn_r _ [50, 1, 30, 31, 32, 7, 33, 51, 52, 53, 54, 55, 56, 57, 58, 59] (by decide +kernel) (by decide +kernel)
set_option maxRecDepth 20000 in
theorem gX0_tell_X0_latestChill : GoodIn wsX0_tell (wsV RX0 77 RX0 yX0_latestChill wsX0_latestChill) := goodIn_app (goodIn_of _ (by decide +kernel)) ggX0_tell_X0_latestChill
theorem dX0_tell_0 : decode cX0_tell 0 = .ok (.aload_n 0, 1) := by decide +kernel
theorem dX0_tell_1 : decode cX0_tell 1 = .ok (.iload_n 1, 1) := by decide +kernel
theorem dX0_tell_2 : decode cX0_tell 2 = .ok (.invokevirtual 46, 3) := by decide +kernel
theorem dX0_tell_5 : decode cX0_tell 5 = .ok (.ifCond .ne 5, 3) := by decide +kernel
theorem dX0_tell_8 : decode cX0_tell 8 = .ok (.iconst (-1), 1) := by decide +kernel
theorem dX0_tell_9 : decode cX0_tell 9 = .ok (.ireturn, 1) := by decide +kernel
theorem dX0_tell_10 : decode cX0_tell 10 = .ok (.iload_n 2, 1) := by decide +kernel
theorem dX0_tell_11 : decode cX0_tell 11 = .ok (.tableswitch 89 0 6 #[41, 48, 55, 61, 71, 77, 83], 41) := by decide +kernel
theorem dX0_tell_52 : decode cX0_tell 52 = .ok (.aload_n 0, 1) := by decide +kernel
theorem dX0_tell_53 : decode cX0_tell 53 = .ok (.getfield 16, 3) := by decide +kernel
theorem dX0_tell_56 : decode cX0_tell 56 = .ok (.iload_n 1, 1) := by decide +kernel
theorem dX0_tell_57 : decode cX0_tell 57 = .ok (.iaload, 1) := by decide +kernel
theorem dX0_tell_58 : decode cX0_tell 58 = .ok (.ireturn, 1) := by decide +kernel
theorem dX0_tell_59 : decode cX0_tell 59 = .ok (.aload_n 0, 1) := by decide +kernel
theorem dX0_tell_60 : decode cX0_tell 60 = .ok (.getfield 19, 3) := by decide +kernel
theorem dX0_tell_63 : decode cX0_tell 63 = .ok (.iload_n 1, 1) := by decide +kernel
theorem dX0_tell_64 : decode cX0_tell 64 = .ok (.iaload, 1) := by decide +kernel
theorem dX0_tell_65 : decode cX0_tell 65 = .ok (.ireturn, 1) := by decide +kernel
theorem dX0_tell_66 : decode cX0_tell 66 = .ok (.aload_n 0, 1) := by decide +kernel
theorem dX0_tell_67 : decode cX0_tell 67 = .ok (.iload_n 1, 1) := by decide +kernel
theorem dX0_tell_68 : decode cX0_tell 68 = .ok (.invokevirtual 64, 3) := by decide +kernel
theorem dX0_tell_71 : decode cX0_tell 71 = .ok (.ireturn, 1) := by decide +kernel
theorem dX0_tell_72 : decode cX0_tell 72 = .ok (.aload_n 0, 1) := by decide +kernel
theorem dX0_tell_73 : decode cX0_tell 73 = .ok (.getfield 22, 3) := by decide +kernel
theorem dX0_tell_76 : decode cX0_tell 76 = .ok (.iload_n 1, 1) := by decide +kernel
theorem dX0_tell_77 : decode cX0_tell 77 = .ok (.baload, 1) := by decide +kernel
theorem dX0_tell_78 : decode cX0_tell 78 = .ok (.invokestatic 67, 3) := by decide +kernel
theorem dX0_tell_81 : decode cX0_tell 81 = .ok (.ireturn, 1) := by decide +kernel
theorem dX0_tell_82 : decode cX0_tell 82 = .ok (.aload_n 0, 1) := by decide +kernel
theorem dX0_tell_83 : decode cX0_tell 83 = .ok (.iload_n 1, 1) := by decide +kernel
theorem dX0_tell_84 : decode cX0_tell 84 = .ok (.invokevirtual 71, 3) := by decide +kernel
theorem dX0_tell_87 : decode cX0_tell 87 = .ok (.ireturn, 1) := by decide +kernel
theorem dX0_tell_88 : decode cX0_tell 88 = .ok (.aload_n 0, 1) := by decide +kernel
theorem dX0_tell_89 : decode cX0_tell 89 = .ok (.iload_n 1, 1) := by decide +kernel
theorem dX0_tell_90 : decode cX0_tell 90 = .ok (.invokevirtual 74, 3) := by decide +kernel
theorem dX0_tell_93 : decode cX0_tell 93 = .ok (.ireturn, 1) := by decide +kernel
theorem dX0_tell_94 : decode cX0_tell 94 = .ok (.aload_n 0, 1) := by decide +kernel
theorem dX0_tell_95 : decode cX0_tell 95 = .ok (.iload_n 1, 1) := by decide +kernel
theorem dX0_tell_96 : decode cX0_tell 96 = .ok (.invokevirtual 77, 3) := by decide +kernel
theorem dX0_tell_99 : decode cX0_tell 99 = .ok (.ireturn, 1) := by decide +kernel
theorem dX0_tell_100 : decode cX0_tell 100 = .ok (.iconst (-1), 1) := by decide +kernel
theorem dX0_tell_101 : decode cX0_tell 101 = .ok (.ireturn, 1) := by decide +kernel
set_option maxRecDepth 20000 in
theorem ggX0_ask_X0_isWithin : GoodIn wsX0_ask wsX0_isWithin := goodIn_r _ [5] (by decide +kernel) (by decide +kernel)
set_option maxRecDepth 20000 in
theorem gX0_ask_X0_isWithin : GoodIn wsX0_ask (va_wsS RX0 80 yX0_isWithin wsX0_isWithin) := goodIn_app (goodIn_of _ (by decide +kernel)) ggX0_ask_X0_isWithin
set_option maxRecDepth 20000 in
theorem ggX0_ask_X0_isClock : GoodIn wsX0_ask wsX0_isClock := goodIn_r _ [9, 10, 48, 49, 50, 51, 52, 53, 54, 55, 56] (by decide +kernel) (by decide +kernel)
set_option maxRecDepth 20000 in
theorem gX0_ask_X0_isClock : GoodIn wsX0_ask (wsV RX0 46 RX0 yX0_isClock wsX0_isClock) := goodIn_app (goodIn_of _ (by decide +kernel)) ggX0_ask_X0_isClock
set_option maxRecDepth 20000 in
theorem ggX0_ask_X0_holdsOfClocks : GoodIn wsX0_ask wsX0_holdsOfClocks := goodIn_r _ [14, 15, 16, 17, 4, 18, 19, 20, 21, 22, 23, 24, 25, 26, 27, 28, 29, 30, 31, 32, 33, 48, 49, 50, 51, 52, 53, 54, 55, 56] (by decide +kernel) (by decide +kernel)
set_option maxRecDepth 20000 in
theorem gX0_ask_X0_holdsOfClocks : GoodIn wsX0_ask (wsV RX0 84 RX0 yX0_holdsOfClocks wsX0_holdsOfClocks) := goodIn_app (goodIn_of _ (by decide +kernel)) ggX0_ask_X0_holdsOfClocks
set_option maxRecDepth 20000 in
theorem ggX0_ask_X0_oneIf : GoodIn wsX0_ask wsX0_oneIf := goodIn_r _ [36] (by decide +kernel) (by decide +kernel)
set_option maxRecDepth 20000 in
theorem gX0_ask_X0_oneIf : GoodIn wsX0_ask (va_wsS RX0 67 yX0_oneIf wsX0_oneIf) := goodIn_app (goodIn_of _ (by decide +kernel)) ggX0_ask_X0_oneIf
set_option maxRecDepth 20000 in
theorem ggX0_ask_X0_clocksInARow : GoodIn wsX0_ask wsX0_clocksInARow := goodIn_r _ [40, 10, 11, 12, 13, 4, 14, 15, 16, 17, 18, 19, 20, 21, 22, 23, 24, 25, 26, 27, 28, 29, 30, 31, 32, 33, 48, 49, 50, 51, 52, 53, 54, 55, 56] (by decide +kernel) (by decide +kernel)
set_option maxRecDepth 20000 in
theorem gX0_ask_X0_clocksInARow : GoodIn wsX0_ask (wsV RX0 88 RX0 yX0_clocksInARow wsX0_clocksInARow) := goodIn_app (goodIn_of _ (by decide +kernel)) ggX0_ask_X0_clocksInARow
set_option maxRecDepth 20000 in
theorem ggX0_ask_X0_sealsOn : GoodIn wsX0_ask wsX0_sealsOn := goodIn_r _ [44, 10, 1, 34, 35, 4, 36, 48, 49, 50, 51, 52, 53, 54, 55, 56] (by decide +kernel) (by decide +kernel)
set_option maxRecDepth 20000 in
theorem gX0_ask_X0_sealsOn : GoodIn wsX0_ask (wsV RX0 92 RX0 yX0_sealsOn wsX0_sealsOn) := goodIn_app (goodIn_of _ (by decide +kernel)) ggX0_ask_X0_sealsOn
set_option maxRecDepth 20000 in
theorem ggX0_ask_X0_bothWays : GoodIn wsX0_ask wsX0_bothWays := goodIn_r _ [47] (by decide +kernel) (by decide +kernel)
set_option maxRecDepth 20000 in
theorem gX0_ask_X0_bothWays : GoodIn wsX0_ask (va_wsS RX0 96 yX0_bothWays wsX0_bothWays) := goodIn_app (goodIn_of _ (by decide +kernel)) ggX0_ask_X0_bothWays
theorem dX0_ask_0 : decode cX0_ask 0 = .ok (.iload_n 1, 1) := by decide +kernel
theorem dX0_ask_1 : decode cX0_ask 1 = .ok (.iconst 0, 1) := by decide +kernel
theorem dX0_ask_2 : decode cX0_ask 2 = .ok (.iconst 1, 1) := by decide +kernel
theorem dX0_ask_3 : decode cX0_ask 3 = .ok (.invokestatic 80, 3) := by decide +kernel
theorem dX0_ask_6 : decode cX0_ask 6 = .ok (.ifCond .eq 12, 3) := by decide +kernel
theorem dX0_ask_9 : decode cX0_ask 9 = .ok (.iload_n 2, 1) := by decide +kernel
theorem dX0_ask_10 : decode cX0_ask 10 = .ok (.iconst 0, 1) := by decide +kernel
theorem dX0_ask_11 : decode cX0_ask 11 = .ok (.iconst 5, 1) := by decide +kernel
theorem dX0_ask_12 : decode cX0_ask 12 = .ok (.invokestatic 80, 3) := by decide +kernel
theorem dX0_ask_15 : decode cX0_ask 15 = .ok (.ifCond .ne 5, 3) := by decide +kernel
theorem dX0_ask_18 : decode cX0_ask 18 = .ok (.iconst (-1), 1) := by decide +kernel
theorem dX0_ask_19 : decode cX0_ask 19 = .ok (.ireturn, 1) := by decide +kernel
theorem dX0_ask_20 : decode cX0_ask 20 = .ok (.iload_n 3, 1) := by decide +kernel
theorem dX0_ask_21 : decode cX0_ask 21 = .ok (.iconst 0, 1) := by decide +kernel
theorem dX0_ask_22 : decode cX0_ask 22 = .ok (.iconst 5, 1) := by decide +kernel
theorem dX0_ask_23 : decode cX0_ask 23 = .ok (.invokestatic 80, 3) := by decide +kernel
theorem dX0_ask_26 : decode cX0_ask 26 = .ok (.ifCond .eq 21, 3) := by decide +kernel
theorem dX0_ask_29 : decode cX0_ask 29 = .ok (.aload_n 0, 1) := by decide +kernel
theorem dX0_ask_30 : decode cX0_ask 30 = .ok (.iload 4, 2) := by decide +kernel
theorem dX0_ask_32 : decode cX0_ask 32 = .ok (.invokevirtual 46, 3) := by decide +kernel
theorem dX0_ask_35 : decode cX0_ask 35 = .ok (.ifCond .eq 12, 3) := by decide +kernel
theorem dX0_ask_38 : decode cX0_ask 38 = .ok (.aload_n 0, 1) := by decide +kernel
theorem dX0_ask_39 : decode cX0_ask 39 = .ok (.iload 5, 2) := by decide +kernel
theorem dX0_ask_41 : decode cX0_ask 41 = .ok (.invokevirtual 46, 3) := by decide +kernel
theorem dX0_ask_44 : decode cX0_ask 44 = .ok (.ifCond .ne 5, 3) := by decide +kernel
theorem dX0_ask_47 : decode cX0_ask 47 = .ok (.iconst (-1), 1) := by decide +kernel
theorem dX0_ask_48 : decode cX0_ask 48 = .ok (.ireturn, 1) := by decide +kernel
theorem dX0_ask_49 : decode cX0_ask 49 = .ok (.aload_n 0, 1) := by decide +kernel
theorem dX0_ask_50 : decode cX0_ask 50 = .ok (.iload_n 1, 1) := by decide +kernel
theorem dX0_ask_51 : decode cX0_ask 51 = .ok (.iload_n 2, 1) := by decide +kernel
theorem dX0_ask_52 : decode cX0_ask 52 = .ok (.iload 4, 2) := by decide +kernel
theorem dX0_ask_54 : decode cX0_ask 54 = .ok (.iload 5, 2) := by decide +kernel
theorem dX0_ask_56 : decode cX0_ask 56 = .ok (.invokevirtual 84, 3) := by decide +kernel
theorem dX0_ask_59 : decode cX0_ask 59 = .ok (.istore 6, 2) := by decide +kernel
theorem dX0_ask_61 : decode cX0_ask 61 = .ok (.iload_n 3, 1) := by decide +kernel
theorem dX0_ask_62 : decode cX0_ask 62 = .ok (.tableswitch 92 0 4 #[34, 40, 54, 65, 78], 34) := by decide +kernel
theorem dX0_ask_96 : decode cX0_ask 96 = .ok (.iload 6, 2) := by decide +kernel
theorem dX0_ask_98 : decode cX0_ask 98 = .ok (.invokestatic 67, 3) := by decide +kernel
theorem dX0_ask_101 : decode cX0_ask 101 = .ok (.ireturn, 1) := by decide +kernel
theorem dX0_ask_102 : decode cX0_ask 102 = .ok (.iload 6, 2) := by decide +kernel
theorem dX0_ask_104 : decode cX0_ask 104 = .ok (.ifCond .ne 7, 3) := by decide +kernel
theorem dX0_ask_107 : decode cX0_ask 107 = .ok (.iconst 1, 1) := by decide +kernel
theorem dX0_ask_108 : decode cX0_ask 108 = .ok (.goto 4, 3) := by decide +kernel
theorem dX0_ask_111 : decode cX0_ask 111 = .ok (.iconst 0, 1) := by decide +kernel
theorem dX0_ask_112 : decode cX0_ask 112 = .ok (.invokestatic 67, 3) := by decide +kernel
theorem dX0_ask_115 : decode cX0_ask 115 = .ok (.ireturn, 1) := by decide +kernel
theorem dX0_ask_116 : decode cX0_ask 116 = .ok (.aload_n 0, 1) := by decide +kernel
theorem dX0_ask_117 : decode cX0_ask 117 = .ok (.iload_n 1, 1) := by decide +kernel
theorem dX0_ask_118 : decode cX0_ask 118 = .ok (.iload_n 2, 1) := by decide +kernel
theorem dX0_ask_119 : decode cX0_ask 119 = .ok (.iload 4, 2) := by decide +kernel
theorem dX0_ask_121 : decode cX0_ask 121 = .ok (.iload 5, 2) := by decide +kernel
theorem dX0_ask_123 : decode cX0_ask 123 = .ok (.invokevirtual 88, 3) := by decide +kernel
theorem dX0_ask_126 : decode cX0_ask 126 = .ok (.ireturn, 1) := by decide +kernel
theorem dX0_ask_127 : decode cX0_ask 127 = .ok (.iload 6, 2) := by decide +kernel
theorem dX0_ask_129 : decode cX0_ask 129 = .ok (.ifCond .eq 8, 3) := by decide +kernel
theorem dX0_ask_132 : decode cX0_ask 132 = .ok (.iload 4, 2) := by decide +kernel
theorem dX0_ask_134 : decode cX0_ask 134 = .ok (.goto 5, 3) := by decide +kernel
theorem dX0_ask_137 : decode cX0_ask 137 = .ok (.iload 5, 2) := by decide +kernel
theorem dX0_ask_139 : decode cX0_ask 139 = .ok (.ireturn, 1) := by decide +kernel
theorem dX0_ask_140 : decode cX0_ask 140 = .ok (.aload_n 0, 1) := by decide +kernel
theorem dX0_ask_141 : decode cX0_ask 141 = .ok (.getfield 22, 3) := by decide +kernel
theorem dX0_ask_144 : decode cX0_ask 144 = .ok (.iload 4, 2) := by decide +kernel
theorem dX0_ask_146 : decode cX0_ask 146 = .ok (.iload 6, 2) := by decide +kernel
theorem dX0_ask_148 : decode cX0_ask 148 = .ok (.bastore, 1) := by decide +kernel
theorem dX0_ask_149 : decode cX0_ask 149 = .ok (.aload_n 0, 1) := by decide +kernel
theorem dX0_ask_150 : decode cX0_ask 150 = .ok (.invokevirtual 92, 3) := by decide +kernel
theorem dX0_ask_153 : decode cX0_ask 153 = .ok (.ireturn, 1) := by decide +kernel
theorem dX0_ask_154 : decode cX0_ask 154 = .ok (.iload 6, 2) := by decide +kernel
theorem dX0_ask_156 : decode cX0_ask 156 = .ok (.aload_n 0, 1) := by decide +kernel
theorem dX0_ask_157 : decode cX0_ask 157 = .ok (.iload_n 1, 1) := by decide +kernel
theorem dX0_ask_158 : decode cX0_ask 158 = .ok (.iload_n 2, 1) := by decide +kernel
theorem dX0_ask_159 : decode cX0_ask 159 = .ok (.iload 5, 2) := by decide +kernel
theorem dX0_ask_161 : decode cX0_ask 161 = .ok (.iload 4, 2) := by decide +kernel
theorem dX0_ask_163 : decode cX0_ask 163 = .ok (.invokevirtual 84, 3) := by decide +kernel
theorem dX0_ask_166 : decode cX0_ask 166 = .ok (.invokestatic 96, 3) := by decide +kernel
theorem dX0_ask_169 : decode cX0_ask 169 = .ok (.ireturn, 1) := by decide +kernel
set_option maxRecDepth 20000 in
theorem ggX0_count_X0_trialsOfAll : GoodIn wsX0_count wsX0_trialsOfAll := goodIn_r _ [9, 1, 10, 33, 34, 35, 36, 37, 38, 39, 40, 41] (by decide +kernel) (by decide +kernel)
set_option maxRecDepth 20000 in
theorem gX0_count_X0_trialsOfAll : GoodIn wsX0_count (wsV RX0 100 RX0 yX0_trialsOfAll wsX0_trialsOfAll) := goodIn_app (goodIn_of _ (by decide +kernel)) ggX0_count_X0_trialsOfAll
set_option maxRecDepth 20000 in
theorem ggX0_count_X0_sealsOn : GoodIn wsX0_count wsX0_sealsOn := goodIn_r _ [14, 1, 15, 16, 17, 8, 18, 33, 34, 35, 36, 37, 38, 39, 40, 41] (by decide +kernel) (by decide +kernel)
set_option maxRecDepth 20000 in
theorem gX0_count_X0_sealsOn : GoodIn wsX0_count (wsV RX0 92 RX0 yX0_sealsOn wsX0_sealsOn) := goodIn_app (goodIn_of _ (by decide +kernel)) ggX0_count_X0_sealsOn
set_option maxRecDepth 20000 in
theorem ggX0_count_X0_firstOfTheBest : GoodIn wsX0_count wsX0_firstOfTheBest := goodIn_r _ [22, 1, 23, 24, 25, 8, 26, 27, 28, 29, 30, 31, 32, 33, 34, 35, 36, 37, 38, 39, 40, 41] (by decide +kernel) (by decide +kernel)
set_option maxRecDepth 20000 in
theorem gX0_count_X0_firstOfTheBest : GoodIn wsX0_count (wsV RX0 103 RX0 yX0_firstOfTheBest wsX0_firstOfTheBest) := goodIn_app (goodIn_of _ (by decide +kernel)) ggX0_count_X0_firstOfTheBest
theorem dX0_count_0 : decode cX0_count 0 = .ok (.iload_n 1, 1) := by decide +kernel
theorem dX0_count_1 : decode cX0_count 1 = .ok (.tableswitch 78 0 6 #[43, 48, 53, 58, 63, 68, 73], 43) := by decide +kernel
theorem dX0_count_44 : decode cX0_count 44 = .ok (.aload_n 0, 1) := by decide +kernel
theorem dX0_count_45 : decode cX0_count 45 = .ok (.getfield 26, 3) := by decide +kernel
theorem dX0_count_48 : decode cX0_count 48 = .ok (.ireturn, 1) := by decide +kernel
theorem dX0_count_49 : decode cX0_count 49 = .ok (.aload_n 0, 1) := by decide +kernel
theorem dX0_count_50 : decode cX0_count 50 = .ok (.getfield 33, 3) := by decide +kernel
theorem dX0_count_53 : decode cX0_count 53 = .ok (.ireturn, 1) := by decide +kernel
theorem dX0_count_54 : decode cX0_count 54 = .ok (.aload_n 0, 1) := by decide +kernel
theorem dX0_count_55 : decode cX0_count 55 = .ok (.getfield 30, 3) := by decide +kernel
theorem dX0_count_58 : decode cX0_count 58 = .ok (.ireturn, 1) := by decide +kernel
theorem dX0_count_59 : decode cX0_count 59 = .ok (.aload_n 0, 1) := by decide +kernel
theorem dX0_count_60 : decode cX0_count 60 = .ok (.getfield 36, 3) := by decide +kernel
theorem dX0_count_63 : decode cX0_count 63 = .ok (.ireturn, 1) := by decide +kernel
theorem dX0_count_64 : decode cX0_count 64 = .ok (.aload_n 0, 1) := by decide +kernel
theorem dX0_count_65 : decode cX0_count 65 = .ok (.invokevirtual 100, 3) := by decide +kernel
theorem dX0_count_68 : decode cX0_count 68 = .ok (.ireturn, 1) := by decide +kernel
theorem dX0_count_69 : decode cX0_count 69 = .ok (.aload_n 0, 1) := by decide +kernel
theorem dX0_count_70 : decode cX0_count 70 = .ok (.invokevirtual 92, 3) := by decide +kernel
theorem dX0_count_73 : decode cX0_count 73 = .ok (.ireturn, 1) := by decide +kernel
theorem dX0_count_74 : decode cX0_count 74 = .ok (.aload_n 0, 1) := by decide +kernel
theorem dX0_count_75 : decode cX0_count 75 = .ok (.invokevirtual 103, 3) := by decide +kernel
theorem dX0_count_78 : decode cX0_count 78 = .ok (.ireturn, 1) := by decide +kernel
theorem dX0_count_79 : decode cX0_count 79 = .ok (.iconst (-1), 1) := by decide +kernel
theorem dX0_count_80 : decode cX0_count 80 = .ok (.ireturn, 1) := by decide +kernel
theorem dX0_isClock_0 : decode cX0_isClock 0 = .ok (.iload_n 1, 1) := by decide +kernel
theorem dX0_isClock_1 : decode cX0_isClock 1 = .ok (.ifCond .lt 15, 3) := by decide +kernel
theorem dX0_isClock_4 : decode cX0_isClock 4 = .ok (.iload_n 1, 1) := by decide +kernel
theorem dX0_isClock_5 : decode cX0_isClock 5 = .ok (.aload_n 0, 1) := by decide +kernel
theorem dX0_isClock_6 : decode cX0_isClock 6 = .ok (.getfield 26, 3) := by decide +kernel
theorem dX0_isClock_9 : decode cX0_isClock 9 = .ok (.if_icmp .ge 7, 3) := by decide +kernel
theorem dX0_isClock_12 : decode cX0_isClock 12 = .ok (.iconst 1, 1) := by decide +kernel
theorem dX0_isClock_13 : decode cX0_isClock 13 = .ok (.goto 4, 3) := by decide +kernel
theorem dX0_isClock_16 : decode cX0_isClock 16 = .ok (.iconst 0, 1) := by decide +kernel
theorem dX0_isClock_17 : decode cX0_isClock 17 = .ok (.ireturn, 1) := by decide +kernel
set_option maxRecDepth 20000 in
theorem ggX0_isRate_X0_isWithin : GoodIn wsX0_isRate wsX0_isWithin := goodIn_r _ [4] (by decide +kernel) (by decide +kernel)
set_option maxRecDepth 20000 in
theorem gX0_isRate_X0_isWithin : GoodIn wsX0_isRate (va_wsS RX0 80 yX0_isWithin wsX0_isWithin) := goodIn_app (goodIn_of _ (by decide +kernel)) ggX0_isRate_X0_isWithin
theorem dX0_isRate_0 : decode cX0_isRate 0 = .ok (.iload_n 0, 1) := by decide +kernel
theorem dX0_isRate_1 : decode cX0_isRate 1 = .ok (.iconst (-1), 1) := by decide +kernel
theorem dX0_isRate_2 : decode cX0_isRate 2 = .ok (.if_icmp .eq 14, 3) := by decide +kernel
theorem dX0_isRate_5 : decode cX0_isRate 5 = .ok (.iload_n 0, 1) := by decide +kernel
theorem dX0_isRate_6 : decode cX0_isRate 6 = .ok (.iconst 0, 1) := by decide +kernel
theorem dX0_isRate_7 : decode cX0_isRate 7 = .ok (.sipush 999, 3) := by decide +kernel
theorem dX0_isRate_10 : decode cX0_isRate 10 = .ok (.invokestatic 80, 3) := by decide +kernel
theorem dX0_isRate_13 : decode cX0_isRate 13 = .ok (.ifCond .eq 7, 3) := by decide +kernel
theorem dX0_isRate_16 : decode cX0_isRate 16 = .ok (.iconst 1, 1) := by decide +kernel
theorem dX0_isRate_17 : decode cX0_isRate 17 = .ok (.goto 4, 3) := by decide +kernel
theorem dX0_isRate_20 : decode cX0_isRate 20 = .ok (.iconst 0, 1) := by decide +kernel
theorem dX0_isRate_21 : decode cX0_isRate 21 = .ok (.ireturn, 1) := by decide +kernel
set_option maxRecDepth 20000 in
theorem ggX0_isChill_X0_isWithin : GoodIn wsX0_isChill wsX0_isWithin := goodIn_r _ [4] (by decide +kernel) (by decide +kernel)
set_option maxRecDepth 20000 in
theorem gX0_isChill_X0_isWithin : GoodIn wsX0_isChill (va_wsS RX0 80 yX0_isWithin wsX0_isWithin) := goodIn_app (goodIn_of _ (by decide +kernel)) ggX0_isChill_X0_isWithin
theorem dX0_isChill_0 : decode cX0_isChill 0 = .ok (.iload_n 0, 1) := by decide +kernel
theorem dX0_isChill_1 : decode cX0_isChill 1 = .ok (.bipush 100, 2) := by decide +kernel
theorem dX0_isChill_3 : decode cX0_isChill 3 = .ok (.if_icmp .eq 14, 3) := by decide +kernel
theorem dX0_isChill_6 : decode cX0_isChill 6 = .ok (.iload_n 0, 1) := by decide +kernel
theorem dX0_isChill_7 : decode cX0_isChill 7 = .ok (.bipush (-99), 2) := by decide +kernel
theorem dX0_isChill_9 : decode cX0_isChill 9 = .ok (.bipush 99, 2) := by decide +kernel
theorem dX0_isChill_11 : decode cX0_isChill 11 = .ok (.invokestatic 80, 3) := by decide +kernel
theorem dX0_isChill_14 : decode cX0_isChill 14 = .ok (.ifCond .eq 7, 3) := by decide +kernel
theorem dX0_isChill_17 : decode cX0_isChill 17 = .ok (.iconst 1, 1) := by decide +kernel
theorem dX0_isChill_18 : decode cX0_isChill 18 = .ok (.goto 4, 3) := by decide +kernel
theorem dX0_isChill_21 : decode cX0_isChill 21 = .ok (.iconst 0, 1) := by decide +kernel
theorem dX0_isChill_22 : decode cX0_isChill 22 = .ok (.ireturn, 1) := by decide +kernel
theorem dX0_isWithin_0 : decode cX0_isWithin 0 = .ok (.iload_n 0, 1) := by decide +kernel
theorem dX0_isWithin_1 : decode cX0_isWithin 1 = .ok (.iload_n 1, 1) := by decide +kernel
theorem dX0_isWithin_2 : decode cX0_isWithin 2 = .ok (.if_icmp .lt 12, 3) := by decide +kernel
theorem dX0_isWithin_5 : decode cX0_isWithin 5 = .ok (.iload_n 0, 1) := by decide +kernel
theorem dX0_isWithin_6 : decode cX0_isWithin 6 = .ok (.iload_n 2, 1) := by decide +kernel
theorem dX0_isWithin_7 : decode cX0_isWithin 7 = .ok (.if_icmp .gt 7, 3) := by decide +kernel
theorem dX0_isWithin_10 : decode cX0_isWithin 10 = .ok (.iconst 1, 1) := by decide +kernel
theorem dX0_isWithin_11 : decode cX0_isWithin 11 = .ok (.goto 4, 3) := by decide +kernel
theorem dX0_isWithin_14 : decode cX0_isWithin 14 = .ok (.iconst 0, 1) := by decide +kernel
theorem dX0_isWithin_15 : decode cX0_isWithin 15 = .ok (.ireturn, 1) := by decide +kernel
theorem dX0_oneIf_0 : decode cX0_oneIf 0 = .ok (.iload_n 0, 1) := by decide +kernel
theorem dX0_oneIf_1 : decode cX0_oneIf 1 = .ok (.ifCond .eq 7, 3) := by decide +kernel
theorem dX0_oneIf_4 : decode cX0_oneIf 4 = .ok (.iconst 1, 1) := by decide +kernel
theorem dX0_oneIf_5 : decode cX0_oneIf 5 = .ok (.goto 4, 3) := by decide +kernel
theorem dX0_oneIf_8 : decode cX0_oneIf 8 = .ok (.iconst 0, 1) := by decide +kernel
theorem dX0_oneIf_9 : decode cX0_oneIf 9 = .ok (.ireturn, 1) := by decide +kernel
theorem dX0_slot_0 : decode cX0_slot 0 = .ok (.iload_n 0, 1) := by decide +kernel
theorem dX0_slot_1 : decode cX0_slot 1 = .ok (.bipush 6, 2) := by decide +kernel
theorem dX0_slot_3 : decode cX0_slot 3 = .ok (.imul, 1) := by decide +kernel
theorem dX0_slot_4 : decode cX0_slot 4 = .ok (.iload_n 1, 1) := by decide +kernel
theorem dX0_slot_5 : decode cX0_slot 5 = .ok (.iadd, 1) := by decide +kernel
theorem dX0_slot_6 : decode cX0_slot 6 = .ok (.ireturn, 1) := by decide +kernel
set_option maxRecDepth 20000 in
theorem ggX0_holdsOfRates_X0_holdsOfNumbers : GoodIn wsX0_holdsOfRates wsX0_holdsOfNumbers := goodIn_r _ [4] (by decide +kernel) (by decide +kernel)
set_option maxRecDepth 20000 in
theorem gX0_holdsOfRates_X0_holdsOfNumbers : GoodIn wsX0_holdsOfRates (va_wsS RX0 106 yX0_holdsOfNumbers wsX0_holdsOfNumbers) := goodIn_app (goodIn_of _ (by decide +kernel)) ggX0_holdsOfRates_X0_holdsOfNumbers
theorem dX0_holdsOfRates_0 : decode cX0_holdsOfRates 0 = .ok (.iload_n 1, 1) := by decide +kernel
theorem dX0_holdsOfRates_1 : decode cX0_holdsOfRates 1 = .ok (.iconst (-1), 1) := by decide +kernel
theorem dX0_holdsOfRates_2 : decode cX0_holdsOfRates 2 = .ok (.if_icmp .eq 8, 3) := by decide +kernel
theorem dX0_holdsOfRates_5 : decode cX0_holdsOfRates 5 = .ok (.iload_n 2, 1) := by decide +kernel
theorem dX0_holdsOfRates_6 : decode cX0_holdsOfRates 6 = .ok (.iconst (-1), 1) := by decide +kernel
theorem dX0_holdsOfRates_7 : decode cX0_holdsOfRates 7 = .ok (.if_icmp .ne 14, 3) := by decide +kernel
theorem dX0_holdsOfRates_10 : decode cX0_holdsOfRates 10 = .ok (.iload_n 0, 1) := by decide +kernel
theorem dX0_holdsOfRates_11 : decode cX0_holdsOfRates 11 = .ok (.iconst 5, 1) := by decide +kernel
theorem dX0_holdsOfRates_12 : decode cX0_holdsOfRates 12 = .ok (.if_icmp .ne 7, 3) := by decide +kernel
theorem dX0_holdsOfRates_15 : decode cX0_holdsOfRates 15 = .ok (.iconst 1, 1) := by decide +kernel
theorem dX0_holdsOfRates_16 : decode cX0_holdsOfRates 16 = .ok (.goto 4, 3) := by decide +kernel
theorem dX0_holdsOfRates_19 : decode cX0_holdsOfRates 19 = .ok (.iconst 0, 1) := by decide +kernel
theorem dX0_holdsOfRates_20 : decode cX0_holdsOfRates 20 = .ok (.ireturn, 1) := by decide +kernel
theorem dX0_holdsOfRates_21 : decode cX0_holdsOfRates 21 = .ok (.iload_n 0, 1) := by decide +kernel
theorem dX0_holdsOfRates_22 : decode cX0_holdsOfRates 22 = .ok (.iload_n 1, 1) := by decide +kernel
theorem dX0_holdsOfRates_23 : decode cX0_holdsOfRates 23 = .ok (.iload_n 2, 1) := by decide +kernel
theorem dX0_holdsOfRates_24 : decode cX0_holdsOfRates 24 = .ok (.invokestatic 106, 3) := by decide +kernel
theorem dX0_holdsOfRates_27 : decode cX0_holdsOfRates 27 = .ok (.ireturn, 1) := by decide +kernel
set_option maxRecDepth 20000 in
theorem ggX0_holdsOfChills_X0_holdsOfNumbers : GoodIn wsX0_holdsOfChills wsX0_holdsOfNumbers := goodIn_r _ [4] (by decide +kernel) (by decide +kernel)
set_option maxRecDepth 20000 in
theorem gX0_holdsOfChills_X0_holdsOfNumbers : GoodIn wsX0_holdsOfChills (va_wsS RX0 106 yX0_holdsOfNumbers wsX0_holdsOfNumbers) := goodIn_app (goodIn_of _ (by decide +kernel)) ggX0_holdsOfChills_X0_holdsOfNumbers
theorem dX0_holdsOfChills_0 : decode cX0_holdsOfChills 0 = .ok (.iload_n 1, 1) := by decide +kernel
theorem dX0_holdsOfChills_1 : decode cX0_holdsOfChills 1 = .ok (.bipush 100, 2) := by decide +kernel
theorem dX0_holdsOfChills_3 : decode cX0_holdsOfChills 3 = .ok (.if_icmp .eq 9, 3) := by decide +kernel
theorem dX0_holdsOfChills_6 : decode cX0_holdsOfChills 6 = .ok (.iload_n 2, 1) := by decide +kernel
theorem dX0_holdsOfChills_7 : decode cX0_holdsOfChills 7 = .ok (.bipush 100, 2) := by decide +kernel
theorem dX0_holdsOfChills_9 : decode cX0_holdsOfChills 9 = .ok (.if_icmp .ne 14, 3) := by decide +kernel
theorem dX0_holdsOfChills_12 : decode cX0_holdsOfChills 12 = .ok (.iload_n 0, 1) := by decide +kernel
theorem dX0_holdsOfChills_13 : decode cX0_holdsOfChills 13 = .ok (.iconst 5, 1) := by decide +kernel
theorem dX0_holdsOfChills_14 : decode cX0_holdsOfChills 14 = .ok (.if_icmp .ne 7, 3) := by decide +kernel
theorem dX0_holdsOfChills_17 : decode cX0_holdsOfChills 17 = .ok (.iconst 1, 1) := by decide +kernel
theorem dX0_holdsOfChills_18 : decode cX0_holdsOfChills 18 = .ok (.goto 4, 3) := by decide +kernel
theorem dX0_holdsOfChills_21 : decode cX0_holdsOfChills 21 = .ok (.iconst 0, 1) := by decide +kernel
theorem dX0_holdsOfChills_22 : decode cX0_holdsOfChills 22 = .ok (.ireturn, 1) := by decide +kernel
theorem dX0_holdsOfChills_23 : decode cX0_holdsOfChills 23 = .ok (.iload_n 0, 1) := by decide +kernel
theorem dX0_holdsOfChills_24 : decode cX0_holdsOfChills 24 = .ok (.iload_n 1, 1) := by decide +kernel
theorem dX0_holdsOfChills_25 : decode cX0_holdsOfChills 25 = .ok (.iload_n 2, 1) := by decide +kernel
theorem dX0_holdsOfChills_26 : decode cX0_holdsOfChills 26 = .ok (.invokestatic 106, 3) := by decide +kernel
theorem dX0_holdsOfChills_29 : decode cX0_holdsOfChills 29 = .ok (.ireturn, 1) := by decide +kernel
theorem dX0_holdsOfNumbers_0 : decode cX0_holdsOfNumbers 0 = .ok (.iload_n 0, 1) := by decide +kernel
theorem dX0_holdsOfNumbers_1 : decode cX0_holdsOfNumbers 1 = .ok (.tableswitch 90 0 4 #[35, 46, 57, 68, 79], 35) := by decide +kernel
theorem dX0_holdsOfNumbers_36 : decode cX0_holdsOfNumbers 36 = .ok (.iload_n 1, 1) := by decide +kernel
theorem dX0_holdsOfNumbers_37 : decode cX0_holdsOfNumbers 37 = .ok (.iload_n 2, 1) := by decide +kernel
theorem dX0_holdsOfNumbers_38 : decode cX0_holdsOfNumbers 38 = .ok (.if_icmp .ge 7, 3) := by decide +kernel
theorem dX0_holdsOfNumbers_41 : decode cX0_holdsOfNumbers 41 = .ok (.iconst 1, 1) := by decide +kernel
theorem dX0_holdsOfNumbers_42 : decode cX0_holdsOfNumbers 42 = .ok (.goto 4, 3) := by decide +kernel
theorem dX0_holdsOfNumbers_45 : decode cX0_holdsOfNumbers 45 = .ok (.iconst 0, 1) := by decide +kernel
theorem dX0_holdsOfNumbers_46 : decode cX0_holdsOfNumbers 46 = .ok (.ireturn, 1) := by decide +kernel
theorem dX0_holdsOfNumbers_47 : decode cX0_holdsOfNumbers 47 = .ok (.iload_n 1, 1) := by decide +kernel
theorem dX0_holdsOfNumbers_48 : decode cX0_holdsOfNumbers 48 = .ok (.iload_n 2, 1) := by decide +kernel
theorem dX0_holdsOfNumbers_49 : decode cX0_holdsOfNumbers 49 = .ok (.if_icmp .gt 7, 3) := by decide +kernel
theorem dX0_holdsOfNumbers_52 : decode cX0_holdsOfNumbers 52 = .ok (.iconst 1, 1) := by decide +kernel
theorem dX0_holdsOfNumbers_53 : decode cX0_holdsOfNumbers 53 = .ok (.goto 4, 3) := by decide +kernel
theorem dX0_holdsOfNumbers_56 : decode cX0_holdsOfNumbers 56 = .ok (.iconst 0, 1) := by decide +kernel
theorem dX0_holdsOfNumbers_57 : decode cX0_holdsOfNumbers 57 = .ok (.ireturn, 1) := by decide +kernel
theorem dX0_holdsOfNumbers_58 : decode cX0_holdsOfNumbers 58 = .ok (.iload_n 1, 1) := by decide +kernel
theorem dX0_holdsOfNumbers_59 : decode cX0_holdsOfNumbers 59 = .ok (.iload_n 2, 1) := by decide +kernel
theorem dX0_holdsOfNumbers_60 : decode cX0_holdsOfNumbers 60 = .ok (.if_icmp .le 7, 3) := by decide +kernel
theorem dX0_holdsOfNumbers_63 : decode cX0_holdsOfNumbers 63 = .ok (.iconst 1, 1) := by decide +kernel
theorem dX0_holdsOfNumbers_64 : decode cX0_holdsOfNumbers 64 = .ok (.goto 4, 3) := by decide +kernel
theorem dX0_holdsOfNumbers_67 : decode cX0_holdsOfNumbers 67 = .ok (.iconst 0, 1) := by decide +kernel
theorem dX0_holdsOfNumbers_68 : decode cX0_holdsOfNumbers 68 = .ok (.ireturn, 1) := by decide +kernel
theorem dX0_holdsOfNumbers_69 : decode cX0_holdsOfNumbers 69 = .ok (.iload_n 1, 1) := by decide +kernel
theorem dX0_holdsOfNumbers_70 : decode cX0_holdsOfNumbers 70 = .ok (.iload_n 2, 1) := by decide +kernel
theorem dX0_holdsOfNumbers_71 : decode cX0_holdsOfNumbers 71 = .ok (.if_icmp .lt 7, 3) := by decide +kernel
theorem dX0_holdsOfNumbers_74 : decode cX0_holdsOfNumbers 74 = .ok (.iconst 1, 1) := by decide +kernel
theorem dX0_holdsOfNumbers_75 : decode cX0_holdsOfNumbers 75 = .ok (.goto 4, 3) := by decide +kernel
theorem dX0_holdsOfNumbers_78 : decode cX0_holdsOfNumbers 78 = .ok (.iconst 0, 1) := by decide +kernel
theorem dX0_holdsOfNumbers_79 : decode cX0_holdsOfNumbers 79 = .ok (.ireturn, 1) := by decide +kernel
theorem dX0_holdsOfNumbers_80 : decode cX0_holdsOfNumbers 80 = .ok (.iload_n 1, 1) := by decide +kernel
theorem dX0_holdsOfNumbers_81 : decode cX0_holdsOfNumbers 81 = .ok (.iload_n 2, 1) := by decide +kernel
theorem dX0_holdsOfNumbers_82 : decode cX0_holdsOfNumbers 82 = .ok (.if_icmp .ne 7, 3) := by decide +kernel
theorem dX0_holdsOfNumbers_85 : decode cX0_holdsOfNumbers 85 = .ok (.iconst 1, 1) := by decide +kernel
theorem dX0_holdsOfNumbers_86 : decode cX0_holdsOfNumbers 86 = .ok (.goto 4, 3) := by decide +kernel
theorem dX0_holdsOfNumbers_89 : decode cX0_holdsOfNumbers 89 = .ok (.iconst 0, 1) := by decide +kernel
theorem dX0_holdsOfNumbers_90 : decode cX0_holdsOfNumbers 90 = .ok (.ireturn, 1) := by decide +kernel
theorem dX0_holdsOfNumbers_91 : decode cX0_holdsOfNumbers 91 = .ok (.iload_n 1, 1) := by decide +kernel
theorem dX0_holdsOfNumbers_92 : decode cX0_holdsOfNumbers 92 = .ok (.iload_n 2, 1) := by decide +kernel
theorem dX0_holdsOfNumbers_93 : decode cX0_holdsOfNumbers 93 = .ok (.if_icmp .eq 7, 3) := by decide +kernel
theorem dX0_holdsOfNumbers_96 : decode cX0_holdsOfNumbers 96 = .ok (.iconst 1, 1) := by decide +kernel
theorem dX0_holdsOfNumbers_97 : decode cX0_holdsOfNumbers 97 = .ok (.goto 4, 3) := by decide +kernel
theorem dX0_holdsOfNumbers_100 : decode cX0_holdsOfNumbers 100 = .ok (.iconst 0, 1) := by decide +kernel
theorem dX0_holdsOfNumbers_101 : decode cX0_holdsOfNumbers 101 = .ok (.ireturn, 1) := by decide +kernel
set_option maxRecDepth 20000 in
theorem ggX0_holdsOfClocks_X0_holdsOfRates : GoodIn wsX0_holdsOfClocks wsX0_holdsOfRates := goodIn_r _ [5, 6, 7, 4, 8] (by decide +kernel) (by decide +kernel)
set_option maxRecDepth 20000 in
theorem gX0_holdsOfClocks_X0_holdsOfRates : GoodIn wsX0_holdsOfClocks (va_wsS RX0 109 yX0_holdsOfRates wsX0_holdsOfRates) := goodIn_app (goodIn_of _ (by decide +kernel)) ggX0_holdsOfClocks_X0_holdsOfRates
set_option maxRecDepth 20000 in
theorem ggX0_holdsOfClocks_X0_latestChill : GoodIn wsX0_holdsOfClocks wsX0_latestChill := goodIn_r _ [12, 13, 14, 15, 16, 4, 17, 21, 22, 23, 24, 25, 26, 27, 28, 29] (by decide +kernel) (by decide +kernel)
set_option maxRecDepth 20000 in
theorem gX0_holdsOfClocks_X0_latestChill : GoodIn wsX0_holdsOfClocks (wsV RX0 77 RX0 yX0_latestChill wsX0_latestChill) := goodIn_app (goodIn_of _ (by decide +kernel)) ggX0_holdsOfClocks_X0_latestChill
set_option maxRecDepth 20000 in
theorem ggX0_holdsOfClocks_X0_holdsOfChills : GoodIn wsX0_holdsOfClocks wsX0_holdsOfChills := goodIn_r _ [20, 6, 7, 4, 8] (by decide +kernel) (by decide +kernel)
set_option maxRecDepth 20000 in
theorem gX0_holdsOfClocks_X0_holdsOfChills : GoodIn wsX0_holdsOfClocks (va_wsS RX0 112 yX0_holdsOfChills wsX0_holdsOfChills) := goodIn_app (goodIn_of _ (by decide +kernel)) ggX0_holdsOfClocks_X0_holdsOfChills
theorem dX0_holdsOfClocks_0 : decode cX0_holdsOfClocks 0 = .ok (.iload_n 1, 1) := by decide +kernel
theorem dX0_holdsOfClocks_1 : decode cX0_holdsOfClocks 1 = .ok (.ifCond .ne 21, 3) := by decide +kernel
theorem dX0_holdsOfClocks_4 : decode cX0_holdsOfClocks 4 = .ok (.iload_n 2, 1) := by decide +kernel
theorem dX0_holdsOfClocks_5 : decode cX0_holdsOfClocks 5 = .ok (.aload_n 0, 1) := by decide +kernel
theorem dX0_holdsOfClocks_6 : decode cX0_holdsOfClocks 6 = .ok (.getfield 19, 3) := by decide +kernel
theorem dX0_holdsOfClocks_9 : decode cX0_holdsOfClocks 9 = .ok (.iload_n 3, 1) := by decide +kernel
theorem dX0_holdsOfClocks_10 : decode cX0_holdsOfClocks 10 = .ok (.iaload, 1) := by decide +kernel
theorem dX0_holdsOfClocks_11 : decode cX0_holdsOfClocks 11 = .ok (.aload_n 0, 1) := by decide +kernel
theorem dX0_holdsOfClocks_12 : decode cX0_holdsOfClocks 12 = .ok (.getfield 19, 3) := by decide +kernel
theorem dX0_holdsOfClocks_15 : decode cX0_holdsOfClocks 15 = .ok (.iload 4, 2) := by decide +kernel
theorem dX0_holdsOfClocks_17 : decode cX0_holdsOfClocks 17 = .ok (.iaload, 1) := by decide +kernel
theorem dX0_holdsOfClocks_18 : decode cX0_holdsOfClocks 18 = .ok (.invokestatic 109, 3) := by decide +kernel
theorem dX0_holdsOfClocks_21 : decode cX0_holdsOfClocks 21 = .ok (.ireturn, 1) := by decide +kernel
theorem dX0_holdsOfClocks_22 : decode cX0_holdsOfClocks 22 = .ok (.iload_n 2, 1) := by decide +kernel
theorem dX0_holdsOfClocks_23 : decode cX0_holdsOfClocks 23 = .ok (.aload_n 0, 1) := by decide +kernel
theorem dX0_holdsOfClocks_24 : decode cX0_holdsOfClocks 24 = .ok (.iload_n 3, 1) := by decide +kernel
theorem dX0_holdsOfClocks_25 : decode cX0_holdsOfClocks 25 = .ok (.invokevirtual 77, 3) := by decide +kernel
theorem dX0_holdsOfClocks_28 : decode cX0_holdsOfClocks 28 = .ok (.aload_n 0, 1) := by decide +kernel
theorem dX0_holdsOfClocks_29 : decode cX0_holdsOfClocks 29 = .ok (.iload 4, 2) := by decide +kernel
theorem dX0_holdsOfClocks_31 : decode cX0_holdsOfClocks 31 = .ok (.invokevirtual 77, 3) := by decide +kernel
theorem dX0_holdsOfClocks_34 : decode cX0_holdsOfClocks 34 = .ok (.invokestatic 112, 3) := by decide +kernel
theorem dX0_holdsOfClocks_37 : decode cX0_holdsOfClocks 37 = .ok (.ireturn, 1) := by decide +kernel
set_option maxRecDepth 20000 in
theorem ggX0_isCold_X0_holdsOfChills : GoodIn wsX0_isCold wsX0_holdsOfChills := goodIn_r _ [5, 6, 7, 4, 8] (by decide +kernel) (by decide +kernel)
set_option maxRecDepth 20000 in
theorem gX0_isCold_X0_holdsOfChills : GoodIn wsX0_isCold (va_wsS RX0 112 yX0_holdsOfChills wsX0_holdsOfChills) := goodIn_app (goodIn_of _ (by decide +kernel)) ggX0_isCold_X0_holdsOfChills
theorem dX0_isCold_0 : decode cX0_isCold 0 = .ok (.iconst 1, 1) := by decide +kernel
theorem dX0_isCold_1 : decode cX0_isCold 1 = .ok (.iload_n 1, 1) := by decide +kernel
theorem dX0_isCold_2 : decode cX0_isCold 2 = .ok (.aload_n 0, 1) := by decide +kernel
theorem dX0_isCold_3 : decode cX0_isCold 3 = .ok (.getfield 36, 3) := by decide +kernel
theorem dX0_isCold_6 : decode cX0_isCold 6 = .ok (.invokestatic 112, 3) := by decide +kernel
theorem dX0_isCold_9 : decode cX0_isCold 9 = .ok (.ireturn, 1) := by decide +kernel
set_option maxRecDepth 20000 in
theorem ggX0_betters_X0_holdsOfRates : GoodIn wsX0_betters wsX0_holdsOfRates := goodIn_r _ [4, 5, 6, 3, 7] (by decide +kernel) (by decide +kernel)
set_option maxRecDepth 20000 in
theorem gX0_betters_X0_holdsOfRates : GoodIn wsX0_betters (va_wsS RX0 109 yX0_holdsOfRates wsX0_holdsOfRates) := goodIn_app (goodIn_of _ (by decide +kernel)) ggX0_betters_X0_holdsOfRates
theorem dX0_betters_0 : decode cX0_betters 0 = .ok (.iload_n 0, 1) := by decide +kernel
theorem dX0_betters_1 : decode cX0_betters 1 = .ok (.iconst (-1), 1) := by decide +kernel
theorem dX0_betters_2 : decode cX0_betters 2 = .ok (.if_icmp .eq 16, 3) := by decide +kernel
theorem dX0_betters_5 : decode cX0_betters 5 = .ok (.iconst 1, 1) := by decide +kernel
theorem dX0_betters_6 : decode cX0_betters 6 = .ok (.iload_n 1, 1) := by decide +kernel
theorem dX0_betters_7 : decode cX0_betters 7 = .ok (.iload_n 0, 1) := by decide +kernel
theorem dX0_betters_8 : decode cX0_betters 8 = .ok (.invokestatic 109, 3) := by decide +kernel
theorem dX0_betters_11 : decode cX0_betters 11 = .ok (.ifCond .ne 7, 3) := by decide +kernel
theorem dX0_betters_14 : decode cX0_betters 14 = .ok (.iconst 1, 1) := by decide +kernel
theorem dX0_betters_15 : decode cX0_betters 15 = .ok (.goto 4, 3) := by decide +kernel
theorem dX0_betters_18 : decode cX0_betters 18 = .ok (.iconst 0, 1) := by decide +kernel
theorem dX0_betters_19 : decode cX0_betters 19 = .ok (.ireturn, 1) := by decide +kernel
set_option maxRecDepth 20000 in
theorem ggX0_marksOf_X0_isCold : GoodIn wsX0_marksOf wsX0_isCold := goodIn_r _ [8, 9, 10, 11, 7, 12, 13, 14, 15, 22, 23, 24, 25, 26, 27, 28, 29, 30] (by decide +kernel) (by decide +kernel)
set_option maxRecDepth 20000 in
theorem gX0_marksOf_X0_isCold : GoodIn wsX0_marksOf (wsV RX0 115 RX0 yX0_isCold wsX0_isCold) := goodIn_app (goodIn_of _ (by decide +kernel)) ggX0_marksOf_X0_isCold
set_option maxRecDepth 20000 in
theorem ggX0_marksOf_X0_holdsOfRates : GoodIn wsX0_marksOf wsX0_holdsOfRates := goodIn_r _ [18, 13, 14, 7, 15] (by decide +kernel) (by decide +kernel)
set_option maxRecDepth 20000 in
theorem gX0_marksOf_X0_holdsOfRates : GoodIn wsX0_marksOf (va_wsS RX0 109 yX0_holdsOfRates wsX0_holdsOfRates) := goodIn_app (goodIn_of _ (by decide +kernel)) ggX0_marksOf_X0_holdsOfRates
set_option maxRecDepth 20000 in
theorem ggX0_marksOf_X0_betters : GoodIn wsX0_marksOf wsX0_betters := goodIn_r _ [21, 16, 17, 7, 18, 13, 14, 15] (by decide +kernel) (by decide +kernel)
set_option maxRecDepth 20000 in
theorem gX0_marksOf_X0_betters : GoodIn wsX0_marksOf (va_wsS RX0 118 yX0_betters wsX0_betters) := goodIn_app (goodIn_of _ (by decide +kernel)) ggX0_marksOf_X0_betters
theorem dX0_marksOf_0 : decode cX0_marksOf 0 = .ok (.iconst 0, 1) := by decide +kernel
theorem dX0_marksOf_1 : decode cX0_marksOf 1 = .ok (.istore 4, 2) := by decide +kernel
theorem dX0_marksOf_3 : decode cX0_marksOf 3 = .ok (.aload_n 0, 1) := by decide +kernel
theorem dX0_marksOf_4 : decode cX0_marksOf 4 = .ok (.iload_n 3, 1) := by decide +kernel
theorem dX0_marksOf_5 : decode cX0_marksOf 5 = .ok (.invokevirtual 115, 3) := by decide +kernel
theorem dX0_marksOf_8 : decode cX0_marksOf 8 = .ok (.ifCond .eq 6, 3) := by decide +kernel
theorem dX0_marksOf_11 : decode cX0_marksOf 11 = .ok (.iinc 4 1, 3) := by decide +kernel
theorem dX0_marksOf_14 : decode cX0_marksOf 14 = .ok (.iconst 1, 1) := by decide +kernel
theorem dX0_marksOf_15 : decode cX0_marksOf 15 = .ok (.iload_n 2, 1) := by decide +kernel
theorem dX0_marksOf_16 : decode cX0_marksOf 16 = .ok (.aload_n 0, 1) := by decide +kernel
theorem dX0_marksOf_17 : decode cX0_marksOf 17 = .ok (.getfield 30, 3) := by decide +kernel
theorem dX0_marksOf_20 : decode cX0_marksOf 20 = .ok (.invokestatic 109, 3) := by decide +kernel
theorem dX0_marksOf_23 : decode cX0_marksOf 23 = .ok (.ifCond .eq 6, 3) := by decide +kernel
theorem dX0_marksOf_26 : decode cX0_marksOf 26 = .ok (.iinc 4 2, 3) := by decide +kernel
theorem dX0_marksOf_29 : decode cX0_marksOf 29 = .ok (.iload_n 2, 1) := by decide +kernel
theorem dX0_marksOf_30 : decode cX0_marksOf 30 = .ok (.aload_n 0, 1) := by decide +kernel
theorem dX0_marksOf_31 : decode cX0_marksOf 31 = .ok (.getfield 19, 3) := by decide +kernel
theorem dX0_marksOf_34 : decode cX0_marksOf 34 = .ok (.iload_n 1, 1) := by decide +kernel
theorem dX0_marksOf_35 : decode cX0_marksOf 35 = .ok (.iaload, 1) := by decide +kernel
theorem dX0_marksOf_36 : decode cX0_marksOf 36 = .ok (.invokestatic 118, 3) := by decide +kernel
theorem dX0_marksOf_39 : decode cX0_marksOf 39 = .ok (.ifCond .eq 6, 3) := by decide +kernel
theorem dX0_marksOf_42 : decode cX0_marksOf 42 = .ok (.iinc 4 4, 3) := by decide +kernel
theorem dX0_marksOf_45 : decode cX0_marksOf 45 = .ok (.aload_n 0, 1) := by decide +kernel
theorem dX0_marksOf_46 : decode cX0_marksOf 46 = .ok (.iload_n 3, 1) := by decide +kernel
theorem dX0_marksOf_47 : decode cX0_marksOf 47 = .ok (.invokevirtual 115, 3) := by decide +kernel
theorem dX0_marksOf_50 : decode cX0_marksOf 50 = .ok (.ifCond .eq 17, 3) := by decide +kernel
theorem dX0_marksOf_53 : decode cX0_marksOf 53 = .ok (.iload_n 2, 1) := by decide +kernel
theorem dX0_marksOf_54 : decode cX0_marksOf 54 = .ok (.aload_n 0, 1) := by decide +kernel
theorem dX0_marksOf_55 : decode cX0_marksOf 55 = .ok (.getfield 33, 3) := by decide +kernel
theorem dX0_marksOf_58 : decode cX0_marksOf 58 = .ok (.invokestatic 118, 3) := by decide +kernel
theorem dX0_marksOf_61 : decode cX0_marksOf 61 = .ok (.ifCond .eq 6, 3) := by decide +kernel
theorem dX0_marksOf_64 : decode cX0_marksOf 64 = .ok (.iinc 4 8, 3) := by decide +kernel
theorem dX0_marksOf_67 : decode cX0_marksOf 67 = .ok (.iload 4, 2) := by decide +kernel
theorem dX0_marksOf_69 : decode cX0_marksOf 69 = .ok (.ireturn, 1) := by decide +kernel
set_option maxRecDepth 20000 in
theorem ggX0_leastRate_X0_slot : GoodIn wsX0_leastRate wsX0_slot := goodIn_r _ [6] (by decide +kernel) (by decide +kernel)
set_option maxRecDepth 20000 in
theorem gX0_leastRate_X0_slot : GoodIn wsX0_leastRate (va_wsS RX0 53 yX0_slot wsX0_slot) := goodIn_app (goodIn_of _ (by decide +kernel)) ggX0_leastRate_X0_slot
set_option maxRecDepth 20000 in
theorem ggX0_leastRate_X0_betters : GoodIn wsX0_leastRate wsX0_betters := goodIn_r _ [9, 10, 11, 5, 12, 13, 14, 15] (by decide +kernel) (by decide +kernel)
set_option maxRecDepth 20000 in
theorem gX0_leastRate_X0_betters : GoodIn wsX0_leastRate (va_wsS RX0 118 yX0_betters wsX0_betters) := goodIn_app (goodIn_of _ (by decide +kernel)) ggX0_leastRate_X0_betters
theorem dX0_leastRate_0 : decode cX0_leastRate 0 = .ok (.iconst (-1), 1) := by decide +kernel
theorem dX0_leastRate_1 : decode cX0_leastRate 1 = .ok (.istore_n 2, 1) := by decide +kernel
theorem dX0_leastRate_2 : decode cX0_leastRate 2 = .ok (.iconst 0, 1) := by decide +kernel
theorem dX0_leastRate_3 : decode cX0_leastRate 3 = .ok (.istore_n 3, 1) := by decide +kernel
theorem dX0_leastRate_4 : decode cX0_leastRate 4 = .ok (.iload_n 3, 1) := by decide +kernel
theorem dX0_leastRate_5 : decode cX0_leastRate 5 = .ok (.aload_n 0, 1) := by decide +kernel
theorem dX0_leastRate_6 : decode cX0_leastRate 6 = .ok (.getfield 16, 3) := by decide +kernel
theorem dX0_leastRate_9 : decode cX0_leastRate 9 = .ok (.iload_n 1, 1) := by decide +kernel
theorem dX0_leastRate_10 : decode cX0_leastRate 10 = .ok (.iaload, 1) := by decide +kernel
theorem dX0_leastRate_11 : decode cX0_leastRate 11 = .ok (.if_icmp .ge 33, 3) := by decide +kernel
theorem dX0_leastRate_14 : decode cX0_leastRate 14 = .ok (.aload_n 0, 1) := by decide +kernel
theorem dX0_leastRate_15 : decode cX0_leastRate 15 = .ok (.getfield 9, 3) := by decide +kernel
theorem dX0_leastRate_18 : decode cX0_leastRate 18 = .ok (.iload_n 1, 1) := by decide +kernel
theorem dX0_leastRate_19 : decode cX0_leastRate 19 = .ok (.iload_n 3, 1) := by decide +kernel
theorem dX0_leastRate_20 : decode cX0_leastRate 20 = .ok (.invokestatic 53, 3) := by decide +kernel
theorem dX0_leastRate_23 : decode cX0_leastRate 23 = .ok (.iaload, 1) := by decide +kernel
theorem dX0_leastRate_24 : decode cX0_leastRate 24 = .ok (.istore 4, 2) := by decide +kernel
theorem dX0_leastRate_26 : decode cX0_leastRate 26 = .ok (.iload 4, 2) := by decide +kernel
theorem dX0_leastRate_28 : decode cX0_leastRate 28 = .ok (.iload_n 2, 1) := by decide +kernel
theorem dX0_leastRate_29 : decode cX0_leastRate 29 = .ok (.invokestatic 118, 3) := by decide +kernel
theorem dX0_leastRate_32 : decode cX0_leastRate 32 = .ok (.ifCond .eq 6, 3) := by decide +kernel
theorem dX0_leastRate_35 : decode cX0_leastRate 35 = .ok (.iload 4, 2) := by decide +kernel
theorem dX0_leastRate_37 : decode cX0_leastRate 37 = .ok (.istore_n 2, 1) := by decide +kernel
theorem dX0_leastRate_38 : decode cX0_leastRate 38 = .ok (.iinc 3 1, 3) := by decide +kernel
theorem dX0_leastRate_41 : decode cX0_leastRate 41 = .ok (.goto (-37), 3) := by decide +kernel
theorem dX0_leastRate_44 : decode cX0_leastRate 44 = .ok (.iload_n 2, 1) := by decide +kernel
theorem dX0_leastRate_45 : decode cX0_leastRate 45 = .ok (.ireturn, 1) := by decide +kernel
set_option maxRecDepth 20000 in
theorem ggX0_clocksAhead_X0_goesAhead : GoodIn wsX0_clocksAhead wsX0_goesAhead := goodIn_r _ [6, 7, 8, 9, 5, 10, 11, 12, 13, 14, 15, 16, 17, 18, 19, 20, 21, 22, 23, 24, 25] (by decide +kernel) (by decide +kernel)
set_option maxRecDepth 20000 in
theorem gX0_clocksAhead_X0_goesAhead : GoodIn wsX0_clocksAhead (wsV RX0 122 RX0 yX0_goesAhead wsX0_goesAhead) := goodIn_app (goodIn_of _ (by decide +kernel)) ggX0_clocksAhead_X0_goesAhead
theorem dX0_clocksAhead_0 : decode cX0_clocksAhead 0 = .ok (.iconst 0, 1) := by decide +kernel
theorem dX0_clocksAhead_1 : decode cX0_clocksAhead 1 = .ok (.istore_n 2, 1) := by decide +kernel
theorem dX0_clocksAhead_2 : decode cX0_clocksAhead 2 = .ok (.iconst 0, 1) := by decide +kernel
theorem dX0_clocksAhead_3 : decode cX0_clocksAhead 3 = .ok (.istore_n 3, 1) := by decide +kernel
theorem dX0_clocksAhead_4 : decode cX0_clocksAhead 4 = .ok (.iload_n 3, 1) := by decide +kernel
theorem dX0_clocksAhead_5 : decode cX0_clocksAhead 5 = .ok (.aload_n 0, 1) := by decide +kernel
theorem dX0_clocksAhead_6 : decode cX0_clocksAhead 6 = .ok (.getfield 26, 3) := by decide +kernel
theorem dX0_clocksAhead_9 : decode cX0_clocksAhead 9 = .ok (.if_icmp .ge 21, 3) := by decide +kernel
theorem dX0_clocksAhead_12 : decode cX0_clocksAhead 12 = .ok (.aload_n 0, 1) := by decide +kernel
theorem dX0_clocksAhead_13 : decode cX0_clocksAhead 13 = .ok (.iload_n 3, 1) := by decide +kernel
theorem dX0_clocksAhead_14 : decode cX0_clocksAhead 14 = .ok (.iload_n 1, 1) := by decide +kernel
theorem dX0_clocksAhead_15 : decode cX0_clocksAhead 15 = .ok (.invokevirtual 122, 3) := by decide +kernel
theorem dX0_clocksAhead_18 : decode cX0_clocksAhead 18 = .ok (.ifCond .eq 6, 3) := by decide +kernel
theorem dX0_clocksAhead_21 : decode cX0_clocksAhead 21 = .ok (.iinc 2 1, 3) := by decide +kernel
theorem dX0_clocksAhead_24 : decode cX0_clocksAhead 24 = .ok (.iinc 3 1, 3) := by decide +kernel
theorem dX0_clocksAhead_27 : decode cX0_clocksAhead 27 = .ok (.goto (-23), 3) := by decide +kernel
theorem dX0_clocksAhead_30 : decode cX0_clocksAhead 30 = .ok (.iload_n 2, 1) := by decide +kernel
theorem dX0_clocksAhead_31 : decode cX0_clocksAhead 31 = .ok (.ireturn, 1) := by decide +kernel
set_option maxRecDepth 20000 in
theorem ggX0_goesAhead_X0_betters : GoodIn wsX0_goesAhead wsX0_betters := goodIn_r _ [5, 6, 7, 4, 8, 9, 10, 11] (by decide +kernel) (by decide +kernel)
set_option maxRecDepth 20000 in
theorem gX0_goesAhead_X0_betters : GoodIn wsX0_goesAhead (va_wsS RX0 118 yX0_betters wsX0_betters) := goodIn_app (goodIn_of _ (by decide +kernel)) ggX0_goesAhead_X0_betters
theorem dX0_goesAhead_0 : decode cX0_goesAhead 0 = .ok (.aload_n 0, 1) := by decide +kernel
theorem dX0_goesAhead_1 : decode cX0_goesAhead 1 = .ok (.getfield 19, 3) := by decide +kernel
theorem dX0_goesAhead_4 : decode cX0_goesAhead 4 = .ok (.iload_n 1, 1) := by decide +kernel
theorem dX0_goesAhead_5 : decode cX0_goesAhead 5 = .ok (.iaload, 1) := by decide +kernel
theorem dX0_goesAhead_6 : decode cX0_goesAhead 6 = .ok (.aload_n 0, 1) := by decide +kernel
theorem dX0_goesAhead_7 : decode cX0_goesAhead 7 = .ok (.getfield 19, 3) := by decide +kernel
theorem dX0_goesAhead_10 : decode cX0_goesAhead 10 = .ok (.iload_n 2, 1) := by decide +kernel
theorem dX0_goesAhead_11 : decode cX0_goesAhead 11 = .ok (.iaload, 1) := by decide +kernel
theorem dX0_goesAhead_12 : decode cX0_goesAhead 12 = .ok (.if_icmp .ne 14, 3) := by decide +kernel
theorem dX0_goesAhead_15 : decode cX0_goesAhead 15 = .ok (.iload_n 1, 1) := by decide +kernel
theorem dX0_goesAhead_16 : decode cX0_goesAhead 16 = .ok (.iload_n 2, 1) := by decide +kernel
theorem dX0_goesAhead_17 : decode cX0_goesAhead 17 = .ok (.if_icmp .ge 7, 3) := by decide +kernel
theorem dX0_goesAhead_20 : decode cX0_goesAhead 20 = .ok (.iconst 1, 1) := by decide +kernel
theorem dX0_goesAhead_21 : decode cX0_goesAhead 21 = .ok (.goto 4, 3) := by decide +kernel
theorem dX0_goesAhead_24 : decode cX0_goesAhead 24 = .ok (.iconst 0, 1) := by decide +kernel
theorem dX0_goesAhead_25 : decode cX0_goesAhead 25 = .ok (.ireturn, 1) := by decide +kernel
theorem dX0_goesAhead_26 : decode cX0_goesAhead 26 = .ok (.aload_n 0, 1) := by decide +kernel
theorem dX0_goesAhead_27 : decode cX0_goesAhead 27 = .ok (.getfield 19, 3) := by decide +kernel
theorem dX0_goesAhead_30 : decode cX0_goesAhead 30 = .ok (.iload_n 1, 1) := by decide +kernel
theorem dX0_goesAhead_31 : decode cX0_goesAhead 31 = .ok (.iaload, 1) := by decide +kernel
theorem dX0_goesAhead_32 : decode cX0_goesAhead 32 = .ok (.aload_n 0, 1) := by decide +kernel
theorem dX0_goesAhead_33 : decode cX0_goesAhead 33 = .ok (.getfield 19, 3) := by decide +kernel
theorem dX0_goesAhead_36 : decode cX0_goesAhead 36 = .ok (.iload_n 2, 1) := by decide +kernel
theorem dX0_goesAhead_37 : decode cX0_goesAhead 37 = .ok (.iaload, 1) := by decide +kernel
theorem dX0_goesAhead_38 : decode cX0_goesAhead 38 = .ok (.invokestatic 118, 3) := by decide +kernel
theorem dX0_goesAhead_41 : decode cX0_goesAhead 41 = .ok (.ireturn, 1) := by decide +kernel
set_option maxRecDepth 20000 in
theorem ggX0_rank_X0_betters : GoodIn wsX0_rank wsX0_betters := goodIn_r _ [6, 7, 8, 5, 9, 10, 11, 12] (by decide +kernel) (by decide +kernel)
set_option maxRecDepth 20000 in
theorem gX0_rank_X0_betters : GoodIn wsX0_rank (va_wsS RX0 118 yX0_betters wsX0_betters) := goodIn_app (goodIn_of _ (by decide +kernel)) ggX0_rank_X0_betters
theorem dX0_rank_0 : decode cX0_rank 0 = .ok (.iconst 0, 1) := by decide +kernel
theorem dX0_rank_1 : decode cX0_rank 1 = .ok (.istore_n 2, 1) := by decide +kernel
theorem dX0_rank_2 : decode cX0_rank 2 = .ok (.iconst 0, 1) := by decide +kernel
theorem dX0_rank_3 : decode cX0_rank 3 = .ok (.istore_n 3, 1) := by decide +kernel
theorem dX0_rank_4 : decode cX0_rank 4 = .ok (.iload_n 3, 1) := by decide +kernel
theorem dX0_rank_5 : decode cX0_rank 5 = .ok (.aload_n 0, 1) := by decide +kernel
theorem dX0_rank_6 : decode cX0_rank 6 = .ok (.getfield 26, 3) := by decide +kernel
theorem dX0_rank_9 : decode cX0_rank 9 = .ok (.if_icmp .ge 30, 3) := by decide +kernel
theorem dX0_rank_12 : decode cX0_rank 12 = .ok (.aload_n 0, 1) := by decide +kernel
theorem dX0_rank_13 : decode cX0_rank 13 = .ok (.getfield 19, 3) := by decide +kernel
theorem dX0_rank_16 : decode cX0_rank 16 = .ok (.iload_n 3, 1) := by decide +kernel
theorem dX0_rank_17 : decode cX0_rank 17 = .ok (.iaload, 1) := by decide +kernel
theorem dX0_rank_18 : decode cX0_rank 18 = .ok (.aload_n 0, 1) := by decide +kernel
theorem dX0_rank_19 : decode cX0_rank 19 = .ok (.getfield 19, 3) := by decide +kernel
theorem dX0_rank_22 : decode cX0_rank 22 = .ok (.iload_n 1, 1) := by decide +kernel
theorem dX0_rank_23 : decode cX0_rank 23 = .ok (.iaload, 1) := by decide +kernel
theorem dX0_rank_24 : decode cX0_rank 24 = .ok (.invokestatic 118, 3) := by decide +kernel
theorem dX0_rank_27 : decode cX0_rank 27 = .ok (.ifCond .eq 6, 3) := by decide +kernel
theorem dX0_rank_30 : decode cX0_rank 30 = .ok (.iinc 2 1, 3) := by decide +kernel
theorem dX0_rank_33 : decode cX0_rank 33 = .ok (.iinc 3 1, 3) := by decide +kernel
theorem dX0_rank_36 : decode cX0_rank 36 = .ok (.goto (-32), 3) := by decide +kernel
theorem dX0_rank_39 : decode cX0_rank 39 = .ok (.iload_n 2, 1) := by decide +kernel
theorem dX0_rank_40 : decode cX0_rank 40 = .ok (.ireturn, 1) := by decide +kernel
