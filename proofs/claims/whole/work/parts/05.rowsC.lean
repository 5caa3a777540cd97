theorem dX1_rank_23 : decode cX1_rank 23 = .ok (.iaload, 1) := by decide +kernel
theorem dX1_rank_24 : decode cX1_rank 24 = .ok (.iconst (-1), 1) := by decide +kernel
theorem dX1_rank_25 : decode cX1_rank 25 = .ok (.if_icmp .ne 16, 3) := by decide +kernel
theorem dX1_rank_28 : decode cX1_rank 28 = .ok (.aload_n 0, 1) := by decide +kernel
theorem dX1_rank_29 : decode cX1_rank 29 = .ok (.getfield 23, 3) := by decide +kernel
theorem dX1_rank_32 : decode cX1_rank 32 = .ok (.iload_n 3, 1) := by decide +kernel
theorem dX1_rank_33 : decode cX1_rank 33 = .ok (.iaload, 1) := by decide +kernel
theorem dX1_rank_34 : decode cX1_rank 34 = .ok (.iconst (-1), 1) := by decide +kernel
theorem dX1_rank_35 : decode cX1_rank 35 = .ok (.if_icmp .eq 30, 3) := by decide +kernel
theorem dX1_rank_38 : decode cX1_rank 38 = .ok (.goto 23, 3) := by decide +kernel
theorem dX1_rank_41 : decode cX1_rank 41 = .ok (.iconst 0, 1) := by decide +kernel
theorem dX1_rank_42 : decode cX1_rank 42 = .ok (.aload_n 0, 1) := by decide +kernel
theorem dX1_rank_43 : decode cX1_rank 43 = .ok (.getfield 23, 3) := by decide +kernel
theorem dX1_rank_46 : decode cX1_rank 46 = .ok (.iload_n 3, 1) := by decide +kernel
theorem dX1_rank_47 : decode cX1_rank 47 = .ok (.iaload, 1) := by decide +kernel
theorem dX1_rank_48 : decode cX1_rank 48 = .ok (.aload_n 0, 1) := by decide +kernel
theorem dX1_rank_49 : decode cX1_rank 49 = .ok (.getfield 23, 3) := by decide +kernel
theorem dX1_rank_52 : decode cX1_rank 52 = .ok (.iload_n 1, 1) := by decide +kernel
theorem dX1_rank_53 : decode cX1_rank 53 = .ok (.iaload, 1) := by decide +kernel
theorem dX1_rank_54 : decode cX1_rank 54 = .ok (.iconst (-1), 1) := by decide +kernel
theorem dX1_rank_55 : decode cX1_rank 55 = .ok (.invokestatic 45, 3) := by decide +kernel
theorem dX1_rank_58 : decode cX1_rank 58 = .ok (.ifCond .eq 7, 3) := by decide +kernel
theorem dX1_rank_61 : decode cX1_rank 61 = .ok (.iconst 1, 1) := by decide +kernel
theorem dX1_rank_62 : decode cX1_rank 62 = .ok (.goto 4, 3) := by decide +kernel
theorem dX1_rank_65 : decode cX1_rank 65 = .ok (.iconst 0, 1) := by decide +kernel
theorem dX1_rank_66 : decode cX1_rank 66 = .ok (.iadd, 1) := by decide +kernel
theorem dX1_rank_67 : decode cX1_rank 67 = .ok (.istore_n 2, 1) := by decide +kernel
theorem dX1_rank_68 : decode cX1_rank 68 = .ok (.iinc 3 1, 3) := by decide +kernel
theorem dX1_rank_71 : decode cX1_rank 71 = .ok (.goto (-67), 3) := by decide +kernel
theorem dX1_rank_74 : decode cX1_rank 74 = .ok (.iload_n 2, 1) := by decide +kernel
theorem dX1_rank_75 : decode cX1_rank 75 = .ok (.ireturn, 1) := by decide +kernel
set_option maxRecDepth 20000 in
theorem ggX1_cold_X1_isCold : GoodIn wsX1_cold wsX1_isCold := goodIn_r _ [7, 8, 9, 10, 6, 11, 12, 13, 14, 15, 16, 17, 18, 19, 20] (by decide +kernel) (by decide +kernel)
set_option maxRecDepth 20000 in
theorem gX1_cold_X1_isCold : GoodIn wsX1_cold (wsV RX1 52 RX1 yX1_isCold wsX1_isCold) := goodIn_app (goodIn_of _ (by decide +kernel)) ggX1_cold_X1_isCold
theorem dX1_cold_0 : decode cX1_cold 0 = .ok (.iconst 0, 1) := by decide +kernel
theorem dX1_cold_1 : decode cX1_cold 1 = .ok (.istore_n 2, 1) := by decide +kernel
theorem dX1_cold_2 : decode cX1_cold 2 = .ok (.iconst 0, 1) := by decide +kernel
theorem dX1_cold_3 : decode cX1_cold 3 = .ok (.istore_n 3, 1) := by decide +kernel
theorem dX1_cold_4 : decode cX1_cold 4 = .ok (.iload_n 3, 1) := by decide +kernel
theorem dX1_cold_5 : decode cX1_cold 5 = .ok (.aload_n 0, 1) := by decide +kernel
theorem dX1_cold_6 : decode cX1_cold 6 = .ok (.getfield 19, 3) := by decide +kernel
theorem dX1_cold_9 : decode cX1_cold 9 = .ok (.iload_n 1, 1) := by decide +kernel
theorem dX1_cold_10 : decode cX1_cold 10 = .ok (.iaload, 1) := by decide +kernel
theorem dX1_cold_11 : decode cX1_cold 11 = .ok (.if_icmp .ge 35, 3) := by decide +kernel
theorem dX1_cold_14 : decode cX1_cold 14 = .ok (.iload_n 2, 1) := by decide +kernel
theorem dX1_cold_15 : decode cX1_cold 15 = .ok (.aload_n 0, 1) := by decide +kernel
theorem dX1_cold_16 : decode cX1_cold 16 = .ok (.aload_n 0, 1) := by decide +kernel
theorem dX1_cold_17 : decode cX1_cold 17 = .ok (.getfield 32, 3) := by decide +kernel
theorem dX1_cold_20 : decode cX1_cold 20 = .ok (.bipush 6, 2) := by decide +kernel
theorem dX1_cold_22 : decode cX1_cold 22 = .ok (.iload_n 1, 1) := by decide +kernel
theorem dX1_cold_23 : decode cX1_cold 23 = .ok (.imul, 1) := by decide +kernel
theorem dX1_cold_24 : decode cX1_cold 24 = .ok (.iload_n 3, 1) := by decide +kernel
theorem dX1_cold_25 : decode cX1_cold 25 = .ok (.iadd, 1) := by decide +kernel
theorem dX1_cold_26 : decode cX1_cold 26 = .ok (.iaload, 1) := by decide +kernel
theorem dX1_cold_27 : decode cX1_cold 27 = .ok (.invokevirtual 52, 3) := by decide +kernel
theorem dX1_cold_30 : decode cX1_cold 30 = .ok (.ifCond .eq 7, 3) := by decide +kernel
theorem dX1_cold_33 : decode cX1_cold 33 = .ok (.iconst 1, 1) := by decide +kernel
theorem dX1_cold_34 : decode cX1_cold 34 = .ok (.goto 4, 3) := by decide +kernel
theorem dX1_cold_37 : decode cX1_cold 37 = .ok (.iconst 0, 1) := by decide +kernel
theorem dX1_cold_38 : decode cX1_cold 38 = .ok (.iadd, 1) := by decide +kernel
theorem dX1_cold_39 : decode cX1_cold 39 = .ok (.istore_n 2, 1) := by decide +kernel
theorem dX1_cold_40 : decode cX1_cold 40 = .ok (.iinc 3 1, 3) := by decide +kernel
theorem dX1_cold_43 : decode cX1_cold 43 = .ok (.goto (-39), 3) := by decide +kernel
theorem dX1_cold_46 : decode cX1_cold 46 = .ok (.iload_n 2, 1) := by decide +kernel
theorem dX1_cold_47 : decode cX1_cold 47 = .ok (.ireturn, 1) := by decide +kernel
set_option maxRecDepth 20000 in
theorem ggX1_more_X1_holds : GoodIn wsX1_more wsX1_holds := goodIn_r _ [7] (by decide +kernel) (by decide +kernel)
set_option maxRecDepth 20000 in
theorem gX1_more_X1_holds : GoodIn wsX1_more (va_wsS RX1 45 yX1_holds wsX1_holds) := goodIn_app (goodIn_of _ (by decide +kernel)) ggX1_more_X1_holds
theorem dX1_more_0 : decode cX1_more 0 = .ok (.iconst 0, 1) := by decide +kernel
theorem dX1_more_1 : decode cX1_more 1 = .ok (.istore_n 2, 1) := by decide +kernel
theorem dX1_more_2 : decode cX1_more 2 = .ok (.iload_n 2, 1) := by decide +kernel
theorem dX1_more_3 : decode cX1_more 3 = .ok (.aload_n 0, 1) := by decide +kernel
theorem dX1_more_4 : decode cX1_more 4 = .ok (.getfield 19, 3) := by decide +kernel
theorem dX1_more_7 : decode cX1_more 7 = .ok (.iload_n 1, 1) := by decide +kernel
theorem dX1_more_8 : decode cX1_more 8 = .ok (.iaload, 1) := by decide +kernel
theorem dX1_more_9 : decode cX1_more 9 = .ok (.if_icmp .ge 34, 3) := by decide +kernel
theorem dX1_more_12 : decode cX1_more 12 = .ok (.iconst 2, 1) := by decide +kernel
theorem dX1_more_13 : decode cX1_more 13 = .ok (.aload_n 0, 1) := by decide +kernel
theorem dX1_more_14 : decode cX1_more 14 = .ok (.getfield 29, 3) := by decide +kernel
theorem dX1_more_17 : decode cX1_more 17 = .ok (.bipush 6, 2) := by decide +kernel
theorem dX1_more_19 : decode cX1_more 19 = .ok (.iload_n 1, 1) := by decide +kernel
theorem dX1_more_20 : decode cX1_more 20 = .ok (.imul, 1) := by decide +kernel
theorem dX1_more_21 : decode cX1_more 21 = .ok (.iload_n 2, 1) := by decide +kernel
theorem dX1_more_22 : decode cX1_more 22 = .ok (.iadd, 1) := by decide +kernel
theorem dX1_more_23 : decode cX1_more 23 = .ok (.iaload, 1) := by decide +kernel
theorem dX1_more_24 : decode cX1_more 24 = .ok (.aload_n 0, 1) := by decide +kernel
theorem dX1_more_25 : decode cX1_more 25 = .ok (.getfield 23, 3) := by decide +kernel
theorem dX1_more_28 : decode cX1_more 28 = .ok (.iload_n 1, 1) := by decide +kernel
theorem dX1_more_29 : decode cX1_more 29 = .ok (.iaload, 1) := by decide +kernel
theorem dX1_more_30 : decode cX1_more 30 = .ok (.iconst (-1), 1) := by decide +kernel
theorem dX1_more_31 : decode cX1_more 31 = .ok (.invokestatic 45, 3) := by decide +kernel
theorem dX1_more_34 : decode cX1_more 34 = .ok (.ifCond .eq 9, 3) := by decide +kernel
theorem dX1_more_37 : decode cX1_more 37 = .ok (.iinc 2 1, 3) := by decide +kernel
theorem dX1_more_40 : decode cX1_more 40 = .ok (.goto (-38), 3) := by decide +kernel
theorem dX1_more_43 : decode cX1_more 43 = .ok (.iload_n 2, 1) := by decide +kernel
theorem dX1_more_44 : decode cX1_more 44 = .ok (.ireturn, 1) := by decide +kernel
set_option maxRecDepth 20000 in
theorem ggX1_tell_X1_isClock : GoodIn wsX1_tell wsX1_isClock := goodIn_r _ [8, 9, 36, 37, 38, 39, 40, 41, 42, 43, 44] (by decide +kernel) (by decide +kernel)
set_option maxRecDepth 20000 in
theorem gX1_tell_X1_isClock : GoodIn wsX1_tell (wsV RX1 49 RX1 yX1_isClock wsX1_isClock) := goodIn_app (goodIn_of _ (by decide +kernel)) ggX1_tell_X1_isClock
set_option maxRecDepth 20000 in
theorem ggX1_tell_X1_rank : GoodIn wsX1_tell wsX1_rank := goodIn_r _ [13, 9, 2, 14, 15, 7, 16, 36, 37, 38, 39, 40, 41, 42, 43, 44] (by decide +kernel) (by decide +kernel)
set_option maxRecDepth 20000 in
theorem gX1_tell_X1_rank : GoodIn wsX1_tell (wsV RX1 66 RX1 yX1_rank wsX1_rank) := goodIn_app (goodIn_of _ (by decide +kernel)) ggX1_tell_X1_rank
set_option maxRecDepth 20000 in
theorem ggX1_tell_X1_cold : GoodIn wsX1_tell wsX1_cold := goodIn_r _ [20, 1, 21, 22, 23, 24, 7, 25, 26, 14, 15, 16, 36, 37, 38, 39, 40, 41, 42, 43, 44] (by decide +kernel) (by decide +kernel)
set_option maxRecDepth 20000 in
theorem gX1_tell_X1_cold : GoodIn wsX1_tell (wsV RX1 69 RX1 yX1_cold wsX1_cold) := goodIn_app (goodIn_of _ (by decide +kernel)) ggX1_tell_X1_cold
set_option maxRecDepth 20000 in
theorem ggX1_tell_X1_more : GoodIn wsX1_tell wsX1_more := goodIn_r _ [30, 1, 31, 2, 14, 15, 7, 16, 36, 37, 38, 39, 40, 41, 42, 43, 44] (by decide +kernel) (by decide +kernel)
set_option maxRecDepth 20000 in
theorem gX1_tell_X1_more : GoodIn wsX1_tell (wsV RX1 72 RX1 yX1_more wsX1_more) := goodIn_app (goodIn_of _ (by decide +kernel)) ggX1_tell_X1_more
set_option maxRecDepth 20000 in
theorem ggX1_tell_X1_chill : GoodIn wsX1_tell wsX1_chill := goodIn_r _ [35, 1, 21, 36, 37, 38, 39, 40, 41, 42, 43, 44] (by decide +kernel) (by decide +kernel)
set_option maxRecDepth 20000 in
theorem gX1_tell_X1_chill : GoodIn wsX1_tell (wsV RX1 75 RX1 yX1_chill wsX1_chill) := goodIn_app (goodIn_of _ (by decide +kernel)) ggX1_tell_X1_chill
theorem dX1_tell_0 : decode cX1_tell 0 = .ok (.aload_n 0, 1) := by decide +kernel
theorem dX1_tell_1 : decode cX1_tell 1 = .ok (.iload_n 1, 1) := by decide +kernel
theorem dX1_tell_2 : decode cX1_tell 2 = .ok (.invokevirtual 49, 3) := by decide +kernel
theorem dX1_tell_5 : decode cX1_tell 5 = .ok (.ifCond .ne 5, 3) := by decide +kernel
theorem dX1_tell_8 : decode cX1_tell 8 = .ok (.iconst (-1), 1) := by decide +kernel
theorem dX1_tell_9 : decode cX1_tell 9 = .ok (.ireturn, 1) := by decide +kernel
theorem dX1_tell_10 : decode cX1_tell 10 = .ok (.iload_n 2, 1) := by decide +kernel
theorem dX1_tell_11 : decode cX1_tell 11 = .ok (.tableswitch 86 0 6 #[41, 48, 55, 61, 68, 74, 80], 41) := by decide +kernel
theorem dX1_tell_52 : decode cX1_tell 52 = .ok (.aload_n 0, 1) := by decide +kernel
theorem dX1_tell_53 : decode cX1_tell 53 = .ok (.getfield 19, 3) := by decide +kernel
theorem dX1_tell_56 : decode cX1_tell 56 = .ok (.iload_n 1, 1) := by decide +kernel
theorem dX1_tell_57 : decode cX1_tell 57 = .ok (.iaload, 1) := by decide +kernel
theorem dX1_tell_58 : decode cX1_tell 58 = .ok (.ireturn, 1) := by decide +kernel
theorem dX1_tell_59 : decode cX1_tell 59 = .ok (.aload_n 0, 1) := by decide +kernel
theorem dX1_tell_60 : decode cX1_tell 60 = .ok (.getfield 23, 3) := by decide +kernel
theorem dX1_tell_63 : decode cX1_tell 63 = .ok (.iload_n 1, 1) := by decide +kernel
theorem dX1_tell_64 : decode cX1_tell 64 = .ok (.iaload, 1) := by decide +kernel
theorem dX1_tell_65 : decode cX1_tell 65 = .ok (.ireturn, 1) := by decide +kernel
theorem dX1_tell_66 : decode cX1_tell 66 = .ok (.aload_n 0, 1) := by decide +kernel
theorem dX1_tell_67 : decode cX1_tell 67 = .ok (.iload_n 1, 1) := by decide +kernel
theorem dX1_tell_68 : decode cX1_tell 68 = .ok (.invokevirtual 66, 3) := by decide +kernel
theorem dX1_tell_71 : decode cX1_tell 71 = .ok (.ireturn, 1) := by decide +kernel
theorem dX1_tell_72 : decode cX1_tell 72 = .ok (.aload_n 0, 1) := by decide +kernel
theorem dX1_tell_73 : decode cX1_tell 73 = .ok (.getfield 26, 3) := by decide +kernel
theorem dX1_tell_76 : decode cX1_tell 76 = .ok (.iload_n 1, 1) := by decide +kernel
theorem dX1_tell_77 : decode cX1_tell 77 = .ok (.iaload, 1) := by decide +kernel
theorem dX1_tell_78 : decode cX1_tell 78 = .ok (.ireturn, 1) := by decide +kernel
theorem dX1_tell_79 : decode cX1_tell 79 = .ok (.aload_n 0, 1) := by decide +kernel
theorem dX1_tell_80 : decode cX1_tell 80 = .ok (.iload_n 1, 1) := by decide +kernel
theorem dX1_tell_81 : decode cX1_tell 81 = .ok (.invokevirtual 69, 3) := by decide +kernel
theorem dX1_tell_84 : decode cX1_tell 84 = .ok (.ireturn, 1) := by decide +kernel
theorem dX1_tell_85 : decode cX1_tell 85 = .ok (.aload_n 0, 1) := by decide +kernel
theorem dX1_tell_86 : decode cX1_tell 86 = .ok (.iload_n 1, 1) := by decide +kernel
theorem dX1_tell_87 : decode cX1_tell 87 = .ok (.invokevirtual 72, 3) := by decide +kernel
theorem dX1_tell_90 : decode cX1_tell 90 = .ok (.ireturn, 1) := by decide +kernel
theorem dX1_tell_91 : decode cX1_tell 91 = .ok (.aload_n 0, 1) := by decide +kernel
theorem dX1_tell_92 : decode cX1_tell 92 = .ok (.iload_n 1, 1) := by decide +kernel
theorem dX1_tell_93 : decode cX1_tell 93 = .ok (.invokevirtual 75, 3) := by decide +kernel
theorem dX1_tell_96 : decode cX1_tell 96 = .ok (.ireturn, 1) := by decide +kernel
theorem dX1_tell_97 : decode cX1_tell 97 = .ok (.iconst (-1), 1) := by decide +kernel
theorem dX1_tell_98 : decode cX1_tell 98 = .ok (.ireturn, 1) := by decide +kernel
set_option maxRecDepth 20000 in
theorem ggX1_asked_X1_holds : GoodIn wsX1_asked wsX1_holds := goodIn_r _ [5] (by decide +kernel) (by decide +kernel)
set_option maxRecDepth 20000 in
theorem gX1_asked_X1_holds : GoodIn wsX1_asked (va_wsS RX1 45 yX1_holds wsX1_holds) := goodIn_app (goodIn_of _ (by decide +kernel)) ggX1_asked_X1_holds
set_option maxRecDepth 20000 in
theorem ggX1_asked_X1_chill : GoodIn wsX1_asked wsX1_chill := goodIn_r _ [9, 10, 11, 12, 13, 14, 15, 16, 17, 18, 19, 20] (by decide +kernel) (by decide +kernel)
set_option maxRecDepth 20000 in
theorem gX1_asked_X1_chill : GoodIn wsX1_asked (wsV RX1 75 RX1 yX1_chill wsX1_chill) := goodIn_app (goodIn_of _ (by decide +kernel)) ggX1_asked_X1_chill
theorem dX1_asked_0 : decode cX1_asked 0 = .ok (.iload_n 1, 1) := by decide +kernel
theorem dX1_asked_1 : decode cX1_asked 1 = .ok (.ifCond .ne 24, 3) := by decide +kernel
theorem dX1_asked_4 : decode cX1_asked 4 = .ok (.iload_n 2, 1) := by decide +kernel
theorem dX1_asked_5 : decode cX1_asked 5 = .ok (.aload_n 0, 1) := by decide +kernel
theorem dX1_asked_6 : decode cX1_asked 6 = .ok (.getfield 23, 3) := by decide +kernel
theorem dX1_asked_9 : decode cX1_asked 9 = .ok (.iload_n 3, 1) := by decide +kernel
theorem dX1_asked_10 : decode cX1_asked 10 = .ok (.iaload, 1) := by decide +kernel
theorem dX1_asked_11 : decode cX1_asked 11 = .ok (.aload_n 0, 1) := by decide +kernel
theorem dX1_asked_12 : decode cX1_asked 12 = .ok (.getfield 23, 3) := by decide +kernel
theorem dX1_asked_15 : decode cX1_asked 15 = .ok (.iload 4, 2) := by decide +kernel
theorem dX1_asked_17 : decode cX1_asked 17 = .ok (.iaload, 1) := by decide +kernel
theorem dX1_asked_18 : decode cX1_asked 18 = .ok (.iconst (-1), 1) := by decide +kernel
theorem dX1_asked_19 : decode cX1_asked 19 = .ok (.invokestatic 45, 3) := by decide +kernel
theorem dX1_asked_22 : decode cX1_asked 22 = .ok (.goto 20, 3) := by decide +kernel
theorem dX1_asked_25 : decode cX1_asked 25 = .ok (.iload_n 2, 1) := by decide +kernel
theorem dX1_asked_26 : decode cX1_asked 26 = .ok (.aload_n 0, 1) := by decide +kernel
theorem dX1_asked_27 : decode cX1_asked 27 = .ok (.iload_n 3, 1) := by decide +kernel
theorem dX1_asked_28 : decode cX1_asked 28 = .ok (.invokevirtual 75, 3) := by decide +kernel
theorem dX1_asked_31 : decode cX1_asked 31 = .ok (.aload_n 0, 1) := by decide +kernel
theorem dX1_asked_32 : decode cX1_asked 32 = .ok (.iload 4, 2) := by decide +kernel
theorem dX1_asked_34 : decode cX1_asked 34 = .ok (.invokevirtual 75, 3) := by decide +kernel
theorem dX1_asked_37 : decode cX1_asked 37 = .ok (.bipush 100, 2) := by decide +kernel
theorem dX1_asked_39 : decode cX1_asked 39 = .ok (.invokestatic 45, 3) := by decide +kernel
theorem dX1_asked_42 : decode cX1_asked 42 = .ok (.ireturn, 1) := by decide +kernel
theorem dX1_seals_0 : decode cX1_seals 0 = .ok (.iconst 0, 1) := by decide +kernel
theorem dX1_seals_1 : decode cX1_seals 1 = .ok (.istore_n 1, 1) := by decide +kernel
theorem dX1_seals_2 : decode cX1_seals 2 = .ok (.iconst 0, 1) := by decide +kernel
theorem dX1_seals_3 : decode cX1_seals 3 = .ok (.istore_n 2, 1) := by decide +kernel
theorem dX1_seals_4 : decode cX1_seals 4 = .ok (.iload_n 2, 1) := by decide +kernel
theorem dX1_seals_5 : decode cX1_seals 5 = .ok (.aload_n 0, 1) := by decide +kernel
theorem dX1_seals_6 : decode cX1_seals 6 = .ok (.getfield 35, 3) := by decide +kernel
theorem dX1_seals_9 : decode cX1_seals 9 = .ok (.if_icmp .ge 18, 3) := by decide +kernel
theorem dX1_seals_12 : decode cX1_seals 12 = .ok (.iload_n 1, 1) := by decide +kernel
theorem dX1_seals_13 : decode cX1_seals 13 = .ok (.aload_n 0, 1) := by decide +kernel
theorem dX1_seals_14 : decode cX1_seals 14 = .ok (.getfield 26, 3) := by decide +kernel
theorem dX1_seals_17 : decode cX1_seals 17 = .ok (.iload_n 2, 1) := by decide +kernel
theorem dX1_seals_18 : decode cX1_seals 18 = .ok (.iaload, 1) := by decide +kernel
theorem dX1_seals_19 : decode cX1_seals 19 = .ok (.iadd, 1) := by decide +kernel
theorem dX1_seals_20 : decode cX1_seals 20 = .ok (.istore_n 1, 1) := by decide +kernel
theorem dX1_seals_21 : decode cX1_seals 21 = .ok (.iinc 2 1, 3) := by decide +kernel
theorem dX1_seals_24 : decode cX1_seals 24 = .ok (.goto (-20), 3) := by decide +kernel
theorem dX1_seals_27 : decode cX1_seals 27 = .ok (.iload_n 1, 1) := by decide +kernel
theorem dX1_seals_28 : decode cX1_seals 28 = .ok (.ireturn, 1) := by decide +kernel
set_option maxRecDepth 20000 in
theorem ggX1_ask_X1_isClock : GoodIn wsX1_ask wsX1_isClock := goodIn_r _ [7, 1, 26, 27, 28, 29, 30, 31, 32, 33, 34] (by decide +kernel) (by decide +kernel)
set_option maxRecDepth 20000 in
theorem gX1_ask_X1_isClock : GoodIn wsX1_ask (wsV RX1 49 RX1 yX1_isClock wsX1_isClock) := goodIn_app (goodIn_of _ (by decide +kernel)) ggX1_ask_X1_isClock
set_option maxRecDepth 20000 in
theorem ggX1_ask_X1_asked : GoodIn wsX1_ask wsX1_asked := goodIn_r _ [11, 12, 13, 14, 6, 15, 16, 17, 18, 19, 20, 21, 26, 27, 28, 29, 30, 31, 32, 33, 34] (by decide +kernel) (by decide +kernel)
set_option maxRecDepth 20000 in
theorem gX1_ask_X1_asked : GoodIn wsX1_ask (wsV RX1 78 RX1 yX1_asked wsX1_asked) := goodIn_app (goodIn_of _ (by decide +kernel)) ggX1_ask_X1_asked
set_option maxRecDepth 20000 in
theorem ggX1_ask_X1_seals : GoodIn wsX1_ask wsX1_seals := goodIn_r _ [25, 1, 2, 26, 27, 28, 29, 30, 31, 32, 33, 34] (by decide +kernel) (by decide +kernel)
set_option maxRecDepth 20000 in
theorem gX1_ask_X1_seals : GoodIn wsX1_ask (wsV RX1 81 RX1 yX1_seals wsX1_seals) := goodIn_app (goodIn_of _ (by decide +kernel)) ggX1_ask_X1_seals
theorem dX1_ask_0 : decode cX1_ask 0 = .ok (.iload_n 1, 1) := by decide +kernel
theorem dX1_ask_1 : decode cX1_ask 1 = .ok (.ifCond .lt 35, 3) := by decide +kernel
theorem dX1_ask_4 : decode cX1_ask 4 = .ok (.iload_n 1, 1) := by decide +kernel
theorem dX1_ask_5 : decode cX1_ask 5 = .ok (.iconst 1, 1) := by decide +kernel
theorem dX1_ask_6 : decode cX1_ask 6 = .ok (.if_icmp .gt 30, 3) := by decide +kernel
theorem dX1_ask_9 : decode cX1_ask 9 = .ok (.iload_n 2, 1) := by decide +kernel
theorem dX1_ask_10 : decode cX1_ask 10 = .ok (.ifCond .lt 26, 3) := by decide +kernel
theorem dX1_ask_13 : decode cX1_ask 13 = .ok (.iload_n 2, 1) := by decide +kernel
theorem dX1_ask_14 : decode cX1_ask 14 = .ok (.iconst 5, 1) := by decide +kernel
theorem dX1_ask_15 : decode cX1_ask 15 = .ok (.if_icmp .gt 21, 3) := by decide +kernel
theorem dX1_ask_18 : decode cX1_ask 18 = .ok (.aload_n 0, 1) := by decide +kernel
theorem dX1_ask_19 : decode cX1_ask 19 = .ok (.iload 4, 2) := by decide +kernel
theorem dX1_ask_21 : decode cX1_ask 21 = .ok (.invokevirtual 49, 3) := by decide +kernel
theorem dX1_ask_24 : decode cX1_ask 24 = .ok (.ifCond .eq 12, 3) := by decide +kernel
theorem dX1_ask_27 : decode cX1_ask 27 = .ok (.aload_n 0, 1) := by decide +kernel
theorem dX1_ask_28 : decode cX1_ask 28 = .ok (.iload 5, 2) := by decide +kernel
theorem dX1_ask_30 : decode cX1_ask 30 = .ok (.invokevirtual 49, 3) := by decide +kernel
theorem dX1_ask_33 : decode cX1_ask 33 = .ok (.ifCond .ne 5, 3) := by decide +kernel
theorem dX1_ask_36 : decode cX1_ask 36 = .ok (.iconst (-1), 1) := by decide +kernel
theorem dX1_ask_37 : decode cX1_ask 37 = .ok (.ireturn, 1) := by decide +kernel
theorem dX1_ask_38 : decode cX1_ask 38 = .ok (.aload_n 0, 1) := by decide +kernel
theorem dX1_ask_39 : decode cX1_ask 39 = .ok (.iload_n 1, 1) := by decide +kernel
theorem dX1_ask_40 : decode cX1_ask 40 = .ok (.iload_n 2, 1) := by decide +kernel
theorem dX1_ask_41 : decode cX1_ask 41 = .ok (.iload 4, 2) := by decide +kernel
theorem dX1_ask_43 : decode cX1_ask 43 = .ok (.iload 5, 2) := by decide +kernel
theorem dX1_ask_45 : decode cX1_ask 45 = .ok (.invokevirtual 78, 3) := by decide +kernel
theorem dX1_ask_48 : decode cX1_ask 48 = .ok (.istore 6, 2) := by decide +kernel
theorem dX1_ask_50 : decode cX1_ask 50 = .ok (.iload_n 3, 1) := by decide +kernel
theorem dX1_ask_51 : decode cX1_ask 51 = .ok (.tableswitch 176 0 5 #[37, 48, 59, 99, 112, 134], 37) := by decide +kernel
theorem dX1_ask_88 : decode cX1_ask 88 = .ok (.iload 6, 2) := by decide +kernel
theorem dX1_ask_90 : decode cX1_ask 90 = .ok (.ifCond .eq 7, 3) := by decide +kernel
theorem dX1_ask_93 : decode cX1_ask 93 = .ok (.iconst 1, 1) := by decide +kernel
theorem dX1_ask_94 : decode cX1_ask 94 = .ok (.goto 4, 3) := by decide +kernel
theorem dX1_ask_97 : decode cX1_ask 97 = .ok (.iconst 0, 1) := by decide +kernel
theorem dX1_ask_98 : decode cX1_ask 98 = .ok (.ireturn, 1) := by decide +kernel
theorem dX1_ask_99 : decode cX1_ask 99 = .ok (.iload 6, 2) := by decide +kernel
theorem dX1_ask_101 : decode cX1_ask 101 = .ok (.ifCond .eq 7, 3) := by decide +kernel
theorem dX1_ask_104 : decode cX1_ask 104 = .ok (.iconst 0, 1) := by decide +kernel
theorem dX1_ask_105 : decode cX1_ask 105 = .ok (.goto 4, 3) := by decide +kernel
theorem dX1_ask_108 : decode cX1_ask 108 = .ok (.iconst 1, 1) := by decide +kernel
theorem dX1_ask_109 : decode cX1_ask 109 = .ok (.ireturn, 1) := by decide +kernel
theorem dX1_ask_110 : decode cX1_ask 110 = .ok (.iconst 0, 1) := by decide +kernel
theorem dX1_ask_111 : decode cX1_ask 111 = .ok (.istore 7, 2) := by decide +kernel
theorem dX1_ask_113 : decode cX1_ask 113 = .ok (.iload 4, 2) := by decide +kernel
theorem dX1_ask_115 : decode cX1_ask 115 = .ok (.iload 7, 2) := by decide +kernel
theorem dX1_ask_117 : decode cX1_ask 117 = .ok (.iadd, 1) := by decide +kernel
theorem dX1_ask_118 : decode cX1_ask 118 = .ok (.aload_n 0, 1) := by decide +kernel
theorem dX1_ask_119 : decode cX1_ask 119 = .ok (.getfield 35, 3) := by decide +kernel
theorem dX1_ask_122 : decode cX1_ask 122 = .ok (.if_icmp .ge 25, 3) := by decide +kernel
theorem dX1_ask_125 : decode cX1_ask 125 = .ok (.aload_n 0, 1) := by decide +kernel
theorem dX1_ask_126 : decode cX1_ask 126 = .ok (.iload_n 1, 1) := by decide +kernel
theorem dX1_ask_127 : decode cX1_ask 127 = .ok (.iload_n 2, 1) := by decide +kernel
theorem dX1_ask_128 : decode cX1_ask 128 = .ok (.iload 4, 2) := by decide +kernel
theorem dX1_ask_130 : decode cX1_ask 130 = .ok (.iload 7, 2) := by decide +kernel
theorem dX1_ask_132 : decode cX1_ask 132 = .ok (.iadd, 1) := by decide +kernel
theorem dX1_ask_133 : decode cX1_ask 133 = .ok (.iload 5, 2) := by decide +kernel
theorem dX1_ask_135 : decode cX1_ask 135 = .ok (.invokevirtual 78, 3) := by decide +kernel
theorem dX1_ask_138 : decode cX1_ask 138 = .ok (.ifCond .eq 9, 3) := by decide +kernel
theorem dX1_ask_141 : decode cX1_ask 141 = .ok (.iinc 7 1, 3) := by decide +kernel
theorem dX1_ask_144 : decode cX1_ask 144 = .ok (.goto (-31), 3) := by decide +kernel
theorem dX1_ask_147 : decode cX1_ask 147 = .ok (.iload 7, 2) := by decide +kernel
theorem dX1_ask_149 : decode cX1_ask 149 = .ok (.ireturn, 1) := by decide +kernel
theorem dX1_ask_150 : decode cX1_ask 150 = .ok (.iload 6, 2) := by decide +kernel
theorem dX1_ask_152 : decode cX1_ask 152 = .ok (.ifCond .eq 8, 3) := by decide +kernel
theorem dX1_ask_155 : decode cX1_ask 155 = .ok (.iload 4, 2) := by decide +kernel
theorem dX1_ask_157 : decode cX1_ask 157 = .ok (.goto 5, 3) := by decide +kernel
theorem dX1_ask_160 : decode cX1_ask 160 = .ok (.iload 5, 2) := by decide +kernel
theorem dX1_ask_162 : decode cX1_ask 162 = .ok (.ireturn, 1) := by decide +kernel
theorem dX1_ask_163 : decode cX1_ask 163 = .ok (.aload_n 0, 1) := by decide +kernel
theorem dX1_ask_164 : decode cX1_ask 164 = .ok (.getfield 26, 3) := by decide +kernel
theorem dX1_ask_167 : decode cX1_ask 167 = .ok (.iload 4, 2) := by decide +kernel
theorem dX1_ask_169 : decode cX1_ask 169 = .ok (.iload 6, 2) := by decide +kernel
theorem dX1_ask_171 : decode cX1_ask 171 = .ok (.ifCond .eq 7, 3) := by decide +kernel
theorem dX1_ask_174 : decode cX1_ask 174 = .ok (.iconst 1, 1) := by decide +kernel
theorem dX1_ask_175 : decode cX1_ask 175 = .ok (.goto 4, 3) := by decide +kernel
theorem dX1_ask_178 : decode cX1_ask 178 = .ok (.iconst 0, 1) := by decide +kernel
theorem dX1_ask_179 : decode cX1_ask 179 = .ok (.iastore, 1) := by decide +kernel
theorem dX1_ask_180 : decode cX1_ask 180 = .ok (.aload_n 0, 1) := by decide +kernel
theorem dX1_ask_181 : decode cX1_ask 181 = .ok (.invokevirtual 81, 3) := by decide +kernel
theorem dX1_ask_184 : decode cX1_ask 184 = .ok (.ireturn, 1) := by decide +kernel
theorem dX1_ask_185 : decode cX1_ask 185 = .ok (.aload_n 0, 1) := by decide +kernel
theorem dX1_ask_186 : decode cX1_ask 186 = .ok (.iload_n 1, 1) := by decide +kernel
theorem dX1_ask_187 : decode cX1_ask 187 = .ok (.iload_n 2, 1) := by decide +kernel
theorem dX1_ask_188 : decode cX1_ask 188 = .ok (.iload 5, 2) := by decide +kernel
theorem dX1_ask_190 : decode cX1_ask 190 = .ok (.iload 4, 2) := by decide +kernel
theorem dX1_ask_192 : decode cX1_ask 192 = .ok (.invokevirtual 78, 3) := by decide +kernel
theorem dX1_ask_195 : decode cX1_ask 195 = .ok (.istore 7, 2) := by decide +kernel
theorem dX1_ask_197 : decode cX1_ask 197 = .ok (.iload 6, 2) := by decide +kernel
theorem dX1_ask_199 : decode cX1_ask 199 = .ok (.ifCond .eq 12, 3) := by decide +kernel
theorem dX1_ask_202 : decode cX1_ask 202 = .ok (.iload 7, 2) := by decide +kernel
theorem dX1_ask_204 : decode cX1_ask 204 = .ok (.ifCond .eq 7, 3) := by decide +kernel
theorem dX1_ask_207 : decode cX1_ask 207 = .ok (.iconst 1, 1) := by decide +kernel
theorem dX1_ask_208 : decode cX1_ask 208 = .ok (.goto 18, 3) := by decide +kernel
theorem dX1_ask_211 : decode cX1_ask 211 = .ok (.iload 6, 2) := by decide +kernel
theorem dX1_ask_213 : decode cX1_ask 213 = .ok (.ifCond .ne 8, 3) := by decide +kernel
theorem dX1_ask_216 : decode cX1_ask 216 = .ok (.iload 7, 2) := by decide +kernel
theorem dX1_ask_218 : decode cX1_ask 218 = .ok (.ifCond .eq 7, 3) := by decide +kernel
theorem dX1_ask_221 : decode cX1_ask 221 = .ok (.iconst 2, 1) := by decide +kernel
theorem dX1_ask_222 : decode cX1_ask 222 = .ok (.goto 4, 3) := by decide +kernel
theorem dX1_ask_225 : decode cX1_ask 225 = .ok (.iconst 0, 1) := by decide +kernel
theorem dX1_ask_226 : decode cX1_ask 226 = .ok (.ireturn, 1) := by decide +kernel
theorem dX1_ask_227 : decode cX1_ask 227 = .ok (.iconst (-1), 1) := by decide +kernel
theorem dX1_ask_228 : decode cX1_ask 228 = .ok (.ireturn, 1) := by decide +kernel
theorem dX1_trials_0 : decode cX1_trials 0 = .ok (.iconst 0, 1) := by decide +kernel
theorem dX1_trials_1 : decode cX1_trials 1 = .ok (.istore_n 1, 1) := by decide +kernel
theorem dX1_trials_2 : decode cX1_trials 2 = .ok (.iconst 0, 1) := by decide +kernel
theorem dX1_trials_3 : decode cX1_trials 3 = .ok (.istore_n 2, 1) := by decide +kernel
theorem dX1_trials_4 : decode cX1_trials 4 = .ok (.iload_n 2, 1) := by decide +kernel
theorem dX1_trials_5 : decode cX1_trials 5 = .ok (.aload_n 0, 1) := by decide +kernel
theorem dX1_trials_6 : decode cX1_trials 6 = .ok (.getfield 35, 3) := by decide +kernel
theorem dX1_trials_9 : decode cX1_trials 9 = .ok (.if_icmp .ge 18, 3) := by decide +kernel
theorem dX1_trials_12 : decode cX1_trials 12 = .ok (.iload_n 1, 1) := by decide +kernel
theorem dX1_trials_13 : decode cX1_trials 13 = .ok (.aload_n 0, 1) := by decide +kernel
theorem dX1_trials_14 : decode cX1_trials 14 = .ok (.getfield 19, 3) := by decide +kernel
theorem dX1_trials_17 : decode cX1_trials 17 = .ok (.iload_n 2, 1) := by decide +kernel
theorem dX1_trials_18 : decode cX1_trials 18 = .ok (.iaload, 1) := by decide +kernel
theorem dX1_trials_19 : decode cX1_trials 19 = .ok (.iadd, 1) := by decide +kernel
theorem dX1_trials_20 : decode cX1_trials 20 = .ok (.istore_n 1, 1) := by decide +kernel
theorem dX1_trials_21 : decode cX1_trials 21 = .ok (.iinc 2 1, 3) := by decide +kernel
theorem dX1_trials_24 : decode cX1_trials 24 = .ok (.goto (-20), 3) := by decide +kernel
theorem dX1_trials_27 : decode cX1_trials 27 = .ok (.iload_n 1, 1) := by decide +kernel
theorem dX1_trials_28 : decode cX1_trials 28 = .ok (.ireturn, 1) := by decide +kernel
set_option maxRecDepth 20000 in
theorem ggX1_first_X1_place : GoodIn wsX1_first wsX1_place := goodIn_r _ [6, 7, 8, 9, 10, 5, 11, 12, 13, 14, 15, 1, 16, 17, 18, 19, 20, 21, 22, 23, 24, 25, 26, 27, 28, 29, 30] (by decide +kernel) (by decide +kernel)
set_option maxRecDepth 20000 in
theorem gX1_first_X1_place : GoodIn wsX1_first (wsV RX1 85 RX1 yX1_place wsX1_place) := goodIn_app (goodIn_of _ (by decide +kernel)) ggX1_first_X1_place
theorem dX1_first_0 : decode cX1_first 0 = .ok (.aload_n 0, 1) := by decide +kernel
theorem dX1_first_1 : decode cX1_first 1 = .ok (.iconst 0, 1) := by decide +kernel
theorem dX1_first_2 : decode cX1_first 2 = .ok (.invokevirtual 85, 3) := by decide +kernel
theorem dX1_first_5 : decode cX1_first 5 = .ok (.istore_n 1, 1) := by decide +kernel
theorem dX1_first_6 : decode cX1_first 6 = .ok (.iload_n 1, 1) := by decide +kernel
theorem dX1_first_7 : decode cX1_first 7 = .ok (.iconst (-1), 1) := by decide +kernel
theorem dX1_first_8 : decode cX1_first 8 = .ok (.if_icmp .eq 13, 3) := by decide +kernel
theorem dX1_first_11 : decode cX1_first 11 = .ok (.aload_n 0, 1) := by decide +kernel
theorem dX1_first_12 : decode cX1_first 12 = .ok (.getfield 23, 3) := by decide +kernel
theorem dX1_first_15 : decode cX1_first 15 = .ok (.iload_n 1, 1) := by decide +kernel
theorem dX1_first_16 : decode cX1_first 16 = .ok (.iaload, 1) := by decide +kernel
theorem dX1_first_17 : decode cX1_first 17 = .ok (.iconst (-1), 1) := by decide +kernel
theorem dX1_first_18 : decode cX1_first 18 = .ok (.if_icmp .ne 7, 3) := by decide +kernel
theorem dX1_first_21 : decode cX1_first 21 = .ok (.iconst (-1), 1) := by decide +kernel
theorem dX1_first_22 : decode cX1_first 22 = .ok (.goto 4, 3) := by decide +kernel
theorem dX1_first_25 : decode cX1_first 25 = .ok (.iload_n 1, 1) := by decide +kernel
theorem dX1_first_26 : decode cX1_first 26 = .ok (.ireturn, 1) := by decide +kernel
set_option maxRecDepth 20000 in
theorem ggX1_count_X1_trials : GoodIn wsX1_count wsX1_trials := goodIn_r _ [9, 1, 10, 39, 40, 41, 42, 43, 44, 45, 46, 47] (by decide +kernel) (by decide +kernel)
set_option maxRecDepth 20000 in
theorem gX1_count_X1_trials : GoodIn wsX1_count (wsV RX1 88 RX1 yX1_trials wsX1_trials) := goodIn_app (goodIn_of _ (by decide +kernel)) ggX1_count_X1_trials
set_option maxRecDepth 20000 in
theorem ggX1_count_X1_seals : GoodIn wsX1_count wsX1_seals := goodIn_r _ [14, 1, 15, 39, 40, 41, 42, 43, 44, 45, 46, 47] (by decide +kernel) (by decide +kernel)
set_option maxRecDepth 20000 in
theorem gX1_count_X1_seals : GoodIn wsX1_count (wsV RX1 81 RX1 yX1_seals wsX1_seals) := goodIn_app (goodIn_of _ (by decide +kernel)) ggX1_count_X1_seals
set_option maxRecDepth 20000 in
theorem ggX1_count_X1_first : GoodIn wsX1_count wsX1_first := goodIn_r _ [19, 20, 21, 22, 23, 8, 24, 1, 25, 26, 27, 28, 29, 30, 31, 32, 33, 34, 35, 36, 37, 38, 39, 40, 41, 42, 43, 44, 45, 46, 47] (by decide +kernel) (by decide +kernel)
set_option maxRecDepth 20000 in
theorem gX1_count_X1_first : GoodIn wsX1_count (wsV RX1 91 RX1 yX1_first wsX1_first) := goodIn_app (goodIn_of _ (by decide +kernel)) ggX1_count_X1_first
theorem dX1_count_0 : decode cX1_count 0 = .ok (.iload_n 1, 1) := by decide +kernel
theorem dX1_count_1 : decode cX1_count 1 = .ok (.tableswitch 78 0 6 #[43, 48, 53, 58, 63, 68, 73], 43) := by decide +kernel
theorem dX1_count_44 : decode cX1_count 44 = .ok (.aload_n 0, 1) := by decide +kernel
theorem dX1_count_45 : decode cX1_count 45 = .ok (.getfield 35, 3) := by decide +kernel
theorem dX1_count_48 : decode cX1_count 48 = .ok (.ireturn, 1) := by decide +kernel
theorem dX1_count_49 : decode cX1_count 49 = .ok (.aload_n 0, 1) := by decide +kernel
theorem dX1_count_50 : decode cX1_count 50 = .ok (.getfield 16, 3) := by decide +kernel
theorem dX1_count_53 : decode cX1_count 53 = .ok (.ireturn, 1) := by decide +kernel
theorem dX1_count_54 : decode cX1_count 54 = .ok (.aload_n 0, 1) := by decide +kernel
theorem dX1_count_55 : decode cX1_count 55 = .ok (.getfield 9, 3) := by decide +kernel
theorem dX1_count_58 : decode cX1_count 58 = .ok (.ireturn, 1) := by decide +kernel
theorem dX1_count_59 : decode cX1_count 59 = .ok (.aload_n 0, 1) := by decide +kernel
theorem dX1_count_60 : decode cX1_count 60 = .ok (.getfield 13, 3) := by decide +kernel
theorem dX1_count_63 : decode cX1_count 63 = .ok (.ireturn, 1) := by decide +kernel
theorem dX1_count_64 : decode cX1_count 64 = .ok (.aload_n 0, 1) := by decide +kernel
theorem dX1_count_65 : decode cX1_count 65 = .ok (.invokevirtual 88, 3) := by decide +kernel
theorem dX1_count_68 : decode cX1_count 68 = .ok (.ireturn, 1) := by decide +kernel
theorem dX1_count_69 : decode cX1_count 69 = .ok (.aload_n 0, 1) := by decide +kernel
theorem dX1_count_70 : decode cX1_count 70 = .ok (.invokevirtual 81, 3) := by decide +kernel
theorem dX1_count_73 : decode cX1_count 73 = .ok (.ireturn, 1) := by decide +kernel
theorem dX1_count_74 : decode cX1_count 74 = .ok (.aload_n 0, 1) := by decide +kernel
theorem dX1_count_75 : decode cX1_count 75 = .ok (.invokevirtual 91, 3) := by decide +kernel
theorem dX1_count_78 : decode cX1_count 78 = .ok (.ireturn, 1) := by decide +kernel
theorem dX1_count_79 : decode cX1_count 79 = .ok (.iconst (-1), 1) := by decide +kernel
theorem dX1_count_80 : decode cX1_count 80 = .ok (.ireturn, 1) := by decide +kernel
set_option maxRecDepth 20000 in
theorem ggL_law_X0_init : GoodIn wsL_law wsX0_init := goodIn_r _ [8, 9, 10, 11, 12, 13, 14, 15, 16, 17, 18, 19, 20, 21, 22, 259, 260, 261, 262, 263, 264, 265, 266, 267] (by decide +kernel) (by decide +kernel)
set_option maxRecDepth 20000 in
theorem gL_law_X0_init : GoodIn wsL_law (wsX0_init) := ggL_law_X0_init
set_option maxRecDepth 20000 in
theorem ggL_law_X1_init : GoodIn wsL_law wsX1_init := goodIn_r _ [25, 26, 10, 11, 27, 28, 29, 12, 30, 31, 32, 33, 34, 268, 269, 270, 271, 272, 273, 274, 275, 276] (by decide +kernel) (by decide +kernel)
set_option maxRecDepth 20000 in
theorem gL_law_X1_init : GoodIn wsL_law (wsX1_init) := ggL_law_X1_init
set_option maxRecDepth 20000 in
theorem ggL_law_X0_admit : GoodIn wsL_law wsX0_admit := goodIn_r _ [38, 19, 16, 259, 260, 261, 262, 263, 264, 265, 266, 267] (by decide +kernel) (by decide +kernel)
set_option maxRecDepth 20000 in
theorem gL_law_X0_admit : GoodIn wsL_law (wsV RL 13 RX0 yX0_admit wsX0_admit) := goodIn_app (goodIn_of _ (by decide +kernel)) ggL_law_X0_admit
set_option maxRecDepth 20000 in
theorem ggL_law_X1_admit : GoodIn wsL_law wsX1_admit := goodIn_r _ [42, 43, 30, 31, 32, 268, 269, 270, 271, 272, 273, 274, 275, 276] (by decide +kernel) (by decide +kernel)
set_option maxRecDepth 20000 in
theorem gL_law_X1_admit : GoodIn wsL_law (wsV RL 17 RX1 yX1_admit wsX1_admit) := goodIn_app (goodIn_of _ (by decide +kernel)) ggL_law_X1_admit
set_option maxRecDepth 20000 in
theorem ggL_law_X0_prize : GoodIn wsL_law wsX0_prize := goodIn_r _ [47, 20, 48, 49, 2, 50, 51, 52, 53, 259, 260, 261, 262, 263, 264, 265, 266, 267] (by decide +kernel) (by decide +kernel)
set_option maxRecDepth 20000 in
theorem gL_law_X0_prize : GoodIn wsL_law (wsV RL 18 RX0 yX0_prize wsX0_prize) := goodIn_app (goodIn_of _ (by decide +kernel)) ggL_law_X0_prize
set_option maxRecDepth 20000 in
theorem ggL_law_X1_prize : GoodIn wsL_law wsX1_prize := goodIn_r _ [57, 27, 58, 59, 5, 60, 268, 269, 270, 271, 272, 273, 274, 275, 276] (by decide +kernel) (by decide +kernel)
set_option maxRecDepth 20000 in
theorem gL_law_X1_prize : GoodIn wsL_law (wsV RL 22 RX1 yX1_prize wsX1_prize) := goodIn_app (goodIn_of _ (by decide +kernel)) ggL_law_X1_prize
set_option maxRecDepth 20000 in
theorem ggL_law_X0_frost : GoodIn wsL_law wsX0_frost := goodIn_r _ [64, 22, 65, 66, 2, 67, 51, 52, 53, 259, 260, 261, 262, 263, 264, 265, 266, 267] (by decide +kernel) (by decide +kernel)
set_option maxRecDepth 20000 in
theorem gL_law_X0_frost : GoodIn wsL_law (wsV RL 23 RX0 yX0_frost wsX0_frost) := goodIn_app (goodIn_of _ (by decide +kernel)) ggL_law_X0_frost
set_option maxRecDepth 20000 in
theorem ggL_law_X1_frost : GoodIn wsL_law wsX1_frost := goodIn_r _ [71, 28, 72, 73, 5, 74, 268, 269, 270, 271, 272, 273, 274, 275, 276] (by decide +kernel) (by decide +kernel)
set_option maxRecDepth 20000 in
theorem gL_law_X1_frost : GoodIn wsL_law (wsV RL 26 RX1 yX1_frost wsX1_frost) := goodIn_app (goodIn_of _ (by decide +kernel)) ggL_law_X1_frost
set_option maxRecDepth 20000 in
theorem ggL_law_X0_trial : GoodIn wsL_law wsX0_trial := goodIn_r _ [78, 15, 13, 14, 16, 21, 79, 80, 81, 2, 82, 19, 48, 49, 50, 51, 52, 53, 65, 66, 67, 83, 84, 85, 86, 20, 87, 88, 89, 90, 22, 91, 92, 93, 94, 95, 96, 97, 98, 99, 100, 101, 102, 103, 104, 105, 259, 260, 261, 262, 263, 264, 265, 266, 267] (by decide +kernel) (by decide +kernel)
set_option maxRecDepth 20000 in
theorem gL_law_X0_trial : GoodIn wsL_law (wsV RL 27 RX0 yX0_trial wsX0_trial) := goodIn_app (goodIn_of _ (by decide +kernel)) ggL_law_X0_trial
set_option maxRecDepth 20000 in
theorem ggL_law_X1_trial : GoodIn wsL_law wsX1_trial := goodIn_r _ [109, 30, 33, 34, 27, 31, 29, 110, 111, 112, 5, 113, 43, 58, 59, 60, 72, 73, 74, 114, 115, 116, 117, 28, 118, 119, 120, 121, 122, 123, 268, 269, 270, 271, 272, 273, 274, 275, 276] (by decide +kernel) (by decide +kernel)
set_option maxRecDepth 20000 in
theorem gL_law_X1_trial : GoodIn wsL_law (wsV RL 31 RX1 yX1_trial wsX1_trial) := goodIn_app (goodIn_of _ (by decide +kernel)) ggL_law_X1_trial
set_option maxRecDepth 20000 in
theorem ggL_law_X0_annul : GoodIn wsL_law wsX0_annul := goodIn_r _ [127, 15, 16, 79, 80, 81, 2, 82, 19, 128, 129, 130, 131, 13, 103, 104, 105, 100, 101, 102, 97, 98, 99, 94, 95, 96, 259, 260, 261, 262, 263, 264, 265, 266, 267] (by decide +kernel) (by decide +kernel)
set_option maxRecDepth 20000 in
theorem gL_law_X0_annul : GoodIn wsL_law (wsV RL 32 RX0 yX0_annul wsX0_annul) := goodIn_app (goodIn_of _ (by decide +kernel)) ggL_law_X0_annul
set_option maxRecDepth 20000 in
theorem ggL_law_X1_annul : GoodIn wsL_law wsX1_annul := goodIn_r _ [135, 30, 31, 33, 110, 111, 112, 5, 113, 43, 121, 122, 123, 118, 119, 120, 268, 269, 270, 271, 272, 273, 274, 275, 276] (by decide +kernel) (by decide +kernel)
set_option maxRecDepth 20000 in
theorem gL_law_X1_annul : GoodIn wsL_law (wsV RL 36 RX1 yX1_annul wsX1_annul) := goodIn_app (goodIn_of _ (by decide +kernel)) ggL_law_X1_annul
set_option maxRecDepth 20000 in
theorem ggL_law_X0_place : GoodIn wsL_law wsX0_place := goodIn_r _ [139, 19, 140, 141, 142, 2, 143, 144, 145, 146, 147, 16, 100, 101, 102, 97, 98, 99, 94, 95, 96, 259, 260, 261, 262, 263, 264, 265, 266, 267] (by decide +kernel) (by decide +kernel)
set_option maxRecDepth 20000 in
theorem gL_law_X0_place : GoodIn wsL_law (wsV RL 37 RX0 yX0_place wsX0_place) := goodIn_app (goodIn_of _ (by decide +kernel)) ggL_law_X0_place
set_option maxRecDepth 20000 in
theorem ggL_law_X1_place : GoodIn wsL_law wsX1_place := goodIn_r _ [151, 43, 152, 153, 154, 5, 155, 156, 157, 158, 159, 31, 121, 122, 123, 118, 119, 120, 268, 269, 270, 271, 272, 273, 274, 275, 276] (by decide +kernel) (by decide +kernel)
set_option maxRecDepth 20000 in
theorem gL_law_X1_place : GoodIn wsL_law (wsV RL 40 RX1 yX1_place wsX1_place) := goodIn_app (goodIn_of _ (by decide +kernel)) ggL_law_X1_place
set_option maxRecDepth 20000 in
theorem ggL_law_X0_tell : GoodIn wsL_law wsX0_tell := goodIn_r _ [163, 15, 16, 18, 79, 80, 81, 2, 82, 19, 164, 165, 166, 167, 100, 101, 102, 97, 98, 99, 94, 95, 96, 168, 169, 170, 171, 172, 173, 174, 14, 103, 104, 105, 87, 88, 89, 90, 22, 91, 92, 93, 175, 176, 177, 178, 13, 179, 180, 181, 182, 259, 260, 261, 262, 263, 264, 265, 266, 267] (by decide +kernel) (by decide +kernel)
set_option maxRecDepth 20000 in
theorem gL_law_X0_tell : GoodIn wsL_law (wsV RL 41 RX0 yX0_tell wsX0_tell) := goodIn_app (goodIn_of _ (by decide +kernel)) ggL_law_X0_tell
set_option maxRecDepth 20000 in
theorem ggL_law_X1_tell : GoodIn wsL_law wsX1_tell := goodIn_r _ [186, 30, 31, 32, 110, 111, 112, 5, 113, 43, 187, 188, 189, 190, 118, 119, 120, 191, 192, 193, 194, 34, 114, 115, 116, 117, 28, 195, 196, 197, 198, 33, 199, 200, 201, 202, 268, 269, 270, 271, 272, 273, 274, 275, 276] (by decide +kernel) (by decide +kernel)
set_option maxRecDepth 20000 in
theorem gL_law_X1_tell : GoodIn wsL_law (wsV RL 45 RX1 yX1_tell wsX1_tell) := goodIn_app (goodIn_of _ (by decide +kernel)) ggL_law_X1_tell
set_option maxRecDepth 20000 in
theorem ggL_law_X0_ask : GoodIn wsL_law wsX0_ask := goodIn_r _ [206, 18, 51, 52, 2, 53, 79, 80, 81, 82, 19, 207, 208, 209, 210, 16, 97, 98, 99, 94, 95, 96, 179, 180, 181, 182, 15, 14, 103, 104, 105, 91, 92, 93, 168, 169, 170, 211, 212, 213, 214, 215, 216, 217, 218, 219, 220, 221, 259, 260, 261, 262, 263, 264, 265, 266, 267] (by decide +kernel) (by decide +kernel)
set_option maxRecDepth 20000 in
theorem gL_law_X0_ask : GoodIn wsL_law (wsV RL 46 RX0 yX0_ask wsX0_ask) := goodIn_app (goodIn_of _ (by decide +kernel)) ggL_law_X0_ask
set_option maxRecDepth 20000 in
theorem ggL_law_X1_ask : GoodIn wsL_law wsX1_ask := goodIn_r _ [225, 43, 32, 110, 111, 112, 5, 113, 226, 227, 228, 229, 31, 118, 119, 120, 199, 200, 201, 202, 30, 34, 230, 231, 232, 233, 268, 269, 270, 271, 272, 273, 274, 275, 276] (by decide +kernel) (by decide +kernel)
set_option maxRecDepth 20000 in
theorem gL_law_X1_ask : GoodIn wsL_law (wsV RL 50 RX1 yX1_ask wsX1_ask) := goodIn_app (goodIn_of _ (by decide +kernel)) ggL_law_X1_ask
set_option maxRecDepth 20000 in
theorem ggL_law_X0_count : GoodIn wsL_law wsX0_count := goodIn_r _ [237, 19, 21, 20, 22, 238, 239, 240, 2, 241, 15, 215, 216, 217, 218, 18, 168, 169, 170, 242, 243, 244, 245, 16, 100, 101, 102, 97, 98, 99, 94, 95, 96, 259, 260, 261, 262, 263, 264, 265, 266, 267] (by decide +kernel) (by decide +kernel)
set_option maxRecDepth 20000 in
theorem gL_law_X0_count : GoodIn wsL_law (wsV RL 51 RX0 yX0_count wsX0_count) := goodIn_app (goodIn_of _ (by decide +kernel)) ggL_law_X0_count
set_option maxRecDepth 20000 in
theorem ggL_law_X1_count : GoodIn wsL_law wsX1_count := goodIn_r _ [249, 43, 29, 27, 28, 250, 251, 252, 5, 253, 30, 230, 231, 232, 233, 32, 254, 255, 256, 257, 31, 258, 149, 150, 151, 152, 153, 154, 155, 156, 157, 158, 159, 121, 122, 123, 118, 119, 120, 268, 269, 270, 271, 272, 273, 274, 275, 276] (by decide +kernel) (by decide +kernel)
set_option maxRecDepth 20000 in
theorem gL_law_X1_count : GoodIn wsL_law (wsV RL 54 RX1 yX1_count wsX1_count) := goodIn_app (goodIn_of _ (by decide +kernel)) ggL_law_X1_count
theorem dL_law_0 : decode cL_law 0 = .ok (.new 7, 3) := by decide +kernel
theorem dL_law_3 : decode cL_law 3 = .ok (.dup, 1) := by decide +kernel
theorem dL_law_4 : decode cL_law 4 = .ok (.invokespecial 9, 3) := by decide +kernel
theorem dL_law_7 : decode cL_law 7 = .ok (.astore_n 1, 1) := by decide +kernel
theorem dL_law_8 : decode cL_law 8 = .ok (.new 10, 3) := by decide +kernel
theorem dL_law_11 : decode cL_law 11 = .ok (.dup, 1) := by decide +kernel
theorem dL_law_12 : decode cL_law 12 = .ok (.invokespecial 12, 3) := by decide +kernel
theorem dL_law_15 : decode cL_law 15 = .ok (.astore_n 2, 1) := by decide +kernel
theorem dL_law_16 : decode cL_law 16 = .ok (.iconst 0, 1) := by decide +kernel
theorem dL_law_17 : decode cL_law 17 = .ok (.istore_n 3, 1) := by decide +kernel
theorem dL_law_18 : decode cL_law 18 = .ok (.iload_n 3, 1) := by decide +kernel
theorem dL_law_19 : decode cL_law 19 = .ok (.aload_n 0, 1) := by decide +kernel
theorem dL_law_20 : decode cL_law 20 = .ok (.arraylength, 1) := by decide +kernel
theorem dL_law_21 : decode cL_law 21 = .ok (.bipush 6, 2) := by decide +kernel
theorem dL_law_23 : decode cL_law 23 = .ok (.isub, 1) := by decide +kernel
theorem dL_law_24 : decode cL_law 24 = .ok (.if_icmp .gt 333, 3) := by decide +kernel
theorem dL_law_27 : decode cL_law 27 = .ok (.aload_n 0, 1) := by decide +kernel
theorem dL_law_28 : decode cL_law 28 = .ok (.iload_n 3, 1) := by decide +kernel
theorem dL_law_29 : decode cL_law 29 = .ok (.iaload, 1) := by decide +kernel
theorem dL_law_30 : decode cL_law 30 = .ok (.bipush 15, 2) := by decide +kernel
theorem dL_law_32 : decode cL_law 32 = .ok (.iand, 1) := by decide +kernel
theorem dL_law_33 : decode cL_law 33 = .ok (.tableswitch 318 0 8 #[51, 64, 87, 110, 153, 176, 199, 232, 295], 51) := by decide +kernel
theorem dL_law_84 : decode cL_law 84 = .ok (.aload_n 1, 1) := by decide +kernel
theorem dL_law_85 : decode cL_law 85 = .ok (.invokevirtual 13, 3) := by decide +kernel
theorem dL_law_88 : decode cL_law 88 = .ok (.aload_n 2, 1) := by decide +kernel
theorem dL_law_89 : decode cL_law 89 = .ok (.invokevirtual 17, 3) := by decide +kernel
theorem dL_law_92 : decode cL_law 92 = .ok (.if_icmp .eq 259, 3) := by decide +kernel
theorem dL_law_95 : decode cL_law 95 = .ok (.iconst 0, 1) := by decide +kernel
theorem dL_law_96 : decode cL_law 96 = .ok (.ireturn, 1) := by decide +kernel
theorem dL_law_97 : decode cL_law 97 = .ok (.aload_n 1, 1) := by decide +kernel
theorem dL_law_98 : decode cL_law 98 = .ok (.aload_n 0, 1) := by decide +kernel
theorem dL_law_99 : decode cL_law 99 = .ok (.iload_n 3, 1) := by decide +kernel
theorem dL_law_100 : decode cL_law 100 = .ok (.iconst 1, 1) := by decide +kernel
theorem dL_law_101 : decode cL_law 101 = .ok (.iadd, 1) := by decide +kernel
theorem dL_law_102 : decode cL_law 102 = .ok (.iaload, 1) := by decide +kernel
theorem dL_law_103 : decode cL_law 103 = .ok (.invokevirtual 18, 3) := by decide +kernel
theorem dL_law_106 : decode cL_law 106 = .ok (.aload_n 2, 1) := by decide +kernel
theorem dL_law_107 : decode cL_law 107 = .ok (.aload_n 0, 1) := by decide +kernel
theorem dL_law_108 : decode cL_law 108 = .ok (.iload_n 3, 1) := by decide +kernel
theorem dL_law_109 : decode cL_law 109 = .ok (.iconst 1, 1) := by decide +kernel
theorem dL_law_110 : decode cL_law 110 = .ok (.iadd, 1) := by decide +kernel
theorem dL_law_111 : decode cL_law 111 = .ok (.iaload, 1) := by decide +kernel
theorem dL_law_112 : decode cL_law 112 = .ok (.invokevirtual 22, 3) := by decide +kernel
theorem dL_law_115 : decode cL_law 115 = .ok (.if_icmp .eq 236, 3) := by decide +kernel
theorem dL_law_118 : decode cL_law 118 = .ok (.iconst 0, 1) := by decide +kernel
theorem dL_law_119 : decode cL_law 119 = .ok (.ireturn, 1) := by decide +kernel
theorem dL_law_120 : decode cL_law 120 = .ok (.aload_n 1, 1) := by decide +kernel
theorem dL_law_121 : decode cL_law 121 = .ok (.aload_n 0, 1) := by decide +kernel
theorem dL_law_122 : decode cL_law 122 = .ok (.iload_n 3, 1) := by decide +kernel
theorem dL_law_123 : decode cL_law 123 = .ok (.iconst 1, 1) := by decide +kernel
theorem dL_law_124 : decode cL_law 124 = .ok (.iadd, 1) := by decide +kernel
theorem dL_law_125 : decode cL_law 125 = .ok (.iaload, 1) := by decide +kernel
theorem dL_law_126 : decode cL_law 126 = .ok (.invokevirtual 23, 3) := by decide +kernel
theorem dL_law_129 : decode cL_law 129 = .ok (.aload_n 2, 1) := by decide +kernel
theorem dL_law_130 : decode cL_law 130 = .ok (.aload_n 0, 1) := by decide +kernel
theorem dL_law_131 : decode cL_law 131 = .ok (.iload_n 3, 1) := by decide +kernel
theorem dL_law_132 : decode cL_law 132 = .ok (.iconst 1, 1) := by decide +kernel
theorem dL_law_133 : decode cL_law 133 = .ok (.iadd, 1) := by decide +kernel
theorem dL_law_134 : decode cL_law 134 = .ok (.iaload, 1) := by decide +kernel
theorem dL_law_135 : decode cL_law 135 = .ok (.invokevirtual 26, 3) := by decide +kernel
theorem dL_law_138 : decode cL_law 138 = .ok (.if_icmp .eq 213, 3) := by decide +kernel
theorem dL_law_141 : decode cL_law 141 = .ok (.iconst 0, 1) := by decide +kernel
theorem dL_law_142 : decode cL_law 142 = .ok (.ireturn, 1) := by decide +kernel
theorem dL_law_143 : decode cL_law 143 = .ok (.aload_n 1, 1) := by decide +kernel
theorem dL_law_144 : decode cL_law 144 = .ok (.aload_n 0, 1) := by decide +kernel
theorem dL_law_145 : decode cL_law 145 = .ok (.iload_n 3, 1) := by decide +kernel
theorem dL_law_146 : decode cL_law 146 = .ok (.iconst 1, 1) := by decide +kernel
theorem dL_law_147 : decode cL_law 147 = .ok (.iadd, 1) := by decide +kernel
theorem dL_law_148 : decode cL_law 148 = .ok (.iaload, 1) := by decide +kernel
theorem dL_law_149 : decode cL_law 149 = .ok (.aload_n 0, 1) := by decide +kernel
theorem dL_law_150 : decode cL_law 150 = .ok (.iload_n 3, 1) := by decide +kernel
theorem dL_law_151 : decode cL_law 151 = .ok (.iconst 2, 1) := by decide +kernel
theorem dL_law_152 : decode cL_law 152 = .ok (.iadd, 1) := by decide +kernel
theorem dL_law_153 : decode cL_law 153 = .ok (.iaload, 1) := by decide +kernel
theorem dL_law_154 : decode cL_law 154 = .ok (.aload_n 0, 1) := by decide +kernel
theorem dL_law_155 : decode cL_law 155 = .ok (.iload_n 3, 1) := by decide +kernel
theorem dL_law_156 : decode cL_law 156 = .ok (.iconst 3, 1) := by decide +kernel
theorem dL_law_157 : decode cL_law 157 = .ok (.iadd, 1) := by decide +kernel
theorem dL_law_158 : decode cL_law 158 = .ok (.iaload, 1) := by decide +kernel
theorem dL_law_159 : decode cL_law 159 = .ok (.invokevirtual 27, 3) := by decide +kernel
theorem dL_law_162 : decode cL_law 162 = .ok (.aload_n 2, 1) := by decide +kernel
theorem dL_law_163 : decode cL_law 163 = .ok (.aload_n 0, 1) := by decide +kernel
theorem dL_law_164 : decode cL_law 164 = .ok (.iload_n 3, 1) := by decide +kernel
theorem dL_law_165 : decode cL_law 165 = .ok (.iconst 1, 1) := by decide +kernel
theorem dL_law_166 : decode cL_law 166 = .ok (.iadd, 1) := by decide +kernel
theorem dL_law_167 : decode cL_law 167 = .ok (.iaload, 1) := by decide +kernel
theorem dL_law_168 : decode cL_law 168 = .ok (.aload_n 0, 1) := by decide +kernel
theorem dL_law_169 : decode cL_law 169 = .ok (.iload_n 3, 1) := by decide +kernel
theorem dL_law_170 : decode cL_law 170 = .ok (.iconst 2, 1) := by decide +kernel
theorem dL_law_171 : decode cL_law 171 = .ok (.iadd, 1) := by decide +kernel
theorem dL_law_172 : decode cL_law 172 = .ok (.iaload, 1) := by decide +kernel
theorem dL_law_173 : decode cL_law 173 = .ok (.aload_n 0, 1) := by decide +kernel
theorem dL_law_174 : decode cL_law 174 = .ok (.iload_n 3, 1) := by decide +kernel
theorem dL_law_175 : decode cL_law 175 = .ok (.iconst 3, 1) := by decide +kernel
theorem dL_law_176 : decode cL_law 176 = .ok (.iadd, 1) := by decide +kernel
theorem dL_law_177 : decode cL_law 177 = .ok (.iaload, 1) := by decide +kernel
theorem dL_law_178 : decode cL_law 178 = .ok (.invokevirtual 31, 3) := by decide +kernel
theorem dL_law_181 : decode cL_law 181 = .ok (.if_icmp .eq 170, 3) := by decide +kernel
theorem dL_law_184 : decode cL_law 184 = .ok (.iconst 0, 1) := by decide +kernel
theorem dL_law_185 : decode cL_law 185 = .ok (.ireturn, 1) := by decide +kernel
theorem dL_law_186 : decode cL_law 186 = .ok (.aload_n 1, 1) := by decide +kernel
theorem dL_law_187 : decode cL_law 187 = .ok (.aload_n 0, 1) := by decide +kernel
theorem dL_law_188 : decode cL_law 188 = .ok (.iload_n 3, 1) := by decide +kernel
theorem dL_law_189 : decode cL_law 189 = .ok (.iconst 1, 1) := by decide +kernel
theorem dL_law_190 : decode cL_law 190 = .ok (.iadd, 1) := by decide +kernel
theorem dL_law_191 : decode cL_law 191 = .ok (.iaload, 1) := by decide +kernel
theorem dL_law_192 : decode cL_law 192 = .ok (.invokevirtual 32, 3) := by decide +kernel
theorem dL_law_195 : decode cL_law 195 = .ok (.aload_n 2, 1) := by decide +kernel
theorem dL_law_196 : decode cL_law 196 = .ok (.aload_n 0, 1) := by decide +kernel
theorem dL_law_197 : decode cL_law 197 = .ok (.iload_n 3, 1) := by decide +kernel
theorem dL_law_198 : decode cL_law 198 = .ok (.iconst 1, 1) := by decide +kernel
theorem dL_law_199 : decode cL_law 199 = .ok (.iadd, 1) := by decide +kernel
theorem dL_law_200 : decode cL_law 200 = .ok (.iaload, 1) := by decide +kernel
theorem dL_law_201 : decode cL_law 201 = .ok (.invokevirtual 36, 3) := by decide +kernel
theorem dL_law_204 : decode cL_law 204 = .ok (.if_icmp .eq 147, 3) := by decide +kernel
theorem dL_law_207 : decode cL_law 207 = .ok (.iconst 0, 1) := by decide +kernel
theorem dL_law_208 : decode cL_law 208 = .ok (.ireturn, 1) := by decide +kernel
theorem dL_law_209 : decode cL_law 209 = .ok (.aload_n 1, 1) := by decide +kernel
theorem dL_law_210 : decode cL_law 210 = .ok (.aload_n 0, 1) := by decide +kernel
theorem dL_law_211 : decode cL_law 211 = .ok (.iload_n 3, 1) := by decide +kernel
theorem dL_law_212 : decode cL_law 212 = .ok (.iconst 1, 1) := by decide +kernel
theorem dL_law_213 : decode cL_law 213 = .ok (.iadd, 1) := by decide +kernel
theorem dL_law_214 : decode cL_law 214 = .ok (.iaload, 1) := by decide +kernel
theorem dL_law_215 : decode cL_law 215 = .ok (.invokevirtual 37, 3) := by decide +kernel
theorem dL_law_218 : decode cL_law 218 = .ok (.aload_n 2, 1) := by decide +kernel
theorem dL_law_219 : decode cL_law 219 = .ok (.aload_n 0, 1) := by decide +kernel
theorem dL_law_220 : decode cL_law 220 = .ok (.iload_n 3, 1) := by decide +kernel
theorem dL_law_221 : decode cL_law 221 = .ok (.iconst 1, 1) := by decide +kernel
theorem dL_law_222 : decode cL_law 222 = .ok (.iadd, 1) := by decide +kernel
theorem dL_law_223 : decode cL_law 223 = .ok (.iaload, 1) := by decide +kernel
theorem dL_law_224 : decode cL_law 224 = .ok (.invokevirtual 40, 3) := by decide +kernel
theorem dL_law_227 : decode cL_law 227 = .ok (.if_icmp .eq 124, 3) := by decide +kernel
theorem dL_law_230 : decode cL_law 230 = .ok (.iconst 0, 1) := by decide +kernel
theorem dL_law_231 : decode cL_law 231 = .ok (.ireturn, 1) := by decide +kernel
theorem dL_law_232 : decode cL_law 232 = .ok (.aload_n 1, 1) := by decide +kernel
theorem dL_law_233 : decode cL_law 233 = .ok (.aload_n 0, 1) := by decide +kernel
theorem dL_law_234 : decode cL_law 234 = .ok (.iload_n 3, 1) := by decide +kernel
theorem dL_law_235 : decode cL_law 235 = .ok (.iconst 1, 1) := by decide +kernel
theorem dL_law_236 : decode cL_law 236 = .ok (.iadd, 1) := by decide +kernel
theorem dL_law_237 : decode cL_law 237 = .ok (.iaload, 1) := by decide +kernel
theorem dL_law_238 : decode cL_law 238 = .ok (.aload_n 0, 1) := by decide +kernel
theorem dL_law_239 : decode cL_law 239 = .ok (.iload_n 3, 1) := by decide +kernel
theorem dL_law_240 : decode cL_law 240 = .ok (.iconst 2, 1) := by decide +kernel
theorem dL_law_241 : decode cL_law 241 = .ok (.iadd, 1) := by decide +kernel
theorem dL_law_242 : decode cL_law 242 = .ok (.iaload, 1) := by decide +kernel
theorem dL_law_243 : decode cL_law 243 = .ok (.invokevirtual 41, 3) := by decide +kernel
theorem dL_law_246 : decode cL_law 246 = .ok (.aload_n 2, 1) := by decide +kernel
theorem dL_law_247 : decode cL_law 247 = .ok (.aload_n 0, 1) := by decide +kernel
theorem dL_law_248 : decode cL_law 248 = .ok (.iload_n 3, 1) := by decide +kernel
theorem dL_law_249 : decode cL_law 249 = .ok (.iconst 1, 1) := by decide +kernel
theorem dL_law_250 : decode cL_law 250 = .ok (.iadd, 1) := by decide +kernel
theorem dL_law_251 : decode cL_law 251 = .ok (.iaload, 1) := by decide +kernel
theorem dL_law_252 : decode cL_law 252 = .ok (.aload_n 0, 1) := by decide +kernel
theorem dL_law_253 : decode cL_law 253 = .ok (.iload_n 3, 1) := by decide +kernel
theorem dL_law_254 : decode cL_law 254 = .ok (.iconst 2, 1) := by decide +kernel
theorem dL_law_255 : decode cL_law 255 = .ok (.iadd, 1) := by decide +kernel
theorem dL_law_256 : decode cL_law 256 = .ok (.iaload, 1) := by decide +kernel
theorem dL_law_257 : decode cL_law 257 = .ok (.invokevirtual 45, 3) := by decide +kernel
theorem dL_law_260 : decode cL_law 260 = .ok (.if_icmp .eq 91, 3) := by decide +kernel
theorem dL_law_263 : decode cL_law 263 = .ok (.iconst 0, 1) := by decide +kernel
theorem dL_law_264 : decode cL_law 264 = .ok (.ireturn, 1) := by decide +kernel
theorem dL_law_265 : decode cL_law 265 = .ok (.aload_n 1, 1) := by decide +kernel
theorem dL_law_266 : decode cL_law 266 = .ok (.aload_n 0, 1) := by decide +kernel
theorem dL_law_267 : decode cL_law 267 = .ok (.iload_n 3, 1) := by decide +kernel
theorem dL_law_268 : decode cL_law 268 = .ok (.iconst 1, 1) := by decide +kernel
theorem dL_law_269 : decode cL_law 269 = .ok (.iadd, 1) := by decide +kernel
theorem dL_law_270 : decode cL_law 270 = .ok (.iaload, 1) := by decide +kernel
theorem dL_law_271 : decode cL_law 271 = .ok (.aload_n 0, 1) := by decide +kernel
theorem dL_law_272 : decode cL_law 272 = .ok (.iload_n 3, 1) := by decide +kernel
theorem dL_law_273 : decode cL_law 273 = .ok (.iconst 2, 1) := by decide +kernel
theorem dL_law_274 : decode cL_law 274 = .ok (.iadd, 1) := by decide +kernel
theorem dL_law_275 : decode cL_law 275 = .ok (.iaload, 1) := by decide +kernel
theorem dL_law_276 : decode cL_law 276 = .ok (.aload_n 0, 1) := by decide +kernel
theorem dL_law_277 : decode cL_law 277 = .ok (.iload_n 3, 1) := by decide +kernel
theorem dL_law_278 : decode cL_law 278 = .ok (.iconst 3, 1) := by decide +kernel
theorem dL_law_279 : decode cL_law 279 = .ok (.iadd, 1) := by decide +kernel
theorem dL_law_280 : decode cL_law 280 = .ok (.iaload, 1) := by decide +kernel
theorem dL_law_281 : decode cL_law 281 = .ok (.aload_n 0, 1) := by decide +kernel
theorem dL_law_282 : decode cL_law 282 = .ok (.iload_n 3, 1) := by decide +kernel
theorem dL_law_283 : decode cL_law 283 = .ok (.iconst 4, 1) := by decide +kernel
theorem dL_law_284 : decode cL_law 284 = .ok (.iadd, 1) := by decide +kernel
theorem dL_law_285 : decode cL_law 285 = .ok (.iaload, 1) := by decide +kernel
theorem dL_law_286 : decode cL_law 286 = .ok (.aload_n 0, 1) := by decide +kernel
theorem dL_law_287 : decode cL_law 287 = .ok (.iload_n 3, 1) := by decide +kernel
theorem dL_law_288 : decode cL_law 288 = .ok (.iconst 5, 1) := by decide +kernel
theorem dL_law_289 : decode cL_law 289 = .ok (.iadd, 1) := by decide +kernel
theorem dL_law_290 : decode cL_law 290 = .ok (.iaload, 1) := by decide +kernel
theorem dL_law_291 : decode cL_law 291 = .ok (.invokevirtual 46, 3) := by decide +kernel
theorem dL_law_294 : decode cL_law 294 = .ok (.aload_n 2, 1) := by decide +kernel
theorem dL_law_295 : decode cL_law 295 = .ok (.aload_n 0, 1) := by decide +kernel
theorem dL_law_296 : decode cL_law 296 = .ok (.iload_n 3, 1) := by decide +kernel
theorem dL_law_297 : decode cL_law 297 = .ok (.iconst 1, 1) := by decide +kernel
theorem dL_law_298 : decode cL_law 298 = .ok (.iadd, 1) := by decide +kernel
theorem dL_law_299 : decode cL_law 299 = .ok (.iaload, 1) := by decide +kernel
theorem dL_law_300 : decode cL_law 300 = .ok (.aload_n 0, 1) := by decide +kernel
theorem dL_law_301 : decode cL_law 301 = .ok (.iload_n 3, 1) := by decide +kernel
theorem dL_law_302 : decode cL_law 302 = .ok (.iconst 2, 1) := by decide +kernel
theorem dL_law_303 : decode cL_law 303 = .ok (.iadd, 1) := by decide +kernel
theorem dL_law_304 : decode cL_law 304 = .ok (.iaload, 1) := by decide +kernel
theorem dL_law_305 : decode cL_law 305 = .ok (.aload_n 0, 1) := by decide +kernel
theorem dL_law_306 : decode cL_law 306 = .ok (.iload_n 3, 1) := by decide +kernel
theorem dL_law_307 : decode cL_law 307 = .ok (.iconst 3, 1) := by decide +kernel
theorem dL_law_308 : decode cL_law 308 = .ok (.iadd, 1) := by decide +kernel
theorem dL_law_309 : decode cL_law 309 = .ok (.iaload, 1) := by decide +kernel
theorem dL_law_310 : decode cL_law 310 = .ok (.aload_n 0, 1) := by decide +kernel
theorem dL_law_311 : decode cL_law 311 = .ok (.iload_n 3, 1) := by decide +kernel
theorem dL_law_312 : decode cL_law 312 = .ok (.iconst 4, 1) := by decide +kernel
theorem dL_law_313 : decode cL_law 313 = .ok (.iadd, 1) := by decide +kernel
theorem dL_law_314 : decode cL_law 314 = .ok (.iaload, 1) := by decide +kernel
theorem dL_law_315 : decode cL_law 315 = .ok (.aload_n 0, 1) := by decide +kernel
theorem dL_law_316 : decode cL_law 316 = .ok (.iload_n 3, 1) := by decide +kernel
theorem dL_law_317 : decode cL_law 317 = .ok (.iconst 5, 1) := by decide +kernel
theorem dL_law_318 : decode cL_law 318 = .ok (.iadd, 1) := by decide +kernel
theorem dL_law_319 : decode cL_law 319 = .ok (.iaload, 1) := by decide +kernel
theorem dL_law_320 : decode cL_law 320 = .ok (.invokevirtual 50, 3) := by decide +kernel
theorem dL_law_323 : decode cL_law 323 = .ok (.if_icmp .eq 28, 3) := by decide +kernel
theorem dL_law_326 : decode cL_law 326 = .ok (.iconst 0, 1) := by decide +kernel
theorem dL_law_327 : decode cL_law 327 = .ok (.ireturn, 1) := by decide +kernel
theorem dL_law_328 : decode cL_law 328 = .ok (.aload_n 1, 1) := by decide +kernel
theorem dL_law_329 : decode cL_law 329 = .ok (.aload_n 0, 1) := by decide +kernel
theorem dL_law_330 : decode cL_law 330 = .ok (.iload_n 3, 1) := by decide +kernel
theorem dL_law_331 : decode cL_law 331 = .ok (.iconst 1, 1) := by decide +kernel
theorem dL_law_332 : decode cL_law 332 = .ok (.iadd, 1) := by decide +kernel
theorem dL_law_333 : decode cL_law 333 = .ok (.iaload, 1) := by decide +kernel
theorem dL_law_334 : decode cL_law 334 = .ok (.invokevirtual 51, 3) := by decide +kernel
theorem dL_law_337 : decode cL_law 337 = .ok (.aload_n 2, 1) := by decide +kernel
theorem dL_law_338 : decode cL_law 338 = .ok (.aload_n 0, 1) := by decide +kernel
theorem dL_law_339 : decode cL_law 339 = .ok (.iload_n 3, 1) := by decide +kernel
theorem dL_law_340 : decode cL_law 340 = .ok (.iconst 1, 1) := by decide +kernel
theorem dL_law_341 : decode cL_law 341 = .ok (.iadd, 1) := by decide +kernel
theorem dL_law_342 : decode cL_law 342 = .ok (.iaload, 1) := by decide +kernel
theorem dL_law_343 : decode cL_law 343 = .ok (.invokevirtual 54, 3) := by decide +kernel
theorem dL_law_346 : decode cL_law 346 = .ok (.if_icmp .eq 5, 3) := by decide +kernel
theorem dL_law_349 : decode cL_law 349 = .ok (.iconst 0, 1) := by decide +kernel
theorem dL_law_350 : decode cL_law 350 = .ok (.ireturn, 1) := by decide +kernel
theorem dL_law_351 : decode cL_law 351 = .ok (.iinc 3 6, 3) := by decide +kernel
theorem dL_law_354 : decode cL_law 354 = .ok (.goto (-336), 3) := by decide +kernel
theorem dL_law_357 : decode cL_law 357 = .ok (.iconst 1, 1) := by decide +kernel
theorem dL_law_358 : decode cL_law 358 = .ok (.ireturn, 1) := by decide +kernel
abbrev vwCl : List vw_C := [(RX0, TX0, 9), (RX1, TX1, 9)]
