set_option maxRecDepth 20000 in
theorem ggX0_coldTrials_X0_slot : GoodIn wsX0_coldTrials wsX0_slot := goodIn_r _ [6] (by decide +kernel) (by decide +kernel)
set_option maxRecDepth 20000 in
theorem gX0_coldTrials_X0_slot : GoodIn wsX0_coldTrials (va_wsS RX0 53 yX0_slot wsX0_slot) := goodIn_app (goodIn_of _ (by decide +kernel)) ggX0_coldTrials_X0_slot
set_option maxRecDepth 20000 in
theorem ggX0_coldTrials_X0_isCold : GoodIn wsX0_coldTrials wsX0_isCold := goodIn_r _ [10, 11, 12, 13, 5, 14, 15, 16, 17, 18, 19, 20, 21, 22, 23, 24, 25, 26] (by decide +kernel) (by decide +kernel)
set_option maxRecDepth 20000 in
theorem gX0_coldTrials_X0_isCold : GoodIn wsX0_coldTrials (wsV RX0 115 RX0 yX0_isCold wsX0_isCold) := goodIn_app (goodIn_of _ (by decide +kernel)) ggX0_coldTrials_X0_isCold
theorem dX0_coldTrials_0 : decode cX0_coldTrials 0 = .ok (.iconst 0, 1) := by decide +kernel
theorem dX0_coldTrials_1 : decode cX0_coldTrials 1 = .ok (.istore_n 2, 1) := by decide +kernel
theorem dX0_coldTrials_2 : decode cX0_coldTrials 2 = .ok (.iconst 0, 1) := by decide +kernel
theorem dX0_coldTrials_3 : decode cX0_coldTrials 3 = .ok (.istore_n 3, 1) := by decide +kernel
theorem dX0_coldTrials_4 : decode cX0_coldTrials 4 = .ok (.iload_n 3, 1) := by decide +kernel
theorem dX0_coldTrials_5 : decode cX0_coldTrials 5 = .ok (.aload_n 0, 1) := by decide +kernel
theorem dX0_coldTrials_6 : decode cX0_coldTrials 6 = .ok (.getfield 16, 3) := by decide +kernel
theorem dX0_coldTrials_9 : decode cX0_coldTrials 9 = .ok (.iload_n 1, 1) := by decide +kernel
theorem dX0_coldTrials_10 : decode cX0_coldTrials 10 = .ok (.iaload, 1) := by decide +kernel
theorem dX0_coldTrials_11 : decode cX0_coldTrials 11 = .ok (.if_icmp .ge 29, 3) := by decide +kernel
theorem dX0_coldTrials_14 : decode cX0_coldTrials 14 = .ok (.aload_n 0, 1) := by decide +kernel
theorem dX0_coldTrials_15 : decode cX0_coldTrials 15 = .ok (.aload_n 0, 1) := by decide +kernel
theorem dX0_coldTrials_16 : decode cX0_coldTrials 16 = .ok (.getfield 13, 3) := by decide +kernel
theorem dX0_coldTrials_19 : decode cX0_coldTrials 19 = .ok (.iload_n 1, 1) := by decide +kernel
theorem dX0_coldTrials_20 : decode cX0_coldTrials 20 = .ok (.iload_n 3, 1) := by decide +kernel
theorem dX0_coldTrials_21 : decode cX0_coldTrials 21 = .ok (.invokestatic 53, 3) := by decide +kernel
theorem dX0_coldTrials_24 : decode cX0_coldTrials 24 = .ok (.iaload, 1) := by decide +kernel
theorem dX0_coldTrials_25 : decode cX0_coldTrials 25 = .ok (.invokevirtual 115, 3) := by decide +kernel
theorem dX0_coldTrials_28 : decode cX0_coldTrials 28 = .ok (.ifCond .eq 6, 3) := by decide +kernel
theorem dX0_coldTrials_31 : decode cX0_coldTrials 31 = .ok (.iinc 2 1, 3) := by decide +kernel
theorem dX0_coldTrials_34 : decode cX0_coldTrials 34 = .ok (.iinc 3 1, 3) := by decide +kernel
theorem dX0_coldTrials_37 : decode cX0_coldTrials 37 = .ok (.goto (-33), 3) := by decide +kernel
theorem dX0_coldTrials_40 : decode cX0_coldTrials 40 = .ok (.iload_n 2, 1) := by decide +kernel
theorem dX0_coldTrials_41 : decode cX0_coldTrials 41 = .ok (.ireturn, 1) := by decide +kernel
set_option maxRecDepth 20000 in
theorem ggX0_trialsAheadOfBest_X0_slot : GoodIn wsX0_trialsAheadOfBest wsX0_slot := goodIn_r _ [7] (by decide +kernel) (by decide +kernel)
set_option maxRecDepth 20000 in
theorem gX0_trialsAheadOfBest_X0_slot : GoodIn wsX0_trialsAheadOfBest (va_wsS RX0 53 yX0_slot wsX0_slot) := goodIn_app (goodIn_of _ (by decide +kernel)) ggX0_trialsAheadOfBest_X0_slot
set_option maxRecDepth 20000 in
theorem ggX0_trialsAheadOfBest_X0_holdsOfRates : GoodIn wsX0_trialsAheadOfBest wsX0_holdsOfRates := goodIn_r _ [10, 11, 12, 6, 13] (by decide +kernel) (by decide +kernel)
set_option maxRecDepth 20000 in
theorem gX0_trialsAheadOfBest_X0_holdsOfRates : GoodIn wsX0_trialsAheadOfBest (va_wsS RX0 109 yX0_holdsOfRates wsX0_holdsOfRates) := goodIn_app (goodIn_of _ (by decide +kernel)) ggX0_trialsAheadOfBest_X0_holdsOfRates
theorem dX0_trialsAheadOfBest_0 : decode cX0_trialsAheadOfBest 0 = .ok (.iconst 0, 1) := by decide +kernel
theorem dX0_trialsAheadOfBest_1 : decode cX0_trialsAheadOfBest 1 = .ok (.istore_n 2, 1) := by decide +kernel
theorem dX0_trialsAheadOfBest_2 : decode cX0_trialsAheadOfBest 2 = .ok (.iload_n 2, 1) := by decide +kernel
theorem dX0_trialsAheadOfBest_3 : decode cX0_trialsAheadOfBest 3 = .ok (.aload_n 0, 1) := by decide +kernel
theorem dX0_trialsAheadOfBest_4 : decode cX0_trialsAheadOfBest 4 = .ok (.getfield 16, 3) := by decide +kernel
theorem dX0_trialsAheadOfBest_7 : decode cX0_trialsAheadOfBest 7 = .ok (.iload_n 1, 1) := by decide +kernel
theorem dX0_trialsAheadOfBest_8 : decode cX0_trialsAheadOfBest 8 = .ok (.iaload, 1) := by decide +kernel
theorem dX0_trialsAheadOfBest_9 : decode cX0_trialsAheadOfBest 9 = .ok (.if_icmp .ge 32, 3) := by decide +kernel
theorem dX0_trialsAheadOfBest_12 : decode cX0_trialsAheadOfBest 12 = .ok (.iconst 2, 1) := by decide +kernel
theorem dX0_trialsAheadOfBest_13 : decode cX0_trialsAheadOfBest 13 = .ok (.aload_n 0, 1) := by decide +kernel
theorem dX0_trialsAheadOfBest_14 : decode cX0_trialsAheadOfBest 14 = .ok (.getfield 9, 3) := by decide +kernel
theorem dX0_trialsAheadOfBest_17 : decode cX0_trialsAheadOfBest 17 = .ok (.iload_n 1, 1) := by decide +kernel
theorem dX0_trialsAheadOfBest_18 : decode cX0_trialsAheadOfBest 18 = .ok (.iload_n 2, 1) := by decide +kernel
theorem dX0_trialsAheadOfBest_19 : decode cX0_trialsAheadOfBest 19 = .ok (.invokestatic 53, 3) := by decide +kernel
theorem dX0_trialsAheadOfBest_22 : decode cX0_trialsAheadOfBest 22 = .ok (.iaload, 1) := by decide +kernel
theorem dX0_trialsAheadOfBest_23 : decode cX0_trialsAheadOfBest 23 = .ok (.aload_n 0, 1) := by decide +kernel
theorem dX0_trialsAheadOfBest_24 : decode cX0_trialsAheadOfBest 24 = .ok (.getfield 19, 3) := by decide +kernel
theorem dX0_trialsAheadOfBest_27 : decode cX0_trialsAheadOfBest 27 = .ok (.iload_n 1, 1) := by decide +kernel
theorem dX0_trialsAheadOfBest_28 : decode cX0_trialsAheadOfBest 28 = .ok (.iaload, 1) := by decide +kernel
theorem dX0_trialsAheadOfBest_29 : decode cX0_trialsAheadOfBest 29 = .ok (.invokestatic 109, 3) := by decide +kernel
theorem dX0_trialsAheadOfBest_32 : decode cX0_trialsAheadOfBest 32 = .ok (.ifCond .eq 9, 3) := by decide +kernel
theorem dX0_trialsAheadOfBest_35 : decode cX0_trialsAheadOfBest 35 = .ok (.iinc 2 1, 3) := by decide +kernel
theorem dX0_trialsAheadOfBest_38 : decode cX0_trialsAheadOfBest 38 = .ok (.goto (-36), 3) := by decide +kernel
theorem dX0_trialsAheadOfBest_41 : decode cX0_trialsAheadOfBest 41 = .ok (.iload_n 2, 1) := by decide +kernel
theorem dX0_trialsAheadOfBest_42 : decode cX0_trialsAheadOfBest 42 = .ok (.ireturn, 1) := by decide +kernel
set_option maxRecDepth 20000 in
theorem ggX0_latestChill_X0_slot : GoodIn wsX0_latestChill wsX0_slot := goodIn_r _ [6] (by decide +kernel) (by decide +kernel)
set_option maxRecDepth 20000 in
theorem gX0_latestChill_X0_slot : GoodIn wsX0_latestChill (va_wsS RX0 53 yX0_slot wsX0_slot) := goodIn_app (goodIn_of _ (by decide +kernel)) ggX0_latestChill_X0_slot
theorem dX0_latestChill_0 : decode cX0_latestChill 0 = .ok (.aload_n 0, 1) := by decide +kernel
theorem dX0_latestChill_1 : decode cX0_latestChill 1 = .ok (.getfield 16, 3) := by decide +kernel
theorem dX0_latestChill_4 : decode cX0_latestChill 4 = .ok (.iload_n 1, 1) := by decide +kernel
theorem dX0_latestChill_5 : decode cX0_latestChill 5 = .ok (.iaload, 1) := by decide +kernel
theorem dX0_latestChill_6 : decode cX0_latestChill 6 = .ok (.ifCond .gt 6, 3) := by decide +kernel
theorem dX0_latestChill_9 : decode cX0_latestChill 9 = .ok (.bipush 100, 2) := by decide +kernel
theorem dX0_latestChill_11 : decode cX0_latestChill 11 = .ok (.ireturn, 1) := by decide +kernel
theorem dX0_latestChill_12 : decode cX0_latestChill 12 = .ok (.aload_n 0, 1) := by decide +kernel
theorem dX0_latestChill_13 : decode cX0_latestChill 13 = .ok (.getfield 13, 3) := by decide +kernel
theorem dX0_latestChill_16 : decode cX0_latestChill 16 = .ok (.iload_n 1, 1) := by decide +kernel
theorem dX0_latestChill_17 : decode cX0_latestChill 17 = .ok (.aload_n 0, 1) := by decide +kernel
theorem dX0_latestChill_18 : decode cX0_latestChill 18 = .ok (.getfield 16, 3) := by decide +kernel
theorem dX0_latestChill_21 : decode cX0_latestChill 21 = .ok (.iload_n 1, 1) := by decide +kernel
theorem dX0_latestChill_22 : decode cX0_latestChill 22 = .ok (.iaload, 1) := by decide +kernel
theorem dX0_latestChill_23 : decode cX0_latestChill 23 = .ok (.iconst 1, 1) := by decide +kernel
theorem dX0_latestChill_24 : decode cX0_latestChill 24 = .ok (.isub, 1) := by decide +kernel
theorem dX0_latestChill_25 : decode cX0_latestChill 25 = .ok (.invokestatic 53, 3) := by decide +kernel
theorem dX0_latestChill_28 : decode cX0_latestChill 28 = .ok (.iaload, 1) := by decide +kernel
theorem dX0_latestChill_29 : decode cX0_latestChill 29 = .ok (.ireturn, 1) := by decide +kernel
set_option maxRecDepth 20000 in
theorem ggX0_clocksInARow_X0_holdsOfClocks : GoodIn wsX0_clocksInARow wsX0_holdsOfClocks := goodIn_r _ [6, 7, 8, 9, 5, 10, 11, 12, 13, 14, 15, 16, 17, 18, 19, 20, 21, 22, 23, 24, 25, 26, 27, 28, 29, 30, 31, 32, 33, 34] (by decide +kernel) (by decide +kernel)
set_option maxRecDepth 20000 in
theorem gX0_clocksInARow_X0_holdsOfClocks : GoodIn wsX0_clocksInARow (wsV RX0 84 RX0 yX0_holdsOfClocks wsX0_holdsOfClocks) := goodIn_app (goodIn_of _ (by decide +kernel)) ggX0_clocksInARow_X0_holdsOfClocks
theorem dX0_clocksInARow_0 : decode cX0_clocksInARow 0 = .ok (.iload_n 3, 1) := by decide +kernel
theorem dX0_clocksInARow_1 : decode cX0_clocksInARow 1 = .ok (.istore 5, 2) := by decide +kernel
theorem dX0_clocksInARow_3 : decode cX0_clocksInARow 3 = .ok (.iload 5, 2) := by decide +kernel
theorem dX0_clocksInARow_5 : decode cX0_clocksInARow 5 = .ok (.aload_n 0, 1) := by decide +kernel
theorem dX0_clocksInARow_6 : decode cX0_clocksInARow 6 = .ok (.getfield 26, 3) := by decide +kernel
theorem dX0_clocksInARow_9 : decode cX0_clocksInARow 9 = .ok (.if_icmp .ge 22, 3) := by decide +kernel
theorem dX0_clocksInARow_12 : decode cX0_clocksInARow 12 = .ok (.aload_n 0, 1) := by decide +kernel
theorem dX0_clocksInARow_13 : decode cX0_clocksInARow 13 = .ok (.iload_n 1, 1) := by decide +kernel
theorem dX0_clocksInARow_14 : decode cX0_clocksInARow 14 = .ok (.iload_n 2, 1) := by decide +kernel
theorem dX0_clocksInARow_15 : decode cX0_clocksInARow 15 = .ok (.iload 5, 2) := by decide +kernel
theorem dX0_clocksInARow_17 : decode cX0_clocksInARow 17 = .ok (.iload 4, 2) := by decide +kernel
theorem dX0_clocksInARow_19 : decode cX0_clocksInARow 19 = .ok (.invokevirtual 84, 3) := by decide +kernel
theorem dX0_clocksInARow_22 : decode cX0_clocksInARow 22 = .ok (.ifCond .eq 9, 3) := by decide +kernel
theorem dX0_clocksInARow_25 : decode cX0_clocksInARow 25 = .ok (.iinc 5 1, 3) := by decide +kernel
theorem dX0_clocksInARow_28 : decode cX0_clocksInARow 28 = .ok (.goto (-25), 3) := by decide +kernel
theorem dX0_clocksInARow_31 : decode cX0_clocksInARow 31 = .ok (.iload 5, 2) := by decide +kernel
theorem dX0_clocksInARow_33 : decode cX0_clocksInARow 33 = .ok (.iload_n 3, 1) := by decide +kernel
theorem dX0_clocksInARow_34 : decode cX0_clocksInARow 34 = .ok (.isub, 1) := by decide +kernel
theorem dX0_clocksInARow_35 : decode cX0_clocksInARow 35 = .ok (.ireturn, 1) := by decide +kernel
theorem dX0_bothWays_0 : decode cX0_bothWays 0 = .ok (.iload_n 0, 1) := by decide +kernel
theorem dX0_bothWays_1 : decode cX0_bothWays 1 = .ok (.ifCond .eq 9, 3) := by decide +kernel
theorem dX0_bothWays_4 : decode cX0_bothWays 4 = .ok (.iload_n 1, 1) := by decide +kernel
theorem dX0_bothWays_5 : decode cX0_bothWays 5 = .ok (.ifCond .eq 5, 3) := by decide +kernel
theorem dX0_bothWays_8 : decode cX0_bothWays 8 = .ok (.iconst 1, 1) := by decide +kernel
theorem dX0_bothWays_9 : decode cX0_bothWays 9 = .ok (.ireturn, 1) := by decide +kernel
theorem dX0_bothWays_10 : decode cX0_bothWays 10 = .ok (.iload_n 0, 1) := by decide +kernel
theorem dX0_bothWays_11 : decode cX0_bothWays 11 = .ok (.ifCond .ne 7, 3) := by decide +kernel
theorem dX0_bothWays_14 : decode cX0_bothWays 14 = .ok (.iload_n 1, 1) := by decide +kernel
theorem dX0_bothWays_15 : decode cX0_bothWays 15 = .ok (.ifCond .eq 7, 3) := by decide +kernel
theorem dX0_bothWays_18 : decode cX0_bothWays 18 = .ok (.iconst 2, 1) := by decide +kernel
theorem dX0_bothWays_19 : decode cX0_bothWays 19 = .ok (.goto 4, 3) := by decide +kernel
theorem dX0_bothWays_22 : decode cX0_bothWays 22 = .ok (.iconst 0, 1) := by decide +kernel
theorem dX0_bothWays_23 : decode cX0_bothWays 23 = .ok (.ireturn, 1) := by decide +kernel
set_option maxRecDepth 20000 in
theorem ggX0_sealsOn_X0_oneIf : GoodIn wsX0_sealsOn wsX0_oneIf := goodIn_r _ [6] (by decide +kernel) (by decide +kernel)
set_option maxRecDepth 20000 in
theorem gX0_sealsOn_X0_oneIf : GoodIn wsX0_sealsOn (va_wsS RX0 67 yX0_oneIf wsX0_oneIf) := goodIn_app (goodIn_of _ (by decide +kernel)) ggX0_sealsOn_X0_oneIf
theorem dX0_sealsOn_0 : decode cX0_sealsOn 0 = .ok (.iconst 0, 1) := by decide +kernel
theorem dX0_sealsOn_1 : decode cX0_sealsOn 1 = .ok (.istore_n 1, 1) := by decide +kernel
theorem dX0_sealsOn_2 : decode cX0_sealsOn 2 = .ok (.iconst 0, 1) := by decide +kernel
theorem dX0_sealsOn_3 : decode cX0_sealsOn 3 = .ok (.istore_n 2, 1) := by decide +kernel
theorem dX0_sealsOn_4 : decode cX0_sealsOn 4 = .ok (.iload_n 2, 1) := by decide +kernel
theorem dX0_sealsOn_5 : decode cX0_sealsOn 5 = .ok (.aload_n 0, 1) := by decide +kernel
theorem dX0_sealsOn_6 : decode cX0_sealsOn 6 = .ok (.getfield 26, 3) := by decide +kernel
theorem dX0_sealsOn_9 : decode cX0_sealsOn 9 = .ok (.if_icmp .ge 21, 3) := by decide +kernel
theorem dX0_sealsOn_12 : decode cX0_sealsOn 12 = .ok (.iload_n 1, 1) := by decide +kernel
theorem dX0_sealsOn_13 : decode cX0_sealsOn 13 = .ok (.aload_n 0, 1) := by decide +kernel
theorem dX0_sealsOn_14 : decode cX0_sealsOn 14 = .ok (.getfield 22, 3) := by decide +kernel
theorem dX0_sealsOn_17 : decode cX0_sealsOn 17 = .ok (.iload_n 2, 1) := by decide +kernel
theorem dX0_sealsOn_18 : decode cX0_sealsOn 18 = .ok (.baload, 1) := by decide +kernel
theorem dX0_sealsOn_19 : decode cX0_sealsOn 19 = .ok (.invokestatic 67, 3) := by decide +kernel
theorem dX0_sealsOn_22 : decode cX0_sealsOn 22 = .ok (.iadd, 1) := by decide +kernel
theorem dX0_sealsOn_23 : decode cX0_sealsOn 23 = .ok (.istore_n 1, 1) := by decide +kernel
theorem dX0_sealsOn_24 : decode cX0_sealsOn 24 = .ok (.iinc 2 1, 3) := by decide +kernel
theorem dX0_sealsOn_27 : decode cX0_sealsOn 27 = .ok (.goto (-23), 3) := by decide +kernel
theorem dX0_sealsOn_30 : decode cX0_sealsOn 30 = .ok (.iload_n 1, 1) := by decide +kernel
theorem dX0_sealsOn_31 : decode cX0_sealsOn 31 = .ok (.ireturn, 1) := by decide +kernel
theorem dX0_trialsOfAll_0 : decode cX0_trialsOfAll 0 = .ok (.iconst 0, 1) := by decide +kernel
theorem dX0_trialsOfAll_1 : decode cX0_trialsOfAll 1 = .ok (.istore_n 1, 1) := by decide +kernel
theorem dX0_trialsOfAll_2 : decode cX0_trialsOfAll 2 = .ok (.iconst 0, 1) := by decide +kernel
theorem dX0_trialsOfAll_3 : decode cX0_trialsOfAll 3 = .ok (.istore_n 2, 1) := by decide +kernel
theorem dX0_trialsOfAll_4 : decode cX0_trialsOfAll 4 = .ok (.iload_n 2, 1) := by decide +kernel
theorem dX0_trialsOfAll_5 : decode cX0_trialsOfAll 5 = .ok (.aload_n 0, 1) := by decide +kernel
theorem dX0_trialsOfAll_6 : decode cX0_trialsOfAll 6 = .ok (.getfield 26, 3) := by decide +kernel
theorem dX0_trialsOfAll_9 : decode cX0_trialsOfAll 9 = .ok (.if_icmp .ge 18, 3) := by decide +kernel
theorem dX0_trialsOfAll_12 : decode cX0_trialsOfAll 12 = .ok (.iload_n 1, 1) := by decide +kernel
theorem dX0_trialsOfAll_13 : decode cX0_trialsOfAll 13 = .ok (.aload_n 0, 1) := by decide +kernel
theorem dX0_trialsOfAll_14 : decode cX0_trialsOfAll 14 = .ok (.getfield 16, 3) := by decide +kernel
theorem dX0_trialsOfAll_17 : decode cX0_trialsOfAll 17 = .ok (.iload_n 2, 1) := by decide +kernel
theorem dX0_trialsOfAll_18 : decode cX0_trialsOfAll 18 = .ok (.iaload, 1) := by decide +kernel
theorem dX0_trialsOfAll_19 : decode cX0_trialsOfAll 19 = .ok (.iadd, 1) := by decide +kernel
theorem dX0_trialsOfAll_20 : decode cX0_trialsOfAll 20 = .ok (.istore_n 1, 1) := by decide +kernel
theorem dX0_trialsOfAll_21 : decode cX0_trialsOfAll 21 = .ok (.iinc 2 1, 3) := by decide +kernel
theorem dX0_trialsOfAll_24 : decode cX0_trialsOfAll 24 = .ok (.goto (-20), 3) := by decide +kernel
theorem dX0_trialsOfAll_27 : decode cX0_trialsOfAll 27 = .ok (.iload_n 1, 1) := by decide +kernel
theorem dX0_trialsOfAll_28 : decode cX0_trialsOfAll 28 = .ok (.ireturn, 1) := by decide +kernel
set_option maxRecDepth 20000 in
theorem ggX0_firstOfTheBest_X0_betters : GoodIn wsX0_firstOfTheBest wsX0_betters := goodIn_r _ [6, 7, 8, 5, 9, 10, 11, 12] (by decide +kernel) (by decide +kernel)
set_option maxRecDepth 20000 in
theorem gX0_firstOfTheBest_X0_betters : GoodIn wsX0_firstOfTheBest (va_wsS RX0 118 yX0_betters wsX0_betters) := goodIn_app (goodIn_of _ (by decide +kernel)) ggX0_firstOfTheBest_X0_betters
theorem dX0_firstOfTheBest_0 : decode cX0_firstOfTheBest 0 = .ok (.iconst (-1), 1) := by decide +kernel
theorem dX0_firstOfTheBest_1 : decode cX0_firstOfTheBest 1 = .ok (.istore_n 1, 1) := by decide +kernel
theorem dX0_firstOfTheBest_2 : decode cX0_firstOfTheBest 2 = .ok (.iconst (-1), 1) := by decide +kernel
theorem dX0_firstOfTheBest_3 : decode cX0_firstOfTheBest 3 = .ok (.istore_n 2, 1) := by decide +kernel
theorem dX0_firstOfTheBest_4 : decode cX0_firstOfTheBest 4 = .ok (.iconst 0, 1) := by decide +kernel
theorem dX0_firstOfTheBest_5 : decode cX0_firstOfTheBest 5 = .ok (.istore_n 3, 1) := by decide +kernel
theorem dX0_firstOfTheBest_6 : decode cX0_firstOfTheBest 6 = .ok (.iload_n 3, 1) := by decide +kernel
theorem dX0_firstOfTheBest_7 : decode cX0_firstOfTheBest 7 = .ok (.aload_n 0, 1) := by decide +kernel
theorem dX0_firstOfTheBest_8 : decode cX0_firstOfTheBest 8 = .ok (.getfield 26, 3) := by decide +kernel
theorem dX0_firstOfTheBest_11 : decode cX0_firstOfTheBest 11 = .ok (.if_icmp .ge 31, 3) := by decide +kernel
theorem dX0_firstOfTheBest_14 : decode cX0_firstOfTheBest 14 = .ok (.aload_n 0, 1) := by decide +kernel
theorem dX0_firstOfTheBest_15 : decode cX0_firstOfTheBest 15 = .ok (.getfield 19, 3) := by decide +kernel
theorem dX0_firstOfTheBest_18 : decode cX0_firstOfTheBest 18 = .ok (.iload_n 3, 1) := by decide +kernel
theorem dX0_firstOfTheBest_19 : decode cX0_firstOfTheBest 19 = .ok (.iaload, 1) := by decide +kernel
theorem dX0_firstOfTheBest_20 : decode cX0_firstOfTheBest 20 = .ok (.iload_n 2, 1) := by decide +kernel
theorem dX0_firstOfTheBest_21 : decode cX0_firstOfTheBest 21 = .ok (.invokestatic 118, 3) := by decide +kernel
theorem dX0_firstOfTheBest_24 : decode cX0_firstOfTheBest 24 = .ok (.ifCond .eq 12, 3) := by decide +kernel
theorem dX0_firstOfTheBest_27 : decode cX0_firstOfTheBest 27 = .ok (.iload_n 3, 1) := by decide +kernel
theorem dX0_firstOfTheBest_28 : decode cX0_firstOfTheBest 28 = .ok (.istore_n 1, 1) := by decide +kernel
theorem dX0_firstOfTheBest_29 : decode cX0_firstOfTheBest 29 = .ok (.aload_n 0, 1) := by decide +kernel
theorem dX0_firstOfTheBest_30 : decode cX0_firstOfTheBest 30 = .ok (.getfield 19, 3) := by decide +kernel
theorem dX0_firstOfTheBest_33 : decode cX0_firstOfTheBest 33 = .ok (.iload_n 3, 1) := by decide +kernel
theorem dX0_firstOfTheBest_34 : decode cX0_firstOfTheBest 34 = .ok (.iaload, 1) := by decide +kernel
theorem dX0_firstOfTheBest_35 : decode cX0_firstOfTheBest 35 = .ok (.istore_n 2, 1) := by decide +kernel
theorem dX0_firstOfTheBest_36 : decode cX0_firstOfTheBest 36 = .ok (.iinc 3 1, 3) := by decide +kernel
theorem dX0_firstOfTheBest_39 : decode cX0_firstOfTheBest 39 = .ok (.goto (-33), 3) := by decide +kernel
theorem dX0_firstOfTheBest_42 : decode cX0_firstOfTheBest 42 = .ok (.iload_n 1, 1) := by decide +kernel
theorem dX0_firstOfTheBest_43 : decode cX0_firstOfTheBest 43 = .ok (.ireturn, 1) := by decide +kernel
theorem dX1_init_0 : decode cX1_init 0 = .ok (.aload_n 0, 1) := by decide +kernel
theorem dX1_init_1 : decode cX1_init 1 = .ok (.invokespecial 1, 3) := by decide +kernel
theorem dX1_init_4 : decode cX1_init 4 = .ok (.aload_n 0, 1) := by decide +kernel
theorem dX1_init_5 : decode cX1_init 5 = .ok (.iconst (-1), 1) := by decide +kernel
theorem dX1_init_6 : decode cX1_init 6 = .ok (.putfield 9, 3) := by decide +kernel
theorem dX1_init_9 : decode cX1_init 9 = .ok (.aload_n 0, 1) := by decide +kernel
theorem dX1_init_10 : decode cX1_init 10 = .ok (.bipush 100, 2) := by decide +kernel
theorem dX1_init_12 : decode cX1_init 12 = .ok (.putfield 13, 3) := by decide +kernel
theorem dX1_init_15 : decode cX1_init 15 = .ok (.aload_n 0, 1) := by decide +kernel
theorem dX1_init_16 : decode cX1_init 16 = .ok (.iconst (-1), 1) := by decide +kernel
theorem dX1_init_17 : decode cX1_init 17 = .ok (.putfield 16, 3) := by decide +kernel
theorem dX1_init_20 : decode cX1_init 20 = .ok (.aload_n 0, 1) := by decide +kernel
theorem dX1_init_21 : decode cX1_init 21 = .ok (.bipush 8, 2) := by decide +kernel
theorem dX1_init_23 : decode cX1_init 23 = .ok (.newarray .int, 2) := by decide +kernel
theorem dX1_init_25 : decode cX1_init 25 = .ok (.putfield 19, 3) := by decide +kernel
theorem dX1_init_28 : decode cX1_init 28 = .ok (.aload_n 0, 1) := by decide +kernel
theorem dX1_init_29 : decode cX1_init 29 = .ok (.bipush 8, 2) := by decide +kernel
theorem dX1_init_31 : decode cX1_init 31 = .ok (.newarray .int, 2) := by decide +kernel
theorem dX1_init_33 : decode cX1_init 33 = .ok (.putfield 23, 3) := by decide +kernel
theorem dX1_init_36 : decode cX1_init 36 = .ok (.aload_n 0, 1) := by decide +kernel
theorem dX1_init_37 : decode cX1_init 37 = .ok (.bipush 8, 2) := by decide +kernel
theorem dX1_init_39 : decode cX1_init 39 = .ok (.newarray .int, 2) := by decide +kernel
theorem dX1_init_41 : decode cX1_init 41 = .ok (.putfield 26, 3) := by decide +kernel
theorem dX1_init_44 : decode cX1_init 44 = .ok (.aload_n 0, 1) := by decide +kernel
theorem dX1_init_45 : decode cX1_init 45 = .ok (.bipush 48, 2) := by decide +kernel
theorem dX1_init_47 : decode cX1_init 47 = .ok (.newarray .int, 2) := by decide +kernel
theorem dX1_init_49 : decode cX1_init 49 = .ok (.putfield 29, 3) := by decide +kernel
theorem dX1_init_52 : decode cX1_init 52 = .ok (.aload_n 0, 1) := by decide +kernel
theorem dX1_init_53 : decode cX1_init 53 = .ok (.bipush 48, 2) := by decide +kernel
theorem dX1_init_55 : decode cX1_init 55 = .ok (.newarray .int, 2) := by decide +kernel
theorem dX1_init_57 : decode cX1_init 57 = .ok (.putfield 32, 3) := by decide +kernel
theorem dX1_init_60 : decode cX1_init 60 = .ok (.return_, 1) := by decide +kernel
theorem dX1_isClock_0 : decode cX1_isClock 0 = .ok (.iload_n 1, 1) := by decide +kernel
theorem dX1_isClock_1 : decode cX1_isClock 1 = .ok (.ifCond .lt 15, 3) := by decide +kernel
theorem dX1_isClock_4 : decode cX1_isClock 4 = .ok (.iload_n 1, 1) := by decide +kernel
theorem dX1_isClock_5 : decode cX1_isClock 5 = .ok (.aload_n 0, 1) := by decide +kernel
theorem dX1_isClock_6 : decode cX1_isClock 6 = .ok (.getfield 35, 3) := by decide +kernel
theorem dX1_isClock_9 : decode cX1_isClock 9 = .ok (.if_icmp .ge 7, 3) := by decide +kernel
theorem dX1_isClock_12 : decode cX1_isClock 12 = .ok (.iconst 1, 1) := by decide +kernel
theorem dX1_isClock_13 : decode cX1_isClock 13 = .ok (.goto 4, 3) := by decide +kernel
theorem dX1_isClock_16 : decode cX1_isClock 16 = .ok (.iconst 0, 1) := by decide +kernel
theorem dX1_isClock_17 : decode cX1_isClock 17 = .ok (.ireturn, 1) := by decide +kernel
theorem dX1_isRate_0 : decode cX1_isRate 0 = .ok (.iload_n 0, 1) := by decide +kernel
theorem dX1_isRate_1 : decode cX1_isRate 1 = .ok (.iconst (-1), 1) := by decide +kernel
theorem dX1_isRate_2 : decode cX1_isRate 2 = .ok (.if_icmp .lt 14, 3) := by decide +kernel
theorem dX1_isRate_5 : decode cX1_isRate 5 = .ok (.iload_n 0, 1) := by decide +kernel
theorem dX1_isRate_6 : decode cX1_isRate 6 = .ok (.sipush 999, 3) := by decide +kernel
theorem dX1_isRate_9 : decode cX1_isRate 9 = .ok (.if_icmp .gt 7, 3) := by decide +kernel
theorem dX1_isRate_12 : decode cX1_isRate 12 = .ok (.iconst 1, 1) := by decide +kernel
theorem dX1_isRate_13 : decode cX1_isRate 13 = .ok (.goto 4, 3) := by decide +kernel
theorem dX1_isRate_16 : decode cX1_isRate 16 = .ok (.iconst 0, 1) := by decide +kernel
theorem dX1_isRate_17 : decode cX1_isRate 17 = .ok (.ireturn, 1) := by decide +kernel
theorem dX1_isChill_0 : decode cX1_isChill 0 = .ok (.iload_n 0, 1) := by decide +kernel
theorem dX1_isChill_1 : decode cX1_isChill 1 = .ok (.bipush (-99), 2) := by decide +kernel
theorem dX1_isChill_3 : decode cX1_isChill 3 = .ok (.if_icmp .lt 13, 3) := by decide +kernel
theorem dX1_isChill_6 : decode cX1_isChill 6 = .ok (.iload_n 0, 1) := by decide +kernel
theorem dX1_isChill_7 : decode cX1_isChill 7 = .ok (.bipush 100, 2) := by decide +kernel
theorem dX1_isChill_9 : decode cX1_isChill 9 = .ok (.if_icmp .gt 7, 3) := by decide +kernel
theorem dX1_isChill_12 : decode cX1_isChill 12 = .ok (.iconst 1, 1) := by decide +kernel
theorem dX1_isChill_13 : decode cX1_isChill 13 = .ok (.goto 4, 3) := by decide +kernel
theorem dX1_isChill_16 : decode cX1_isChill 16 = .ok (.iconst 0, 1) := by decide +kernel
theorem dX1_isChill_17 : decode cX1_isChill 17 = .ok (.ireturn, 1) := by decide +kernel
theorem dX1_holds_0 : decode cX1_holds 0 = .ok (.iload_n 1, 1) := by decide +kernel
theorem dX1_holds_1 : decode cX1_holds 1 = .ok (.iload_n 3, 1) := by decide +kernel
theorem dX1_holds_2 : decode cX1_holds 2 = .ok (.if_icmp .eq 8, 3) := by decide +kernel
theorem dX1_holds_5 : decode cX1_holds 5 = .ok (.iload_n 2, 1) := by decide +kernel
theorem dX1_holds_6 : decode cX1_holds 6 = .ok (.iload_n 3, 1) := by decide +kernel
theorem dX1_holds_7 : decode cX1_holds 7 = .ok (.if_icmp .ne 14, 3) := by decide +kernel
theorem dX1_holds_10 : decode cX1_holds 10 = .ok (.iload_n 0, 1) := by decide +kernel
theorem dX1_holds_11 : decode cX1_holds 11 = .ok (.iconst 5, 1) := by decide +kernel
theorem dX1_holds_12 : decode cX1_holds 12 = .ok (.if_icmp .ne 7, 3) := by decide +kernel
theorem dX1_holds_15 : decode cX1_holds 15 = .ok (.iconst 1, 1) := by decide +kernel
theorem dX1_holds_16 : decode cX1_holds 16 = .ok (.goto 4, 3) := by decide +kernel
theorem dX1_holds_19 : decode cX1_holds 19 = .ok (.iconst 0, 1) := by decide +kernel
theorem dX1_holds_20 : decode cX1_holds 20 = .ok (.ireturn, 1) := by decide +kernel
theorem dX1_holds_21 : decode cX1_holds 21 = .ok (.iload_n 0, 1) := by decide +kernel
theorem dX1_holds_22 : decode cX1_holds 22 = .ok (.tableswitch 89 0 4 #[34, 45, 56, 67, 78], 34) := by decide +kernel
theorem dX1_holds_56 : decode cX1_holds 56 = .ok (.iload_n 1, 1) := by decide +kernel
theorem dX1_holds_57 : decode cX1_holds 57 = .ok (.iload_n 2, 1) := by decide +kernel
theorem dX1_holds_58 : decode cX1_holds 58 = .ok (.if_icmp .ge 7, 3) := by decide +kernel
theorem dX1_holds_61 : decode cX1_holds 61 = .ok (.iconst 1, 1) := by decide +kernel
theorem dX1_holds_62 : decode cX1_holds 62 = .ok (.goto 4, 3) := by decide +kernel
theorem dX1_holds_65 : decode cX1_holds 65 = .ok (.iconst 0, 1) := by decide +kernel
theorem dX1_holds_66 : decode cX1_holds 66 = .ok (.ireturn, 1) := by decide +kernel
theorem dX1_holds_67 : decode cX1_holds 67 = .ok (.iload_n 1, 1) := by decide +kernel
theorem dX1_holds_68 : decode cX1_holds 68 = .ok (.iload_n 2, 1) := by decide +kernel
theorem dX1_holds_69 : decode cX1_holds 69 = .ok (.if_icmp .gt 7, 3) := by decide +kernel
theorem dX1_holds_72 : decode cX1_holds 72 = .ok (.iconst 1, 1) := by decide +kernel
theorem dX1_holds_73 : decode cX1_holds 73 = .ok (.goto 4, 3) := by decide +kernel
theorem dX1_holds_76 : decode cX1_holds 76 = .ok (.iconst 0, 1) := by decide +kernel
theorem dX1_holds_77 : decode cX1_holds 77 = .ok (.ireturn, 1) := by decide +kernel
theorem dX1_holds_78 : decode cX1_holds 78 = .ok (.iload_n 1, 1) := by decide +kernel
theorem dX1_holds_79 : decode cX1_holds 79 = .ok (.iload_n 2, 1) := by decide +kernel
theorem dX1_holds_80 : decode cX1_holds 80 = .ok (.if_icmp .le 7, 3) := by decide +kernel
theorem dX1_holds_83 : decode cX1_holds 83 = .ok (.iconst 1, 1) := by decide +kernel
theorem dX1_holds_84 : decode cX1_holds 84 = .ok (.goto 4, 3) := by decide +kernel
theorem dX1_holds_87 : decode cX1_holds 87 = .ok (.iconst 0, 1) := by decide +kernel
theorem dX1_holds_88 : decode cX1_holds 88 = .ok (.ireturn, 1) := by decide +kernel
theorem dX1_holds_89 : decode cX1_holds 89 = .ok (.iload_n 1, 1) := by decide +kernel
theorem dX1_holds_90 : decode cX1_holds 90 = .ok (.iload_n 2, 1) := by decide +kernel
theorem dX1_holds_91 : decode cX1_holds 91 = .ok (.if_icmp .lt 7, 3) := by decide +kernel
theorem dX1_holds_94 : decode cX1_holds 94 = .ok (.iconst 1, 1) := by decide +kernel
theorem dX1_holds_95 : decode cX1_holds 95 = .ok (.goto 4, 3) := by decide +kernel
theorem dX1_holds_98 : decode cX1_holds 98 = .ok (.iconst 0, 1) := by decide +kernel
theorem dX1_holds_99 : decode cX1_holds 99 = .ok (.ireturn, 1) := by decide +kernel
theorem dX1_holds_100 : decode cX1_holds 100 = .ok (.iload_n 1, 1) := by decide +kernel
theorem dX1_holds_101 : decode cX1_holds 101 = .ok (.iload_n 2, 1) := by decide +kernel
theorem dX1_holds_102 : decode cX1_holds 102 = .ok (.if_icmp .ne 7, 3) := by decide +kernel
theorem dX1_holds_105 : decode cX1_holds 105 = .ok (.iconst 1, 1) := by decide +kernel
theorem dX1_holds_106 : decode cX1_holds 106 = .ok (.goto 4, 3) := by decide +kernel
theorem dX1_holds_109 : decode cX1_holds 109 = .ok (.iconst 0, 1) := by decide +kernel
theorem dX1_holds_110 : decode cX1_holds 110 = .ok (.ireturn, 1) := by decide +kernel
theorem dX1_holds_111 : decode cX1_holds 111 = .ok (.iload_n 1, 1) := by decide +kernel
theorem dX1_holds_112 : decode cX1_holds 112 = .ok (.iload_n 2, 1) := by decide +kernel
theorem dX1_holds_113 : decode cX1_holds 113 = .ok (.if_icmp .eq 7, 3) := by decide +kernel
theorem dX1_holds_116 : decode cX1_holds 116 = .ok (.iconst 1, 1) := by decide +kernel
theorem dX1_holds_117 : decode cX1_holds 117 = .ok (.goto 4, 3) := by decide +kernel
theorem dX1_holds_120 : decode cX1_holds 120 = .ok (.iconst 0, 1) := by decide +kernel
theorem dX1_holds_121 : decode cX1_holds 121 = .ok (.ireturn, 1) := by decide +kernel
theorem dX1_admit_0 : decode cX1_admit 0 = .ok (.aload_n 0, 1) := by decide +kernel
theorem dX1_admit_1 : decode cX1_admit 1 = .ok (.getfield 35, 3) := by decide +kernel
theorem dX1_admit_4 : decode cX1_admit 4 = .ok (.bipush 8, 2) := by decide +kernel
theorem dX1_admit_6 : decode cX1_admit 6 = .ok (.if_icmp .ne 5, 3) := by decide +kernel
theorem dX1_admit_9 : decode cX1_admit 9 = .ok (.iconst (-1), 1) := by decide +kernel
theorem dX1_admit_10 : decode cX1_admit 10 = .ok (.ireturn, 1) := by decide +kernel
theorem dX1_admit_11 : decode cX1_admit 11 = .ok (.aload_n 0, 1) := by decide +kernel
theorem dX1_admit_12 : decode cX1_admit 12 = .ok (.getfield 19, 3) := by decide +kernel
theorem dX1_admit_15 : decode cX1_admit 15 = .ok (.aload_n 0, 1) := by decide +kernel
theorem dX1_admit_16 : decode cX1_admit 16 = .ok (.getfield 35, 3) := by decide +kernel
theorem dX1_admit_19 : decode cX1_admit 19 = .ok (.iconst 0, 1) := by decide +kernel
theorem dX1_admit_20 : decode cX1_admit 20 = .ok (.iastore, 1) := by decide +kernel
theorem dX1_admit_21 : decode cX1_admit 21 = .ok (.aload_n 0, 1) := by decide +kernel
theorem dX1_admit_22 : decode cX1_admit 22 = .ok (.getfield 23, 3) := by decide +kernel
theorem dX1_admit_25 : decode cX1_admit 25 = .ok (.aload_n 0, 1) := by decide +kernel
theorem dX1_admit_26 : decode cX1_admit 26 = .ok (.getfield 35, 3) := by decide +kernel
theorem dX1_admit_29 : decode cX1_admit 29 = .ok (.iconst (-1), 1) := by decide +kernel
theorem dX1_admit_30 : decode cX1_admit 30 = .ok (.iastore, 1) := by decide +kernel
theorem dX1_admit_31 : decode cX1_admit 31 = .ok (.aload_n 0, 1) := by decide +kernel
theorem dX1_admit_32 : decode cX1_admit 32 = .ok (.getfield 26, 3) := by decide +kernel
theorem dX1_admit_35 : decode cX1_admit 35 = .ok (.aload_n 0, 1) := by decide +kernel
theorem dX1_admit_36 : decode cX1_admit 36 = .ok (.getfield 35, 3) := by decide +kernel
theorem dX1_admit_39 : decode cX1_admit 39 = .ok (.iconst 0, 1) := by decide +kernel
theorem dX1_admit_40 : decode cX1_admit 40 = .ok (.iastore, 1) := by decide +kernel
theorem dX1_admit_41 : decode cX1_admit 41 = .ok (.aload_n 0, 1) := by decide +kernel
theorem dX1_admit_42 : decode cX1_admit 42 = .ok (.dup, 1) := by decide +kernel
theorem dX1_admit_43 : decode cX1_admit 43 = .ok (.getfield 35, 3) := by decide +kernel
theorem dX1_admit_46 : decode cX1_admit 46 = .ok (.iconst 1, 1) := by decide +kernel
theorem dX1_admit_47 : decode cX1_admit 47 = .ok (.iadd, 1) := by decide +kernel
theorem dX1_admit_48 : decode cX1_admit 48 = .ok (.putfield 35, 3) := by decide +kernel
theorem dX1_admit_51 : decode cX1_admit 51 = .ok (.aload_n 0, 1) := by decide +kernel
theorem dX1_admit_52 : decode cX1_admit 52 = .ok (.getfield 35, 3) := by decide +kernel
theorem dX1_admit_55 : decode cX1_admit 55 = .ok (.iconst 1, 1) := by decide +kernel
theorem dX1_admit_56 : decode cX1_admit 56 = .ok (.isub, 1) := by decide +kernel
theorem dX1_admit_57 : decode cX1_admit 57 = .ok (.ireturn, 1) := by decide +kernel
set_option maxRecDepth 20000 in
theorem ggX1_prize_X1_isRate : GoodIn wsX1_prize wsX1_isRate := goodIn_r _ [5] (by decide +kernel) (by decide +kernel)
set_option maxRecDepth 20000 in
theorem gX1_prize_X1_isRate : GoodIn wsX1_prize (va_wsS RX1 38 yX1_isRate wsX1_isRate) := goodIn_app (goodIn_of _ (by decide +kernel)) ggX1_prize_X1_isRate
theorem dX1_prize_0 : decode cX1_prize 0 = .ok (.iload_n 1, 1) := by decide +kernel
theorem dX1_prize_1 : decode cX1_prize 1 = .ok (.invokestatic 38, 3) := by decide +kernel
theorem dX1_prize_4 : decode cX1_prize 4 = .ok (.ifCond .ne 5, 3) := by decide +kernel
theorem dX1_prize_7 : decode cX1_prize 7 = .ok (.iconst 0, 1) := by decide +kernel
theorem dX1_prize_8 : decode cX1_prize 8 = .ok (.ireturn, 1) := by decide +kernel
theorem dX1_prize_9 : decode cX1_prize 9 = .ok (.aload_n 0, 1) := by decide +kernel
theorem dX1_prize_10 : decode cX1_prize 10 = .ok (.iload_n 1, 1) := by decide +kernel
theorem dX1_prize_11 : decode cX1_prize 11 = .ok (.putfield 9, 3) := by decide +kernel
theorem dX1_prize_14 : decode cX1_prize 14 = .ok (.iconst 1, 1) := by decide +kernel
theorem dX1_prize_15 : decode cX1_prize 15 = .ok (.ireturn, 1) := by decide +kernel
set_option maxRecDepth 20000 in
theorem ggX1_frost_X1_isChill : GoodIn wsX1_frost wsX1_isChill := goodIn_r _ [5] (by decide +kernel) (by decide +kernel)
set_option maxRecDepth 20000 in
theorem gX1_frost_X1_isChill : GoodIn wsX1_frost (va_wsS RX1 42 yX1_isChill wsX1_isChill) := goodIn_app (goodIn_of _ (by decide +kernel)) ggX1_frost_X1_isChill
theorem dX1_frost_0 : decode cX1_frost 0 = .ok (.iload_n 1, 1) := by decide +kernel
theorem dX1_frost_1 : decode cX1_frost 1 = .ok (.invokestatic 42, 3) := by decide +kernel
theorem dX1_frost_4 : decode cX1_frost 4 = .ok (.ifCond .ne 5, 3) := by decide +kernel
theorem dX1_frost_7 : decode cX1_frost 7 = .ok (.iconst 0, 1) := by decide +kernel
theorem dX1_frost_8 : decode cX1_frost 8 = .ok (.ireturn, 1) := by decide +kernel
theorem dX1_frost_9 : decode cX1_frost 9 = .ok (.aload_n 0, 1) := by decide +kernel
theorem dX1_frost_10 : decode cX1_frost 10 = .ok (.iload_n 1, 1) := by decide +kernel
theorem dX1_frost_11 : decode cX1_frost 11 = .ok (.putfield 13, 3) := by decide +kernel
theorem dX1_frost_14 : decode cX1_frost 14 = .ok (.iconst 1, 1) := by decide +kernel
theorem dX1_frost_15 : decode cX1_frost 15 = .ok (.ireturn, 1) := by decide +kernel
set_option maxRecDepth 20000 in
theorem ggX1_isCold_X1_holds : GoodIn wsX1_isCold wsX1_holds := goodIn_r _ [5] (by decide +kernel) (by decide +kernel)
set_option maxRecDepth 20000 in
theorem gX1_isCold_X1_holds : GoodIn wsX1_isCold (va_wsS RX1 45 yX1_holds wsX1_holds) := goodIn_app (goodIn_of _ (by decide +kernel)) ggX1_isCold_X1_holds
theorem dX1_isCold_0 : decode cX1_isCold 0 = .ok (.iconst 1, 1) := by decide +kernel
theorem dX1_isCold_1 : decode cX1_isCold 1 = .ok (.iload_n 1, 1) := by decide +kernel
theorem dX1_isCold_2 : decode cX1_isCold 2 = .ok (.aload_n 0, 1) := by decide +kernel
theorem dX1_isCold_3 : decode cX1_isCold 3 = .ok (.getfield 13, 3) := by decide +kernel
theorem dX1_isCold_6 : decode cX1_isCold 6 = .ok (.bipush 100, 2) := by decide +kernel
theorem dX1_isCold_8 : decode cX1_isCold 8 = .ok (.invokestatic 45, 3) := by decide +kernel
theorem dX1_isCold_11 : decode cX1_isCold 11 = .ok (.ireturn, 1) := by decide +kernel
set_option maxRecDepth 20000 in
theorem ggX1_beats_X1_holds : GoodIn wsX1_beats wsX1_holds := goodIn_r _ [4] (by decide +kernel) (by decide +kernel)
set_option maxRecDepth 20000 in
theorem gX1_beats_X1_holds : GoodIn wsX1_beats (va_wsS RX1 45 yX1_holds wsX1_holds) := goodIn_app (goodIn_of _ (by decide +kernel)) ggX1_beats_X1_holds
theorem dX1_beats_0 : decode cX1_beats 0 = .ok (.iload_n 0, 1) := by decide +kernel
theorem dX1_beats_1 : decode cX1_beats 1 = .ok (.iconst (-1), 1) := by decide +kernel
theorem dX1_beats_2 : decode cX1_beats 2 = .ok (.if_icmp .eq 17, 3) := by decide +kernel
theorem dX1_beats_5 : decode cX1_beats 5 = .ok (.iconst 1, 1) := by decide +kernel
theorem dX1_beats_6 : decode cX1_beats 6 = .ok (.iload_n 1, 1) := by decide +kernel
theorem dX1_beats_7 : decode cX1_beats 7 = .ok (.iload_n 0, 1) := by decide +kernel
theorem dX1_beats_8 : decode cX1_beats 8 = .ok (.iconst (-1), 1) := by decide +kernel
theorem dX1_beats_9 : decode cX1_beats 9 = .ok (.invokestatic 45, 3) := by decide +kernel
theorem dX1_beats_12 : decode cX1_beats 12 = .ok (.ifCond .ne 7, 3) := by decide +kernel
theorem dX1_beats_15 : decode cX1_beats 15 = .ok (.iconst 1, 1) := by decide +kernel
theorem dX1_beats_16 : decode cX1_beats 16 = .ok (.goto 4, 3) := by decide +kernel
theorem dX1_beats_19 : decode cX1_beats 19 = .ok (.iconst 0, 1) := by decide +kernel
theorem dX1_beats_20 : decode cX1_beats 20 = .ok (.ireturn, 1) := by decide +kernel
set_option maxRecDepth 20000 in
theorem ggX1_trial_X1_isClock : GoodIn wsX1_trial wsX1_isClock := goodIn_r _ [11, 12, 30, 31, 32, 33, 34, 35, 36, 37, 38] (by decide +kernel) (by decide +kernel)
set_option maxRecDepth 20000 in
theorem gX1_trial_X1_isClock : GoodIn wsX1_trial (wsV RX1 49 RX1 yX1_isClock wsX1_isClock) := goodIn_app (goodIn_of _ (by decide +kernel)) ggX1_trial_X1_isClock
set_option maxRecDepth 20000 in
theorem ggX1_trial_X1_isRate : GoodIn wsX1_trial wsX1_isRate := goodIn_r _ [15] (by decide +kernel) (by decide +kernel)
set_option maxRecDepth 20000 in
theorem gX1_trial_X1_isRate : GoodIn wsX1_trial (va_wsS RX1 38 yX1_isRate wsX1_isRate) := goodIn_app (goodIn_of _ (by decide +kernel)) ggX1_trial_X1_isRate
set_option maxRecDepth 20000 in
theorem ggX1_trial_X1_isChill : GoodIn wsX1_trial wsX1_isChill := goodIn_r _ [18] (by decide +kernel) (by decide +kernel)
set_option maxRecDepth 20000 in
theorem gX1_trial_X1_isChill : GoodIn wsX1_trial (va_wsS RX1 42 yX1_isChill wsX1_isChill) := goodIn_app (goodIn_of _ (by decide +kernel)) ggX1_trial_X1_isChill
set_option maxRecDepth 20000 in
theorem ggX1_trial_X1_isCold : GoodIn wsX1_trial wsX1_isCold := goodIn_r _ [22, 23, 24, 25, 10, 26, 30, 31, 32, 33, 34, 35, 36, 37, 38] (by decide +kernel) (by decide +kernel)
set_option maxRecDepth 20000 in
theorem gX1_trial_X1_isCold : GoodIn wsX1_trial (wsV RX1 52 RX1 yX1_isCold wsX1_isCold) := goodIn_app (goodIn_of _ (by decide +kernel)) ggX1_trial_X1_isCold
set_option maxRecDepth 20000 in
theorem ggX1_trial_X1_holds : GoodIn wsX1_trial wsX1_holds := goodIn_r _ [26] (by decide +kernel) (by decide +kernel)
set_option maxRecDepth 20000 in
theorem gX1_trial_X1_holds : GoodIn wsX1_trial (va_wsS RX1 45 yX1_holds wsX1_holds) := goodIn_app (goodIn_of _ (by decide +kernel)) ggX1_trial_X1_holds
set_option maxRecDepth 20000 in
theorem ggX1_trial_X1_beats : GoodIn wsX1_trial wsX1_beats := goodIn_r _ [29, 24, 25, 10, 26] (by decide +kernel) (by decide +kernel)
set_option maxRecDepth 20000 in
theorem gX1_trial_X1_beats : GoodIn wsX1_trial (va_wsS RX1 55 yX1_beats wsX1_beats) := goodIn_app (goodIn_of _ (by decide +kernel)) ggX1_trial_X1_beats
theorem dX1_trial_0 : decode cX1_trial 0 = .ok (.aload_n 0, 1) := by decide +kernel
theorem dX1_trial_1 : decode cX1_trial 1 = .ok (.iload_n 1, 1) := by decide +kernel
theorem dX1_trial_2 : decode cX1_trial 2 = .ok (.invokevirtual 49, 3) := by decide +kernel
theorem dX1_trial_5 : decode cX1_trial 5 = .ok (.ifCond .eq 28, 3) := by decide +kernel
theorem dX1_trial_8 : decode cX1_trial 8 = .ok (.aload_n 0, 1) := by decide +kernel
theorem dX1_trial_9 : decode cX1_trial 9 = .ok (.getfield 19, 3) := by decide +kernel
theorem dX1_trial_12 : decode cX1_trial 12 = .ok (.iload_n 1, 1) := by decide +kernel
theorem dX1_trial_13 : decode cX1_trial 13 = .ok (.iaload, 1) := by decide +kernel
theorem dX1_trial_14 : decode cX1_trial 14 = .ok (.bipush 6, 2) := by decide +kernel
theorem dX1_trial_16 : decode cX1_trial 16 = .ok (.if_icmp .eq 17, 3) := by decide +kernel
theorem dX1_trial_19 : decode cX1_trial 19 = .ok (.iload_n 2, 1) := by decide +kernel
theorem dX1_trial_20 : decode cX1_trial 20 = .ok (.invokestatic 38, 3) := by decide +kernel
theorem dX1_trial_23 : decode cX1_trial 23 = .ok (.ifCond .eq 10, 3) := by decide +kernel
theorem dX1_trial_26 : decode cX1_trial 26 = .ok (.iload_n 3, 1) := by decide +kernel
theorem dX1_trial_27 : decode cX1_trial 27 = .ok (.invokestatic 42, 3) := by decide +kernel
theorem dX1_trial_30 : decode cX1_trial 30 = .ok (.ifCond .ne 5, 3) := by decide +kernel
theorem dX1_trial_33 : decode cX1_trial 33 = .ok (.iconst (-1), 1) := by decide +kernel
theorem dX1_trial_34 : decode cX1_trial 34 = .ok (.ireturn, 1) := by decide +kernel
theorem dX1_trial_35 : decode cX1_trial 35 = .ok (.bipush 6, 2) := by decide +kernel
theorem dX1_trial_37 : decode cX1_trial 37 = .ok (.iload_n 1, 1) := by decide +kernel
theorem dX1_trial_38 : decode cX1_trial 38 = .ok (.imul, 1) := by decide +kernel
theorem dX1_trial_39 : decode cX1_trial 39 = .ok (.aload_n 0, 1) := by decide +kernel
theorem dX1_trial_40 : decode cX1_trial 40 = .ok (.getfield 19, 3) := by decide +kernel
theorem dX1_trial_43 : decode cX1_trial 43 = .ok (.iload_n 1, 1) := by decide +kernel
theorem dX1_trial_44 : decode cX1_trial 44 = .ok (.iaload, 1) := by decide +kernel
theorem dX1_trial_45 : decode cX1_trial 45 = .ok (.iadd, 1) := by decide +kernel
theorem dX1_trial_46 : decode cX1_trial 46 = .ok (.istore 4, 2) := by decide +kernel
theorem dX1_trial_48 : decode cX1_trial 48 = .ok (.aload_n 0, 1) := by decide +kernel
theorem dX1_trial_49 : decode cX1_trial 49 = .ok (.getfield 29, 3) := by decide +kernel
theorem dX1_trial_52 : decode cX1_trial 52 = .ok (.iload 4, 2) := by decide +kernel
theorem dX1_trial_54 : decode cX1_trial 54 = .ok (.iload_n 2, 1) := by decide +kernel
theorem dX1_trial_55 : decode cX1_trial 55 = .ok (.iastore, 1) := by decide +kernel
theorem dX1_trial_56 : decode cX1_trial 56 = .ok (.aload_n 0, 1) := by decide +kernel
theorem dX1_trial_57 : decode cX1_trial 57 = .ok (.getfield 32, 3) := by decide +kernel
theorem dX1_trial_60 : decode cX1_trial 60 = .ok (.iload 4, 2) := by decide +kernel
theorem dX1_trial_62 : decode cX1_trial 62 = .ok (.iload_n 3, 1) := by decide +kernel
theorem dX1_trial_63 : decode cX1_trial 63 = .ok (.iastore, 1) := by decide +kernel
theorem dX1_trial_64 : decode cX1_trial 64 = .ok (.aload_n 0, 1) := by decide +kernel
theorem dX1_trial_65 : decode cX1_trial 65 = .ok (.getfield 19, 3) := by decide +kernel
theorem dX1_trial_68 : decode cX1_trial 68 = .ok (.iload_n 1, 1) := by decide +kernel
theorem dX1_trial_69 : decode cX1_trial 69 = .ok (.dup2, 1) := by decide +kernel
theorem dX1_trial_70 : decode cX1_trial 70 = .ok (.iaload, 1) := by decide +kernel
theorem dX1_trial_71 : decode cX1_trial 71 = .ok (.iconst 1, 1) := by decide +kernel
theorem dX1_trial_72 : decode cX1_trial 72 = .ok (.iadd, 1) := by decide +kernel
theorem dX1_trial_73 : decode cX1_trial 73 = .ok (.iastore, 1) := by decide +kernel
theorem dX1_trial_74 : decode cX1_trial 74 = .ok (.aload_n 0, 1) := by decide +kernel
theorem dX1_trial_75 : decode cX1_trial 75 = .ok (.iload_n 3, 1) := by decide +kernel
theorem dX1_trial_76 : decode cX1_trial 76 = .ok (.invokevirtual 52, 3) := by decide +kernel
theorem dX1_trial_79 : decode cX1_trial 79 = .ok (.istore 5, 2) := by decide +kernel
theorem dX1_trial_81 : decode cX1_trial 81 = .ok (.iconst 1, 1) := by decide +kernel
theorem dX1_trial_82 : decode cX1_trial 82 = .ok (.iload_n 2, 1) := by decide +kernel
theorem dX1_trial_83 : decode cX1_trial 83 = .ok (.aload_n 0, 1) := by decide +kernel
theorem dX1_trial_84 : decode cX1_trial 84 = .ok (.getfield 9, 3) := by decide +kernel
theorem dX1_trial_87 : decode cX1_trial 87 = .ok (.iconst (-1), 1) := by decide +kernel
theorem dX1_trial_88 : decode cX1_trial 88 = .ok (.invokestatic 45, 3) := by decide +kernel
theorem dX1_trial_91 : decode cX1_trial 91 = .ok (.istore 6, 2) := by decide +kernel
theorem dX1_trial_93 : decode cX1_trial 93 = .ok (.iload_n 2, 1) := by decide +kernel
theorem dX1_trial_94 : decode cX1_trial 94 = .ok (.aload_n 0, 1) := by decide +kernel
theorem dX1_trial_95 : decode cX1_trial 95 = .ok (.getfield 23, 3) := by decide +kernel
theorem dX1_trial_98 : decode cX1_trial 98 = .ok (.iload_n 1, 1) := by decide +kernel
theorem dX1_trial_99 : decode cX1_trial 99 = .ok (.iaload, 1) := by decide +kernel
theorem dX1_trial_100 : decode cX1_trial 100 = .ok (.invokestatic 55, 3) := by decide +kernel
theorem dX1_trial_103 : decode cX1_trial 103 = .ok (.istore 7, 2) := by decide +kernel
theorem dX1_trial_105 : decode cX1_trial 105 = .ok (.iload 5, 2) := by decide +kernel
theorem dX1_trial_107 : decode cX1_trial 107 = .ok (.ifCond .eq 18, 3) := by decide +kernel
theorem dX1_trial_110 : decode cX1_trial 110 = .ok (.iload_n 2, 1) := by decide +kernel
theorem dX1_trial_111 : decode cX1_trial 111 = .ok (.aload_n 0, 1) := by decide +kernel
theorem dX1_trial_112 : decode cX1_trial 112 = .ok (.getfield 16, 3) := by decide +kernel
theorem dX1_trial_115 : decode cX1_trial 115 = .ok (.invokestatic 55, 3) := by decide +kernel
theorem dX1_trial_118 : decode cX1_trial 118 = .ok (.ifCond .eq 7, 3) := by decide +kernel
theorem dX1_trial_121 : decode cX1_trial 121 = .ok (.iconst 1, 1) := by decide +kernel
theorem dX1_trial_122 : decode cX1_trial 122 = .ok (.goto 4, 3) := by decide +kernel
theorem dX1_trial_125 : decode cX1_trial 125 = .ok (.iconst 0, 1) := by decide +kernel
theorem dX1_trial_126 : decode cX1_trial 126 = .ok (.istore 8, 2) := by decide +kernel
theorem dX1_trial_128 : decode cX1_trial 128 = .ok (.aload_n 0, 1) := by decide +kernel
theorem dX1_trial_129 : decode cX1_trial 129 = .ok (.getfield 23, 3) := by decide +kernel
theorem dX1_trial_132 : decode cX1_trial 132 = .ok (.iload_n 1, 1) := by decide +kernel
theorem dX1_trial_133 : decode cX1_trial 133 = .ok (.iload 7, 2) := by decide +kernel
theorem dX1_trial_135 : decode cX1_trial 135 = .ok (.ifCond .eq 7, 3) := by decide +kernel
theorem dX1_trial_138 : decode cX1_trial 138 = .ok (.iload_n 2, 1) := by decide +kernel
theorem dX1_trial_139 : decode cX1_trial 139 = .ok (.goto 9, 3) := by decide +kernel
theorem dX1_trial_142 : decode cX1_trial 142 = .ok (.aload_n 0, 1) := by decide +kernel
theorem dX1_trial_143 : decode cX1_trial 143 = .ok (.getfield 23, 3) := by decide +kernel
theorem dX1_trial_146 : decode cX1_trial 146 = .ok (.iload_n 1, 1) := by decide +kernel
theorem dX1_trial_147 : decode cX1_trial 147 = .ok (.iaload, 1) := by decide +kernel
theorem dX1_trial_148 : decode cX1_trial 148 = .ok (.iastore, 1) := by decide +kernel
theorem dX1_trial_149 : decode cX1_trial 149 = .ok (.aload_n 0, 1) := by decide +kernel
theorem dX1_trial_150 : decode cX1_trial 150 = .ok (.iload 8, 2) := by decide +kernel
theorem dX1_trial_152 : decode cX1_trial 152 = .ok (.ifCond .eq 7, 3) := by decide +kernel
theorem dX1_trial_155 : decode cX1_trial 155 = .ok (.iload_n 2, 1) := by decide +kernel
theorem dX1_trial_156 : decode cX1_trial 156 = .ok (.goto 7, 3) := by decide +kernel
theorem dX1_trial_159 : decode cX1_trial 159 = .ok (.aload_n 0, 1) := by decide +kernel
theorem dX1_trial_160 : decode cX1_trial 160 = .ok (.getfield 16, 3) := by decide +kernel
theorem dX1_trial_163 : decode cX1_trial 163 = .ok (.putfield 16, 3) := by decide +kernel
theorem dX1_trial_166 : decode cX1_trial 166 = .ok (.iload 5, 2) := by decide +kernel
theorem dX1_trial_168 : decode cX1_trial 168 = .ok (.ifCond .eq 7, 3) := by decide +kernel
theorem dX1_trial_171 : decode cX1_trial 171 = .ok (.iconst 1, 1) := by decide +kernel
theorem dX1_trial_172 : decode cX1_trial 172 = .ok (.goto 4, 3) := by decide +kernel
theorem dX1_trial_175 : decode cX1_trial 175 = .ok (.iconst 0, 1) := by decide +kernel
theorem dX1_trial_176 : decode cX1_trial 176 = .ok (.iload 6, 2) := by decide +kernel
theorem dX1_trial_178 : decode cX1_trial 178 = .ok (.ifCond .eq 7, 3) := by decide +kernel
theorem dX1_trial_181 : decode cX1_trial 181 = .ok (.iconst 2, 1) := by decide +kernel
theorem dX1_trial_182 : decode cX1_trial 182 = .ok (.goto 4, 3) := by decide +kernel
theorem dX1_trial_185 : decode cX1_trial 185 = .ok (.iconst 0, 1) := by decide +kernel
theorem dX1_trial_186 : decode cX1_trial 186 = .ok (.iadd, 1) := by decide +kernel
theorem dX1_trial_187 : decode cX1_trial 187 = .ok (.iload 7, 2) := by decide +kernel
theorem dX1_trial_189 : decode cX1_trial 189 = .ok (.ifCond .eq 7, 3) := by decide +kernel
theorem dX1_trial_192 : decode cX1_trial 192 = .ok (.iconst 4, 1) := by decide +kernel
theorem dX1_trial_193 : decode cX1_trial 193 = .ok (.goto 4, 3) := by decide +kernel
theorem dX1_trial_196 : decode cX1_trial 196 = .ok (.iconst 0, 1) := by decide +kernel
theorem dX1_trial_197 : decode cX1_trial 197 = .ok (.iadd, 1) := by decide +kernel
theorem dX1_trial_198 : decode cX1_trial 198 = .ok (.iload 8, 2) := by decide +kernel
theorem dX1_trial_200 : decode cX1_trial 200 = .ok (.ifCond .eq 8, 3) := by decide +kernel
theorem dX1_trial_203 : decode cX1_trial 203 = .ok (.bipush 8, 2) := by decide +kernel
theorem dX1_trial_205 : decode cX1_trial 205 = .ok (.goto 4, 3) := by decide +kernel
theorem dX1_trial_208 : decode cX1_trial 208 = .ok (.iconst 0, 1) := by decide +kernel
theorem dX1_trial_209 : decode cX1_trial 209 = .ok (.iadd, 1) := by decide +kernel
theorem dX1_trial_210 : decode cX1_trial 210 = .ok (.ireturn, 1) := by decide +kernel
set_option maxRecDepth 20000 in
theorem ggX1_annul_X1_isClock : GoodIn wsX1_annul wsX1_isClock := goodIn_r _ [8, 9, 16, 17, 18, 19, 20, 21, 22, 23, 24] (by decide +kernel) (by decide +kernel)
set_option maxRecDepth 20000 in
theorem gX1_annul_X1_isClock : GoodIn wsX1_annul (wsV RX1 49 RX1 yX1_isClock wsX1_isClock) := goodIn_app (goodIn_of _ (by decide +kernel)) ggX1_annul_X1_isClock
set_option maxRecDepth 20000 in
theorem ggX1_annul_X1_beats : GoodIn wsX1_annul wsX1_beats := goodIn_r _ [12, 13, 14, 7, 15] (by decide +kernel) (by decide +kernel)
set_option maxRecDepth 20000 in
theorem gX1_annul_X1_beats : GoodIn wsX1_annul (va_wsS RX1 55 yX1_beats wsX1_beats) := goodIn_app (goodIn_of _ (by decide +kernel)) ggX1_annul_X1_beats
theorem dX1_annul_0 : decode cX1_annul 0 = .ok (.aload_n 0, 1) := by decide +kernel
theorem dX1_annul_1 : decode cX1_annul 1 = .ok (.iload_n 1, 1) := by decide +kernel
theorem dX1_annul_2 : decode cX1_annul 2 = .ok (.invokevirtual 49, 3) := by decide +kernel
theorem dX1_annul_5 : decode cX1_annul 5 = .ok (.ifCond .eq 12, 3) := by decide +kernel
theorem dX1_annul_8 : decode cX1_annul 8 = .ok (.aload_n 0, 1) := by decide +kernel
theorem dX1_annul_9 : decode cX1_annul 9 = .ok (.getfield 19, 3) := by decide +kernel
theorem dX1_annul_12 : decode cX1_annul 12 = .ok (.iload_n 1, 1) := by decide +kernel
theorem dX1_annul_13 : decode cX1_annul 13 = .ok (.iaload, 1) := by decide +kernel
theorem dX1_annul_14 : decode cX1_annul 14 = .ok (.ifCond .ne 5, 3) := by decide +kernel
theorem dX1_annul_17 : decode cX1_annul 17 = .ok (.iconst (-1), 1) := by decide +kernel
theorem dX1_annul_18 : decode cX1_annul 18 = .ok (.ireturn, 1) := by decide +kernel
theorem dX1_annul_19 : decode cX1_annul 19 = .ok (.aload_n 0, 1) := by decide +kernel
theorem dX1_annul_20 : decode cX1_annul 20 = .ok (.getfield 19, 3) := by decide +kernel
theorem dX1_annul_23 : decode cX1_annul 23 = .ok (.iload_n 1, 1) := by decide +kernel
theorem dX1_annul_24 : decode cX1_annul 24 = .ok (.dup2, 1) := by decide +kernel
theorem dX1_annul_25 : decode cX1_annul 25 = .ok (.iaload, 1) := by decide +kernel
theorem dX1_annul_26 : decode cX1_annul 26 = .ok (.iconst 1, 1) := by decide +kernel
theorem dX1_annul_27 : decode cX1_annul 27 = .ok (.isub, 1) := by decide +kernel
theorem dX1_annul_28 : decode cX1_annul 28 = .ok (.iastore, 1) := by decide +kernel
theorem dX1_annul_29 : decode cX1_annul 29 = .ok (.aload_n 0, 1) := by decide +kernel
theorem dX1_annul_30 : decode cX1_annul 30 = .ok (.getfield 23, 3) := by decide +kernel
theorem dX1_annul_33 : decode cX1_annul 33 = .ok (.iload_n 1, 1) := by decide +kernel
theorem dX1_annul_34 : decode cX1_annul 34 = .ok (.iconst (-1), 1) := by decide +kernel
theorem dX1_annul_35 : decode cX1_annul 35 = .ok (.iastore, 1) := by decide +kernel
theorem dX1_annul_36 : decode cX1_annul 36 = .ok (.iconst 0, 1) := by decide +kernel
theorem dX1_annul_37 : decode cX1_annul 37 = .ok (.istore_n 2, 1) := by decide +kernel
theorem dX1_annul_38 : decode cX1_annul 38 = .ok (.iload_n 2, 1) := by decide +kernel
theorem dX1_annul_39 : decode cX1_annul 39 = .ok (.aload_n 0, 1) := by decide +kernel
theorem dX1_annul_40 : decode cX1_annul 40 = .ok (.getfield 19, 3) := by decide +kernel
theorem dX1_annul_43 : decode cX1_annul 43 = .ok (.iload_n 1, 1) := by decide +kernel
theorem dX1_annul_44 : decode cX1_annul 44 = .ok (.iaload, 1) := by decide +kernel
theorem dX1_annul_45 : decode cX1_annul 45 = .ok (.if_icmp .ge 50, 3) := by decide +kernel
theorem dX1_annul_48 : decode cX1_annul 48 = .ok (.aload_n 0, 1) := by decide +kernel
theorem dX1_annul_49 : decode cX1_annul 49 = .ok (.getfield 29, 3) := by decide +kernel
theorem dX1_annul_52 : decode cX1_annul 52 = .ok (.bipush 6, 2) := by decide +kernel
theorem dX1_annul_54 : decode cX1_annul 54 = .ok (.iload_n 1, 1) := by decide +kernel
theorem dX1_annul_55 : decode cX1_annul 55 = .ok (.imul, 1) := by decide +kernel
theorem dX1_annul_56 : decode cX1_annul 56 = .ok (.iload_n 2, 1) := by decide +kernel
theorem dX1_annul_57 : decode cX1_annul 57 = .ok (.iadd, 1) := by decide +kernel
theorem dX1_annul_58 : decode cX1_annul 58 = .ok (.iaload, 1) := by decide +kernel
theorem dX1_annul_59 : decode cX1_annul 59 = .ok (.istore_n 3, 1) := by decide +kernel
theorem dX1_annul_60 : decode cX1_annul 60 = .ok (.aload_n 0, 1) := by decide +kernel
theorem dX1_annul_61 : decode cX1_annul 61 = .ok (.getfield 23, 3) := by decide +kernel
theorem dX1_annul_64 : decode cX1_annul 64 = .ok (.iload_n 1, 1) := by decide +kernel
theorem dX1_annul_65 : decode cX1_annul 65 = .ok (.iload_n 3, 1) := by decide +kernel
theorem dX1_annul_66 : decode cX1_annul 66 = .ok (.aload_n 0, 1) := by decide +kernel
theorem dX1_annul_67 : decode cX1_annul 67 = .ok (.getfield 23, 3) := by decide +kernel
theorem dX1_annul_70 : decode cX1_annul 70 = .ok (.iload_n 1, 1) := by decide +kernel
theorem dX1_annul_71 : decode cX1_annul 71 = .ok (.iaload, 1) := by decide +kernel
theorem dX1_annul_72 : decode cX1_annul 72 = .ok (.invokestatic 55, 3) := by decide +kernel
theorem dX1_annul_75 : decode cX1_annul 75 = .ok (.ifCond .eq 7, 3) := by decide +kernel
theorem dX1_annul_78 : decode cX1_annul 78 = .ok (.iload_n 3, 1) := by decide +kernel
theorem dX1_annul_79 : decode cX1_annul 79 = .ok (.goto 9, 3) := by decide +kernel
theorem dX1_annul_82 : decode cX1_annul 82 = .ok (.aload_n 0, 1) := by decide +kernel
theorem dX1_annul_83 : decode cX1_annul 83 = .ok (.getfield 23, 3) := by decide +kernel
theorem dX1_annul_86 : decode cX1_annul 86 = .ok (.iload_n 1, 1) := by decide +kernel
theorem dX1_annul_87 : decode cX1_annul 87 = .ok (.iaload, 1) := by decide +kernel
theorem dX1_annul_88 : decode cX1_annul 88 = .ok (.iastore, 1) := by decide +kernel
theorem dX1_annul_89 : decode cX1_annul 89 = .ok (.iinc 2 1, 3) := by decide +kernel
theorem dX1_annul_92 : decode cX1_annul 92 = .ok (.goto (-54), 3) := by decide +kernel
theorem dX1_annul_95 : decode cX1_annul 95 = .ok (.aload_n 0, 1) := by decide +kernel
theorem dX1_annul_96 : decode cX1_annul 96 = .ok (.getfield 19, 3) := by decide +kernel
theorem dX1_annul_99 : decode cX1_annul 99 = .ok (.iload_n 1, 1) := by decide +kernel
theorem dX1_annul_100 : decode cX1_annul 100 = .ok (.iaload, 1) := by decide +kernel
theorem dX1_annul_101 : decode cX1_annul 101 = .ok (.ireturn, 1) := by decide +kernel
set_option maxRecDepth 20000 in
theorem ggX1_isAhead_X1_beats : GoodIn wsX1_isAhead wsX1_beats := goodIn_r _ [5, 6, 7, 4, 8] (by decide +kernel) (by decide +kernel)
set_option maxRecDepth 20000 in
theorem gX1_isAhead_X1_beats : GoodIn wsX1_isAhead (va_wsS RX1 55 yX1_beats wsX1_beats) := goodIn_app (goodIn_of _ (by decide +kernel)) ggX1_isAhead_X1_beats
theorem dX1_isAhead_0 : decode cX1_isAhead 0 = .ok (.aload_n 0, 1) := by decide +kernel
theorem dX1_isAhead_1 : decode cX1_isAhead 1 = .ok (.getfield 23, 3) := by decide +kernel
theorem dX1_isAhead_4 : decode cX1_isAhead 4 = .ok (.iload_n 1, 1) := by decide +kernel
theorem dX1_isAhead_5 : decode cX1_isAhead 5 = .ok (.iaload, 1) := by decide +kernel
theorem dX1_isAhead_6 : decode cX1_isAhead 6 = .ok (.aload_n 0, 1) := by decide +kernel
theorem dX1_isAhead_7 : decode cX1_isAhead 7 = .ok (.getfield 23, 3) := by decide +kernel
theorem dX1_isAhead_10 : decode cX1_isAhead 10 = .ok (.iload_n 2, 1) := by decide +kernel
theorem dX1_isAhead_11 : decode cX1_isAhead 11 = .ok (.iaload, 1) := by decide +kernel
theorem dX1_isAhead_12 : decode cX1_isAhead 12 = .ok (.if_icmp .ne 14, 3) := by decide +kernel
theorem dX1_isAhead_15 : decode cX1_isAhead 15 = .ok (.iload_n 1, 1) := by decide +kernel
theorem dX1_isAhead_16 : decode cX1_isAhead 16 = .ok (.iload_n 2, 1) := by decide +kernel
theorem dX1_isAhead_17 : decode cX1_isAhead 17 = .ok (.if_icmp .ge 7, 3) := by decide +kernel
theorem dX1_isAhead_20 : decode cX1_isAhead 20 = .ok (.iconst 1, 1) := by decide +kernel
theorem dX1_isAhead_21 : decode cX1_isAhead 21 = .ok (.goto 4, 3) := by decide +kernel
theorem dX1_isAhead_24 : decode cX1_isAhead 24 = .ok (.iconst 0, 1) := by decide +kernel
theorem dX1_isAhead_25 : decode cX1_isAhead 25 = .ok (.ireturn, 1) := by decide +kernel
theorem dX1_isAhead_26 : decode cX1_isAhead 26 = .ok (.aload_n 0, 1) := by decide +kernel
theorem dX1_isAhead_27 : decode cX1_isAhead 27 = .ok (.getfield 23, 3) := by decide +kernel
theorem dX1_isAhead_30 : decode cX1_isAhead 30 = .ok (.iload_n 1, 1) := by decide +kernel
theorem dX1_isAhead_31 : decode cX1_isAhead 31 = .ok (.iaload, 1) := by decide +kernel
theorem dX1_isAhead_32 : decode cX1_isAhead 32 = .ok (.aload_n 0, 1) := by decide +kernel
theorem dX1_isAhead_33 : decode cX1_isAhead 33 = .ok (.getfield 23, 3) := by decide +kernel
theorem dX1_isAhead_36 : decode cX1_isAhead 36 = .ok (.iload_n 2, 1) := by decide +kernel
theorem dX1_isAhead_37 : decode cX1_isAhead 37 = .ok (.iaload, 1) := by decide +kernel
theorem dX1_isAhead_38 : decode cX1_isAhead 38 = .ok (.invokestatic 55, 3) := by decide +kernel
theorem dX1_isAhead_41 : decode cX1_isAhead 41 = .ok (.ireturn, 1) := by decide +kernel
set_option maxRecDepth 20000 in
theorem ggX1_ahead_X1_isAhead : GoodIn wsX1_ahead wsX1_isAhead := goodIn_r _ [6, 7, 8, 9, 5, 10, 11, 12, 13, 14, 15, 16, 17, 18, 19, 20, 21, 22] (by decide +kernel) (by decide +kernel)
set_option maxRecDepth 20000 in
theorem gX1_ahead_X1_isAhead : GoodIn wsX1_ahead (wsV RX1 59 RX1 yX1_isAhead wsX1_isAhead) := goodIn_app (goodIn_of _ (by decide +kernel)) ggX1_ahead_X1_isAhead
theorem dX1_ahead_0 : decode cX1_ahead 0 = .ok (.iconst 0, 1) := by decide +kernel
theorem dX1_ahead_1 : decode cX1_ahead 1 = .ok (.istore_n 2, 1) := by decide +kernel
theorem dX1_ahead_2 : decode cX1_ahead 2 = .ok (.iconst 0, 1) := by decide +kernel
theorem dX1_ahead_3 : decode cX1_ahead 3 = .ok (.istore_n 3, 1) := by decide +kernel
theorem dX1_ahead_4 : decode cX1_ahead 4 = .ok (.iload_n 3, 1) := by decide +kernel
theorem dX1_ahead_5 : decode cX1_ahead 5 = .ok (.aload_n 0, 1) := by decide +kernel
theorem dX1_ahead_6 : decode cX1_ahead 6 = .ok (.getfield 35, 3) := by decide +kernel
theorem dX1_ahead_9 : decode cX1_ahead 9 = .ok (.if_icmp .ge 31, 3) := by decide +kernel
theorem dX1_ahead_12 : decode cX1_ahead 12 = .ok (.iload_n 2, 1) := by decide +kernel
theorem dX1_ahead_13 : decode cX1_ahead 13 = .ok (.iload_n 3, 1) := by decide +kernel
theorem dX1_ahead_14 : decode cX1_ahead 14 = .ok (.iload_n 1, 1) := by decide +kernel
theorem dX1_ahead_15 : decode cX1_ahead 15 = .ok (.if_icmp .eq 16, 3) := by decide +kernel
theorem dX1_ahead_18 : decode cX1_ahead 18 = .ok (.aload_n 0, 1) := by decide +kernel
theorem dX1_ahead_19 : decode cX1_ahead 19 = .ok (.iload_n 3, 1) := by decide +kernel
theorem dX1_ahead_20 : decode cX1_ahead 20 = .ok (.iload_n 1, 1) := by decide +kernel
theorem dX1_ahead_21 : decode cX1_ahead 21 = .ok (.invokevirtual 59, 3) := by decide +kernel
theorem dX1_ahead_24 : decode cX1_ahead 24 = .ok (.ifCond .eq 7, 3) := by decide +kernel
theorem dX1_ahead_27 : decode cX1_ahead 27 = .ok (.iconst 1, 1) := by decide +kernel
theorem dX1_ahead_28 : decode cX1_ahead 28 = .ok (.goto 4, 3) := by decide +kernel
theorem dX1_ahead_31 : decode cX1_ahead 31 = .ok (.iconst 0, 1) := by decide +kernel
theorem dX1_ahead_32 : decode cX1_ahead 32 = .ok (.iadd, 1) := by decide +kernel
theorem dX1_ahead_33 : decode cX1_ahead 33 = .ok (.istore_n 2, 1) := by decide +kernel
theorem dX1_ahead_34 : decode cX1_ahead 34 = .ok (.iinc 3 1, 3) := by decide +kernel
theorem dX1_ahead_37 : decode cX1_ahead 37 = .ok (.goto (-33), 3) := by decide +kernel
theorem dX1_ahead_40 : decode cX1_ahead 40 = .ok (.iload_n 2, 1) := by decide +kernel
theorem dX1_ahead_41 : decode cX1_ahead 41 = .ok (.ireturn, 1) := by decide +kernel
set_option maxRecDepth 20000 in
theorem ggX1_place_X1_ahead : GoodIn wsX1_place wsX1_ahead := goodIn_r _ [6, 1, 7, 8, 9, 5, 10, 11, 12, 13, 14, 15, 16, 17, 18, 19, 20, 21, 22, 23, 24, 25, 26] (by decide +kernel) (by decide +kernel)
set_option maxRecDepth 20000 in
theorem gX1_place_X1_ahead : GoodIn wsX1_place (wsV RX1 62 RX1 yX1_ahead wsX1_ahead) := goodIn_app (goodIn_of _ (by decide +kernel)) ggX1_place_X1_ahead
theorem dX1_place_0 : decode cX1_place 0 = .ok (.iconst (-1), 1) := by decide +kernel
theorem dX1_place_1 : decode cX1_place 1 = .ok (.istore_n 2, 1) := by decide +kernel
theorem dX1_place_2 : decode cX1_place 2 = .ok (.iconst 0, 1) := by decide +kernel
theorem dX1_place_3 : decode cX1_place 3 = .ok (.istore_n 3, 1) := by decide +kernel
theorem dX1_place_4 : decode cX1_place 4 = .ok (.iload_n 3, 1) := by decide +kernel
theorem dX1_place_5 : decode cX1_place 5 = .ok (.aload_n 0, 1) := by decide +kernel
theorem dX1_place_6 : decode cX1_place 6 = .ok (.getfield 35, 3) := by decide +kernel
theorem dX1_place_9 : decode cX1_place 9 = .ok (.if_icmp .ge 24, 3) := by decide +kernel
theorem dX1_place_12 : decode cX1_place 12 = .ok (.aload_n 0, 1) := by decide +kernel
theorem dX1_place_13 : decode cX1_place 13 = .ok (.iload_n 3, 1) := by decide +kernel
theorem dX1_place_14 : decode cX1_place 14 = .ok (.invokevirtual 62, 3) := by decide +kernel
theorem dX1_place_17 : decode cX1_place 17 = .ok (.iload_n 1, 1) := by decide +kernel
theorem dX1_place_18 : decode cX1_place 18 = .ok (.if_icmp .ne 7, 3) := by decide +kernel
theorem dX1_place_21 : decode cX1_place 21 = .ok (.iload_n 3, 1) := by decide +kernel
theorem dX1_place_22 : decode cX1_place 22 = .ok (.goto 4, 3) := by decide +kernel
theorem dX1_place_25 : decode cX1_place 25 = .ok (.iload_n 2, 1) := by decide +kernel
theorem dX1_place_26 : decode cX1_place 26 = .ok (.istore_n 2, 1) := by decide +kernel
theorem dX1_place_27 : decode cX1_place 27 = .ok (.iinc 3 1, 3) := by decide +kernel
theorem dX1_place_30 : decode cX1_place 30 = .ok (.goto (-26), 3) := by decide +kernel
theorem dX1_place_33 : decode cX1_place 33 = .ok (.iload_n 2, 1) := by decide +kernel
theorem dX1_place_34 : decode cX1_place 34 = .ok (.ireturn, 1) := by decide +kernel
theorem dX1_chill_0 : decode cX1_chill 0 = .ok (.aload_n 0, 1) := by decide +kernel
theorem dX1_chill_1 : decode cX1_chill 1 = .ok (.getfield 19, 3) := by decide +kernel
theorem dX1_chill_4 : decode cX1_chill 4 = .ok (.iload_n 1, 1) := by decide +kernel
theorem dX1_chill_5 : decode cX1_chill 5 = .ok (.iaload, 1) := by decide +kernel
theorem dX1_chill_6 : decode cX1_chill 6 = .ok (.ifCond .ne 8, 3) := by decide +kernel
theorem dX1_chill_9 : decode cX1_chill 9 = .ok (.bipush 100, 2) := by decide +kernel
theorem dX1_chill_11 : decode cX1_chill 11 = .ok (.goto 21, 3) := by decide +kernel
theorem dX1_chill_14 : decode cX1_chill 14 = .ok (.aload_n 0, 1) := by decide +kernel
theorem dX1_chill_15 : decode cX1_chill 15 = .ok (.getfield 32, 3) := by decide +kernel
theorem dX1_chill_18 : decode cX1_chill 18 = .ok (.bipush 6, 2) := by decide +kernel
theorem dX1_chill_20 : decode cX1_chill 20 = .ok (.iload_n 1, 1) := by decide +kernel
theorem dX1_chill_21 : decode cX1_chill 21 = .ok (.imul, 1) := by decide +kernel
theorem dX1_chill_22 : decode cX1_chill 22 = .ok (.aload_n 0, 1) := by decide +kernel
theorem dX1_chill_23 : decode cX1_chill 23 = .ok (.getfield 19, 3) := by decide +kernel
theorem dX1_chill_26 : decode cX1_chill 26 = .ok (.iload_n 1, 1) := by decide +kernel
theorem dX1_chill_27 : decode cX1_chill 27 = .ok (.iaload, 1) := by decide +kernel
theorem dX1_chill_28 : decode cX1_chill 28 = .ok (.iadd, 1) := by decide +kernel
theorem dX1_chill_29 : decode cX1_chill 29 = .ok (.iconst 1, 1) := by decide +kernel
theorem dX1_chill_30 : decode cX1_chill 30 = .ok (.isub, 1) := by decide +kernel
theorem dX1_chill_31 : decode cX1_chill 31 = .ok (.iaload, 1) := by decide +kernel
theorem dX1_chill_32 : decode cX1_chill 32 = .ok (.ireturn, 1) := by decide +kernel
set_option maxRecDepth 20000 in
theorem ggX1_rank_X1_holds : GoodIn wsX1_rank wsX1_holds := goodIn_r _ [6] (by decide +kernel) (by decide +kernel)
set_option maxRecDepth 20000 in
theorem gX1_rank_X1_holds : GoodIn wsX1_rank (va_wsS RX1 45 yX1_holds wsX1_holds) := goodIn_app (goodIn_of _ (by decide +kernel)) ggX1_rank_X1_holds
theorem dX1_rank_0 : decode cX1_rank 0 = .ok (.iconst 0, 1) := by decide +kernel
theorem dX1_rank_1 : decode cX1_rank 1 = .ok (.istore_n 2, 1) := by decide +kernel
theorem dX1_rank_2 : decode cX1_rank 2 = .ok (.iconst 0, 1) := by decide +kernel
theorem dX1_rank_3 : decode cX1_rank 3 = .ok (.istore_n 3, 1) := by decide +kernel
theorem dX1_rank_4 : decode cX1_rank 4 = .ok (.iload_n 3, 1) := by decide +kernel
theorem dX1_rank_5 : decode cX1_rank 5 = .ok (.aload_n 0, 1) := by decide +kernel
theorem dX1_rank_6 : decode cX1_rank 6 = .ok (.getfield 35, 3) := by decide +kernel
theorem dX1_rank_9 : decode cX1_rank 9 = .ok (.if_icmp .ge 65, 3) := by decide +kernel
theorem dX1_rank_12 : decode cX1_rank 12 = .ok (.iload_n 2, 1) := by decide +kernel
theorem dX1_rank_13 : decode cX1_rank 13 = .ok (.iload_n 3, 1) := by decide +kernel
theorem dX1_rank_14 : decode cX1_rank 14 = .ok (.iload_n 1, 1) := by decide +kernel
theorem dX1_rank_15 : decode cX1_rank 15 = .ok (.if_icmp .eq 50, 3) := by decide +kernel
theorem dX1_rank_18 : decode cX1_rank 18 = .ok (.aload_n 0, 1) := by decide +kernel
theorem dX1_rank_19 : decode cX1_rank 19 = .ok (.getfield 23, 3) := by decide +kernel
theorem dX1_rank_22 : decode cX1_rank 22 = .ok (.iload_n 1, 1) := by decide +kernel
