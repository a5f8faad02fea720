theorem dX2_init_0 : decode cX2_init 0 = .ok (.aload_n 0, 1) := by decide +kernel
theorem dX2_init_1 : decode cX2_init 1 = .ok (.invokespecial 1, 3) := by decide +kernel
theorem dX2_init_4 : decode cX2_init 4 = .ok (.aload_n 0, 1) := by decide +kernel
theorem dX2_init_5 : decode cX2_init 5 = .ok (.aload_n 1, 1) := by decide +kernel
theorem dX2_init_6 : decode cX2_init 6 = .ok (.putfield 7, 3) := by decide +kernel
theorem dX2_init_9 : decode cX2_init 9 = .ok (.return_, 1) := by decide +kernel
set_option maxRecDepth 20000 in
theorem ggX2_distances_X0_count : GoodIn wsX2_distances wsX0_count := goodIn_r _ [6, 7, 14, 15] (by decide +kernel) (by decide +kernel)
set_option maxRecDepth 20000 in
theorem gX2_distances_X0_count : GoodIn wsX2_distances (wsV RX2 13 RX0 yX0_count wsX0_count) := goodIn_app (goodIn_of _ (by decide +kernel)) ggX2_distances_X0_count
set_option maxRecDepth 20000 in
theorem ggX2_distances_X0_turned : GoodIn wsX2_distances wsX0_turned := goodIn_r _ [11, 7, 12, 14, 15] (by decide +kernel) (by decide +kernel)
set_option maxRecDepth 20000 in
theorem gX2_distances_X0_turned : GoodIn wsX2_distances (wsV RX2 19 RX0 yX0_turned wsX0_turned) := goodIn_app (goodIn_of _ (by decide +kernel)) ggX2_distances_X0_turned
theorem dX2_distances_0 : decode cX2_distances 0 = .ok (.aload_n 0, 1) := by decide +kernel
theorem dX2_distances_1 : decode cX2_distances 1 = .ok (.getfield 7, 3) := by decide +kernel
theorem dX2_distances_4 : decode cX2_distances 4 = .ok (.iload_n 1, 1) := by decide +kernel
theorem dX2_distances_5 : decode cX2_distances 5 = .ok (.aload_n 0, 1) := by decide +kernel
theorem dX2_distances_6 : decode cX2_distances 6 = .ok (.getfield 7, 3) := by decide +kernel
theorem dX2_distances_9 : decode cX2_distances 9 = .ok (.invokevirtual 13, 3) := by decide +kernel
theorem dX2_distances_12 : decode cX2_distances 12 = .ok (.iload_n 2, 1) := by decide +kernel
theorem dX2_distances_13 : decode cX2_distances 13 = .ok (.isub, 1) := by decide +kernel
theorem dX2_distances_14 : decode cX2_distances 14 = .ok (.invokevirtual 19, 3) := by decide +kernel
theorem dX2_distances_17 : decode cX2_distances 17 = .ok (.ireturn, 1) := by decide +kernel
set_option maxRecDepth 20000 in
theorem ggX2_normalStart_X0_stepAt : GoodIn wsX2_normalStart wsX0_stepAt := goodIn_r _ [6, 7, 37, 38] (by decide +kernel) (by decide +kernel)
set_option maxRecDepth 20000 in
theorem gX2_normalStart_X0_stepAt : GoodIn wsX2_normalStart (wsV RX2 23 RX0 yX0_stepAt wsX0_stepAt) := goodIn_app (goodIn_of _ (by decide +kernel)) ggX2_normalStart_X0_stepAt
set_option maxRecDepth 20000 in
theorem ggX2_normalStart_X0_count : GoodIn wsX2_normalStart wsX0_count := goodIn_r _ [11, 7, 37, 38] (by decide +kernel) (by decide +kernel)
set_option maxRecDepth 20000 in
theorem gX2_normalStart_X0_count : GoodIn wsX2_normalStart (wsV RX2 13 RX0 yX0_count wsX0_count) := goodIn_app (goodIn_of _ (by decide +kernel)) ggX2_normalStart_X0_count
set_option maxRecDepth 20000 in
theorem ggX2_normalStart_X2_distances : GoodIn wsX2_normalStart wsX2_distances := goodIn_r _ [16, 1, 8, 9, 10, 5, 11, 7, 17, 18, 19, 20, 21, 36, 37, 38] (by decide +kernel) (by decide +kernel)
set_option maxRecDepth 20000 in
theorem gX2_normalStart_X2_distances : GoodIn wsX2_normalStart (wsV RX2 26 RX2 yX2_distances wsX2_distances) := goodIn_app (goodIn_of _ (by decide +kernel)) ggX2_normalStart_X2_distances
set_option maxRecDepth 20000 in
theorem ggX2_normalStart_X2_isLesser : GoodIn wsX2_normalStart wsX2_isLesser := goodIn_r _ [25, 1, 26, 27, 28, 29, 30, 31, 32, 2, 3, 4, 5, 6, 7, 33, 34, 15, 35, 36, 37, 38] (by decide +kernel) (by decide +kernel)
set_option maxRecDepth 20000 in
theorem gX2_normalStart_X2_isLesser : GoodIn wsX2_normalStart (wsV RX2 29 RX2 yX2_isLesser wsX2_isLesser) := goodIn_app (goodIn_of _ (by decide +kernel)) ggX2_normalStart_X2_isLesser
theorem dX2_normalStart_0 : decode cX2_normalStart 0 = .ok (.aload_n 0, 1) := by decide +kernel
theorem dX2_normalStart_1 : decode cX2_normalStart 1 = .ok (.getfield 7, 3) := by decide +kernel
theorem dX2_normalStart_4 : decode cX2_normalStart 4 = .ok (.iload_n 1, 1) := by decide +kernel
theorem dX2_normalStart_5 : decode cX2_normalStart 5 = .ok (.iconst 0, 1) := by decide +kernel
theorem dX2_normalStart_6 : decode cX2_normalStart 6 = .ok (.invokevirtual 23, 3) := by decide +kernel
theorem dX2_normalStart_9 : decode cX2_normalStart 9 = .ok (.istore_n 3, 1) := by decide +kernel
theorem dX2_normalStart_10 : decode cX2_normalStart 10 = .ok (.iload_n 3, 1) := by decide +kernel
theorem dX2_normalStart_11 : decode cX2_normalStart 11 = .ok (.iconst 1, 1) := by decide +kernel
theorem dX2_normalStart_12 : decode cX2_normalStart 12 = .ok (.iadd, 1) := by decide +kernel
theorem dX2_normalStart_13 : decode cX2_normalStart 13 = .ok (.istore 4, 2) := by decide +kernel
theorem dX2_normalStart_15 : decode cX2_normalStart 15 = .ok (.iload 4, 2) := by decide +kernel
theorem dX2_normalStart_17 : decode cX2_normalStart 17 = .ok (.aload_n 0, 1) := by decide +kernel
theorem dX2_normalStart_18 : decode cX2_normalStart 18 = .ok (.getfield 7, 3) := by decide +kernel
theorem dX2_normalStart_21 : decode cX2_normalStart 21 = .ok (.invokevirtual 13, 3) := by decide +kernel
theorem dX2_normalStart_24 : decode cX2_normalStart 24 = .ok (.if_icmp .ge 43, 3) := by decide +kernel
theorem dX2_normalStart_27 : decode cX2_normalStart 27 = .ok (.iload_n 1, 1) := by decide +kernel
theorem dX2_normalStart_28 : decode cX2_normalStart 28 = .ok (.iload 4, 2) := by decide +kernel
theorem dX2_normalStart_30 : decode cX2_normalStart 30 = .ok (.ishr, 1) := by decide +kernel
theorem dX2_normalStart_31 : decode cX2_normalStart 31 = .ok (.iconst 1, 1) := by decide +kernel
theorem dX2_normalStart_32 : decode cX2_normalStart 32 = .ok (.iand, 1) := by decide +kernel
theorem dX2_normalStart_33 : decode cX2_normalStart 33 = .ok (.iconst 1, 1) := by decide +kernel
theorem dX2_normalStart_34 : decode cX2_normalStart 34 = .ok (.if_icmp .ne 27, 3) := by decide +kernel
theorem dX2_normalStart_37 : decode cX2_normalStart 37 = .ok (.aload_n 0, 1) := by decide +kernel
theorem dX2_normalStart_38 : decode cX2_normalStart 38 = .ok (.aload_n 0, 1) := by decide +kernel
theorem dX2_normalStart_39 : decode cX2_normalStart 39 = .ok (.iload_n 1, 1) := by decide +kernel
theorem dX2_normalStart_40 : decode cX2_normalStart 40 = .ok (.iload 4, 2) := by decide +kernel
theorem dX2_normalStart_42 : decode cX2_normalStart 42 = .ok (.invokevirtual 26, 3) := by decide +kernel
theorem dX2_normalStart_45 : decode cX2_normalStart 45 = .ok (.aload_n 0, 1) := by decide +kernel
theorem dX2_normalStart_46 : decode cX2_normalStart 46 = .ok (.iload_n 1, 1) := by decide +kernel
theorem dX2_normalStart_47 : decode cX2_normalStart 47 = .ok (.iload_n 3, 1) := by decide +kernel
theorem dX2_normalStart_48 : decode cX2_normalStart 48 = .ok (.invokevirtual 26, 3) := by decide +kernel
theorem dX2_normalStart_51 : decode cX2_normalStart 51 = .ok (.iload_n 2, 1) := by decide +kernel
theorem dX2_normalStart_52 : decode cX2_normalStart 52 = .ok (.invokevirtual 29, 3) := by decide +kernel
theorem dX2_normalStart_55 : decode cX2_normalStart 55 = .ok (.ifCond .eq 6, 3) := by decide +kernel
theorem dX2_normalStart_58 : decode cX2_normalStart 58 = .ok (.iload 4, 2) := by decide +kernel
theorem dX2_normalStart_60 : decode cX2_normalStart 60 = .ok (.istore_n 3, 1) := by decide +kernel
theorem dX2_normalStart_61 : decode cX2_normalStart 61 = .ok (.iinc 4 1, 3) := by decide +kernel
theorem dX2_normalStart_64 : decode cX2_normalStart 64 = .ok (.goto (-49), 3) := by decide +kernel
theorem dX2_normalStart_67 : decode cX2_normalStart 67 = .ok (.iload_n 3, 1) := by decide +kernel
theorem dX2_normalStart_68 : decode cX2_normalStart 68 = .ok (.ireturn, 1) := by decide +kernel
set_option maxRecDepth 20000 in
theorem ggX2_primeDistances_X0_mirroredIf : GoodIn wsX2_primeDistances wsX0_mirroredIf := goodIn_r _ [6, 7, 8, 9, 10, 5, 11, 12, 13, 14, 15, 53, 54] (by decide +kernel) (by decide +kernel)
set_option maxRecDepth 20000 in
theorem gX2_primeDistances_X0_mirroredIf : GoodIn wsX2_primeDistances (wsV RX2 33 RX0 yX0_mirroredIf wsX0_mirroredIf) := goodIn_app (goodIn_of _ (by decide +kernel)) ggX2_primeDistances_X0_mirroredIf
set_option maxRecDepth 20000 in
theorem ggX2_primeDistances_X2_normalStart : GoodIn wsX2_primeDistances wsX2_normalStart := goodIn_r _ [20, 1, 21, 22, 23, 5, 24, 7, 25, 26, 27, 28, 29, 30, 31, 19, 32, 33, 34, 35, 36, 37, 38, 39, 40, 41, 42, 43, 44, 45, 46, 47, 48, 49, 50, 51, 52, 53, 54] (by decide +kernel) (by decide +kernel)
set_option maxRecDepth 20000 in
theorem gX2_primeDistances_X2_normalStart : GoodIn wsX2_primeDistances (wsV RX2 37 RX2 yX2_normalStart wsX2_normalStart) := goodIn_app (goodIn_of _ (by decide +kernel)) ggX2_primeDistances_X2_normalStart
set_option maxRecDepth 20000 in
theorem ggX2_primeDistances_X2_distances : GoodIn wsX2_primeDistances wsX2_distances := goodIn_r _ [32, 1, 25, 26, 27, 5, 28, 7, 33, 34, 35, 36, 37, 52, 53, 54] (by decide +kernel) (by decide +kernel)
set_option maxRecDepth 20000 in
theorem gX2_primeDistances_X2_distances : GoodIn wsX2_primeDistances (wsV RX2 26 RX2 yX2_distances wsX2_distances) := goodIn_app (goodIn_of _ (by decide +kernel)) ggX2_primeDistances_X2_distances
set_option maxRecDepth 20000 in
theorem ggX2_primeDistances_X2_isLesser : GoodIn wsX2_primeDistances wsX2_isLesser := goodIn_r _ [41, 1, 42, 43, 44, 45, 46, 47, 48, 21, 22, 23, 5, 24, 7, 49, 50, 19, 51, 52, 53, 54] (by decide +kernel) (by decide +kernel)
set_option maxRecDepth 20000 in
theorem gX2_primeDistances_X2_isLesser : GoodIn wsX2_primeDistances (wsV RX2 29 RX2 yX2_isLesser wsX2_isLesser) := goodIn_app (goodIn_of _ (by decide +kernel)) ggX2_primeDistances_X2_isLesser
theorem dX2_primeDistances_0 : decode cX2_primeDistances 0 = .ok (.aload_n 0, 1) := by decide +kernel
theorem dX2_primeDistances_1 : decode cX2_primeDistances 1 = .ok (.getfield 7, 3) := by decide +kernel
theorem dX2_primeDistances_4 : decode cX2_primeDistances 4 = .ok (.iload_n 1, 1) := by decide +kernel
theorem dX2_primeDistances_5 : decode cX2_primeDistances 5 = .ok (.iconst 1, 1) := by decide +kernel
theorem dX2_primeDistances_6 : decode cX2_primeDistances 6 = .ok (.invokevirtual 33, 3) := by decide +kernel
theorem dX2_primeDistances_9 : decode cX2_primeDistances 9 = .ok (.istore_n 3, 1) := by decide +kernel
theorem dX2_primeDistances_10 : decode cX2_primeDistances 10 = .ok (.aload_n 0, 1) := by decide +kernel
theorem dX2_primeDistances_11 : decode cX2_primeDistances 11 = .ok (.iload_n 1, 1) := by decide +kernel
theorem dX2_primeDistances_12 : decode cX2_primeDistances 12 = .ok (.aload_n 0, 1) := by decide +kernel
theorem dX2_primeDistances_13 : decode cX2_primeDistances 13 = .ok (.iload_n 1, 1) := by decide +kernel
theorem dX2_primeDistances_14 : decode cX2_primeDistances 14 = .ok (.iload_n 2, 1) := by decide +kernel
theorem dX2_primeDistances_15 : decode cX2_primeDistances 15 = .ok (.invokevirtual 37, 3) := by decide +kernel
theorem dX2_primeDistances_18 : decode cX2_primeDistances 18 = .ok (.invokevirtual 26, 3) := by decide +kernel
theorem dX2_primeDistances_21 : decode cX2_primeDistances 21 = .ok (.istore 4, 2) := by decide +kernel
theorem dX2_primeDistances_23 : decode cX2_primeDistances 23 = .ok (.aload_n 0, 1) := by decide +kernel
theorem dX2_primeDistances_24 : decode cX2_primeDistances 24 = .ok (.iload_n 3, 1) := by decide +kernel
theorem dX2_primeDistances_25 : decode cX2_primeDistances 25 = .ok (.aload_n 0, 1) := by decide +kernel
theorem dX2_primeDistances_26 : decode cX2_primeDistances 26 = .ok (.iload_n 3, 1) := by decide +kernel
theorem dX2_primeDistances_27 : decode cX2_primeDistances 27 = .ok (.iload_n 2, 1) := by decide +kernel
theorem dX2_primeDistances_28 : decode cX2_primeDistances 28 = .ok (.invokevirtual 37, 3) := by decide +kernel
theorem dX2_primeDistances_31 : decode cX2_primeDistances 31 = .ok (.invokevirtual 26, 3) := by decide +kernel
theorem dX2_primeDistances_34 : decode cX2_primeDistances 34 = .ok (.istore 5, 2) := by decide +kernel
theorem dX2_primeDistances_36 : decode cX2_primeDistances 36 = .ok (.aload_n 0, 1) := by decide +kernel
theorem dX2_primeDistances_37 : decode cX2_primeDistances 37 = .ok (.iload 5, 2) := by decide +kernel
theorem dX2_primeDistances_39 : decode cX2_primeDistances 39 = .ok (.iload 4, 2) := by decide +kernel
theorem dX2_primeDistances_41 : decode cX2_primeDistances 41 = .ok (.iload_n 2, 1) := by decide +kernel
theorem dX2_primeDistances_42 : decode cX2_primeDistances 42 = .ok (.invokevirtual 29, 3) := by decide +kernel
theorem dX2_primeDistances_45 : decode cX2_primeDistances 45 = .ok (.ifCond .eq 8, 3) := by decide +kernel
theorem dX2_primeDistances_48 : decode cX2_primeDistances 48 = .ok (.iload 5, 2) := by decide +kernel
theorem dX2_primeDistances_50 : decode cX2_primeDistances 50 = .ok (.goto 5, 3) := by decide +kernel
theorem dX2_primeDistances_53 : decode cX2_primeDistances 53 = .ok (.iload 4, 2) := by decide +kernel
theorem dX2_primeDistances_55 : decode cX2_primeDistances 55 = .ok (.ireturn, 1) := by decide +kernel
set_option maxRecDepth 20000 in
theorem ggX2_primesDiffer_X2_primeDistances : GoodIn wsX2_primesDiffer wsX2_primeDistances := goodIn_r _ [5, 6, 7, 8, 9, 10, 11, 12, 13, 14, 15, 16, 17, 18, 19, 20, 21, 22, 23, 4, 24, 25, 26, 27, 28, 29, 30, 31, 32, 33, 34, 35, 36, 37, 38, 39, 40, 41, 42, 43, 44, 45, 46, 47, 48, 49, 50, 51, 52, 53, 54, 55, 56, 57, 58] (by decide +kernel) (by decide +kernel)
set_option maxRecDepth 20000 in
theorem gX2_primesDiffer_X2_primeDistances : GoodIn wsX2_primesDiffer (wsV RX2 40 RX2 yX2_primeDistances wsX2_primeDistances) := goodIn_app (goodIn_of _ (by decide +kernel)) ggX2_primesDiffer_X2_primeDistances
theorem dX2_primesDiffer_0 : decode cX2_primesDiffer 0 = .ok (.iload_n 1, 1) := by decide +kernel
theorem dX2_primesDiffer_1 : decode cX2_primesDiffer 1 = .ok (.ifCond .eq 22, 3) := by decide +kernel
theorem dX2_primesDiffer_4 : decode cX2_primesDiffer 4 = .ok (.aload_n 0, 1) := by decide +kernel
theorem dX2_primesDiffer_5 : decode cX2_primesDiffer 5 = .ok (.iload_n 1, 1) := by decide +kernel
theorem dX2_primesDiffer_6 : decode cX2_primesDiffer 6 = .ok (.iconst 0, 1) := by decide +kernel
theorem dX2_primesDiffer_7 : decode cX2_primesDiffer 7 = .ok (.invokevirtual 40, 3) := by decide +kernel
theorem dX2_primesDiffer_10 : decode cX2_primesDiffer 10 = .ok (.aload_n 0, 1) := by decide +kernel
theorem dX2_primesDiffer_11 : decode cX2_primesDiffer 11 = .ok (.iload_n 1, 1) := by decide +kernel
theorem dX2_primesDiffer_12 : decode cX2_primesDiffer 12 = .ok (.iconst 1, 1) := by decide +kernel
theorem dX2_primesDiffer_13 : decode cX2_primesDiffer 13 = .ok (.invokevirtual 40, 3) := by decide +kernel
theorem dX2_primesDiffer_16 : decode cX2_primesDiffer 16 = .ok (.if_icmp .eq 7, 3) := by decide +kernel
theorem dX2_primesDiffer_19 : decode cX2_primesDiffer 19 = .ok (.iconst 1, 1) := by decide +kernel
theorem dX2_primesDiffer_20 : decode cX2_primesDiffer 20 = .ok (.goto 4, 3) := by decide +kernel
theorem dX2_primesDiffer_23 : decode cX2_primesDiffer 23 = .ok (.iconst 0, 1) := by decide +kernel
theorem dX2_primesDiffer_24 : decode cX2_primesDiffer 24 = .ok (.ireturn, 1) := by decide +kernel
set_option maxRecDepth 20000 in
theorem ggX2_isLesser_J6_bitCount_0f7a4 : GoodIn wsX2_isLesser wsJ6_bitCount_0f7a4 := goodIn_r _ [5, 6, 7, 8] (by decide +kernel) (by decide +kernel)
set_option maxRecDepth 20000 in
theorem gX2_isLesser_J6_bitCount_0f7a4 : GoodIn wsX2_isLesser (va_wsS RX2 43 yJ6_bitCount_0f7a4 wsJ6_bitCount_0f7a4) := goodIn_app (goodIn_of _ (by decide +kernel)) ggX2_isLesser_J6_bitCount_0f7a4
set_option maxRecDepth 20000 in
theorem ggX2_isLesser_X0_stepAt : GoodIn wsX2_isLesser wsX0_stepAt := goodIn_r _ [13, 14, 20, 21] (by decide +kernel) (by decide +kernel)
set_option maxRecDepth 20000 in
theorem gX2_isLesser_X0_stepAt : GoodIn wsX2_isLesser (wsV RX2 23 RX0 yX0_stepAt wsX0_stepAt) := goodIn_app (goodIn_of _ (by decide +kernel)) ggX2_isLesser_X0_stepAt
set_option maxRecDepth 20000 in
theorem ggX2_isLesser_X2_isLesserFromFirst : GoodIn wsX2_isLesser wsX2_isLesserFromFirst := goodIn_r _ [18] (by decide +kernel) (by decide +kernel)
set_option maxRecDepth 20000 in
theorem gX2_isLesser_X2_isLesserFromFirst : GoodIn wsX2_isLesser (va_wsS RX2 49 yX2_isLesserFromFirst wsX2_isLesserFromFirst) := goodIn_app (goodIn_of _ (by decide +kernel)) ggX2_isLesser_X2_isLesserFromFirst
theorem dX2_isLesser_0 : decode cX2_isLesser 0 = .ok (.iload_n 1, 1) := by decide +kernel
theorem dX2_isLesser_1 : decode cX2_isLesser 1 = .ok (.invokestatic 43, 3) := by decide +kernel
theorem dX2_isLesser_4 : decode cX2_isLesser 4 = .ok (.iconst 1, 1) := by decide +kernel
theorem dX2_isLesser_5 : decode cX2_isLesser 5 = .ok (.isub, 1) := by decide +kernel
theorem dX2_isLesser_6 : decode cX2_isLesser 6 = .ok (.istore 4, 2) := by decide +kernel
theorem dX2_isLesser_8 : decode cX2_isLesser 8 = .ok (.aload_n 0, 1) := by decide +kernel
theorem dX2_isLesser_9 : decode cX2_isLesser 9 = .ok (.getfield 7, 3) := by decide +kernel
theorem dX2_isLesser_12 : decode cX2_isLesser 12 = .ok (.iload_n 1, 1) := by decide +kernel
theorem dX2_isLesser_13 : decode cX2_isLesser 13 = .ok (.iload 4, 2) := by decide +kernel
theorem dX2_isLesser_15 : decode cX2_isLesser 15 = .ok (.invokevirtual 23, 3) := by decide +kernel
theorem dX2_isLesser_18 : decode cX2_isLesser 18 = .ok (.istore 5, 2) := by decide +kernel
theorem dX2_isLesser_20 : decode cX2_isLesser 20 = .ok (.aload_n 0, 1) := by decide +kernel
theorem dX2_isLesser_21 : decode cX2_isLesser 21 = .ok (.getfield 7, 3) := by decide +kernel
theorem dX2_isLesser_24 : decode cX2_isLesser 24 = .ok (.iload_n 2, 1) := by decide +kernel
theorem dX2_isLesser_25 : decode cX2_isLesser 25 = .ok (.iload 4, 2) := by decide +kernel
theorem dX2_isLesser_27 : decode cX2_isLesser 27 = .ok (.invokevirtual 23, 3) := by decide +kernel
theorem dX2_isLesser_30 : decode cX2_isLesser 30 = .ok (.istore 6, 2) := by decide +kernel
theorem dX2_isLesser_32 : decode cX2_isLesser 32 = .ok (.iload_n 3, 1) := by decide +kernel
theorem dX2_isLesser_33 : decode cX2_isLesser 33 = .ok (.ifCond .ne 16, 3) := by decide +kernel
theorem dX2_isLesser_36 : decode cX2_isLesser 36 = .ok (.iload 5, 2) := by decide +kernel
theorem dX2_isLesser_38 : decode cX2_isLesser 38 = .ok (.iload 6, 2) := by decide +kernel
theorem dX2_isLesser_40 : decode cX2_isLesser 40 = .ok (.if_icmp .ne 9, 3) := by decide +kernel
theorem dX2_isLesser_43 : decode cX2_isLesser 43 = .ok (.iload_n 1, 1) := by decide +kernel
theorem dX2_isLesser_44 : decode cX2_isLesser 44 = .ok (.iload_n 2, 1) := by decide +kernel
theorem dX2_isLesser_45 : decode cX2_isLesser 45 = .ok (.invokestatic 49, 3) := by decide +kernel
theorem dX2_isLesser_48 : decode cX2_isLesser 48 = .ok (.ireturn, 1) := by decide +kernel
theorem dX2_isLesser_49 : decode cX2_isLesser 49 = .ok (.iload_n 1, 1) := by decide +kernel
theorem dX2_isLesser_50 : decode cX2_isLesser 50 = .ok (.iload_n 2, 1) := by decide +kernel
theorem dX2_isLesser_51 : decode cX2_isLesser 51 = .ok (.if_icmp .ge 7, 3) := by decide +kernel
theorem dX2_isLesser_54 : decode cX2_isLesser 54 = .ok (.iconst 1, 1) := by decide +kernel
theorem dX2_isLesser_55 : decode cX2_isLesser 55 = .ok (.goto 4, 3) := by decide +kernel
theorem dX2_isLesser_58 : decode cX2_isLesser 58 = .ok (.iconst 0, 1) := by decide +kernel
theorem dX2_isLesser_59 : decode cX2_isLesser 59 = .ok (.ireturn, 1) := by decide +kernel
theorem dX2_isLesserFromFirst_0 : decode cX2_isLesserFromFirst 0 = .ok (.iload_n 0, 1) := by decide +kernel
theorem dX2_isLesserFromFirst_1 : decode cX2_isLesserFromFirst 1 = .ok (.iload_n 1, 1) := by decide +kernel
theorem dX2_isLesserFromFirst_2 : decode cX2_isLesserFromFirst 2 = .ok (.ixor, 1) := by decide +kernel
theorem dX2_isLesserFromFirst_3 : decode cX2_isLesserFromFirst 3 = .ok (.istore_n 2, 1) := by decide +kernel
theorem dX2_isLesserFromFirst_4 : decode cX2_isLesserFromFirst 4 = .ok (.iload_n 2, 1) := by decide +kernel
theorem dX2_isLesserFromFirst_5 : decode cX2_isLesserFromFirst 5 = .ok (.iload_n 2, 1) := by decide +kernel
theorem dX2_isLesserFromFirst_6 : decode cX2_isLesserFromFirst 6 = .ok (.ineg, 1) := by decide +kernel
theorem dX2_isLesserFromFirst_7 : decode cX2_isLesserFromFirst 7 = .ok (.iand, 1) := by decide +kernel
theorem dX2_isLesserFromFirst_8 : decode cX2_isLesserFromFirst 8 = .ok (.istore_n 3, 1) := by decide +kernel
theorem dX2_isLesserFromFirst_9 : decode cX2_isLesserFromFirst 9 = .ok (.iload_n 0, 1) := by decide +kernel
theorem dX2_isLesserFromFirst_10 : decode cX2_isLesserFromFirst 10 = .ok (.iload_n 3, 1) := by decide +kernel
theorem dX2_isLesserFromFirst_11 : decode cX2_isLesserFromFirst 11 = .ok (.iand, 1) := by decide +kernel
theorem dX2_isLesserFromFirst_12 : decode cX2_isLesserFromFirst 12 = .ok (.ifCond .eq 7, 3) := by decide +kernel
theorem dX2_isLesserFromFirst_15 : decode cX2_isLesserFromFirst 15 = .ok (.iconst 1, 1) := by decide +kernel
theorem dX2_isLesserFromFirst_16 : decode cX2_isLesserFromFirst 16 = .ok (.goto 4, 3) := by decide +kernel
theorem dX2_isLesserFromFirst_19 : decode cX2_isLesserFromFirst 19 = .ok (.iconst 0, 1) := by decide +kernel
theorem dX2_isLesserFromFirst_20 : decode cX2_isLesserFromFirst 20 = .ok (.ireturn, 1) := by decide +kernel
theorem dX3_init_0 : decode cX3_init 0 = .ok (.aload_n 0, 1) := by decide +kernel
theorem dX3_init_1 : decode cX3_init 1 = .ok (.invokespecial 3, 3) := by decide +kernel
theorem dX3_init_4 : decode cX3_init 4 = .ok (.aload_n 0, 1) := by decide +kernel
theorem dX3_init_5 : decode cX3_init 5 = .ok (.aload_n 1, 1) := by decide +kernel
theorem dX3_init_6 : decode cX3_init 6 = .ok (.putfield 9, 3) := by decide +kernel
theorem dX3_init_9 : decode cX3_init 9 = .ok (.aload_n 0, 1) := by decide +kernel
theorem dX3_init_10 : decode cX3_init 10 = .ok (.bipush 12, 2) := by decide +kernel
theorem dX3_init_12 : decode cX3_init 12 = .ok (.newarray .int, 2) := by decide +kernel
theorem dX3_init_14 : decode cX3_init 14 = .ok (.putfield 15, 3) := by decide +kernel
theorem dX3_init_17 : decode cX3_init 17 = .ok (.aload_n 0, 1) := by decide +kernel
theorem dX3_init_18 : decode cX3_init 18 = .ok (.iconst 0, 1) := by decide +kernel
theorem dX3_init_19 : decode cX3_init 19 = .ok (.putfield 19, 3) := by decide +kernel
theorem dX3_init_22 : decode cX3_init 22 = .ok (.aload_n 0, 1) := by decide +kernel
theorem dX3_init_23 : decode cX3_init 23 = .ok (.iconst 0, 1) := by decide +kernel
theorem dX3_init_24 : decode cX3_init 24 = .ok (.putfield 23, 3) := by decide +kernel
theorem dX3_init_27 : decode cX3_init 27 = .ok (.return_, 1) := by decide +kernel
theorem dX3_empty_0 : decode cX3_empty 0 = .ok (.aload_n 0, 1) := by decide +kernel
theorem dX3_empty_1 : decode cX3_empty 1 = .ok (.iconst 0, 1) := by decide +kernel
theorem dX3_empty_2 : decode cX3_empty 2 = .ok (.putfield 19, 3) := by decide +kernel
theorem dX3_empty_5 : decode cX3_empty 5 = .ok (.aload_n 0, 1) := by decide +kernel
theorem dX3_empty_6 : decode cX3_empty 6 = .ok (.iconst 0, 1) := by decide +kernel
theorem dX3_empty_7 : decode cX3_empty 7 = .ok (.putfield 23, 3) := by decide +kernel
theorem dX3_empty_10 : decode cX3_empty 10 = .ok (.return_, 1) := by decide +kernel
theorem dX3_length_0 : decode cX3_length 0 = .ok (.aload_n 0, 1) := by decide +kernel
theorem dX3_length_1 : decode cX3_length 1 = .ok (.getfield 19, 3) := by decide +kernel
theorem dX3_length_4 : decode cX3_length 4 = .ok (.ireturn, 1) := by decide +kernel
set_option maxRecDepth 20000 in
theorem ggX3_isWhole_X0_count : GoodIn wsX3_isWhole wsX0_count := goodIn_r _ [7, 8, 13, 14] (by decide +kernel) (by decide +kernel)
set_option maxRecDepth 20000 in
theorem gX3_isWhole_X0_count : GoodIn wsX3_isWhole (wsV RX3 26 RX0 yX0_count wsX0_count) := goodIn_app (goodIn_of _ (by decide +kernel)) ggX3_isWhole_X0_count
theorem dX3_isWhole_0 : decode cX3_isWhole 0 = .ok (.aload_n 0, 1) := by decide +kernel
theorem dX3_isWhole_1 : decode cX3_isWhole 1 = .ok (.getfield 19, 3) := by decide +kernel
theorem dX3_isWhole_4 : decode cX3_isWhole 4 = .ok (.aload_n 0, 1) := by decide +kernel
theorem dX3_isWhole_5 : decode cX3_isWhole 5 = .ok (.getfield 9, 3) := by decide +kernel
theorem dX3_isWhole_8 : decode cX3_isWhole 8 = .ok (.invokevirtual 26, 3) := by decide +kernel
theorem dX3_isWhole_11 : decode cX3_isWhole 11 = .ok (.if_icmp .ne 7, 3) := by decide +kernel
theorem dX3_isWhole_14 : decode cX3_isWhole 14 = .ok (.iconst 1, 1) := by decide +kernel
theorem dX3_isWhole_15 : decode cX3_isWhole 15 = .ok (.goto 4, 3) := by decide +kernel
theorem dX3_isWhole_18 : decode cX3_isWhole 18 = .ok (.iconst 0, 1) := by decide +kernel
theorem dX3_isWhole_19 : decode cX3_isWhole 19 = .ok (.ireturn, 1) := by decide +kernel
theorem dX3_hasPlace_0 : decode cX3_hasPlace 0 = .ok (.iload_n 1, 1) := by decide +kernel
theorem dX3_hasPlace_1 : decode cX3_hasPlace 1 = .ok (.ifCond .lt 15, 3) := by decide +kernel
theorem dX3_hasPlace_4 : decode cX3_hasPlace 4 = .ok (.iload_n 1, 1) := by decide +kernel
theorem dX3_hasPlace_5 : decode cX3_hasPlace 5 = .ok (.aload_n 0, 1) := by decide +kernel
theorem dX3_hasPlace_6 : decode cX3_hasPlace 6 = .ok (.getfield 19, 3) := by decide +kernel
theorem dX3_hasPlace_9 : decode cX3_hasPlace 9 = .ok (.if_icmp .ge 7, 3) := by decide +kernel
theorem dX3_hasPlace_12 : decode cX3_hasPlace 12 = .ok (.iconst 1, 1) := by decide +kernel
theorem dX3_hasPlace_13 : decode cX3_hasPlace 13 = .ok (.goto 4, 3) := by decide +kernel
theorem dX3_hasPlace_16 : decode cX3_hasPlace 16 = .ok (.iconst 0, 1) := by decide +kernel
theorem dX3_hasPlace_17 : decode cX3_hasPlace 17 = .ok (.ireturn, 1) := by decide +kernel
theorem dX3_has_0 : decode cX3_has 0 = .ok (.aload_n 0, 1) := by decide +kernel
theorem dX3_has_1 : decode cX3_has 1 = .ok (.getfield 23, 3) := by decide +kernel
theorem dX3_has_4 : decode cX3_has 4 = .ok (.iload_n 1, 1) := by decide +kernel
theorem dX3_has_5 : decode cX3_has 5 = .ok (.ishr, 1) := by decide +kernel
theorem dX3_has_6 : decode cX3_has 6 = .ok (.iconst 1, 1) := by decide +kernel
theorem dX3_has_7 : decode cX3_has 7 = .ok (.iand, 1) := by decide +kernel
theorem dX3_has_8 : decode cX3_has 8 = .ok (.iconst 1, 1) := by decide +kernel
theorem dX3_has_9 : decode cX3_has 9 = .ok (.if_icmp .ne 7, 3) := by decide +kernel
theorem dX3_has_12 : decode cX3_has 12 = .ok (.iconst 1, 1) := by decide +kernel
theorem dX3_has_13 : decode cX3_has 13 = .ok (.goto 4, 3) := by decide +kernel
theorem dX3_has_16 : decode cX3_has 16 = .ok (.iconst 0, 1) := by decide +kernel
theorem dX3_has_17 : decode cX3_has 17 = .ok (.ireturn, 1) := by decide +kernel
theorem dX3_append_0 : decode cX3_append 0 = .ok (.aload_n 0, 1) := by decide +kernel
theorem dX3_append_1 : decode cX3_append 1 = .ok (.getfield 19, 3) := by decide +kernel
theorem dX3_append_4 : decode cX3_append 4 = .ok (.bipush 12, 2) := by decide +kernel
theorem dX3_append_6 : decode cX3_append 6 = .ok (.if_icmp .ge 35, 3) := by decide +kernel
theorem dX3_append_9 : decode cX3_append 9 = .ok (.aload_n 0, 1) := by decide +kernel
theorem dX3_append_10 : decode cX3_append 10 = .ok (.getfield 15, 3) := by decide +kernel
theorem dX3_append_13 : decode cX3_append 13 = .ok (.aload_n 0, 1) := by decide +kernel
theorem dX3_append_14 : decode cX3_append 14 = .ok (.getfield 19, 3) := by decide +kernel
theorem dX3_append_17 : decode cX3_append 17 = .ok (.iload_n 1, 1) := by decide +kernel
theorem dX3_append_18 : decode cX3_append 18 = .ok (.iastore, 1) := by decide +kernel
theorem dX3_append_19 : decode cX3_append 19 = .ok (.aload_n 0, 1) := by decide +kernel
theorem dX3_append_20 : decode cX3_append 20 = .ok (.dup, 1) := by decide +kernel
theorem dX3_append_21 : decode cX3_append 21 = .ok (.getfield 19, 3) := by decide +kernel
theorem dX3_append_24 : decode cX3_append 24 = .ok (.iconst 1, 1) := by decide +kernel
theorem dX3_append_25 : decode cX3_append 25 = .ok (.iadd, 1) := by decide +kernel
theorem dX3_append_26 : decode cX3_append 26 = .ok (.putfield 19, 3) := by decide +kernel
theorem dX3_append_29 : decode cX3_append 29 = .ok (.aload_n 0, 1) := by decide +kernel
theorem dX3_append_30 : decode cX3_append 30 = .ok (.dup, 1) := by decide +kernel
theorem dX3_append_31 : decode cX3_append 31 = .ok (.getfield 23, 3) := by decide +kernel
theorem dX3_append_34 : decode cX3_append 34 = .ok (.iconst 1, 1) := by decide +kernel
theorem dX3_append_35 : decode cX3_append 35 = .ok (.iload_n 1, 1) := by decide +kernel
theorem dX3_append_36 : decode cX3_append 36 = .ok (.ishl, 1) := by decide +kernel
theorem dX3_append_37 : decode cX3_append 37 = .ok (.ior, 1) := by decide +kernel
theorem dX3_append_38 : decode cX3_append 38 = .ok (.putfield 23, 3) := by decide +kernel
theorem dX3_append_41 : decode cX3_append 41 = .ok (.return_, 1) := by decide +kernel
set_option maxRecDepth 20000 in
theorem ggX3_at_X3_hasPlace : GoodIn wsX3_at wsX3_hasPlace := goodIn_r _ [6, 7, 8, 9, 10, 11] (by decide +kernel) (by decide +kernel)
set_option maxRecDepth 20000 in
theorem gX3_at_X3_hasPlace : GoodIn wsX3_at (wsV RX3 32 RX3 yX3_hasPlace wsX3_hasPlace) := goodIn_app (goodIn_of _ (by decide +kernel)) ggX3_at_X3_hasPlace
theorem dX3_at_0 : decode cX3_at 0 = .ok (.aload_n 0, 1) := by decide +kernel
theorem dX3_at_1 : decode cX3_at 1 = .ok (.iload_n 1, 1) := by decide +kernel
theorem dX3_at_2 : decode cX3_at 2 = .ok (.invokevirtual 32, 3) := by decide +kernel
theorem dX3_at_5 : decode cX3_at 5 = .ok (.ifCond .eq 18, 3) := by decide +kernel
theorem dX3_at_8 : decode cX3_at 8 = .ok (.iload_n 1, 1) := by decide +kernel
theorem dX3_at_9 : decode cX3_at 9 = .ok (.bipush 12, 2) := by decide +kernel
theorem dX3_at_11 : decode cX3_at 11 = .ok (.if_icmp .ge 12, 3) := by decide +kernel
theorem dX3_at_14 : decode cX3_at 14 = .ok (.aload_n 0, 1) := by decide +kernel
theorem dX3_at_15 : decode cX3_at 15 = .ok (.getfield 15, 3) := by decide +kernel
theorem dX3_at_18 : decode cX3_at 18 = .ok (.iload_n 1, 1) := by decide +kernel
theorem dX3_at_19 : decode cX3_at 19 = .ok (.iaload, 1) := by decide +kernel
theorem dX3_at_20 : decode cX3_at 20 = .ok (.goto 4, 3) := by decide +kernel
theorem dX3_at_23 : decode cX3_at 23 = .ok (.iconst 0, 1) := by decide +kernel
theorem dX3_at_24 : decode cX3_at 24 = .ok (.ireturn, 1) := by decide +kernel
set_option maxRecDepth 20000 in
theorem ggX3_formStep_X3_at : GoodIn wsX3_formStep wsX3_at := goodIn_r _ [7, 8, 9, 10, 11, 6, 12, 1, 19, 20, 21, 22] (by decide +kernel) (by decide +kernel)
set_option maxRecDepth 20000 in
theorem gX3_formStep_X3_at : GoodIn wsX3_formStep (wsV RX3 36 RX3 yX3_at wsX3_at) := goodIn_app (goodIn_of _ (by decide +kernel)) ggX3_formStep_X3_at
set_option maxRecDepth 20000 in
theorem ggX3_formStep_X0_wrapped : GoodIn wsX3_formStep wsX0_wrapped := goodIn_r _ [17, 18, 23, 24] (by decide +kernel) (by decide +kernel)
set_option maxRecDepth 20000 in
theorem gX3_formStep_X0_wrapped : GoodIn wsX3_formStep (wsV RX3 40 RX0 yX0_wrapped wsX0_wrapped) := goodIn_app (goodIn_of _ (by decide +kernel)) ggX3_formStep_X0_wrapped
theorem dX3_formStep_0 : decode cX3_formStep 0 = .ok (.iload_n 1, 1) := by decide +kernel
theorem dX3_formStep_1 : decode cX3_formStep 1 = .ok (.iconst 2, 1) := by decide +kernel
theorem dX3_formStep_2 : decode cX3_formStep 2 = .ok (.if_icmp .lt 7, 3) := by decide +kernel
theorem dX3_formStep_5 : decode cX3_formStep 5 = .ok (.iconst 1, 1) := by decide +kernel
theorem dX3_formStep_6 : decode cX3_formStep 6 = .ok (.goto 4, 3) := by decide +kernel
theorem dX3_formStep_9 : decode cX3_formStep 9 = .ok (.iconst 0, 1) := by decide +kernel
theorem dX3_formStep_10 : decode cX3_formStep 10 = .ok (.istore 4, 2) := by decide +kernel
theorem dX3_formStep_12 : decode cX3_formStep 12 = .ok (.iload_n 1, 1) := by decide +kernel
theorem dX3_formStep_13 : decode cX3_formStep 13 = .ok (.iconst 2, 1) := by decide +kernel
theorem dX3_formStep_14 : decode cX3_formStep 14 = .ok (.irem, 1) := by decide +kernel
theorem dX3_formStep_15 : decode cX3_formStep 15 = .ok (.iconst 1, 1) := by decide +kernel
theorem dX3_formStep_16 : decode cX3_formStep 16 = .ok (.if_icmp .ne 7, 3) := by decide +kernel
theorem dX3_formStep_19 : decode cX3_formStep 19 = .ok (.iconst 1, 1) := by decide +kernel
theorem dX3_formStep_20 : decode cX3_formStep 20 = .ok (.goto 4, 3) := by decide +kernel
theorem dX3_formStep_23 : decode cX3_formStep 23 = .ok (.iconst 0, 1) := by decide +kernel
theorem dX3_formStep_24 : decode cX3_formStep 24 = .ok (.istore 5, 2) := by decide +kernel
theorem dX3_formStep_26 : decode cX3_formStep 26 = .ok (.aload_n 0, 1) := by decide +kernel
theorem dX3_formStep_27 : decode cX3_formStep 27 = .ok (.iload 4, 2) := by decide +kernel
theorem dX3_formStep_29 : decode cX3_formStep 29 = .ok (.ifCond .eq 14, 3) := by decide +kernel
theorem dX3_formStep_32 : decode cX3_formStep 32 = .ok (.aload_n 0, 1) := by decide +kernel
theorem dX3_formStep_33 : decode cX3_formStep 33 = .ok (.getfield 19, 3) := by decide +kernel
theorem dX3_formStep_36 : decode cX3_formStep 36 = .ok (.iconst 1, 1) := by decide +kernel
theorem dX3_formStep_37 : decode cX3_formStep 37 = .ok (.isub, 1) := by decide +kernel
theorem dX3_formStep_38 : decode cX3_formStep 38 = .ok (.iload_n 3, 1) := by decide +kernel
theorem dX3_formStep_39 : decode cX3_formStep 39 = .ok (.isub, 1) := by decide +kernel
theorem dX3_formStep_40 : decode cX3_formStep 40 = .ok (.goto 4, 3) := by decide +kernel
theorem dX3_formStep_43 : decode cX3_formStep 43 = .ok (.iload_n 3, 1) := by decide +kernel
theorem dX3_formStep_44 : decode cX3_formStep 44 = .ok (.invokevirtual 36, 3) := by decide +kernel
theorem dX3_formStep_47 : decode cX3_formStep 47 = .ok (.aload_n 0, 1) := by decide +kernel
theorem dX3_formStep_48 : decode cX3_formStep 48 = .ok (.iconst 0, 1) := by decide +kernel
theorem dX3_formStep_49 : decode cX3_formStep 49 = .ok (.invokevirtual 36, 3) := by decide +kernel
theorem dX3_formStep_52 : decode cX3_formStep 52 = .ok (.isub, 1) := by decide +kernel
theorem dX3_formStep_53 : decode cX3_formStep 53 = .ok (.istore 6, 2) := by decide +kernel
theorem dX3_formStep_55 : decode cX3_formStep 55 = .ok (.aload_n 0, 1) := by decide +kernel
theorem dX3_formStep_56 : decode cX3_formStep 56 = .ok (.getfield 9, 3) := by decide +kernel
theorem dX3_formStep_59 : decode cX3_formStep 59 = .ok (.iload 5, 2) := by decide +kernel
theorem dX3_formStep_61 : decode cX3_formStep 61 = .ok (.ifCond .eq 10, 3) := by decide +kernel
theorem dX3_formStep_64 : decode cX3_formStep 64 = .ok (.iload_n 2, 1) := by decide +kernel
theorem dX3_formStep_65 : decode cX3_formStep 65 = .ok (.iload 6, 2) := by decide +kernel
theorem dX3_formStep_67 : decode cX3_formStep 67 = .ok (.isub, 1) := by decide +kernel
theorem dX3_formStep_68 : decode cX3_formStep 68 = .ok (.goto 7, 3) := by decide +kernel
theorem dX3_formStep_71 : decode cX3_formStep 71 = .ok (.iload_n 2, 1) := by decide +kernel
theorem dX3_formStep_72 : decode cX3_formStep 72 = .ok (.iload 6, 2) := by decide +kernel
theorem dX3_formStep_74 : decode cX3_formStep 74 = .ok (.iadd, 1) := by decide +kernel
theorem dX3_formStep_75 : decode cX3_formStep 75 = .ok (.invokevirtual 40, 3) := by decide +kernel
theorem dX3_formStep_78 : decode cX3_formStep 78 = .ok (.ireturn, 1) := by decide +kernel
set_option maxRecDepth 20000 in
theorem ggX3_isFormItself_X3_formStep : GoodIn wsX3_isFormItself wsX3_formStep := goodIn_r _ [6, 1, 7, 8, 9, 10, 5, 11, 12, 13, 14, 15, 16, 17, 18, 19, 20, 21, 22, 23, 24, 25, 26, 27, 28] (by decide +kernel) (by decide +kernel)
set_option maxRecDepth 20000 in
theorem gX3_isFormItself_X3_formStep : GoodIn wsX3_isFormItself (wsV RX3 43 RX3 yX3_formStep wsX3_formStep) := goodIn_app (goodIn_of _ (by decide +kernel)) ggX3_isFormItself_X3_formStep
set_option maxRecDepth 20000 in
theorem ggX3_isFormItself_X3_at : GoodIn wsX3_isFormItself wsX3_at := goodIn_r _ [11, 12, 13, 14, 15, 5, 16, 1, 23, 24, 25, 26] (by decide +kernel) (by decide +kernel)
set_option maxRecDepth 20000 in
theorem gX3_isFormItself_X3_at : GoodIn wsX3_isFormItself (wsV RX3 36 RX3 yX3_at wsX3_at) := goodIn_app (goodIn_of _ (by decide +kernel)) ggX3_isFormItself_X3_at
theorem dX3_isFormItself_0 : decode cX3_isFormItself 0 = .ok (.iconst 0, 1) := by decide +kernel
theorem dX3_isFormItself_1 : decode cX3_isFormItself 1 = .ok (.istore_n 3, 1) := by decide +kernel
theorem dX3_isFormItself_2 : decode cX3_isFormItself 2 = .ok (.iload_n 3, 1) := by decide +kernel
theorem dX3_isFormItself_3 : decode cX3_isFormItself 3 = .ok (.aload_n 0, 1) := by decide +kernel
theorem dX3_isFormItself_4 : decode cX3_isFormItself 4 = .ok (.getfield 19, 3) := by decide +kernel
theorem dX3_isFormItself_7 : decode cX3_isFormItself 7 = .ok (.if_icmp .ge 26, 3) := by decide +kernel
theorem dX3_isFormItself_10 : decode cX3_isFormItself 10 = .ok (.aload_n 0, 1) := by decide +kernel
theorem dX3_isFormItself_11 : decode cX3_isFormItself 11 = .ok (.iload_n 1, 1) := by decide +kernel
theorem dX3_isFormItself_12 : decode cX3_isFormItself 12 = .ok (.iload_n 2, 1) := by decide +kernel
theorem dX3_isFormItself_13 : decode cX3_isFormItself 13 = .ok (.iload_n 3, 1) := by decide +kernel
theorem dX3_isFormItself_14 : decode cX3_isFormItself 14 = .ok (.invokevirtual 43, 3) := by decide +kernel
theorem dX3_isFormItself_17 : decode cX3_isFormItself 17 = .ok (.aload_n 0, 1) := by decide +kernel
theorem dX3_isFormItself_18 : decode cX3_isFormItself 18 = .ok (.iload_n 3, 1) := by decide +kernel
theorem dX3_isFormItself_19 : decode cX3_isFormItself 19 = .ok (.invokevirtual 36, 3) := by decide +kernel
theorem dX3_isFormItself_22 : decode cX3_isFormItself 22 = .ok (.if_icmp .eq 5, 3) := by decide +kernel
theorem dX3_isFormItself_25 : decode cX3_isFormItself 25 = .ok (.iconst 0, 1) := by decide +kernel
theorem dX3_isFormItself_26 : decode cX3_isFormItself 26 = .ok (.ireturn, 1) := by decide +kernel
theorem dX3_isFormItself_27 : decode cX3_isFormItself 27 = .ok (.iinc 3 1, 3) := by decide +kernel
theorem dX3_isFormItself_30 : decode cX3_isFormItself 30 = .ok (.goto (-28), 3) := by decide +kernel
theorem dX3_isFormItself_33 : decode cX3_isFormItself 33 = .ok (.iconst 1, 1) := by decide +kernel
theorem dX3_isFormItself_34 : decode cX3_isFormItself 34 = .ok (.ireturn, 1) := by decide +kernel
set_option maxRecDepth 20000 in
theorem ggX3_piece_X3_at : GoodIn wsX3_piece wsX3_at := goodIn_r _ [5, 6, 7, 8, 9, 4, 10, 11, 12, 13, 14, 15] (by decide +kernel) (by decide +kernel)
set_option maxRecDepth 20000 in
theorem gX3_piece_X3_at : GoodIn wsX3_piece (wsV RX3 36 RX3 yX3_at wsX3_at) := goodIn_app (goodIn_of _ (by decide +kernel)) ggX3_piece_X3_at
theorem dX3_piece_0 : decode cX3_piece 0 = .ok (.iconst 0, 1) := by decide +kernel
theorem dX3_piece_1 : decode cX3_piece 1 = .ok (.istore_n 3, 1) := by decide +kernel
theorem dX3_piece_2 : decode cX3_piece 2 = .ok (.iload_n 1, 1) := by decide +kernel
theorem dX3_piece_3 : decode cX3_piece 3 = .ok (.istore 4, 2) := by decide +kernel
theorem dX3_piece_5 : decode cX3_piece 5 = .ok (.iload 4, 2) := by decide +kernel
theorem dX3_piece_7 : decode cX3_piece 7 = .ok (.iload_n 1, 1) := by decide +kernel
theorem dX3_piece_8 : decode cX3_piece 8 = .ok (.iload_n 2, 1) := by decide +kernel
theorem dX3_piece_9 : decode cX3_piece 9 = .ok (.iadd, 1) := by decide +kernel
theorem dX3_piece_10 : decode cX3_piece 10 = .ok (.if_icmp .ge 20, 3) := by decide +kernel
theorem dX3_piece_13 : decode cX3_piece 13 = .ok (.iload_n 3, 1) := by decide +kernel
theorem dX3_piece_14 : decode cX3_piece 14 = .ok (.iconst 1, 1) := by decide +kernel
theorem dX3_piece_15 : decode cX3_piece 15 = .ok (.aload_n 0, 1) := by decide +kernel
theorem dX3_piece_16 : decode cX3_piece 16 = .ok (.iload 4, 2) := by decide +kernel
theorem dX3_piece_18 : decode cX3_piece 18 = .ok (.invokevirtual 36, 3) := by decide +kernel
theorem dX3_piece_21 : decode cX3_piece 21 = .ok (.ishl, 1) := by decide +kernel
theorem dX3_piece_22 : decode cX3_piece 22 = .ok (.ior, 1) := by decide +kernel
theorem dX3_piece_23 : decode cX3_piece 23 = .ok (.istore_n 3, 1) := by decide +kernel
theorem dX3_piece_24 : decode cX3_piece 24 = .ok (.iinc 4 1, 3) := by decide +kernel
theorem dX3_piece_27 : decode cX3_piece 27 = .ok (.goto (-22), 3) := by decide +kernel
theorem dX3_piece_30 : decode cX3_piece 30 = .ok (.iload_n 3, 1) := by decide +kernel
theorem dX3_piece_31 : decode cX3_piece 31 = .ok (.ireturn, 1) := by decide +kernel
set_option maxRecDepth 20000 in
theorem ggX3_formPiece_X3_formStep : GoodIn wsX3_formPiece wsX3_formStep := goodIn_r _ [5, 6, 7, 8, 9, 10, 4, 11, 12, 13, 14, 15, 16, 17, 18, 19, 20, 21, 22, 23, 24, 25, 26, 27, 28] (by decide +kernel) (by decide +kernel)
set_option maxRecDepth 20000 in
theorem gX3_formPiece_X3_formStep : GoodIn wsX3_formPiece (wsV RX3 43 RX3 yX3_formStep wsX3_formStep) := goodIn_app (goodIn_of _ (by decide +kernel)) ggX3_formPiece_X3_formStep
theorem dX3_formPiece_0 : decode cX3_formPiece 0 = .ok (.iconst 0, 1) := by decide +kernel
theorem dX3_formPiece_1 : decode cX3_formPiece 1 = .ok (.istore 5, 2) := by decide +kernel
theorem dX3_formPiece_3 : decode cX3_formPiece 3 = .ok (.iload_n 3, 1) := by decide +kernel
theorem dX3_formPiece_4 : decode cX3_formPiece 4 = .ok (.istore 6, 2) := by decide +kernel
theorem dX3_formPiece_6 : decode cX3_formPiece 6 = .ok (.iload 6, 2) := by decide +kernel
theorem dX3_formPiece_8 : decode cX3_formPiece 8 = .ok (.iload_n 3, 1) := by decide +kernel
theorem dX3_formPiece_9 : decode cX3_formPiece 9 = .ok (.iload 4, 2) := by decide +kernel
theorem dX3_formPiece_11 : decode cX3_formPiece 11 = .ok (.iadd, 1) := by decide +kernel
theorem dX3_formPiece_12 : decode cX3_formPiece 12 = .ok (.if_icmp .ge 24, 3) := by decide +kernel
theorem dX3_formPiece_15 : decode cX3_formPiece 15 = .ok (.iload 5, 2) := by decide +kernel
theorem dX3_formPiece_17 : decode cX3_formPiece 17 = .ok (.iconst 1, 1) := by decide +kernel
theorem dX3_formPiece_18 : decode cX3_formPiece 18 = .ok (.aload_n 0, 1) := by decide +kernel
theorem dX3_formPiece_19 : decode cX3_formPiece 19 = .ok (.iload_n 1, 1) := by decide +kernel
theorem dX3_formPiece_20 : decode cX3_formPiece 20 = .ok (.iload_n 2, 1) := by decide +kernel
theorem dX3_formPiece_21 : decode cX3_formPiece 21 = .ok (.iload 6, 2) := by decide +kernel
theorem dX3_formPiece_23 : decode cX3_formPiece 23 = .ok (.invokevirtual 43, 3) := by decide +kernel
theorem dX3_formPiece_26 : decode cX3_formPiece 26 = .ok (.ishl, 1) := by decide +kernel
theorem dX3_formPiece_27 : decode cX3_formPiece 27 = .ok (.ior, 1) := by decide +kernel
theorem dX3_formPiece_28 : decode cX3_formPiece 28 = .ok (.istore 5, 2) := by decide +kernel
theorem dX3_formPiece_30 : decode cX3_formPiece 30 = .ok (.iinc 6 1, 3) := by decide +kernel
theorem dX3_formPiece_33 : decode cX3_formPiece 33 = .ok (.goto (-27), 3) := by decide +kernel
theorem dX3_formPiece_36 : decode cX3_formPiece 36 = .ok (.iload 5, 2) := by decide +kernel
theorem dX3_formPiece_38 : decode cX3_formPiece 38 = .ok (.ireturn, 1) := by decide +kernel
set_option maxRecDepth 20000 in
theorem ggX3_formHasPiece_J6_bitCount_0f7a4 : GoodIn wsX3_formHasPiece wsJ6_bitCount_0f7a4 := goodIn_r _ [5, 6, 7, 8] (by decide +kernel) (by decide +kernel)
set_option maxRecDepth 20000 in
theorem gX3_formHasPiece_J6_bitCount_0f7a4 : GoodIn wsX3_formHasPiece (va_wsS RX3 47 yJ6_bitCount_0f7a4 wsJ6_bitCount_0f7a4) := goodIn_app (goodIn_of _ (by decide +kernel)) ggX3_formHasPiece_J6_bitCount_0f7a4
set_option maxRecDepth 20000 in
theorem ggX3_formHasPiece_X3_formPiece : GoodIn wsX3_formHasPiece wsX3_formPiece := goodIn_r _ [13, 14, 15, 16, 12, 17, 1, 18, 19, 20, 21, 22, 23, 24, 25, 26, 27, 28, 29, 30, 31, 32, 33, 34, 35, 36, 37, 38, 39] (by decide +kernel) (by decide +kernel)
set_option maxRecDepth 20000 in
theorem gX3_formHasPiece_X3_formPiece : GoodIn wsX3_formHasPiece (wsV RX3 52 RX3 yX3_formPiece wsX3_formPiece) := goodIn_app (goodIn_of _ (by decide +kernel)) ggX3_formHasPiece_X3_formPiece
theorem dX3_formHasPiece_0 : decode cX3_formHasPiece 0 = .ok (.iload_n 3, 1) := by decide +kernel
theorem dX3_formHasPiece_1 : decode cX3_formHasPiece 1 = .ok (.invokestatic 47, 3) := by decide +kernel
theorem dX3_formHasPiece_4 : decode cX3_formHasPiece 4 = .ok (.istore 4, 2) := by decide +kernel
theorem dX3_formHasPiece_6 : decode cX3_formHasPiece 6 = .ok (.iconst 0, 1) := by decide +kernel
theorem dX3_formHasPiece_7 : decode cX3_formHasPiece 7 = .ok (.istore 5, 2) := by decide +kernel
theorem dX3_formHasPiece_9 : decode cX3_formHasPiece 9 = .ok (.iload 5, 2) := by decide +kernel
theorem dX3_formHasPiece_11 : decode cX3_formHasPiece 11 = .ok (.iload 4, 2) := by decide +kernel
theorem dX3_formHasPiece_13 : decode cX3_formHasPiece 13 = .ok (.iadd, 1) := by decide +kernel
theorem dX3_formHasPiece_14 : decode cX3_formHasPiece 14 = .ok (.aload_n 0, 1) := by decide +kernel
theorem dX3_formHasPiece_15 : decode cX3_formHasPiece 15 = .ok (.getfield 19, 3) := by decide +kernel
theorem dX3_formHasPiece_18 : decode cX3_formHasPiece 18 = .ok (.if_icmp .gt 25, 3) := by decide +kernel
theorem dX3_formHasPiece_21 : decode cX3_formHasPiece 21 = .ok (.aload_n 0, 1) := by decide +kernel
theorem dX3_formHasPiece_22 : decode cX3_formHasPiece 22 = .ok (.iload_n 1, 1) := by decide +kernel
theorem dX3_formHasPiece_23 : decode cX3_formHasPiece 23 = .ok (.iload_n 2, 1) := by decide +kernel
theorem dX3_formHasPiece_24 : decode cX3_formHasPiece 24 = .ok (.iload 5, 2) := by decide +kernel
theorem dX3_formHasPiece_26 : decode cX3_formHasPiece 26 = .ok (.iload 4, 2) := by decide +kernel
theorem dX3_formHasPiece_28 : decode cX3_formHasPiece 28 = .ok (.invokevirtual 52, 3) := by decide +kernel
theorem dX3_formHasPiece_31 : decode cX3_formHasPiece 31 = .ok (.iload_n 3, 1) := by decide +kernel
theorem dX3_formHasPiece_32 : decode cX3_formHasPiece 32 = .ok (.if_icmp .ne 5, 3) := by decide +kernel
theorem dX3_formHasPiece_35 : decode cX3_formHasPiece 35 = .ok (.iconst 1, 1) := by decide +kernel
theorem dX3_formHasPiece_36 : decode cX3_formHasPiece 36 = .ok (.ireturn, 1) := by decide +kernel
theorem dX3_formHasPiece_37 : decode cX3_formHasPiece 37 = .ok (.iinc 5 1, 3) := by decide +kernel
theorem dX3_formHasPiece_40 : decode cX3_formHasPiece 40 = .ok (.goto (-31), 3) := by decide +kernel
theorem dX3_formHasPiece_43 : decode cX3_formHasPiece 43 = .ok (.iconst 0, 1) := by decide +kernel
theorem dX3_formHasPiece_44 : decode cX3_formHasPiece 44 = .ok (.ireturn, 1) := by decide +kernel
set_option maxRecDepth 20000 in
theorem ggX3_hasUnlikeIntervals_X3_at : GoodIn wsX3_hasUnlikeIntervals wsX3_at := goodIn_r _ [7, 8, 9, 10, 11, 6, 12, 1, 19, 20, 21, 22] (by decide +kernel) (by decide +kernel)
set_option maxRecDepth 20000 in
theorem gX3_hasUnlikeIntervals_X3_at : GoodIn wsX3_hasUnlikeIntervals (wsV RX3 36 RX3 yX3_at wsX3_at) := goodIn_app (goodIn_of _ (by decide +kernel)) ggX3_hasUnlikeIntervals_X3_at
set_option maxRecDepth 20000 in
theorem ggX3_hasUnlikeIntervals_X0_wrapped : GoodIn wsX3_hasUnlikeIntervals wsX0_wrapped := goodIn_r _ [17, 18, 23, 24] (by decide +kernel) (by decide +kernel)
set_option maxRecDepth 20000 in
theorem gX3_hasUnlikeIntervals_X0_wrapped : GoodIn wsX3_hasUnlikeIntervals (wsV RX3 40 RX0 yX0_wrapped wsX0_wrapped) := goodIn_app (goodIn_of _ (by decide +kernel)) ggX3_hasUnlikeIntervals_X0_wrapped
theorem dX3_hasUnlikeIntervals_0 : decode cX3_hasUnlikeIntervals 0 = .ok (.iconst 0, 1) := by decide +kernel
theorem dX3_hasUnlikeIntervals_1 : decode cX3_hasUnlikeIntervals 1 = .ok (.istore_n 1, 1) := by decide +kernel
theorem dX3_hasUnlikeIntervals_2 : decode cX3_hasUnlikeIntervals 2 = .ok (.iconst 1, 1) := by decide +kernel
theorem dX3_hasUnlikeIntervals_3 : decode cX3_hasUnlikeIntervals 3 = .ok (.istore_n 2, 1) := by decide +kernel
theorem dX3_hasUnlikeIntervals_4 : decode cX3_hasUnlikeIntervals 4 = .ok (.iload_n 2, 1) := by decide +kernel
theorem dX3_hasUnlikeIntervals_5 : decode cX3_hasUnlikeIntervals 5 = .ok (.aload_n 0, 1) := by decide +kernel
theorem dX3_hasUnlikeIntervals_6 : decode cX3_hasUnlikeIntervals 6 = .ok (.getfield 19, 3) := by decide +kernel
theorem dX3_hasUnlikeIntervals_9 : decode cX3_hasUnlikeIntervals 9 = .ok (.if_icmp .ge 44, 3) := by decide +kernel
theorem dX3_hasUnlikeIntervals_12 : decode cX3_hasUnlikeIntervals 12 = .ok (.iconst 1, 1) := by decide +kernel
theorem dX3_hasUnlikeIntervals_13 : decode cX3_hasUnlikeIntervals 13 = .ok (.aload_n 0, 1) := by decide +kernel
theorem dX3_hasUnlikeIntervals_14 : decode cX3_hasUnlikeIntervals 14 = .ok (.getfield 9, 3) := by decide +kernel
theorem dX3_hasUnlikeIntervals_17 : decode cX3_hasUnlikeIntervals 17 = .ok (.aload_n 0, 1) := by decide +kernel
theorem dX3_hasUnlikeIntervals_18 : decode cX3_hasUnlikeIntervals 18 = .ok (.iload_n 2, 1) := by decide +kernel
theorem dX3_hasUnlikeIntervals_19 : decode cX3_hasUnlikeIntervals 19 = .ok (.invokevirtual 36, 3) := by decide +kernel
theorem dX3_hasUnlikeIntervals_22 : decode cX3_hasUnlikeIntervals 22 = .ok (.aload_n 0, 1) := by decide +kernel
theorem dX3_hasUnlikeIntervals_23 : decode cX3_hasUnlikeIntervals 23 = .ok (.iload_n 2, 1) := by decide +kernel
theorem dX3_hasUnlikeIntervals_24 : decode cX3_hasUnlikeIntervals 24 = .ok (.iconst 1, 1) := by decide +kernel
theorem dX3_hasUnlikeIntervals_25 : decode cX3_hasUnlikeIntervals 25 = .ok (.isub, 1) := by decide +kernel
theorem dX3_hasUnlikeIntervals_26 : decode cX3_hasUnlikeIntervals 26 = .ok (.invokevirtual 36, 3) := by decide +kernel
theorem dX3_hasUnlikeIntervals_29 : decode cX3_hasUnlikeIntervals 29 = .ok (.isub, 1) := by decide +kernel
theorem dX3_hasUnlikeIntervals_30 : decode cX3_hasUnlikeIntervals 30 = .ok (.invokevirtual 40, 3) := by decide +kernel
theorem dX3_hasUnlikeIntervals_33 : decode cX3_hasUnlikeIntervals 33 = .ok (.ishl, 1) := by decide +kernel
theorem dX3_hasUnlikeIntervals_34 : decode cX3_hasUnlikeIntervals 34 = .ok (.istore_n 3, 1) := by decide +kernel
theorem dX3_hasUnlikeIntervals_35 : decode cX3_hasUnlikeIntervals 35 = .ok (.iload_n 1, 1) := by decide +kernel
theorem dX3_hasUnlikeIntervals_36 : decode cX3_hasUnlikeIntervals 36 = .ok (.iload_n 3, 1) := by decide +kernel
theorem dX3_hasUnlikeIntervals_37 : decode cX3_hasUnlikeIntervals 37 = .ok (.iand, 1) := by decide +kernel
theorem dX3_hasUnlikeIntervals_38 : decode cX3_hasUnlikeIntervals 38 = .ok (.ifCond .eq 5, 3) := by decide +kernel
theorem dX3_hasUnlikeIntervals_41 : decode cX3_hasUnlikeIntervals 41 = .ok (.iconst 0, 1) := by decide +kernel
theorem dX3_hasUnlikeIntervals_42 : decode cX3_hasUnlikeIntervals 42 = .ok (.ireturn, 1) := by decide +kernel
theorem dX3_hasUnlikeIntervals_43 : decode cX3_hasUnlikeIntervals 43 = .ok (.iload_n 1, 1) := by decide +kernel
theorem dX3_hasUnlikeIntervals_44 : decode cX3_hasUnlikeIntervals 44 = .ok (.iload_n 3, 1) := by decide +kernel
theorem dX3_hasUnlikeIntervals_45 : decode cX3_hasUnlikeIntervals 45 = .ok (.ior, 1) := by decide +kernel
theorem dX3_hasUnlikeIntervals_46 : decode cX3_hasUnlikeIntervals 46 = .ok (.istore_n 1, 1) := by decide +kernel
theorem dX3_hasUnlikeIntervals_47 : decode cX3_hasUnlikeIntervals 47 = .ok (.iinc 2 1, 3) := by decide +kernel
theorem dX3_hasUnlikeIntervals_50 : decode cX3_hasUnlikeIntervals 50 = .ok (.goto (-46), 3) := by decide +kernel
theorem dX3_hasUnlikeIntervals_53 : decode cX3_hasUnlikeIntervals 53 = .ok (.iconst 1, 1) := by decide +kernel
theorem dX3_hasUnlikeIntervals_54 : decode cX3_hasUnlikeIntervals 54 = .ok (.ireturn, 1) := by decide +kernel
theorem dX4_init_0 : decode cX4_init 0 = .ok (.aload_n 0, 1) := by decide +kernel
theorem dX4_init_1 : decode cX4_init 1 = .ok (.invokespecial 3, 3) := by decide +kernel
theorem dX4_init_4 : decode cX4_init 4 = .ok (.aload_n 0, 1) := by decide +kernel
theorem dX4_init_5 : decode cX4_init 5 = .ok (.bipush 13, 2) := by decide +kernel
theorem dX4_init_7 : decode cX4_init 7 = .ok (.newarray .int, 2) := by decide +kernel
theorem dX4_init_9 : decode cX4_init 9 = .ok (.putfield 9, 3) := by decide +kernel
theorem dX4_init_12 : decode cX4_init 12 = .ok (.return_, 1) := by decide +kernel
set_option maxRecDepth 20000 in
theorem ggX4_countFor_X4_search : GoodIn wsX4_countFor wsX4_search := goodIn_r _ [5, 6, 7, 4, 8, 9, 10, 11, 12, 13, 14] (by decide +kernel) (by decide +kernel)
set_option maxRecDepth 20000 in
theorem gX4_countFor_X4_search : GoodIn wsX4_countFor (va_wsS RX4 15 yX4_search wsX4_search) := goodIn_app (goodIn_of _ (by decide +kernel)) ggX4_countFor_X4_search
theorem dX4_countFor_0 : decode cX4_countFor 0 = .ok (.iload_n 1, 1) := by decide +kernel
theorem dX4_countFor_1 : decode cX4_countFor 1 = .ok (.iconst 1, 1) := by decide +kernel
theorem dX4_countFor_2 : decode cX4_countFor 2 = .ok (.if_icmp .lt 9, 3) := by decide +kernel
theorem dX4_countFor_5 : decode cX4_countFor 5 = .ok (.iload_n 1, 1) := by decide +kernel
theorem dX4_countFor_6 : decode cX4_countFor 6 = .ok (.bipush 12, 2) := by decide +kernel
theorem dX4_countFor_8 : decode cX4_countFor 8 = .ok (.if_icmp .le 5, 3) := by decide +kernel
theorem dX4_countFor_11 : decode cX4_countFor 11 = .ok (.iconst 0, 1) := by decide +kernel
theorem dX4_countFor_12 : decode cX4_countFor 12 = .ok (.ireturn, 1) := by decide +kernel
theorem dX4_countFor_13 : decode cX4_countFor 13 = .ok (.iload_n 1, 1) := by decide +kernel
theorem dX4_countFor_14 : decode cX4_countFor 14 = .ok (.iconst 2, 1) := by decide +kernel
theorem dX4_countFor_15 : decode cX4_countFor 15 = .ok (.irem, 1) := by decide +kernel
theorem dX4_countFor_16 : decode cX4_countFor 16 = .ok (.iconst 1, 1) := by decide +kernel
theorem dX4_countFor_17 : decode cX4_countFor 17 = .ok (.if_icmp .ne 14, 3) := by decide +kernel
theorem dX4_countFor_20 : decode cX4_countFor 20 = .ok (.iload_n 1, 1) := by decide +kernel
theorem dX4_countFor_21 : decode cX4_countFor 21 = .ok (.iconst 1, 1) := by decide +kernel
theorem dX4_countFor_22 : decode cX4_countFor 22 = .ok (.if_icmp .ne 7, 3) := by decide +kernel
theorem dX4_countFor_25 : decode cX4_countFor 25 = .ok (.iconst 1, 1) := by decide +kernel
theorem dX4_countFor_26 : decode cX4_countFor 26 = .ok (.goto 4, 3) := by decide +kernel
theorem dX4_countFor_29 : decode cX4_countFor 29 = .ok (.iconst 0, 1) := by decide +kernel
theorem dX4_countFor_30 : decode cX4_countFor 30 = .ok (.ireturn, 1) := by decide +kernel
theorem dX4_countFor_31 : decode cX4_countFor 31 = .ok (.aload_n 0, 1) := by decide +kernel
theorem dX4_countFor_32 : decode cX4_countFor 32 = .ok (.getfield 9, 3) := by decide +kernel
theorem dX4_countFor_35 : decode cX4_countFor 35 = .ok (.iload_n 1, 1) := by decide +kernel
theorem dX4_countFor_36 : decode cX4_countFor 36 = .ok (.iaload, 1) := by decide +kernel
theorem dX4_countFor_37 : decode cX4_countFor 37 = .ok (.ifCond .ne 13, 3) := by decide +kernel
theorem dX4_countFor_40 : decode cX4_countFor 40 = .ok (.aload_n 0, 1) := by decide +kernel
theorem dX4_countFor_41 : decode cX4_countFor 41 = .ok (.getfield 9, 3) := by decide +kernel
theorem dX4_countFor_44 : decode cX4_countFor 44 = .ok (.iload_n 1, 1) := by decide +kernel
theorem dX4_countFor_45 : decode cX4_countFor 45 = .ok (.iload_n 1, 1) := by decide +kernel
theorem dX4_countFor_46 : decode cX4_countFor 46 = .ok (.invokestatic 15, 3) := by decide +kernel
theorem dX4_countFor_49 : decode cX4_countFor 49 = .ok (.iastore, 1) := by decide +kernel
theorem dX4_countFor_50 : decode cX4_countFor 50 = .ok (.aload_n 0, 1) := by decide +kernel
theorem dX4_countFor_51 : decode cX4_countFor 51 = .ok (.getfield 9, 3) := by decide +kernel
theorem dX4_countFor_54 : decode cX4_countFor 54 = .ok (.iload_n 1, 1) := by decide +kernel
theorem dX4_countFor_55 : decode cX4_countFor 55 = .ok (.iaload, 1) := by decide +kernel
theorem dX4_countFor_56 : decode cX4_countFor 56 = .ok (.ireturn, 1) := by decide +kernel
set_option maxRecDepth 20000 in
theorem ggX4_search_X4_alikeFirst : GoodIn wsX4_search wsX4_alikeFirst := goodIn_r _ [4, 5, 6, 7] (by decide +kernel) (by decide +kernel)
set_option maxRecDepth 20000 in
theorem gX4_search_X4_alikeFirst : GoodIn wsX4_search (va_wsS RX4 19 yX4_alikeFirst wsX4_alikeFirst) := goodIn_app (goodIn_of _ (by decide +kernel)) ggX4_search_X4_alikeFirst
set_option maxRecDepth 20000 in
theorem ggX4_search_X4_endings : GoodIn wsX4_search wsX4_endings := goodIn_r _ [10, 8, 9, 3] (by decide +kernel) (by decide +kernel)
set_option maxRecDepth 20000 in
theorem gX4_search_X4_endings : GoodIn wsX4_search (va_wsS RX4 23 yX4_endings wsX4_endings) := goodIn_app (goodIn_of _ (by decide +kernel)) ggX4_search_X4_endings
theorem dX4_search_0 : decode cX4_search 0 = .ok (.iconst 1, 1) := by decide +kernel
theorem dX4_search_1 : decode cX4_search 1 = .ok (.iload_n 0, 1) := by decide +kernel
theorem dX4_search_2 : decode cX4_search 2 = .ok (.ishl, 1) := by decide +kernel
theorem dX4_search_3 : decode cX4_search 3 = .ok (.iconst 2, 1) := by decide +kernel
theorem dX4_search_4 : decode cX4_search 4 = .ok (.isub, 1) := by decide +kernel
theorem dX4_search_5 : decode cX4_search 5 = .ok (.istore_n 1, 1) := by decide +kernel
theorem dX4_search_6 : decode cX4_search 6 = .ok (.iload_n 1, 1) := by decide +kernel
theorem dX4_search_7 : decode cX4_search 7 = .ok (.iconst 1, 1) := by decide +kernel
theorem dX4_search_8 : decode cX4_search 8 = .ok (.iload_n 0, 1) := by decide +kernel
theorem dX4_search_9 : decode cX4_search 9 = .ok (.iconst 2, 1) := by decide +kernel
theorem dX4_search_10 : decode cX4_search 10 = .ok (.idiv, 1) := by decide +kernel
theorem dX4_search_11 : decode cX4_search 11 = .ok (.ishl, 1) := by decide +kernel
theorem dX4_search_12 : decode cX4_search 12 = .ok (.iconst (-1), 1) := by decide +kernel
theorem dX4_search_13 : decode cX4_search 13 = .ok (.ixor, 1) := by decide +kernel
theorem dX4_search_14 : decode cX4_search 14 = .ok (.iand, 1) := by decide +kernel
theorem dX4_search_15 : decode cX4_search 15 = .ok (.istore_n 2, 1) := by decide +kernel
theorem dX4_search_16 : decode cX4_search 16 = .ok (.iload_n 2, 1) := by decide +kernel
theorem dX4_search_17 : decode cX4_search 17 = .ok (.ifCond .ne 5, 3) := by decide +kernel
theorem dX4_search_20 : decode cX4_search 20 = .ok (.iconst 1, 1) := by decide +kernel
theorem dX4_search_21 : decode cX4_search 21 = .ok (.ireturn, 1) := by decide +kernel
theorem dX4_search_22 : decode cX4_search 22 = .ok (.iconst 0, 1) := by decide +kernel
theorem dX4_search_23 : decode cX4_search 23 = .ok (.istore_n 3, 1) := by decide +kernel
theorem dX4_search_24 : decode cX4_search 24 = .ok (.iconst 1, 1) := by decide +kernel
theorem dX4_search_25 : decode cX4_search 25 = .ok (.istore 4, 2) := by decide +kernel
theorem dX4_search_27 : decode cX4_search 27 = .ok (.iload 4, 2) := by decide +kernel
theorem dX4_search_29 : decode cX4_search 29 = .ok (.iload_n 0, 1) := by decide +kernel
theorem dX4_search_30 : decode cX4_search 30 = .ok (.iconst 2, 1) := by decide +kernel
theorem dX4_search_31 : decode cX4_search 31 = .ok (.idiv, 1) := by decide +kernel
theorem dX4_search_32 : decode cX4_search 32 = .ok (.if_icmp .ge 53, 3) := by decide +kernel
theorem dX4_search_35 : decode cX4_search 35 = .ok (.iload_n 0, 1) := by decide +kernel
theorem dX4_search_36 : decode cX4_search 36 = .ok (.iload 4, 2) := by decide +kernel
theorem dX4_search_38 : decode cX4_search 38 = .ok (.irem, 1) := by decide +kernel
theorem dX4_search_39 : decode cX4_search 39 = .ok (.ifCond .ne 40, 3) := by decide +kernel
theorem dX4_search_42 : decode cX4_search 42 = .ok (.iconst 1, 1) := by decide +kernel
theorem dX4_search_43 : decode cX4_search 43 = .ok (.iload 4, 2) := by decide +kernel
theorem dX4_search_45 : decode cX4_search 45 = .ok (.ishl, 1) := by decide +kernel
theorem dX4_search_46 : decode cX4_search 46 = .ok (.istore 5, 2) := by decide +kernel
theorem dX4_search_48 : decode cX4_search 48 = .ok (.iload_n 3, 1) := by decide +kernel
theorem dX4_search_49 : decode cX4_search 49 = .ok (.iload_n 0, 1) := by decide +kernel
theorem dX4_search_50 : decode cX4_search 50 = .ok (.iload 4, 2) := by decide +kernel
theorem dX4_search_52 : decode cX4_search 52 = .ok (.invokestatic 19, 3) := by decide +kernel
theorem dX4_search_55 : decode cX4_search 55 = .ok (.iload_n 0, 1) := by decide +kernel
theorem dX4_search_56 : decode cX4_search 56 = .ok (.iload 4, 2) := by decide +kernel
theorem dX4_search_58 : decode cX4_search 58 = .ok (.iload_n 2, 1) := by decide +kernel
theorem dX4_search_59 : decode cX4_search 59 = .ok (.iload 5, 2) := by decide +kernel
theorem dX4_search_61 : decode cX4_search 61 = .ok (.iconst (-1), 1) := by decide +kernel
theorem dX4_search_62 : decode cX4_search 62 = .ok (.ixor, 1) := by decide +kernel
theorem dX4_search_63 : decode cX4_search 63 = .ok (.iand, 1) := by decide +kernel
theorem dX4_search_64 : decode cX4_search 64 = .ok (.iload_n 1, 1) := by decide +kernel
theorem dX4_search_65 : decode cX4_search 65 = .ok (.iload 5, 2) := by decide +kernel
theorem dX4_search_67 : decode cX4_search 67 = .ok (.iconst (-1), 1) := by decide +kernel
theorem dX4_search_68 : decode cX4_search 68 = .ok (.ixor, 1) := by decide +kernel
theorem dX4_search_69 : decode cX4_search 69 = .ok (.iand, 1) := by decide +kernel
theorem dX4_search_70 : decode cX4_search 70 = .ok (.iload_n 0, 1) := by decide +kernel
theorem dX4_search_71 : decode cX4_search 71 = .ok (.iconst 3, 1) := by decide +kernel
theorem dX4_search_72 : decode cX4_search 72 = .ok (.isub, 1) := by decide +kernel
theorem dX4_search_73 : decode cX4_search 73 = .ok (.invokestatic 23, 3) := by decide +kernel
theorem dX4_search_76 : decode cX4_search 76 = .ok (.imul, 1) := by decide +kernel
theorem dX4_search_77 : decode cX4_search 77 = .ok (.iadd, 1) := by decide +kernel
theorem dX4_search_78 : decode cX4_search 78 = .ok (.istore_n 3, 1) := by decide +kernel
theorem dX4_search_79 : decode cX4_search 79 = .ok (.iinc 4 1, 3) := by decide +kernel
theorem dX4_search_82 : decode cX4_search 82 = .ok (.goto (-55), 3) := by decide +kernel
theorem dX4_search_85 : decode cX4_search 85 = .ok (.iload_n 3, 1) := by decide +kernel
theorem dX4_search_86 : decode cX4_search 86 = .ok (.ireturn, 1) := by decide +kernel
set_option maxRecDepth 20000 in
theorem ggX4_alikeFirst_X5_commonDivisor : GoodIn wsX4_alikeFirst wsX5_commonDivisor := goodIn_r _ [3] (by decide +kernel) (by decide +kernel)
set_option maxRecDepth 20000 in
theorem gX4_alikeFirst_X5_commonDivisor_n27 : GoodIn wsX4_alikeFirst (wsX5_commonDivisor) := ggX4_alikeFirst_X5_commonDivisor
theorem dX4_alikeFirst_0 : decode cX4_alikeFirst 0 = .ok (.iconst 0, 1) := by decide +kernel
theorem dX4_alikeFirst_1 : decode cX4_alikeFirst 1 = .ok (.istore_n 2, 1) := by decide +kernel
theorem dX4_alikeFirst_2 : decode cX4_alikeFirst 2 = .ok (.iconst 1, 1) := by decide +kernel
theorem dX4_alikeFirst_3 : decode cX4_alikeFirst 3 = .ok (.istore_n 3, 1) := by decide +kernel
theorem dX4_alikeFirst_4 : decode cX4_alikeFirst 4 = .ok (.iload_n 3, 1) := by decide +kernel
theorem dX4_alikeFirst_5 : decode cX4_alikeFirst 5 = .ok (.iload_n 0, 1) := by decide +kernel
theorem dX4_alikeFirst_6 : decode cX4_alikeFirst 6 = .ok (.if_icmp .ge 21, 3) := by decide +kernel
theorem dX4_alikeFirst_9 : decode cX4_alikeFirst 9 = .ok (.iload_n 3, 1) := by decide +kernel
theorem dX4_alikeFirst_10 : decode cX4_alikeFirst 10 = .ok (.iload_n 0, 1) := by decide +kernel
theorem dX4_alikeFirst_11 : decode cX4_alikeFirst 11 = .ok (.invokestatic 27, 3) := by decide +kernel
theorem dX4_alikeFirst_14 : decode cX4_alikeFirst 14 = .ok (.iload_n 1, 1) := by decide +kernel
theorem dX4_alikeFirst_15 : decode cX4_alikeFirst 15 = .ok (.if_icmp .ne 6, 3) := by decide +kernel
theorem dX4_alikeFirst_18 : decode cX4_alikeFirst 18 = .ok (.iinc 2 1, 3) := by decide +kernel
theorem dX4_alikeFirst_21 : decode cX4_alikeFirst 21 = .ok (.iinc 3 1, 3) := by decide +kernel
theorem dX4_alikeFirst_24 : decode cX4_alikeFirst 24 = .ok (.goto (-20), 3) := by decide +kernel
theorem dX4_alikeFirst_27 : decode cX4_alikeFirst 27 = .ok (.iload_n 2, 1) := by decide +kernel
theorem dX4_alikeFirst_28 : decode cX4_alikeFirst 28 = .ok (.ireturn, 1) := by decide +kernel
set_option maxRecDepth 20000 in
theorem ggX4_endings_X4_endings : GoodIn wsX4_endings wsX4_endings := goodIn_r _ [0, 1, 2, 3] (by decide +kernel) (by decide +kernel)
set_option maxRecDepth 20000 in
theorem gX4_endings_X4_endings : GoodIn wsX4_endings (va_wsS RX4 23 yX4_endings wsX4_endings) := goodIn_app (goodIn_of _ (by decide +kernel)) ggX4_endings_X4_endings
theorem dX4_endings_0 : decode cX4_endings 0 = .ok (.iload 4, 2) := by decide +kernel
theorem dX4_endings_2 : decode cX4_endings 2 = .ok (.ifCond .gt 5, 3) := by decide +kernel
theorem dX4_endings_5 : decode cX4_endings 5 = .ok (.iconst 1, 1) := by decide +kernel
theorem dX4_endings_6 : decode cX4_endings 6 = .ok (.ireturn, 1) := by decide +kernel
theorem dX4_endings_7 : decode cX4_endings 7 = .ok (.iload_n 3, 1) := by decide +kernel
theorem dX4_endings_8 : decode cX4_endings 8 = .ok (.iload_n 1, 1) := by decide +kernel
theorem dX4_endings_9 : decode cX4_endings 9 = .ok (.ishl, 1) := by decide +kernel
theorem dX4_endings_10 : decode cX4_endings 10 = .ok (.iload_n 3, 1) := by decide +kernel
theorem dX4_endings_11 : decode cX4_endings 11 = .ok (.iload_n 0, 1) := by decide +kernel
theorem dX4_endings_12 : decode cX4_endings 12 = .ok (.iload_n 1, 1) := by decide +kernel
theorem dX4_endings_13 : decode cX4_endings 13 = .ok (.isub, 1) := by decide +kernel
theorem dX4_endings_14 : decode cX4_endings 14 = .ok (.ishr, 1) := by decide +kernel
theorem dX4_endings_15 : decode cX4_endings 15 = .ok (.ior, 1) := by decide +kernel
theorem dX4_endings_16 : decode cX4_endings 16 = .ok (.iload_n 2, 1) := by decide +kernel
theorem dX4_endings_17 : decode cX4_endings 17 = .ok (.iand, 1) := by decide +kernel
theorem dX4_endings_18 : decode cX4_endings 18 = .ok (.istore 5, 2) := by decide +kernel
theorem dX4_endings_20 : decode cX4_endings 20 = .ok (.iload 5, 2) := by decide +kernel
theorem dX4_endings_22 : decode cX4_endings 22 = .ok (.ifCond .ne 5, 3) := by decide +kernel
theorem dX4_endings_25 : decode cX4_endings 25 = .ok (.iconst 0, 1) := by decide +kernel
theorem dX4_endings_26 : decode cX4_endings 26 = .ok (.ireturn, 1) := by decide +kernel
theorem dX4_endings_27 : decode cX4_endings 27 = .ok (.iconst 0, 1) := by decide +kernel
theorem dX4_endings_28 : decode cX4_endings 28 = .ok (.istore 6, 2) := by decide +kernel
theorem dX4_endings_30 : decode cX4_endings 30 = .ok (.iconst 1, 1) := by decide +kernel
theorem dX4_endings_31 : decode cX4_endings 31 = .ok (.istore 7, 2) := by decide +kernel
theorem dX4_endings_33 : decode cX4_endings 33 = .ok (.iload 7, 2) := by decide +kernel
theorem dX4_endings_35 : decode cX4_endings 35 = .ok (.iload_n 0, 1) := by decide +kernel
theorem dX4_endings_36 : decode cX4_endings 36 = .ok (.if_icmp .ge 72, 3) := by decide +kernel
theorem dX4_endings_39 : decode cX4_endings 39 = .ok (.iload 5, 2) := by decide +kernel
theorem dX4_endings_41 : decode cX4_endings 41 = .ok (.iload 7, 2) := by decide +kernel
theorem dX4_endings_43 : decode cX4_endings 43 = .ok (.ishr, 1) := by decide +kernel
theorem dX4_endings_44 : decode cX4_endings 44 = .ok (.iconst 1, 1) := by decide +kernel
theorem dX4_endings_45 : decode cX4_endings 45 = .ok (.iand, 1) := by decide +kernel
theorem dX4_endings_46 : decode cX4_endings 46 = .ok (.iconst 1, 1) := by decide +kernel
theorem dX4_endings_47 : decode cX4_endings 47 = .ok (.if_icmp .ne 55, 3) := by decide +kernel
theorem dX4_endings_50 : decode cX4_endings 50 = .ok (.iload 7, 2) := by decide +kernel
theorem dX4_endings_52 : decode cX4_endings 52 = .ok (.iload_n 1, 1) := by decide +kernel
theorem dX4_endings_53 : decode cX4_endings 53 = .ok (.if_icmp .le 10, 3) := by decide +kernel
theorem dX4_endings_56 : decode cX4_endings 56 = .ok (.iload 7, 2) := by decide +kernel
theorem dX4_endings_58 : decode cX4_endings 58 = .ok (.iload_n 1, 1) := by decide +kernel
theorem dX4_endings_59 : decode cX4_endings 59 = .ok (.isub, 1) := by decide +kernel
theorem dX4_endings_60 : decode cX4_endings 60 = .ok (.goto 9, 3) := by decide +kernel
theorem dX4_endings_63 : decode cX4_endings 63 = .ok (.iload 7, 2) := by decide +kernel
theorem dX4_endings_65 : decode cX4_endings 65 = .ok (.iload_n 1, 1) := by decide +kernel
theorem dX4_endings_66 : decode cX4_endings 66 = .ok (.isub, 1) := by decide +kernel
theorem dX4_endings_67 : decode cX4_endings 67 = .ok (.iload_n 0, 1) := by decide +kernel
theorem dX4_endings_68 : decode cX4_endings 68 = .ok (.iadd, 1) := by decide +kernel
theorem dX4_endings_69 : decode cX4_endings 69 = .ok (.istore 8, 2) := by decide +kernel
theorem dX4_endings_71 : decode cX4_endings 71 = .ok (.iload 6, 2) := by decide +kernel
theorem dX4_endings_73 : decode cX4_endings 73 = .ok (.iload_n 0, 1) := by decide +kernel
theorem dX4_endings_74 : decode cX4_endings 74 = .ok (.iload 7, 2) := by decide +kernel
theorem dX4_endings_76 : decode cX4_endings 76 = .ok (.iload_n 2, 1) := by decide +kernel
theorem dX4_endings_77 : decode cX4_endings 77 = .ok (.iconst 1, 1) := by decide +kernel
theorem dX4_endings_78 : decode cX4_endings 78 = .ok (.iload 7, 2) := by decide +kernel
theorem dX4_endings_80 : decode cX4_endings 80 = .ok (.ishl, 1) := by decide +kernel
theorem dX4_endings_81 : decode cX4_endings 81 = .ok (.iconst (-1), 1) := by decide +kernel
theorem dX4_endings_82 : decode cX4_endings 82 = .ok (.ixor, 1) := by decide +kernel
theorem dX4_endings_83 : decode cX4_endings 83 = .ok (.iand, 1) := by decide +kernel
theorem dX4_endings_84 : decode cX4_endings 84 = .ok (.iload_n 3, 1) := by decide +kernel
theorem dX4_endings_85 : decode cX4_endings 85 = .ok (.iconst 1, 1) := by decide +kernel
theorem dX4_endings_86 : decode cX4_endings 86 = .ok (.iload 8, 2) := by decide +kernel
theorem dX4_endings_88 : decode cX4_endings 88 = .ok (.ishl, 1) := by decide +kernel
theorem dX4_endings_89 : decode cX4_endings 89 = .ok (.iconst (-1), 1) := by decide +kernel
theorem dX4_endings_90 : decode cX4_endings 90 = .ok (.ixor, 1) := by decide +kernel
theorem dX4_endings_91 : decode cX4_endings 91 = .ok (.iand, 1) := by decide +kernel
theorem dX4_endings_92 : decode cX4_endings 92 = .ok (.iload 4, 2) := by decide +kernel
theorem dX4_endings_94 : decode cX4_endings 94 = .ok (.iconst 1, 1) := by decide +kernel
theorem dX4_endings_95 : decode cX4_endings 95 = .ok (.isub, 1) := by decide +kernel
theorem dX4_endings_96 : decode cX4_endings 96 = .ok (.invokestatic 23, 3) := by decide +kernel
theorem dX4_endings_99 : decode cX4_endings 99 = .ok (.iadd, 1) := by decide +kernel
theorem dX4_endings_100 : decode cX4_endings 100 = .ok (.istore 6, 2) := by decide +kernel
theorem dX4_endings_102 : decode cX4_endings 102 = .ok (.iinc 7 1, 3) := by decide +kernel
theorem dX4_endings_105 : decode cX4_endings 105 = .ok (.goto (-72), 3) := by decide +kernel
theorem dX4_endings_108 : decode cX4_endings 108 = .ok (.iload 6, 2) := by decide +kernel
theorem dX4_endings_110 : decode cX4_endings 110 = .ok (.ireturn, 1) := by decide +kernel
set_option maxRecDepth 20000 in
theorem ggX5_init_X0_init : GoodIn wsX5_init wsX0_init := goodIn_r _ [28, 29, 2, 3, 30, 31, 59, 60] (by decide +kernel) (by decide +kernel)
set_option maxRecDepth 20000 in
theorem gX5_init_X0_init : GoodIn wsX5_init (wsX0_init) := ggX5_init_X0_init
set_option maxRecDepth 20000 in
theorem ggX5_init_X2_init : GoodIn wsX5_init wsX2_init := goodIn_r _ [34, 35, 2, 3, 36, 68] (by decide +kernel) (by decide +kernel)
set_option maxRecDepth 20000 in
theorem gX5_init_X2_init : GoodIn wsX5_init (wsX2_init) := ggX5_init_X2_init
set_option maxRecDepth 20000 in
theorem ggX5_init_X1_init : GoodIn wsX5_init wsX1_init := goodIn_r _ [39, 40, 2, 3, 41, 42, 43, 44, 45, 69, 70, 71, 72] (by decide +kernel) (by decide +kernel)
set_option maxRecDepth 20000 in
theorem gX5_init_X1_init : GoodIn wsX5_init (wsX1_init) := ggX5_init_X1_init
set_option maxRecDepth 20000 in
theorem ggX5_init_X3_init : GoodIn wsX5_init wsX3_init := goodIn_r _ [48, 49, 2, 3, 50, 43, 51, 52, 53, 73, 74, 75, 76] (by decide +kernel) (by decide +kernel)
set_option maxRecDepth 20000 in
theorem gX5_init_X3_init : GoodIn wsX5_init (wsX3_init) := ggX5_init_X3_init
set_option maxRecDepth 20000 in
theorem ggX5_init_X4_init : GoodIn wsX5_init wsX4_init := goodIn_r _ [56, 57, 2, 3, 43, 58, 77] (by decide +kernel) (by decide +kernel)
set_option maxRecDepth 20000 in
theorem gX5_init_X4_init : GoodIn wsX5_init (wsX4_init) := ggX5_init_X4_init
