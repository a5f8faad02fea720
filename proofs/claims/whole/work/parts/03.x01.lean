theorem dX0_init_0 : decode cX0_init 0 = .ok (.aload_n 0, 1) := by decide +kernel
theorem dX0_init_1 : decode cX0_init 1 = .ok (.invokespecial 3, 3) := by decide +kernel
theorem dX0_init_4 : decode cX0_init 4 = .ok (.aload_n 0, 1) := by decide +kernel
theorem dX0_init_5 : decode cX0_init 5 = .ok (.bipush 12, 2) := by decide +kernel
theorem dX0_init_7 : decode cX0_init 7 = .ok (.putfield 9, 3) := by decide +kernel
theorem dX0_init_10 : decode cX0_init 10 = .ok (.aload_n 0, 1) := by decide +kernel
theorem dX0_init_11 : decode cX0_init 11 = .ok (.sipush 4095, 3) := by decide +kernel
theorem dX0_init_14 : decode cX0_init 14 = .ok (.putfield 15, 3) := by decide +kernel
theorem dX0_init_17 : decode cX0_init 17 = .ok (.return_, 1) := by decide +kernel
theorem dX0_count_0 : decode cX0_count 0 = .ok (.aload_n 0, 1) := by decide +kernel
theorem dX0_count_1 : decode cX0_count 1 = .ok (.getfield 9, 3) := by decide +kernel
theorem dX0_count_4 : decode cX0_count 4 = .ok (.ireturn, 1) := by decide +kernel
theorem dX0_become_0 : decode cX0_become 0 = .ok (.aload_n 0, 1) := by decide +kernel
theorem dX0_become_1 : decode cX0_become 1 = .ok (.iload_n 1, 1) := by decide +kernel
theorem dX0_become_2 : decode cX0_become 2 = .ok (.putfield 9, 3) := by decide +kernel
theorem dX0_become_5 : decode cX0_become 5 = .ok (.aload_n 0, 1) := by decide +kernel
theorem dX0_become_6 : decode cX0_become 6 = .ok (.iconst 1, 1) := by decide +kernel
theorem dX0_become_7 : decode cX0_become 7 = .ok (.iload_n 1, 1) := by decide +kernel
theorem dX0_become_8 : decode cX0_become 8 = .ok (.ishl, 1) := by decide +kernel
theorem dX0_become_9 : decode cX0_become 9 = .ok (.iconst 1, 1) := by decide +kernel
theorem dX0_become_10 : decode cX0_become 10 = .ok (.isub, 1) := by decide +kernel
theorem dX0_become_11 : decode cX0_become 11 = .ok (.putfield 15, 3) := by decide +kernel
theorem dX0_become_14 : decode cX0_become 14 = .ok (.return_, 1) := by decide +kernel
theorem dX0_all_0 : decode cX0_all 0 = .ok (.aload_n 0, 1) := by decide +kernel
theorem dX0_all_1 : decode cX0_all 1 = .ok (.getfield 15, 3) := by decide +kernel
theorem dX0_all_4 : decode cX0_all 4 = .ok (.ireturn, 1) := by decide +kernel
theorem dX0_hasStep_0 : decode cX0_hasStep 0 = .ok (.iload_n 1, 1) := by decide +kernel
theorem dX0_hasStep_1 : decode cX0_hasStep 1 = .ok (.ifCond .lt 15, 3) := by decide +kernel
theorem dX0_hasStep_4 : decode cX0_hasStep 4 = .ok (.iload_n 1, 1) := by decide +kernel
theorem dX0_hasStep_5 : decode cX0_hasStep 5 = .ok (.aload_n 0, 1) := by decide +kernel
theorem dX0_hasStep_6 : decode cX0_hasStep 6 = .ok (.getfield 9, 3) := by decide +kernel
theorem dX0_hasStep_9 : decode cX0_hasStep 9 = .ok (.if_icmp .ge 7, 3) := by decide +kernel
theorem dX0_hasStep_12 : decode cX0_hasStep 12 = .ok (.iconst 1, 1) := by decide +kernel
theorem dX0_hasStep_13 : decode cX0_hasStep 13 = .ok (.goto 4, 3) := by decide +kernel
theorem dX0_hasStep_16 : decode cX0_hasStep 16 = .ok (.iconst 0, 1) := by decide +kernel
theorem dX0_hasStep_17 : decode cX0_hasStep 17 = .ok (.ireturn, 1) := by decide +kernel
theorem dX0_hasSet_0 : decode cX0_hasSet 0 = .ok (.iload_n 1, 1) := by decide +kernel
theorem dX0_hasSet_1 : decode cX0_hasSet 1 = .ok (.ifCond .lt 15, 3) := by decide +kernel
theorem dX0_hasSet_4 : decode cX0_hasSet 4 = .ok (.iload_n 1, 1) := by decide +kernel
theorem dX0_hasSet_5 : decode cX0_hasSet 5 = .ok (.aload_n 0, 1) := by decide +kernel
theorem dX0_hasSet_6 : decode cX0_hasSet 6 = .ok (.getfield 15, 3) := by decide +kernel
theorem dX0_hasSet_9 : decode cX0_hasSet 9 = .ok (.if_icmp .gt 7, 3) := by decide +kernel
theorem dX0_hasSet_12 : decode cX0_hasSet 12 = .ok (.iconst 1, 1) := by decide +kernel
theorem dX0_hasSet_13 : decode cX0_hasSet 13 = .ok (.goto 4, 3) := by decide +kernel
theorem dX0_hasSet_16 : decode cX0_hasSet 16 = .ok (.iconst 0, 1) := by decide +kernel
theorem dX0_hasSet_17 : decode cX0_hasSet 17 = .ok (.ireturn, 1) := by decide +kernel
theorem dX0_wrapped_0 : decode cX0_wrapped 0 = .ok (.aload_n 0, 1) := by decide +kernel
theorem dX0_wrapped_1 : decode cX0_wrapped 1 = .ok (.getfield 9, 3) := by decide +kernel
theorem dX0_wrapped_4 : decode cX0_wrapped 4 = .ok (.iconst 1, 1) := by decide +kernel
theorem dX0_wrapped_5 : decode cX0_wrapped 5 = .ok (.if_icmp .ge 7, 3) := by decide +kernel
theorem dX0_wrapped_8 : decode cX0_wrapped 8 = .ok (.iconst 0, 1) := by decide +kernel
theorem dX0_wrapped_9 : decode cX0_wrapped 9 = .ok (.goto 9, 3) := by decide +kernel
theorem dX0_wrapped_12 : decode cX0_wrapped 12 = .ok (.iload_n 1, 1) := by decide +kernel
theorem dX0_wrapped_13 : decode cX0_wrapped 13 = .ok (.aload_n 0, 1) := by decide +kernel
theorem dX0_wrapped_14 : decode cX0_wrapped 14 = .ok (.getfield 9, 3) := by decide +kernel
theorem dX0_wrapped_17 : decode cX0_wrapped 17 = .ok (.irem, 1) := by decide +kernel
theorem dX0_wrapped_18 : decode cX0_wrapped 18 = .ok (.istore_n 2, 1) := by decide +kernel
theorem dX0_wrapped_19 : decode cX0_wrapped 19 = .ok (.iload_n 2, 1) := by decide +kernel
theorem dX0_wrapped_20 : decode cX0_wrapped 20 = .ok (.ifCond .ge 12, 3) := by decide +kernel
theorem dX0_wrapped_23 : decode cX0_wrapped 23 = .ok (.iload_n 2, 1) := by decide +kernel
theorem dX0_wrapped_24 : decode cX0_wrapped 24 = .ok (.aload_n 0, 1) := by decide +kernel
theorem dX0_wrapped_25 : decode cX0_wrapped 25 = .ok (.getfield 9, 3) := by decide +kernel
theorem dX0_wrapped_28 : decode cX0_wrapped 28 = .ok (.iadd, 1) := by decide +kernel
theorem dX0_wrapped_29 : decode cX0_wrapped 29 = .ok (.goto 4, 3) := by decide +kernel
theorem dX0_wrapped_32 : decode cX0_wrapped 32 = .ok (.iload_n 2, 1) := by decide +kernel
theorem dX0_wrapped_33 : decode cX0_wrapped 33 = .ok (.ireturn, 1) := by decide +kernel
theorem dX0_stepAt_0 : decode cX0_stepAt 0 = .ok (.iconst 0, 1) := by decide +kernel
theorem dX0_stepAt_1 : decode cX0_stepAt 1 = .ok (.istore_n 3, 1) := by decide +kernel
theorem dX0_stepAt_2 : decode cX0_stepAt 2 = .ok (.iconst 0, 1) := by decide +kernel
theorem dX0_stepAt_3 : decode cX0_stepAt 3 = .ok (.istore 4, 2) := by decide +kernel
theorem dX0_stepAt_5 : decode cX0_stepAt 5 = .ok (.iload 4, 2) := by decide +kernel
theorem dX0_stepAt_7 : decode cX0_stepAt 7 = .ok (.aload_n 0, 1) := by decide +kernel
theorem dX0_stepAt_8 : decode cX0_stepAt 8 = .ok (.getfield 9, 3) := by decide +kernel
theorem dX0_stepAt_11 : decode cX0_stepAt 11 = .ok (.if_icmp .ge 30, 3) := by decide +kernel
theorem dX0_stepAt_14 : decode cX0_stepAt 14 = .ok (.iload_n 1, 1) := by decide +kernel
theorem dX0_stepAt_15 : decode cX0_stepAt 15 = .ok (.iload 4, 2) := by decide +kernel
theorem dX0_stepAt_17 : decode cX0_stepAt 17 = .ok (.ishr, 1) := by decide +kernel
theorem dX0_stepAt_18 : decode cX0_stepAt 18 = .ok (.iconst 1, 1) := by decide +kernel
theorem dX0_stepAt_19 : decode cX0_stepAt 19 = .ok (.iand, 1) := by decide +kernel
theorem dX0_stepAt_20 : decode cX0_stepAt 20 = .ok (.iconst 1, 1) := by decide +kernel
theorem dX0_stepAt_21 : decode cX0_stepAt 21 = .ok (.if_icmp .ne 14, 3) := by decide +kernel
theorem dX0_stepAt_24 : decode cX0_stepAt 24 = .ok (.iload_n 3, 1) := by decide +kernel
theorem dX0_stepAt_25 : decode cX0_stepAt 25 = .ok (.iload_n 2, 1) := by decide +kernel
theorem dX0_stepAt_26 : decode cX0_stepAt 26 = .ok (.if_icmp .ne 6, 3) := by decide +kernel
theorem dX0_stepAt_29 : decode cX0_stepAt 29 = .ok (.iload 4, 2) := by decide +kernel
theorem dX0_stepAt_31 : decode cX0_stepAt 31 = .ok (.ireturn, 1) := by decide +kernel
theorem dX0_stepAt_32 : decode cX0_stepAt 32 = .ok (.iinc 3 1, 3) := by decide +kernel
theorem dX0_stepAt_35 : decode cX0_stepAt 35 = .ok (.iinc 4 1, 3) := by decide +kernel
theorem dX0_stepAt_38 : decode cX0_stepAt 38 = .ok (.goto (-33), 3) := by decide +kernel
theorem dX0_stepAt_41 : decode cX0_stepAt 41 = .ok (.iconst (-1), 1) := by decide +kernel
theorem dX0_stepAt_42 : decode cX0_stepAt 42 = .ok (.ireturn, 1) := by decide +kernel
theorem dX0_turned_0 : decode cX0_turned 0 = .ok (.iload_n 1, 1) := by decide +kernel
theorem dX0_turned_1 : decode cX0_turned 1 = .ok (.iload_n 2, 1) := by decide +kernel
theorem dX0_turned_2 : decode cX0_turned 2 = .ok (.ishl, 1) := by decide +kernel
theorem dX0_turned_3 : decode cX0_turned 3 = .ok (.iload_n 1, 1) := by decide +kernel
theorem dX0_turned_4 : decode cX0_turned 4 = .ok (.aload_n 0, 1) := by decide +kernel
theorem dX0_turned_5 : decode cX0_turned 5 = .ok (.getfield 9, 3) := by decide +kernel
theorem dX0_turned_8 : decode cX0_turned 8 = .ok (.iload_n 2, 1) := by decide +kernel
theorem dX0_turned_9 : decode cX0_turned 9 = .ok (.isub, 1) := by decide +kernel
theorem dX0_turned_10 : decode cX0_turned 10 = .ok (.ishr, 1) := by decide +kernel
theorem dX0_turned_11 : decode cX0_turned 11 = .ok (.ior, 1) := by decide +kernel
theorem dX0_turned_12 : decode cX0_turned 12 = .ok (.aload_n 0, 1) := by decide +kernel
theorem dX0_turned_13 : decode cX0_turned 13 = .ok (.getfield 15, 3) := by decide +kernel
theorem dX0_turned_16 : decode cX0_turned 16 = .ok (.iand, 1) := by decide +kernel
theorem dX0_turned_17 : decode cX0_turned 17 = .ok (.ireturn, 1) := by decide +kernel
set_option maxRecDepth 20000 in
theorem ggX0_timesEach_X0_wrapped : GoodIn wsX0_timesEach wsX0_wrapped := goodIn_r _ [6, 1, 7, 8] (by decide +kernel) (by decide +kernel)
set_option maxRecDepth 20000 in
theorem gX0_timesEach_X0_wrapped : GoodIn wsX0_timesEach (wsV RX0 18 RX0 yX0_wrapped wsX0_wrapped) := goodIn_app (goodIn_of _ (by decide +kernel)) ggX0_timesEach_X0_wrapped
theorem dX0_timesEach_0 : decode cX0_timesEach 0 = .ok (.iconst 0, 1) := by decide +kernel
theorem dX0_timesEach_1 : decode cX0_timesEach 1 = .ok (.istore_n 3, 1) := by decide +kernel
theorem dX0_timesEach_2 : decode cX0_timesEach 2 = .ok (.iconst 0, 1) := by decide +kernel
theorem dX0_timesEach_3 : decode cX0_timesEach 3 = .ok (.istore 4, 2) := by decide +kernel
theorem dX0_timesEach_5 : decode cX0_timesEach 5 = .ok (.iload 4, 2) := by decide +kernel
theorem dX0_timesEach_7 : decode cX0_timesEach 7 = .ok (.aload_n 0, 1) := by decide +kernel
theorem dX0_timesEach_8 : decode cX0_timesEach 8 = .ok (.getfield 9, 3) := by decide +kernel
theorem dX0_timesEach_11 : decode cX0_timesEach 11 = .ok (.if_icmp .ge 32, 3) := by decide +kernel
theorem dX0_timesEach_14 : decode cX0_timesEach 14 = .ok (.iload_n 1, 1) := by decide +kernel
theorem dX0_timesEach_15 : decode cX0_timesEach 15 = .ok (.iload 4, 2) := by decide +kernel
theorem dX0_timesEach_17 : decode cX0_timesEach 17 = .ok (.ishr, 1) := by decide +kernel
theorem dX0_timesEach_18 : decode cX0_timesEach 18 = .ok (.iconst 1, 1) := by decide +kernel
theorem dX0_timesEach_19 : decode cX0_timesEach 19 = .ok (.iand, 1) := by decide +kernel
theorem dX0_timesEach_20 : decode cX0_timesEach 20 = .ok (.iconst 1, 1) := by decide +kernel
theorem dX0_timesEach_21 : decode cX0_timesEach 21 = .ok (.if_icmp .ne 16, 3) := by decide +kernel
theorem dX0_timesEach_24 : decode cX0_timesEach 24 = .ok (.iload_n 3, 1) := by decide +kernel
theorem dX0_timesEach_25 : decode cX0_timesEach 25 = .ok (.iconst 1, 1) := by decide +kernel
theorem dX0_timesEach_26 : decode cX0_timesEach 26 = .ok (.aload_n 0, 1) := by decide +kernel
theorem dX0_timesEach_27 : decode cX0_timesEach 27 = .ok (.iload 4, 2) := by decide +kernel
theorem dX0_timesEach_29 : decode cX0_timesEach 29 = .ok (.iload_n 2, 1) := by decide +kernel
theorem dX0_timesEach_30 : decode cX0_timesEach 30 = .ok (.imul, 1) := by decide +kernel
theorem dX0_timesEach_31 : decode cX0_timesEach 31 = .ok (.invokevirtual 18, 3) := by decide +kernel
theorem dX0_timesEach_34 : decode cX0_timesEach 34 = .ok (.ishl, 1) := by decide +kernel
theorem dX0_timesEach_35 : decode cX0_timesEach 35 = .ok (.ior, 1) := by decide +kernel
theorem dX0_timesEach_36 : decode cX0_timesEach 36 = .ok (.istore_n 3, 1) := by decide +kernel
theorem dX0_timesEach_37 : decode cX0_timesEach 37 = .ok (.iinc 4 1, 3) := by decide +kernel
theorem dX0_timesEach_40 : decode cX0_timesEach 40 = .ok (.goto (-35), 3) := by decide +kernel
theorem dX0_timesEach_43 : decode cX0_timesEach 43 = .ok (.iload_n 3, 1) := by decide +kernel
theorem dX0_timesEach_44 : decode cX0_timesEach 44 = .ok (.ireturn, 1) := by decide +kernel
set_option maxRecDepth 20000 in
theorem ggX0_mirroredIf_X0_timesEach : GoodIn wsX0_mirroredIf wsX0_timesEach := goodIn_r _ [6, 1, 7, 8, 9, 5, 10, 11, 12] (by decide +kernel) (by decide +kernel)
set_option maxRecDepth 20000 in
theorem gX0_mirroredIf_X0_timesEach : GoodIn wsX0_mirroredIf (wsV RX0 22 RX0 yX0_timesEach wsX0_timesEach) := goodIn_app (goodIn_of _ (by decide +kernel)) ggX0_mirroredIf_X0_timesEach
theorem dX0_mirroredIf_0 : decode cX0_mirroredIf 0 = .ok (.iload_n 2, 1) := by decide +kernel
theorem dX0_mirroredIf_1 : decode cX0_mirroredIf 1 = .ok (.ifCond .eq 17, 3) := by decide +kernel
theorem dX0_mirroredIf_4 : decode cX0_mirroredIf 4 = .ok (.aload_n 0, 1) := by decide +kernel
theorem dX0_mirroredIf_5 : decode cX0_mirroredIf 5 = .ok (.iload_n 1, 1) := by decide +kernel
theorem dX0_mirroredIf_6 : decode cX0_mirroredIf 6 = .ok (.aload_n 0, 1) := by decide +kernel
theorem dX0_mirroredIf_7 : decode cX0_mirroredIf 7 = .ok (.getfield 9, 3) := by decide +kernel
theorem dX0_mirroredIf_10 : decode cX0_mirroredIf 10 = .ok (.iconst 1, 1) := by decide +kernel
theorem dX0_mirroredIf_11 : decode cX0_mirroredIf 11 = .ok (.isub, 1) := by decide +kernel
theorem dX0_mirroredIf_12 : decode cX0_mirroredIf 12 = .ok (.invokevirtual 22, 3) := by decide +kernel
theorem dX0_mirroredIf_15 : decode cX0_mirroredIf 15 = .ok (.goto 4, 3) := by decide +kernel
theorem dX0_mirroredIf_18 : decode cX0_mirroredIf 18 = .ok (.iload_n 1, 1) := by decide +kernel
theorem dX0_mirroredIf_19 : decode cX0_mirroredIf 19 = .ok (.ireturn, 1) := by decide +kernel
set_option maxRecDepth 20000 in
theorem ggX0_isMultiplier_X5_commonDivisor : GoodIn wsX0_isMultiplier wsX5_commonDivisor := goodIn_r _ [4] (by decide +kernel) (by decide +kernel)
set_option maxRecDepth 20000 in
theorem gX0_isMultiplier_X5_commonDivisor_n26 : GoodIn wsX0_isMultiplier (wsX5_commonDivisor) := ggX0_isMultiplier_X5_commonDivisor
set_option maxRecDepth 20000 in
theorem ggX0_isMultiplier_X0_wrapped : GoodIn wsX0_isMultiplier wsX0_wrapped := goodIn_r _ [9, 1, 10, 11] (by decide +kernel) (by decide +kernel)
set_option maxRecDepth 20000 in
theorem gX0_isMultiplier_X0_wrapped : GoodIn wsX0_isMultiplier (wsV RX0 18 RX0 yX0_wrapped wsX0_wrapped) := goodIn_app (goodIn_of _ (by decide +kernel)) ggX0_isMultiplier_X0_wrapped
theorem dX0_isMultiplier_0 : decode cX0_isMultiplier 0 = .ok (.iload_n 2, 1) := by decide +kernel
theorem dX0_isMultiplier_1 : decode cX0_isMultiplier 1 = .ok (.iconst 2, 1) := by decide +kernel
theorem dX0_isMultiplier_2 : decode cX0_isMultiplier 2 = .ok (.if_icmp .ne 21, 3) := by decide +kernel
theorem dX0_isMultiplier_5 : decode cX0_isMultiplier 5 = .ok (.iload_n 1, 1) := by decide +kernel
theorem dX0_isMultiplier_6 : decode cX0_isMultiplier 6 = .ok (.aload_n 0, 1) := by decide +kernel
theorem dX0_isMultiplier_7 : decode cX0_isMultiplier 7 = .ok (.getfield 9, 3) := by decide +kernel
theorem dX0_isMultiplier_10 : decode cX0_isMultiplier 10 = .ok (.invokestatic 26, 3) := by decide +kernel
theorem dX0_isMultiplier_13 : decode cX0_isMultiplier 13 = .ok (.iconst 1, 1) := by decide +kernel
theorem dX0_isMultiplier_14 : decode cX0_isMultiplier 14 = .ok (.if_icmp .ne 7, 3) := by decide +kernel
theorem dX0_isMultiplier_17 : decode cX0_isMultiplier 17 = .ok (.iconst 1, 1) := by decide +kernel
theorem dX0_isMultiplier_18 : decode cX0_isMultiplier 18 = .ok (.goto 4, 3) := by decide +kernel
theorem dX0_isMultiplier_21 : decode cX0_isMultiplier 21 = .ok (.iconst 0, 1) := by decide +kernel
theorem dX0_isMultiplier_22 : decode cX0_isMultiplier 22 = .ok (.ireturn, 1) := by decide +kernel
theorem dX0_isMultiplier_23 : decode cX0_isMultiplier 23 = .ok (.iload_n 1, 1) := by decide +kernel
theorem dX0_isMultiplier_24 : decode cX0_isMultiplier 24 = .ok (.aload_n 0, 1) := by decide +kernel
theorem dX0_isMultiplier_25 : decode cX0_isMultiplier 25 = .ok (.iconst 1, 1) := by decide +kernel
theorem dX0_isMultiplier_26 : decode cX0_isMultiplier 26 = .ok (.invokevirtual 18, 3) := by decide +kernel
theorem dX0_isMultiplier_29 : decode cX0_isMultiplier 29 = .ok (.if_icmp .eq 18, 3) := by decide +kernel
theorem dX0_isMultiplier_32 : decode cX0_isMultiplier 32 = .ok (.iload_n 2, 1) := by decide +kernel
theorem dX0_isMultiplier_33 : decode cX0_isMultiplier 33 = .ok (.iconst 1, 1) := by decide +kernel
theorem dX0_isMultiplier_34 : decode cX0_isMultiplier 34 = .ok (.if_icmp .ne 17, 3) := by decide +kernel
theorem dX0_isMultiplier_37 : decode cX0_isMultiplier 37 = .ok (.iload_n 1, 1) := by decide +kernel
theorem dX0_isMultiplier_38 : decode cX0_isMultiplier 38 = .ok (.aload_n 0, 1) := by decide +kernel
theorem dX0_isMultiplier_39 : decode cX0_isMultiplier 39 = .ok (.getfield 9, 3) := by decide +kernel
theorem dX0_isMultiplier_42 : decode cX0_isMultiplier 42 = .ok (.iconst 1, 1) := by decide +kernel
theorem dX0_isMultiplier_43 : decode cX0_isMultiplier 43 = .ok (.isub, 1) := by decide +kernel
theorem dX0_isMultiplier_44 : decode cX0_isMultiplier 44 = .ok (.if_icmp .ne 7, 3) := by decide +kernel
theorem dX0_isMultiplier_47 : decode cX0_isMultiplier 47 = .ok (.iconst 1, 1) := by decide +kernel
theorem dX0_isMultiplier_48 : decode cX0_isMultiplier 48 = .ok (.goto 4, 3) := by decide +kernel
theorem dX0_isMultiplier_51 : decode cX0_isMultiplier 51 = .ok (.iconst 0, 1) := by decide +kernel
theorem dX0_isMultiplier_52 : decode cX0_isMultiplier 52 = .ok (.ireturn, 1) := by decide +kernel
set_option maxRecDepth 20000 in
theorem ggX0_leastOf_X0_isMultiplier : GoodIn wsX0_leastOf wsX0_isMultiplier := goodIn_r _ [10, 1, 11, 12, 13, 14, 15, 16, 9, 17, 31, 32] (by decide +kernel) (by decide +kernel)
set_option maxRecDepth 20000 in
theorem gX0_leastOf_X0_isMultiplier : GoodIn wsX0_leastOf (wsV RX0 29 RX0 yX0_isMultiplier wsX0_isMultiplier) := goodIn_app (goodIn_of _ (by decide +kernel)) ggX0_leastOf_X0_isMultiplier
set_option maxRecDepth 20000 in
theorem ggX0_leastOf_X0_timesEach : GoodIn wsX0_leastOf wsX0_timesEach := goodIn_r _ [21, 1, 14, 15, 16, 9, 17, 31, 32] (by decide +kernel) (by decide +kernel)
set_option maxRecDepth 20000 in
theorem gX0_leastOf_X0_timesEach : GoodIn wsX0_leastOf (wsV RX0 22 RX0 yX0_timesEach wsX0_timesEach) := goodIn_app (goodIn_of _ (by decide +kernel)) ggX0_leastOf_X0_timesEach
set_option maxRecDepth 20000 in
theorem ggX0_leastOf_X0_leastTurned : GoodIn wsX0_leastOf wsX0_leastTurned := goodIn_r _ [25, 1, 2, 3, 4, 5, 26, 27, 28, 9, 29, 30, 31, 32] (by decide +kernel) (by decide +kernel)
set_option maxRecDepth 20000 in
theorem gX0_leastOf_X0_leastTurned : GoodIn wsX0_leastOf (wsV RX0 33 RX0 yX0_leastTurned wsX0_leastTurned) := goodIn_app (goodIn_of _ (by decide +kernel)) ggX0_leastOf_X0_leastTurned
theorem dX0_leastOf_0 : decode cX0_leastOf 0 = .ok (.iload_n 1, 1) := by decide +kernel
theorem dX0_leastOf_1 : decode cX0_leastOf 1 = .ok (.istore_n 3, 1) := by decide +kernel
theorem dX0_leastOf_2 : decode cX0_leastOf 2 = .ok (.iconst 0, 1) := by decide +kernel
theorem dX0_leastOf_3 : decode cX0_leastOf 3 = .ok (.istore 4, 2) := by decide +kernel
theorem dX0_leastOf_5 : decode cX0_leastOf 5 = .ok (.iload 4, 2) := by decide +kernel
theorem dX0_leastOf_7 : decode cX0_leastOf 7 = .ok (.aload_n 0, 1) := by decide +kernel
theorem dX0_leastOf_8 : decode cX0_leastOf 8 = .ok (.getfield 9, 3) := by decide +kernel
theorem dX0_leastOf_11 : decode cX0_leastOf 11 = .ok (.if_icmp .ge 35, 3) := by decide +kernel
theorem dX0_leastOf_14 : decode cX0_leastOf 14 = .ok (.aload_n 0, 1) := by decide +kernel
theorem dX0_leastOf_15 : decode cX0_leastOf 15 = .ok (.iload 4, 2) := by decide +kernel
theorem dX0_leastOf_17 : decode cX0_leastOf 17 = .ok (.iload_n 2, 1) := by decide +kernel
theorem dX0_leastOf_18 : decode cX0_leastOf 18 = .ok (.invokevirtual 29, 3) := by decide +kernel
theorem dX0_leastOf_21 : decode cX0_leastOf 21 = .ok (.ifCond .eq 19, 3) := by decide +kernel
theorem dX0_leastOf_24 : decode cX0_leastOf 24 = .ok (.iload_n 3, 1) := by decide +kernel
theorem dX0_leastOf_25 : decode cX0_leastOf 25 = .ok (.aload_n 0, 1) := by decide +kernel
theorem dX0_leastOf_26 : decode cX0_leastOf 26 = .ok (.aload_n 0, 1) := by decide +kernel
theorem dX0_leastOf_27 : decode cX0_leastOf 27 = .ok (.iload_n 1, 1) := by decide +kernel
theorem dX0_leastOf_28 : decode cX0_leastOf 28 = .ok (.iload 4, 2) := by decide +kernel
theorem dX0_leastOf_30 : decode cX0_leastOf 30 = .ok (.invokevirtual 22, 3) := by decide +kernel
theorem dX0_leastOf_33 : decode cX0_leastOf 33 = .ok (.invokevirtual 33, 3) := by decide +kernel
theorem dX0_leastOf_36 : decode cX0_leastOf 36 = .ok (.invokestatic 36, 3) := by decide +kernel
theorem dX0_leastOf_39 : decode cX0_leastOf 39 = .ok (.istore_n 3, 1) := by decide +kernel
theorem dX0_leastOf_40 : decode cX0_leastOf 40 = .ok (.iinc 4 1, 3) := by decide +kernel
theorem dX0_leastOf_43 : decode cX0_leastOf 43 = .ok (.goto (-38), 3) := by decide +kernel
theorem dX0_leastOf_46 : decode cX0_leastOf 46 = .ok (.iload_n 3, 1) := by decide +kernel
theorem dX0_leastOf_47 : decode cX0_leastOf 47 = .ok (.ireturn, 1) := by decide +kernel
set_option maxRecDepth 20000 in
theorem ggX0_leastTurned_X0_turned : GoodIn wsX0_leastTurned wsX0_turned := goodIn_r _ [10, 1, 11, 12, 13] (by decide +kernel) (by decide +kernel)
set_option maxRecDepth 20000 in
theorem gX0_leastTurned_X0_turned : GoodIn wsX0_leastTurned (wsV RX0 41 RX0 yX0_turned wsX0_turned) := goodIn_app (goodIn_of _ (by decide +kernel)) ggX0_leastTurned_X0_turned
theorem dX0_leastTurned_0 : decode cX0_leastTurned 0 = .ok (.iload_n 1, 1) := by decide +kernel
theorem dX0_leastTurned_1 : decode cX0_leastTurned 1 = .ok (.istore_n 2, 1) := by decide +kernel
theorem dX0_leastTurned_2 : decode cX0_leastTurned 2 = .ok (.iconst 1, 1) := by decide +kernel
theorem dX0_leastTurned_3 : decode cX0_leastTurned 3 = .ok (.istore_n 3, 1) := by decide +kernel
theorem dX0_leastTurned_4 : decode cX0_leastTurned 4 = .ok (.iload_n 3, 1) := by decide +kernel
theorem dX0_leastTurned_5 : decode cX0_leastTurned 5 = .ok (.aload_n 0, 1) := by decide +kernel
theorem dX0_leastTurned_6 : decode cX0_leastTurned 6 = .ok (.getfield 9, 3) := by decide +kernel
theorem dX0_leastTurned_9 : decode cX0_leastTurned 9 = .ok (.if_icmp .ge 20, 3) := by decide +kernel
theorem dX0_leastTurned_12 : decode cX0_leastTurned 12 = .ok (.iload_n 2, 1) := by decide +kernel
theorem dX0_leastTurned_13 : decode cX0_leastTurned 13 = .ok (.aload_n 0, 1) := by decide +kernel
theorem dX0_leastTurned_14 : decode cX0_leastTurned 14 = .ok (.iload_n 1, 1) := by decide +kernel
theorem dX0_leastTurned_15 : decode cX0_leastTurned 15 = .ok (.iload_n 3, 1) := by decide +kernel
theorem dX0_leastTurned_16 : decode cX0_leastTurned 16 = .ok (.invokevirtual 41, 3) := by decide +kernel
theorem dX0_leastTurned_19 : decode cX0_leastTurned 19 = .ok (.invokestatic 36, 3) := by decide +kernel
theorem dX0_leastTurned_22 : decode cX0_leastTurned 22 = .ok (.istore_n 2, 1) := by decide +kernel
theorem dX0_leastTurned_23 : decode cX0_leastTurned 23 = .ok (.iinc 3 1, 3) := by decide +kernel
theorem dX0_leastTurned_26 : decode cX0_leastTurned 26 = .ok (.goto (-22), 3) := by decide +kernel
theorem dX0_leastTurned_29 : decode cX0_leastTurned 29 = .ok (.iload_n 2, 1) := by decide +kernel
theorem dX0_leastTurned_30 : decode cX0_leastTurned 30 = .ok (.ireturn, 1) := by decide +kernel
set_option maxRecDepth 20000 in
theorem ggX0_isLeastTurned_X0_turned : GoodIn wsX0_isLeastTurned wsX0_turned := goodIn_r _ [6, 1, 7, 8, 9] (by decide +kernel) (by decide +kernel)
set_option maxRecDepth 20000 in
theorem gX0_isLeastTurned_X0_turned : GoodIn wsX0_isLeastTurned (wsV RX0 41 RX0 yX0_turned wsX0_turned) := goodIn_app (goodIn_of _ (by decide +kernel)) ggX0_isLeastTurned_X0_turned
theorem dX0_isLeastTurned_0 : decode cX0_isLeastTurned 0 = .ok (.iconst 1, 1) := by decide +kernel
theorem dX0_isLeastTurned_1 : decode cX0_isLeastTurned 1 = .ok (.istore_n 2, 1) := by decide +kernel
theorem dX0_isLeastTurned_2 : decode cX0_isLeastTurned 2 = .ok (.iload_n 2, 1) := by decide +kernel
theorem dX0_isLeastTurned_3 : decode cX0_isLeastTurned 3 = .ok (.aload_n 0, 1) := by decide +kernel
theorem dX0_isLeastTurned_4 : decode cX0_isLeastTurned 4 = .ok (.getfield 9, 3) := by decide +kernel
theorem dX0_isLeastTurned_7 : decode cX0_isLeastTurned 7 = .ok (.if_icmp .ge 21, 3) := by decide +kernel
theorem dX0_isLeastTurned_10 : decode cX0_isLeastTurned 10 = .ok (.aload_n 0, 1) := by decide +kernel
theorem dX0_isLeastTurned_11 : decode cX0_isLeastTurned 11 = .ok (.iload_n 1, 1) := by decide +kernel
theorem dX0_isLeastTurned_12 : decode cX0_isLeastTurned 12 = .ok (.iload_n 2, 1) := by decide +kernel
theorem dX0_isLeastTurned_13 : decode cX0_isLeastTurned 13 = .ok (.invokevirtual 41, 3) := by decide +kernel
theorem dX0_isLeastTurned_16 : decode cX0_isLeastTurned 16 = .ok (.iload_n 1, 1) := by decide +kernel
theorem dX0_isLeastTurned_17 : decode cX0_isLeastTurned 17 = .ok (.if_icmp .ge 5, 3) := by decide +kernel
theorem dX0_isLeastTurned_20 : decode cX0_isLeastTurned 20 = .ok (.iconst 0, 1) := by decide +kernel
theorem dX0_isLeastTurned_21 : decode cX0_isLeastTurned 21 = .ok (.ireturn, 1) := by decide +kernel
theorem dX0_isLeastTurned_22 : decode cX0_isLeastTurned 22 = .ok (.iinc 2 1, 3) := by decide +kernel
theorem dX0_isLeastTurned_25 : decode cX0_isLeastTurned 25 = .ok (.goto (-23), 3) := by decide +kernel
theorem dX0_isLeastTurned_28 : decode cX0_isLeastTurned 28 = .ok (.iconst 1, 1) := by decide +kernel
theorem dX0_isLeastTurned_29 : decode cX0_isLeastTurned 29 = .ok (.ireturn, 1) := by decide +kernel
set_option maxRecDepth 20000 in
theorem ggX0_membersInside_X0_motionsInto : GoodIn wsX0_membersInside wsX0_motionsInto := goodIn_r _ [5, 6, 7, 8, 9, 4, 10, 11, 12, 13, 14, 15, 16, 17, 18, 19, 20, 21, 22, 23, 24, 25, 26, 27, 28, 29, 30, 33, 34] (by decide +kernel) (by decide +kernel)
set_option maxRecDepth 20000 in
theorem gX0_membersInside_X0_motionsInto : GoodIn wsX0_membersInside (wsV RX0 44 RX0 yX0_motionsInto wsX0_motionsInto) := goodIn_app (goodIn_of _ (by decide +kernel)) ggX0_membersInside_X0_motionsInto
set_option maxRecDepth 20000 in
theorem ggX0_membersInside_X5_quotient : GoodIn wsX0_membersInside wsX5_quotient := goodIn_r _ [32] (by decide +kernel) (by decide +kernel)
set_option maxRecDepth 20000 in
theorem gX0_membersInside_X5_quotient_n48 : GoodIn wsX0_membersInside (wsX5_quotient) := ggX0_membersInside_X5_quotient
theorem dX0_membersInside_0 : decode cX0_membersInside 0 = .ok (.aload_n 0, 1) := by decide +kernel
theorem dX0_membersInside_1 : decode cX0_membersInside 1 = .ok (.iload_n 1, 1) := by decide +kernel
theorem dX0_membersInside_2 : decode cX0_membersInside 2 = .ok (.iload_n 2, 1) := by decide +kernel
theorem dX0_membersInside_3 : decode cX0_membersInside 3 = .ok (.iload_n 3, 1) := by decide +kernel
theorem dX0_membersInside_4 : decode cX0_membersInside 4 = .ok (.invokevirtual 44, 3) := by decide +kernel
theorem dX0_membersInside_7 : decode cX0_membersInside 7 = .ok (.aload_n 0, 1) := by decide +kernel
theorem dX0_membersInside_8 : decode cX0_membersInside 8 = .ok (.iload_n 1, 1) := by decide +kernel
theorem dX0_membersInside_9 : decode cX0_membersInside 9 = .ok (.iload_n 2, 1) := by decide +kernel
theorem dX0_membersInside_10 : decode cX0_membersInside 10 = .ok (.iload_n 1, 1) := by decide +kernel
theorem dX0_membersInside_11 : decode cX0_membersInside 11 = .ok (.invokevirtual 44, 3) := by decide +kernel
theorem dX0_membersInside_14 : decode cX0_membersInside 14 = .ok (.invokestatic 48, 3) := by decide +kernel
theorem dX0_membersInside_17 : decode cX0_membersInside 17 = .ok (.ireturn, 1) := by decide +kernel
set_option maxRecDepth 20000 in
theorem ggX0_motionsInto_X0_isMultiplier : GoodIn wsX0_motionsInto wsX0_isMultiplier := goodIn_r _ [6, 1, 7, 8, 9, 10, 11, 12, 5, 13, 27, 28] (by decide +kernel) (by decide +kernel)
set_option maxRecDepth 20000 in
theorem gX0_motionsInto_X0_isMultiplier : GoodIn wsX0_motionsInto (wsV RX0 29 RX0 yX0_isMultiplier wsX0_isMultiplier) := goodIn_app (goodIn_of _ (by decide +kernel)) ggX0_motionsInto_X0_isMultiplier
set_option maxRecDepth 20000 in
theorem ggX0_motionsInto_X0_timesEach : GoodIn wsX0_motionsInto wsX0_timesEach := goodIn_r _ [17, 1, 10, 11, 12, 5, 13, 27, 28] (by decide +kernel) (by decide +kernel)
set_option maxRecDepth 20000 in
theorem gX0_motionsInto_X0_timesEach : GoodIn wsX0_motionsInto (wsV RX0 22 RX0 yX0_timesEach wsX0_timesEach) := goodIn_app (goodIn_of _ (by decide +kernel)) ggX0_motionsInto_X0_timesEach
set_option maxRecDepth 20000 in
theorem ggX0_motionsInto_X0_turnsInto : GoodIn wsX0_motionsInto wsX0_turnsInto := goodIn_r _ [21, 1, 22, 23, 24, 5, 25, 26, 27, 28] (by decide +kernel) (by decide +kernel)
set_option maxRecDepth 20000 in
theorem gX0_motionsInto_X0_turnsInto : GoodIn wsX0_motionsInto (wsV RX0 51 RX0 yX0_turnsInto wsX0_turnsInto) := goodIn_app (goodIn_of _ (by decide +kernel)) ggX0_motionsInto_X0_turnsInto
theorem dX0_motionsInto_0 : decode cX0_motionsInto 0 = .ok (.iconst 0, 1) := by decide +kernel
theorem dX0_motionsInto_1 : decode cX0_motionsInto 1 = .ok (.istore 4, 2) := by decide +kernel
theorem dX0_motionsInto_3 : decode cX0_motionsInto 3 = .ok (.iconst 0, 1) := by decide +kernel
theorem dX0_motionsInto_4 : decode cX0_motionsInto 4 = .ok (.istore 5, 2) := by decide +kernel
theorem dX0_motionsInto_6 : decode cX0_motionsInto 6 = .ok (.iload 5, 2) := by decide +kernel
theorem dX0_motionsInto_8 : decode cX0_motionsInto 8 = .ok (.aload_n 0, 1) := by decide +kernel
theorem dX0_motionsInto_9 : decode cX0_motionsInto 9 = .ok (.getfield 9, 3) := by decide +kernel
theorem dX0_motionsInto_12 : decode cX0_motionsInto 12 = .ok (.if_icmp .ge 36, 3) := by decide +kernel
theorem dX0_motionsInto_15 : decode cX0_motionsInto 15 = .ok (.aload_n 0, 1) := by decide +kernel
theorem dX0_motionsInto_16 : decode cX0_motionsInto 16 = .ok (.iload 5, 2) := by decide +kernel
theorem dX0_motionsInto_18 : decode cX0_motionsInto 18 = .ok (.iload_n 2, 1) := by decide +kernel
theorem dX0_motionsInto_19 : decode cX0_motionsInto 19 = .ok (.invokevirtual 29, 3) := by decide +kernel
theorem dX0_motionsInto_22 : decode cX0_motionsInto 22 = .ok (.ifCond .eq 20, 3) := by decide +kernel
theorem dX0_motionsInto_25 : decode cX0_motionsInto 25 = .ok (.iload 4, 2) := by decide +kernel
theorem dX0_motionsInto_27 : decode cX0_motionsInto 27 = .ok (.aload_n 0, 1) := by decide +kernel
theorem dX0_motionsInto_28 : decode cX0_motionsInto 28 = .ok (.aload_n 0, 1) := by decide +kernel
theorem dX0_motionsInto_29 : decode cX0_motionsInto 29 = .ok (.iload_n 1, 1) := by decide +kernel
theorem dX0_motionsInto_30 : decode cX0_motionsInto 30 = .ok (.iload 5, 2) := by decide +kernel
theorem dX0_motionsInto_32 : decode cX0_motionsInto 32 = .ok (.invokevirtual 22, 3) := by decide +kernel
theorem dX0_motionsInto_35 : decode cX0_motionsInto 35 = .ok (.iload_n 3, 1) := by decide +kernel
theorem dX0_motionsInto_36 : decode cX0_motionsInto 36 = .ok (.invokevirtual 51, 3) := by decide +kernel
theorem dX0_motionsInto_39 : decode cX0_motionsInto 39 = .ok (.iadd, 1) := by decide +kernel
theorem dX0_motionsInto_40 : decode cX0_motionsInto 40 = .ok (.istore 4, 2) := by decide +kernel
theorem dX0_motionsInto_42 : decode cX0_motionsInto 42 = .ok (.iinc 5 1, 3) := by decide +kernel
theorem dX0_motionsInto_45 : decode cX0_motionsInto 45 = .ok (.goto (-39), 3) := by decide +kernel
theorem dX0_motionsInto_48 : decode cX0_motionsInto 48 = .ok (.iload 4, 2) := by decide +kernel
theorem dX0_motionsInto_50 : decode cX0_motionsInto 50 = .ok (.ireturn, 1) := by decide +kernel
set_option maxRecDepth 20000 in
theorem ggX0_turnsInto_X0_turned : GoodIn wsX0_turnsInto wsX0_turned := goodIn_r _ [6, 1, 7, 8, 9] (by decide +kernel) (by decide +kernel)
set_option maxRecDepth 20000 in
theorem gX0_turnsInto_X0_turned : GoodIn wsX0_turnsInto (wsV RX0 41 RX0 yX0_turned wsX0_turned) := goodIn_app (goodIn_of _ (by decide +kernel)) ggX0_turnsInto_X0_turned
theorem dX0_turnsInto_0 : decode cX0_turnsInto 0 = .ok (.iconst 0, 1) := by decide +kernel
theorem dX0_turnsInto_1 : decode cX0_turnsInto 1 = .ok (.istore_n 3, 1) := by decide +kernel
theorem dX0_turnsInto_2 : decode cX0_turnsInto 2 = .ok (.iconst 0, 1) := by decide +kernel
theorem dX0_turnsInto_3 : decode cX0_turnsInto 3 = .ok (.istore 4, 2) := by decide +kernel
theorem dX0_turnsInto_5 : decode cX0_turnsInto 5 = .ok (.iload 4, 2) := by decide +kernel
theorem dX0_turnsInto_7 : decode cX0_turnsInto 7 = .ok (.aload_n 0, 1) := by decide +kernel
theorem dX0_turnsInto_8 : decode cX0_turnsInto 8 = .ok (.getfield 9, 3) := by decide +kernel
theorem dX0_turnsInto_11 : decode cX0_turnsInto 11 = .ok (.if_icmp .ge 26, 3) := by decide +kernel
theorem dX0_turnsInto_14 : decode cX0_turnsInto 14 = .ok (.aload_n 0, 1) := by decide +kernel
theorem dX0_turnsInto_15 : decode cX0_turnsInto 15 = .ok (.iload_n 1, 1) := by decide +kernel
theorem dX0_turnsInto_16 : decode cX0_turnsInto 16 = .ok (.iload 4, 2) := by decide +kernel
theorem dX0_turnsInto_18 : decode cX0_turnsInto 18 = .ok (.invokevirtual 41, 3) := by decide +kernel
theorem dX0_turnsInto_21 : decode cX0_turnsInto 21 = .ok (.iload_n 2, 1) := by decide +kernel
theorem dX0_turnsInto_22 : decode cX0_turnsInto 22 = .ok (.iconst (-1), 1) := by decide +kernel
theorem dX0_turnsInto_23 : decode cX0_turnsInto 23 = .ok (.ixor, 1) := by decide +kernel
theorem dX0_turnsInto_24 : decode cX0_turnsInto 24 = .ok (.iand, 1) := by decide +kernel
theorem dX0_turnsInto_25 : decode cX0_turnsInto 25 = .ok (.ifCond .ne 6, 3) := by decide +kernel
theorem dX0_turnsInto_28 : decode cX0_turnsInto 28 = .ok (.iinc 3 1, 3) := by decide +kernel
theorem dX0_turnsInto_31 : decode cX0_turnsInto 31 = .ok (.iinc 4 1, 3) := by decide +kernel
theorem dX0_turnsInto_34 : decode cX0_turnsInto 34 = .ok (.goto (-29), 3) := by decide +kernel
theorem dX0_turnsInto_37 : decode cX0_turnsInto 37 = .ok (.iload_n 3, 1) := by decide +kernel
theorem dX0_turnsInto_38 : decode cX0_turnsInto 38 = .ok (.ireturn, 1) := by decide +kernel
set_option maxRecDepth 20000 in
theorem ggX0_pairsApart_X0_turned : GoodIn wsX0_pairsApart wsX0_turned := goodIn_r _ [5, 6, 7, 15, 16] (by decide +kernel) (by decide +kernel)
set_option maxRecDepth 20000 in
theorem gX0_pairsApart_X0_turned : GoodIn wsX0_pairsApart (wsV RX0 41 RX0 yX0_turned wsX0_turned) := goodIn_app (goodIn_of _ (by decide +kernel)) ggX0_pairsApart_X0_turned
set_option maxRecDepth 20000 in
theorem ggX0_pairsApart_J6_bitCount_0f7a4 : GoodIn wsX0_pairsApart wsJ6_bitCount_0f7a4 := goodIn_r _ [11, 12, 13, 14] (by decide +kernel) (by decide +kernel)
set_option maxRecDepth 20000 in
theorem gX0_pairsApart_J6_bitCount_0f7a4 : GoodIn wsX0_pairsApart (va_wsS RX0 54 yJ6_bitCount_0f7a4 wsJ6_bitCount_0f7a4) := goodIn_app (goodIn_of _ (by decide +kernel)) ggX0_pairsApart_J6_bitCount_0f7a4
theorem dX0_pairsApart_0 : decode cX0_pairsApart 0 = .ok (.iload_n 1, 1) := by decide +kernel
theorem dX0_pairsApart_1 : decode cX0_pairsApart 1 = .ok (.aload_n 0, 1) := by decide +kernel
theorem dX0_pairsApart_2 : decode cX0_pairsApart 2 = .ok (.iload_n 1, 1) := by decide +kernel
theorem dX0_pairsApart_3 : decode cX0_pairsApart 3 = .ok (.iload_n 2, 1) := by decide +kernel
theorem dX0_pairsApart_4 : decode cX0_pairsApart 4 = .ok (.invokevirtual 41, 3) := by decide +kernel
theorem dX0_pairsApart_7 : decode cX0_pairsApart 7 = .ok (.iand, 1) := by decide +kernel
theorem dX0_pairsApart_8 : decode cX0_pairsApart 8 = .ok (.invokestatic 54, 3) := by decide +kernel
theorem dX0_pairsApart_11 : decode cX0_pairsApart 11 = .ok (.ireturn, 1) := by decide +kernel
set_option maxRecDepth 20000 in
theorem ggX0_hasLikeWays_J6_bitCount_0f7a4 : GoodIn wsX0_hasLikeWays wsJ6_bitCount_0f7a4 := goodIn_r _ [12, 13, 14, 15] (by decide +kernel) (by decide +kernel)
set_option maxRecDepth 20000 in
theorem gX0_hasLikeWays_J6_bitCount_0f7a4 : GoodIn wsX0_hasLikeWays (va_wsS RX0 54 yJ6_bitCount_0f7a4 wsJ6_bitCount_0f7a4) := goodIn_app (goodIn_of _ (by decide +kernel)) ggX0_hasLikeWays_J6_bitCount_0f7a4
set_option maxRecDepth 20000 in
theorem ggX0_hasLikeWays_X0_stepAt : GoodIn wsX0_hasLikeWays wsX0_stepAt := goodIn_r _ [20, 1, 25, 26] (by decide +kernel) (by decide +kernel)
set_option maxRecDepth 20000 in
theorem gX0_hasLikeWays_X0_stepAt : GoodIn wsX0_hasLikeWays (wsV RX0 59 RX0 yX0_stepAt wsX0_stepAt) := goodIn_app (goodIn_of _ (by decide +kernel)) ggX0_hasLikeWays_X0_stepAt
set_option maxRecDepth 20000 in
theorem ggX0_hasLikeWays_X0_wrapped : GoodIn wsX0_hasLikeWays wsX0_wrapped := goodIn_r _ [24, 1, 25, 26] (by decide +kernel) (by decide +kernel)
set_option maxRecDepth 20000 in
theorem gX0_hasLikeWays_X0_wrapped : GoodIn wsX0_hasLikeWays (wsV RX0 18 RX0 yX0_wrapped wsX0_wrapped) := goodIn_app (goodIn_of _ (by decide +kernel)) ggX0_hasLikeWays_X0_wrapped
theorem dX0_hasLikeWays_0 : decode cX0_hasLikeWays 0 = .ok (.aload_n 0, 1) := by decide +kernel
theorem dX0_hasLikeWays_1 : decode cX0_hasLikeWays 1 = .ok (.getfield 9, 3) := by decide +kernel
theorem dX0_hasLikeWays_4 : decode cX0_hasLikeWays 4 = .ok (.istore_n 3, 1) := by decide +kernel
theorem dX0_hasLikeWays_5 : decode cX0_hasLikeWays 5 = .ok (.iconst 0, 1) := by decide +kernel
theorem dX0_hasLikeWays_6 : decode cX0_hasLikeWays 6 = .ok (.istore 4, 2) := by decide +kernel
theorem dX0_hasLikeWays_8 : decode cX0_hasLikeWays 8 = .ok (.iload_n 1, 1) := by decide +kernel
theorem dX0_hasLikeWays_9 : decode cX0_hasLikeWays 9 = .ok (.invokestatic 54, 3) := by decide +kernel
theorem dX0_hasLikeWays_12 : decode cX0_hasLikeWays 12 = .ok (.istore 5, 2) := by decide +kernel
theorem dX0_hasLikeWays_14 : decode cX0_hasLikeWays 14 = .ok (.iconst 0, 1) := by decide +kernel
theorem dX0_hasLikeWays_15 : decode cX0_hasLikeWays 15 = .ok (.istore 6, 2) := by decide +kernel
theorem dX0_hasLikeWays_17 : decode cX0_hasLikeWays 17 = .ok (.iload 6, 2) := by decide +kernel
theorem dX0_hasLikeWays_19 : decode cX0_hasLikeWays 19 = .ok (.iload 5, 2) := by decide +kernel
theorem dX0_hasLikeWays_21 : decode cX0_hasLikeWays 21 = .ok (.if_icmp .ge 71, 3) := by decide +kernel
theorem dX0_hasLikeWays_24 : decode cX0_hasLikeWays 24 = .ok (.iload 6, 2) := by decide +kernel
theorem dX0_hasLikeWays_26 : decode cX0_hasLikeWays 26 = .ok (.iload_n 2, 1) := by decide +kernel
theorem dX0_hasLikeWays_27 : decode cX0_hasLikeWays 27 = .ok (.iadd, 1) := by decide +kernel
theorem dX0_hasLikeWays_28 : decode cX0_hasLikeWays 28 = .ok (.iload 5, 2) := by decide +kernel
theorem dX0_hasLikeWays_30 : decode cX0_hasLikeWays 30 = .ok (.if_icmp .ge 10, 3) := by decide +kernel
theorem dX0_hasLikeWays_33 : decode cX0_hasLikeWays 33 = .ok (.iload 6, 2) := by decide +kernel
theorem dX0_hasLikeWays_35 : decode cX0_hasLikeWays 35 = .ok (.iload_n 2, 1) := by decide +kernel
theorem dX0_hasLikeWays_36 : decode cX0_hasLikeWays 36 = .ok (.iadd, 1) := by decide +kernel
theorem dX0_hasLikeWays_37 : decode cX0_hasLikeWays 37 = .ok (.goto 10, 3) := by decide +kernel
theorem dX0_hasLikeWays_40 : decode cX0_hasLikeWays 40 = .ok (.iload 6, 2) := by decide +kernel
theorem dX0_hasLikeWays_42 : decode cX0_hasLikeWays 42 = .ok (.iload_n 2, 1) := by decide +kernel
theorem dX0_hasLikeWays_43 : decode cX0_hasLikeWays 43 = .ok (.iadd, 1) := by decide +kernel
theorem dX0_hasLikeWays_44 : decode cX0_hasLikeWays 44 = .ok (.iload 5, 2) := by decide +kernel
theorem dX0_hasLikeWays_46 : decode cX0_hasLikeWays 46 = .ok (.isub, 1) := by decide +kernel
theorem dX0_hasLikeWays_47 : decode cX0_hasLikeWays 47 = .ok (.istore 7, 2) := by decide +kernel
theorem dX0_hasLikeWays_49 : decode cX0_hasLikeWays 49 = .ok (.aload_n 0, 1) := by decide +kernel
theorem dX0_hasLikeWays_50 : decode cX0_hasLikeWays 50 = .ok (.aload_n 0, 1) := by decide +kernel
theorem dX0_hasLikeWays_51 : decode cX0_hasLikeWays 51 = .ok (.iload_n 1, 1) := by decide +kernel
theorem dX0_hasLikeWays_52 : decode cX0_hasLikeWays 52 = .ok (.iload 7, 2) := by decide +kernel
theorem dX0_hasLikeWays_54 : decode cX0_hasLikeWays 54 = .ok (.invokevirtual 59, 3) := by decide +kernel
theorem dX0_hasLikeWays_57 : decode cX0_hasLikeWays 57 = .ok (.aload_n 0, 1) := by decide +kernel
theorem dX0_hasLikeWays_58 : decode cX0_hasLikeWays 58 = .ok (.iload_n 1, 1) := by decide +kernel
theorem dX0_hasLikeWays_59 : decode cX0_hasLikeWays 59 = .ok (.iload 6, 2) := by decide +kernel
theorem dX0_hasLikeWays_61 : decode cX0_hasLikeWays 61 = .ok (.invokevirtual 59, 3) := by decide +kernel
theorem dX0_hasLikeWays_64 : decode cX0_hasLikeWays 64 = .ok (.isub, 1) := by decide +kernel
theorem dX0_hasLikeWays_65 : decode cX0_hasLikeWays 65 = .ok (.invokevirtual 18, 3) := by decide +kernel
theorem dX0_hasLikeWays_68 : decode cX0_hasLikeWays 68 = .ok (.istore 8, 2) := by decide +kernel
theorem dX0_hasLikeWays_70 : decode cX0_hasLikeWays 70 = .ok (.iload_n 3, 1) := by decide +kernel
theorem dX0_hasLikeWays_71 : decode cX0_hasLikeWays 71 = .ok (.iload 8, 2) := by decide +kernel
theorem dX0_hasLikeWays_73 : decode cX0_hasLikeWays 73 = .ok (.invokestatic 36, 3) := by decide +kernel
theorem dX0_hasLikeWays_76 : decode cX0_hasLikeWays 76 = .ok (.istore_n 3, 1) := by decide +kernel
theorem dX0_hasLikeWays_77 : decode cX0_hasLikeWays 77 = .ok (.iload 4, 2) := by decide +kernel
theorem dX0_hasLikeWays_79 : decode cX0_hasLikeWays 79 = .ok (.iload 8, 2) := by decide +kernel
theorem dX0_hasLikeWays_81 : decode cX0_hasLikeWays 81 = .ok (.invokestatic 62, 3) := by decide +kernel
theorem dX0_hasLikeWays_84 : decode cX0_hasLikeWays 84 = .ok (.istore 4, 2) := by decide +kernel
theorem dX0_hasLikeWays_86 : decode cX0_hasLikeWays 86 = .ok (.iinc 6 1, 3) := by decide +kernel
theorem dX0_hasLikeWays_89 : decode cX0_hasLikeWays 89 = .ok (.goto (-72), 3) := by decide +kernel
theorem dX0_hasLikeWays_92 : decode cX0_hasLikeWays 92 = .ok (.iload 4, 2) := by decide +kernel
theorem dX0_hasLikeWays_94 : decode cX0_hasLikeWays 94 = .ok (.iload_n 3, 1) := by decide +kernel
theorem dX0_hasLikeWays_95 : decode cX0_hasLikeWays 95 = .ok (.isub, 1) := by decide +kernel
theorem dX0_hasLikeWays_96 : decode cX0_hasLikeWays 96 = .ok (.iconst 1, 1) := by decide +kernel
theorem dX0_hasLikeWays_97 : decode cX0_hasLikeWays 97 = .ok (.if_icmp .gt 7, 3) := by decide +kernel
theorem dX0_hasLikeWays_100 : decode cX0_hasLikeWays 100 = .ok (.iconst 1, 1) := by decide +kernel
theorem dX0_hasLikeWays_101 : decode cX0_hasLikeWays 101 = .ok (.goto 4, 3) := by decide +kernel
theorem dX0_hasLikeWays_104 : decode cX0_hasLikeWays 104 = .ok (.iconst 0, 1) := by decide +kernel
theorem dX0_hasLikeWays_105 : decode cX0_hasLikeWays 105 = .ok (.ireturn, 1) := by decide +kernel
theorem dX1_init_0 : decode cX1_init 0 = .ok (.aload_n 0, 1) := by decide +kernel
theorem dX1_init_1 : decode cX1_init 1 = .ok (.invokespecial 3, 3) := by decide +kernel
theorem dX1_init_4 : decode cX1_init 4 = .ok (.aload_n 0, 1) := by decide +kernel
theorem dX1_init_5 : decode cX1_init 5 = .ok (.aload_n 1, 1) := by decide +kernel
theorem dX1_init_6 : decode cX1_init 6 = .ok (.putfield 9, 3) := by decide +kernel
theorem dX1_init_9 : decode cX1_init 9 = .ok (.aload_n 0, 1) := by decide +kernel
theorem dX1_init_10 : decode cX1_init 10 = .ok (.iload_n 2, 1) := by decide +kernel
theorem dX1_init_11 : decode cX1_init 11 = .ok (.putfield 15, 3) := by decide +kernel
theorem dX1_init_14 : decode cX1_init 14 = .ok (.aload_n 0, 1) := by decide +kernel
theorem dX1_init_15 : decode cX1_init 15 = .ok (.sipush 352, 3) := by decide +kernel
theorem dX1_init_18 : decode cX1_init 18 = .ok (.newarray .int, 2) := by decide +kernel
theorem dX1_init_20 : decode cX1_init 20 = .ok (.putfield 19, 3) := by decide +kernel
theorem dX1_init_23 : decode cX1_init 23 = .ok (.aload_n 0, 1) := by decide +kernel
theorem dX1_init_24 : decode cX1_init 24 = .ok (.iconst 0, 1) := by decide +kernel
theorem dX1_init_25 : decode cX1_init 25 = .ok (.putfield 23, 3) := by decide +kernel
theorem dX1_init_28 : decode cX1_init 28 = .ok (.return_, 1) := by decide +kernel
theorem dX1_forget_0 : decode cX1_forget 0 = .ok (.aload_n 0, 1) := by decide +kernel
theorem dX1_forget_1 : decode cX1_forget 1 = .ok (.iconst 0, 1) := by decide +kernel
theorem dX1_forget_2 : decode cX1_forget 2 = .ok (.putfield 23, 3) := by decide +kernel
theorem dX1_forget_5 : decode cX1_forget 5 = .ok (.return_, 1) := by decide +kernel
set_option maxRecDepth 20000 in
theorem ggX1_count_X1_list : GoodIn wsX1_count wsX1_list := goodIn_r _ [6, 7, 8, 9, 10, 11, 5, 12, 1, 13, 14, 15, 16, 17, 18, 19, 20, 21, 22, 23, 24, 25, 26, 27, 28, 29, 30, 31, 32, 33, 34, 35, 36, 37, 38, 39, 40, 41, 42, 43, 44, 45, 46, 47, 48, 49, 50, 51, 52, 53, 54, 55, 56, 57, 58, 59, 60, 61] (by decide +kernel) (by decide +kernel)
set_option maxRecDepth 20000 in
theorem gX1_count_X1_list : GoodIn wsX1_count (wsV RX1 26 RX1 yX1_list wsX1_list) := goodIn_app (goodIn_of _ (by decide +kernel)) ggX1_count_X1_list
theorem dX1_count_0 : decode cX1_count 0 = .ok (.aload_n 0, 1) := by decide +kernel
theorem dX1_count_1 : decode cX1_count 1 = .ok (.getfield 23, 3) := by decide +kernel
theorem dX1_count_4 : decode cX1_count 4 = .ok (.ifCond .ne 7, 3) := by decide +kernel
theorem dX1_count_7 : decode cX1_count 7 = .ok (.aload_n 0, 1) := by decide +kernel
theorem dX1_count_8 : decode cX1_count 8 = .ok (.invokevirtual 26, 3) := by decide +kernel
theorem dX1_count_11 : decode cX1_count 11 = .ok (.aload_n 0, 1) := by decide +kernel
theorem dX1_count_12 : decode cX1_count 12 = .ok (.getfield 23, 3) := by decide +kernel
theorem dX1_count_15 : decode cX1_count 15 = .ok (.ireturn, 1) := by decide +kernel
theorem dX1_at_0 : decode cX1_at 0 = .ok (.iload_n 1, 1) := by decide +kernel
theorem dX1_at_1 : decode cX1_at 1 = .ok (.ifCond .lt 27, 3) := by decide +kernel
theorem dX1_at_4 : decode cX1_at 4 = .ok (.iload_n 1, 1) := by decide +kernel
theorem dX1_at_5 : decode cX1_at 5 = .ok (.aload_n 0, 1) := by decide +kernel
theorem dX1_at_6 : decode cX1_at 6 = .ok (.getfield 23, 3) := by decide +kernel
theorem dX1_at_9 : decode cX1_at 9 = .ok (.if_icmp .ge 19, 3) := by decide +kernel
theorem dX1_at_12 : decode cX1_at 12 = .ok (.iload_n 1, 1) := by decide +kernel
theorem dX1_at_13 : decode cX1_at 13 = .ok (.sipush 352, 3) := by decide +kernel
theorem dX1_at_16 : decode cX1_at 16 = .ok (.if_icmp .ge 12, 3) := by decide +kernel
theorem dX1_at_19 : decode cX1_at 19 = .ok (.aload_n 0, 1) := by decide +kernel
theorem dX1_at_20 : decode cX1_at 20 = .ok (.getfield 19, 3) := by decide +kernel
theorem dX1_at_23 : decode cX1_at 23 = .ok (.iload_n 1, 1) := by decide +kernel
theorem dX1_at_24 : decode cX1_at 24 = .ok (.iaload, 1) := by decide +kernel
theorem dX1_at_25 : decode cX1_at 25 = .ok (.goto 4, 3) := by decide +kernel
theorem dX1_at_28 : decode cX1_at 28 = .ok (.iconst 0, 1) := by decide +kernel
theorem dX1_at_29 : decode cX1_at 29 = .ok (.ireturn, 1) := by decide +kernel
set_option maxRecDepth 20000 in
theorem ggX1_countOfSize_X1_count : GoodIn wsX1_countOfSize wsX1_count := goodIn_r _ [5, 6, 7, 8, 9, 4, 10, 11, 12, 13, 14, 15, 16, 17, 18, 19, 20, 21, 22, 23, 24, 25, 26, 27, 28, 29, 30, 31, 32, 33, 34, 35, 36, 37, 38, 39, 40, 41, 42, 43, 44, 45, 46, 47, 48, 49, 50, 51, 52, 53, 54, 55, 56, 57, 58, 59, 71, 72, 73, 74, 75, 76] (by decide +kernel) (by decide +kernel)
set_option maxRecDepth 20000 in
theorem gX1_countOfSize_X1_count : GoodIn wsX1_countOfSize (wsV RX1 29 RX1 yX1_count wsX1_count) := goodIn_app (goodIn_of _ (by decide +kernel)) ggX1_countOfSize_X1_count
set_option maxRecDepth 20000 in
theorem ggX1_countOfSize_X1_at : GoodIn wsX1_countOfSize wsX1_at := goodIn_r _ [63, 6, 17, 71, 72, 73, 74] (by decide +kernel) (by decide +kernel)
set_option maxRecDepth 20000 in
theorem gX1_countOfSize_X1_at : GoodIn wsX1_countOfSize (wsV RX1 33 RX1 yX1_at wsX1_at) := goodIn_app (goodIn_of _ (by decide +kernel)) ggX1_countOfSize_X1_at
set_option maxRecDepth 20000 in
theorem ggX1_countOfSize_J6_bitCount_0f7a4 : GoodIn wsX1_countOfSize wsJ6_bitCount_0f7a4 := goodIn_r _ [67, 68, 69, 70] (by decide +kernel) (by decide +kernel)
set_option maxRecDepth 20000 in
theorem gX1_countOfSize_J6_bitCount_0f7a4 : GoodIn wsX1_countOfSize (va_wsS RX1 37 yJ6_bitCount_0f7a4 wsJ6_bitCount_0f7a4) := goodIn_app (goodIn_of _ (by decide +kernel)) ggX1_countOfSize_J6_bitCount_0f7a4
theorem dX1_countOfSize_0 : decode cX1_countOfSize 0 = .ok (.iconst 0, 1) := by decide +kernel
theorem dX1_countOfSize_1 : decode cX1_countOfSize 1 = .ok (.istore_n 2, 1) := by decide +kernel
theorem dX1_countOfSize_2 : decode cX1_countOfSize 2 = .ok (.aload_n 0, 1) := by decide +kernel
theorem dX1_countOfSize_3 : decode cX1_countOfSize 3 = .ok (.invokevirtual 29, 3) := by decide +kernel
theorem dX1_countOfSize_6 : decode cX1_countOfSize 6 = .ok (.istore_n 3, 1) := by decide +kernel
theorem dX1_countOfSize_7 : decode cX1_countOfSize 7 = .ok (.iconst 0, 1) := by decide +kernel
theorem dX1_countOfSize_8 : decode cX1_countOfSize 8 = .ok (.istore 4, 2) := by decide +kernel
theorem dX1_countOfSize_10 : decode cX1_countOfSize 10 = .ok (.iload 4, 2) := by decide +kernel
theorem dX1_countOfSize_12 : decode cX1_countOfSize 12 = .ok (.iload_n 3, 1) := by decide +kernel
theorem dX1_countOfSize_13 : decode cX1_countOfSize 13 = .ok (.if_icmp .ge 25, 3) := by decide +kernel
theorem dX1_countOfSize_16 : decode cX1_countOfSize 16 = .ok (.aload_n 0, 1) := by decide +kernel
theorem dX1_countOfSize_17 : decode cX1_countOfSize 17 = .ok (.iload 4, 2) := by decide +kernel
theorem dX1_countOfSize_19 : decode cX1_countOfSize 19 = .ok (.invokevirtual 33, 3) := by decide +kernel
theorem dX1_countOfSize_22 : decode cX1_countOfSize 22 = .ok (.invokestatic 37, 3) := by decide +kernel
theorem dX1_countOfSize_25 : decode cX1_countOfSize 25 = .ok (.iload_n 1, 1) := by decide +kernel
theorem dX1_countOfSize_26 : decode cX1_countOfSize 26 = .ok (.if_icmp .ne 6, 3) := by decide +kernel
theorem dX1_countOfSize_29 : decode cX1_countOfSize 29 = .ok (.iinc 2 1, 3) := by decide +kernel
theorem dX1_countOfSize_32 : decode cX1_countOfSize 32 = .ok (.iinc 4 1, 3) := by decide +kernel
theorem dX1_countOfSize_35 : decode cX1_countOfSize 35 = .ok (.goto (-25), 3) := by decide +kernel
theorem dX1_countOfSize_38 : decode cX1_countOfSize 38 = .ok (.iload_n 2, 1) := by decide +kernel
theorem dX1_countOfSize_39 : decode cX1_countOfSize 39 = .ok (.ireturn, 1) := by decide +kernel
set_option maxRecDepth 20000 in
theorem ggX1_ofSize_X1_count : GoodIn wsX1_ofSize wsX1_count := goodIn_r _ [5, 6, 7, 8, 9, 4, 10, 11, 12, 13, 14, 15, 16, 17, 18, 19, 20, 21, 22, 23, 24, 25, 26, 27, 28, 29, 30, 31, 32, 33, 34, 35, 36, 37, 38, 39, 40, 41, 42, 43, 44, 45, 46, 47, 48, 49, 50, 51, 52, 53, 54, 55, 56, 57, 58, 59, 71, 72, 73, 74, 75, 76] (by decide +kernel) (by decide +kernel)
set_option maxRecDepth 20000 in
theorem gX1_ofSize_X1_count : GoodIn wsX1_ofSize (wsV RX1 29 RX1 yX1_count wsX1_count) := goodIn_app (goodIn_of _ (by decide +kernel)) ggX1_ofSize_X1_count
set_option maxRecDepth 20000 in
theorem ggX1_ofSize_X1_at : GoodIn wsX1_ofSize wsX1_at := goodIn_r _ [63, 6, 17, 71, 72, 73, 74] (by decide +kernel) (by decide +kernel)
set_option maxRecDepth 20000 in
theorem gX1_ofSize_X1_at : GoodIn wsX1_ofSize (wsV RX1 33 RX1 yX1_at wsX1_at) := goodIn_app (goodIn_of _ (by decide +kernel)) ggX1_ofSize_X1_at
set_option maxRecDepth 20000 in
theorem ggX1_ofSize_J6_bitCount_0f7a4 : GoodIn wsX1_ofSize wsJ6_bitCount_0f7a4 := goodIn_r _ [67, 68, 69, 70] (by decide +kernel) (by decide +kernel)
set_option maxRecDepth 20000 in
theorem gX1_ofSize_J6_bitCount_0f7a4 : GoodIn wsX1_ofSize (va_wsS RX1 37 yJ6_bitCount_0f7a4 wsJ6_bitCount_0f7a4) := goodIn_app (goodIn_of _ (by decide +kernel)) ggX1_ofSize_J6_bitCount_0f7a4
theorem dX1_ofSize_0 : decode cX1_ofSize 0 = .ok (.iconst 0, 1) := by decide +kernel
theorem dX1_ofSize_1 : decode cX1_ofSize 1 = .ok (.istore_n 3, 1) := by decide +kernel
theorem dX1_ofSize_2 : decode cX1_ofSize 2 = .ok (.aload_n 0, 1) := by decide +kernel
theorem dX1_ofSize_3 : decode cX1_ofSize 3 = .ok (.invokevirtual 29, 3) := by decide +kernel
theorem dX1_ofSize_6 : decode cX1_ofSize 6 = .ok (.istore 4, 2) := by decide +kernel
theorem dX1_ofSize_8 : decode cX1_ofSize 8 = .ok (.iconst 0, 1) := by decide +kernel
theorem dX1_ofSize_9 : decode cX1_ofSize 9 = .ok (.istore 5, 2) := by decide +kernel
theorem dX1_ofSize_11 : decode cX1_ofSize 11 = .ok (.iload 5, 2) := by decide +kernel
theorem dX1_ofSize_13 : decode cX1_ofSize 13 = .ok (.iload 4, 2) := by decide +kernel
theorem dX1_ofSize_15 : decode cX1_ofSize 15 = .ok (.if_icmp .ge 37, 3) := by decide +kernel
theorem dX1_ofSize_18 : decode cX1_ofSize 18 = .ok (.aload_n 0, 1) := by decide +kernel
theorem dX1_ofSize_19 : decode cX1_ofSize 19 = .ok (.iload 5, 2) := by decide +kernel
theorem dX1_ofSize_21 : decode cX1_ofSize 21 = .ok (.invokevirtual 33, 3) := by decide +kernel
theorem dX1_ofSize_24 : decode cX1_ofSize 24 = .ok (.invokestatic 37, 3) := by decide +kernel
theorem dX1_ofSize_27 : decode cX1_ofSize 27 = .ok (.iload_n 1, 1) := by decide +kernel
theorem dX1_ofSize_28 : decode cX1_ofSize 28 = .ok (.if_icmp .ne 18, 3) := by decide +kernel
theorem dX1_ofSize_31 : decode cX1_ofSize 31 = .ok (.iload_n 3, 1) := by decide +kernel
theorem dX1_ofSize_32 : decode cX1_ofSize 32 = .ok (.iload_n 2, 1) := by decide +kernel
theorem dX1_ofSize_33 : decode cX1_ofSize 33 = .ok (.if_icmp .ne 10, 3) := by decide +kernel
theorem dX1_ofSize_36 : decode cX1_ofSize 36 = .ok (.aload_n 0, 1) := by decide +kernel
theorem dX1_ofSize_37 : decode cX1_ofSize 37 = .ok (.iload 5, 2) := by decide +kernel
theorem dX1_ofSize_39 : decode cX1_ofSize 39 = .ok (.invokevirtual 33, 3) := by decide +kernel
theorem dX1_ofSize_42 : decode cX1_ofSize 42 = .ok (.ireturn, 1) := by decide +kernel
theorem dX1_ofSize_43 : decode cX1_ofSize 43 = .ok (.iinc 3 1, 3) := by decide +kernel
theorem dX1_ofSize_46 : decode cX1_ofSize 46 = .ok (.iinc 5 1, 3) := by decide +kernel
theorem dX1_ofSize_49 : decode cX1_ofSize 49 = .ok (.goto (-38), 3) := by decide +kernel
theorem dX1_ofSize_52 : decode cX1_ofSize 52 = .ok (.iconst (-1), 1) := by decide +kernel
theorem dX1_ofSize_53 : decode cX1_ofSize 53 = .ok (.ireturn, 1) := by decide +kernel
set_option maxRecDepth 20000 in
theorem ggX1_list_X1_keep : GoodIn wsX1_list wsX1_keep := goodIn_r _ [7, 8, 9, 52, 53, 54, 55] (by decide +kernel) (by decide +kernel)
set_option maxRecDepth 20000 in
theorem gX1_list_X1_keep : GoodIn wsX1_list (wsV RX1 42 RX1 yX1_keep wsX1_keep) := goodIn_app (goodIn_of _ (by decide +kernel)) ggX1_list_X1_keep
set_option maxRecDepth 20000 in
theorem ggX1_list_X0_all : GoodIn wsX1_list wsX0_all := goodIn_r _ [14, 15, 56, 57] (by decide +kernel) (by decide +kernel)
set_option maxRecDepth 20000 in
theorem gX1_list_X0_all : GoodIn wsX1_list (wsV RX1 46 RX0 yX0_all wsX0_all) := goodIn_app (goodIn_of _ (by decide +kernel)) ggX1_list_X0_all
set_option maxRecDepth 20000 in
theorem ggX1_list_X0_isLeastTurned : GoodIn wsX1_list wsX0_isLeastTurned := goodIn_r _ [19, 20, 21, 22, 23, 13, 24, 15, 56, 57] (by decide +kernel) (by decide +kernel)
set_option maxRecDepth 20000 in
theorem gX1_list_X0_isLeastTurned : GoodIn wsX1_list (wsV RX1 51 RX0 yX0_isLeastTurned wsX0_isLeastTurned) := goodIn_app (goodIn_of _ (by decide +kernel)) ggX1_list_X0_isLeastTurned
set_option maxRecDepth 20000 in
theorem ggX1_list_X0_leastOf : GoodIn wsX1_list wsX0_leastOf := goodIn_r _ [28, 20, 29, 30, 31, 32, 33, 34, 35, 13, 36, 37, 38, 39, 40, 41, 42, 43, 44, 45, 46, 47, 48, 49, 50, 51, 21, 22, 23, 24, 15, 56, 57] (by decide +kernel) (by decide +kernel)
set_option maxRecDepth 20000 in
theorem gX1_list_X0_leastOf : GoodIn wsX1_list (wsV RX1 55 RX0 yX0_leastOf wsX0_leastOf) := goodIn_app (goodIn_of _ (by decide +kernel)) ggX1_list_X0_leastOf
theorem dX1_list_0 : decode cX1_list 0 = .ok (.aload_n 0, 1) := by decide +kernel
theorem dX1_list_1 : decode cX1_list 1 = .ok (.iconst 0, 1) := by decide +kernel
theorem dX1_list_2 : decode cX1_list 2 = .ok (.invokevirtual 42, 3) := by decide +kernel
theorem dX1_list_5 : decode cX1_list 5 = .ok (.iconst 1, 1) := by decide +kernel
theorem dX1_list_6 : decode cX1_list 6 = .ok (.istore_n 1, 1) := by decide +kernel
theorem dX1_list_7 : decode cX1_list 7 = .ok (.iload_n 1, 1) := by decide +kernel
theorem dX1_list_8 : decode cX1_list 8 = .ok (.aload_n 0, 1) := by decide +kernel
theorem dX1_list_9 : decode cX1_list 9 = .ok (.getfield 9, 3) := by decide +kernel
theorem dX1_list_12 : decode cX1_list 12 = .ok (.invokevirtual 46, 3) := by decide +kernel
theorem dX1_list_15 : decode cX1_list 15 = .ok (.if_icmp .gt 41, 3) := by decide +kernel
theorem dX1_list_18 : decode cX1_list 18 = .ok (.aload_n 0, 1) := by decide +kernel
theorem dX1_list_19 : decode cX1_list 19 = .ok (.getfield 9, 3) := by decide +kernel
theorem dX1_list_22 : decode cX1_list 22 = .ok (.iload_n 1, 1) := by decide +kernel
theorem dX1_list_23 : decode cX1_list 23 = .ok (.invokevirtual 51, 3) := by decide +kernel
theorem dX1_list_26 : decode cX1_list 26 = .ok (.ifCond .eq 24, 3) := by decide +kernel
theorem dX1_list_29 : decode cX1_list 29 = .ok (.aload_n 0, 1) := by decide +kernel
theorem dX1_list_30 : decode cX1_list 30 = .ok (.getfield 9, 3) := by decide +kernel
theorem dX1_list_33 : decode cX1_list 33 = .ok (.iload_n 1, 1) := by decide +kernel
theorem dX1_list_34 : decode cX1_list 34 = .ok (.aload_n 0, 1) := by decide +kernel
theorem dX1_list_35 : decode cX1_list 35 = .ok (.getfield 15, 3) := by decide +kernel
theorem dX1_list_38 : decode cX1_list 38 = .ok (.invokevirtual 55, 3) := by decide +kernel
theorem dX1_list_41 : decode cX1_list 41 = .ok (.iload_n 1, 1) := by decide +kernel
theorem dX1_list_42 : decode cX1_list 42 = .ok (.if_icmp .ne 8, 3) := by decide +kernel
theorem dX1_list_45 : decode cX1_list 45 = .ok (.aload_n 0, 1) := by decide +kernel
theorem dX1_list_46 : decode cX1_list 46 = .ok (.iload_n 1, 1) := by decide +kernel
theorem dX1_list_47 : decode cX1_list 47 = .ok (.invokevirtual 42, 3) := by decide +kernel
theorem dX1_list_50 : decode cX1_list 50 = .ok (.iinc 1 2, 3) := by decide +kernel
theorem dX1_list_53 : decode cX1_list 53 = .ok (.goto (-46), 3) := by decide +kernel
theorem dX1_list_56 : decode cX1_list 56 = .ok (.return_, 1) := by decide +kernel
theorem dX1_keep_0 : decode cX1_keep 0 = .ok (.aload_n 0, 1) := by decide +kernel
theorem dX1_keep_1 : decode cX1_keep 1 = .ok (.getfield 23, 3) := by decide +kernel
theorem dX1_keep_4 : decode cX1_keep 4 = .ok (.sipush 352, 3) := by decide +kernel
theorem dX1_keep_7 : decode cX1_keep 7 = .ok (.if_icmp .ge 23, 3) := by decide +kernel
theorem dX1_keep_10 : decode cX1_keep 10 = .ok (.aload_n 0, 1) := by decide +kernel
theorem dX1_keep_11 : decode cX1_keep 11 = .ok (.getfield 19, 3) := by decide +kernel
theorem dX1_keep_14 : decode cX1_keep 14 = .ok (.aload_n 0, 1) := by decide +kernel
theorem dX1_keep_15 : decode cX1_keep 15 = .ok (.getfield 23, 3) := by decide +kernel
theorem dX1_keep_18 : decode cX1_keep 18 = .ok (.iload_n 1, 1) := by decide +kernel
theorem dX1_keep_19 : decode cX1_keep 19 = .ok (.iastore, 1) := by decide +kernel
theorem dX1_keep_20 : decode cX1_keep 20 = .ok (.aload_n 0, 1) := by decide +kernel
theorem dX1_keep_21 : decode cX1_keep 21 = .ok (.dup, 1) := by decide +kernel
theorem dX1_keep_22 : decode cX1_keep 22 = .ok (.getfield 23, 3) := by decide +kernel
theorem dX1_keep_25 : decode cX1_keep 25 = .ok (.iconst 1, 1) := by decide +kernel
theorem dX1_keep_26 : decode cX1_keep 26 = .ok (.iadd, 1) := by decide +kernel
theorem dX1_keep_27 : decode cX1_keep 27 = .ok (.putfield 23, 3) := by decide +kernel
theorem dX1_keep_30 : decode cX1_keep 30 = .ok (.return_, 1) := by decide +kernel
