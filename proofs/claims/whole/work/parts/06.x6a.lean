theorem dX6_init_0 : decode cX6_init 0 = .ok (.aload_n 0, 1) := by decide +kernel
theorem dX6_init_1 : decode cX6_init 1 = .ok (.invokespecial 1, 3) := by decide +kernel
theorem dX6_init_4 : decode cX6_init 4 = .ok (.aload_n 0, 1) := by decide +kernel
theorem dX6_init_5 : decode cX6_init 5 = .ok (.bipush 12, 2) := by decide +kernel
theorem dX6_init_7 : decode cX6_init 7 = .ok (.putfield 7, 3) := by decide +kernel
theorem dX6_init_10 : decode cX6_init 10 = .ok (.aload_n 0, 1) := by decide +kernel
theorem dX6_init_11 : decode cX6_init 11 = .ok (.sipush 12288, 3) := by decide +kernel
theorem dX6_init_14 : decode cX6_init 14 = .ok (.newarray .int, 2) := by decide +kernel
theorem dX6_init_16 : decode cX6_init 16 = .ok (.putfield 13, 3) := by decide +kernel
theorem dX6_init_19 : decode cX6_init 19 = .ok (.aload_n 0, 1) := by decide +kernel
theorem dX6_init_20 : decode cX6_init 20 = .ok (.sipush 12288, 3) := by decide +kernel
theorem dX6_init_23 : decode cX6_init 23 = .ok (.newarray .int, 2) := by decide +kernel
theorem dX6_init_25 : decode cX6_init 25 = .ok (.putfield 17, 3) := by decide +kernel
theorem dX6_init_28 : decode cX6_init 28 = .ok (.aload_n 0, 1) := by decide +kernel
theorem dX6_init_29 : decode cX6_init 29 = .ok (.bipush 12, 2) := by decide +kernel
theorem dX6_init_31 : decode cX6_init 31 = .ok (.newarray .int, 2) := by decide +kernel
theorem dX6_init_33 : decode cX6_init 33 = .ok (.putfield 20, 3) := by decide +kernel
theorem dX6_init_36 : decode cX6_init 36 = .ok (.aload_n 0, 1) := by decide +kernel
theorem dX6_init_37 : decode cX6_init 37 = .ok (.bipush 12, 2) := by decide +kernel
theorem dX6_init_39 : decode cX6_init 39 = .ok (.newarray .int, 2) := by decide +kernel
theorem dX6_init_41 : decode cX6_init 41 = .ok (.putfield 23, 3) := by decide +kernel
theorem dX6_init_44 : decode cX6_init 44 = .ok (.aload_n 0, 1) := by decide +kernel
theorem dX6_init_45 : decode cX6_init 45 = .ok (.bipush 12, 2) := by decide +kernel
theorem dX6_init_47 : decode cX6_init 47 = .ok (.newarray .int, 2) := by decide +kernel
theorem dX6_init_49 : decode cX6_init 49 = .ok (.putfield 26, 3) := by decide +kernel
theorem dX6_init_52 : decode cX6_init 52 = .ok (.aload_n 0, 1) := by decide +kernel
theorem dX6_init_53 : decode cX6_init 53 = .ok (.bipush 12, 2) := by decide +kernel
theorem dX6_init_55 : decode cX6_init 55 = .ok (.newarray .int, 2) := by decide +kernel
theorem dX6_init_57 : decode cX6_init 57 = .ok (.putfield 29, 3) := by decide +kernel
theorem dX6_init_60 : decode cX6_init 60 = .ok (.aload_n 0, 1) := by decide +kernel
theorem dX6_init_61 : decode cX6_init 61 = .ok (.bipush 12, 2) := by decide +kernel
theorem dX6_init_63 : decode cX6_init 63 = .ok (.newarray .int, 2) := by decide +kernel
theorem dX6_init_65 : decode cX6_init 65 = .ok (.putfield 32, 3) := by decide +kernel
theorem dX6_init_68 : decode cX6_init 68 = .ok (.aload_n 0, 1) := by decide +kernel
theorem dX6_init_69 : decode cX6_init 69 = .ok (.bipush 12, 2) := by decide +kernel
theorem dX6_init_71 : decode cX6_init 71 = .ok (.newarray .int, 2) := by decide +kernel
theorem dX6_init_73 : decode cX6_init 73 = .ok (.putfield 35, 3) := by decide +kernel
theorem dX6_init_76 : decode cX6_init 76 = .ok (.aload_n 0, 1) := by decide +kernel
theorem dX6_init_77 : decode cX6_init 77 = .ok (.bipush 12, 2) := by decide +kernel
theorem dX6_init_79 : decode cX6_init 79 = .ok (.newarray .int, 2) := by decide +kernel
theorem dX6_init_81 : decode cX6_init 81 = .ok (.putfield 38, 3) := by decide +kernel
theorem dX6_init_84 : decode cX6_init 84 = .ok (.aload_n 0, 1) := by decide +kernel
theorem dX6_init_85 : decode cX6_init 85 = .ok (.sipush 576, 3) := by decide +kernel
theorem dX6_init_88 : decode cX6_init 88 = .ok (.newarray .int, 2) := by decide +kernel
theorem dX6_init_90 : decode cX6_init 90 = .ok (.putfield 41, 3) := by decide +kernel
theorem dX6_init_93 : decode cX6_init 93 = .ok (.aload_n 0, 1) := by decide +kernel
theorem dX6_init_94 : decode cX6_init 94 = .ok (.bipush 13, 2) := by decide +kernel
theorem dX6_init_96 : decode cX6_init 96 = .ok (.newarray .int, 2) := by decide +kernel
theorem dX6_init_98 : decode cX6_init 98 = .ok (.putfield 44, 3) := by decide +kernel
theorem dX6_init_101 : decode cX6_init 101 = .ok (.aload_n 0, 1) := by decide +kernel
theorem dX6_init_102 : decode cX6_init 102 = .ok (.bipush 13, 2) := by decide +kernel
theorem dX6_init_104 : decode cX6_init 104 = .ok (.newarray .int, 2) := by decide +kernel
theorem dX6_init_106 : decode cX6_init 106 = .ok (.putfield 47, 3) := by decide +kernel
theorem dX6_init_109 : decode cX6_init 109 = .ok (.aload_n 0, 1) := by decide +kernel
theorem dX6_init_110 : decode cX6_init 110 = .ok (.bipush 13, 2) := by decide +kernel
theorem dX6_init_112 : decode cX6_init 112 = .ok (.newarray .int, 2) := by decide +kernel
theorem dX6_init_114 : decode cX6_init 114 = .ok (.putfield 50, 3) := by decide +kernel
theorem dX6_init_117 : decode cX6_init 117 = .ok (.aload_n 0, 1) := by decide +kernel
theorem dX6_init_118 : decode cX6_init 118 = .ok (.bipush 25, 2) := by decide +kernel
theorem dX6_init_120 : decode cX6_init 120 = .ok (.newarray .long, 2) := by decide +kernel
theorem dX6_init_122 : decode cX6_init 122 = .ok (.putfield 53, 3) := by decide +kernel
theorem dX6_init_125 : decode cX6_init 125 = .ok (.return_, 1) := by decide +kernel
theorem dX6_thrown_0 : decode cX6_thrown 0 = .ok (.aload_n 0, 1) := by decide +kernel
theorem dX6_thrown_1 : decode cX6_thrown 1 = .ok (.getfield 57, 3) := by decide +kernel
theorem dX6_thrown_4 : decode cX6_thrown 4 = .ok (.ireturn, 1) := by decide +kernel
theorem dX6_steps_0 : decode cX6_steps 0 = .ok (.aload_n 0, 1) := by decide +kernel
theorem dX6_steps_1 : decode cX6_steps 1 = .ok (.iconst 0, 1) := by decide +kernel
theorem dX6_steps_2 : decode cX6_steps 2 = .ok (.putfield 57, 3) := by decide +kernel
theorem dX6_steps_5 : decode cX6_steps 5 = .ok (.iload_n 1, 1) := by decide +kernel
theorem dX6_steps_6 : decode cX6_steps 6 = .ok (.ifCond .ne 10, 3) := by decide +kernel
theorem dX6_steps_9 : decode cX6_steps 9 = .ok (.aload_n 0, 1) := by decide +kernel
theorem dX6_steps_10 : decode cX6_steps 10 = .ok (.iconst 1, 1) := by decide +kernel
theorem dX6_steps_11 : decode cX6_steps 11 = .ok (.putfield 57, 3) := by decide +kernel
theorem dX6_steps_14 : decode cX6_steps 14 = .ok (.iconst 0, 1) := by decide +kernel
theorem dX6_steps_15 : decode cX6_steps 15 = .ok (.ireturn, 1) := by decide +kernel
theorem dX6_steps_16 : decode cX6_steps 16 = .ok (.iload_n 1, 1) := by decide +kernel
theorem dX6_steps_17 : decode cX6_steps 17 = .ok (.ifCond .lt 9, 3) := by decide +kernel
theorem dX6_steps_20 : decode cX6_steps 20 = .ok (.iload_n 1, 1) := by decide +kernel
theorem dX6_steps_21 : decode cX6_steps 21 = .ok (.bipush 12, 2) := by decide +kernel
theorem dX6_steps_23 : decode cX6_steps 23 = .ok (.if_icmp .le 6, 3) := by decide +kernel
theorem dX6_steps_26 : decode cX6_steps 26 = .ok (.bipush (-2), 2) := by decide +kernel
theorem dX6_steps_28 : decode cX6_steps 28 = .ok (.ireturn, 1) := by decide +kernel
theorem dX6_steps_29 : decode cX6_steps 29 = .ok (.aload_n 0, 1) := by decide +kernel
theorem dX6_steps_30 : decode cX6_steps 30 = .ok (.getfield 7, 3) := by decide +kernel
theorem dX6_steps_33 : decode cX6_steps 33 = .ok (.iload_n 1, 1) := by decide +kernel
theorem dX6_steps_34 : decode cX6_steps 34 = .ok (.irem, 1) := by decide +kernel
theorem dX6_steps_35 : decode cX6_steps 35 = .ok (.istore_n 2, 1) := by decide +kernel
theorem dX6_steps_36 : decode cX6_steps 36 = .ok (.aload_n 0, 1) := by decide +kernel
theorem dX6_steps_37 : decode cX6_steps 37 = .ok (.iload_n 1, 1) := by decide +kernel
theorem dX6_steps_38 : decode cX6_steps 38 = .ok (.putfield 7, 3) := by decide +kernel
theorem dX6_steps_41 : decode cX6_steps 41 = .ok (.aload_n 0, 1) := by decide +kernel
theorem dX6_steps_42 : decode cX6_steps 42 = .ok (.iconst 0, 1) := by decide +kernel
theorem dX6_steps_43 : decode cX6_steps 43 = .ok (.putfield 60, 3) := by decide +kernel
theorem dX6_steps_46 : decode cX6_steps 46 = .ok (.aload_n 0, 1) := by decide +kernel
theorem dX6_steps_47 : decode cX6_steps 47 = .ok (.iconst 0, 1) := by decide +kernel
theorem dX6_steps_48 : decode cX6_steps 48 = .ok (.putfield 63, 3) := by decide +kernel
theorem dX6_steps_51 : decode cX6_steps 51 = .ok (.iload_n 2, 1) := by decide +kernel
theorem dX6_steps_52 : decode cX6_steps 52 = .ok (.ireturn, 1) := by decide +kernel
theorem dX6_common_0 : decode cX6_common 0 = .ok (.iload_n 0, 1) := by decide +kernel
theorem dX6_common_1 : decode cX6_common 1 = .ok (.istore_n 2, 1) := by decide +kernel
theorem dX6_common_2 : decode cX6_common 2 = .ok (.iload_n 1, 1) := by decide +kernel
theorem dX6_common_3 : decode cX6_common 3 = .ok (.istore_n 3, 1) := by decide +kernel
theorem dX6_common_4 : decode cX6_common 4 = .ok (.iload_n 3, 1) := by decide +kernel
theorem dX6_common_5 : decode cX6_common 5 = .ok (.ifCond .eq 16, 3) := by decide +kernel
theorem dX6_common_8 : decode cX6_common 8 = .ok (.iload_n 2, 1) := by decide +kernel
theorem dX6_common_9 : decode cX6_common 9 = .ok (.iload_n 3, 1) := by decide +kernel
theorem dX6_common_10 : decode cX6_common 10 = .ok (.irem, 1) := by decide +kernel
theorem dX6_common_11 : decode cX6_common 11 = .ok (.istore 4, 2) := by decide +kernel
theorem dX6_common_13 : decode cX6_common 13 = .ok (.iload_n 3, 1) := by decide +kernel
theorem dX6_common_14 : decode cX6_common 14 = .ok (.istore_n 2, 1) := by decide +kernel
theorem dX6_common_15 : decode cX6_common 15 = .ok (.iload 4, 2) := by decide +kernel
theorem dX6_common_17 : decode cX6_common 17 = .ok (.istore_n 3, 1) := by decide +kernel
theorem dX6_common_18 : decode cX6_common 18 = .ok (.goto (-14), 3) := by decide +kernel
theorem dX6_common_21 : decode cX6_common 21 = .ok (.iload_n 2, 1) := by decide +kernel
theorem dX6_common_22 : decode cX6_common 22 = .ok (.ireturn, 1) := by decide +kernel
theorem dX6_isSet_0 : decode cX6_isSet 0 = .ok (.iload_n 1, 1) := by decide +kernel
theorem dX6_isSet_1 : decode cX6_isSet 1 = .ok (.ifCond .lt 17, 3) := by decide +kernel
theorem dX6_isSet_4 : decode cX6_isSet 4 = .ok (.iload_n 1, 1) := by decide +kernel
theorem dX6_isSet_5 : decode cX6_isSet 5 = .ok (.iconst 1, 1) := by decide +kernel
theorem dX6_isSet_6 : decode cX6_isSet 6 = .ok (.aload_n 0, 1) := by decide +kernel
theorem dX6_isSet_7 : decode cX6_isSet 7 = .ok (.getfield 7, 3) := by decide +kernel
theorem dX6_isSet_10 : decode cX6_isSet 10 = .ok (.ishl, 1) := by decide +kernel
theorem dX6_isSet_11 : decode cX6_isSet 11 = .ok (.if_icmp .ge 7, 3) := by decide +kernel
theorem dX6_isSet_14 : decode cX6_isSet 14 = .ok (.iconst 1, 1) := by decide +kernel
theorem dX6_isSet_15 : decode cX6_isSet 15 = .ok (.goto 4, 3) := by decide +kernel
theorem dX6_isSet_18 : decode cX6_isSet 18 = .ok (.iconst 0, 1) := by decide +kernel
theorem dX6_isSet_19 : decode cX6_isSet 19 = .ok (.ireturn, 1) := by decide +kernel
theorem dX6_isStep_0 : decode cX6_isStep 0 = .ok (.iload_n 1, 1) := by decide +kernel
theorem dX6_isStep_1 : decode cX6_isStep 1 = .ok (.ifCond .lt 15, 3) := by decide +kernel
theorem dX6_isStep_4 : decode cX6_isStep 4 = .ok (.iload_n 1, 1) := by decide +kernel
theorem dX6_isStep_5 : decode cX6_isStep 5 = .ok (.aload_n 0, 1) := by decide +kernel
theorem dX6_isStep_6 : decode cX6_isStep 6 = .ok (.getfield 7, 3) := by decide +kernel
theorem dX6_isStep_9 : decode cX6_isStep 9 = .ok (.if_icmp .ge 7, 3) := by decide +kernel
theorem dX6_isStep_12 : decode cX6_isStep 12 = .ok (.iconst 1, 1) := by decide +kernel
theorem dX6_isStep_13 : decode cX6_isStep 13 = .ok (.goto 4, 3) := by decide +kernel
theorem dX6_isStep_16 : decode cX6_isStep 16 = .ok (.iconst 0, 1) := by decide +kernel
theorem dX6_isStep_17 : decode cX6_isStep 17 = .ok (.ireturn, 1) := by decide +kernel
theorem dX6_isIn_0 : decode cX6_isIn 0 = .ok (.iload_n 0, 1) := by decide +kernel
theorem dX6_isIn_1 : decode cX6_isIn 1 = .ok (.iload_n 1, 1) := by decide +kernel
theorem dX6_isIn_2 : decode cX6_isIn 2 = .ok (.if_icmp .lt 12, 3) := by decide +kernel
theorem dX6_isIn_5 : decode cX6_isIn 5 = .ok (.iload_n 0, 1) := by decide +kernel
theorem dX6_isIn_6 : decode cX6_isIn 6 = .ok (.iload_n 2, 1) := by decide +kernel
theorem dX6_isIn_7 : decode cX6_isIn 7 = .ok (.if_icmp .gt 7, 3) := by decide +kernel
theorem dX6_isIn_10 : decode cX6_isIn 10 = .ok (.iconst 1, 1) := by decide +kernel
theorem dX6_isIn_11 : decode cX6_isIn 11 = .ok (.goto 4, 3) := by decide +kernel
theorem dX6_isIn_14 : decode cX6_isIn 14 = .ok (.iconst 0, 1) := by decide +kernel
theorem dX6_isIn_15 : decode cX6_isIn 15 = .ok (.ireturn, 1) := by decide +kernel
theorem dX6_moved_0 : decode cX6_moved 0 = .ok (.iconst 0, 1) := by decide +kernel
theorem dX6_moved_1 : decode cX6_moved 1 = .ok (.istore 4, 2) := by decide +kernel
theorem dX6_moved_3 : decode cX6_moved 3 = .ok (.iconst 0, 1) := by decide +kernel
theorem dX6_moved_4 : decode cX6_moved 4 = .ok (.istore 5, 2) := by decide +kernel
theorem dX6_moved_6 : decode cX6_moved 6 = .ok (.iload 5, 2) := by decide +kernel
theorem dX6_moved_8 : decode cX6_moved 8 = .ok (.aload_n 0, 1) := by decide +kernel
theorem dX6_moved_9 : decode cX6_moved 9 = .ok (.getfield 7, 3) := by decide +kernel
theorem dX6_moved_12 : decode cX6_moved 12 = .ok (.if_icmp .ge 37, 3) := by decide +kernel
theorem dX6_moved_15 : decode cX6_moved 15 = .ok (.iload_n 1, 1) := by decide +kernel
theorem dX6_moved_16 : decode cX6_moved 16 = .ok (.iload 5, 2) := by decide +kernel
theorem dX6_moved_18 : decode cX6_moved 18 = .ok (.ishr, 1) := by decide +kernel
theorem dX6_moved_19 : decode cX6_moved 19 = .ok (.iconst 1, 1) := by decide +kernel
theorem dX6_moved_20 : decode cX6_moved 20 = .ok (.iand, 1) := by decide +kernel
theorem dX6_moved_21 : decode cX6_moved 21 = .ok (.iconst 1, 1) := by decide +kernel
theorem dX6_moved_22 : decode cX6_moved 22 = .ok (.if_icmp .ne 21, 3) := by decide +kernel
theorem dX6_moved_25 : decode cX6_moved 25 = .ok (.iload 4, 2) := by decide +kernel
theorem dX6_moved_27 : decode cX6_moved 27 = .ok (.iconst 1, 1) := by decide +kernel
theorem dX6_moved_28 : decode cX6_moved 28 = .ok (.iload_n 2, 1) := by decide +kernel
theorem dX6_moved_29 : decode cX6_moved 29 = .ok (.iload 5, 2) := by decide +kernel
theorem dX6_moved_31 : decode cX6_moved 31 = .ok (.imul, 1) := by decide +kernel
theorem dX6_moved_32 : decode cX6_moved 32 = .ok (.iload_n 3, 1) := by decide +kernel
theorem dX6_moved_33 : decode cX6_moved 33 = .ok (.iadd, 1) := by decide +kernel
theorem dX6_moved_34 : decode cX6_moved 34 = .ok (.aload_n 0, 1) := by decide +kernel
theorem dX6_moved_35 : decode cX6_moved 35 = .ok (.getfield 7, 3) := by decide +kernel
theorem dX6_moved_38 : decode cX6_moved 38 = .ok (.irem, 1) := by decide +kernel
theorem dX6_moved_39 : decode cX6_moved 39 = .ok (.ishl, 1) := by decide +kernel
theorem dX6_moved_40 : decode cX6_moved 40 = .ok (.ior, 1) := by decide +kernel
theorem dX6_moved_41 : decode cX6_moved 41 = .ok (.istore 4, 2) := by decide +kernel
theorem dX6_moved_43 : decode cX6_moved 43 = .ok (.iinc 5 1, 3) := by decide +kernel
theorem dX6_moved_46 : decode cX6_moved 46 = .ok (.goto (-40), 3) := by decide +kernel
theorem dX6_moved_49 : decode cX6_moved 49 = .ok (.iload 4, 2) := by decide +kernel
theorem dX6_moved_51 : decode cX6_moved 51 = .ok (.ireturn, 1) := by decide +kernel
theorem dX6_count_0 : decode cX6_count 0 = .ok (.iconst 0, 1) := by decide +kernel
theorem dX6_count_1 : decode cX6_count 1 = .ok (.istore_n 1, 1) := by decide +kernel
theorem dX6_count_2 : decode cX6_count 2 = .ok (.iconst 0, 1) := by decide +kernel
theorem dX6_count_3 : decode cX6_count 3 = .ok (.istore_n 2, 1) := by decide +kernel
theorem dX6_count_4 : decode cX6_count 4 = .ok (.iload_n 2, 1) := by decide +kernel
theorem dX6_count_5 : decode cX6_count 5 = .ok (.bipush 12, 2) := by decide +kernel
theorem dX6_count_7 : decode cX6_count 7 = .ok (.if_icmp .ge 17, 3) := by decide +kernel
theorem dX6_count_10 : decode cX6_count 10 = .ok (.iload_n 1, 1) := by decide +kernel
theorem dX6_count_11 : decode cX6_count 11 = .ok (.iload_n 0, 1) := by decide +kernel
theorem dX6_count_12 : decode cX6_count 12 = .ok (.iload_n 2, 1) := by decide +kernel
theorem dX6_count_13 : decode cX6_count 13 = .ok (.ishr, 1) := by decide +kernel
theorem dX6_count_14 : decode cX6_count 14 = .ok (.iconst 1, 1) := by decide +kernel
theorem dX6_count_15 : decode cX6_count 15 = .ok (.iand, 1) := by decide +kernel
theorem dX6_count_16 : decode cX6_count 16 = .ok (.iadd, 1) := by decide +kernel
theorem dX6_count_17 : decode cX6_count 17 = .ok (.istore_n 1, 1) := by decide +kernel
theorem dX6_count_18 : decode cX6_count 18 = .ok (.iinc 2 1, 3) := by decide +kernel
theorem dX6_count_21 : decode cX6_count 21 = .ok (.goto (-17), 3) := by decide +kernel
theorem dX6_count_24 : decode cX6_count 24 = .ok (.iload_n 1, 1) := by decide +kernel
theorem dX6_count_25 : decode cX6_count 25 = .ok (.ireturn, 1) := by decide +kernel
set_option maxRecDepth 20000 in
theorem ggX6_isMultiplier_X6_common : GoodIn wsX6_isMultiplier wsX6_common := goodIn_r _ [5] (by decide +kernel) (by decide +kernel)
set_option maxRecDepth 20000 in
theorem gX6_isMultiplier_X6_common : GoodIn wsX6_isMultiplier (va_wsS RX6 67 yX6_common wsX6_common) := goodIn_app (goodIn_of _ (by decide +kernel)) ggX6_isMultiplier_X6_common
theorem dX6_isMultiplier_0 : decode cX6_isMultiplier 0 = .ok (.iload_n 1, 1) := by decide +kernel
theorem dX6_isMultiplier_1 : decode cX6_isMultiplier 1 = .ok (.ifCond .ne 21, 3) := by decide +kernel
theorem dX6_isMultiplier_4 : decode cX6_isMultiplier 4 = .ok (.iload_n 2, 1) := by decide +kernel
theorem dX6_isMultiplier_5 : decode cX6_isMultiplier 5 = .ok (.iconst 1, 1) := by decide +kernel
theorem dX6_isMultiplier_6 : decode cX6_isMultiplier 6 = .ok (.aload_n 0, 1) := by decide +kernel
theorem dX6_isMultiplier_7 : decode cX6_isMultiplier 7 = .ok (.getfield 7, 3) := by decide +kernel
theorem dX6_isMultiplier_10 : decode cX6_isMultiplier 10 = .ok (.irem, 1) := by decide +kernel
theorem dX6_isMultiplier_11 : decode cX6_isMultiplier 11 = .ok (.if_icmp .ne 7, 3) := by decide +kernel
theorem dX6_isMultiplier_14 : decode cX6_isMultiplier 14 = .ok (.iconst 1, 1) := by decide +kernel
theorem dX6_isMultiplier_15 : decode cX6_isMultiplier 15 = .ok (.goto 57, 3) := by decide +kernel
theorem dX6_isMultiplier_18 : decode cX6_isMultiplier 18 = .ok (.iconst 0, 1) := by decide +kernel
theorem dX6_isMultiplier_19 : decode cX6_isMultiplier 19 = .ok (.goto 53, 3) := by decide +kernel
theorem dX6_isMultiplier_22 : decode cX6_isMultiplier 22 = .ok (.iload_n 1, 1) := by decide +kernel
theorem dX6_isMultiplier_23 : decode cX6_isMultiplier 23 = .ok (.iconst 1, 1) := by decide +kernel
theorem dX6_isMultiplier_24 : decode cX6_isMultiplier 24 = .ok (.if_icmp .ne 31, 3) := by decide +kernel
theorem dX6_isMultiplier_27 : decode cX6_isMultiplier 27 = .ok (.iload_n 2, 1) := by decide +kernel
theorem dX6_isMultiplier_28 : decode cX6_isMultiplier 28 = .ok (.iconst 1, 1) := by decide +kernel
theorem dX6_isMultiplier_29 : decode cX6_isMultiplier 29 = .ok (.aload_n 0, 1) := by decide +kernel
theorem dX6_isMultiplier_30 : decode cX6_isMultiplier 30 = .ok (.getfield 7, 3) := by decide +kernel
theorem dX6_isMultiplier_33 : decode cX6_isMultiplier 33 = .ok (.irem, 1) := by decide +kernel
theorem dX6_isMultiplier_34 : decode cX6_isMultiplier 34 = .ok (.if_icmp .eq 13, 3) := by decide +kernel
theorem dX6_isMultiplier_37 : decode cX6_isMultiplier 37 = .ok (.iload_n 2, 1) := by decide +kernel
theorem dX6_isMultiplier_38 : decode cX6_isMultiplier 38 = .ok (.aload_n 0, 1) := by decide +kernel
theorem dX6_isMultiplier_39 : decode cX6_isMultiplier 39 = .ok (.getfield 7, 3) := by decide +kernel
theorem dX6_isMultiplier_42 : decode cX6_isMultiplier 42 = .ok (.iconst 1, 1) := by decide +kernel
theorem dX6_isMultiplier_43 : decode cX6_isMultiplier 43 = .ok (.isub, 1) := by decide +kernel
theorem dX6_isMultiplier_44 : decode cX6_isMultiplier 44 = .ok (.if_icmp .ne 7, 3) := by decide +kernel
theorem dX6_isMultiplier_47 : decode cX6_isMultiplier 47 = .ok (.iconst 1, 1) := by decide +kernel
theorem dX6_isMultiplier_48 : decode cX6_isMultiplier 48 = .ok (.goto 24, 3) := by decide +kernel
theorem dX6_isMultiplier_51 : decode cX6_isMultiplier 51 = .ok (.iconst 0, 1) := by decide +kernel
theorem dX6_isMultiplier_52 : decode cX6_isMultiplier 52 = .ok (.goto 20, 3) := by decide +kernel
theorem dX6_isMultiplier_55 : decode cX6_isMultiplier 55 = .ok (.iload_n 2, 1) := by decide +kernel
theorem dX6_isMultiplier_56 : decode cX6_isMultiplier 56 = .ok (.aload_n 0, 1) := by decide +kernel
theorem dX6_isMultiplier_57 : decode cX6_isMultiplier 57 = .ok (.getfield 7, 3) := by decide +kernel
theorem dX6_isMultiplier_60 : decode cX6_isMultiplier 60 = .ok (.invokestatic 67, 3) := by decide +kernel
theorem dX6_isMultiplier_63 : decode cX6_isMultiplier 63 = .ok (.iconst 1, 1) := by decide +kernel
theorem dX6_isMultiplier_64 : decode cX6_isMultiplier 64 = .ok (.if_icmp .ne 7, 3) := by decide +kernel
theorem dX6_isMultiplier_67 : decode cX6_isMultiplier 67 = .ok (.iconst 1, 1) := by decide +kernel
theorem dX6_isMultiplier_68 : decode cX6_isMultiplier 68 = .ok (.goto 4, 3) := by decide +kernel
theorem dX6_isMultiplier_71 : decode cX6_isMultiplier 71 = .ok (.iconst 0, 1) := by decide +kernel
theorem dX6_isMultiplier_72 : decode cX6_isMultiplier 72 = .ok (.ireturn, 1) := by decide +kernel
set_option maxRecDepth 20000 in
theorem ggX6_build_X6_flood : GoodIn wsX6_build wsX6_flood := goodIn_r _ [9, 4, 2, 3, 10, 11, 12, 8, 13, 14, 15, 16, 17, 18, 19, 20, 21, 22, 23, 24, 25, 26, 27, 28, 29, 30, 31, 32, 33, 34, 35, 36, 37, 38, 39, 40] (by decide +kernel) (by decide +kernel)
set_option maxRecDepth 20000 in
theorem gX6_build_X6_flood : GoodIn wsX6_build (wsV RX6 71 RX6 yX6_flood wsX6_flood) := goodIn_app (goodIn_of _ (by decide +kernel)) ggX6_build_X6_flood
theorem dX6_build_0 : decode cX6_build 0 = .ok (.aload_n 0, 1) := by decide +kernel
theorem dX6_build_1 : decode cX6_build 1 = .ok (.getfield 63, 3) := by decide +kernel
theorem dX6_build_4 : decode cX6_build 4 = .ok (.ifCond .eq 4, 3) := by decide +kernel
theorem dX6_build_7 : decode cX6_build 7 = .ok (.return_, 1) := by decide +kernel
theorem dX6_build_8 : decode cX6_build 8 = .ok (.aload_n 0, 1) := by decide +kernel
theorem dX6_build_9 : decode cX6_build 9 = .ok (.iconst 1, 1) := by decide +kernel
theorem dX6_build_10 : decode cX6_build 10 = .ok (.putfield 63, 3) := by decide +kernel
theorem dX6_build_13 : decode cX6_build 13 = .ok (.iconst 0, 1) := by decide +kernel
theorem dX6_build_14 : decode cX6_build 14 = .ok (.istore_n 1, 1) := by decide +kernel
theorem dX6_build_15 : decode cX6_build 15 = .ok (.iload_n 1, 1) := by decide +kernel
theorem dX6_build_16 : decode cX6_build 16 = .ok (.sipush 12288, 3) := by decide +kernel
theorem dX6_build_19 : decode cX6_build 19 = .ok (.if_icmp .ge 23, 3) := by decide +kernel
theorem dX6_build_22 : decode cX6_build 22 = .ok (.aload_n 0, 1) := by decide +kernel
theorem dX6_build_23 : decode cX6_build 23 = .ok (.getfield 13, 3) := by decide +kernel
theorem dX6_build_26 : decode cX6_build 26 = .ok (.iload_n 1, 1) := by decide +kernel
theorem dX6_build_27 : decode cX6_build 27 = .ok (.iconst (-1), 1) := by decide +kernel
theorem dX6_build_28 : decode cX6_build 28 = .ok (.iastore, 1) := by decide +kernel
theorem dX6_build_29 : decode cX6_build 29 = .ok (.aload_n 0, 1) := by decide +kernel
theorem dX6_build_30 : decode cX6_build 30 = .ok (.getfield 17, 3) := by decide +kernel
theorem dX6_build_33 : decode cX6_build 33 = .ok (.iload_n 1, 1) := by decide +kernel
theorem dX6_build_34 : decode cX6_build 34 = .ok (.iconst 0, 1) := by decide +kernel
theorem dX6_build_35 : decode cX6_build 35 = .ok (.iastore, 1) := by decide +kernel
theorem dX6_build_36 : decode cX6_build 36 = .ok (.iinc 1 1, 3) := by decide +kernel
theorem dX6_build_39 : decode cX6_build 39 = .ok (.goto (-24), 3) := by decide +kernel
theorem dX6_build_42 : decode cX6_build 42 = .ok (.iconst 0, 1) := by decide +kernel
theorem dX6_build_43 : decode cX6_build 43 = .ok (.istore_n 1, 1) := by decide +kernel
theorem dX6_build_44 : decode cX6_build 44 = .ok (.iload_n 1, 1) := by decide +kernel
theorem dX6_build_45 : decode cX6_build 45 = .ok (.iconst 3, 1) := by decide +kernel
theorem dX6_build_46 : decode cX6_build 46 = .ok (.if_icmp .ge 48, 3) := by decide +kernel
theorem dX6_build_49 : decode cX6_build 49 = .ok (.iconst 0, 1) := by decide +kernel
theorem dX6_build_50 : decode cX6_build 50 = .ok (.istore_n 2, 1) := by decide +kernel
theorem dX6_build_51 : decode cX6_build 51 = .ok (.iload_n 2, 1) := by decide +kernel
theorem dX6_build_52 : decode cX6_build 52 = .ok (.iconst 1, 1) := by decide +kernel
theorem dX6_build_53 : decode cX6_build 53 = .ok (.aload_n 0, 1) := by decide +kernel
theorem dX6_build_54 : decode cX6_build 54 = .ok (.getfield 7, 3) := by decide +kernel
theorem dX6_build_57 : decode cX6_build 57 = .ok (.ishl, 1) := by decide +kernel
theorem dX6_build_58 : decode cX6_build 58 = .ok (.if_icmp .ge 30, 3) := by decide +kernel
theorem dX6_build_61 : decode cX6_build 61 = .ok (.aload_n 0, 1) := by decide +kernel
theorem dX6_build_62 : decode cX6_build 62 = .ok (.getfield 13, 3) := by decide +kernel
theorem dX6_build_65 : decode cX6_build 65 = .ok (.sipush 4096, 3) := by decide +kernel
theorem dX6_build_68 : decode cX6_build 68 = .ok (.iload_n 1, 1) := by decide +kernel
theorem dX6_build_69 : decode cX6_build 69 = .ok (.imul, 1) := by decide +kernel
theorem dX6_build_70 : decode cX6_build 70 = .ok (.iload_n 2, 1) := by decide +kernel
theorem dX6_build_71 : decode cX6_build 71 = .ok (.iadd, 1) := by decide +kernel
theorem dX6_build_72 : decode cX6_build 72 = .ok (.iaload, 1) := by decide +kernel
theorem dX6_build_73 : decode cX6_build 73 = .ok (.ifCond .ge 9, 3) := by decide +kernel
theorem dX6_build_76 : decode cX6_build 76 = .ok (.aload_n 0, 1) := by decide +kernel
theorem dX6_build_77 : decode cX6_build 77 = .ok (.iload_n 1, 1) := by decide +kernel
theorem dX6_build_78 : decode cX6_build 78 = .ok (.iload_n 2, 1) := by decide +kernel
theorem dX6_build_79 : decode cX6_build 79 = .ok (.invokevirtual 71, 3) := by decide +kernel
theorem dX6_build_82 : decode cX6_build 82 = .ok (.iinc 2 1, 3) := by decide +kernel
theorem dX6_build_85 : decode cX6_build 85 = .ok (.goto (-34), 3) := by decide +kernel
theorem dX6_build_88 : decode cX6_build 88 = .ok (.iinc 1 1, 3) := by decide +kernel
theorem dX6_build_91 : decode cX6_build 91 = .ok (.goto (-47), 3) := by decide +kernel
theorem dX6_build_94 : decode cX6_build 94 = .ok (.return_, 1) := by decide +kernel
set_option maxRecDepth 20000 in
theorem ggX6_flood_X6_isMultiplier : GoodIn wsX6_flood wsX6_isMultiplier := goodIn_r _ [8, 1, 9, 10, 7, 11, 16, 17, 18, 19, 20, 21, 22, 23, 24, 25, 26, 27, 28, 29, 30, 31, 32, 33, 34, 35] (by decide +kernel) (by decide +kernel)
set_option maxRecDepth 20000 in
theorem gX6_flood_X6_isMultiplier : GoodIn wsX6_flood (wsV RX6 75 RX6 yX6_isMultiplier wsX6_isMultiplier) := goodIn_app (goodIn_of _ (by decide +kernel)) ggX6_flood_X6_isMultiplier
set_option maxRecDepth 20000 in
theorem ggX6_flood_X6_moved : GoodIn wsX6_flood wsX6_moved := goodIn_r _ [15, 1, 16, 17, 18, 19, 20, 21, 22, 23, 24, 25, 26, 27, 28, 29, 30, 31, 32, 33, 34, 35] (by decide +kernel) (by decide +kernel)
set_option maxRecDepth 20000 in
theorem gX6_flood_X6_moved : GoodIn wsX6_flood (wsV RX6 79 RX6 yX6_moved wsX6_moved) := goodIn_app (goodIn_of _ (by decide +kernel)) ggX6_flood_X6_moved
theorem dX6_flood_0 : decode cX6_flood 0 = .ok (.iconst 0, 1) := by decide +kernel
theorem dX6_flood_1 : decode cX6_flood 1 = .ok (.istore_n 3, 1) := by decide +kernel
theorem dX6_flood_2 : decode cX6_flood 2 = .ok (.iload_n 3, 1) := by decide +kernel
theorem dX6_flood_3 : decode cX6_flood 3 = .ok (.aload_n 0, 1) := by decide +kernel
theorem dX6_flood_4 : decode cX6_flood 4 = .ok (.getfield 7, 3) := by decide +kernel
theorem dX6_flood_7 : decode cX6_flood 7 = .ok (.if_icmp .ge 95, 3) := by decide +kernel
theorem dX6_flood_10 : decode cX6_flood 10 = .ok (.aload_n 0, 1) := by decide +kernel
theorem dX6_flood_11 : decode cX6_flood 11 = .ok (.iload_n 1, 1) := by decide +kernel
theorem dX6_flood_12 : decode cX6_flood 12 = .ok (.iload_n 3, 1) := by decide +kernel
theorem dX6_flood_13 : decode cX6_flood 13 = .ok (.invokevirtual 75, 3) := by decide +kernel
theorem dX6_flood_16 : decode cX6_flood 16 = .ok (.ifCond .ne 6, 3) := by decide +kernel
theorem dX6_flood_19 : decode cX6_flood 19 = .ok (.goto 77, 3) := by decide +kernel
theorem dX6_flood_22 : decode cX6_flood 22 = .ok (.iconst 0, 1) := by decide +kernel
theorem dX6_flood_23 : decode cX6_flood 23 = .ok (.istore 4, 2) := by decide +kernel
theorem dX6_flood_25 : decode cX6_flood 25 = .ok (.iload 4, 2) := by decide +kernel
theorem dX6_flood_27 : decode cX6_flood 27 = .ok (.aload_n 0, 1) := by decide +kernel
theorem dX6_flood_28 : decode cX6_flood 28 = .ok (.getfield 7, 3) := by decide +kernel
theorem dX6_flood_31 : decode cX6_flood 31 = .ok (.if_icmp .ge 65, 3) := by decide +kernel
theorem dX6_flood_34 : decode cX6_flood 34 = .ok (.aload_n 0, 1) := by decide +kernel
theorem dX6_flood_35 : decode cX6_flood 35 = .ok (.iload_n 2, 1) := by decide +kernel
theorem dX6_flood_36 : decode cX6_flood 36 = .ok (.iload_n 3, 1) := by decide +kernel
theorem dX6_flood_37 : decode cX6_flood 37 = .ok (.iload 4, 2) := by decide +kernel
theorem dX6_flood_39 : decode cX6_flood 39 = .ok (.invokevirtual 79, 3) := by decide +kernel
theorem dX6_flood_42 : decode cX6_flood 42 = .ok (.istore 5, 2) := by decide +kernel
theorem dX6_flood_44 : decode cX6_flood 44 = .ok (.aload_n 0, 1) := by decide +kernel
theorem dX6_flood_45 : decode cX6_flood 45 = .ok (.getfield 13, 3) := by decide +kernel
theorem dX6_flood_48 : decode cX6_flood 48 = .ok (.sipush 4096, 3) := by decide +kernel
theorem dX6_flood_51 : decode cX6_flood 51 = .ok (.iload_n 1, 1) := by decide +kernel
theorem dX6_flood_52 : decode cX6_flood 52 = .ok (.imul, 1) := by decide +kernel
theorem dX6_flood_53 : decode cX6_flood 53 = .ok (.iload 5, 2) := by decide +kernel
theorem dX6_flood_55 : decode cX6_flood 55 = .ok (.iadd, 1) := by decide +kernel
theorem dX6_flood_56 : decode cX6_flood 56 = .ok (.iaload, 1) := by decide +kernel
theorem dX6_flood_57 : decode cX6_flood 57 = .ok (.ifCond .ge 33, 3) := by decide +kernel
theorem dX6_flood_60 : decode cX6_flood 60 = .ok (.aload_n 0, 1) := by decide +kernel
theorem dX6_flood_61 : decode cX6_flood 61 = .ok (.getfield 13, 3) := by decide +kernel
theorem dX6_flood_64 : decode cX6_flood 64 = .ok (.sipush 4096, 3) := by decide +kernel
theorem dX6_flood_67 : decode cX6_flood 67 = .ok (.iload_n 1, 1) := by decide +kernel
theorem dX6_flood_68 : decode cX6_flood 68 = .ok (.imul, 1) := by decide +kernel
theorem dX6_flood_69 : decode cX6_flood 69 = .ok (.iload 5, 2) := by decide +kernel
theorem dX6_flood_71 : decode cX6_flood 71 = .ok (.iadd, 1) := by decide +kernel
theorem dX6_flood_72 : decode cX6_flood 72 = .ok (.iload_n 2, 1) := by decide +kernel
theorem dX6_flood_73 : decode cX6_flood 73 = .ok (.iastore, 1) := by decide +kernel
theorem dX6_flood_74 : decode cX6_flood 74 = .ok (.aload_n 0, 1) := by decide +kernel
theorem dX6_flood_75 : decode cX6_flood 75 = .ok (.getfield 17, 3) := by decide +kernel
theorem dX6_flood_78 : decode cX6_flood 78 = .ok (.sipush 4096, 3) := by decide +kernel
theorem dX6_flood_81 : decode cX6_flood 81 = .ok (.iload_n 1, 1) := by decide +kernel
theorem dX6_flood_82 : decode cX6_flood 82 = .ok (.imul, 1) := by decide +kernel
theorem dX6_flood_83 : decode cX6_flood 83 = .ok (.iload_n 2, 1) := by decide +kernel
theorem dX6_flood_84 : decode cX6_flood 84 = .ok (.iadd, 1) := by decide +kernel
theorem dX6_flood_85 : decode cX6_flood 85 = .ok (.dup2, 1) := by decide +kernel
theorem dX6_flood_86 : decode cX6_flood 86 = .ok (.iaload, 1) := by decide +kernel
theorem dX6_flood_87 : decode cX6_flood 87 = .ok (.iconst 1, 1) := by decide +kernel
theorem dX6_flood_88 : decode cX6_flood 88 = .ok (.iadd, 1) := by decide +kernel
theorem dX6_flood_89 : decode cX6_flood 89 = .ok (.iastore, 1) := by decide +kernel
theorem dX6_flood_90 : decode cX6_flood 90 = .ok (.iinc 4 1, 3) := by decide +kernel
theorem dX6_flood_93 : decode cX6_flood 93 = .ok (.goto (-68), 3) := by decide +kernel
theorem dX6_flood_96 : decode cX6_flood 96 = .ok (.iinc 3 1, 3) := by decide +kernel
theorem dX6_flood_99 : decode cX6_flood 99 = .ok (.goto (-97), 3) := by decide +kernel
theorem dX6_flood_102 : decode cX6_flood 102 = .ok (.return_, 1) := by decide +kernel
set_option maxRecDepth 20000 in
theorem ggX6_leastIn_X6_build : GoodIn wsX6_leastIn wsX6_build := goodIn_r _ [6, 7, 1, 8, 9, 10, 11, 12, 5, 13, 14, 15, 16, 17, 18, 19, 20, 21, 22, 23, 24, 25, 26, 27, 28, 29, 30, 31, 32, 33, 34, 35, 36, 37, 38, 39, 40, 41, 42, 43, 44] (by decide +kernel) (by decide +kernel)
set_option maxRecDepth 20000 in
theorem gX6_leastIn_X6_build : GoodIn wsX6_leastIn (wsV RX6 83 RX6 yX6_build wsX6_build) := goodIn_app (goodIn_of _ (by decide +kernel)) ggX6_leastIn_X6_build
theorem dX6_leastIn_0 : decode cX6_leastIn 0 = .ok (.aload_n 0, 1) := by decide +kernel
theorem dX6_leastIn_1 : decode cX6_leastIn 1 = .ok (.invokevirtual 83, 3) := by decide +kernel
theorem dX6_leastIn_4 : decode cX6_leastIn 4 = .ok (.aload_n 0, 1) := by decide +kernel
theorem dX6_leastIn_5 : decode cX6_leastIn 5 = .ok (.getfield 13, 3) := by decide +kernel
theorem dX6_leastIn_8 : decode cX6_leastIn 8 = .ok (.sipush 4096, 3) := by decide +kernel
theorem dX6_leastIn_11 : decode cX6_leastIn 11 = .ok (.iload_n 1, 1) := by decide +kernel
theorem dX6_leastIn_12 : decode cX6_leastIn 12 = .ok (.imul, 1) := by decide +kernel
theorem dX6_leastIn_13 : decode cX6_leastIn 13 = .ok (.iload_n 2, 1) := by decide +kernel
theorem dX6_leastIn_14 : decode cX6_leastIn 14 = .ok (.iadd, 1) := by decide +kernel
theorem dX6_leastIn_15 : decode cX6_leastIn 15 = .ok (.iaload, 1) := by decide +kernel
theorem dX6_leastIn_16 : decode cX6_leastIn 16 = .ok (.ireturn, 1) := by decide +kernel
set_option maxRecDepth 20000 in
theorem ggX6_least_X6_isSet : GoodIn wsX6_least wsX6_isSet := goodIn_r _ [6, 7, 37, 38, 39, 40, 41, 42, 43, 44, 45, 46, 47, 48, 49, 50, 51, 52, 53, 54, 55, 56] (by decide +kernel) (by decide +kernel)
set_option maxRecDepth 20000 in
theorem gX6_least_X6_isSet : GoodIn wsX6_least (wsV RX6 86 RX6 yX6_isSet wsX6_isSet) := goodIn_app (goodIn_of _ (by decide +kernel)) ggX6_least_X6_isSet
set_option maxRecDepth 20000 in
theorem ggX6_least_X6_isIn : GoodIn wsX6_least wsX6_isIn := goodIn_r _ [10] (by decide +kernel) (by decide +kernel)
set_option maxRecDepth 20000 in
theorem gX6_least_X6_isIn : GoodIn wsX6_least (va_wsS RX6 90 yX6_isIn wsX6_isIn) := goodIn_app (goodIn_of _ (by decide +kernel)) ggX6_least_X6_isIn
set_option maxRecDepth 20000 in
theorem ggX6_least_X6_leastIn : GoodIn wsX6_least wsX6_leastIn := goodIn_r _ [14, 15, 16, 17, 18, 5, 19, 20, 21, 7, 22, 23, 24, 25, 26, 27, 28, 29, 30, 31, 32, 33, 34, 35, 36, 37, 38, 39, 40, 41, 42, 43, 44, 45, 46, 47, 48, 49, 50, 51, 52, 53, 54, 55, 56] (by decide +kernel) (by decide +kernel)
set_option maxRecDepth 20000 in
theorem gX6_least_X6_leastIn : GoodIn wsX6_least (wsV RX6 94 RX6 yX6_leastIn wsX6_leastIn) := goodIn_app (goodIn_of _ (by decide +kernel)) ggX6_least_X6_leastIn
theorem dX6_least_0 : decode cX6_least 0 = .ok (.aload_n 0, 1) := by decide +kernel
theorem dX6_least_1 : decode cX6_least 1 = .ok (.iconst 0, 1) := by decide +kernel
theorem dX6_least_2 : decode cX6_least 2 = .ok (.putfield 57, 3) := by decide +kernel
theorem dX6_least_5 : decode cX6_least 5 = .ok (.aload_n 0, 1) := by decide +kernel
theorem dX6_least_6 : decode cX6_least 6 = .ok (.iload_n 1, 1) := by decide +kernel
theorem dX6_least_7 : decode cX6_least 7 = .ok (.invokevirtual 86, 3) := by decide +kernel
theorem dX6_least_10 : decode cX6_least 10 = .ok (.ifCond .eq 21, 3) := by decide +kernel
theorem dX6_least_13 : decode cX6_least 13 = .ok (.iload_n 2, 1) := by decide +kernel
theorem dX6_least_14 : decode cX6_least 14 = .ok (.iconst 0, 1) := by decide +kernel
theorem dX6_least_15 : decode cX6_least 15 = .ok (.iconst 2, 1) := by decide +kernel
theorem dX6_least_16 : decode cX6_least 16 = .ok (.invokestatic 90, 3) := by decide +kernel
theorem dX6_least_19 : decode cX6_least 19 = .ok (.ifCond .eq 12, 3) := by decide +kernel
theorem dX6_least_22 : decode cX6_least 22 = .ok (.aload_n 0, 1) := by decide +kernel
theorem dX6_least_23 : decode cX6_least 23 = .ok (.iload_n 2, 1) := by decide +kernel
theorem dX6_least_24 : decode cX6_least 24 = .ok (.iload_n 1, 1) := by decide +kernel
theorem dX6_least_25 : decode cX6_least 25 = .ok (.invokevirtual 94, 3) := by decide +kernel
theorem dX6_least_28 : decode cX6_least 28 = .ok (.goto 5, 3) := by decide +kernel
theorem dX6_least_31 : decode cX6_least 31 = .ok (.bipush (-2), 2) := by decide +kernel
theorem dX6_least_33 : decode cX6_least 33 = .ok (.ireturn, 1) := by decide +kernel
set_option maxRecDepth 20000 in
theorem ggX6_size_X6_isSet : GoodIn wsX6_size wsX6_isSet := goodIn_r _ [7, 8, 37, 38, 39, 40, 41, 42, 43, 44, 45, 46, 47, 48, 49, 50, 51, 52, 53, 54, 55, 56] (by decide +kernel) (by decide +kernel)
set_option maxRecDepth 20000 in
theorem gX6_size_X6_isSet : GoodIn wsX6_size (wsV RX6 86 RX6 yX6_isSet wsX6_isSet) := goodIn_app (goodIn_of _ (by decide +kernel)) ggX6_size_X6_isSet
set_option maxRecDepth 20000 in
theorem ggX6_size_X6_isIn : GoodIn wsX6_size wsX6_isIn := goodIn_r _ [11] (by decide +kernel) (by decide +kernel)
set_option maxRecDepth 20000 in
theorem gX6_size_X6_isIn : GoodIn wsX6_size (va_wsS RX6 90 yX6_isIn wsX6_isIn) := goodIn_app (goodIn_of _ (by decide +kernel)) ggX6_size_X6_isIn
set_option maxRecDepth 20000 in
theorem ggX6_size_X6_leastIn : GoodIn wsX6_size wsX6_leastIn := goodIn_r _ [15, 16, 17, 18, 19, 6, 20, 21, 2, 8, 22, 23, 24, 25, 26, 27, 28, 29, 30, 31, 32, 33, 34, 35, 36, 37, 38, 39, 40, 41, 42, 43, 44, 45, 46, 47, 48, 49, 50, 51, 52, 53, 54, 55, 56] (by decide +kernel) (by decide +kernel)
set_option maxRecDepth 20000 in
theorem gX6_size_X6_leastIn : GoodIn wsX6_size (wsV RX6 94 RX6 yX6_leastIn wsX6_leastIn) := goodIn_app (goodIn_of _ (by decide +kernel)) ggX6_size_X6_leastIn
theorem dX6_size_0 : decode cX6_size 0 = .ok (.aload_n 0, 1) := by decide +kernel
theorem dX6_size_1 : decode cX6_size 1 = .ok (.iconst 0, 1) := by decide +kernel
theorem dX6_size_2 : decode cX6_size 2 = .ok (.putfield 57, 3) := by decide +kernel
theorem dX6_size_5 : decode cX6_size 5 = .ok (.aload_n 0, 1) := by decide +kernel
theorem dX6_size_6 : decode cX6_size 6 = .ok (.iload_n 1, 1) := by decide +kernel
theorem dX6_size_7 : decode cX6_size 7 = .ok (.invokevirtual 86, 3) := by decide +kernel
theorem dX6_size_10 : decode cX6_size 10 = .ok (.ifCond .eq 32, 3) := by decide +kernel
theorem dX6_size_13 : decode cX6_size 13 = .ok (.iload_n 2, 1) := by decide +kernel
theorem dX6_size_14 : decode cX6_size 14 = .ok (.iconst 0, 1) := by decide +kernel
theorem dX6_size_15 : decode cX6_size 15 = .ok (.iconst 2, 1) := by decide +kernel
theorem dX6_size_16 : decode cX6_size 16 = .ok (.invokestatic 90, 3) := by decide +kernel
theorem dX6_size_19 : decode cX6_size 19 = .ok (.ifCond .eq 23, 3) := by decide +kernel
theorem dX6_size_22 : decode cX6_size 22 = .ok (.aload_n 0, 1) := by decide +kernel
theorem dX6_size_23 : decode cX6_size 23 = .ok (.getfield 17, 3) := by decide +kernel
theorem dX6_size_26 : decode cX6_size 26 = .ok (.sipush 4096, 3) := by decide +kernel
theorem dX6_size_29 : decode cX6_size 29 = .ok (.iload_n 2, 1) := by decide +kernel
theorem dX6_size_30 : decode cX6_size 30 = .ok (.imul, 1) := by decide +kernel
theorem dX6_size_31 : decode cX6_size 31 = .ok (.aload_n 0, 1) := by decide +kernel
theorem dX6_size_32 : decode cX6_size 32 = .ok (.iload_n 2, 1) := by decide +kernel
theorem dX6_size_33 : decode cX6_size 33 = .ok (.iload_n 1, 1) := by decide +kernel
theorem dX6_size_34 : decode cX6_size 34 = .ok (.invokevirtual 94, 3) := by decide +kernel
theorem dX6_size_37 : decode cX6_size 37 = .ok (.iadd, 1) := by decide +kernel
theorem dX6_size_38 : decode cX6_size 38 = .ok (.iaload, 1) := by decide +kernel
theorem dX6_size_39 : decode cX6_size 39 = .ok (.goto 5, 3) := by decide +kernel
theorem dX6_size_42 : decode cX6_size 42 = .ok (.bipush (-2), 2) := by decide +kernel
theorem dX6_size_44 : decode cX6_size 44 = .ok (.ireturn, 1) := by decide +kernel
set_option maxRecDepth 20000 in
theorem ggX6_leads_X6_count : GoodIn wsX6_leads wsX6_count := goodIn_r _ [4] (by decide +kernel) (by decide +kernel)
set_option maxRecDepth 20000 in
theorem gX6_leads_X6_count : GoodIn wsX6_leads (va_wsS RX6 97 yX6_count wsX6_count) := goodIn_app (goodIn_of _ (by decide +kernel)) ggX6_leads_X6_count
set_option maxRecDepth 20000 in
theorem ggX6_leads_X6_leastIn : GoodIn wsX6_leads wsX6_leastIn := goodIn_r _ [8, 9, 10, 11, 12, 3, 13, 14, 15, 16, 17, 18, 19, 20, 21, 22, 23, 24, 25, 26, 27, 28, 29, 30, 31, 32, 33, 34, 35, 36, 37, 38, 39, 40, 41, 42, 43, 44, 45, 46, 47, 48, 49, 50, 51] (by decide +kernel) (by decide +kernel)
set_option maxRecDepth 20000 in
theorem gX6_leads_X6_leastIn : GoodIn wsX6_leads (wsV RX6 94 RX6 yX6_leastIn wsX6_leastIn) := goodIn_app (goodIn_of _ (by decide +kernel)) ggX6_leads_X6_leastIn
theorem dX6_leads_0 : decode cX6_leads 0 = .ok (.iload_n 2, 1) := by decide +kernel
theorem dX6_leads_1 : decode cX6_leads 1 = .ok (.invokestatic 97, 3) := by decide +kernel
theorem dX6_leads_4 : decode cX6_leads 4 = .ok (.iload_n 3, 1) := by decide +kernel
theorem dX6_leads_5 : decode cX6_leads 5 = .ok (.if_icmp .ne 17, 3) := by decide +kernel
theorem dX6_leads_8 : decode cX6_leads 8 = .ok (.aload_n 0, 1) := by decide +kernel
theorem dX6_leads_9 : decode cX6_leads 9 = .ok (.iload_n 1, 1) := by decide +kernel
theorem dX6_leads_10 : decode cX6_leads 10 = .ok (.iload_n 2, 1) := by decide +kernel
theorem dX6_leads_11 : decode cX6_leads 11 = .ok (.invokevirtual 94, 3) := by decide +kernel
theorem dX6_leads_14 : decode cX6_leads 14 = .ok (.iload_n 2, 1) := by decide +kernel
theorem dX6_leads_15 : decode cX6_leads 15 = .ok (.if_icmp .ne 7, 3) := by decide +kernel
theorem dX6_leads_18 : decode cX6_leads 18 = .ok (.iconst 1, 1) := by decide +kernel
theorem dX6_leads_19 : decode cX6_leads 19 = .ok (.goto 4, 3) := by decide +kernel
theorem dX6_leads_22 : decode cX6_leads 22 = .ok (.iconst 0, 1) := by decide +kernel
theorem dX6_leads_23 : decode cX6_leads 23 = .ok (.ireturn, 1) := by decide +kernel
set_option maxRecDepth 20000 in
theorem ggX6_classes_X6_isIn : GoodIn wsX6_classes wsX6_isIn := goodIn_r _ [6] (by decide +kernel) (by decide +kernel)
set_option maxRecDepth 20000 in
theorem gX6_classes_X6_isIn : GoodIn wsX6_classes (va_wsS RX6 90 yX6_isIn wsX6_isIn) := goodIn_app (goodIn_of _ (by decide +kernel)) ggX6_classes_X6_isIn
set_option maxRecDepth 20000 in
theorem ggX6_classes_X6_leads : GoodIn wsX6_classes wsX6_leads := goodIn_r _ [10, 11, 12, 5, 13, 14, 15, 16, 17, 18, 19, 20, 21, 22, 23, 24, 2, 25, 26, 27, 28, 29, 30, 31, 32, 33, 34, 35, 36, 37, 38, 39, 40, 41, 42, 43, 44, 45, 46, 47, 48, 49, 50, 51, 52, 53, 54, 55, 56, 57, 58, 59] (by decide +kernel) (by decide +kernel)
set_option maxRecDepth 20000 in
theorem gX6_classes_X6_leads : GoodIn wsX6_classes (wsV RX6 101 RX6 yX6_leads wsX6_leads) := goodIn_app (goodIn_of _ (by decide +kernel)) ggX6_classes_X6_leads
theorem dX6_classes_0 : decode cX6_classes 0 = .ok (.aload_n 0, 1) := by decide +kernel
theorem dX6_classes_1 : decode cX6_classes 1 = .ok (.iconst 0, 1) := by decide +kernel
theorem dX6_classes_2 : decode cX6_classes 2 = .ok (.putfield 57, 3) := by decide +kernel
theorem dX6_classes_5 : decode cX6_classes 5 = .ok (.iload_n 1, 1) := by decide +kernel
theorem dX6_classes_6 : decode cX6_classes 6 = .ok (.iconst 0, 1) := by decide +kernel
theorem dX6_classes_7 : decode cX6_classes 7 = .ok (.aload_n 0, 1) := by decide +kernel
theorem dX6_classes_8 : decode cX6_classes 8 = .ok (.getfield 7, 3) := by decide +kernel
theorem dX6_classes_11 : decode cX6_classes 11 = .ok (.invokestatic 90, 3) := by decide +kernel
theorem dX6_classes_14 : decode cX6_classes 14 = .ok (.ifCond .eq 12, 3) := by decide +kernel
theorem dX6_classes_17 : decode cX6_classes 17 = .ok (.iload_n 2, 1) := by decide +kernel
theorem dX6_classes_18 : decode cX6_classes 18 = .ok (.iconst 0, 1) := by decide +kernel
theorem dX6_classes_19 : decode cX6_classes 19 = .ok (.iconst 2, 1) := by decide +kernel
theorem dX6_classes_20 : decode cX6_classes 20 = .ok (.invokestatic 90, 3) := by decide +kernel
theorem dX6_classes_23 : decode cX6_classes 23 = .ok (.ifCond .ne 6, 3) := by decide +kernel
theorem dX6_classes_26 : decode cX6_classes 26 = .ok (.bipush (-2), 2) := by decide +kernel
theorem dX6_classes_28 : decode cX6_classes 28 = .ok (.ireturn, 1) := by decide +kernel
theorem dX6_classes_29 : decode cX6_classes 29 = .ok (.iconst 0, 1) := by decide +kernel
theorem dX6_classes_30 : decode cX6_classes 30 = .ok (.istore_n 3, 1) := by decide +kernel
theorem dX6_classes_31 : decode cX6_classes 31 = .ok (.iconst 0, 1) := by decide +kernel
theorem dX6_classes_32 : decode cX6_classes 32 = .ok (.istore 4, 2) := by decide +kernel
theorem dX6_classes_34 : decode cX6_classes 34 = .ok (.iload 4, 2) := by decide +kernel
theorem dX6_classes_36 : decode cX6_classes 36 = .ok (.iconst 1, 1) := by decide +kernel
theorem dX6_classes_37 : decode cX6_classes 37 = .ok (.aload_n 0, 1) := by decide +kernel
theorem dX6_classes_38 : decode cX6_classes 38 = .ok (.getfield 7, 3) := by decide +kernel
theorem dX6_classes_41 : decode cX6_classes 41 = .ok (.ishl, 1) := by decide +kernel
theorem dX6_classes_42 : decode cX6_classes 42 = .ok (.if_icmp .ge 28, 3) := by decide +kernel
theorem dX6_classes_45 : decode cX6_classes 45 = .ok (.iload_n 3, 1) := by decide +kernel
theorem dX6_classes_46 : decode cX6_classes 46 = .ok (.aload_n 0, 1) := by decide +kernel
theorem dX6_classes_47 : decode cX6_classes 47 = .ok (.iload_n 2, 1) := by decide +kernel
theorem dX6_classes_48 : decode cX6_classes 48 = .ok (.iload 4, 2) := by decide +kernel
theorem dX6_classes_50 : decode cX6_classes 50 = .ok (.iload_n 1, 1) := by decide +kernel
theorem dX6_classes_51 : decode cX6_classes 51 = .ok (.invokevirtual 101, 3) := by decide +kernel
theorem dX6_classes_54 : decode cX6_classes 54 = .ok (.ifCond .eq 7, 3) := by decide +kernel
theorem dX6_classes_57 : decode cX6_classes 57 = .ok (.iconst 1, 1) := by decide +kernel
theorem dX6_classes_58 : decode cX6_classes 58 = .ok (.goto 4, 3) := by decide +kernel
theorem dX6_classes_61 : decode cX6_classes 61 = .ok (.iconst 0, 1) := by decide +kernel
theorem dX6_classes_62 : decode cX6_classes 62 = .ok (.iadd, 1) := by decide +kernel
theorem dX6_classes_63 : decode cX6_classes 63 = .ok (.istore_n 3, 1) := by decide +kernel
theorem dX6_classes_64 : decode cX6_classes 64 = .ok (.iinc 4 1, 3) := by decide +kernel
theorem dX6_classes_67 : decode cX6_classes 67 = .ok (.goto (-33), 3) := by decide +kernel
theorem dX6_classes_70 : decode cX6_classes 70 = .ok (.iload_n 3, 1) := by decide +kernel
theorem dX6_classes_71 : decode cX6_classes 71 = .ok (.ireturn, 1) := by decide +kernel
set_option maxRecDepth 20000 in
theorem ggX6_nth_X6_isIn : GoodIn wsX6_nth wsX6_isIn := goodIn_r _ [6] (by decide +kernel) (by decide +kernel)
set_option maxRecDepth 20000 in
theorem gX6_nth_X6_isIn : GoodIn wsX6_nth (va_wsS RX6 90 yX6_isIn wsX6_isIn) := goodIn_app (goodIn_of _ (by decide +kernel)) ggX6_nth_X6_isIn
set_option maxRecDepth 20000 in
theorem ggX6_nth_X6_leads : GoodIn wsX6_nth wsX6_leads := goodIn_r _ [10, 11, 12, 5, 13, 14, 15, 16, 17, 18, 19, 20, 21, 22, 23, 24, 2, 25, 26, 27, 28, 29, 30, 31, 32, 33, 34, 35, 36, 37, 38, 39, 40, 41, 42, 43, 44, 45, 46, 47, 48, 49, 50, 51, 52, 53, 54, 55, 56, 57, 58, 59] (by decide +kernel) (by decide +kernel)
set_option maxRecDepth 20000 in
theorem gX6_nth_X6_leads : GoodIn wsX6_nth (wsV RX6 101 RX6 yX6_leads wsX6_leads) := goodIn_app (goodIn_of _ (by decide +kernel)) ggX6_nth_X6_leads
theorem dX6_nth_0 : decode cX6_nth 0 = .ok (.aload_n 0, 1) := by decide +kernel
theorem dX6_nth_1 : decode cX6_nth 1 = .ok (.iconst 0, 1) := by decide +kernel
theorem dX6_nth_2 : decode cX6_nth 2 = .ok (.putfield 57, 3) := by decide +kernel
theorem dX6_nth_5 : decode cX6_nth 5 = .ok (.iload_n 1, 1) := by decide +kernel
theorem dX6_nth_6 : decode cX6_nth 6 = .ok (.iconst 0, 1) := by decide +kernel
theorem dX6_nth_7 : decode cX6_nth 7 = .ok (.aload_n 0, 1) := by decide +kernel
theorem dX6_nth_8 : decode cX6_nth 8 = .ok (.getfield 7, 3) := by decide +kernel
theorem dX6_nth_11 : decode cX6_nth 11 = .ok (.invokestatic 90, 3) := by decide +kernel
theorem dX6_nth_14 : decode cX6_nth 14 = .ok (.ifCond .eq 12, 3) := by decide +kernel
theorem dX6_nth_17 : decode cX6_nth 17 = .ok (.iload_n 2, 1) := by decide +kernel
theorem dX6_nth_18 : decode cX6_nth 18 = .ok (.iconst 0, 1) := by decide +kernel
theorem dX6_nth_19 : decode cX6_nth 19 = .ok (.iconst 2, 1) := by decide +kernel
theorem dX6_nth_20 : decode cX6_nth 20 = .ok (.invokestatic 90, 3) := by decide +kernel
theorem dX6_nth_23 : decode cX6_nth 23 = .ok (.ifCond .ne 6, 3) := by decide +kernel
theorem dX6_nth_26 : decode cX6_nth 26 = .ok (.bipush (-2), 2) := by decide +kernel
theorem dX6_nth_28 : decode cX6_nth 28 = .ok (.ireturn, 1) := by decide +kernel
theorem dX6_nth_29 : decode cX6_nth 29 = .ok (.iconst 0, 1) := by decide +kernel
theorem dX6_nth_30 : decode cX6_nth 30 = .ok (.istore 4, 2) := by decide +kernel
theorem dX6_nth_32 : decode cX6_nth 32 = .ok (.iconst 0, 1) := by decide +kernel
theorem dX6_nth_33 : decode cX6_nth 33 = .ok (.istore 5, 2) := by decide +kernel
theorem dX6_nth_35 : decode cX6_nth 35 = .ok (.iload 5, 2) := by decide +kernel
theorem dX6_nth_37 : decode cX6_nth 37 = .ok (.iconst 1, 1) := by decide +kernel
theorem dX6_nth_38 : decode cX6_nth 38 = .ok (.aload_n 0, 1) := by decide +kernel
theorem dX6_nth_39 : decode cX6_nth 39 = .ok (.getfield 7, 3) := by decide +kernel
theorem dX6_nth_42 : decode cX6_nth 42 = .ok (.ishl, 1) := by decide +kernel
theorem dX6_nth_43 : decode cX6_nth 43 = .ok (.if_icmp .ge 36, 3) := by decide +kernel
theorem dX6_nth_46 : decode cX6_nth 46 = .ok (.iload_n 3, 1) := by decide +kernel
theorem dX6_nth_47 : decode cX6_nth 47 = .ok (.ifCond .lt 32, 3) := by decide +kernel
theorem dX6_nth_50 : decode cX6_nth 50 = .ok (.aload_n 0, 1) := by decide +kernel
theorem dX6_nth_51 : decode cX6_nth 51 = .ok (.iload_n 2, 1) := by decide +kernel
theorem dX6_nth_52 : decode cX6_nth 52 = .ok (.iload 5, 2) := by decide +kernel
theorem dX6_nth_54 : decode cX6_nth 54 = .ok (.iload_n 1, 1) := by decide +kernel
theorem dX6_nth_55 : decode cX6_nth 55 = .ok (.invokevirtual 101, 3) := by decide +kernel
theorem dX6_nth_58 : decode cX6_nth 58 = .ok (.ifCond .eq 15, 3) := by decide +kernel
theorem dX6_nth_61 : decode cX6_nth 61 = .ok (.iload 4, 2) := by decide +kernel
theorem dX6_nth_63 : decode cX6_nth 63 = .ok (.iload_n 3, 1) := by decide +kernel
theorem dX6_nth_64 : decode cX6_nth 64 = .ok (.if_icmp .ne 6, 3) := by decide +kernel
theorem dX6_nth_67 : decode cX6_nth 67 = .ok (.iload 5, 2) := by decide +kernel
theorem dX6_nth_69 : decode cX6_nth 69 = .ok (.ireturn, 1) := by decide +kernel
theorem dX6_nth_70 : decode cX6_nth 70 = .ok (.iinc 4 1, 3) := by decide +kernel
theorem dX6_nth_73 : decode cX6_nth 73 = .ok (.iinc 5 1, 3) := by decide +kernel
theorem dX6_nth_76 : decode cX6_nth 76 = .ok (.goto (-41), 3) := by decide +kernel
theorem dX6_nth_79 : decode cX6_nth 79 = .ok (.iconst (-1), 1) := by decide +kernel
theorem dX6_nth_80 : decode cX6_nth 80 = .ok (.ireturn, 1) := by decide +kernel
theorem dX6_isLess_0 : decode cX6_isLess 0 = .ok (.aload_n 0, 1) := by decide +kernel
theorem dX6_isLess_1 : decode cX6_isLess 1 = .ok (.getfield 26, 3) := by decide +kernel
theorem dX6_isLess_4 : decode cX6_isLess 4 = .ok (.aload_n 0, 1) := by decide +kernel
theorem dX6_isLess_5 : decode cX6_isLess 5 = .ok (.getfield 104, 3) := by decide +kernel
theorem dX6_isLess_8 : decode cX6_isLess 8 = .ok (.iconst 1, 1) := by decide +kernel
theorem dX6_isLess_9 : decode cX6_isLess 9 = .ok (.isub, 1) := by decide +kernel
theorem dX6_isLess_10 : decode cX6_isLess 10 = .ok (.iaload, 1) := by decide +kernel
theorem dX6_isLess_11 : decode cX6_isLess 11 = .ok (.aload_n 0, 1) := by decide +kernel
theorem dX6_isLess_12 : decode cX6_isLess 12 = .ok (.getfield 23, 3) := by decide +kernel
theorem dX6_isLess_15 : decode cX6_isLess 15 = .ok (.aload_n 0, 1) := by decide +kernel
theorem dX6_isLess_16 : decode cX6_isLess 16 = .ok (.getfield 104, 3) := by decide +kernel
theorem dX6_isLess_19 : decode cX6_isLess 19 = .ok (.iconst 1, 1) := by decide +kernel
theorem dX6_isLess_20 : decode cX6_isLess 20 = .ok (.isub, 1) := by decide +kernel
theorem dX6_isLess_21 : decode cX6_isLess 21 = .ok (.iaload, 1) := by decide +kernel
theorem dX6_isLess_22 : decode cX6_isLess 22 = .ok (.if_icmp .eq 34, 3) := by decide +kernel
theorem dX6_isLess_25 : decode cX6_isLess 25 = .ok (.aload_n 0, 1) := by decide +kernel
theorem dX6_isLess_26 : decode cX6_isLess 26 = .ok (.getfield 26, 3) := by decide +kernel
theorem dX6_isLess_29 : decode cX6_isLess 29 = .ok (.aload_n 0, 1) := by decide +kernel
theorem dX6_isLess_30 : decode cX6_isLess 30 = .ok (.getfield 104, 3) := by decide +kernel
theorem dX6_isLess_33 : decode cX6_isLess 33 = .ok (.iconst 1, 1) := by decide +kernel
theorem dX6_isLess_34 : decode cX6_isLess 34 = .ok (.isub, 1) := by decide +kernel
theorem dX6_isLess_35 : decode cX6_isLess 35 = .ok (.iaload, 1) := by decide +kernel
theorem dX6_isLess_36 : decode cX6_isLess 36 = .ok (.aload_n 0, 1) := by decide +kernel
theorem dX6_isLess_37 : decode cX6_isLess 37 = .ok (.getfield 23, 3) := by decide +kernel
theorem dX6_isLess_40 : decode cX6_isLess 40 = .ok (.aload_n 0, 1) := by decide +kernel
theorem dX6_isLess_41 : decode cX6_isLess 41 = .ok (.getfield 104, 3) := by decide +kernel
theorem dX6_isLess_44 : decode cX6_isLess 44 = .ok (.iconst 1, 1) := by decide +kernel
theorem dX6_isLess_45 : decode cX6_isLess 45 = .ok (.isub, 1) := by decide +kernel
theorem dX6_isLess_46 : decode cX6_isLess 46 = .ok (.iaload, 1) := by decide +kernel
theorem dX6_isLess_47 : decode cX6_isLess 47 = .ok (.if_icmp .ge 7, 3) := by decide +kernel
theorem dX6_isLess_50 : decode cX6_isLess 50 = .ok (.iconst 1, 1) := by decide +kernel
theorem dX6_isLess_51 : decode cX6_isLess 51 = .ok (.goto 4, 3) := by decide +kernel
theorem dX6_isLess_54 : decode cX6_isLess 54 = .ok (.iconst 0, 1) := by decide +kernel
theorem dX6_isLess_55 : decode cX6_isLess 55 = .ok (.ireturn, 1) := by decide +kernel
theorem dX6_isLess_56 : decode cX6_isLess 56 = .ok (.iconst 1, 1) := by decide +kernel
theorem dX6_isLess_57 : decode cX6_isLess 57 = .ok (.istore_n 2, 1) := by decide +kernel
theorem dX6_isLess_58 : decode cX6_isLess 58 = .ok (.iload_n 2, 1) := by decide +kernel
theorem dX6_isLess_59 : decode cX6_isLess 59 = .ok (.aload_n 0, 1) := by decide +kernel
theorem dX6_isLess_60 : decode cX6_isLess 60 = .ok (.getfield 104, 3) := by decide +kernel
theorem dX6_isLess_63 : decode cX6_isLess 63 = .ok (.if_icmp .ge 60, 3) := by decide +kernel
theorem dX6_isLess_66 : decode cX6_isLess 66 = .ok (.iload_n 1, 1) := by decide +kernel
theorem dX6_isLess_67 : decode cX6_isLess 67 = .ok (.ifCond .ne 7, 3) := by decide +kernel
theorem dX6_isLess_70 : decode cX6_isLess 70 = .ok (.iload_n 2, 1) := by decide +kernel
theorem dX6_isLess_71 : decode cX6_isLess 71 = .ok (.goto 9, 3) := by decide +kernel
theorem dX6_isLess_74 : decode cX6_isLess 74 = .ok (.aload_n 0, 1) := by decide +kernel
theorem dX6_isLess_75 : decode cX6_isLess 75 = .ok (.getfield 104, 3) := by decide +kernel
theorem dX6_isLess_78 : decode cX6_isLess 78 = .ok (.iload_n 2, 1) := by decide +kernel
theorem dX6_isLess_79 : decode cX6_isLess 79 = .ok (.isub, 1) := by decide +kernel
theorem dX6_isLess_80 : decode cX6_isLess 80 = .ok (.istore_n 3, 1) := by decide +kernel
theorem dX6_isLess_81 : decode cX6_isLess 81 = .ok (.aload_n 0, 1) := by decide +kernel
theorem dX6_isLess_82 : decode cX6_isLess 82 = .ok (.getfield 26, 3) := by decide +kernel
theorem dX6_isLess_85 : decode cX6_isLess 85 = .ok (.iload_n 3, 1) := by decide +kernel
theorem dX6_isLess_86 : decode cX6_isLess 86 = .ok (.iaload, 1) := by decide +kernel
theorem dX6_isLess_87 : decode cX6_isLess 87 = .ok (.aload_n 0, 1) := by decide +kernel
theorem dX6_isLess_88 : decode cX6_isLess 88 = .ok (.getfield 23, 3) := by decide +kernel
theorem dX6_isLess_91 : decode cX6_isLess 91 = .ok (.iload_n 3, 1) := by decide +kernel
theorem dX6_isLess_92 : decode cX6_isLess 92 = .ok (.iaload, 1) := by decide +kernel
theorem dX6_isLess_93 : decode cX6_isLess 93 = .ok (.if_icmp .eq 24, 3) := by decide +kernel
theorem dX6_isLess_96 : decode cX6_isLess 96 = .ok (.aload_n 0, 1) := by decide +kernel
theorem dX6_isLess_97 : decode cX6_isLess 97 = .ok (.getfield 26, 3) := by decide +kernel
theorem dX6_isLess_100 : decode cX6_isLess 100 = .ok (.iload_n 3, 1) := by decide +kernel
theorem dX6_isLess_101 : decode cX6_isLess 101 = .ok (.iaload, 1) := by decide +kernel
theorem dX6_isLess_102 : decode cX6_isLess 102 = .ok (.aload_n 0, 1) := by decide +kernel
theorem dX6_isLess_103 : decode cX6_isLess 103 = .ok (.getfield 23, 3) := by decide +kernel
theorem dX6_isLess_106 : decode cX6_isLess 106 = .ok (.iload_n 3, 1) := by decide +kernel
theorem dX6_isLess_107 : decode cX6_isLess 107 = .ok (.iaload, 1) := by decide +kernel
theorem dX6_isLess_108 : decode cX6_isLess 108 = .ok (.if_icmp .ge 7, 3) := by decide +kernel
theorem dX6_isLess_111 : decode cX6_isLess 111 = .ok (.iconst 1, 1) := by decide +kernel
theorem dX6_isLess_112 : decode cX6_isLess 112 = .ok (.goto 4, 3) := by decide +kernel
theorem dX6_isLess_115 : decode cX6_isLess 115 = .ok (.iconst 0, 1) := by decide +kernel
theorem dX6_isLess_116 : decode cX6_isLess 116 = .ok (.ireturn, 1) := by decide +kernel
theorem dX6_isLess_117 : decode cX6_isLess 117 = .ok (.iinc 2 1, 3) := by decide +kernel
theorem dX6_isLess_120 : decode cX6_isLess 120 = .ok (.goto (-62), 3) := by decide +kernel
theorem dX6_isLess_123 : decode cX6_isLess 123 = .ok (.iconst 0, 1) := by decide +kernel
theorem dX6_isLess_124 : decode cX6_isLess 124 = .ok (.ireturn, 1) := by decide +kernel
set_option maxRecDepth 20000 in
theorem ggX6_findOrder_X6_isLess : GoodIn wsX6_findOrder wsX6_isLess := goodIn_r _ [11, 4, 1, 6, 12, 13, 14, 15, 16, 17, 18, 19, 20, 21, 22, 23, 24, 25, 26, 27, 28, 29, 30, 31] (by decide +kernel) (by decide +kernel)
set_option maxRecDepth 20000 in
theorem gX6_findOrder_X6_isLess : GoodIn wsX6_findOrder (wsV RX6 107 RX6 yX6_isLess wsX6_isLess) := goodIn_app (goodIn_of _ (by decide +kernel)) ggX6_findOrder_X6_isLess
theorem dX6_findOrder_0 : decode cX6_findOrder 0 = .ok (.aload_n 0, 1) := by decide +kernel
theorem dX6_findOrder_1 : decode cX6_findOrder 1 = .ok (.iconst 0, 1) := by decide +kernel
theorem dX6_findOrder_2 : decode cX6_findOrder 2 = .ok (.putfield 104, 3) := by decide +kernel
theorem dX6_findOrder_5 : decode cX6_findOrder 5 = .ok (.iconst 0, 1) := by decide +kernel
theorem dX6_findOrder_6 : decode cX6_findOrder 6 = .ok (.istore_n 3, 1) := by decide +kernel
theorem dX6_findOrder_7 : decode cX6_findOrder 7 = .ok (.iload_n 3, 1) := by decide +kernel
theorem dX6_findOrder_8 : decode cX6_findOrder 8 = .ok (.aload_n 0, 1) := by decide +kernel
theorem dX6_findOrder_9 : decode cX6_findOrder 9 = .ok (.getfield 7, 3) := by decide +kernel
theorem dX6_findOrder_12 : decode cX6_findOrder 12 = .ok (.if_icmp .ge 38, 3) := by decide +kernel
theorem dX6_findOrder_15 : decode cX6_findOrder 15 = .ok (.iload_n 1, 1) := by decide +kernel
theorem dX6_findOrder_16 : decode cX6_findOrder 16 = .ok (.iload_n 3, 1) := by decide +kernel
theorem dX6_findOrder_17 : decode cX6_findOrder 17 = .ok (.ishr, 1) := by decide +kernel
theorem dX6_findOrder_18 : decode cX6_findOrder 18 = .ok (.iconst 1, 1) := by decide +kernel
theorem dX6_findOrder_19 : decode cX6_findOrder 19 = .ok (.iand, 1) := by decide +kernel
theorem dX6_findOrder_20 : decode cX6_findOrder 20 = .ok (.iconst 1, 1) := by decide +kernel
theorem dX6_findOrder_21 : decode cX6_findOrder 21 = .ok (.if_icmp .ne 23, 3) := by decide +kernel
theorem dX6_findOrder_24 : decode cX6_findOrder 24 = .ok (.aload_n 0, 1) := by decide +kernel
theorem dX6_findOrder_25 : decode cX6_findOrder 25 = .ok (.getfield 20, 3) := by decide +kernel
theorem dX6_findOrder_28 : decode cX6_findOrder 28 = .ok (.aload_n 0, 1) := by decide +kernel
theorem dX6_findOrder_29 : decode cX6_findOrder 29 = .ok (.getfield 104, 3) := by decide +kernel
theorem dX6_findOrder_32 : decode cX6_findOrder 32 = .ok (.iload_n 3, 1) := by decide +kernel
theorem dX6_findOrder_33 : decode cX6_findOrder 33 = .ok (.iastore, 1) := by decide +kernel
theorem dX6_findOrder_34 : decode cX6_findOrder 34 = .ok (.aload_n 0, 1) := by decide +kernel
theorem dX6_findOrder_35 : decode cX6_findOrder 35 = .ok (.dup, 1) := by decide +kernel
theorem dX6_findOrder_36 : decode cX6_findOrder 36 = .ok (.getfield 104, 3) := by decide +kernel
theorem dX6_findOrder_39 : decode cX6_findOrder 39 = .ok (.iconst 1, 1) := by decide +kernel
theorem dX6_findOrder_40 : decode cX6_findOrder 40 = .ok (.iadd, 1) := by decide +kernel
theorem dX6_findOrder_41 : decode cX6_findOrder 41 = .ok (.putfield 104, 3) := by decide +kernel
theorem dX6_findOrder_44 : decode cX6_findOrder 44 = .ok (.iinc 3 1, 3) := by decide +kernel
theorem dX6_findOrder_47 : decode cX6_findOrder 47 = .ok (.goto (-40), 3) := by decide +kernel
theorem dX6_findOrder_50 : decode cX6_findOrder 50 = .ok (.iconst 0, 1) := by decide +kernel
theorem dX6_findOrder_51 : decode cX6_findOrder 51 = .ok (.istore_n 3, 1) := by decide +kernel
theorem dX6_findOrder_52 : decode cX6_findOrder 52 = .ok (.iload_n 3, 1) := by decide +kernel
theorem dX6_findOrder_53 : decode cX6_findOrder 53 = .ok (.aload_n 0, 1) := by decide +kernel
