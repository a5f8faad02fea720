theorem dX6_shares_22 : decode cX6_shares 22 = .ok (.iand, 1) := by decide +kernel
theorem dX6_shares_23 : decode cX6_shares 23 = .ok (.invokestatic 97, 3) := by decide +kernel
theorem dX6_shares_26 : decode cX6_shares 26 = .ok (.ireturn, 1) := by decide +kernel
set_option maxRecDepth 20000 in
theorem ggX6_common__X6_isSet : GoodIn wsX6_common_ wsX6_isSet := goodIn_r _ [6, 7, 23, 24, 25, 26, 27, 28, 29, 30, 31, 32, 33, 34, 35, 36, 37, 38, 39, 40, 41, 42] (by decide +kernel) (by decide +kernel)
set_option maxRecDepth 20000 in
theorem gX6_common__X6_isSet : GoodIn wsX6_common_ (wsV RX6 86 RX6 yX6_isSet wsX6_isSet) := goodIn_app (goodIn_of _ (by decide +kernel)) ggX6_common__X6_isSet
set_option maxRecDepth 20000 in
theorem ggX6_common__X6_isStep : GoodIn wsX6_common_ wsX6_isStep := goodIn_r _ [11, 7, 23, 24, 25, 26, 27, 28, 29, 30, 31, 32, 33, 34, 35, 36, 37, 38, 39, 40, 41, 42] (by decide +kernel) (by decide +kernel)
set_option maxRecDepth 20000 in
theorem gX6_common__X6_isStep : GoodIn wsX6_common_ (wsV RX6 125 RX6 yX6_isStep wsX6_isStep) := goodIn_app (goodIn_of _ (by decide +kernel)) ggX6_common__X6_isStep
set_option maxRecDepth 20000 in
theorem ggX6_common__X6_shares : GoodIn wsX6_common_ wsX6_shares := goodIn_r _ [15, 7, 16, 17, 18, 5, 19, 20, 21, 22, 23, 24, 25, 26, 27, 28, 29, 30, 31, 32, 33, 34, 35, 36, 37, 38, 39, 40, 41, 42] (by decide +kernel) (by decide +kernel)
set_option maxRecDepth 20000 in
theorem gX6_common__X6_shares : GoodIn wsX6_common_ (wsV RX6 128 RX6 yX6_shares wsX6_shares) := goodIn_app (goodIn_of _ (by decide +kernel)) ggX6_common__X6_shares
theorem dX6_common__0 : decode cX6_common_ 0 = .ok (.aload_n 0, 1) := by decide +kernel
theorem dX6_common__1 : decode cX6_common_ 1 = .ok (.iconst 0, 1) := by decide +kernel
theorem dX6_common__2 : decode cX6_common_ 2 = .ok (.putfield 57, 3) := by decide +kernel
theorem dX6_common__5 : decode cX6_common_ 5 = .ok (.aload_n 0, 1) := by decide +kernel
theorem dX6_common__6 : decode cX6_common_ 6 = .ok (.iload_n 1, 1) := by decide +kernel
theorem dX6_common__7 : decode cX6_common_ 7 = .ok (.invokevirtual 86, 3) := by decide +kernel
theorem dX6_common__10 : decode cX6_common_ 10 = .ok (.ifCond .eq 31, 3) := by decide +kernel
theorem dX6_common__13 : decode cX6_common_ 13 = .ok (.aload_n 0, 1) := by decide +kernel
theorem dX6_common__14 : decode cX6_common_ 14 = .ok (.iload_n 2, 1) := by decide +kernel
theorem dX6_common__15 : decode cX6_common_ 15 = .ok (.invokevirtual 86, 3) := by decide +kernel
theorem dX6_common__18 : decode cX6_common_ 18 = .ok (.ifCond .eq 23, 3) := by decide +kernel
theorem dX6_common__21 : decode cX6_common_ 21 = .ok (.aload_n 0, 1) := by decide +kernel
theorem dX6_common__22 : decode cX6_common_ 22 = .ok (.iload_n 3, 1) := by decide +kernel
theorem dX6_common__23 : decode cX6_common_ 23 = .ok (.invokevirtual 125, 3) := by decide +kernel
theorem dX6_common__26 : decode cX6_common_ 26 = .ok (.ifCond .eq 15, 3) := by decide +kernel
theorem dX6_common__29 : decode cX6_common_ 29 = .ok (.aload_n 0, 1) := by decide +kernel
theorem dX6_common__30 : decode cX6_common_ 30 = .ok (.iload_n 1, 1) := by decide +kernel
theorem dX6_common__31 : decode cX6_common_ 31 = .ok (.iload_n 2, 1) := by decide +kernel
theorem dX6_common__32 : decode cX6_common_ 32 = .ok (.iload_n 3, 1) := by decide +kernel
theorem dX6_common__33 : decode cX6_common_ 33 = .ok (.iload 4, 2) := by decide +kernel
theorem dX6_common__35 : decode cX6_common_ 35 = .ok (.invokevirtual 128, 3) := by decide +kernel
theorem dX6_common__38 : decode cX6_common_ 38 = .ok (.goto 5, 3) := by decide +kernel
theorem dX6_common__41 : decode cX6_common_ 41 = .ok (.bipush (-2), 2) := by decide +kernel
theorem dX6_common__43 : decode cX6_common_ 43 = .ok (.ireturn, 1) := by decide +kernel
set_option maxRecDepth 20000 in
theorem ggX6_best_X6_isSet : GoodIn wsX6_best wsX6_isSet := goodIn_r _ [7, 2, 19, 20, 21, 22, 23, 24, 25, 26, 27, 28, 29, 30, 31, 32, 33, 34, 35, 36, 37, 38] (by decide +kernel) (by decide +kernel)
set_option maxRecDepth 20000 in
theorem gX6_best_X6_isSet : GoodIn wsX6_best (wsV RX6 86 RX6 yX6_isSet wsX6_isSet) := goodIn_app (goodIn_of _ (by decide +kernel)) ggX6_best_X6_isSet
set_option maxRecDepth 20000 in
theorem ggX6_best_X6_shares : GoodIn wsX6_best wsX6_shares := goodIn_r _ [11, 2, 12, 13, 14, 6, 15, 16, 17, 18, 19, 20, 21, 22, 23, 24, 25, 26, 27, 28, 29, 30, 31, 32, 33, 34, 35, 36, 37, 38] (by decide +kernel) (by decide +kernel)
set_option maxRecDepth 20000 in
theorem gX6_best_X6_shares : GoodIn wsX6_best (wsV RX6 128 RX6 yX6_shares wsX6_shares) := goodIn_app (goodIn_of _ (by decide +kernel)) ggX6_best_X6_shares
theorem dX6_best_0 : decode cX6_best 0 = .ok (.aload_n 0, 1) := by decide +kernel
theorem dX6_best_1 : decode cX6_best 1 = .ok (.iconst 0, 1) := by decide +kernel
theorem dX6_best_2 : decode cX6_best 2 = .ok (.putfield 57, 3) := by decide +kernel
theorem dX6_best_5 : decode cX6_best 5 = .ok (.aload_n 0, 1) := by decide +kernel
theorem dX6_best_6 : decode cX6_best 6 = .ok (.iload_n 1, 1) := by decide +kernel
theorem dX6_best_7 : decode cX6_best 7 = .ok (.invokevirtual 86, 3) := by decide +kernel
theorem dX6_best_10 : decode cX6_best 10 = .ok (.ifCond .eq 11, 3) := by decide +kernel
theorem dX6_best_13 : decode cX6_best 13 = .ok (.aload_n 0, 1) := by decide +kernel
theorem dX6_best_14 : decode cX6_best 14 = .ok (.iload_n 2, 1) := by decide +kernel
theorem dX6_best_15 : decode cX6_best 15 = .ok (.invokevirtual 86, 3) := by decide +kernel
theorem dX6_best_18 : decode cX6_best 18 = .ok (.ifCond .ne 6, 3) := by decide +kernel
theorem dX6_best_21 : decode cX6_best 21 = .ok (.bipush (-2), 2) := by decide +kernel
theorem dX6_best_23 : decode cX6_best 23 = .ok (.ireturn, 1) := by decide +kernel
theorem dX6_best_24 : decode cX6_best 24 = .ok (.iconst 0, 1) := by decide +kernel
theorem dX6_best_25 : decode cX6_best 25 = .ok (.istore 4, 2) := by decide +kernel
theorem dX6_best_27 : decode cX6_best 27 = .ok (.iconst 1, 1) := by decide +kernel
theorem dX6_best_28 : decode cX6_best 28 = .ok (.istore 5, 2) := by decide +kernel
theorem dX6_best_30 : decode cX6_best 30 = .ok (.iload 5, 2) := by decide +kernel
theorem dX6_best_32 : decode cX6_best 32 = .ok (.aload_n 0, 1) := by decide +kernel
theorem dX6_best_33 : decode cX6_best 33 = .ok (.getfield 7, 3) := by decide +kernel
theorem dX6_best_36 : decode cX6_best 36 = .ok (.if_icmp .ge 39, 3) := by decide +kernel
theorem dX6_best_39 : decode cX6_best 39 = .ok (.aload_n 0, 1) := by decide +kernel
theorem dX6_best_40 : decode cX6_best 40 = .ok (.iload_n 1, 1) := by decide +kernel
theorem dX6_best_41 : decode cX6_best 41 = .ok (.iload_n 2, 1) := by decide +kernel
theorem dX6_best_42 : decode cX6_best 42 = .ok (.iload 5, 2) := by decide +kernel
theorem dX6_best_44 : decode cX6_best 44 = .ok (.iload_n 3, 1) := by decide +kernel
theorem dX6_best_45 : decode cX6_best 45 = .ok (.invokevirtual 128, 3) := by decide +kernel
theorem dX6_best_48 : decode cX6_best 48 = .ok (.aload_n 0, 1) := by decide +kernel
theorem dX6_best_49 : decode cX6_best 49 = .ok (.iload_n 1, 1) := by decide +kernel
theorem dX6_best_50 : decode cX6_best 50 = .ok (.iload_n 2, 1) := by decide +kernel
theorem dX6_best_51 : decode cX6_best 51 = .ok (.iload 4, 2) := by decide +kernel
theorem dX6_best_53 : decode cX6_best 53 = .ok (.iload_n 3, 1) := by decide +kernel
theorem dX6_best_54 : decode cX6_best 54 = .ok (.invokevirtual 128, 3) := by decide +kernel
theorem dX6_best_57 : decode cX6_best 57 = .ok (.if_icmp .le 8, 3) := by decide +kernel
theorem dX6_best_60 : decode cX6_best 60 = .ok (.iload 5, 2) := by decide +kernel
theorem dX6_best_62 : decode cX6_best 62 = .ok (.goto 5, 3) := by decide +kernel
theorem dX6_best_65 : decode cX6_best 65 = .ok (.iload 4, 2) := by decide +kernel
theorem dX6_best_67 : decode cX6_best 67 = .ok (.istore 4, 2) := by decide +kernel
theorem dX6_best_69 : decode cX6_best 69 = .ok (.iinc 5 1, 3) := by decide +kernel
theorem dX6_best_72 : decode cX6_best 72 = .ok (.goto (-42), 3) := by decide +kernel
theorem dX6_best_75 : decode cX6_best 75 = .ok (.iload 4, 2) := by decide +kernel
theorem dX6_best_77 : decode cX6_best 77 = .ok (.ireturn, 1) := by decide +kernel
set_option maxRecDepth 20000 in
theorem ggX6_keeps_X6_isSet : GoodIn wsX6_keeps wsX6_isSet := goodIn_r _ [7, 2, 12, 13, 14, 15, 16, 17, 18, 19, 20, 21, 22, 23, 24, 25, 26, 27, 28, 29, 30, 31] (by decide +kernel) (by decide +kernel)
set_option maxRecDepth 20000 in
theorem gX6_keeps_X6_isSet : GoodIn wsX6_keeps (wsV RX6 86 RX6 yX6_isSet wsX6_isSet) := goodIn_app (goodIn_of _ (by decide +kernel)) ggX6_keeps_X6_isSet
set_option maxRecDepth 20000 in
theorem ggX6_keeps_X6_moved : GoodIn wsX6_keeps wsX6_moved := goodIn_r _ [11, 2, 12, 13, 14, 15, 16, 17, 18, 19, 20, 21, 22, 23, 24, 25, 26, 27, 28, 29, 30, 31] (by decide +kernel) (by decide +kernel)
set_option maxRecDepth 20000 in
theorem gX6_keeps_X6_moved : GoodIn wsX6_keeps (wsV RX6 79 RX6 yX6_moved wsX6_moved) := goodIn_app (goodIn_of _ (by decide +kernel)) ggX6_keeps_X6_moved
theorem dX6_keeps_0 : decode cX6_keeps 0 = .ok (.aload_n 0, 1) := by decide +kernel
theorem dX6_keeps_1 : decode cX6_keeps 1 = .ok (.iconst 0, 1) := by decide +kernel
theorem dX6_keeps_2 : decode cX6_keeps 2 = .ok (.putfield 57, 3) := by decide +kernel
theorem dX6_keeps_5 : decode cX6_keeps 5 = .ok (.aload_n 0, 1) := by decide +kernel
theorem dX6_keeps_6 : decode cX6_keeps 6 = .ok (.iload_n 1, 1) := by decide +kernel
theorem dX6_keeps_7 : decode cX6_keeps 7 = .ok (.invokevirtual 86, 3) := by decide +kernel
theorem dX6_keeps_10 : decode cX6_keeps 10 = .ok (.ifCond .ne 6, 3) := by decide +kernel
theorem dX6_keeps_13 : decode cX6_keeps 13 = .ok (.bipush (-2), 2) := by decide +kernel
theorem dX6_keeps_15 : decode cX6_keeps 15 = .ok (.ireturn, 1) := by decide +kernel
theorem dX6_keeps_16 : decode cX6_keeps 16 = .ok (.iconst 0, 1) := by decide +kernel
theorem dX6_keeps_17 : decode cX6_keeps 17 = .ok (.istore_n 3, 1) := by decide +kernel
theorem dX6_keeps_18 : decode cX6_keeps 18 = .ok (.iconst 0, 1) := by decide +kernel
theorem dX6_keeps_19 : decode cX6_keeps 19 = .ok (.istore 4, 2) := by decide +kernel
theorem dX6_keeps_21 : decode cX6_keeps 21 = .ok (.iload 4, 2) := by decide +kernel
theorem dX6_keeps_23 : decode cX6_keeps 23 = .ok (.aload_n 0, 1) := by decide +kernel
theorem dX6_keeps_24 : decode cX6_keeps 24 = .ok (.getfield 7, 3) := by decide +kernel
theorem dX6_keeps_27 : decode cX6_keeps 27 = .ok (.if_icmp .ge 42, 3) := by decide +kernel
theorem dX6_keeps_30 : decode cX6_keeps 30 = .ok (.iload_n 3, 1) := by decide +kernel
theorem dX6_keeps_31 : decode cX6_keeps 31 = .ok (.aload_n 0, 1) := by decide +kernel
theorem dX6_keeps_32 : decode cX6_keeps 32 = .ok (.iload_n 1, 1) := by decide +kernel
theorem dX6_keeps_33 : decode cX6_keeps 33 = .ok (.iload_n 2, 1) := by decide +kernel
theorem dX6_keeps_34 : decode cX6_keeps 34 = .ok (.ifCond .eq 12, 3) := by decide +kernel
theorem dX6_keeps_37 : decode cX6_keeps 37 = .ok (.aload_n 0, 1) := by decide +kernel
theorem dX6_keeps_38 : decode cX6_keeps 38 = .ok (.getfield 7, 3) := by decide +kernel
theorem dX6_keeps_41 : decode cX6_keeps 41 = .ok (.iconst 1, 1) := by decide +kernel
theorem dX6_keeps_42 : decode cX6_keeps 42 = .ok (.isub, 1) := by decide +kernel
theorem dX6_keeps_43 : decode cX6_keeps 43 = .ok (.goto 4, 3) := by decide +kernel
theorem dX6_keeps_46 : decode cX6_keeps 46 = .ok (.iconst 1, 1) := by decide +kernel
theorem dX6_keeps_47 : decode cX6_keeps 47 = .ok (.iload 4, 2) := by decide +kernel
theorem dX6_keeps_49 : decode cX6_keeps 49 = .ok (.invokevirtual 79, 3) := by decide +kernel
theorem dX6_keeps_52 : decode cX6_keeps 52 = .ok (.iload_n 1, 1) := by decide +kernel
theorem dX6_keeps_53 : decode cX6_keeps 53 = .ok (.if_icmp .ne 7, 3) := by decide +kernel
theorem dX6_keeps_56 : decode cX6_keeps 56 = .ok (.iconst 1, 1) := by decide +kernel
theorem dX6_keeps_57 : decode cX6_keeps 57 = .ok (.goto 4, 3) := by decide +kernel
theorem dX6_keeps_60 : decode cX6_keeps 60 = .ok (.iconst 0, 1) := by decide +kernel
theorem dX6_keeps_61 : decode cX6_keeps 61 = .ok (.iadd, 1) := by decide +kernel
theorem dX6_keeps_62 : decode cX6_keeps 62 = .ok (.istore_n 3, 1) := by decide +kernel
theorem dX6_keeps_63 : decode cX6_keeps 63 = .ok (.iinc 4 1, 3) := by decide +kernel
theorem dX6_keeps_66 : decode cX6_keeps 66 = .ok (.goto (-45), 3) := by decide +kernel
theorem dX6_keeps_69 : decode cX6_keeps 69 = .ok (.iload_n 3, 1) := by decide +kernel
theorem dX6_keeps_70 : decode cX6_keeps 70 = .ok (.ireturn, 1) := by decide +kernel
set_option maxRecDepth 20000 in
theorem ggX6_even_X6_isSet : GoodIn wsX6_even wsX6_isSet := goodIn_r _ [9, 3, 10, 11, 12, 13, 14, 15, 16, 17, 18, 19, 20, 21, 22, 23, 24, 25, 26, 27, 28, 29] (by decide +kernel) (by decide +kernel)
set_option maxRecDepth 20000 in
theorem gX6_even_X6_isSet : GoodIn wsX6_even (wsV RX6 86 RX6 yX6_isSet wsX6_isSet) := goodIn_app (goodIn_of _ (by decide +kernel)) ggX6_even_X6_isSet
theorem dX6_even_0 : decode cX6_even 0 = .ok (.aload_n 0, 1) := by decide +kernel
theorem dX6_even_1 : decode cX6_even 1 = .ok (.iconst 0, 1) := by decide +kernel
theorem dX6_even_2 : decode cX6_even 2 = .ok (.putfield 57, 3) := by decide +kernel
theorem dX6_even_5 : decode cX6_even 5 = .ok (.aload_n 0, 1) := by decide +kernel
theorem dX6_even_6 : decode cX6_even 6 = .ok (.iload_n 1, 1) := by decide +kernel
theorem dX6_even_7 : decode cX6_even 7 = .ok (.invokevirtual 86, 3) := by decide +kernel
theorem dX6_even_10 : decode cX6_even 10 = .ok (.ifCond .ne 6, 3) := by decide +kernel
theorem dX6_even_13 : decode cX6_even 13 = .ok (.bipush (-2), 2) := by decide +kernel
theorem dX6_even_15 : decode cX6_even 15 = .ok (.ireturn, 1) := by decide +kernel
theorem dX6_even_16 : decode cX6_even 16 = .ok (.aload_n 0, 1) := by decide +kernel
theorem dX6_even_17 : decode cX6_even 17 = .ok (.iconst 0, 1) := by decide +kernel
theorem dX6_even_18 : decode cX6_even 18 = .ok (.putfield 104, 3) := by decide +kernel
theorem dX6_even_21 : decode cX6_even 21 = .ok (.iconst 0, 1) := by decide +kernel
theorem dX6_even_22 : decode cX6_even 22 = .ok (.istore_n 2, 1) := by decide +kernel
theorem dX6_even_23 : decode cX6_even 23 = .ok (.iload_n 2, 1) := by decide +kernel
theorem dX6_even_24 : decode cX6_even 24 = .ok (.aload_n 0, 1) := by decide +kernel
theorem dX6_even_25 : decode cX6_even 25 = .ok (.getfield 7, 3) := by decide +kernel
theorem dX6_even_28 : decode cX6_even 28 = .ok (.if_icmp .ge 38, 3) := by decide +kernel
theorem dX6_even_31 : decode cX6_even 31 = .ok (.iload_n 1, 1) := by decide +kernel
theorem dX6_even_32 : decode cX6_even 32 = .ok (.iload_n 2, 1) := by decide +kernel
theorem dX6_even_33 : decode cX6_even 33 = .ok (.ishr, 1) := by decide +kernel
theorem dX6_even_34 : decode cX6_even 34 = .ok (.iconst 1, 1) := by decide +kernel
theorem dX6_even_35 : decode cX6_even 35 = .ok (.iand, 1) := by decide +kernel
theorem dX6_even_36 : decode cX6_even 36 = .ok (.iconst 1, 1) := by decide +kernel
theorem dX6_even_37 : decode cX6_even 37 = .ok (.if_icmp .ne 23, 3) := by decide +kernel
theorem dX6_even_40 : decode cX6_even 40 = .ok (.aload_n 0, 1) := by decide +kernel
theorem dX6_even_41 : decode cX6_even 41 = .ok (.getfield 20, 3) := by decide +kernel
theorem dX6_even_44 : decode cX6_even 44 = .ok (.aload_n 0, 1) := by decide +kernel
theorem dX6_even_45 : decode cX6_even 45 = .ok (.getfield 104, 3) := by decide +kernel
theorem dX6_even_48 : decode cX6_even 48 = .ok (.iload_n 2, 1) := by decide +kernel
theorem dX6_even_49 : decode cX6_even 49 = .ok (.iastore, 1) := by decide +kernel
theorem dX6_even_50 : decode cX6_even 50 = .ok (.aload_n 0, 1) := by decide +kernel
theorem dX6_even_51 : decode cX6_even 51 = .ok (.dup, 1) := by decide +kernel
theorem dX6_even_52 : decode cX6_even 52 = .ok (.getfield 104, 3) := by decide +kernel
theorem dX6_even_55 : decode cX6_even 55 = .ok (.iconst 1, 1) := by decide +kernel
theorem dX6_even_56 : decode cX6_even 56 = .ok (.iadd, 1) := by decide +kernel
theorem dX6_even_57 : decode cX6_even 57 = .ok (.putfield 104, 3) := by decide +kernel
theorem dX6_even_60 : decode cX6_even 60 = .ok (.iinc 2 1, 3) := by decide +kernel
theorem dX6_even_63 : decode cX6_even 63 = .ok (.goto (-40), 3) := by decide +kernel
theorem dX6_even_66 : decode cX6_even 66 = .ok (.iconst 1, 1) := by decide +kernel
theorem dX6_even_67 : decode cX6_even 67 = .ok (.istore_n 2, 1) := by decide +kernel
theorem dX6_even_68 : decode cX6_even 68 = .ok (.iload_n 2, 1) := by decide +kernel
theorem dX6_even_69 : decode cX6_even 69 = .ok (.aload_n 0, 1) := by decide +kernel
theorem dX6_even_70 : decode cX6_even 70 = .ok (.getfield 104, 3) := by decide +kernel
theorem dX6_even_73 : decode cX6_even 73 = .ok (.if_icmp .ge 108, 3) := by decide +kernel
theorem dX6_even_76 : decode cX6_even 76 = .ok (.aload_n 0, 1) := by decide +kernel
theorem dX6_even_77 : decode cX6_even 77 = .ok (.getfield 7, 3) := by decide +kernel
theorem dX6_even_80 : decode cX6_even 80 = .ok (.istore_n 3, 1) := by decide +kernel
theorem dX6_even_81 : decode cX6_even 81 = .ok (.iconst 0, 1) := by decide +kernel
theorem dX6_even_82 : decode cX6_even 82 = .ok (.istore 4, 2) := by decide +kernel
theorem dX6_even_84 : decode cX6_even 84 = .ok (.iconst 0, 1) := by decide +kernel
theorem dX6_even_85 : decode cX6_even 85 = .ok (.istore 5, 2) := by decide +kernel
theorem dX6_even_87 : decode cX6_even 87 = .ok (.iload 5, 2) := by decide +kernel
theorem dX6_even_89 : decode cX6_even 89 = .ok (.aload_n 0, 1) := by decide +kernel
theorem dX6_even_90 : decode cX6_even 90 = .ok (.getfield 104, 3) := by decide +kernel
theorem dX6_even_93 : decode cX6_even 93 = .ok (.if_icmp .ge 72, 3) := by decide +kernel
theorem dX6_even_96 : decode cX6_even 96 = .ok (.aload_n 0, 1) := by decide +kernel
theorem dX6_even_97 : decode cX6_even 97 = .ok (.getfield 20, 3) := by decide +kernel
theorem dX6_even_100 : decode cX6_even 100 = .ok (.iload 5, 2) := by decide +kernel
theorem dX6_even_102 : decode cX6_even 102 = .ok (.iload_n 2, 1) := by decide +kernel
theorem dX6_even_103 : decode cX6_even 103 = .ok (.iadd, 1) := by decide +kernel
theorem dX6_even_104 : decode cX6_even 104 = .ok (.aload_n 0, 1) := by decide +kernel
theorem dX6_even_105 : decode cX6_even 105 = .ok (.getfield 104, 3) := by decide +kernel
theorem dX6_even_108 : decode cX6_even 108 = .ok (.irem, 1) := by decide +kernel
theorem dX6_even_109 : decode cX6_even 109 = .ok (.iaload, 1) := by decide +kernel
theorem dX6_even_110 : decode cX6_even 110 = .ok (.aload_n 0, 1) := by decide +kernel
theorem dX6_even_111 : decode cX6_even 111 = .ok (.getfield 20, 3) := by decide +kernel
theorem dX6_even_114 : decode cX6_even 114 = .ok (.iload 5, 2) := by decide +kernel
theorem dX6_even_116 : decode cX6_even 116 = .ok (.iaload, 1) := by decide +kernel
theorem dX6_even_117 : decode cX6_even 117 = .ok (.isub, 1) := by decide +kernel
theorem dX6_even_118 : decode cX6_even 118 = .ok (.aload_n 0, 1) := by decide +kernel
theorem dX6_even_119 : decode cX6_even 119 = .ok (.getfield 7, 3) := by decide +kernel
theorem dX6_even_122 : decode cX6_even 122 = .ok (.iadd, 1) := by decide +kernel
theorem dX6_even_123 : decode cX6_even 123 = .ok (.aload_n 0, 1) := by decide +kernel
theorem dX6_even_124 : decode cX6_even 124 = .ok (.getfield 7, 3) := by decide +kernel
theorem dX6_even_127 : decode cX6_even 127 = .ok (.irem, 1) := by decide +kernel
theorem dX6_even_128 : decode cX6_even 128 = .ok (.istore 6, 2) := by decide +kernel
theorem dX6_even_130 : decode cX6_even 130 = .ok (.iload 6, 2) := by decide +kernel
theorem dX6_even_132 : decode cX6_even 132 = .ok (.iload_n 3, 1) := by decide +kernel
theorem dX6_even_133 : decode cX6_even 133 = .ok (.if_icmp .ge 8, 3) := by decide +kernel
theorem dX6_even_136 : decode cX6_even 136 = .ok (.iload 6, 2) := by decide +kernel
theorem dX6_even_138 : decode cX6_even 138 = .ok (.goto 4, 3) := by decide +kernel
theorem dX6_even_141 : decode cX6_even 141 = .ok (.iload_n 3, 1) := by decide +kernel
theorem dX6_even_142 : decode cX6_even 142 = .ok (.istore_n 3, 1) := by decide +kernel
theorem dX6_even_143 : decode cX6_even 143 = .ok (.iload 6, 2) := by decide +kernel
theorem dX6_even_145 : decode cX6_even 145 = .ok (.iload 4, 2) := by decide +kernel
theorem dX6_even_147 : decode cX6_even 147 = .ok (.if_icmp .le 8, 3) := by decide +kernel
theorem dX6_even_150 : decode cX6_even 150 = .ok (.iload 6, 2) := by decide +kernel
theorem dX6_even_152 : decode cX6_even 152 = .ok (.goto 5, 3) := by decide +kernel
theorem dX6_even_155 : decode cX6_even 155 = .ok (.iload 4, 2) := by decide +kernel
theorem dX6_even_157 : decode cX6_even 157 = .ok (.istore 4, 2) := by decide +kernel
theorem dX6_even_159 : decode cX6_even 159 = .ok (.iinc 5 1, 3) := by decide +kernel
theorem dX6_even_162 : decode cX6_even 162 = .ok (.goto (-75), 3) := by decide +kernel
theorem dX6_even_165 : decode cX6_even 165 = .ok (.iload 4, 2) := by decide +kernel
theorem dX6_even_167 : decode cX6_even 167 = .ok (.iload_n 3, 1) := by decide +kernel
theorem dX6_even_168 : decode cX6_even 168 = .ok (.isub, 1) := by decide +kernel
theorem dX6_even_169 : decode cX6_even 169 = .ok (.iconst 1, 1) := by decide +kernel
theorem dX6_even_170 : decode cX6_even 170 = .ok (.if_icmp .le 5, 3) := by decide +kernel
theorem dX6_even_173 : decode cX6_even 173 = .ok (.iconst 0, 1) := by decide +kernel
theorem dX6_even_174 : decode cX6_even 174 = .ok (.ireturn, 1) := by decide +kernel
theorem dX6_even_175 : decode cX6_even 175 = .ok (.iinc 2 1, 3) := by decide +kernel
theorem dX6_even_178 : decode cX6_even 178 = .ok (.goto (-110), 3) := by decide +kernel
theorem dX6_even_181 : decode cX6_even 181 = .ok (.aload_n 0, 1) := by decide +kernel
theorem dX6_even_182 : decode cX6_even 182 = .ok (.getfield 104, 3) := by decide +kernel
theorem dX6_even_185 : decode cX6_even 185 = .ok (.ifCond .le 7, 3) := by decide +kernel
theorem dX6_even_188 : decode cX6_even 188 = .ok (.iconst 1, 1) := by decide +kernel
theorem dX6_even_189 : decode cX6_even 189 = .ok (.goto 4, 3) := by decide +kernel
theorem dX6_even_192 : decode cX6_even 192 = .ok (.iconst 0, 1) := by decide +kernel
theorem dX6_even_193 : decode cX6_even 193 = .ok (.ireturn, 1) := by decide +kernel
set_option maxRecDepth 20000 in
theorem ggX6_spread_X6_isIn : GoodIn wsX6_spread wsX6_isIn := goodIn_r _ [6] (by decide +kernel) (by decide +kernel)
set_option maxRecDepth 20000 in
theorem gX6_spread_X6_isIn : GoodIn wsX6_spread (va_wsS RX6 90 yX6_isIn wsX6_isIn) := goodIn_app (goodIn_of _ (by decide +kernel)) ggX6_spread_X6_isIn
set_option maxRecDepth 20000 in
theorem ggX6_spread_X6_isStep : GoodIn wsX6_spread wsX6_isStep := goodIn_r _ [10, 2, 11, 12, 13, 14, 15, 16, 17, 18, 19, 20, 21, 22, 23, 24, 25, 26, 27, 28, 29, 30] (by decide +kernel) (by decide +kernel)
set_option maxRecDepth 20000 in
theorem gX6_spread_X6_isStep : GoodIn wsX6_spread (wsV RX6 125 RX6 yX6_isStep wsX6_isStep) := goodIn_app (goodIn_of _ (by decide +kernel)) ggX6_spread_X6_isStep
theorem dX6_spread_0 : decode cX6_spread 0 = .ok (.aload_n 0, 1) := by decide +kernel
theorem dX6_spread_1 : decode cX6_spread 1 = .ok (.iconst 0, 1) := by decide +kernel
theorem dX6_spread_2 : decode cX6_spread 2 = .ok (.putfield 57, 3) := by decide +kernel
theorem dX6_spread_5 : decode cX6_spread 5 = .ok (.iload_n 1, 1) := by decide +kernel
theorem dX6_spread_6 : decode cX6_spread 6 = .ok (.iconst 1, 1) := by decide +kernel
theorem dX6_spread_7 : decode cX6_spread 7 = .ok (.aload_n 0, 1) := by decide +kernel
theorem dX6_spread_8 : decode cX6_spread 8 = .ok (.getfield 7, 3) := by decide +kernel
theorem dX6_spread_11 : decode cX6_spread 11 = .ok (.invokestatic 90, 3) := by decide +kernel
theorem dX6_spread_14 : decode cX6_spread 14 = .ok (.ifCond .eq 11, 3) := by decide +kernel
theorem dX6_spread_17 : decode cX6_spread 17 = .ok (.aload_n 0, 1) := by decide +kernel
theorem dX6_spread_18 : decode cX6_spread 18 = .ok (.iload_n 2, 1) := by decide +kernel
theorem dX6_spread_19 : decode cX6_spread 19 = .ok (.invokevirtual 125, 3) := by decide +kernel
theorem dX6_spread_22 : decode cX6_spread 22 = .ok (.ifCond .ne 6, 3) := by decide +kernel
theorem dX6_spread_25 : decode cX6_spread 25 = .ok (.bipush (-2), 2) := by decide +kernel
theorem dX6_spread_27 : decode cX6_spread 27 = .ok (.ireturn, 1) := by decide +kernel
theorem dX6_spread_28 : decode cX6_spread 28 = .ok (.iconst 0, 1) := by decide +kernel
theorem dX6_spread_29 : decode cX6_spread 29 = .ok (.istore_n 3, 1) := by decide +kernel
theorem dX6_spread_30 : decode cX6_spread 30 = .ok (.iconst 0, 1) := by decide +kernel
theorem dX6_spread_31 : decode cX6_spread 31 = .ok (.istore 4, 2) := by decide +kernel
theorem dX6_spread_33 : decode cX6_spread 33 = .ok (.iload 4, 2) := by decide +kernel
theorem dX6_spread_35 : decode cX6_spread 35 = .ok (.iload_n 1, 1) := by decide +kernel
theorem dX6_spread_36 : decode cX6_spread 36 = .ok (.if_icmp .ge 25, 3) := by decide +kernel
theorem dX6_spread_39 : decode cX6_spread 39 = .ok (.iload_n 3, 1) := by decide +kernel
theorem dX6_spread_40 : decode cX6_spread 40 = .ok (.iconst 1, 1) := by decide +kernel
theorem dX6_spread_41 : decode cX6_spread 41 = .ok (.aload_n 0, 1) := by decide +kernel
theorem dX6_spread_42 : decode cX6_spread 42 = .ok (.getfield 7, 3) := by decide +kernel
theorem dX6_spread_45 : decode cX6_spread 45 = .ok (.iload 4, 2) := by decide +kernel
theorem dX6_spread_47 : decode cX6_spread 47 = .ok (.imul, 1) := by decide +kernel
theorem dX6_spread_48 : decode cX6_spread 48 = .ok (.iload_n 2, 1) := by decide +kernel
theorem dX6_spread_49 : decode cX6_spread 49 = .ok (.iadd, 1) := by decide +kernel
theorem dX6_spread_50 : decode cX6_spread 50 = .ok (.iload_n 1, 1) := by decide +kernel
theorem dX6_spread_51 : decode cX6_spread 51 = .ok (.idiv, 1) := by decide +kernel
theorem dX6_spread_52 : decode cX6_spread 52 = .ok (.ishl, 1) := by decide +kernel
theorem dX6_spread_53 : decode cX6_spread 53 = .ok (.ior, 1) := by decide +kernel
theorem dX6_spread_54 : decode cX6_spread 54 = .ok (.istore_n 3, 1) := by decide +kernel
theorem dX6_spread_55 : decode cX6_spread 55 = .ok (.iinc 4 1, 3) := by decide +kernel
theorem dX6_spread_58 : decode cX6_spread 58 = .ok (.goto (-25), 3) := by decide +kernel
theorem dX6_spread_61 : decode cX6_spread 61 = .ok (.iload_n 3, 1) := by decide +kernel
theorem dX6_spread_62 : decode cX6_spread 62 = .ok (.ireturn, 1) := by decide +kernel
set_option maxRecDepth 20000 in
theorem ggX6_generator_X6_isSet : GoodIn wsX6_generator wsX6_isSet := goodIn_r _ [7, 2, 11, 12, 13, 14, 15, 16, 17, 18, 19, 20, 21, 22, 23, 24, 25, 26, 27, 28, 29, 30] (by decide +kernel) (by decide +kernel)
set_option maxRecDepth 20000 in
theorem gX6_generator_X6_isSet : GoodIn wsX6_generator (wsV RX6 86 RX6 yX6_isSet wsX6_isSet) := goodIn_app (goodIn_of _ (by decide +kernel)) ggX6_generator_X6_isSet
set_option maxRecDepth 20000 in
theorem ggX6_generator_X6_count : GoodIn wsX6_generator wsX6_count := goodIn_r _ [10] (by decide +kernel) (by decide +kernel)
set_option maxRecDepth 20000 in
theorem gX6_generator_X6_count : GoodIn wsX6_generator (va_wsS RX6 97 yX6_count wsX6_count) := goodIn_app (goodIn_of _ (by decide +kernel)) ggX6_generator_X6_count
theorem dX6_generator_0 : decode cX6_generator 0 = .ok (.aload_n 0, 1) := by decide +kernel
theorem dX6_generator_1 : decode cX6_generator 1 = .ok (.iconst 0, 1) := by decide +kernel
theorem dX6_generator_2 : decode cX6_generator 2 = .ok (.putfield 57, 3) := by decide +kernel
theorem dX6_generator_5 : decode cX6_generator 5 = .ok (.aload_n 0, 1) := by decide +kernel
theorem dX6_generator_6 : decode cX6_generator 6 = .ok (.iload_n 1, 1) := by decide +kernel
theorem dX6_generator_7 : decode cX6_generator 7 = .ok (.invokevirtual 86, 3) := by decide +kernel
theorem dX6_generator_10 : decode cX6_generator 10 = .ok (.ifCond .ne 6, 3) := by decide +kernel
theorem dX6_generator_13 : decode cX6_generator 13 = .ok (.bipush (-2), 2) := by decide +kernel
theorem dX6_generator_15 : decode cX6_generator 15 = .ok (.ireturn, 1) := by decide +kernel
theorem dX6_generator_16 : decode cX6_generator 16 = .ok (.iload_n 1, 1) := by decide +kernel
theorem dX6_generator_17 : decode cX6_generator 17 = .ok (.invokestatic 97, 3) := by decide +kernel
theorem dX6_generator_20 : decode cX6_generator 20 = .ok (.istore_n 2, 1) := by decide +kernel
theorem dX6_generator_21 : decode cX6_generator 21 = .ok (.iconst 0, 1) := by decide +kernel
theorem dX6_generator_22 : decode cX6_generator 22 = .ok (.istore_n 3, 1) := by decide +kernel
theorem dX6_generator_23 : decode cX6_generator 23 = .ok (.iload_n 3, 1) := by decide +kernel
theorem dX6_generator_24 : decode cX6_generator 24 = .ok (.aload_n 0, 1) := by decide +kernel
theorem dX6_generator_25 : decode cX6_generator 25 = .ok (.getfield 7, 3) := by decide +kernel
theorem dX6_generator_28 : decode cX6_generator 28 = .ok (.if_icmp .ge 76, 3) := by decide +kernel
theorem dX6_generator_31 : decode cX6_generator 31 = .ok (.iload_n 2, 1) := by decide +kernel
theorem dX6_generator_32 : decode cX6_generator 32 = .ok (.ifCond .le 72, 3) := by decide +kernel
theorem dX6_generator_35 : decode cX6_generator 35 = .ok (.iconst 0, 1) := by decide +kernel
theorem dX6_generator_36 : decode cX6_generator 36 = .ok (.istore 4, 2) := by decide +kernel
theorem dX6_generator_38 : decode cX6_generator 38 = .ok (.iload 4, 2) := by decide +kernel
theorem dX6_generator_40 : decode cX6_generator 40 = .ok (.aload_n 0, 1) := by decide +kernel
theorem dX6_generator_41 : decode cX6_generator 41 = .ok (.getfield 7, 3) := by decide +kernel
theorem dX6_generator_44 : decode cX6_generator 44 = .ok (.if_icmp .ge 54, 3) := by decide +kernel
theorem dX6_generator_47 : decode cX6_generator 47 = .ok (.iconst 0, 1) := by decide +kernel
theorem dX6_generator_48 : decode cX6_generator 48 = .ok (.istore 5, 2) := by decide +kernel
theorem dX6_generator_50 : decode cX6_generator 50 = .ok (.iconst 0, 1) := by decide +kernel
theorem dX6_generator_51 : decode cX6_generator 51 = .ok (.istore 6, 2) := by decide +kernel
theorem dX6_generator_53 : decode cX6_generator 53 = .ok (.iload 6, 2) := by decide +kernel
theorem dX6_generator_55 : decode cX6_generator 55 = .ok (.iload_n 2, 1) := by decide +kernel
theorem dX6_generator_56 : decode cX6_generator 56 = .ok (.if_icmp .ge 28, 3) := by decide +kernel
theorem dX6_generator_59 : decode cX6_generator 59 = .ok (.iload 5, 2) := by decide +kernel
theorem dX6_generator_61 : decode cX6_generator 61 = .ok (.iconst 1, 1) := by decide +kernel
theorem dX6_generator_62 : decode cX6_generator 62 = .ok (.iload 4, 2) := by decide +kernel
theorem dX6_generator_64 : decode cX6_generator 64 = .ok (.iload 6, 2) := by decide +kernel
theorem dX6_generator_66 : decode cX6_generator 66 = .ok (.iload_n 3, 1) := by decide +kernel
theorem dX6_generator_67 : decode cX6_generator 67 = .ok (.imul, 1) := by decide +kernel
theorem dX6_generator_68 : decode cX6_generator 68 = .ok (.iadd, 1) := by decide +kernel
theorem dX6_generator_69 : decode cX6_generator 69 = .ok (.aload_n 0, 1) := by decide +kernel
theorem dX6_generator_70 : decode cX6_generator 70 = .ok (.getfield 7, 3) := by decide +kernel
theorem dX6_generator_73 : decode cX6_generator 73 = .ok (.irem, 1) := by decide +kernel
theorem dX6_generator_74 : decode cX6_generator 74 = .ok (.ishl, 1) := by decide +kernel
theorem dX6_generator_75 : decode cX6_generator 75 = .ok (.ior, 1) := by decide +kernel
theorem dX6_generator_76 : decode cX6_generator 76 = .ok (.istore 5, 2) := by decide +kernel
theorem dX6_generator_78 : decode cX6_generator 78 = .ok (.iinc 6 1, 3) := by decide +kernel
theorem dX6_generator_81 : decode cX6_generator 81 = .ok (.goto (-28), 3) := by decide +kernel
theorem dX6_generator_84 : decode cX6_generator 84 = .ok (.iload 5, 2) := by decide +kernel
theorem dX6_generator_86 : decode cX6_generator 86 = .ok (.iload_n 1, 1) := by decide +kernel
theorem dX6_generator_87 : decode cX6_generator 87 = .ok (.if_icmp .ne 5, 3) := by decide +kernel
theorem dX6_generator_90 : decode cX6_generator 90 = .ok (.iload_n 3, 1) := by decide +kernel
theorem dX6_generator_91 : decode cX6_generator 91 = .ok (.ireturn, 1) := by decide +kernel
theorem dX6_generator_92 : decode cX6_generator 92 = .ok (.iinc 4 1, 3) := by decide +kernel
theorem dX6_generator_95 : decode cX6_generator 95 = .ok (.goto (-57), 3) := by decide +kernel
theorem dX6_generator_98 : decode cX6_generator 98 = .ok (.iinc 3 1, 3) := by decide +kernel
theorem dX6_generator_101 : decode cX6_generator 101 = .ok (.goto (-78), 3) := by decide +kernel
theorem dX6_generator_104 : decode cX6_generator 104 = .ok (.bipush (-3), 2) := by decide +kernel
theorem dX6_generator_106 : decode cX6_generator 106 = .ok (.ireturn, 1) := by decide +kernel
set_option maxRecDepth 20000 in
theorem ggX6_add_X6_isStep : GoodIn wsX6_add wsX6_isStep := goodIn_r _ [8, 9, 10, 11, 12, 13, 14, 15, 16, 17, 18, 19, 20, 21, 22, 23, 24, 25, 26, 27, 28, 29] (by decide +kernel) (by decide +kernel)
set_option maxRecDepth 20000 in
theorem gX6_add_X6_isStep : GoodIn wsX6_add (wsV RX6 125 RX6 yX6_isStep wsX6_isStep) := goodIn_app (goodIn_of _ (by decide +kernel)) ggX6_add_X6_isStep
theorem dX6_add_0 : decode cX6_add 0 = .ok (.aload_n 0, 1) := by decide +kernel
theorem dX6_add_1 : decode cX6_add 1 = .ok (.iconst 0, 1) := by decide +kernel
theorem dX6_add_2 : decode cX6_add 2 = .ok (.putfield 57, 3) := by decide +kernel
theorem dX6_add_5 : decode cX6_add 5 = .ok (.aload_n 0, 1) := by decide +kernel
theorem dX6_add_6 : decode cX6_add 6 = .ok (.iload_n 1, 1) := by decide +kernel
theorem dX6_add_7 : decode cX6_add 7 = .ok (.invokevirtual 125, 3) := by decide +kernel
theorem dX6_add_10 : decode cX6_add 10 = .ok (.ifCond .ne 6, 3) := by decide +kernel
theorem dX6_add_13 : decode cX6_add 13 = .ok (.bipush (-2), 2) := by decide +kernel
theorem dX6_add_15 : decode cX6_add 15 = .ok (.ireturn, 1) := by decide +kernel
theorem dX6_add_16 : decode cX6_add 16 = .ok (.iconst 0, 1) := by decide +kernel
theorem dX6_add_17 : decode cX6_add 17 = .ok (.istore_n 2, 1) := by decide +kernel
theorem dX6_add_18 : decode cX6_add 18 = .ok (.iload_n 2, 1) := by decide +kernel
theorem dX6_add_19 : decode cX6_add 19 = .ok (.aload_n 0, 1) := by decide +kernel
theorem dX6_add_20 : decode cX6_add 20 = .ok (.getfield 60, 3) := by decide +kernel
theorem dX6_add_23 : decode cX6_add 23 = .ok (.if_icmp .ge 22, 3) := by decide +kernel
theorem dX6_add_26 : decode cX6_add 26 = .ok (.aload_n 0, 1) := by decide +kernel
theorem dX6_add_27 : decode cX6_add 27 = .ok (.getfield 35, 3) := by decide +kernel
theorem dX6_add_30 : decode cX6_add 30 = .ok (.iload_n 2, 1) := by decide +kernel
theorem dX6_add_31 : decode cX6_add 31 = .ok (.iaload, 1) := by decide +kernel
theorem dX6_add_32 : decode cX6_add 32 = .ok (.iload_n 1, 1) := by decide +kernel
theorem dX6_add_33 : decode cX6_add 33 = .ok (.if_icmp .ne 6, 3) := by decide +kernel
theorem dX6_add_36 : decode cX6_add 36 = .ok (.bipush (-3), 2) := by decide +kernel
theorem dX6_add_38 : decode cX6_add 38 = .ok (.ireturn, 1) := by decide +kernel
theorem dX6_add_39 : decode cX6_add 39 = .ok (.iinc 2 1, 3) := by decide +kernel
theorem dX6_add_42 : decode cX6_add 42 = .ok (.goto (-24), 3) := by decide +kernel
theorem dX6_add_45 : decode cX6_add 45 = .ok (.aload_n 0, 1) := by decide +kernel
theorem dX6_add_46 : decode cX6_add 46 = .ok (.getfield 35, 3) := by decide +kernel
theorem dX6_add_49 : decode cX6_add 49 = .ok (.aload_n 0, 1) := by decide +kernel
theorem dX6_add_50 : decode cX6_add 50 = .ok (.getfield 60, 3) := by decide +kernel
theorem dX6_add_53 : decode cX6_add 53 = .ok (.iload_n 1, 1) := by decide +kernel
theorem dX6_add_54 : decode cX6_add 54 = .ok (.iastore, 1) := by decide +kernel
theorem dX6_add_55 : decode cX6_add 55 = .ok (.aload_n 0, 1) := by decide +kernel
theorem dX6_add_56 : decode cX6_add 56 = .ok (.dup, 1) := by decide +kernel
theorem dX6_add_57 : decode cX6_add 57 = .ok (.getfield 60, 3) := by decide +kernel
theorem dX6_add_60 : decode cX6_add 60 = .ok (.iconst 1, 1) := by decide +kernel
theorem dX6_add_61 : decode cX6_add 61 = .ok (.iadd, 1) := by decide +kernel
theorem dX6_add_62 : decode cX6_add 62 = .ok (.putfield 60, 3) := by decide +kernel
theorem dX6_add_65 : decode cX6_add 65 = .ok (.aload_n 0, 1) := by decide +kernel
theorem dX6_add_66 : decode cX6_add 66 = .ok (.getfield 60, 3) := by decide +kernel
theorem dX6_add_69 : decode cX6_add 69 = .ok (.ireturn, 1) := by decide +kernel
theorem dX6_clear_0 : decode cX6_clear 0 = .ok (.aload_n 0, 1) := by decide +kernel
theorem dX6_clear_1 : decode cX6_clear 1 = .ok (.iconst 0, 1) := by decide +kernel
theorem dX6_clear_2 : decode cX6_clear 2 = .ok (.putfield 57, 3) := by decide +kernel
theorem dX6_clear_5 : decode cX6_clear 5 = .ok (.aload_n 0, 1) := by decide +kernel
theorem dX6_clear_6 : decode cX6_clear 6 = .ok (.getfield 60, 3) := by decide +kernel
theorem dX6_clear_9 : decode cX6_clear 9 = .ok (.istore_n 1, 1) := by decide +kernel
theorem dX6_clear_10 : decode cX6_clear 10 = .ok (.aload_n 0, 1) := by decide +kernel
theorem dX6_clear_11 : decode cX6_clear 11 = .ok (.iconst 0, 1) := by decide +kernel
theorem dX6_clear_12 : decode cX6_clear 12 = .ok (.putfield 60, 3) := by decide +kernel
theorem dX6_clear_15 : decode cX6_clear 15 = .ok (.iload_n 1, 1) := by decide +kernel
theorem dX6_clear_16 : decode cX6_clear 16 = .ok (.ireturn, 1) := by decide +kernel
theorem dX6_layForm_0 : decode cX6_layForm 0 = .ok (.iconst 0, 1) := by decide +kernel
theorem dX6_layForm_1 : decode cX6_layForm 1 = .ok (.istore_n 3, 1) := by decide +kernel
theorem dX6_layForm_2 : decode cX6_layForm 2 = .ok (.iload_n 3, 1) := by decide +kernel
theorem dX6_layForm_3 : decode cX6_layForm 3 = .ok (.aload_n 0, 1) := by decide +kernel
theorem dX6_layForm_4 : decode cX6_layForm 4 = .ok (.getfield 7, 3) := by decide +kernel
theorem dX6_layForm_7 : decode cX6_layForm 7 = .ok (.if_icmp .ge 87, 3) := by decide +kernel
theorem dX6_layForm_10 : decode cX6_layForm 10 = .ok (.iload_n 1, 1) := by decide +kernel
theorem dX6_layForm_11 : decode cX6_layForm 11 = .ok (.iconst 2, 1) := by decide +kernel
theorem dX6_layForm_12 : decode cX6_layForm 12 = .ok (.if_icmp .ge 7, 3) := by decide +kernel
theorem dX6_layForm_15 : decode cX6_layForm 15 = .ok (.iload_n 3, 1) := by decide +kernel
theorem dX6_layForm_16 : decode cX6_layForm 16 = .ok (.goto 11, 3) := by decide +kernel
theorem dX6_layForm_19 : decode cX6_layForm 19 = .ok (.aload_n 0, 1) := by decide +kernel
theorem dX6_layForm_20 : decode cX6_layForm 20 = .ok (.getfield 7, 3) := by decide +kernel
theorem dX6_layForm_23 : decode cX6_layForm 23 = .ok (.iconst 1, 1) := by decide +kernel
theorem dX6_layForm_24 : decode cX6_layForm 24 = .ok (.isub, 1) := by decide +kernel
theorem dX6_layForm_25 : decode cX6_layForm 25 = .ok (.iload_n 3, 1) := by decide +kernel
theorem dX6_layForm_26 : decode cX6_layForm 26 = .ok (.isub, 1) := by decide +kernel
theorem dX6_layForm_27 : decode cX6_layForm 27 = .ok (.istore 4, 2) := by decide +kernel
theorem dX6_layForm_29 : decode cX6_layForm 29 = .ok (.aload_n 0, 1) := by decide +kernel
theorem dX6_layForm_30 : decode cX6_layForm 30 = .ok (.getfield 35, 3) := by decide +kernel
theorem dX6_layForm_33 : decode cX6_layForm 33 = .ok (.iload 4, 2) := by decide +kernel
theorem dX6_layForm_35 : decode cX6_layForm 35 = .ok (.iaload, 1) := by decide +kernel
theorem dX6_layForm_36 : decode cX6_layForm 36 = .ok (.aload_n 0, 1) := by decide +kernel
theorem dX6_layForm_37 : decode cX6_layForm 37 = .ok (.getfield 35, 3) := by decide +kernel
theorem dX6_layForm_40 : decode cX6_layForm 40 = .ok (.iconst 0, 1) := by decide +kernel
theorem dX6_layForm_41 : decode cX6_layForm 41 = .ok (.iaload, 1) := by decide +kernel
theorem dX6_layForm_42 : decode cX6_layForm 42 = .ok (.isub, 1) := by decide +kernel
theorem dX6_layForm_43 : decode cX6_layForm 43 = .ok (.aload_n 0, 1) := by decide +kernel
theorem dX6_layForm_44 : decode cX6_layForm 44 = .ok (.getfield 7, 3) := by decide +kernel
theorem dX6_layForm_47 : decode cX6_layForm 47 = .ok (.iadd, 1) := by decide +kernel
theorem dX6_layForm_48 : decode cX6_layForm 48 = .ok (.aload_n 0, 1) := by decide +kernel
theorem dX6_layForm_49 : decode cX6_layForm 49 = .ok (.getfield 7, 3) := by decide +kernel
theorem dX6_layForm_52 : decode cX6_layForm 52 = .ok (.irem, 1) := by decide +kernel
theorem dX6_layForm_53 : decode cX6_layForm 53 = .ok (.istore 5, 2) := by decide +kernel
theorem dX6_layForm_55 : decode cX6_layForm 55 = .ok (.aload_n 0, 1) := by decide +kernel
theorem dX6_layForm_56 : decode cX6_layForm 56 = .ok (.getfield 38, 3) := by decide +kernel
theorem dX6_layForm_59 : decode cX6_layForm 59 = .ok (.iload_n 3, 1) := by decide +kernel
theorem dX6_layForm_60 : decode cX6_layForm 60 = .ok (.iload_n 1, 1) := by decide +kernel
theorem dX6_layForm_61 : decode cX6_layForm 61 = .ok (.iconst 2, 1) := by decide +kernel
theorem dX6_layForm_62 : decode cX6_layForm 62 = .ok (.irem, 1) := by decide +kernel
theorem dX6_layForm_63 : decode cX6_layForm 63 = .ok (.ifCond .ne 10, 3) := by decide +kernel
theorem dX6_layForm_66 : decode cX6_layForm 66 = .ok (.iload_n 2, 1) := by decide +kernel
theorem dX6_layForm_67 : decode cX6_layForm 67 = .ok (.iload 5, 2) := by decide +kernel
theorem dX6_layForm_69 : decode cX6_layForm 69 = .ok (.iadd, 1) := by decide +kernel
theorem dX6_layForm_70 : decode cX6_layForm 70 = .ok (.goto 12, 3) := by decide +kernel
theorem dX6_layForm_73 : decode cX6_layForm 73 = .ok (.iload_n 2, 1) := by decide +kernel
theorem dX6_layForm_74 : decode cX6_layForm 74 = .ok (.aload_n 0, 1) := by decide +kernel
theorem dX6_layForm_75 : decode cX6_layForm 75 = .ok (.getfield 7, 3) := by decide +kernel
theorem dX6_layForm_78 : decode cX6_layForm 78 = .ok (.iadd, 1) := by decide +kernel
theorem dX6_layForm_79 : decode cX6_layForm 79 = .ok (.iload 5, 2) := by decide +kernel
theorem dX6_layForm_81 : decode cX6_layForm 81 = .ok (.isub, 1) := by decide +kernel
theorem dX6_layForm_82 : decode cX6_layForm 82 = .ok (.aload_n 0, 1) := by decide +kernel
theorem dX6_layForm_83 : decode cX6_layForm 83 = .ok (.getfield 7, 3) := by decide +kernel
theorem dX6_layForm_86 : decode cX6_layForm 86 = .ok (.irem, 1) := by decide +kernel
theorem dX6_layForm_87 : decode cX6_layForm 87 = .ok (.iastore, 1) := by decide +kernel
theorem dX6_layForm_88 : decode cX6_layForm 88 = .ok (.iinc 3 1, 3) := by decide +kernel
theorem dX6_layForm_91 : decode cX6_layForm 91 = .ok (.goto (-89), 3) := by decide +kernel
theorem dX6_layForm_94 : decode cX6_layForm 94 = .ok (.return_, 1) := by decide +kernel
set_option maxRecDepth 20000 in
theorem ggX6_form_X6_isIn : GoodIn wsX6_form wsX6_isIn := goodIn_r _ [8] (by decide +kernel) (by decide +kernel)
set_option maxRecDepth 20000 in
theorem gX6_form_X6_isIn : GoodIn wsX6_form (va_wsS RX6 90 yX6_isIn wsX6_isIn) := goodIn_app (goodIn_of _ (by decide +kernel)) ggX6_form_X6_isIn
set_option maxRecDepth 20000 in
theorem ggX6_form_X6_isStep : GoodIn wsX6_form wsX6_isStep := goodIn_r _ [12, 3, 18, 19, 20, 21, 22, 23, 24, 25, 26, 27, 28, 29, 30, 31, 32, 33, 34, 35, 36, 37] (by decide +kernel) (by decide +kernel)
set_option maxRecDepth 20000 in
theorem gX6_form_X6_isStep : GoodIn wsX6_form (wsV RX6 125 RX6 yX6_isStep wsX6_isStep) := goodIn_app (goodIn_of _ (by decide +kernel)) ggX6_form_X6_isStep
set_option maxRecDepth 20000 in
theorem ggX6_form_X6_layForm : GoodIn wsX6_form wsX6_layForm := goodIn_r _ [16, 3, 17, 4, 18, 19, 20, 21, 22, 23, 24, 25, 26, 27, 28, 29, 30, 31, 32, 33, 34, 35, 36, 37] (by decide +kernel) (by decide +kernel)
set_option maxRecDepth 20000 in
theorem gX6_form_X6_layForm : GoodIn wsX6_form (wsV RX6 132 RX6 yX6_layForm wsX6_layForm) := goodIn_app (goodIn_of _ (by decide +kernel)) ggX6_form_X6_layForm
theorem dX6_form_0 : decode cX6_form 0 = .ok (.aload_n 0, 1) := by decide +kernel
theorem dX6_form_1 : decode cX6_form 1 = .ok (.iconst 0, 1) := by decide +kernel
theorem dX6_form_2 : decode cX6_form 2 = .ok (.putfield 57, 3) := by decide +kernel
theorem dX6_form_5 : decode cX6_form 5 = .ok (.iload_n 1, 1) := by decide +kernel
theorem dX6_form_6 : decode cX6_form 6 = .ok (.iconst 0, 1) := by decide +kernel
theorem dX6_form_7 : decode cX6_form 7 = .ok (.iconst 3, 1) := by decide +kernel
theorem dX6_form_8 : decode cX6_form 8 = .ok (.invokestatic 90, 3) := by decide +kernel
theorem dX6_form_11 : decode cX6_form 11 = .ok (.ifCond .eq 11, 3) := by decide +kernel
theorem dX6_form_14 : decode cX6_form 14 = .ok (.aload_n 0, 1) := by decide +kernel
theorem dX6_form_15 : decode cX6_form 15 = .ok (.iload_n 2, 1) := by decide +kernel
theorem dX6_form_16 : decode cX6_form 16 = .ok (.invokevirtual 125, 3) := by decide +kernel
theorem dX6_form_19 : decode cX6_form 19 = .ok (.ifCond .ne 6, 3) := by decide +kernel
theorem dX6_form_22 : decode cX6_form 22 = .ok (.bipush (-2), 2) := by decide +kernel
theorem dX6_form_24 : decode cX6_form 24 = .ok (.ireturn, 1) := by decide +kernel
theorem dX6_form_25 : decode cX6_form 25 = .ok (.aload_n 0, 1) := by decide +kernel
theorem dX6_form_26 : decode cX6_form 26 = .ok (.getfield 60, 3) := by decide +kernel
theorem dX6_form_29 : decode cX6_form 29 = .ok (.aload_n 0, 1) := by decide +kernel
theorem dX6_form_30 : decode cX6_form 30 = .ok (.getfield 7, 3) := by decide +kernel
theorem dX6_form_33 : decode cX6_form 33 = .ok (.if_icmp .ge 6, 3) := by decide +kernel
theorem dX6_form_36 : decode cX6_form 36 = .ok (.bipush (-3), 2) := by decide +kernel
theorem dX6_form_38 : decode cX6_form 38 = .ok (.ireturn, 1) := by decide +kernel
theorem dX6_form_39 : decode cX6_form 39 = .ok (.aload_n 0, 1) := by decide +kernel
theorem dX6_form_40 : decode cX6_form 40 = .ok (.iload_n 3, 1) := by decide +kernel
theorem dX6_form_41 : decode cX6_form 41 = .ok (.invokevirtual 125, 3) := by decide +kernel
theorem dX6_form_44 : decode cX6_form 44 = .ok (.ifCond .ne 5, 3) := by decide +kernel
theorem dX6_form_47 : decode cX6_form 47 = .ok (.iconst (-1), 1) := by decide +kernel
theorem dX6_form_48 : decode cX6_form 48 = .ok (.ireturn, 1) := by decide +kernel
theorem dX6_form_49 : decode cX6_form 49 = .ok (.aload_n 0, 1) := by decide +kernel
theorem dX6_form_50 : decode cX6_form 50 = .ok (.iload_n 1, 1) := by decide +kernel
theorem dX6_form_51 : decode cX6_form 51 = .ok (.iload_n 2, 1) := by decide +kernel
theorem dX6_form_52 : decode cX6_form 52 = .ok (.invokevirtual 132, 3) := by decide +kernel
theorem dX6_form_55 : decode cX6_form 55 = .ok (.aload_n 0, 1) := by decide +kernel
theorem dX6_form_56 : decode cX6_form 56 = .ok (.getfield 38, 3) := by decide +kernel
theorem dX6_form_59 : decode cX6_form 59 = .ok (.iload_n 3, 1) := by decide +kernel
theorem dX6_form_60 : decode cX6_form 60 = .ok (.iaload, 1) := by decide +kernel
theorem dX6_form_61 : decode cX6_form 61 = .ok (.ireturn, 1) := by decide +kernel
set_option maxRecDepth 20000 in
theorem ggX6_forms_X6_layForm : GoodIn wsX6_forms wsX6_layForm := goodIn_r _ [10, 3, 11, 5, 12, 13, 14, 15, 16, 17, 18, 19, 20, 21, 22, 23, 24, 25, 26, 27, 28, 29, 30, 31] (by decide +kernel) (by decide +kernel)
set_option maxRecDepth 20000 in
theorem gX6_forms_X6_layForm : GoodIn wsX6_forms (wsV RX6 132 RX6 yX6_layForm wsX6_layForm) := goodIn_app (goodIn_of _ (by decide +kernel)) ggX6_forms_X6_layForm
theorem dX6_forms_0 : decode cX6_forms 0 = .ok (.aload_n 0, 1) := by decide +kernel
theorem dX6_forms_1 : decode cX6_forms 1 = .ok (.iconst 0, 1) := by decide +kernel
theorem dX6_forms_2 : decode cX6_forms 2 = .ok (.putfield 57, 3) := by decide +kernel
theorem dX6_forms_5 : decode cX6_forms 5 = .ok (.aload_n 0, 1) := by decide +kernel
theorem dX6_forms_6 : decode cX6_forms 6 = .ok (.getfield 60, 3) := by decide +kernel
theorem dX6_forms_9 : decode cX6_forms 9 = .ok (.aload_n 0, 1) := by decide +kernel
theorem dX6_forms_10 : decode cX6_forms 10 = .ok (.getfield 7, 3) := by decide +kernel
theorem dX6_forms_13 : decode cX6_forms 13 = .ok (.if_icmp .ge 6, 3) := by decide +kernel
theorem dX6_forms_16 : decode cX6_forms 16 = .ok (.bipush (-3), 2) := by decide +kernel
theorem dX6_forms_18 : decode cX6_forms 18 = .ok (.ireturn, 1) := by decide +kernel
theorem dX6_forms_19 : decode cX6_forms 19 = .ok (.iconst 0, 1) := by decide +kernel
theorem dX6_forms_20 : decode cX6_forms 20 = .ok (.istore_n 1, 1) := by decide +kernel
theorem dX6_forms_21 : decode cX6_forms 21 = .ok (.iconst 0, 1) := by decide +kernel
theorem dX6_forms_22 : decode cX6_forms 22 = .ok (.istore_n 2, 1) := by decide +kernel
theorem dX6_forms_23 : decode cX6_forms 23 = .ok (.iload_n 2, 1) := by decide +kernel
theorem dX6_forms_24 : decode cX6_forms 24 = .ok (.iconst 4, 1) := by decide +kernel
theorem dX6_forms_25 : decode cX6_forms 25 = .ok (.aload_n 0, 1) := by decide +kernel
theorem dX6_forms_26 : decode cX6_forms 26 = .ok (.getfield 7, 3) := by decide +kernel
theorem dX6_forms_29 : decode cX6_forms 29 = .ok (.imul, 1) := by decide +kernel
theorem dX6_forms_30 : decode cX6_forms 30 = .ok (.if_icmp .ge 157, 3) := by decide +kernel
theorem dX6_forms_33 : decode cX6_forms 33 = .ok (.aload_n 0, 1) := by decide +kernel
theorem dX6_forms_34 : decode cX6_forms 34 = .ok (.iload_n 2, 1) := by decide +kernel
theorem dX6_forms_35 : decode cX6_forms 35 = .ok (.aload_n 0, 1) := by decide +kernel
theorem dX6_forms_36 : decode cX6_forms 36 = .ok (.getfield 7, 3) := by decide +kernel
theorem dX6_forms_39 : decode cX6_forms 39 = .ok (.idiv, 1) := by decide +kernel
theorem dX6_forms_40 : decode cX6_forms 40 = .ok (.iload_n 2, 1) := by decide +kernel
theorem dX6_forms_41 : decode cX6_forms 41 = .ok (.aload_n 0, 1) := by decide +kernel
theorem dX6_forms_42 : decode cX6_forms 42 = .ok (.getfield 7, 3) := by decide +kernel
theorem dX6_forms_45 : decode cX6_forms 45 = .ok (.irem, 1) := by decide +kernel
theorem dX6_forms_46 : decode cX6_forms 46 = .ok (.invokevirtual 132, 3) := by decide +kernel
theorem dX6_forms_49 : decode cX6_forms 49 = .ok (.iconst 1, 1) := by decide +kernel
theorem dX6_forms_50 : decode cX6_forms 50 = .ok (.istore_n 3, 1) := by decide +kernel
theorem dX6_forms_51 : decode cX6_forms 51 = .ok (.iconst 0, 1) := by decide +kernel
theorem dX6_forms_52 : decode cX6_forms 52 = .ok (.istore 4, 2) := by decide +kernel
theorem dX6_forms_54 : decode cX6_forms 54 = .ok (.iload 4, 2) := by decide +kernel
theorem dX6_forms_56 : decode cX6_forms 56 = .ok (.iload_n 1, 1) := by decide +kernel
theorem dX6_forms_57 : decode cX6_forms 57 = .ok (.if_icmp .ge 80, 3) := by decide +kernel
theorem dX6_forms_60 : decode cX6_forms 60 = .ok (.iconst 1, 1) := by decide +kernel
theorem dX6_forms_61 : decode cX6_forms 61 = .ok (.istore 5, 2) := by decide +kernel
theorem dX6_forms_63 : decode cX6_forms 63 = .ok (.iconst 0, 1) := by decide +kernel
theorem dX6_forms_64 : decode cX6_forms 64 = .ok (.istore 6, 2) := by decide +kernel
theorem dX6_forms_66 : decode cX6_forms 66 = .ok (.iload 6, 2) := by decide +kernel
theorem dX6_forms_68 : decode cX6_forms 68 = .ok (.aload_n 0, 1) := by decide +kernel
theorem dX6_forms_69 : decode cX6_forms 69 = .ok (.getfield 7, 3) := by decide +kernel
theorem dX6_forms_72 : decode cX6_forms 72 = .ok (.if_icmp .ge 44, 3) := by decide +kernel
theorem dX6_forms_75 : decode cX6_forms 75 = .ok (.iload 5, 2) := by decide +kernel
theorem dX6_forms_77 : decode cX6_forms 77 = .ok (.ifCond .eq 30, 3) := by decide +kernel
theorem dX6_forms_80 : decode cX6_forms 80 = .ok (.aload_n 0, 1) := by decide +kernel
theorem dX6_forms_81 : decode cX6_forms 81 = .ok (.getfield 41, 3) := by decide +kernel
theorem dX6_forms_84 : decode cX6_forms 84 = .ok (.bipush 12, 2) := by decide +kernel
theorem dX6_forms_86 : decode cX6_forms 86 = .ok (.iload 4, 2) := by decide +kernel
theorem dX6_forms_88 : decode cX6_forms 88 = .ok (.imul, 1) := by decide +kernel
theorem dX6_forms_89 : decode cX6_forms 89 = .ok (.iload 6, 2) := by decide +kernel
theorem dX6_forms_91 : decode cX6_forms 91 = .ok (.iadd, 1) := by decide +kernel
theorem dX6_forms_92 : decode cX6_forms 92 = .ok (.iaload, 1) := by decide +kernel
theorem dX6_forms_93 : decode cX6_forms 93 = .ok (.aload_n 0, 1) := by decide +kernel
theorem dX6_forms_94 : decode cX6_forms 94 = .ok (.getfield 38, 3) := by decide +kernel
theorem dX6_forms_97 : decode cX6_forms 97 = .ok (.iload 6, 2) := by decide +kernel
theorem dX6_forms_99 : decode cX6_forms 99 = .ok (.iaload, 1) := by decide +kernel
theorem dX6_forms_100 : decode cX6_forms 100 = .ok (.if_icmp .ne 7, 3) := by decide +kernel
theorem dX6_forms_103 : decode cX6_forms 103 = .ok (.iconst 1, 1) := by decide +kernel
theorem dX6_forms_104 : decode cX6_forms 104 = .ok (.goto 4, 3) := by decide +kernel
theorem dX6_forms_107 : decode cX6_forms 107 = .ok (.iconst 0, 1) := by decide +kernel
theorem dX6_forms_108 : decode cX6_forms 108 = .ok (.istore 5, 2) := by decide +kernel
theorem dX6_forms_110 : decode cX6_forms 110 = .ok (.iinc 6 1, 3) := by decide +kernel
theorem dX6_forms_113 : decode cX6_forms 113 = .ok (.goto (-47), 3) := by decide +kernel
theorem dX6_forms_116 : decode cX6_forms 116 = .ok (.iload_n 3, 1) := by decide +kernel
theorem dX6_forms_117 : decode cX6_forms 117 = .ok (.ifCond .eq 12, 3) := by decide +kernel
theorem dX6_forms_120 : decode cX6_forms 120 = .ok (.iload 5, 2) := by decide +kernel
theorem dX6_forms_122 : decode cX6_forms 122 = .ok (.ifCond .ne 7, 3) := by decide +kernel
theorem dX6_forms_125 : decode cX6_forms 125 = .ok (.iconst 1, 1) := by decide +kernel
theorem dX6_forms_126 : decode cX6_forms 126 = .ok (.goto 4, 3) := by decide +kernel
theorem dX6_forms_129 : decode cX6_forms 129 = .ok (.iconst 0, 1) := by decide +kernel
theorem dX6_forms_130 : decode cX6_forms 130 = .ok (.istore_n 3, 1) := by decide +kernel
theorem dX6_forms_131 : decode cX6_forms 131 = .ok (.iinc 4 1, 3) := by decide +kernel
theorem dX6_forms_134 : decode cX6_forms 134 = .ok (.goto (-80), 3) := by decide +kernel
theorem dX6_forms_137 : decode cX6_forms 137 = .ok (.iload_n 3, 1) := by decide +kernel
theorem dX6_forms_138 : decode cX6_forms 138 = .ok (.ifCond .eq 43, 3) := by decide +kernel
theorem dX6_forms_141 : decode cX6_forms 141 = .ok (.iconst 0, 1) := by decide +kernel
theorem dX6_forms_142 : decode cX6_forms 142 = .ok (.istore 4, 2) := by decide +kernel
theorem dX6_forms_144 : decode cX6_forms 144 = .ok (.iload 4, 2) := by decide +kernel
theorem dX6_forms_146 : decode cX6_forms 146 = .ok (.aload_n 0, 1) := by decide +kernel
theorem dX6_forms_147 : decode cX6_forms 147 = .ok (.getfield 7, 3) := by decide +kernel
theorem dX6_forms_150 : decode cX6_forms 150 = .ok (.if_icmp .ge 28, 3) := by decide +kernel
theorem dX6_forms_153 : decode cX6_forms 153 = .ok (.aload_n 0, 1) := by decide +kernel
theorem dX6_forms_154 : decode cX6_forms 154 = .ok (.getfield 41, 3) := by decide +kernel
theorem dX6_forms_157 : decode cX6_forms 157 = .ok (.bipush 12, 2) := by decide +kernel
theorem dX6_forms_159 : decode cX6_forms 159 = .ok (.iload_n 1, 1) := by decide +kernel
theorem dX6_forms_160 : decode cX6_forms 160 = .ok (.imul, 1) := by decide +kernel
theorem dX6_forms_161 : decode cX6_forms 161 = .ok (.iload 4, 2) := by decide +kernel
theorem dX6_forms_163 : decode cX6_forms 163 = .ok (.iadd, 1) := by decide +kernel
theorem dX6_forms_164 : decode cX6_forms 164 = .ok (.aload_n 0, 1) := by decide +kernel
theorem dX6_forms_165 : decode cX6_forms 165 = .ok (.getfield 38, 3) := by decide +kernel
theorem dX6_forms_168 : decode cX6_forms 168 = .ok (.iload 4, 2) := by decide +kernel
theorem dX6_forms_170 : decode cX6_forms 170 = .ok (.iaload, 1) := by decide +kernel
theorem dX6_forms_171 : decode cX6_forms 171 = .ok (.iastore, 1) := by decide +kernel
theorem dX6_forms_172 : decode cX6_forms 172 = .ok (.iinc 4 1, 3) := by decide +kernel
theorem dX6_forms_175 : decode cX6_forms 175 = .ok (.goto (-31), 3) := by decide +kernel
theorem dX6_forms_178 : decode cX6_forms 178 = .ok (.iinc 1 1, 3) := by decide +kernel
theorem dX6_forms_181 : decode cX6_forms 181 = .ok (.iinc 2 1, 3) := by decide +kernel
theorem dX6_forms_184 : decode cX6_forms 184 = .ok (.goto (-161), 3) := by decide +kernel
theorem dX6_forms_187 : decode cX6_forms 187 = .ok (.iload_n 1, 1) := by decide +kernel
theorem dX6_forms_188 : decode cX6_forms 188 = .ok (.ireturn, 1) := by decide +kernel
set_option maxRecDepth 20000 in
theorem ggX6_table_X6_isStep : GoodIn wsX6_table wsX6_isStep := goodIn_r _ [10, 3, 15, 16, 17, 18, 19, 20, 21, 22, 23, 24, 25, 26, 27, 28, 29, 30, 31, 32, 33, 34] (by decide +kernel) (by decide +kernel)
set_option maxRecDepth 20000 in
theorem gX6_table_X6_isStep : GoodIn wsX6_table (wsV RX6 125 RX6 yX6_isStep wsX6_isStep) := goodIn_app (goodIn_of _ (by decide +kernel)) ggX6_table_X6_isStep
set_option maxRecDepth 20000 in
theorem ggX6_table_X6_layForm : GoodIn wsX6_table wsX6_layForm := goodIn_r _ [14, 3, 4, 5, 15, 16, 17, 18, 19, 20, 21, 22, 23, 24, 25, 26, 27, 28, 29, 30, 31, 32, 33, 34] (by decide +kernel) (by decide +kernel)
set_option maxRecDepth 20000 in
theorem gX6_table_X6_layForm : GoodIn wsX6_table (wsV RX6 132 RX6 yX6_layForm wsX6_layForm) := goodIn_app (goodIn_of _ (by decide +kernel)) ggX6_table_X6_layForm
theorem dX6_table_0 : decode cX6_table 0 = .ok (.aload_n 0, 1) := by decide +kernel
theorem dX6_table_1 : decode cX6_table 1 = .ok (.iconst 0, 1) := by decide +kernel
theorem dX6_table_2 : decode cX6_table 2 = .ok (.putfield 57, 3) := by decide +kernel
theorem dX6_table_5 : decode cX6_table 5 = .ok (.aload_n 0, 1) := by decide +kernel
theorem dX6_table_6 : decode cX6_table 6 = .ok (.getfield 60, 3) := by decide +kernel
theorem dX6_table_9 : decode cX6_table 9 = .ok (.aload_n 0, 1) := by decide +kernel
theorem dX6_table_10 : decode cX6_table 10 = .ok (.getfield 7, 3) := by decide +kernel
theorem dX6_table_13 : decode cX6_table 13 = .ok (.if_icmp .ge 6, 3) := by decide +kernel
theorem dX6_table_16 : decode cX6_table 16 = .ok (.bipush (-3), 2) := by decide +kernel
theorem dX6_table_18 : decode cX6_table 18 = .ok (.ireturn, 1) := by decide +kernel
theorem dX6_table_19 : decode cX6_table 19 = .ok (.aload_n 0, 1) := by decide +kernel
theorem dX6_table_20 : decode cX6_table 20 = .ok (.iload_n 1, 1) := by decide +kernel
theorem dX6_table_21 : decode cX6_table 21 = .ok (.invokevirtual 125, 3) := by decide +kernel
theorem dX6_table_24 : decode cX6_table 24 = .ok (.ifCond .eq 11, 3) := by decide +kernel
theorem dX6_table_27 : decode cX6_table 27 = .ok (.aload_n 0, 1) := by decide +kernel
theorem dX6_table_28 : decode cX6_table 28 = .ok (.iload_n 2, 1) := by decide +kernel
theorem dX6_table_29 : decode cX6_table 29 = .ok (.invokevirtual 125, 3) := by decide +kernel
theorem dX6_table_32 : decode cX6_table 32 = .ok (.ifCond .ne 5, 3) := by decide +kernel
theorem dX6_table_35 : decode cX6_table 35 = .ok (.iconst (-1), 1) := by decide +kernel
theorem dX6_table_36 : decode cX6_table 36 = .ok (.ireturn, 1) := by decide +kernel
theorem dX6_table_37 : decode cX6_table 37 = .ok (.aload_n 0, 1) := by decide +kernel
theorem dX6_table_38 : decode cX6_table 38 = .ok (.iconst 1, 1) := by decide +kernel
theorem dX6_table_39 : decode cX6_table 39 = .ok (.aload_n 0, 1) := by decide +kernel
theorem dX6_table_40 : decode cX6_table 40 = .ok (.getfield 35, 3) := by decide +kernel
theorem dX6_table_43 : decode cX6_table 43 = .ok (.iconst 0, 1) := by decide +kernel
theorem dX6_table_44 : decode cX6_table 44 = .ok (.iaload, 1) := by decide +kernel
theorem dX6_table_45 : decode cX6_table 45 = .ok (.invokevirtual 132, 3) := by decide +kernel
theorem dX6_table_48 : decode cX6_table 48 = .ok (.aload_n 0, 1) := by decide +kernel
theorem dX6_table_49 : decode cX6_table 49 = .ok (.getfield 38, 3) := by decide +kernel
theorem dX6_table_52 : decode cX6_table 52 = .ok (.iload_n 1, 1) := by decide +kernel
theorem dX6_table_53 : decode cX6_table 53 = .ok (.iaload, 1) := by decide +kernel
theorem dX6_table_54 : decode cX6_table 54 = .ok (.istore_n 3, 1) := by decide +kernel
theorem dX6_table_55 : decode cX6_table 55 = .ok (.aload_n 0, 1) := by decide +kernel
theorem dX6_table_56 : decode cX6_table 56 = .ok (.iconst 0, 1) := by decide +kernel
theorem dX6_table_57 : decode cX6_table 57 = .ok (.iload_n 3, 1) := by decide +kernel
theorem dX6_table_58 : decode cX6_table 58 = .ok (.invokevirtual 132, 3) := by decide +kernel
theorem dX6_table_61 : decode cX6_table 61 = .ok (.aload_n 0, 1) := by decide +kernel
theorem dX6_table_62 : decode cX6_table 62 = .ok (.getfield 38, 3) := by decide +kernel
theorem dX6_table_65 : decode cX6_table 65 = .ok (.iload_n 2, 1) := by decide +kernel
theorem dX6_table_66 : decode cX6_table 66 = .ok (.iaload, 1) := by decide +kernel
theorem dX6_table_67 : decode cX6_table 67 = .ok (.ireturn, 1) := by decide +kernel
theorem dX6_unlike_0 : decode cX6_unlike 0 = .ok (.aload_n 0, 1) := by decide +kernel
theorem dX6_unlike_1 : decode cX6_unlike 1 = .ok (.iconst 0, 1) := by decide +kernel
theorem dX6_unlike_2 : decode cX6_unlike 2 = .ok (.putfield 57, 3) := by decide +kernel
theorem dX6_unlike_5 : decode cX6_unlike 5 = .ok (.aload_n 0, 1) := by decide +kernel
theorem dX6_unlike_6 : decode cX6_unlike 6 = .ok (.getfield 60, 3) := by decide +kernel
theorem dX6_unlike_9 : decode cX6_unlike 9 = .ok (.aload_n 0, 1) := by decide +kernel
theorem dX6_unlike_10 : decode cX6_unlike 10 = .ok (.getfield 7, 3) := by decide +kernel
theorem dX6_unlike_13 : decode cX6_unlike 13 = .ok (.if_icmp .ge 6, 3) := by decide +kernel
theorem dX6_unlike_16 : decode cX6_unlike 16 = .ok (.bipush (-3), 2) := by decide +kernel
