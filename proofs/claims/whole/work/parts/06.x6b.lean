theorem dX6_findOrder_54 : decode cX6_findOrder 54 = .ok (.getfield 104, 3) := by decide +kernel
theorem dX6_findOrder_57 : decode cX6_findOrder 57 = .ok (.if_icmp .ge 119, 3) := by decide +kernel
theorem dX6_findOrder_60 : decode cX6_findOrder 60 = .ok (.iconst 0, 1) := by decide +kernel
theorem dX6_findOrder_61 : decode cX6_findOrder 61 = .ok (.istore 4, 2) := by decide +kernel
theorem dX6_findOrder_63 : decode cX6_findOrder 63 = .ok (.iload 4, 2) := by decide +kernel
theorem dX6_findOrder_65 : decode cX6_findOrder 65 = .ok (.aload_n 0, 1) := by decide +kernel
theorem dX6_findOrder_66 : decode cX6_findOrder 66 = .ok (.getfield 104, 3) := by decide +kernel
theorem dX6_findOrder_69 : decode cX6_findOrder 69 = .ok (.if_icmp .ge 47, 3) := by decide +kernel
theorem dX6_findOrder_72 : decode cX6_findOrder 72 = .ok (.aload_n 0, 1) := by decide +kernel
theorem dX6_findOrder_73 : decode cX6_findOrder 73 = .ok (.getfield 26, 3) := by decide +kernel
theorem dX6_findOrder_76 : decode cX6_findOrder 76 = .ok (.iload 4, 2) := by decide +kernel
theorem dX6_findOrder_78 : decode cX6_findOrder 78 = .ok (.aload_n 0, 1) := by decide +kernel
theorem dX6_findOrder_79 : decode cX6_findOrder 79 = .ok (.getfield 20, 3) := by decide +kernel
theorem dX6_findOrder_82 : decode cX6_findOrder 82 = .ok (.iload_n 3, 1) := by decide +kernel
theorem dX6_findOrder_83 : decode cX6_findOrder 83 = .ok (.iload 4, 2) := by decide +kernel
theorem dX6_findOrder_85 : decode cX6_findOrder 85 = .ok (.iadd, 1) := by decide +kernel
theorem dX6_findOrder_86 : decode cX6_findOrder 86 = .ok (.aload_n 0, 1) := by decide +kernel
theorem dX6_findOrder_87 : decode cX6_findOrder 87 = .ok (.getfield 104, 3) := by decide +kernel
theorem dX6_findOrder_90 : decode cX6_findOrder 90 = .ok (.irem, 1) := by decide +kernel
theorem dX6_findOrder_91 : decode cX6_findOrder 91 = .ok (.iaload, 1) := by decide +kernel
theorem dX6_findOrder_92 : decode cX6_findOrder 92 = .ok (.aload_n 0, 1) := by decide +kernel
theorem dX6_findOrder_93 : decode cX6_findOrder 93 = .ok (.getfield 20, 3) := by decide +kernel
theorem dX6_findOrder_96 : decode cX6_findOrder 96 = .ok (.iload_n 3, 1) := by decide +kernel
theorem dX6_findOrder_97 : decode cX6_findOrder 97 = .ok (.iaload, 1) := by decide +kernel
theorem dX6_findOrder_98 : decode cX6_findOrder 98 = .ok (.isub, 1) := by decide +kernel
theorem dX6_findOrder_99 : decode cX6_findOrder 99 = .ok (.aload_n 0, 1) := by decide +kernel
theorem dX6_findOrder_100 : decode cX6_findOrder 100 = .ok (.getfield 7, 3) := by decide +kernel
theorem dX6_findOrder_103 : decode cX6_findOrder 103 = .ok (.iadd, 1) := by decide +kernel
theorem dX6_findOrder_104 : decode cX6_findOrder 104 = .ok (.aload_n 0, 1) := by decide +kernel
theorem dX6_findOrder_105 : decode cX6_findOrder 105 = .ok (.getfield 7, 3) := by decide +kernel
theorem dX6_findOrder_108 : decode cX6_findOrder 108 = .ok (.irem, 1) := by decide +kernel
theorem dX6_findOrder_109 : decode cX6_findOrder 109 = .ok (.iastore, 1) := by decide +kernel
theorem dX6_findOrder_110 : decode cX6_findOrder 110 = .ok (.iinc 4 1, 3) := by decide +kernel
theorem dX6_findOrder_113 : decode cX6_findOrder 113 = .ok (.goto (-50), 3) := by decide +kernel
theorem dX6_findOrder_116 : decode cX6_findOrder 116 = .ok (.iload_n 3, 1) := by decide +kernel
theorem dX6_findOrder_117 : decode cX6_findOrder 117 = .ok (.ifCond .eq 11, 3) := by decide +kernel
theorem dX6_findOrder_120 : decode cX6_findOrder 120 = .ok (.aload_n 0, 1) := by decide +kernel
theorem dX6_findOrder_121 : decode cX6_findOrder 121 = .ok (.iload_n 2, 1) := by decide +kernel
theorem dX6_findOrder_122 : decode cX6_findOrder 122 = .ok (.invokevirtual 107, 3) := by decide +kernel
theorem dX6_findOrder_125 : decode cX6_findOrder 125 = .ok (.ifCond .eq 45, 3) := by decide +kernel
theorem dX6_findOrder_128 : decode cX6_findOrder 128 = .ok (.aload_n 0, 1) := by decide +kernel
theorem dX6_findOrder_129 : decode cX6_findOrder 129 = .ok (.aload_n 0, 1) := by decide +kernel
theorem dX6_findOrder_130 : decode cX6_findOrder 130 = .ok (.getfield 20, 3) := by decide +kernel
theorem dX6_findOrder_133 : decode cX6_findOrder 133 = .ok (.iload_n 3, 1) := by decide +kernel
theorem dX6_findOrder_134 : decode cX6_findOrder 134 = .ok (.iaload, 1) := by decide +kernel
theorem dX6_findOrder_135 : decode cX6_findOrder 135 = .ok (.putfield 110, 3) := by decide +kernel
theorem dX6_findOrder_138 : decode cX6_findOrder 138 = .ok (.iconst 0, 1) := by decide +kernel
theorem dX6_findOrder_139 : decode cX6_findOrder 139 = .ok (.istore 4, 2) := by decide +kernel
theorem dX6_findOrder_141 : decode cX6_findOrder 141 = .ok (.iload 4, 2) := by decide +kernel
theorem dX6_findOrder_143 : decode cX6_findOrder 143 = .ok (.aload_n 0, 1) := by decide +kernel
theorem dX6_findOrder_144 : decode cX6_findOrder 144 = .ok (.getfield 104, 3) := by decide +kernel
theorem dX6_findOrder_147 : decode cX6_findOrder 147 = .ok (.if_icmp .ge 23, 3) := by decide +kernel
theorem dX6_findOrder_150 : decode cX6_findOrder 150 = .ok (.aload_n 0, 1) := by decide +kernel
theorem dX6_findOrder_151 : decode cX6_findOrder 151 = .ok (.getfield 23, 3) := by decide +kernel
theorem dX6_findOrder_154 : decode cX6_findOrder 154 = .ok (.iload 4, 2) := by decide +kernel
theorem dX6_findOrder_156 : decode cX6_findOrder 156 = .ok (.aload_n 0, 1) := by decide +kernel
theorem dX6_findOrder_157 : decode cX6_findOrder 157 = .ok (.getfield 26, 3) := by decide +kernel
theorem dX6_findOrder_160 : decode cX6_findOrder 160 = .ok (.iload 4, 2) := by decide +kernel
theorem dX6_findOrder_162 : decode cX6_findOrder 162 = .ok (.iaload, 1) := by decide +kernel
theorem dX6_findOrder_163 : decode cX6_findOrder 163 = .ok (.iastore, 1) := by decide +kernel
theorem dX6_findOrder_164 : decode cX6_findOrder 164 = .ok (.iinc 4 1, 3) := by decide +kernel
theorem dX6_findOrder_167 : decode cX6_findOrder 167 = .ok (.goto (-26), 3) := by decide +kernel
theorem dX6_findOrder_170 : decode cX6_findOrder 170 = .ok (.iinc 3 1, 3) := by decide +kernel
theorem dX6_findOrder_173 : decode cX6_findOrder 173 = .ok (.goto (-121), 3) := by decide +kernel
theorem dX6_findOrder_176 : decode cX6_findOrder 176 = .ok (.return_, 1) := by decide +kernel
set_option maxRecDepth 20000 in
theorem ggX6_findPrime_X6_moved : GoodIn wsX6_findPrime wsX6_moved := goodIn_r _ [10, 1, 21, 22, 23, 24, 25, 26, 27, 28, 29, 30, 31, 32, 33, 34, 35, 36, 37, 38, 39, 40] (by decide +kernel) (by decide +kernel)
set_option maxRecDepth 20000 in
theorem gX6_findPrime_X6_moved : GoodIn wsX6_findPrime (wsV RX6 79 RX6 yX6_moved wsX6_moved) := goodIn_app (goodIn_of _ (by decide +kernel)) ggX6_findPrime_X6_moved
set_option maxRecDepth 20000 in
theorem ggX6_findPrime_X6_findOrder : GoodIn wsX6_findPrime wsX6_findOrder := goodIn_r _ [14, 2, 1, 15, 5, 16, 4, 17, 18, 19, 9, 20, 21, 22, 23, 24, 25, 26, 27, 28, 29, 30, 31, 32, 33, 34, 35, 36, 37, 38, 39, 40] (by decide +kernel) (by decide +kernel)
set_option maxRecDepth 20000 in
theorem gX6_findPrime_X6_findOrder : GoodIn wsX6_findPrime (wsV RX6 113 RX6 yX6_findOrder wsX6_findOrder) := goodIn_app (goodIn_of _ (by decide +kernel)) ggX6_findPrime_X6_findOrder
set_option maxRecDepth 20000 in
theorem ggX6_findPrime_X6_isLess : GoodIn wsX6_findPrime wsX6_isLess := goodIn_r _ [20, 5, 2, 4, 21, 22, 23, 24, 25, 26, 27, 28, 29, 30, 31, 32, 33, 34, 35, 36, 37, 38, 39, 40] (by decide +kernel) (by decide +kernel)
set_option maxRecDepth 20000 in
theorem gX6_findPrime_X6_isLess : GoodIn wsX6_findPrime (wsV RX6 107 RX6 yX6_isLess wsX6_isLess) := goodIn_app (goodIn_of _ (by decide +kernel)) ggX6_findPrime_X6_isLess
theorem dX6_findPrime_0 : decode cX6_findPrime 0 = .ok (.aload_n 0, 1) := by decide +kernel
theorem dX6_findPrime_1 : decode cX6_findPrime 1 = .ok (.aload_n 0, 1) := by decide +kernel
theorem dX6_findPrime_2 : decode cX6_findPrime 2 = .ok (.iload_n 1, 1) := by decide +kernel
theorem dX6_findPrime_3 : decode cX6_findPrime 3 = .ok (.aload_n 0, 1) := by decide +kernel
theorem dX6_findPrime_4 : decode cX6_findPrime 4 = .ok (.getfield 7, 3) := by decide +kernel
theorem dX6_findPrime_7 : decode cX6_findPrime 7 = .ok (.iconst 1, 1) := by decide +kernel
theorem dX6_findPrime_8 : decode cX6_findPrime 8 = .ok (.isub, 1) := by decide +kernel
theorem dX6_findPrime_9 : decode cX6_findPrime 9 = .ok (.iconst 0, 1) := by decide +kernel
theorem dX6_findPrime_10 : decode cX6_findPrime 10 = .ok (.invokevirtual 79, 3) := by decide +kernel
theorem dX6_findPrime_13 : decode cX6_findPrime 13 = .ok (.iload_n 2, 1) := by decide +kernel
theorem dX6_findPrime_14 : decode cX6_findPrime 14 = .ok (.invokevirtual 113, 3) := by decide +kernel
theorem dX6_findPrime_17 : decode cX6_findPrime 17 = .ok (.iconst 0, 1) := by decide +kernel
theorem dX6_findPrime_18 : decode cX6_findPrime 18 = .ok (.istore_n 3, 1) := by decide +kernel
theorem dX6_findPrime_19 : decode cX6_findPrime 19 = .ok (.iload_n 3, 1) := by decide +kernel
theorem dX6_findPrime_20 : decode cX6_findPrime 20 = .ok (.aload_n 0, 1) := by decide +kernel
theorem dX6_findPrime_21 : decode cX6_findPrime 21 = .ok (.getfield 104, 3) := by decide +kernel
theorem dX6_findPrime_24 : decode cX6_findPrime 24 = .ok (.if_icmp .ge 21, 3) := by decide +kernel
theorem dX6_findPrime_27 : decode cX6_findPrime 27 = .ok (.aload_n 0, 1) := by decide +kernel
theorem dX6_findPrime_28 : decode cX6_findPrime 28 = .ok (.getfield 29, 3) := by decide +kernel
theorem dX6_findPrime_31 : decode cX6_findPrime 31 = .ok (.iload_n 3, 1) := by decide +kernel
theorem dX6_findPrime_32 : decode cX6_findPrime 32 = .ok (.aload_n 0, 1) := by decide +kernel
theorem dX6_findPrime_33 : decode cX6_findPrime 33 = .ok (.getfield 23, 3) := by decide +kernel
theorem dX6_findPrime_36 : decode cX6_findPrime 36 = .ok (.iload_n 3, 1) := by decide +kernel
theorem dX6_findPrime_37 : decode cX6_findPrime 37 = .ok (.iaload, 1) := by decide +kernel
theorem dX6_findPrime_38 : decode cX6_findPrime 38 = .ok (.iastore, 1) := by decide +kernel
theorem dX6_findPrime_39 : decode cX6_findPrime 39 = .ok (.iinc 3 1, 3) := by decide +kernel
theorem dX6_findPrime_42 : decode cX6_findPrime 42 = .ok (.goto (-23), 3) := by decide +kernel
theorem dX6_findPrime_45 : decode cX6_findPrime 45 = .ok (.aload_n 0, 1) := by decide +kernel
theorem dX6_findPrime_46 : decode cX6_findPrime 46 = .ok (.iload_n 1, 1) := by decide +kernel
theorem dX6_findPrime_47 : decode cX6_findPrime 47 = .ok (.iload_n 2, 1) := by decide +kernel
theorem dX6_findPrime_48 : decode cX6_findPrime 48 = .ok (.invokevirtual 113, 3) := by decide +kernel
theorem dX6_findPrime_51 : decode cX6_findPrime 51 = .ok (.iconst 0, 1) := by decide +kernel
theorem dX6_findPrime_52 : decode cX6_findPrime 52 = .ok (.istore_n 3, 1) := by decide +kernel
theorem dX6_findPrime_53 : decode cX6_findPrime 53 = .ok (.iload_n 3, 1) := by decide +kernel
theorem dX6_findPrime_54 : decode cX6_findPrime 54 = .ok (.aload_n 0, 1) := by decide +kernel
theorem dX6_findPrime_55 : decode cX6_findPrime 55 = .ok (.getfield 104, 3) := by decide +kernel
theorem dX6_findPrime_58 : decode cX6_findPrime 58 = .ok (.if_icmp .ge 21, 3) := by decide +kernel
theorem dX6_findPrime_61 : decode cX6_findPrime 61 = .ok (.aload_n 0, 1) := by decide +kernel
theorem dX6_findPrime_62 : decode cX6_findPrime 62 = .ok (.getfield 26, 3) := by decide +kernel
theorem dX6_findPrime_65 : decode cX6_findPrime 65 = .ok (.iload_n 3, 1) := by decide +kernel
theorem dX6_findPrime_66 : decode cX6_findPrime 66 = .ok (.aload_n 0, 1) := by decide +kernel
theorem dX6_findPrime_67 : decode cX6_findPrime 67 = .ok (.getfield 29, 3) := by decide +kernel
theorem dX6_findPrime_70 : decode cX6_findPrime 70 = .ok (.iload_n 3, 1) := by decide +kernel
theorem dX6_findPrime_71 : decode cX6_findPrime 71 = .ok (.iaload, 1) := by decide +kernel
theorem dX6_findPrime_72 : decode cX6_findPrime 72 = .ok (.iastore, 1) := by decide +kernel
theorem dX6_findPrime_73 : decode cX6_findPrime 73 = .ok (.iinc 3 1, 3) := by decide +kernel
theorem dX6_findPrime_76 : decode cX6_findPrime 76 = .ok (.goto (-23), 3) := by decide +kernel
theorem dX6_findPrime_79 : decode cX6_findPrime 79 = .ok (.aload_n 0, 1) := by decide +kernel
theorem dX6_findPrime_80 : decode cX6_findPrime 80 = .ok (.iload_n 2, 1) := by decide +kernel
theorem dX6_findPrime_81 : decode cX6_findPrime 81 = .ok (.invokevirtual 107, 3) := by decide +kernel
theorem dX6_findPrime_84 : decode cX6_findPrime 84 = .ok (.ifCond .eq 31, 3) := by decide +kernel
theorem dX6_findPrime_87 : decode cX6_findPrime 87 = .ok (.iconst 0, 1) := by decide +kernel
theorem dX6_findPrime_88 : decode cX6_findPrime 88 = .ok (.istore_n 3, 1) := by decide +kernel
theorem dX6_findPrime_89 : decode cX6_findPrime 89 = .ok (.iload_n 3, 1) := by decide +kernel
theorem dX6_findPrime_90 : decode cX6_findPrime 90 = .ok (.aload_n 0, 1) := by decide +kernel
theorem dX6_findPrime_91 : decode cX6_findPrime 91 = .ok (.getfield 104, 3) := by decide +kernel
theorem dX6_findPrime_94 : decode cX6_findPrime 94 = .ok (.if_icmp .ge 21, 3) := by decide +kernel
theorem dX6_findPrime_97 : decode cX6_findPrime 97 = .ok (.aload_n 0, 1) := by decide +kernel
theorem dX6_findPrime_98 : decode cX6_findPrime 98 = .ok (.getfield 23, 3) := by decide +kernel
theorem dX6_findPrime_101 : decode cX6_findPrime 101 = .ok (.iload_n 3, 1) := by decide +kernel
theorem dX6_findPrime_102 : decode cX6_findPrime 102 = .ok (.aload_n 0, 1) := by decide +kernel
theorem dX6_findPrime_103 : decode cX6_findPrime 103 = .ok (.getfield 26, 3) := by decide +kernel
theorem dX6_findPrime_106 : decode cX6_findPrime 106 = .ok (.iload_n 3, 1) := by decide +kernel
theorem dX6_findPrime_107 : decode cX6_findPrime 107 = .ok (.iaload, 1) := by decide +kernel
theorem dX6_findPrime_108 : decode cX6_findPrime 108 = .ok (.iastore, 1) := by decide +kernel
theorem dX6_findPrime_109 : decode cX6_findPrime 109 = .ok (.iinc 3 1, 3) := by decide +kernel
theorem dX6_findPrime_112 : decode cX6_findPrime 112 = .ok (.goto (-23), 3) := by decide +kernel
theorem dX6_findPrime_115 : decode cX6_findPrime 115 = .ok (.return_, 1) := by decide +kernel
set_option maxRecDepth 20000 in
theorem ggX6_normal_X6_isSet : GoodIn wsX6_normal wsX6_isSet := goodIn_r _ [10, 5, 24, 25, 26, 27, 28, 29, 30, 31, 32, 33, 34, 35, 36, 37, 38, 39, 40, 41, 42, 43] (by decide +kernel) (by decide +kernel)
set_option maxRecDepth 20000 in
theorem gX6_normal_X6_isSet : GoodIn wsX6_normal (wsV RX6 86 RX6 yX6_isSet wsX6_isSet) := goodIn_app (goodIn_of _ (by decide +kernel)) ggX6_normal_X6_isSet
set_option maxRecDepth 20000 in
theorem ggX6_normal_X6_isIn : GoodIn wsX6_normal wsX6_isIn := goodIn_r _ [13] (by decide +kernel) (by decide +kernel)
set_option maxRecDepth 20000 in
theorem gX6_normal_X6_isIn : GoodIn wsX6_normal (va_wsS RX6 90 yX6_isIn wsX6_isIn) := goodIn_app (goodIn_of _ (by decide +kernel)) ggX6_normal_X6_isIn
set_option maxRecDepth 20000 in
theorem ggX6_normal_X6_findOrder : GoodIn wsX6_normal wsX6_findOrder := goodIn_r _ [17, 2, 5, 18, 19, 3, 4, 20, 21, 22, 9, 23, 24, 25, 26, 27, 28, 29, 30, 31, 32, 33, 34, 35, 36, 37, 38, 39, 40, 41, 42, 43] (by decide +kernel) (by decide +kernel)
set_option maxRecDepth 20000 in
theorem gX6_normal_X6_findOrder : GoodIn wsX6_normal (wsV RX6 113 RX6 yX6_findOrder wsX6_findOrder) := goodIn_app (goodIn_of _ (by decide +kernel)) ggX6_normal_X6_findOrder
theorem dX6_normal_0 : decode cX6_normal 0 = .ok (.aload_n 0, 1) := by decide +kernel
theorem dX6_normal_1 : decode cX6_normal 1 = .ok (.iconst 0, 1) := by decide +kernel
theorem dX6_normal_2 : decode cX6_normal 2 = .ok (.putfield 57, 3) := by decide +kernel
theorem dX6_normal_5 : decode cX6_normal 5 = .ok (.aload_n 0, 1) := by decide +kernel
theorem dX6_normal_6 : decode cX6_normal 6 = .ok (.iload_n 1, 1) := by decide +kernel
theorem dX6_normal_7 : decode cX6_normal 7 = .ok (.invokevirtual 86, 3) := by decide +kernel
theorem dX6_normal_10 : decode cX6_normal 10 = .ok (.ifCond .eq 12, 3) := by decide +kernel
theorem dX6_normal_13 : decode cX6_normal 13 = .ok (.iload_n 2, 1) := by decide +kernel
theorem dX6_normal_14 : decode cX6_normal 14 = .ok (.iconst 0, 1) := by decide +kernel
theorem dX6_normal_15 : decode cX6_normal 15 = .ok (.iconst 1, 1) := by decide +kernel
theorem dX6_normal_16 : decode cX6_normal 16 = .ok (.invokestatic 90, 3) := by decide +kernel
theorem dX6_normal_19 : decode cX6_normal 19 = .ok (.ifCond .ne 6, 3) := by decide +kernel
theorem dX6_normal_22 : decode cX6_normal 22 = .ok (.bipush (-2), 2) := by decide +kernel
theorem dX6_normal_24 : decode cX6_normal 24 = .ok (.ireturn, 1) := by decide +kernel
theorem dX6_normal_25 : decode cX6_normal 25 = .ok (.iload_n 1, 1) := by decide +kernel
theorem dX6_normal_26 : decode cX6_normal 26 = .ok (.ifCond .ne 6, 3) := by decide +kernel
theorem dX6_normal_29 : decode cX6_normal 29 = .ok (.bipush (-3), 2) := by decide +kernel
theorem dX6_normal_31 : decode cX6_normal 31 = .ok (.ireturn, 1) := by decide +kernel
theorem dX6_normal_32 : decode cX6_normal 32 = .ok (.aload_n 0, 1) := by decide +kernel
theorem dX6_normal_33 : decode cX6_normal 33 = .ok (.iload_n 1, 1) := by decide +kernel
theorem dX6_normal_34 : decode cX6_normal 34 = .ok (.iload_n 2, 1) := by decide +kernel
theorem dX6_normal_35 : decode cX6_normal 35 = .ok (.invokevirtual 113, 3) := by decide +kernel
theorem dX6_normal_38 : decode cX6_normal 38 = .ok (.iload_n 3, 1) := by decide +kernel
theorem dX6_normal_39 : decode cX6_normal 39 = .ok (.iconst 0, 1) := by decide +kernel
theorem dX6_normal_40 : decode cX6_normal 40 = .ok (.aload_n 0, 1) := by decide +kernel
theorem dX6_normal_41 : decode cX6_normal 41 = .ok (.getfield 104, 3) := by decide +kernel
theorem dX6_normal_44 : decode cX6_normal 44 = .ok (.iconst 1, 1) := by decide +kernel
theorem dX6_normal_45 : decode cX6_normal 45 = .ok (.isub, 1) := by decide +kernel
theorem dX6_normal_46 : decode cX6_normal 46 = .ok (.invokestatic 90, 3) := by decide +kernel
theorem dX6_normal_49 : decode cX6_normal 49 = .ok (.ifCond .eq 22, 3) := by decide +kernel
theorem dX6_normal_52 : decode cX6_normal 52 = .ok (.aload_n 0, 1) := by decide +kernel
theorem dX6_normal_53 : decode cX6_normal 53 = .ok (.getfield 110, 3) := by decide +kernel
theorem dX6_normal_56 : decode cX6_normal 56 = .ok (.aload_n 0, 1) := by decide +kernel
theorem dX6_normal_57 : decode cX6_normal 57 = .ok (.getfield 23, 3) := by decide +kernel
theorem dX6_normal_60 : decode cX6_normal 60 = .ok (.iload_n 3, 1) := by decide +kernel
theorem dX6_normal_61 : decode cX6_normal 61 = .ok (.iaload, 1) := by decide +kernel
theorem dX6_normal_62 : decode cX6_normal 62 = .ok (.iadd, 1) := by decide +kernel
theorem dX6_normal_63 : decode cX6_normal 63 = .ok (.aload_n 0, 1) := by decide +kernel
theorem dX6_normal_64 : decode cX6_normal 64 = .ok (.getfield 7, 3) := by decide +kernel
theorem dX6_normal_67 : decode cX6_normal 67 = .ok (.irem, 1) := by decide +kernel
theorem dX6_normal_68 : decode cX6_normal 68 = .ok (.goto 4, 3) := by decide +kernel
theorem dX6_normal_71 : decode cX6_normal 71 = .ok (.iconst (-1), 1) := by decide +kernel
theorem dX6_normal_72 : decode cX6_normal 72 = .ok (.ireturn, 1) := by decide +kernel
set_option maxRecDepth 20000 in
theorem ggX6_prime_X6_isSet : GoodIn wsX6_prime wsX6_isSet := goodIn_r _ [8, 9, 33, 34, 35, 36, 37, 38, 39, 40, 41, 42, 43, 44, 45, 46, 47, 48, 49, 50, 51, 52] (by decide +kernel) (by decide +kernel)
set_option maxRecDepth 20000 in
theorem gX6_prime_X6_isSet : GoodIn wsX6_prime (wsV RX6 86 RX6 yX6_isSet wsX6_isSet) := goodIn_app (goodIn_of _ (by decide +kernel)) ggX6_prime_X6_isSet
set_option maxRecDepth 20000 in
theorem ggX6_prime_X6_isIn : GoodIn wsX6_prime wsX6_isIn := goodIn_r _ [12] (by decide +kernel) (by decide +kernel)
set_option maxRecDepth 20000 in
theorem gX6_prime_X6_isIn : GoodIn wsX6_prime (va_wsS RX6 90 yX6_isIn wsX6_isIn) := goodIn_app (goodIn_of _ (by decide +kernel)) ggX6_prime_X6_isIn
set_option maxRecDepth 20000 in
theorem ggX6_prime_X6_findPrime : GoodIn wsX6_prime wsX6_findPrime := goodIn_r _ [16, 9, 2, 17, 3, 18, 19, 20, 21, 7, 22, 23, 24, 25, 26, 27, 28, 29, 30, 31, 32, 33, 34, 35, 36, 37, 38, 39, 40, 41, 42, 43, 44, 45, 46, 47, 48, 49, 50, 51, 52] (by decide +kernel) (by decide +kernel)
set_option maxRecDepth 20000 in
theorem gX6_prime_X6_findPrime : GoodIn wsX6_prime (wsV RX6 116 RX6 yX6_findPrime wsX6_findPrime) := goodIn_app (goodIn_of _ (by decide +kernel)) ggX6_prime_X6_findPrime
theorem dX6_prime_0 : decode cX6_prime 0 = .ok (.aload_n 0, 1) := by decide +kernel
theorem dX6_prime_1 : decode cX6_prime 1 = .ok (.iconst 0, 1) := by decide +kernel
theorem dX6_prime_2 : decode cX6_prime 2 = .ok (.putfield 57, 3) := by decide +kernel
theorem dX6_prime_5 : decode cX6_prime 5 = .ok (.aload_n 0, 1) := by decide +kernel
theorem dX6_prime_6 : decode cX6_prime 6 = .ok (.iload_n 1, 1) := by decide +kernel
theorem dX6_prime_7 : decode cX6_prime 7 = .ok (.invokevirtual 86, 3) := by decide +kernel
theorem dX6_prime_10 : decode cX6_prime 10 = .ok (.ifCond .eq 12, 3) := by decide +kernel
theorem dX6_prime_13 : decode cX6_prime 13 = .ok (.iload_n 2, 1) := by decide +kernel
theorem dX6_prime_14 : decode cX6_prime 14 = .ok (.iconst 0, 1) := by decide +kernel
theorem dX6_prime_15 : decode cX6_prime 15 = .ok (.iconst 1, 1) := by decide +kernel
theorem dX6_prime_16 : decode cX6_prime 16 = .ok (.invokestatic 90, 3) := by decide +kernel
theorem dX6_prime_19 : decode cX6_prime 19 = .ok (.ifCond .ne 6, 3) := by decide +kernel
theorem dX6_prime_22 : decode cX6_prime 22 = .ok (.bipush (-2), 2) := by decide +kernel
theorem dX6_prime_24 : decode cX6_prime 24 = .ok (.ireturn, 1) := by decide +kernel
theorem dX6_prime_25 : decode cX6_prime 25 = .ok (.iload_n 1, 1) := by decide +kernel
theorem dX6_prime_26 : decode cX6_prime 26 = .ok (.ifCond .ne 6, 3) := by decide +kernel
theorem dX6_prime_29 : decode cX6_prime 29 = .ok (.bipush (-3), 2) := by decide +kernel
theorem dX6_prime_31 : decode cX6_prime 31 = .ok (.ireturn, 1) := by decide +kernel
theorem dX6_prime_32 : decode cX6_prime 32 = .ok (.aload_n 0, 1) := by decide +kernel
theorem dX6_prime_33 : decode cX6_prime 33 = .ok (.iload_n 1, 1) := by decide +kernel
theorem dX6_prime_34 : decode cX6_prime 34 = .ok (.iload_n 2, 1) := by decide +kernel
theorem dX6_prime_35 : decode cX6_prime 35 = .ok (.invokevirtual 116, 3) := by decide +kernel
theorem dX6_prime_38 : decode cX6_prime 38 = .ok (.iload_n 3, 1) := by decide +kernel
theorem dX6_prime_39 : decode cX6_prime 39 = .ok (.iconst 0, 1) := by decide +kernel
theorem dX6_prime_40 : decode cX6_prime 40 = .ok (.aload_n 0, 1) := by decide +kernel
theorem dX6_prime_41 : decode cX6_prime 41 = .ok (.getfield 104, 3) := by decide +kernel
theorem dX6_prime_44 : decode cX6_prime 44 = .ok (.iconst 1, 1) := by decide +kernel
theorem dX6_prime_45 : decode cX6_prime 45 = .ok (.isub, 1) := by decide +kernel
theorem dX6_prime_46 : decode cX6_prime 46 = .ok (.invokestatic 90, 3) := by decide +kernel
theorem dX6_prime_49 : decode cX6_prime 49 = .ok (.ifCond .eq 12, 3) := by decide +kernel
theorem dX6_prime_52 : decode cX6_prime 52 = .ok (.aload_n 0, 1) := by decide +kernel
theorem dX6_prime_53 : decode cX6_prime 53 = .ok (.getfield 23, 3) := by decide +kernel
theorem dX6_prime_56 : decode cX6_prime 56 = .ok (.iload_n 3, 1) := by decide +kernel
theorem dX6_prime_57 : decode cX6_prime 57 = .ok (.iaload, 1) := by decide +kernel
theorem dX6_prime_58 : decode cX6_prime 58 = .ok (.goto 4, 3) := by decide +kernel
theorem dX6_prime_61 : decode cX6_prime 61 = .ok (.iconst (-1), 1) := by decide +kernel
theorem dX6_prime_62 : decode cX6_prime 62 = .ok (.ireturn, 1) := by decide +kernel
set_option maxRecDepth 20000 in
theorem ggX6_differ_X6_isIn : GoodIn wsX6_differ wsX6_isIn := goodIn_r _ [9] (by decide +kernel) (by decide +kernel)
set_option maxRecDepth 20000 in
theorem gX6_differ_X6_isIn : GoodIn wsX6_differ (va_wsS RX6 90 yX6_isIn wsX6_isIn) := goodIn_app (goodIn_of _ (by decide +kernel)) ggX6_differ_X6_isIn
set_option maxRecDepth 20000 in
theorem ggX6_differ_X6_leads : GoodIn wsX6_differ wsX6_leads := goodIn_r _ [13, 14, 15, 8, 16, 17, 18, 19, 20, 21, 22, 23, 24, 25, 26, 27, 2, 28, 29, 30, 31, 32, 33, 34, 35, 36, 37, 38, 39, 40, 41, 42, 59, 60, 61, 62, 63, 64, 65, 66, 67, 68, 69, 70, 71, 72, 73, 74, 75, 76, 77, 78] (by decide +kernel) (by decide +kernel)
set_option maxRecDepth 20000 in
theorem gX6_differ_X6_leads : GoodIn wsX6_differ (wsV RX6 101 RX6 yX6_leads wsX6_leads) := goodIn_app (goodIn_of _ (by decide +kernel)) ggX6_differ_X6_leads
set_option maxRecDepth 20000 in
theorem ggX6_differ_X6_findPrime : GoodIn wsX6_differ wsX6_findPrime := goodIn_r _ [46, 2, 3, 47, 5, 48, 39, 40, 41, 8, 42, 49, 50, 51, 52, 53, 54, 55, 56, 57, 58, 59, 60, 61, 62, 63, 64, 65, 66, 67, 68, 69, 70, 71, 72, 73, 74, 75, 76, 77, 78] (by decide +kernel) (by decide +kernel)
set_option maxRecDepth 20000 in
theorem gX6_differ_X6_findPrime : GoodIn wsX6_differ (wsV RX6 116 RX6 yX6_findPrime wsX6_findPrime) := goodIn_app (goodIn_of _ (by decide +kernel)) ggX6_differ_X6_findPrime
theorem dX6_differ_0 : decode cX6_differ 0 = .ok (.aload_n 0, 1) := by decide +kernel
theorem dX6_differ_1 : decode cX6_differ 1 = .ok (.iconst 0, 1) := by decide +kernel
theorem dX6_differ_2 : decode cX6_differ 2 = .ok (.putfield 57, 3) := by decide +kernel
theorem dX6_differ_5 : decode cX6_differ 5 = .ok (.iload_n 1, 1) := by decide +kernel
theorem dX6_differ_6 : decode cX6_differ 6 = .ok (.iconst 0, 1) := by decide +kernel
theorem dX6_differ_7 : decode cX6_differ 7 = .ok (.aload_n 0, 1) := by decide +kernel
theorem dX6_differ_8 : decode cX6_differ 8 = .ok (.getfield 7, 3) := by decide +kernel
theorem dX6_differ_11 : decode cX6_differ 11 = .ok (.invokestatic 90, 3) := by decide +kernel
theorem dX6_differ_14 : decode cX6_differ 14 = .ok (.ifCond .ne 6, 3) := by decide +kernel
theorem dX6_differ_17 : decode cX6_differ 17 = .ok (.bipush (-2), 2) := by decide +kernel
theorem dX6_differ_19 : decode cX6_differ 19 = .ok (.ireturn, 1) := by decide +kernel
theorem dX6_differ_20 : decode cX6_differ 20 = .ok (.iconst 0, 1) := by decide +kernel
theorem dX6_differ_21 : decode cX6_differ 21 = .ok (.istore_n 2, 1) := by decide +kernel
theorem dX6_differ_22 : decode cX6_differ 22 = .ok (.iconst 1, 1) := by decide +kernel
theorem dX6_differ_23 : decode cX6_differ 23 = .ok (.istore_n 3, 1) := by decide +kernel
theorem dX6_differ_24 : decode cX6_differ 24 = .ok (.iload_n 3, 1) := by decide +kernel
theorem dX6_differ_25 : decode cX6_differ 25 = .ok (.iconst 1, 1) := by decide +kernel
theorem dX6_differ_26 : decode cX6_differ 26 = .ok (.aload_n 0, 1) := by decide +kernel
theorem dX6_differ_27 : decode cX6_differ 27 = .ok (.getfield 7, 3) := by decide +kernel
theorem dX6_differ_30 : decode cX6_differ 30 = .ok (.ishl, 1) := by decide +kernel
theorem dX6_differ_31 : decode cX6_differ 31 = .ok (.if_icmp .ge 129, 3) := by decide +kernel
theorem dX6_differ_34 : decode cX6_differ 34 = .ok (.aload_n 0, 1) := by decide +kernel
theorem dX6_differ_35 : decode cX6_differ 35 = .ok (.iconst 1, 1) := by decide +kernel
theorem dX6_differ_36 : decode cX6_differ 36 = .ok (.iload_n 3, 1) := by decide +kernel
theorem dX6_differ_37 : decode cX6_differ 37 = .ok (.iload_n 1, 1) := by decide +kernel
theorem dX6_differ_38 : decode cX6_differ 38 = .ok (.invokevirtual 101, 3) := by decide +kernel
theorem dX6_differ_41 : decode cX6_differ 41 = .ok (.ifCond .ne 6, 3) := by decide +kernel
theorem dX6_differ_44 : decode cX6_differ 44 = .ok (.goto 110, 3) := by decide +kernel
theorem dX6_differ_47 : decode cX6_differ 47 = .ok (.aload_n 0, 1) := by decide +kernel
theorem dX6_differ_48 : decode cX6_differ 48 = .ok (.iload_n 3, 1) := by decide +kernel
theorem dX6_differ_49 : decode cX6_differ 49 = .ok (.iconst 0, 1) := by decide +kernel
theorem dX6_differ_50 : decode cX6_differ 50 = .ok (.invokevirtual 116, 3) := by decide +kernel
theorem dX6_differ_53 : decode cX6_differ 53 = .ok (.iconst 0, 1) := by decide +kernel
theorem dX6_differ_54 : decode cX6_differ 54 = .ok (.istore 4, 2) := by decide +kernel
theorem dX6_differ_56 : decode cX6_differ 56 = .ok (.iload 4, 2) := by decide +kernel
theorem dX6_differ_58 : decode cX6_differ 58 = .ok (.aload_n 0, 1) := by decide +kernel
theorem dX6_differ_59 : decode cX6_differ 59 = .ok (.getfield 104, 3) := by decide +kernel
theorem dX6_differ_62 : decode cX6_differ 62 = .ok (.if_icmp .ge 23, 3) := by decide +kernel
theorem dX6_differ_65 : decode cX6_differ 65 = .ok (.aload_n 0, 1) := by decide +kernel
theorem dX6_differ_66 : decode cX6_differ 66 = .ok (.getfield 32, 3) := by decide +kernel
theorem dX6_differ_69 : decode cX6_differ 69 = .ok (.iload 4, 2) := by decide +kernel
theorem dX6_differ_71 : decode cX6_differ 71 = .ok (.aload_n 0, 1) := by decide +kernel
theorem dX6_differ_72 : decode cX6_differ 72 = .ok (.getfield 23, 3) := by decide +kernel
theorem dX6_differ_75 : decode cX6_differ 75 = .ok (.iload 4, 2) := by decide +kernel
theorem dX6_differ_77 : decode cX6_differ 77 = .ok (.iaload, 1) := by decide +kernel
theorem dX6_differ_78 : decode cX6_differ 78 = .ok (.iastore, 1) := by decide +kernel
theorem dX6_differ_79 : decode cX6_differ 79 = .ok (.iinc 4 1, 3) := by decide +kernel
theorem dX6_differ_82 : decode cX6_differ 82 = .ok (.goto (-26), 3) := by decide +kernel
theorem dX6_differ_85 : decode cX6_differ 85 = .ok (.aload_n 0, 1) := by decide +kernel
theorem dX6_differ_86 : decode cX6_differ 86 = .ok (.iload_n 3, 1) := by decide +kernel
theorem dX6_differ_87 : decode cX6_differ 87 = .ok (.iconst 1, 1) := by decide +kernel
theorem dX6_differ_88 : decode cX6_differ 88 = .ok (.invokevirtual 116, 3) := by decide +kernel
theorem dX6_differ_91 : decode cX6_differ 91 = .ok (.iconst 1, 1) := by decide +kernel
theorem dX6_differ_92 : decode cX6_differ 92 = .ok (.istore 4, 2) := by decide +kernel
theorem dX6_differ_94 : decode cX6_differ 94 = .ok (.iconst 0, 1) := by decide +kernel
theorem dX6_differ_95 : decode cX6_differ 95 = .ok (.istore 5, 2) := by decide +kernel
theorem dX6_differ_97 : decode cX6_differ 97 = .ok (.iload 5, 2) := by decide +kernel
theorem dX6_differ_99 : decode cX6_differ 99 = .ok (.aload_n 0, 1) := by decide +kernel
theorem dX6_differ_100 : decode cX6_differ 100 = .ok (.getfield 104, 3) := by decide +kernel
theorem dX6_differ_103 : decode cX6_differ 103 = .ok (.if_icmp .ge 38, 3) := by decide +kernel
theorem dX6_differ_106 : decode cX6_differ 106 = .ok (.iload 4, 2) := by decide +kernel
theorem dX6_differ_108 : decode cX6_differ 108 = .ok (.ifCond .eq 24, 3) := by decide +kernel
theorem dX6_differ_111 : decode cX6_differ 111 = .ok (.aload_n 0, 1) := by decide +kernel
theorem dX6_differ_112 : decode cX6_differ 112 = .ok (.getfield 32, 3) := by decide +kernel
theorem dX6_differ_115 : decode cX6_differ 115 = .ok (.iload 5, 2) := by decide +kernel
theorem dX6_differ_117 : decode cX6_differ 117 = .ok (.iaload, 1) := by decide +kernel
theorem dX6_differ_118 : decode cX6_differ 118 = .ok (.aload_n 0, 1) := by decide +kernel
theorem dX6_differ_119 : decode cX6_differ 119 = .ok (.getfield 23, 3) := by decide +kernel
theorem dX6_differ_122 : decode cX6_differ 122 = .ok (.iload 5, 2) := by decide +kernel
theorem dX6_differ_124 : decode cX6_differ 124 = .ok (.iaload, 1) := by decide +kernel
theorem dX6_differ_125 : decode cX6_differ 125 = .ok (.if_icmp .ne 7, 3) := by decide +kernel
theorem dX6_differ_128 : decode cX6_differ 128 = .ok (.iconst 1, 1) := by decide +kernel
theorem dX6_differ_129 : decode cX6_differ 129 = .ok (.goto 4, 3) := by decide +kernel
theorem dX6_differ_132 : decode cX6_differ 132 = .ok (.iconst 0, 1) := by decide +kernel
theorem dX6_differ_133 : decode cX6_differ 133 = .ok (.istore 4, 2) := by decide +kernel
theorem dX6_differ_135 : decode cX6_differ 135 = .ok (.iinc 5 1, 3) := by decide +kernel
theorem dX6_differ_138 : decode cX6_differ 138 = .ok (.goto (-41), 3) := by decide +kernel
theorem dX6_differ_141 : decode cX6_differ 141 = .ok (.iload_n 2, 1) := by decide +kernel
theorem dX6_differ_142 : decode cX6_differ 142 = .ok (.iload 4, 2) := by decide +kernel
theorem dX6_differ_144 : decode cX6_differ 144 = .ok (.ifCond .eq 7, 3) := by decide +kernel
theorem dX6_differ_147 : decode cX6_differ 147 = .ok (.iconst 0, 1) := by decide +kernel
theorem dX6_differ_148 : decode cX6_differ 148 = .ok (.goto 4, 3) := by decide +kernel
theorem dX6_differ_151 : decode cX6_differ 151 = .ok (.iconst 1, 1) := by decide +kernel
theorem dX6_differ_152 : decode cX6_differ 152 = .ok (.iadd, 1) := by decide +kernel
theorem dX6_differ_153 : decode cX6_differ 153 = .ok (.istore_n 2, 1) := by decide +kernel
theorem dX6_differ_154 : decode cX6_differ 154 = .ok (.iinc 3 1, 3) := by decide +kernel
theorem dX6_differ_157 : decode cX6_differ 157 = .ok (.goto (-133), 3) := by decide +kernel
theorem dX6_differ_160 : decode cX6_differ 160 = .ok (.iload_n 2, 1) := by decide +kernel
theorem dX6_differ_161 : decode cX6_differ 161 = .ok (.ireturn, 1) := by decide +kernel
theorem dX6_pairs_0 : decode cX6_pairs 0 = .ok (.iconst 0, 1) := by decide +kernel
theorem dX6_pairs_1 : decode cX6_pairs 1 = .ok (.istore_n 3, 1) := by decide +kernel
theorem dX6_pairs_2 : decode cX6_pairs 2 = .ok (.iconst 0, 1) := by decide +kernel
theorem dX6_pairs_3 : decode cX6_pairs 3 = .ok (.istore 4, 2) := by decide +kernel
theorem dX6_pairs_5 : decode cX6_pairs 5 = .ok (.iload 4, 2) := by decide +kernel
theorem dX6_pairs_7 : decode cX6_pairs 7 = .ok (.aload_n 0, 1) := by decide +kernel
theorem dX6_pairs_8 : decode cX6_pairs 8 = .ok (.getfield 7, 3) := by decide +kernel
theorem dX6_pairs_11 : decode cX6_pairs 11 = .ok (.if_icmp .ge 102, 3) := by decide +kernel
theorem dX6_pairs_14 : decode cX6_pairs 14 = .ok (.iload 4, 2) := by decide +kernel
theorem dX6_pairs_16 : decode cX6_pairs 16 = .ok (.iconst 1, 1) := by decide +kernel
theorem dX6_pairs_17 : decode cX6_pairs 17 = .ok (.iadd, 1) := by decide +kernel
theorem dX6_pairs_18 : decode cX6_pairs 18 = .ok (.istore 5, 2) := by decide +kernel
theorem dX6_pairs_20 : decode cX6_pairs 20 = .ok (.iload 5, 2) := by decide +kernel
theorem dX6_pairs_22 : decode cX6_pairs 22 = .ok (.aload_n 0, 1) := by decide +kernel
theorem dX6_pairs_23 : decode cX6_pairs 23 = .ok (.getfield 7, 3) := by decide +kernel
theorem dX6_pairs_26 : decode cX6_pairs 26 = .ok (.if_icmp .ge 81, 3) := by decide +kernel
theorem dX6_pairs_29 : decode cX6_pairs 29 = .ok (.iload 5, 2) := by decide +kernel
theorem dX6_pairs_31 : decode cX6_pairs 31 = .ok (.iload 4, 2) := by decide +kernel
theorem dX6_pairs_33 : decode cX6_pairs 33 = .ok (.isub, 1) := by decide +kernel
theorem dX6_pairs_34 : decode cX6_pairs 34 = .ok (.aload_n 0, 1) := by decide +kernel
theorem dX6_pairs_35 : decode cX6_pairs 35 = .ok (.getfield 7, 3) := by decide +kernel
theorem dX6_pairs_38 : decode cX6_pairs 38 = .ok (.iload 5, 2) := by decide +kernel
theorem dX6_pairs_40 : decode cX6_pairs 40 = .ok (.isub, 1) := by decide +kernel
theorem dX6_pairs_41 : decode cX6_pairs 41 = .ok (.iload 4, 2) := by decide +kernel
theorem dX6_pairs_43 : decode cX6_pairs 43 = .ok (.iadd, 1) := by decide +kernel
theorem dX6_pairs_44 : decode cX6_pairs 44 = .ok (.if_icmp .ge 11, 3) := by decide +kernel
theorem dX6_pairs_47 : decode cX6_pairs 47 = .ok (.iload 5, 2) := by decide +kernel
theorem dX6_pairs_49 : decode cX6_pairs 49 = .ok (.iload 4, 2) := by decide +kernel
theorem dX6_pairs_51 : decode cX6_pairs 51 = .ok (.isub, 1) := by decide +kernel
theorem dX6_pairs_52 : decode cX6_pairs 52 = .ok (.goto 13, 3) := by decide +kernel
theorem dX6_pairs_55 : decode cX6_pairs 55 = .ok (.aload_n 0, 1) := by decide +kernel
theorem dX6_pairs_56 : decode cX6_pairs 56 = .ok (.getfield 7, 3) := by decide +kernel
theorem dX6_pairs_59 : decode cX6_pairs 59 = .ok (.iload 5, 2) := by decide +kernel
theorem dX6_pairs_61 : decode cX6_pairs 61 = .ok (.isub, 1) := by decide +kernel
theorem dX6_pairs_62 : decode cX6_pairs 62 = .ok (.iload 4, 2) := by decide +kernel
theorem dX6_pairs_64 : decode cX6_pairs 64 = .ok (.iadd, 1) := by decide +kernel
theorem dX6_pairs_65 : decode cX6_pairs 65 = .ok (.istore 6, 2) := by decide +kernel
theorem dX6_pairs_67 : decode cX6_pairs 67 = .ok (.iload_n 3, 1) := by decide +kernel
theorem dX6_pairs_68 : decode cX6_pairs 68 = .ok (.iload_n 1, 1) := by decide +kernel
theorem dX6_pairs_69 : decode cX6_pairs 69 = .ok (.iload 4, 2) := by decide +kernel
theorem dX6_pairs_71 : decode cX6_pairs 71 = .ok (.ishr, 1) := by decide +kernel
theorem dX6_pairs_72 : decode cX6_pairs 72 = .ok (.iconst 1, 1) := by decide +kernel
theorem dX6_pairs_73 : decode cX6_pairs 73 = .ok (.iand, 1) := by decide +kernel
theorem dX6_pairs_74 : decode cX6_pairs 74 = .ok (.iconst 1, 1) := by decide +kernel
theorem dX6_pairs_75 : decode cX6_pairs 75 = .ok (.if_icmp .ne 23, 3) := by decide +kernel
theorem dX6_pairs_78 : decode cX6_pairs 78 = .ok (.iload_n 1, 1) := by decide +kernel
theorem dX6_pairs_79 : decode cX6_pairs 79 = .ok (.iload 5, 2) := by decide +kernel
theorem dX6_pairs_81 : decode cX6_pairs 81 = .ok (.ishr, 1) := by decide +kernel
theorem dX6_pairs_82 : decode cX6_pairs 82 = .ok (.iconst 1, 1) := by decide +kernel
theorem dX6_pairs_83 : decode cX6_pairs 83 = .ok (.iand, 1) := by decide +kernel
theorem dX6_pairs_84 : decode cX6_pairs 84 = .ok (.iconst 1, 1) := by decide +kernel
theorem dX6_pairs_85 : decode cX6_pairs 85 = .ok (.if_icmp .ne 13, 3) := by decide +kernel
theorem dX6_pairs_88 : decode cX6_pairs 88 = .ok (.iload 6, 2) := by decide +kernel
theorem dX6_pairs_90 : decode cX6_pairs 90 = .ok (.iload_n 2, 1) := by decide +kernel
theorem dX6_pairs_91 : decode cX6_pairs 91 = .ok (.if_icmp .ne 7, 3) := by decide +kernel
theorem dX6_pairs_94 : decode cX6_pairs 94 = .ok (.iconst 1, 1) := by decide +kernel
theorem dX6_pairs_95 : decode cX6_pairs 95 = .ok (.goto 4, 3) := by decide +kernel
theorem dX6_pairs_98 : decode cX6_pairs 98 = .ok (.iconst 0, 1) := by decide +kernel
theorem dX6_pairs_99 : decode cX6_pairs 99 = .ok (.iadd, 1) := by decide +kernel
theorem dX6_pairs_100 : decode cX6_pairs 100 = .ok (.istore_n 3, 1) := by decide +kernel
theorem dX6_pairs_101 : decode cX6_pairs 101 = .ok (.iinc 5 1, 3) := by decide +kernel
theorem dX6_pairs_104 : decode cX6_pairs 104 = .ok (.goto (-84), 3) := by decide +kernel
theorem dX6_pairs_107 : decode cX6_pairs 107 = .ok (.iinc 4 1, 3) := by decide +kernel
theorem dX6_pairs_110 : decode cX6_pairs 110 = .ok (.goto (-105), 3) := by decide +kernel
theorem dX6_pairs_113 : decode cX6_pairs 113 = .ok (.iload_n 3, 1) := by decide +kernel
theorem dX6_pairs_114 : decode cX6_pairs 114 = .ok (.ireturn, 1) := by decide +kernel
set_option maxRecDepth 20000 in
theorem ggX6_vector_X6_isSet : GoodIn wsX6_vector wsX6_isSet := goodIn_r _ [7, 2, 15, 16, 17, 18, 19, 20, 21, 22, 23, 24, 25, 26, 27, 28, 29, 30, 31, 32, 33, 34] (by decide +kernel) (by decide +kernel)
set_option maxRecDepth 20000 in
theorem gX6_vector_X6_isSet : GoodIn wsX6_vector (wsV RX6 86 RX6 yX6_isSet wsX6_isSet) := goodIn_app (goodIn_of _ (by decide +kernel)) ggX6_vector_X6_isSet
set_option maxRecDepth 20000 in
theorem ggX6_vector_X6_isIn : GoodIn wsX6_vector wsX6_isIn := goodIn_r _ [10] (by decide +kernel) (by decide +kernel)
set_option maxRecDepth 20000 in
theorem gX6_vector_X6_isIn : GoodIn wsX6_vector (va_wsS RX6 90 yX6_isIn wsX6_isIn) := goodIn_app (goodIn_of _ (by decide +kernel)) ggX6_vector_X6_isIn
set_option maxRecDepth 20000 in
theorem ggX6_vector_X6_pairs : GoodIn wsX6_vector wsX6_pairs := goodIn_r _ [14, 2, 15, 16, 17, 18, 19, 20, 21, 22, 23, 24, 25, 26, 27, 28, 29, 30, 31, 32, 33, 34] (by decide +kernel) (by decide +kernel)
set_option maxRecDepth 20000 in
theorem gX6_vector_X6_pairs : GoodIn wsX6_vector (wsV RX6 119 RX6 yX6_pairs wsX6_pairs) := goodIn_app (goodIn_of _ (by decide +kernel)) ggX6_vector_X6_pairs
theorem dX6_vector_0 : decode cX6_vector 0 = .ok (.aload_n 0, 1) := by decide +kernel
theorem dX6_vector_1 : decode cX6_vector 1 = .ok (.iconst 0, 1) := by decide +kernel
theorem dX6_vector_2 : decode cX6_vector 2 = .ok (.putfield 57, 3) := by decide +kernel
theorem dX6_vector_5 : decode cX6_vector 5 = .ok (.aload_n 0, 1) := by decide +kernel
theorem dX6_vector_6 : decode cX6_vector 6 = .ok (.iload_n 1, 1) := by decide +kernel
theorem dX6_vector_7 : decode cX6_vector 7 = .ok (.invokevirtual 86, 3) := by decide +kernel
theorem dX6_vector_10 : decode cX6_vector 10 = .ok (.ifCond .eq 26, 3) := by decide +kernel
theorem dX6_vector_13 : decode cX6_vector 13 = .ok (.iload_n 2, 1) := by decide +kernel
theorem dX6_vector_14 : decode cX6_vector 14 = .ok (.iconst 1, 1) := by decide +kernel
theorem dX6_vector_15 : decode cX6_vector 15 = .ok (.aload_n 0, 1) := by decide +kernel
theorem dX6_vector_16 : decode cX6_vector 16 = .ok (.getfield 7, 3) := by decide +kernel
theorem dX6_vector_19 : decode cX6_vector 19 = .ok (.iconst 2, 1) := by decide +kernel
theorem dX6_vector_20 : decode cX6_vector 20 = .ok (.idiv, 1) := by decide +kernel
theorem dX6_vector_21 : decode cX6_vector 21 = .ok (.invokestatic 90, 3) := by decide +kernel
theorem dX6_vector_24 : decode cX6_vector 24 = .ok (.ifCond .eq 12, 3) := by decide +kernel
theorem dX6_vector_27 : decode cX6_vector 27 = .ok (.aload_n 0, 1) := by decide +kernel
theorem dX6_vector_28 : decode cX6_vector 28 = .ok (.iload_n 1, 1) := by decide +kernel
theorem dX6_vector_29 : decode cX6_vector 29 = .ok (.iload_n 2, 1) := by decide +kernel
theorem dX6_vector_30 : decode cX6_vector 30 = .ok (.invokevirtual 119, 3) := by decide +kernel
theorem dX6_vector_33 : decode cX6_vector 33 = .ok (.goto 5, 3) := by decide +kernel
theorem dX6_vector_36 : decode cX6_vector 36 = .ok (.bipush (-2), 2) := by decide +kernel
theorem dX6_vector_38 : decode cX6_vector 38 = .ok (.ireturn, 1) := by decide +kernel
set_option maxRecDepth 20000 in
theorem ggX6_isAlike_X6_count : GoodIn wsX6_isAlike wsX6_count := goodIn_r _ [5] (by decide +kernel) (by decide +kernel)
set_option maxRecDepth 20000 in
theorem gX6_isAlike_X6_count : GoodIn wsX6_isAlike (va_wsS RX6 97 yX6_count wsX6_count) := goodIn_app (goodIn_of _ (by decide +kernel)) ggX6_isAlike_X6_count
set_option maxRecDepth 20000 in
theorem ggX6_isAlike_X6_pairs : GoodIn wsX6_isAlike wsX6_pairs := goodIn_r _ [9, 1, 10, 11, 12, 13, 14, 15, 16, 17, 18, 19, 20, 21, 22, 23, 24, 25, 26, 27, 28, 29] (by decide +kernel) (by decide +kernel)
set_option maxRecDepth 20000 in
theorem gX6_isAlike_X6_pairs : GoodIn wsX6_isAlike (wsV RX6 119 RX6 yX6_pairs wsX6_pairs) := goodIn_app (goodIn_of _ (by decide +kernel)) ggX6_isAlike_X6_pairs
theorem dX6_isAlike_0 : decode cX6_isAlike 0 = .ok (.iload_n 1, 1) := by decide +kernel
theorem dX6_isAlike_1 : decode cX6_isAlike 1 = .ok (.invokestatic 97, 3) := by decide +kernel
theorem dX6_isAlike_4 : decode cX6_isAlike 4 = .ok (.iload_n 2, 1) := by decide +kernel
theorem dX6_isAlike_5 : decode cX6_isAlike 5 = .ok (.invokestatic 97, 3) := by decide +kernel
theorem dX6_isAlike_8 : decode cX6_isAlike 8 = .ok (.if_icmp .ne 7, 3) := by decide +kernel
theorem dX6_isAlike_11 : decode cX6_isAlike 11 = .ok (.iconst 1, 1) := by decide +kernel
theorem dX6_isAlike_12 : decode cX6_isAlike 12 = .ok (.goto 4, 3) := by decide +kernel
theorem dX6_isAlike_15 : decode cX6_isAlike 15 = .ok (.iconst 0, 1) := by decide +kernel
theorem dX6_isAlike_16 : decode cX6_isAlike 16 = .ok (.istore_n 3, 1) := by decide +kernel
theorem dX6_isAlike_17 : decode cX6_isAlike 17 = .ok (.iconst 1, 1) := by decide +kernel
theorem dX6_isAlike_18 : decode cX6_isAlike 18 = .ok (.istore 4, 2) := by decide +kernel
theorem dX6_isAlike_20 : decode cX6_isAlike 20 = .ok (.iload 4, 2) := by decide +kernel
theorem dX6_isAlike_22 : decode cX6_isAlike 22 = .ok (.aload_n 0, 1) := by decide +kernel
theorem dX6_isAlike_23 : decode cX6_isAlike 23 = .ok (.getfield 7, 3) := by decide +kernel
theorem dX6_isAlike_26 : decode cX6_isAlike 26 = .ok (.iconst 2, 1) := by decide +kernel
theorem dX6_isAlike_27 : decode cX6_isAlike 27 = .ok (.idiv, 1) := by decide +kernel
theorem dX6_isAlike_28 : decode cX6_isAlike 28 = .ok (.if_icmp .gt 36, 3) := by decide +kernel
theorem dX6_isAlike_31 : decode cX6_isAlike 31 = .ok (.iload_n 3, 1) := by decide +kernel
theorem dX6_isAlike_32 : decode cX6_isAlike 32 = .ok (.ifCond .eq 32, 3) := by decide +kernel
theorem dX6_isAlike_35 : decode cX6_isAlike 35 = .ok (.aload_n 0, 1) := by decide +kernel
theorem dX6_isAlike_36 : decode cX6_isAlike 36 = .ok (.iload_n 1, 1) := by decide +kernel
theorem dX6_isAlike_37 : decode cX6_isAlike 37 = .ok (.iload 4, 2) := by decide +kernel
theorem dX6_isAlike_39 : decode cX6_isAlike 39 = .ok (.invokevirtual 119, 3) := by decide +kernel
theorem dX6_isAlike_42 : decode cX6_isAlike 42 = .ok (.aload_n 0, 1) := by decide +kernel
theorem dX6_isAlike_43 : decode cX6_isAlike 43 = .ok (.iload_n 2, 1) := by decide +kernel
theorem dX6_isAlike_44 : decode cX6_isAlike 44 = .ok (.iload 4, 2) := by decide +kernel
theorem dX6_isAlike_46 : decode cX6_isAlike 46 = .ok (.invokevirtual 119, 3) := by decide +kernel
theorem dX6_isAlike_49 : decode cX6_isAlike 49 = .ok (.if_icmp .ne 7, 3) := by decide +kernel
theorem dX6_isAlike_52 : decode cX6_isAlike 52 = .ok (.iconst 1, 1) := by decide +kernel
theorem dX6_isAlike_53 : decode cX6_isAlike 53 = .ok (.goto 4, 3) := by decide +kernel
theorem dX6_isAlike_56 : decode cX6_isAlike 56 = .ok (.iconst 0, 1) := by decide +kernel
theorem dX6_isAlike_57 : decode cX6_isAlike 57 = .ok (.istore_n 3, 1) := by decide +kernel
theorem dX6_isAlike_58 : decode cX6_isAlike 58 = .ok (.iinc 4 1, 3) := by decide +kernel
theorem dX6_isAlike_61 : decode cX6_isAlike 61 = .ok (.goto (-41), 3) := by decide +kernel
theorem dX6_isAlike_64 : decode cX6_isAlike 64 = .ok (.iload_n 3, 1) := by decide +kernel
theorem dX6_isAlike_65 : decode cX6_isAlike 65 = .ok (.ireturn, 1) := by decide +kernel
set_option maxRecDepth 20000 in
theorem ggX6_twin_X6_isSet : GoodIn wsX6_twin wsX6_isSet := goodIn_r _ [7, 2, 45, 46, 47, 48, 49, 50, 51, 52, 53, 54, 55, 56, 57, 58, 59, 60, 61, 62, 63, 64] (by decide +kernel) (by decide +kernel)
set_option maxRecDepth 20000 in
theorem gX6_twin_X6_isSet : GoodIn wsX6_twin (wsV RX6 86 RX6 yX6_isSet wsX6_isSet) := goodIn_app (goodIn_of _ (by decide +kernel)) ggX6_twin_X6_isSet
set_option maxRecDepth 20000 in
theorem ggX6_twin_X6_count : GoodIn wsX6_twin wsX6_count := goodIn_r _ [10] (by decide +kernel) (by decide +kernel)
set_option maxRecDepth 20000 in
theorem gX6_twin_X6_count : GoodIn wsX6_twin (va_wsS RX6 97 yX6_count wsX6_count) := goodIn_app (goodIn_of _ (by decide +kernel)) ggX6_twin_X6_count
set_option maxRecDepth 20000 in
theorem ggX6_twin_X6_leastIn : GoodIn wsX6_twin wsX6_leastIn := goodIn_r _ [14, 15, 16, 17, 18, 6, 19, 20, 21, 2, 22, 23, 24, 25, 26, 27, 28, 29, 30, 31, 32, 33, 34, 35, 36, 45, 46, 47, 48, 49, 50, 51, 52, 53, 54, 55, 56, 57, 58, 59, 60, 61, 62, 63, 64] (by decide +kernel) (by decide +kernel)
set_option maxRecDepth 20000 in
theorem gX6_twin_X6_leastIn : GoodIn wsX6_twin (wsV RX6 94 RX6 yX6_leastIn wsX6_leastIn) := goodIn_app (goodIn_of _ (by decide +kernel)) ggX6_twin_X6_leastIn
set_option maxRecDepth 20000 in
theorem ggX6_twin_X6_isAlike : GoodIn wsX6_twin wsX6_isAlike := goodIn_r _ [40, 2, 8, 9, 6, 10, 41, 42, 43, 44, 45, 46, 47, 48, 49, 50, 51, 52, 53, 54, 55, 56, 57, 58, 59, 60, 61, 62, 63, 64] (by decide +kernel) (by decide +kernel)
set_option maxRecDepth 20000 in
theorem gX6_twin_X6_isAlike : GoodIn wsX6_twin (wsV RX6 122 RX6 yX6_isAlike wsX6_isAlike) := goodIn_app (goodIn_of _ (by decide +kernel)) ggX6_twin_X6_isAlike
theorem dX6_twin_0 : decode cX6_twin 0 = .ok (.aload_n 0, 1) := by decide +kernel
theorem dX6_twin_1 : decode cX6_twin 1 = .ok (.iconst 0, 1) := by decide +kernel
theorem dX6_twin_2 : decode cX6_twin 2 = .ok (.putfield 57, 3) := by decide +kernel
theorem dX6_twin_5 : decode cX6_twin 5 = .ok (.aload_n 0, 1) := by decide +kernel
theorem dX6_twin_6 : decode cX6_twin 6 = .ok (.iload_n 1, 1) := by decide +kernel
theorem dX6_twin_7 : decode cX6_twin 7 = .ok (.invokevirtual 86, 3) := by decide +kernel
theorem dX6_twin_10 : decode cX6_twin 10 = .ok (.ifCond .ne 6, 3) := by decide +kernel
theorem dX6_twin_13 : decode cX6_twin 13 = .ok (.bipush (-2), 2) := by decide +kernel
theorem dX6_twin_15 : decode cX6_twin 15 = .ok (.ireturn, 1) := by decide +kernel
theorem dX6_twin_16 : decode cX6_twin 16 = .ok (.iconst 0, 1) := by decide +kernel
theorem dX6_twin_17 : decode cX6_twin 17 = .ok (.istore_n 2, 1) := by decide +kernel
theorem dX6_twin_18 : decode cX6_twin 18 = .ok (.iload_n 2, 1) := by decide +kernel
theorem dX6_twin_19 : decode cX6_twin 19 = .ok (.iconst 1, 1) := by decide +kernel
theorem dX6_twin_20 : decode cX6_twin 20 = .ok (.aload_n 0, 1) := by decide +kernel
theorem dX6_twin_21 : decode cX6_twin 21 = .ok (.getfield 7, 3) := by decide +kernel
theorem dX6_twin_24 : decode cX6_twin 24 = .ok (.ishl, 1) := by decide +kernel
theorem dX6_twin_25 : decode cX6_twin 25 = .ok (.if_icmp .ge 46, 3) := by decide +kernel
theorem dX6_twin_28 : decode cX6_twin 28 = .ok (.iload_n 2, 1) := by decide +kernel
theorem dX6_twin_29 : decode cX6_twin 29 = .ok (.invokestatic 97, 3) := by decide +kernel
theorem dX6_twin_32 : decode cX6_twin 32 = .ok (.iload_n 1, 1) := by decide +kernel
theorem dX6_twin_33 : decode cX6_twin 33 = .ok (.invokestatic 97, 3) := by decide +kernel
theorem dX6_twin_36 : decode cX6_twin 36 = .ok (.if_icmp .ne 29, 3) := by decide +kernel
theorem dX6_twin_39 : decode cX6_twin 39 = .ok (.aload_n 0, 1) := by decide +kernel
theorem dX6_twin_40 : decode cX6_twin 40 = .ok (.iconst 1, 1) := by decide +kernel
theorem dX6_twin_41 : decode cX6_twin 41 = .ok (.iload_n 2, 1) := by decide +kernel
theorem dX6_twin_42 : decode cX6_twin 42 = .ok (.invokevirtual 94, 3) := by decide +kernel
theorem dX6_twin_45 : decode cX6_twin 45 = .ok (.aload_n 0, 1) := by decide +kernel
theorem dX6_twin_46 : decode cX6_twin 46 = .ok (.iconst 1, 1) := by decide +kernel
theorem dX6_twin_47 : decode cX6_twin 47 = .ok (.iload_n 1, 1) := by decide +kernel
theorem dX6_twin_48 : decode cX6_twin 48 = .ok (.invokevirtual 94, 3) := by decide +kernel
theorem dX6_twin_51 : decode cX6_twin 51 = .ok (.if_icmp .eq 14, 3) := by decide +kernel
theorem dX6_twin_54 : decode cX6_twin 54 = .ok (.aload_n 0, 1) := by decide +kernel
theorem dX6_twin_55 : decode cX6_twin 55 = .ok (.iload_n 1, 1) := by decide +kernel
theorem dX6_twin_56 : decode cX6_twin 56 = .ok (.iload_n 2, 1) := by decide +kernel
theorem dX6_twin_57 : decode cX6_twin 57 = .ok (.invokevirtual 122, 3) := by decide +kernel
theorem dX6_twin_60 : decode cX6_twin 60 = .ok (.ifCond .eq 5, 3) := by decide +kernel
theorem dX6_twin_63 : decode cX6_twin 63 = .ok (.iload_n 2, 1) := by decide +kernel
theorem dX6_twin_64 : decode cX6_twin 64 = .ok (.ireturn, 1) := by decide +kernel
theorem dX6_twin_65 : decode cX6_twin 65 = .ok (.iinc 2 1, 3) := by decide +kernel
theorem dX6_twin_68 : decode cX6_twin 68 = .ok (.goto (-50), 3) := by decide +kernel
theorem dX6_twin_71 : decode cX6_twin 71 = .ok (.bipush (-3), 2) := by decide +kernel
theorem dX6_twin_73 : decode cX6_twin 73 = .ok (.ireturn, 1) := by decide +kernel
set_option maxRecDepth 20000 in
theorem ggX6_others_X6_isSet : GoodIn wsX6_others wsX6_isSet := goodIn_r _ [7, 2, 8, 9, 10, 11, 12, 13, 14, 15, 16, 17, 18, 19, 20, 21, 22, 23, 24, 25, 26, 27] (by decide +kernel) (by decide +kernel)
set_option maxRecDepth 20000 in
theorem gX6_others_X6_isSet : GoodIn wsX6_others (wsV RX6 86 RX6 yX6_isSet wsX6_isSet) := goodIn_app (goodIn_of _ (by decide +kernel)) ggX6_others_X6_isSet
theorem dX6_others_0 : decode cX6_others 0 = .ok (.aload_n 0, 1) := by decide +kernel
theorem dX6_others_1 : decode cX6_others 1 = .ok (.iconst 0, 1) := by decide +kernel
theorem dX6_others_2 : decode cX6_others 2 = .ok (.putfield 57, 3) := by decide +kernel
theorem dX6_others_5 : decode cX6_others 5 = .ok (.aload_n 0, 1) := by decide +kernel
theorem dX6_others_6 : decode cX6_others 6 = .ok (.iload_n 1, 1) := by decide +kernel
theorem dX6_others_7 : decode cX6_others 7 = .ok (.invokevirtual 86, 3) := by decide +kernel
theorem dX6_others_10 : decode cX6_others 10 = .ok (.ifCond .eq 16, 3) := by decide +kernel
theorem dX6_others_13 : decode cX6_others 13 = .ok (.iconst 1, 1) := by decide +kernel
theorem dX6_others_14 : decode cX6_others 14 = .ok (.aload_n 0, 1) := by decide +kernel
theorem dX6_others_15 : decode cX6_others 15 = .ok (.getfield 7, 3) := by decide +kernel
theorem dX6_others_18 : decode cX6_others 18 = .ok (.ishl, 1) := by decide +kernel
theorem dX6_others_19 : decode cX6_others 19 = .ok (.iconst 1, 1) := by decide +kernel
theorem dX6_others_20 : decode cX6_others 20 = .ok (.isub, 1) := by decide +kernel
theorem dX6_others_21 : decode cX6_others 21 = .ok (.iload_n 1, 1) := by decide +kernel
theorem dX6_others_22 : decode cX6_others 22 = .ok (.isub, 1) := by decide +kernel
theorem dX6_others_23 : decode cX6_others 23 = .ok (.goto 5, 3) := by decide +kernel
theorem dX6_others_26 : decode cX6_others 26 = .ok (.bipush (-2), 2) := by decide +kernel
theorem dX6_others_28 : decode cX6_others 28 = .ok (.ireturn, 1) := by decide +kernel
set_option maxRecDepth 20000 in
theorem ggX6_multiplied_X6_isSet : GoodIn wsX6_multiplied wsX6_isSet := goodIn_r _ [6, 7, 16, 17, 18, 19, 20, 21, 22, 23, 24, 25, 26, 27, 28, 29, 30, 31, 32, 33, 34, 35] (by decide +kernel) (by decide +kernel)
set_option maxRecDepth 20000 in
theorem gX6_multiplied_X6_isSet : GoodIn wsX6_multiplied (wsV RX6 86 RX6 yX6_isSet wsX6_isSet) := goodIn_app (goodIn_of _ (by decide +kernel)) ggX6_multiplied_X6_isSet
set_option maxRecDepth 20000 in
theorem ggX6_multiplied_X6_isStep : GoodIn wsX6_multiplied wsX6_isStep := goodIn_r _ [11, 7, 16, 17, 18, 19, 20, 21, 22, 23, 24, 25, 26, 27, 28, 29, 30, 31, 32, 33, 34, 35] (by decide +kernel) (by decide +kernel)
set_option maxRecDepth 20000 in
theorem gX6_multiplied_X6_isStep : GoodIn wsX6_multiplied (wsV RX6 125 RX6 yX6_isStep wsX6_isStep) := goodIn_app (goodIn_of _ (by decide +kernel)) ggX6_multiplied_X6_isStep
set_option maxRecDepth 20000 in
theorem ggX6_multiplied_X6_moved : GoodIn wsX6_multiplied wsX6_moved := goodIn_r _ [15, 7, 16, 17, 18, 19, 20, 21, 22, 23, 24, 25, 26, 27, 28, 29, 30, 31, 32, 33, 34, 35] (by decide +kernel) (by decide +kernel)
set_option maxRecDepth 20000 in
theorem gX6_multiplied_X6_moved : GoodIn wsX6_multiplied (wsV RX6 79 RX6 yX6_moved wsX6_moved) := goodIn_app (goodIn_of _ (by decide +kernel)) ggX6_multiplied_X6_moved
theorem dX6_multiplied_0 : decode cX6_multiplied 0 = .ok (.aload_n 0, 1) := by decide +kernel
theorem dX6_multiplied_1 : decode cX6_multiplied 1 = .ok (.iconst 0, 1) := by decide +kernel
theorem dX6_multiplied_2 : decode cX6_multiplied 2 = .ok (.putfield 57, 3) := by decide +kernel
theorem dX6_multiplied_5 : decode cX6_multiplied 5 = .ok (.aload_n 0, 1) := by decide +kernel
theorem dX6_multiplied_6 : decode cX6_multiplied 6 = .ok (.iload_n 1, 1) := by decide +kernel
theorem dX6_multiplied_7 : decode cX6_multiplied 7 = .ok (.invokevirtual 86, 3) := by decide +kernel
theorem dX6_multiplied_10 : decode cX6_multiplied 10 = .ok (.ifCond .eq 21, 3) := by decide +kernel
theorem dX6_multiplied_13 : decode cX6_multiplied 13 = .ok (.aload_n 0, 1) := by decide +kernel
theorem dX6_multiplied_14 : decode cX6_multiplied 14 = .ok (.iload_n 2, 1) := by decide +kernel
theorem dX6_multiplied_15 : decode cX6_multiplied 15 = .ok (.invokevirtual 125, 3) := by decide +kernel
theorem dX6_multiplied_18 : decode cX6_multiplied 18 = .ok (.ifCond .eq 13, 3) := by decide +kernel
theorem dX6_multiplied_21 : decode cX6_multiplied 21 = .ok (.aload_n 0, 1) := by decide +kernel
theorem dX6_multiplied_22 : decode cX6_multiplied 22 = .ok (.iload_n 1, 1) := by decide +kernel
theorem dX6_multiplied_23 : decode cX6_multiplied 23 = .ok (.iload_n 2, 1) := by decide +kernel
theorem dX6_multiplied_24 : decode cX6_multiplied 24 = .ok (.iconst 0, 1) := by decide +kernel
theorem dX6_multiplied_25 : decode cX6_multiplied 25 = .ok (.invokevirtual 79, 3) := by decide +kernel
theorem dX6_multiplied_28 : decode cX6_multiplied 28 = .ok (.goto 5, 3) := by decide +kernel
theorem dX6_multiplied_31 : decode cX6_multiplied 31 = .ok (.bipush (-2), 2) := by decide +kernel
theorem dX6_multiplied_33 : decode cX6_multiplied 33 = .ok (.ireturn, 1) := by decide +kernel
set_option maxRecDepth 20000 in
theorem ggX6_within_X6_isSet : GoodIn wsX6_within wsX6_isSet := goodIn_r _ [7, 2, 37, 38, 39, 40, 41, 42, 43, 44, 45, 46, 47, 48, 49, 50, 51, 52, 53, 54, 55, 56] (by decide +kernel) (by decide +kernel)
set_option maxRecDepth 20000 in
theorem gX6_within_X6_isSet : GoodIn wsX6_within (wsV RX6 86 RX6 yX6_isSet wsX6_isSet) := goodIn_app (goodIn_of _ (by decide +kernel)) ggX6_within_X6_isSet
set_option maxRecDepth 20000 in
theorem ggX6_within_X6_isIn : GoodIn wsX6_within wsX6_isIn := goodIn_r _ [10] (by decide +kernel) (by decide +kernel)
set_option maxRecDepth 20000 in
theorem gX6_within_X6_isIn : GoodIn wsX6_within (va_wsS RX6 90 yX6_isIn wsX6_isIn) := goodIn_app (goodIn_of _ (by decide +kernel)) ggX6_within_X6_isIn
set_option maxRecDepth 20000 in
theorem ggX6_within_X6_leastIn : GoodIn wsX6_within wsX6_leastIn := goodIn_r _ [14, 15, 16, 17, 18, 6, 19, 20, 21, 2, 22, 23, 24, 25, 26, 27, 28, 29, 30, 31, 32, 33, 34, 35, 36, 37, 38, 39, 40, 41, 42, 43, 44, 45, 46, 47, 48, 49, 50, 51, 52, 53, 54, 55, 56] (by decide +kernel) (by decide +kernel)
set_option maxRecDepth 20000 in
theorem gX6_within_X6_leastIn : GoodIn wsX6_within (wsV RX6 94 RX6 yX6_leastIn wsX6_leastIn) := goodIn_app (goodIn_of _ (by decide +kernel)) ggX6_within_X6_leastIn
theorem dX6_within_0 : decode cX6_within 0 = .ok (.aload_n 0, 1) := by decide +kernel
theorem dX6_within_1 : decode cX6_within 1 = .ok (.iconst 0, 1) := by decide +kernel
theorem dX6_within_2 : decode cX6_within 2 = .ok (.putfield 57, 3) := by decide +kernel
theorem dX6_within_5 : decode cX6_within 5 = .ok (.aload_n 0, 1) := by decide +kernel
theorem dX6_within_6 : decode cX6_within 6 = .ok (.iload_n 1, 1) := by decide +kernel
theorem dX6_within_7 : decode cX6_within 7 = .ok (.invokevirtual 86, 3) := by decide +kernel
theorem dX6_within_10 : decode cX6_within 10 = .ok (.ifCond .eq 20, 3) := by decide +kernel
theorem dX6_within_13 : decode cX6_within 13 = .ok (.aload_n 0, 1) := by decide +kernel
theorem dX6_within_14 : decode cX6_within 14 = .ok (.iload_n 2, 1) := by decide +kernel
theorem dX6_within_15 : decode cX6_within 15 = .ok (.invokevirtual 86, 3) := by decide +kernel
theorem dX6_within_18 : decode cX6_within 18 = .ok (.ifCond .eq 12, 3) := by decide +kernel
theorem dX6_within_21 : decode cX6_within 21 = .ok (.iload_n 3, 1) := by decide +kernel
theorem dX6_within_22 : decode cX6_within 22 = .ok (.iconst 0, 1) := by decide +kernel
theorem dX6_within_23 : decode cX6_within 23 = .ok (.iconst 2, 1) := by decide +kernel
theorem dX6_within_24 : decode cX6_within 24 = .ok (.invokestatic 90, 3) := by decide +kernel
theorem dX6_within_27 : decode cX6_within 27 = .ok (.ifCond .ne 6, 3) := by decide +kernel
theorem dX6_within_30 : decode cX6_within 30 = .ok (.bipush (-2), 2) := by decide +kernel
theorem dX6_within_32 : decode cX6_within 32 = .ok (.ireturn, 1) := by decide +kernel
theorem dX6_within_33 : decode cX6_within 33 = .ok (.iconst 0, 1) := by decide +kernel
theorem dX6_within_34 : decode cX6_within 34 = .ok (.istore 4, 2) := by decide +kernel
theorem dX6_within_36 : decode cX6_within 36 = .ok (.iconst 0, 1) := by decide +kernel
theorem dX6_within_37 : decode cX6_within 37 = .ok (.istore 5, 2) := by decide +kernel
theorem dX6_within_39 : decode cX6_within 39 = .ok (.iload 5, 2) := by decide +kernel
theorem dX6_within_41 : decode cX6_within 41 = .ok (.iconst 1, 1) := by decide +kernel
theorem dX6_within_42 : decode cX6_within 42 = .ok (.aload_n 0, 1) := by decide +kernel
theorem dX6_within_43 : decode cX6_within 43 = .ok (.getfield 7, 3) := by decide +kernel
theorem dX6_within_46 : decode cX6_within 46 = .ok (.ishl, 1) := by decide +kernel
theorem dX6_within_47 : decode cX6_within 47 = .ok (.if_icmp .ge 44, 3) := by decide +kernel
theorem dX6_within_50 : decode cX6_within 50 = .ok (.iload 4, 2) := by decide +kernel
theorem dX6_within_52 : decode cX6_within 52 = .ok (.aload_n 0, 1) := by decide +kernel
theorem dX6_within_53 : decode cX6_within 53 = .ok (.iload_n 3, 1) := by decide +kernel
theorem dX6_within_54 : decode cX6_within 54 = .ok (.iload 5, 2) := by decide +kernel
theorem dX6_within_56 : decode cX6_within 56 = .ok (.invokevirtual 94, 3) := by decide +kernel
theorem dX6_within_59 : decode cX6_within 59 = .ok (.aload_n 0, 1) := by decide +kernel
theorem dX6_within_60 : decode cX6_within 60 = .ok (.iload_n 3, 1) := by decide +kernel
theorem dX6_within_61 : decode cX6_within 61 = .ok (.iload_n 2, 1) := by decide +kernel
theorem dX6_within_62 : decode cX6_within 62 = .ok (.invokevirtual 94, 3) := by decide +kernel
theorem dX6_within_65 : decode cX6_within 65 = .ok (.if_icmp .ne 16, 3) := by decide +kernel
theorem dX6_within_68 : decode cX6_within 68 = .ok (.iload 5, 2) := by decide +kernel
theorem dX6_within_70 : decode cX6_within 70 = .ok (.iload_n 1, 1) := by decide +kernel
theorem dX6_within_71 : decode cX6_within 71 = .ok (.iconst (-1), 1) := by decide +kernel
theorem dX6_within_72 : decode cX6_within 72 = .ok (.ixor, 1) := by decide +kernel
theorem dX6_within_73 : decode cX6_within 73 = .ok (.iand, 1) := by decide +kernel
theorem dX6_within_74 : decode cX6_within 74 = .ok (.ifCond .ne 7, 3) := by decide +kernel
theorem dX6_within_77 : decode cX6_within 77 = .ok (.iconst 1, 1) := by decide +kernel
theorem dX6_within_78 : decode cX6_within 78 = .ok (.goto 4, 3) := by decide +kernel
theorem dX6_within_81 : decode cX6_within 81 = .ok (.iconst 0, 1) := by decide +kernel
theorem dX6_within_82 : decode cX6_within 82 = .ok (.iadd, 1) := by decide +kernel
theorem dX6_within_83 : decode cX6_within 83 = .ok (.istore 4, 2) := by decide +kernel
theorem dX6_within_85 : decode cX6_within 85 = .ok (.iinc 5 1, 3) := by decide +kernel
theorem dX6_within_88 : decode cX6_within 88 = .ok (.goto (-49), 3) := by decide +kernel
theorem dX6_within_91 : decode cX6_within 91 = .ok (.iload 4, 2) := by decide +kernel
theorem dX6_within_93 : decode cX6_within 93 = .ok (.ireturn, 1) := by decide +kernel
set_option maxRecDepth 20000 in
theorem ggX6_shares_X6_moved : GoodIn wsX6_shares wsX6_moved := goodIn_r _ [6, 1, 10, 11, 12, 13, 14, 15, 16, 17, 18, 19, 20, 21, 22, 23, 24, 25, 26, 27, 28, 29] (by decide +kernel) (by decide +kernel)
set_option maxRecDepth 20000 in
theorem gX6_shares_X6_moved : GoodIn wsX6_shares (wsV RX6 79 RX6 yX6_moved wsX6_moved) := goodIn_app (goodIn_of _ (by decide +kernel)) ggX6_shares_X6_moved
set_option maxRecDepth 20000 in
theorem ggX6_shares_X6_count : GoodIn wsX6_shares wsX6_count := goodIn_r _ [9] (by decide +kernel) (by decide +kernel)
set_option maxRecDepth 20000 in
theorem gX6_shares_X6_count : GoodIn wsX6_shares (va_wsS RX6 97 yX6_count wsX6_count) := goodIn_app (goodIn_of _ (by decide +kernel)) ggX6_shares_X6_count
theorem dX6_shares_0 : decode cX6_shares 0 = .ok (.iload_n 1, 1) := by decide +kernel
theorem dX6_shares_1 : decode cX6_shares 1 = .ok (.aload_n 0, 1) := by decide +kernel
theorem dX6_shares_2 : decode cX6_shares 2 = .ok (.iload_n 2, 1) := by decide +kernel
theorem dX6_shares_3 : decode cX6_shares 3 = .ok (.iload 4, 2) := by decide +kernel
theorem dX6_shares_5 : decode cX6_shares 5 = .ok (.ifCond .eq 12, 3) := by decide +kernel
theorem dX6_shares_8 : decode cX6_shares 8 = .ok (.aload_n 0, 1) := by decide +kernel
theorem dX6_shares_9 : decode cX6_shares 9 = .ok (.getfield 7, 3) := by decide +kernel
theorem dX6_shares_12 : decode cX6_shares 12 = .ok (.iconst 1, 1) := by decide +kernel
theorem dX6_shares_13 : decode cX6_shares 13 = .ok (.isub, 1) := by decide +kernel
theorem dX6_shares_14 : decode cX6_shares 14 = .ok (.goto 4, 3) := by decide +kernel
theorem dX6_shares_17 : decode cX6_shares 17 = .ok (.iconst 1, 1) := by decide +kernel
theorem dX6_shares_18 : decode cX6_shares 18 = .ok (.iload_n 3, 1) := by decide +kernel
theorem dX6_shares_19 : decode cX6_shares 19 = .ok (.invokevirtual 79, 3) := by decide +kernel
