theorem dX6_unlike_18 : decode cX6_unlike 18 = .ok (.ireturn, 1) := by decide +kernel
theorem dX6_unlike_19 : decode cX6_unlike 19 = .ok (.iconst 0, 1) := by decide +kernel
theorem dX6_unlike_20 : decode cX6_unlike 20 = .ok (.istore_n 1, 1) := by decide +kernel
theorem dX6_unlike_21 : decode cX6_unlike 21 = .ok (.iload_n 1, 1) := by decide +kernel
theorem dX6_unlike_22 : decode cX6_unlike 22 = .ok (.iconst 1, 1) := by decide +kernel
theorem dX6_unlike_23 : decode cX6_unlike 23 = .ok (.iadd, 1) := by decide +kernel
theorem dX6_unlike_24 : decode cX6_unlike 24 = .ok (.aload_n 0, 1) := by decide +kernel
theorem dX6_unlike_25 : decode cX6_unlike 25 = .ok (.getfield 7, 3) := by decide +kernel
theorem dX6_unlike_28 : decode cX6_unlike 28 = .ok (.if_icmp .ge 84, 3) := by decide +kernel
theorem dX6_unlike_31 : decode cX6_unlike 31 = .ok (.iload_n 1, 1) := by decide +kernel
theorem dX6_unlike_32 : decode cX6_unlike 32 = .ok (.iconst 1, 1) := by decide +kernel
theorem dX6_unlike_33 : decode cX6_unlike 33 = .ok (.iadd, 1) := by decide +kernel
theorem dX6_unlike_34 : decode cX6_unlike 34 = .ok (.istore_n 2, 1) := by decide +kernel
theorem dX6_unlike_35 : decode cX6_unlike 35 = .ok (.iload_n 2, 1) := by decide +kernel
theorem dX6_unlike_36 : decode cX6_unlike 36 = .ok (.iconst 1, 1) := by decide +kernel
theorem dX6_unlike_37 : decode cX6_unlike 37 = .ok (.iadd, 1) := by decide +kernel
theorem dX6_unlike_38 : decode cX6_unlike 38 = .ok (.aload_n 0, 1) := by decide +kernel
theorem dX6_unlike_39 : decode cX6_unlike 39 = .ok (.getfield 7, 3) := by decide +kernel
theorem dX6_unlike_42 : decode cX6_unlike 42 = .ok (.if_icmp .ge 64, 3) := by decide +kernel
theorem dX6_unlike_45 : decode cX6_unlike 45 = .ok (.aload_n 0, 1) := by decide +kernel
theorem dX6_unlike_46 : decode cX6_unlike 46 = .ok (.getfield 35, 3) := by decide +kernel
theorem dX6_unlike_49 : decode cX6_unlike 49 = .ok (.iload_n 1, 1) := by decide +kernel
theorem dX6_unlike_50 : decode cX6_unlike 50 = .ok (.iconst 1, 1) := by decide +kernel
theorem dX6_unlike_51 : decode cX6_unlike 51 = .ok (.iadd, 1) := by decide +kernel
theorem dX6_unlike_52 : decode cX6_unlike 52 = .ok (.iaload, 1) := by decide +kernel
theorem dX6_unlike_53 : decode cX6_unlike 53 = .ok (.aload_n 0, 1) := by decide +kernel
theorem dX6_unlike_54 : decode cX6_unlike 54 = .ok (.getfield 35, 3) := by decide +kernel
theorem dX6_unlike_57 : decode cX6_unlike 57 = .ok (.iload_n 1, 1) := by decide +kernel
theorem dX6_unlike_58 : decode cX6_unlike 58 = .ok (.iaload, 1) := by decide +kernel
theorem dX6_unlike_59 : decode cX6_unlike 59 = .ok (.isub, 1) := by decide +kernel
theorem dX6_unlike_60 : decode cX6_unlike 60 = .ok (.aload_n 0, 1) := by decide +kernel
theorem dX6_unlike_61 : decode cX6_unlike 61 = .ok (.getfield 7, 3) := by decide +kernel
theorem dX6_unlike_64 : decode cX6_unlike 64 = .ok (.iadd, 1) := by decide +kernel
theorem dX6_unlike_65 : decode cX6_unlike 65 = .ok (.aload_n 0, 1) := by decide +kernel
theorem dX6_unlike_66 : decode cX6_unlike 66 = .ok (.getfield 7, 3) := by decide +kernel
theorem dX6_unlike_69 : decode cX6_unlike 69 = .ok (.irem, 1) := by decide +kernel
theorem dX6_unlike_70 : decode cX6_unlike 70 = .ok (.aload_n 0, 1) := by decide +kernel
theorem dX6_unlike_71 : decode cX6_unlike 71 = .ok (.getfield 35, 3) := by decide +kernel
theorem dX6_unlike_74 : decode cX6_unlike 74 = .ok (.iload_n 2, 1) := by decide +kernel
theorem dX6_unlike_75 : decode cX6_unlike 75 = .ok (.iconst 1, 1) := by decide +kernel
theorem dX6_unlike_76 : decode cX6_unlike 76 = .ok (.iadd, 1) := by decide +kernel
theorem dX6_unlike_77 : decode cX6_unlike 77 = .ok (.iaload, 1) := by decide +kernel
theorem dX6_unlike_78 : decode cX6_unlike 78 = .ok (.aload_n 0, 1) := by decide +kernel
theorem dX6_unlike_79 : decode cX6_unlike 79 = .ok (.getfield 35, 3) := by decide +kernel
theorem dX6_unlike_82 : decode cX6_unlike 82 = .ok (.iload_n 2, 1) := by decide +kernel
theorem dX6_unlike_83 : decode cX6_unlike 83 = .ok (.iaload, 1) := by decide +kernel
theorem dX6_unlike_84 : decode cX6_unlike 84 = .ok (.isub, 1) := by decide +kernel
theorem dX6_unlike_85 : decode cX6_unlike 85 = .ok (.aload_n 0, 1) := by decide +kernel
theorem dX6_unlike_86 : decode cX6_unlike 86 = .ok (.getfield 7, 3) := by decide +kernel
theorem dX6_unlike_89 : decode cX6_unlike 89 = .ok (.iadd, 1) := by decide +kernel
theorem dX6_unlike_90 : decode cX6_unlike 90 = .ok (.aload_n 0, 1) := by decide +kernel
theorem dX6_unlike_91 : decode cX6_unlike 91 = .ok (.getfield 7, 3) := by decide +kernel
theorem dX6_unlike_94 : decode cX6_unlike 94 = .ok (.irem, 1) := by decide +kernel
theorem dX6_unlike_95 : decode cX6_unlike 95 = .ok (.if_icmp .ne 5, 3) := by decide +kernel
theorem dX6_unlike_98 : decode cX6_unlike 98 = .ok (.iconst 0, 1) := by decide +kernel
theorem dX6_unlike_99 : decode cX6_unlike 99 = .ok (.ireturn, 1) := by decide +kernel
theorem dX6_unlike_100 : decode cX6_unlike 100 = .ok (.iinc 2 1, 3) := by decide +kernel
theorem dX6_unlike_103 : decode cX6_unlike 103 = .ok (.goto (-68), 3) := by decide +kernel
theorem dX6_unlike_106 : decode cX6_unlike 106 = .ok (.iinc 1 1, 3) := by decide +kernel
theorem dX6_unlike_109 : decode cX6_unlike 109 = .ok (.goto (-88), 3) := by decide +kernel
theorem dX6_unlike_112 : decode cX6_unlike 112 = .ok (.iconst 1, 1) := by decide +kernel
theorem dX6_unlike_113 : decode cX6_unlike 113 = .ok (.ireturn, 1) := by decide +kernel
theorem dX6_countRows_0 : decode cX6_countRows 0 = .ok (.iconst 0, 1) := by decide +kernel
theorem dX6_countRows_1 : decode cX6_countRows 1 = .ok (.istore_n 1, 1) := by decide +kernel
theorem dX6_countRows_2 : decode cX6_countRows 2 = .ok (.iconst 0, 1) := by decide +kernel
theorem dX6_countRows_3 : decode cX6_countRows 3 = .ok (.istore_n 2, 1) := by decide +kernel
theorem dX6_countRows_4 : decode cX6_countRows 4 = .ok (.iconst 1, 1) := by decide +kernel
theorem dX6_countRows_5 : decode cX6_countRows 5 = .ok (.istore_n 3, 1) := by decide +kernel
theorem dX6_countRows_6 : decode cX6_countRows 6 = .ok (.iconst 0, 1) := by decide +kernel
theorem dX6_countRows_7 : decode cX6_countRows 7 = .ok (.istore 4, 2) := by decide +kernel
theorem dX6_countRows_9 : decode cX6_countRows 9 = .ok (.aload_n 0, 1) := by decide +kernel
theorem dX6_countRows_10 : decode cX6_countRows 10 = .ok (.getfield 50, 3) := by decide +kernel
theorem dX6_countRows_13 : decode cX6_countRows 13 = .ok (.iconst 0, 1) := by decide +kernel
theorem dX6_countRows_14 : decode cX6_countRows 14 = .ok (.iconst 0, 1) := by decide +kernel
theorem dX6_countRows_15 : decode cX6_countRows 15 = .ok (.iastore, 1) := by decide +kernel
theorem dX6_countRows_16 : decode cX6_countRows 16 = .ok (.aload_n 0, 1) := by decide +kernel
theorem dX6_countRows_17 : decode cX6_countRows 17 = .ok (.getfield 47, 3) := by decide +kernel
theorem dX6_countRows_20 : decode cX6_countRows 20 = .ok (.iconst 0, 1) := by decide +kernel
theorem dX6_countRows_21 : decode cX6_countRows 21 = .ok (.iconst 0, 1) := by decide +kernel
theorem dX6_countRows_22 : decode cX6_countRows 22 = .ok (.iastore, 1) := by decide +kernel
theorem dX6_countRows_23 : decode cX6_countRows 23 = .ok (.iload_n 2, 1) := by decide +kernel
theorem dX6_countRows_24 : decode cX6_countRows 24 = .ok (.ifCond .lt 208, 3) := by decide +kernel
theorem dX6_countRows_27 : decode cX6_countRows 27 = .ok (.iload_n 2, 1) := by decide +kernel
theorem dX6_countRows_28 : decode cX6_countRows 28 = .ok (.aload_n 0, 1) := by decide +kernel
theorem dX6_countRows_29 : decode cX6_countRows 29 = .ok (.getfield 7, 3) := by decide +kernel
theorem dX6_countRows_32 : decode cX6_countRows 32 = .ok (.iconst 1, 1) := by decide +kernel
theorem dX6_countRows_33 : decode cX6_countRows 33 = .ok (.isub, 1) := by decide +kernel
theorem dX6_countRows_34 : decode cX6_countRows 34 = .ok (.if_icmp .ne 9, 3) := by decide +kernel
theorem dX6_countRows_37 : decode cX6_countRows 37 = .ok (.iinc 1 1, 3) := by decide +kernel
theorem dX6_countRows_40 : decode cX6_countRows 40 = .ok (.iinc 2 (-1), 3) := by decide +kernel
theorem dX6_countRows_43 : decode cX6_countRows 43 = .ok (.iload_n 2, 1) := by decide +kernel
theorem dX6_countRows_44 : decode cX6_countRows 44 = .ok (.ifCond .lt 42, 3) := by decide +kernel
theorem dX6_countRows_47 : decode cX6_countRows 47 = .ok (.aload_n 0, 1) := by decide +kernel
theorem dX6_countRows_48 : decode cX6_countRows 48 = .ok (.getfield 47, 3) := by decide +kernel
theorem dX6_countRows_51 : decode cX6_countRows 51 = .ok (.iload_n 2, 1) := by decide +kernel
theorem dX6_countRows_52 : decode cX6_countRows 52 = .ok (.iaload, 1) := by decide +kernel
theorem dX6_countRows_53 : decode cX6_countRows 53 = .ok (.ifCond .le 33, 3) := by decide +kernel
theorem dX6_countRows_56 : decode cX6_countRows 56 = .ok (.iload_n 3, 1) := by decide +kernel
theorem dX6_countRows_57 : decode cX6_countRows 57 = .ok (.iconst 1, 1) := by decide +kernel
theorem dX6_countRows_58 : decode cX6_countRows 58 = .ok (.aload_n 0, 1) := by decide +kernel
theorem dX6_countRows_59 : decode cX6_countRows 59 = .ok (.getfield 50, 3) := by decide +kernel
theorem dX6_countRows_62 : decode cX6_countRows 62 = .ok (.iload_n 2, 1) := by decide +kernel
theorem dX6_countRows_63 : decode cX6_countRows 63 = .ok (.iconst 1, 1) := by decide +kernel
theorem dX6_countRows_64 : decode cX6_countRows 64 = .ok (.iadd, 1) := by decide +kernel
theorem dX6_countRows_65 : decode cX6_countRows 65 = .ok (.iaload, 1) := by decide +kernel
theorem dX6_countRows_66 : decode cX6_countRows 66 = .ok (.ishl, 1) := by decide +kernel
theorem dX6_countRows_67 : decode cX6_countRows 67 = .ok (.iconst (-1), 1) := by decide +kernel
theorem dX6_countRows_68 : decode cX6_countRows 68 = .ok (.ixor, 1) := by decide +kernel
theorem dX6_countRows_69 : decode cX6_countRows 69 = .ok (.iand, 1) := by decide +kernel
theorem dX6_countRows_70 : decode cX6_countRows 70 = .ok (.istore_n 3, 1) := by decide +kernel
theorem dX6_countRows_71 : decode cX6_countRows 71 = .ok (.iload 4, 2) := by decide +kernel
theorem dX6_countRows_73 : decode cX6_countRows 73 = .ok (.iconst 1, 1) := by decide +kernel
theorem dX6_countRows_74 : decode cX6_countRows 74 = .ok (.aload_n 0, 1) := by decide +kernel
theorem dX6_countRows_75 : decode cX6_countRows 75 = .ok (.getfield 47, 3) := by decide +kernel
theorem dX6_countRows_78 : decode cX6_countRows 78 = .ok (.iload_n 2, 1) := by decide +kernel
theorem dX6_countRows_79 : decode cX6_countRows 79 = .ok (.iaload, 1) := by decide +kernel
theorem dX6_countRows_80 : decode cX6_countRows 80 = .ok (.ishl, 1) := by decide +kernel
theorem dX6_countRows_81 : decode cX6_countRows 81 = .ok (.iconst (-1), 1) := by decide +kernel
theorem dX6_countRows_82 : decode cX6_countRows 82 = .ok (.ixor, 1) := by decide +kernel
theorem dX6_countRows_83 : decode cX6_countRows 83 = .ok (.iand, 1) := by decide +kernel
theorem dX6_countRows_84 : decode cX6_countRows 84 = .ok (.istore 4, 2) := by decide +kernel
theorem dX6_countRows_86 : decode cX6_countRows 86 = .ok (.iconst 0, 1) := by decide +kernel
theorem dX6_countRows_87 : decode cX6_countRows 87 = .ok (.istore 5, 2) := by decide +kernel
theorem dX6_countRows_89 : decode cX6_countRows 89 = .ok (.iload_n 2, 1) := by decide +kernel
theorem dX6_countRows_90 : decode cX6_countRows 90 = .ok (.ifCond .lt 92, 3) := by decide +kernel
theorem dX6_countRows_93 : decode cX6_countRows 93 = .ok (.iload 5, 2) := by decide +kernel
theorem dX6_countRows_95 : decode cX6_countRows 95 = .ok (.ifCond .ne 87, 3) := by decide +kernel
theorem dX6_countRows_98 : decode cX6_countRows 98 = .ok (.aload_n 0, 1) := by decide +kernel
theorem dX6_countRows_99 : decode cX6_countRows 99 = .ok (.getfield 47, 3) := by decide +kernel
theorem dX6_countRows_102 : decode cX6_countRows 102 = .ok (.iload_n 2, 1) := by decide +kernel
theorem dX6_countRows_103 : decode cX6_countRows 103 = .ok (.iaload, 1) := by decide +kernel
theorem dX6_countRows_104 : decode cX6_countRows 104 = .ok (.aload_n 0, 1) := by decide +kernel
theorem dX6_countRows_105 : decode cX6_countRows 105 = .ok (.getfield 7, 3) := by decide +kernel
theorem dX6_countRows_108 : decode cX6_countRows 108 = .ok (.iconst 1, 1) := by decide +kernel
theorem dX6_countRows_109 : decode cX6_countRows 109 = .ok (.isub, 1) := by decide +kernel
theorem dX6_countRows_110 : decode cX6_countRows 110 = .ok (.if_icmp .ge 72, 3) := by decide +kernel
theorem dX6_countRows_113 : decode cX6_countRows 113 = .ok (.aload_n 0, 1) := by decide +kernel
theorem dX6_countRows_114 : decode cX6_countRows 114 = .ok (.getfield 47, 3) := by decide +kernel
theorem dX6_countRows_117 : decode cX6_countRows 117 = .ok (.iload_n 2, 1) := by decide +kernel
theorem dX6_countRows_118 : decode cX6_countRows 118 = .ok (.dup2, 1) := by decide +kernel
theorem dX6_countRows_119 : decode cX6_countRows 119 = .ok (.iaload, 1) := by decide +kernel
theorem dX6_countRows_120 : decode cX6_countRows 120 = .ok (.iconst 1, 1) := by decide +kernel
theorem dX6_countRows_121 : decode cX6_countRows 121 = .ok (.iadd, 1) := by decide +kernel
theorem dX6_countRows_122 : decode cX6_countRows 122 = .ok (.iastore, 1) := by decide +kernel
theorem dX6_countRows_123 : decode cX6_countRows 123 = .ok (.aload_n 0, 1) := by decide +kernel
theorem dX6_countRows_124 : decode cX6_countRows 124 = .ok (.getfield 50, 3) := by decide +kernel
theorem dX6_countRows_127 : decode cX6_countRows 127 = .ok (.iload_n 2, 1) := by decide +kernel
theorem dX6_countRows_128 : decode cX6_countRows 128 = .ok (.iaload, 1) := by decide +kernel
theorem dX6_countRows_129 : decode cX6_countRows 129 = .ok (.aload_n 0, 1) := by decide +kernel
theorem dX6_countRows_130 : decode cX6_countRows 130 = .ok (.getfield 47, 3) := by decide +kernel
theorem dX6_countRows_133 : decode cX6_countRows 133 = .ok (.iload_n 2, 1) := by decide +kernel
theorem dX6_countRows_134 : decode cX6_countRows 134 = .ok (.iaload, 1) := by decide +kernel
theorem dX6_countRows_135 : decode cX6_countRows 135 = .ok (.iadd, 1) := by decide +kernel
theorem dX6_countRows_136 : decode cX6_countRows 136 = .ok (.aload_n 0, 1) := by decide +kernel
theorem dX6_countRows_137 : decode cX6_countRows 137 = .ok (.getfield 7, 3) := by decide +kernel
theorem dX6_countRows_140 : decode cX6_countRows 140 = .ok (.irem, 1) := by decide +kernel
theorem dX6_countRows_141 : decode cX6_countRows 141 = .ok (.istore 6, 2) := by decide +kernel
theorem dX6_countRows_143 : decode cX6_countRows 143 = .ok (.iload 4, 2) := by decide +kernel
theorem dX6_countRows_145 : decode cX6_countRows 145 = .ok (.aload_n 0, 1) := by decide +kernel
theorem dX6_countRows_146 : decode cX6_countRows 146 = .ok (.getfield 47, 3) := by decide +kernel
theorem dX6_countRows_149 : decode cX6_countRows 149 = .ok (.iload_n 2, 1) := by decide +kernel
theorem dX6_countRows_150 : decode cX6_countRows 150 = .ok (.iaload, 1) := by decide +kernel
theorem dX6_countRows_151 : decode cX6_countRows 151 = .ok (.ishr, 1) := by decide +kernel
theorem dX6_countRows_152 : decode cX6_countRows 152 = .ok (.iconst 1, 1) := by decide +kernel
theorem dX6_countRows_153 : decode cX6_countRows 153 = .ok (.iand, 1) := by decide +kernel
theorem dX6_countRows_154 : decode cX6_countRows 154 = .ok (.ifCond .ne 25, 3) := by decide +kernel
theorem dX6_countRows_157 : decode cX6_countRows 157 = .ok (.iload_n 3, 1) := by decide +kernel
theorem dX6_countRows_158 : decode cX6_countRows 158 = .ok (.iload 6, 2) := by decide +kernel
theorem dX6_countRows_160 : decode cX6_countRows 160 = .ok (.ishr, 1) := by decide +kernel
theorem dX6_countRows_161 : decode cX6_countRows 161 = .ok (.iconst 1, 1) := by decide +kernel
theorem dX6_countRows_162 : decode cX6_countRows 162 = .ok (.iand, 1) := by decide +kernel
theorem dX6_countRows_163 : decode cX6_countRows 163 = .ok (.ifCond .ne 16, 3) := by decide +kernel
theorem dX6_countRows_166 : decode cX6_countRows 166 = .ok (.iconst 1, 1) := by decide +kernel
theorem dX6_countRows_167 : decode cX6_countRows 167 = .ok (.istore 5, 2) := by decide +kernel
theorem dX6_countRows_169 : decode cX6_countRows 169 = .ok (.aload_n 0, 1) := by decide +kernel
theorem dX6_countRows_170 : decode cX6_countRows 170 = .ok (.getfield 50, 3) := by decide +kernel
theorem dX6_countRows_173 : decode cX6_countRows 173 = .ok (.iload_n 2, 1) := by decide +kernel
theorem dX6_countRows_174 : decode cX6_countRows 174 = .ok (.iconst 1, 1) := by decide +kernel
theorem dX6_countRows_175 : decode cX6_countRows 175 = .ok (.iadd, 1) := by decide +kernel
theorem dX6_countRows_176 : decode cX6_countRows 176 = .ok (.iload 6, 2) := by decide +kernel
theorem dX6_countRows_178 : decode cX6_countRows 178 = .ok (.iastore, 1) := by decide +kernel
theorem dX6_countRows_179 : decode cX6_countRows 179 = .ok (.goto (-90), 3) := by decide +kernel
theorem dX6_countRows_182 : decode cX6_countRows 182 = .ok (.iload 5, 2) := by decide +kernel
theorem dX6_countRows_184 : decode cX6_countRows 184 = .ok (.ifCond .eq 42, 3) := by decide +kernel
theorem dX6_countRows_187 : decode cX6_countRows 187 = .ok (.iload_n 3, 1) := by decide +kernel
theorem dX6_countRows_188 : decode cX6_countRows 188 = .ok (.iconst 1, 1) := by decide +kernel
theorem dX6_countRows_189 : decode cX6_countRows 189 = .ok (.aload_n 0, 1) := by decide +kernel
theorem dX6_countRows_190 : decode cX6_countRows 190 = .ok (.getfield 50, 3) := by decide +kernel
theorem dX6_countRows_193 : decode cX6_countRows 193 = .ok (.iload_n 2, 1) := by decide +kernel
theorem dX6_countRows_194 : decode cX6_countRows 194 = .ok (.iconst 1, 1) := by decide +kernel
theorem dX6_countRows_195 : decode cX6_countRows 195 = .ok (.iadd, 1) := by decide +kernel
theorem dX6_countRows_196 : decode cX6_countRows 196 = .ok (.iaload, 1) := by decide +kernel
theorem dX6_countRows_197 : decode cX6_countRows 197 = .ok (.ishl, 1) := by decide +kernel
theorem dX6_countRows_198 : decode cX6_countRows 198 = .ok (.ior, 1) := by decide +kernel
theorem dX6_countRows_199 : decode cX6_countRows 199 = .ok (.istore_n 3, 1) := by decide +kernel
theorem dX6_countRows_200 : decode cX6_countRows 200 = .ok (.iload 4, 2) := by decide +kernel
theorem dX6_countRows_202 : decode cX6_countRows 202 = .ok (.iconst 1, 1) := by decide +kernel
theorem dX6_countRows_203 : decode cX6_countRows 203 = .ok (.aload_n 0, 1) := by decide +kernel
theorem dX6_countRows_204 : decode cX6_countRows 204 = .ok (.getfield 47, 3) := by decide +kernel
theorem dX6_countRows_207 : decode cX6_countRows 207 = .ok (.iload_n 2, 1) := by decide +kernel
theorem dX6_countRows_208 : decode cX6_countRows 208 = .ok (.iaload, 1) := by decide +kernel
theorem dX6_countRows_209 : decode cX6_countRows 209 = .ok (.ishl, 1) := by decide +kernel
theorem dX6_countRows_210 : decode cX6_countRows 210 = .ok (.ior, 1) := by decide +kernel
theorem dX6_countRows_211 : decode cX6_countRows 211 = .ok (.istore 4, 2) := by decide +kernel
theorem dX6_countRows_213 : decode cX6_countRows 213 = .ok (.iinc 2 1, 3) := by decide +kernel
theorem dX6_countRows_216 : decode cX6_countRows 216 = .ok (.aload_n 0, 1) := by decide +kernel
theorem dX6_countRows_217 : decode cX6_countRows 217 = .ok (.getfield 47, 3) := by decide +kernel
theorem dX6_countRows_220 : decode cX6_countRows 220 = .ok (.iload_n 2, 1) := by decide +kernel
theorem dX6_countRows_221 : decode cX6_countRows 221 = .ok (.iconst 0, 1) := by decide +kernel
theorem dX6_countRows_222 : decode cX6_countRows 222 = .ok (.iastore, 1) := by decide +kernel
theorem dX6_countRows_223 : decode cX6_countRows 223 = .ok (.goto 6, 3) := by decide +kernel
theorem dX6_countRows_226 : decode cX6_countRows 226 = .ok (.iinc 2 (-1), 3) := by decide +kernel
theorem dX6_countRows_229 : decode cX6_countRows 229 = .ok (.goto (-206), 3) := by decide +kernel
theorem dX6_countRows_232 : decode cX6_countRows 232 = .ok (.aload_n 0, 1) := by decide +kernel
theorem dX6_countRows_233 : decode cX6_countRows 233 = .ok (.getfield 44, 3) := by decide +kernel
theorem dX6_countRows_236 : decode cX6_countRows 236 = .ok (.aload_n 0, 1) := by decide +kernel
theorem dX6_countRows_237 : decode cX6_countRows 237 = .ok (.getfield 7, 3) := by decide +kernel
theorem dX6_countRows_240 : decode cX6_countRows 240 = .ok (.iload_n 1, 1) := by decide +kernel
theorem dX6_countRows_241 : decode cX6_countRows 241 = .ok (.iconst 1, 1) := by decide +kernel
theorem dX6_countRows_242 : decode cX6_countRows 242 = .ok (.iadd, 1) := by decide +kernel
theorem dX6_countRows_243 : decode cX6_countRows 243 = .ok (.iastore, 1) := by decide +kernel
theorem dX6_countRows_244 : decode cX6_countRows 244 = .ok (.return_, 1) := by decide +kernel
set_option maxRecDepth 20000 in
theorem ggX6_rows_X6_countRows : GoodIn wsX6_rows wsX6_countRows := goodIn_r _ [8, 9, 10, 3, 2, 11, 12, 13, 14, 15, 16, 17, 18, 19, 20, 21, 22, 23, 24, 25, 26, 27, 28, 29, 30] (by decide +kernel) (by decide +kernel)
set_option maxRecDepth 20000 in
theorem gX6_rows_X6_countRows : GoodIn wsX6_rows (wsV RX6 135 RX6 yX6_countRows wsX6_countRows) := goodIn_app (goodIn_of _ (by decide +kernel)) ggX6_rows_X6_countRows
theorem dX6_rows_0 : decode cX6_rows 0 = .ok (.aload_n 0, 1) := by decide +kernel
theorem dX6_rows_1 : decode cX6_rows 1 = .ok (.iconst 0, 1) := by decide +kernel
theorem dX6_rows_2 : decode cX6_rows 2 = .ok (.putfield 57, 3) := by decide +kernel
theorem dX6_rows_5 : decode cX6_rows 5 = .ok (.aload_n 0, 1) := by decide +kernel
theorem dX6_rows_6 : decode cX6_rows 6 = .ok (.getfield 44, 3) := by decide +kernel
theorem dX6_rows_9 : decode cX6_rows 9 = .ok (.aload_n 0, 1) := by decide +kernel
theorem dX6_rows_10 : decode cX6_rows 10 = .ok (.getfield 7, 3) := by decide +kernel
theorem dX6_rows_13 : decode cX6_rows 13 = .ok (.iaload, 1) := by decide +kernel
theorem dX6_rows_14 : decode cX6_rows 14 = .ok (.ifCond .ne 7, 3) := by decide +kernel
theorem dX6_rows_17 : decode cX6_rows 17 = .ok (.aload_n 0, 1) := by decide +kernel
theorem dX6_rows_18 : decode cX6_rows 18 = .ok (.invokevirtual 135, 3) := by decide +kernel
theorem dX6_rows_21 : decode cX6_rows 21 = .ok (.aload_n 0, 1) := by decide +kernel
theorem dX6_rows_22 : decode cX6_rows 22 = .ok (.getfield 44, 3) := by decide +kernel
theorem dX6_rows_25 : decode cX6_rows 25 = .ok (.aload_n 0, 1) := by decide +kernel
theorem dX6_rows_26 : decode cX6_rows 26 = .ok (.getfield 7, 3) := by decide +kernel
theorem dX6_rows_29 : decode cX6_rows 29 = .ok (.iaload, 1) := by decide +kernel
theorem dX6_rows_30 : decode cX6_rows 30 = .ok (.iconst 1, 1) := by decide +kernel
theorem dX6_rows_31 : decode cX6_rows 31 = .ok (.isub, 1) := by decide +kernel
theorem dX6_rows_32 : decode cX6_rows 32 = .ok (.ireturn, 1) := by decide +kernel
set_option maxRecDepth 20000 in
theorem ggX6_fills_X6_isIn : GoodIn wsX6_fills wsX6_isIn := goodIn_r _ [9] (by decide +kernel) (by decide +kernel)
set_option maxRecDepth 20000 in
theorem gX6_fills_X6_isIn : GoodIn wsX6_fills (va_wsS RX6 90 yX6_isIn wsX6_isIn) := goodIn_app (goodIn_of _ (by decide +kernel)) ggX6_fills_X6_isIn
set_option maxRecDepth 20000 in
theorem ggX6_fills_X6_layForm : GoodIn wsX6_fills wsX6_layForm := goodIn_r _ [13, 3, 4, 5, 14, 15, 16, 17, 18, 19, 20, 21, 22, 23, 24, 25, 26, 27, 28, 29, 30, 31, 32, 33] (by decide +kernel) (by decide +kernel)
set_option maxRecDepth 20000 in
theorem gX6_fills_X6_layForm : GoodIn wsX6_fills (wsV RX6 132 RX6 yX6_layForm wsX6_layForm) := goodIn_app (goodIn_of _ (by decide +kernel)) ggX6_fills_X6_layForm
theorem dX6_fills_0 : decode cX6_fills 0 = .ok (.aload_n 0, 1) := by decide +kernel
theorem dX6_fills_1 : decode cX6_fills 1 = .ok (.iconst 0, 1) := by decide +kernel
theorem dX6_fills_2 : decode cX6_fills 2 = .ok (.putfield 57, 3) := by decide +kernel
theorem dX6_fills_5 : decode cX6_fills 5 = .ok (.iload_n 1, 1) := by decide +kernel
theorem dX6_fills_6 : decode cX6_fills 6 = .ok (.iconst 0, 1) := by decide +kernel
theorem dX6_fills_7 : decode cX6_fills 7 = .ok (.iconst 3, 1) := by decide +kernel
theorem dX6_fills_8 : decode cX6_fills 8 = .ok (.invokestatic 90, 3) := by decide +kernel
theorem dX6_fills_11 : decode cX6_fills 11 = .ok (.ifCond .ne 6, 3) := by decide +kernel
theorem dX6_fills_14 : decode cX6_fills 14 = .ok (.bipush (-2), 2) := by decide +kernel
theorem dX6_fills_16 : decode cX6_fills 16 = .ok (.ireturn, 1) := by decide +kernel
theorem dX6_fills_17 : decode cX6_fills 17 = .ok (.aload_n 0, 1) := by decide +kernel
theorem dX6_fills_18 : decode cX6_fills 18 = .ok (.getfield 60, 3) := by decide +kernel
theorem dX6_fills_21 : decode cX6_fills 21 = .ok (.aload_n 0, 1) := by decide +kernel
theorem dX6_fills_22 : decode cX6_fills 22 = .ok (.getfield 7, 3) := by decide +kernel
theorem dX6_fills_25 : decode cX6_fills 25 = .ok (.if_icmp .lt 13, 3) := by decide +kernel
theorem dX6_fills_28 : decode cX6_fills 28 = .ok (.aload_n 0, 1) := by decide +kernel
theorem dX6_fills_29 : decode cX6_fills 29 = .ok (.getfield 7, 3) := by decide +kernel
theorem dX6_fills_32 : decode cX6_fills 32 = .ok (.iconst 2, 1) := by decide +kernel
theorem dX6_fills_33 : decode cX6_fills 33 = .ok (.irem, 1) := by decide +kernel
theorem dX6_fills_34 : decode cX6_fills 34 = .ok (.iconst 1, 1) := by decide +kernel
theorem dX6_fills_35 : decode cX6_fills 35 = .ok (.if_icmp .ne 6, 3) := by decide +kernel
theorem dX6_fills_38 : decode cX6_fills 38 = .ok (.bipush (-3), 2) := by decide +kernel
theorem dX6_fills_40 : decode cX6_fills 40 = .ok (.ireturn, 1) := by decide +kernel
theorem dX6_fills_41 : decode cX6_fills 41 = .ok (.iconst 0, 1) := by decide +kernel
theorem dX6_fills_42 : decode cX6_fills 42 = .ok (.istore_n 3, 1) := by decide +kernel
theorem dX6_fills_43 : decode cX6_fills 43 = .ok (.iconst 0, 1) := by decide +kernel
theorem dX6_fills_44 : decode cX6_fills 44 = .ok (.istore 4, 2) := by decide +kernel
theorem dX6_fills_46 : decode cX6_fills 46 = .ok (.iload 4, 2) := by decide +kernel
theorem dX6_fills_48 : decode cX6_fills 48 = .ok (.aload_n 0, 1) := by decide +kernel
theorem dX6_fills_49 : decode cX6_fills 49 = .ok (.getfield 7, 3) := by decide +kernel
theorem dX6_fills_52 : decode cX6_fills 52 = .ok (.if_icmp .ge 108, 3) := by decide +kernel
theorem dX6_fills_55 : decode cX6_fills 55 = .ok (.iload_n 2, 1) := by decide +kernel
theorem dX6_fills_56 : decode cX6_fills 56 = .ok (.ifCond .lt 104, 3) := by decide +kernel
theorem dX6_fills_59 : decode cX6_fills 59 = .ok (.aload_n 0, 1) := by decide +kernel
theorem dX6_fills_60 : decode cX6_fills 60 = .ok (.iload_n 1, 1) := by decide +kernel
theorem dX6_fills_61 : decode cX6_fills 61 = .ok (.iload 4, 2) := by decide +kernel
theorem dX6_fills_63 : decode cX6_fills 63 = .ok (.invokevirtual 132, 3) := by decide +kernel
theorem dX6_fills_66 : decode cX6_fills 66 = .ok (.iconst 1, 1) := by decide +kernel
theorem dX6_fills_67 : decode cX6_fills 67 = .ok (.istore 5, 2) := by decide +kernel
theorem dX6_fills_69 : decode cX6_fills 69 = .ok (.iconst 0, 1) := by decide +kernel
theorem dX6_fills_70 : decode cX6_fills 70 = .ok (.istore 6, 2) := by decide +kernel
theorem dX6_fills_72 : decode cX6_fills 72 = .ok (.iload 6, 2) := by decide +kernel
theorem dX6_fills_74 : decode cX6_fills 74 = .ok (.aload_n 0, 1) := by decide +kernel
theorem dX6_fills_75 : decode cX6_fills 75 = .ok (.getfield 7, 3) := by decide +kernel
theorem dX6_fills_78 : decode cX6_fills 78 = .ok (.iconst 2, 1) := by decide +kernel
theorem dX6_fills_79 : decode cX6_fills 79 = .ok (.idiv, 1) := by decide +kernel
theorem dX6_fills_80 : decode cX6_fills 80 = .ok (.if_icmp .ge 58, 3) := by decide +kernel
theorem dX6_fills_83 : decode cX6_fills 83 = .ok (.iconst 0, 1) := by decide +kernel
theorem dX6_fills_84 : decode cX6_fills 84 = .ok (.istore 7, 2) := by decide +kernel
theorem dX6_fills_86 : decode cX6_fills 86 = .ok (.iload 7, 2) := by decide +kernel
theorem dX6_fills_88 : decode cX6_fills 88 = .ok (.aload_n 0, 1) := by decide +kernel
theorem dX6_fills_89 : decode cX6_fills 89 = .ok (.getfield 7, 3) := by decide +kernel
theorem dX6_fills_92 : decode cX6_fills 92 = .ok (.iconst 2, 1) := by decide +kernel
theorem dX6_fills_93 : decode cX6_fills 93 = .ok (.idiv, 1) := by decide +kernel
theorem dX6_fills_94 : decode cX6_fills 94 = .ok (.if_icmp .ge 38, 3) := by decide +kernel
theorem dX6_fills_97 : decode cX6_fills 97 = .ok (.iload 5, 2) := by decide +kernel
theorem dX6_fills_99 : decode cX6_fills 99 = .ok (.ifCond .eq 24, 3) := by decide +kernel
theorem dX6_fills_102 : decode cX6_fills 102 = .ok (.aload_n 0, 1) := by decide +kernel
theorem dX6_fills_103 : decode cX6_fills 103 = .ok (.getfield 35, 3) := by decide +kernel
theorem dX6_fills_106 : decode cX6_fills 106 = .ok (.iload 6, 2) := by decide +kernel
theorem dX6_fills_108 : decode cX6_fills 108 = .ok (.iaload, 1) := by decide +kernel
theorem dX6_fills_109 : decode cX6_fills 109 = .ok (.aload_n 0, 1) := by decide +kernel
theorem dX6_fills_110 : decode cX6_fills 110 = .ok (.getfield 38, 3) := by decide +kernel
theorem dX6_fills_113 : decode cX6_fills 113 = .ok (.iload 7, 2) := by decide +kernel
theorem dX6_fills_115 : decode cX6_fills 115 = .ok (.iaload, 1) := by decide +kernel
theorem dX6_fills_116 : decode cX6_fills 116 = .ok (.if_icmp .eq 7, 3) := by decide +kernel
theorem dX6_fills_119 : decode cX6_fills 119 = .ok (.iconst 1, 1) := by decide +kernel
theorem dX6_fills_120 : decode cX6_fills 120 = .ok (.goto 4, 3) := by decide +kernel
theorem dX6_fills_123 : decode cX6_fills 123 = .ok (.iconst 0, 1) := by decide +kernel
theorem dX6_fills_124 : decode cX6_fills 124 = .ok (.istore 5, 2) := by decide +kernel
theorem dX6_fills_126 : decode cX6_fills 126 = .ok (.iinc 7 1, 3) := by decide +kernel
theorem dX6_fills_129 : decode cX6_fills 129 = .ok (.goto (-43), 3) := by decide +kernel
theorem dX6_fills_132 : decode cX6_fills 132 = .ok (.iinc 6 1, 3) := by decide +kernel
theorem dX6_fills_135 : decode cX6_fills 135 = .ok (.goto (-63), 3) := by decide +kernel
theorem dX6_fills_138 : decode cX6_fills 138 = .ok (.iload 5, 2) := by decide +kernel
theorem dX6_fills_140 : decode cX6_fills 140 = .ok (.ifCond .eq 14, 3) := by decide +kernel
theorem dX6_fills_143 : decode cX6_fills 143 = .ok (.iload_n 3, 1) := by decide +kernel
theorem dX6_fills_144 : decode cX6_fills 144 = .ok (.iload_n 2, 1) := by decide +kernel
theorem dX6_fills_145 : decode cX6_fills 145 = .ok (.if_icmp .ne 6, 3) := by decide +kernel
theorem dX6_fills_148 : decode cX6_fills 148 = .ok (.iload 4, 2) := by decide +kernel
theorem dX6_fills_150 : decode cX6_fills 150 = .ok (.ireturn, 1) := by decide +kernel
theorem dX6_fills_151 : decode cX6_fills 151 = .ok (.iinc 3 1, 3) := by decide +kernel
theorem dX6_fills_154 : decode cX6_fills 154 = .ok (.iinc 4 1, 3) := by decide +kernel
theorem dX6_fills_157 : decode cX6_fills 157 = .ok (.goto (-111), 3) := by decide +kernel
theorem dX6_fills_160 : decode cX6_fills 160 = .ok (.iconst (-1), 1) := by decide +kernel
theorem dX6_fills_161 : decode cX6_fills 161 = .ok (.ireturn, 1) := by decide +kernel
theorem dX6_piece_0 : decode cX6_piece 0 = .ok (.iconst 0, 1) := by decide +kernel
theorem dX6_piece_1 : decode cX6_piece 1 = .ok (.istore_n 3, 1) := by decide +kernel
theorem dX6_piece_2 : decode cX6_piece 2 = .ok (.iconst 0, 1) := by decide +kernel
theorem dX6_piece_3 : decode cX6_piece 3 = .ok (.istore 4, 2) := by decide +kernel
theorem dX6_piece_5 : decode cX6_piece 5 = .ok (.iload 4, 2) := by decide +kernel
theorem dX6_piece_7 : decode cX6_piece 7 = .ok (.iload_n 2, 1) := by decide +kernel
theorem dX6_piece_8 : decode cX6_piece 8 = .ok (.if_icmp .ge 23, 3) := by decide +kernel
theorem dX6_piece_11 : decode cX6_piece 11 = .ok (.iload_n 3, 1) := by decide +kernel
theorem dX6_piece_12 : decode cX6_piece 12 = .ok (.iconst 1, 1) := by decide +kernel
theorem dX6_piece_13 : decode cX6_piece 13 = .ok (.aload_n 0, 1) := by decide +kernel
theorem dX6_piece_14 : decode cX6_piece 14 = .ok (.getfield 35, 3) := by decide +kernel
theorem dX6_piece_17 : decode cX6_piece 17 = .ok (.iload_n 1, 1) := by decide +kernel
theorem dX6_piece_18 : decode cX6_piece 18 = .ok (.iload 4, 2) := by decide +kernel
theorem dX6_piece_20 : decode cX6_piece 20 = .ok (.iadd, 1) := by decide +kernel
theorem dX6_piece_21 : decode cX6_piece 21 = .ok (.iaload, 1) := by decide +kernel
theorem dX6_piece_22 : decode cX6_piece 22 = .ok (.ishl, 1) := by decide +kernel
theorem dX6_piece_23 : decode cX6_piece 23 = .ok (.ior, 1) := by decide +kernel
theorem dX6_piece_24 : decode cX6_piece 24 = .ok (.istore_n 3, 1) := by decide +kernel
theorem dX6_piece_25 : decode cX6_piece 25 = .ok (.iinc 4 1, 3) := by decide +kernel
theorem dX6_piece_28 : decode cX6_piece 28 = .ok (.goto (-23), 3) := by decide +kernel
theorem dX6_piece_31 : decode cX6_piece 31 = .ok (.iload_n 3, 1) := by decide +kernel
theorem dX6_piece_32 : decode cX6_piece 32 = .ok (.ireturn, 1) := by decide +kernel
set_option maxRecDepth 20000 in
theorem ggX6_derived_X6_isIn : GoodIn wsX6_derived wsX6_isIn := goodIn_r _ [7] (by decide +kernel) (by decide +kernel)
set_option maxRecDepth 20000 in
theorem gX6_derived_X6_isIn : GoodIn wsX6_derived (va_wsS RX6 90 yX6_isIn wsX6_isIn) := goodIn_app (goodIn_of _ (by decide +kernel)) ggX6_derived_X6_isIn
set_option maxRecDepth 20000 in
theorem ggX6_derived_X6_piece : GoodIn wsX6_derived wsX6_piece := goodIn_r _ [11, 12, 39, 40, 41, 42, 43, 44, 45, 46, 47, 48, 49, 50, 51, 52, 53, 54, 55, 56, 57, 58] (by decide +kernel) (by decide +kernel)
set_option maxRecDepth 20000 in
theorem gX6_derived_X6_piece : GoodIn wsX6_derived (wsV RX6 138 RX6 yX6_piece wsX6_piece) := goodIn_app (goodIn_of _ (by decide +kernel)) ggX6_derived_X6_piece
set_option maxRecDepth 20000 in
theorem ggX6_derived_X6_leastIn : GoodIn wsX6_derived wsX6_leastIn := goodIn_r _ [16, 17, 18, 19, 20, 6, 21, 22, 23, 2, 24, 25, 26, 27, 28, 29, 30, 31, 32, 33, 34, 35, 36, 37, 38, 39, 40, 41, 42, 43, 44, 45, 46, 47, 48, 49, 50, 51, 52, 53, 54, 55, 56, 57, 58] (by decide +kernel) (by decide +kernel)
set_option maxRecDepth 20000 in
theorem gX6_derived_X6_leastIn : GoodIn wsX6_derived (wsV RX6 94 RX6 yX6_leastIn wsX6_leastIn) := goodIn_app (goodIn_of _ (by decide +kernel)) ggX6_derived_X6_leastIn
theorem dX6_derived_0 : decode cX6_derived 0 = .ok (.aload_n 0, 1) := by decide +kernel
theorem dX6_derived_1 : decode cX6_derived 1 = .ok (.iconst 0, 1) := by decide +kernel
theorem dX6_derived_2 : decode cX6_derived 2 = .ok (.putfield 57, 3) := by decide +kernel
theorem dX6_derived_5 : decode cX6_derived 5 = .ok (.iload_n 2, 1) := by decide +kernel
theorem dX6_derived_6 : decode cX6_derived 6 = .ok (.iconst 0, 1) := by decide +kernel
theorem dX6_derived_7 : decode cX6_derived 7 = .ok (.iconst 2, 1) := by decide +kernel
theorem dX6_derived_8 : decode cX6_derived 8 = .ok (.invokestatic 90, 3) := by decide +kernel
theorem dX6_derived_11 : decode cX6_derived 11 = .ok (.ifCond .eq 24, 3) := by decide +kernel
theorem dX6_derived_14 : decode cX6_derived 14 = .ok (.iload_n 1, 1) := by decide +kernel
theorem dX6_derived_15 : decode cX6_derived 15 = .ok (.iconst 1, 1) := by decide +kernel
theorem dX6_derived_16 : decode cX6_derived 16 = .ok (.aload_n 0, 1) := by decide +kernel
theorem dX6_derived_17 : decode cX6_derived 17 = .ok (.getfield 7, 3) := by decide +kernel
theorem dX6_derived_20 : decode cX6_derived 20 = .ok (.invokestatic 90, 3) := by decide +kernel
theorem dX6_derived_23 : decode cX6_derived 23 = .ok (.ifCond .eq 12, 3) := by decide +kernel
theorem dX6_derived_26 : decode cX6_derived 26 = .ok (.aload_n 0, 1) := by decide +kernel
theorem dX6_derived_27 : decode cX6_derived 27 = .ok (.getfield 7, 3) := by decide +kernel
theorem dX6_derived_30 : decode cX6_derived 30 = .ok (.iload_n 1, 1) := by decide +kernel
theorem dX6_derived_31 : decode cX6_derived 31 = .ok (.irem, 1) := by decide +kernel
theorem dX6_derived_32 : decode cX6_derived 32 = .ok (.ifCond .eq 6, 3) := by decide +kernel
theorem dX6_derived_35 : decode cX6_derived 35 = .ok (.bipush (-2), 2) := by decide +kernel
theorem dX6_derived_37 : decode cX6_derived 37 = .ok (.ireturn, 1) := by decide +kernel
theorem dX6_derived_38 : decode cX6_derived 38 = .ok (.aload_n 0, 1) := by decide +kernel
theorem dX6_derived_39 : decode cX6_derived 39 = .ok (.getfield 60, 3) := by decide +kernel
theorem dX6_derived_42 : decode cX6_derived 42 = .ok (.aload_n 0, 1) := by decide +kernel
theorem dX6_derived_43 : decode cX6_derived 43 = .ok (.getfield 7, 3) := by decide +kernel
theorem dX6_derived_46 : decode cX6_derived 46 = .ok (.if_icmp .ge 6, 3) := by decide +kernel
theorem dX6_derived_49 : decode cX6_derived 49 = .ok (.bipush (-3), 2) := by decide +kernel
theorem dX6_derived_51 : decode cX6_derived 51 = .ok (.ireturn, 1) := by decide +kernel
theorem dX6_derived_52 : decode cX6_derived 52 = .ok (.iconst 1, 1) := by decide +kernel
theorem dX6_derived_53 : decode cX6_derived 53 = .ok (.istore_n 3, 1) := by decide +kernel
theorem dX6_derived_54 : decode cX6_derived 54 = .ok (.iconst 0, 1) := by decide +kernel
theorem dX6_derived_55 : decode cX6_derived 55 = .ok (.istore 4, 2) := by decide +kernel
theorem dX6_derived_57 : decode cX6_derived 57 = .ok (.iload 4, 2) := by decide +kernel
theorem dX6_derived_59 : decode cX6_derived 59 = .ok (.aload_n 0, 1) := by decide +kernel
theorem dX6_derived_60 : decode cX6_derived 60 = .ok (.getfield 7, 3) := by decide +kernel
theorem dX6_derived_63 : decode cX6_derived 63 = .ok (.if_icmp .ge 48, 3) := by decide +kernel
theorem dX6_derived_66 : decode cX6_derived 66 = .ok (.iload_n 3, 1) := by decide +kernel
theorem dX6_derived_67 : decode cX6_derived 67 = .ok (.ifCond .eq 33, 3) := by decide +kernel
theorem dX6_derived_70 : decode cX6_derived 70 = .ok (.aload_n 0, 1) := by decide +kernel
theorem dX6_derived_71 : decode cX6_derived 71 = .ok (.iload_n 2, 1) := by decide +kernel
theorem dX6_derived_72 : decode cX6_derived 72 = .ok (.aload_n 0, 1) := by decide +kernel
theorem dX6_derived_73 : decode cX6_derived 73 = .ok (.iload 4, 2) := by decide +kernel
theorem dX6_derived_75 : decode cX6_derived 75 = .ok (.iload_n 1, 1) := by decide +kernel
theorem dX6_derived_76 : decode cX6_derived 76 = .ok (.invokevirtual 138, 3) := by decide +kernel
theorem dX6_derived_79 : decode cX6_derived 79 = .ok (.invokevirtual 94, 3) := by decide +kernel
theorem dX6_derived_82 : decode cX6_derived 82 = .ok (.aload_n 0, 1) := by decide +kernel
theorem dX6_derived_83 : decode cX6_derived 83 = .ok (.iload_n 2, 1) := by decide +kernel
theorem dX6_derived_84 : decode cX6_derived 84 = .ok (.aload_n 0, 1) := by decide +kernel
theorem dX6_derived_85 : decode cX6_derived 85 = .ok (.iconst 0, 1) := by decide +kernel
theorem dX6_derived_86 : decode cX6_derived 86 = .ok (.iload_n 1, 1) := by decide +kernel
theorem dX6_derived_87 : decode cX6_derived 87 = .ok (.invokevirtual 138, 3) := by decide +kernel
theorem dX6_derived_90 : decode cX6_derived 90 = .ok (.invokevirtual 94, 3) := by decide +kernel
theorem dX6_derived_93 : decode cX6_derived 93 = .ok (.if_icmp .ne 7, 3) := by decide +kernel
theorem dX6_derived_96 : decode cX6_derived 96 = .ok (.iconst 1, 1) := by decide +kernel
theorem dX6_derived_97 : decode cX6_derived 97 = .ok (.goto 4, 3) := by decide +kernel
theorem dX6_derived_100 : decode cX6_derived 100 = .ok (.iconst 0, 1) := by decide +kernel
theorem dX6_derived_101 : decode cX6_derived 101 = .ok (.istore_n 3, 1) := by decide +kernel
theorem dX6_derived_102 : decode cX6_derived 102 = .ok (.iload 4, 2) := by decide +kernel
theorem dX6_derived_104 : decode cX6_derived 104 = .ok (.iload_n 1, 1) := by decide +kernel
theorem dX6_derived_105 : decode cX6_derived 105 = .ok (.iadd, 1) := by decide +kernel
theorem dX6_derived_106 : decode cX6_derived 106 = .ok (.istore 4, 2) := by decide +kernel
theorem dX6_derived_108 : decode cX6_derived 108 = .ok (.goto (-51), 3) := by decide +kernel
theorem dX6_derived_111 : decode cX6_derived 111 = .ok (.iload_n 3, 1) := by decide +kernel
theorem dX6_derived_112 : decode cX6_derived 112 = .ok (.ifCond .eq 7, 3) := by decide +kernel
theorem dX6_derived_115 : decode cX6_derived 115 = .ok (.iconst 1, 1) := by decide +kernel
theorem dX6_derived_116 : decode cX6_derived 116 = .ok (.goto 4, 3) := by decide +kernel
theorem dX6_derived_119 : decode cX6_derived 119 = .ok (.iconst 0, 1) := by decide +kernel
theorem dX6_derived_120 : decode cX6_derived 120 = .ok (.ireturn, 1) := by decide +kernel
set_option maxRecDepth 20000 in
theorem ggX6_kept_X6_isIn : GoodIn wsX6_kept wsX6_isIn := goodIn_r _ [8] (by decide +kernel) (by decide +kernel)
set_option maxRecDepth 20000 in
theorem gX6_kept_X6_isIn : GoodIn wsX6_kept (va_wsS RX6 90 yX6_isIn wsX6_isIn) := goodIn_app (goodIn_of _ (by decide +kernel)) ggX6_kept_X6_isIn
set_option maxRecDepth 20000 in
theorem ggX6_kept_X6_isStep : GoodIn wsX6_kept wsX6_isStep := goodIn_r _ [12, 2, 22, 23, 24, 25, 26, 27, 28, 29, 30, 31, 32, 33, 34, 35, 36, 37, 38, 39, 40, 41] (by decide +kernel) (by decide +kernel)
set_option maxRecDepth 20000 in
theorem gX6_kept_X6_isStep : GoodIn wsX6_kept (wsV RX6 125 RX6 yX6_isStep wsX6_isStep) := goodIn_app (goodIn_of _ (by decide +kernel)) ggX6_kept_X6_isStep
set_option maxRecDepth 20000 in
theorem ggX6_kept_X6_layForm : GoodIn wsX6_kept wsX6_layForm := goodIn_r _ [16, 2, 17, 4, 22, 23, 24, 25, 26, 27, 28, 29, 30, 31, 32, 33, 34, 35, 36, 37, 38, 39, 40, 41] (by decide +kernel) (by decide +kernel)
set_option maxRecDepth 20000 in
theorem gX6_kept_X6_layForm : GoodIn wsX6_kept (wsV RX6 132 RX6 yX6_layForm wsX6_layForm) := goodIn_app (goodIn_of _ (by decide +kernel)) ggX6_kept_X6_layForm
set_option maxRecDepth 20000 in
theorem ggX6_kept_X6_piece : GoodIn wsX6_kept wsX6_piece := goodIn_r _ [21, 17, 22, 23, 24, 25, 26, 27, 28, 29, 30, 31, 32, 33, 34, 35, 36, 37, 38, 39, 40, 41] (by decide +kernel) (by decide +kernel)
set_option maxRecDepth 20000 in
theorem gX6_kept_X6_piece : GoodIn wsX6_kept (wsV RX6 138 RX6 yX6_piece wsX6_piece) := goodIn_app (goodIn_of _ (by decide +kernel)) ggX6_kept_X6_piece
theorem dX6_kept_0 : decode cX6_kept 0 = .ok (.aload_n 0, 1) := by decide +kernel
theorem dX6_kept_1 : decode cX6_kept 1 = .ok (.iconst 0, 1) := by decide +kernel
theorem dX6_kept_2 : decode cX6_kept 2 = .ok (.putfield 57, 3) := by decide +kernel
theorem dX6_kept_5 : decode cX6_kept 5 = .ok (.iload_n 1, 1) := by decide +kernel
theorem dX6_kept_6 : decode cX6_kept 6 = .ok (.iconst 0, 1) := by decide +kernel
theorem dX6_kept_7 : decode cX6_kept 7 = .ok (.iconst 3, 1) := by decide +kernel
theorem dX6_kept_8 : decode cX6_kept 8 = .ok (.invokestatic 90, 3) := by decide +kernel
theorem dX6_kept_11 : decode cX6_kept 11 = .ok (.ifCond .eq 23, 3) := by decide +kernel
theorem dX6_kept_14 : decode cX6_kept 14 = .ok (.aload_n 0, 1) := by decide +kernel
theorem dX6_kept_15 : decode cX6_kept 15 = .ok (.iload_n 2, 1) := by decide +kernel
theorem dX6_kept_16 : decode cX6_kept 16 = .ok (.invokevirtual 125, 3) := by decide +kernel
theorem dX6_kept_19 : decode cX6_kept 19 = .ok (.ifCond .eq 15, 3) := by decide +kernel
theorem dX6_kept_22 : decode cX6_kept 22 = .ok (.iload_n 3, 1) := by decide +kernel
theorem dX6_kept_23 : decode cX6_kept 23 = .ok (.iconst 1, 1) := by decide +kernel
theorem dX6_kept_24 : decode cX6_kept 24 = .ok (.aload_n 0, 1) := by decide +kernel
theorem dX6_kept_25 : decode cX6_kept 25 = .ok (.getfield 7, 3) := by decide +kernel
theorem dX6_kept_28 : decode cX6_kept 28 = .ok (.invokestatic 90, 3) := by decide +kernel
theorem dX6_kept_31 : decode cX6_kept 31 = .ok (.ifCond .ne 6, 3) := by decide +kernel
theorem dX6_kept_34 : decode cX6_kept 34 = .ok (.bipush (-2), 2) := by decide +kernel
theorem dX6_kept_36 : decode cX6_kept 36 = .ok (.ireturn, 1) := by decide +kernel
theorem dX6_kept_37 : decode cX6_kept 37 = .ok (.aload_n 0, 1) := by decide +kernel
theorem dX6_kept_38 : decode cX6_kept 38 = .ok (.getfield 60, 3) := by decide +kernel
theorem dX6_kept_41 : decode cX6_kept 41 = .ok (.aload_n 0, 1) := by decide +kernel
theorem dX6_kept_42 : decode cX6_kept 42 = .ok (.getfield 7, 3) := by decide +kernel
theorem dX6_kept_45 : decode cX6_kept 45 = .ok (.if_icmp .ge 6, 3) := by decide +kernel
theorem dX6_kept_48 : decode cX6_kept 48 = .ok (.bipush (-3), 2) := by decide +kernel
theorem dX6_kept_50 : decode cX6_kept 50 = .ok (.ireturn, 1) := by decide +kernel
theorem dX6_kept_51 : decode cX6_kept 51 = .ok (.aload_n 0, 1) := by decide +kernel
theorem dX6_kept_52 : decode cX6_kept 52 = .ok (.iload_n 1, 1) := by decide +kernel
theorem dX6_kept_53 : decode cX6_kept 53 = .ok (.iload_n 2, 1) := by decide +kernel
theorem dX6_kept_54 : decode cX6_kept 54 = .ok (.invokevirtual 132, 3) := by decide +kernel
theorem dX6_kept_57 : decode cX6_kept 57 = .ok (.iconst 0, 1) := by decide +kernel
theorem dX6_kept_58 : decode cX6_kept 58 = .ok (.istore 4, 2) := by decide +kernel
theorem dX6_kept_60 : decode cX6_kept 60 = .ok (.iconst 0, 1) := by decide +kernel
theorem dX6_kept_61 : decode cX6_kept 61 = .ok (.istore 5, 2) := by decide +kernel
theorem dX6_kept_63 : decode cX6_kept 63 = .ok (.iload 5, 2) := by decide +kernel
theorem dX6_kept_65 : decode cX6_kept 65 = .ok (.iload_n 3, 1) := by decide +kernel
theorem dX6_kept_66 : decode cX6_kept 66 = .ok (.iadd, 1) := by decide +kernel
theorem dX6_kept_67 : decode cX6_kept 67 = .ok (.aload_n 0, 1) := by decide +kernel
theorem dX6_kept_68 : decode cX6_kept 68 = .ok (.getfield 7, 3) := by decide +kernel
theorem dX6_kept_71 : decode cX6_kept 71 = .ok (.if_icmp .gt 106, 3) := by decide +kernel
theorem dX6_kept_74 : decode cX6_kept 74 = .ok (.iconst 0, 1) := by decide +kernel
theorem dX6_kept_75 : decode cX6_kept 75 = .ok (.istore 6, 2) := by decide +kernel
theorem dX6_kept_77 : decode cX6_kept 77 = .ok (.iconst 0, 1) := by decide +kernel
theorem dX6_kept_78 : decode cX6_kept 78 = .ok (.istore 7, 2) := by decide +kernel
theorem dX6_kept_80 : decode cX6_kept 80 = .ok (.iload 7, 2) := by decide +kernel
theorem dX6_kept_82 : decode cX6_kept 82 = .ok (.iload_n 3, 1) := by decide +kernel
theorem dX6_kept_83 : decode cX6_kept 83 = .ok (.iadd, 1) := by decide +kernel
theorem dX6_kept_84 : decode cX6_kept 84 = .ok (.aload_n 0, 1) := by decide +kernel
theorem dX6_kept_85 : decode cX6_kept 85 = .ok (.getfield 7, 3) := by decide +kernel
theorem dX6_kept_88 : decode cX6_kept 88 = .ok (.if_icmp .gt 68, 3) := by decide +kernel
theorem dX6_kept_91 : decode cX6_kept 91 = .ok (.iconst 0, 1) := by decide +kernel
theorem dX6_kept_92 : decode cX6_kept 92 = .ok (.istore 8, 2) := by decide +kernel
theorem dX6_kept_94 : decode cX6_kept 94 = .ok (.iconst 0, 1) := by decide +kernel
theorem dX6_kept_95 : decode cX6_kept 95 = .ok (.istore 9, 2) := by decide +kernel
theorem dX6_kept_97 : decode cX6_kept 97 = .ok (.iload 9, 2) := by decide +kernel
theorem dX6_kept_99 : decode cX6_kept 99 = .ok (.iload_n 3, 1) := by decide +kernel
theorem dX6_kept_100 : decode cX6_kept 100 = .ok (.if_icmp .ge 26, 3) := by decide +kernel
theorem dX6_kept_103 : decode cX6_kept 103 = .ok (.iload 8, 2) := by decide +kernel
theorem dX6_kept_105 : decode cX6_kept 105 = .ok (.iconst 1, 1) := by decide +kernel
theorem dX6_kept_106 : decode cX6_kept 106 = .ok (.aload_n 0, 1) := by decide +kernel
theorem dX6_kept_107 : decode cX6_kept 107 = .ok (.getfield 38, 3) := by decide +kernel
theorem dX6_kept_110 : decode cX6_kept 110 = .ok (.iload 7, 2) := by decide +kernel
theorem dX6_kept_112 : decode cX6_kept 112 = .ok (.iload 9, 2) := by decide +kernel
theorem dX6_kept_114 : decode cX6_kept 114 = .ok (.iadd, 1) := by decide +kernel
theorem dX6_kept_115 : decode cX6_kept 115 = .ok (.iaload, 1) := by decide +kernel
theorem dX6_kept_116 : decode cX6_kept 116 = .ok (.ishl, 1) := by decide +kernel
theorem dX6_kept_117 : decode cX6_kept 117 = .ok (.ior, 1) := by decide +kernel
theorem dX6_kept_118 : decode cX6_kept 118 = .ok (.istore 8, 2) := by decide +kernel
theorem dX6_kept_120 : decode cX6_kept 120 = .ok (.iinc 9 1, 3) := by decide +kernel
theorem dX6_kept_123 : decode cX6_kept 123 = .ok (.goto (-26), 3) := by decide +kernel
theorem dX6_kept_126 : decode cX6_kept 126 = .ok (.iload 6, 2) := by decide +kernel
theorem dX6_kept_128 : decode cX6_kept 128 = .ok (.ifCond .ne 15, 3) := by decide +kernel
theorem dX6_kept_131 : decode cX6_kept 131 = .ok (.iload 8, 2) := by decide +kernel
theorem dX6_kept_133 : decode cX6_kept 133 = .ok (.aload_n 0, 1) := by decide +kernel
theorem dX6_kept_134 : decode cX6_kept 134 = .ok (.iload 5, 2) := by decide +kernel
theorem dX6_kept_136 : decode cX6_kept 136 = .ok (.iload_n 3, 1) := by decide +kernel
theorem dX6_kept_137 : decode cX6_kept 137 = .ok (.invokevirtual 138, 3) := by decide +kernel
theorem dX6_kept_140 : decode cX6_kept 140 = .ok (.if_icmp .ne 7, 3) := by decide +kernel
theorem dX6_kept_143 : decode cX6_kept 143 = .ok (.iconst 1, 1) := by decide +kernel
theorem dX6_kept_144 : decode cX6_kept 144 = .ok (.goto 4, 3) := by decide +kernel
theorem dX6_kept_147 : decode cX6_kept 147 = .ok (.iconst 0, 1) := by decide +kernel
theorem dX6_kept_148 : decode cX6_kept 148 = .ok (.istore 6, 2) := by decide +kernel
theorem dX6_kept_150 : decode cX6_kept 150 = .ok (.iinc 7 1, 3) := by decide +kernel
theorem dX6_kept_153 : decode cX6_kept 153 = .ok (.goto (-73), 3) := by decide +kernel
theorem dX6_kept_156 : decode cX6_kept 156 = .ok (.iload 4, 2) := by decide +kernel
theorem dX6_kept_158 : decode cX6_kept 158 = .ok (.iload 6, 2) := by decide +kernel
theorem dX6_kept_160 : decode cX6_kept 160 = .ok (.ifCond .eq 7, 3) := by decide +kernel
theorem dX6_kept_163 : decode cX6_kept 163 = .ok (.iconst 1, 1) := by decide +kernel
theorem dX6_kept_164 : decode cX6_kept 164 = .ok (.goto 4, 3) := by decide +kernel
theorem dX6_kept_167 : decode cX6_kept 167 = .ok (.iconst 0, 1) := by decide +kernel
theorem dX6_kept_168 : decode cX6_kept 168 = .ok (.iadd, 1) := by decide +kernel
theorem dX6_kept_169 : decode cX6_kept 169 = .ok (.istore 4, 2) := by decide +kernel
theorem dX6_kept_171 : decode cX6_kept 171 = .ok (.iinc 5 1, 3) := by decide +kernel
theorem dX6_kept_174 : decode cX6_kept 174 = .ok (.goto (-111), 3) := by decide +kernel
theorem dX6_kept_177 : decode cX6_kept 177 = .ok (.iload 4, 2) := by decide +kernel
theorem dX6_kept_179 : decode cX6_kept 179 = .ok (.ireturn, 1) := by decide +kernel
theorem dX6_power_0 : decode cX6_power 0 = .ok (.lconst 1, 1) := by decide +kernel
theorem dX6_power_1 : decode cX6_power 1 = .ok (.lstore_n 3, 1) := by decide +kernel
theorem dX6_power_2 : decode cX6_power 2 = .ok (.iconst 0, 1) := by decide +kernel
theorem dX6_power_3 : decode cX6_power 3 = .ok (.istore 5, 2) := by decide +kernel
theorem dX6_power_5 : decode cX6_power 5 = .ok (.iload 5, 2) := by decide +kernel
theorem dX6_power_7 : decode cX6_power 7 = .ok (.iload_n 2, 1) := by decide +kernel
theorem dX6_power_8 : decode cX6_power 8 = .ok (.if_icmp .ge 13, 3) := by decide +kernel
theorem dX6_power_11 : decode cX6_power 11 = .ok (.lload_n 3, 1) := by decide +kernel
theorem dX6_power_12 : decode cX6_power 12 = .ok (.lload_n 0, 1) := by decide +kernel
theorem dX6_power_13 : decode cX6_power 13 = .ok (.lmul, 1) := by decide +kernel
theorem dX6_power_14 : decode cX6_power 14 = .ok (.lstore_n 3, 1) := by decide +kernel
theorem dX6_power_15 : decode cX6_power 15 = .ok (.iinc 5 1, 3) := by decide +kernel
theorem dX6_power_18 : decode cX6_power 18 = .ok (.goto (-13), 3) := by decide +kernel
theorem dX6_power_21 : decode cX6_power 21 = .ok (.lload_n 3, 1) := by decide +kernel
theorem dX6_power_22 : decode cX6_power 22 = .ok (.lreturn, 1) := by decide +kernel
set_option maxRecDepth 20000 in
theorem ggX6_rounds_X6_isIn : GoodIn wsX6_rounds wsX6_isIn := goodIn_r _ [8] (by decide +kernel) (by decide +kernel)
set_option maxRecDepth 20000 in
theorem gX6_rounds_X6_isIn : GoodIn wsX6_rounds (va_wsS RX6 90 yX6_isIn wsX6_isIn) := goodIn_app (goodIn_of _ (by decide +kernel)) ggX6_rounds_X6_isIn
set_option maxRecDepth 20000 in
theorem ggX6_rounds_X6_power : GoodIn wsX6_rounds wsX6_power := goodIn_r _ [11] (by decide +kernel) (by decide +kernel)
set_option maxRecDepth 20000 in
theorem gX6_rounds_X6_power : GoodIn wsX6_rounds (va_wsS RX6 143 yX6_power wsX6_power) := goodIn_app (goodIn_of _ (by decide +kernel)) ggX6_rounds_X6_power
theorem dX6_rounds_0 : decode cX6_rounds 0 = .ok (.aload_n 0, 1) := by decide +kernel
theorem dX6_rounds_1 : decode cX6_rounds 1 = .ok (.iconst 0, 1) := by decide +kernel
theorem dX6_rounds_2 : decode cX6_rounds 2 = .ok (.putfield 57, 3) := by decide +kernel
theorem dX6_rounds_5 : decode cX6_rounds 5 = .ok (.iload_n 1, 1) := by decide +kernel
theorem dX6_rounds_6 : decode cX6_rounds 6 = .ok (.iconst 1, 1) := by decide +kernel
theorem dX6_rounds_7 : decode cX6_rounds 7 = .ok (.bipush 24, 2) := by decide +kernel
theorem dX6_rounds_9 : decode cX6_rounds 9 = .ok (.invokestatic 90, 3) := by decide +kernel
theorem dX6_rounds_12 : decode cX6_rounds 12 = .ok (.ifCond .eq 13, 3) := by decide +kernel
theorem dX6_rounds_15 : decode cX6_rounds 15 = .ok (.iload_n 2, 1) := by decide +kernel
theorem dX6_rounds_16 : decode cX6_rounds 16 = .ok (.iconst 1, 1) := by decide +kernel
theorem dX6_rounds_17 : decode cX6_rounds 17 = .ok (.bipush 6, 2) := by decide +kernel
theorem dX6_rounds_19 : decode cX6_rounds 19 = .ok (.invokestatic 90, 3) := by decide +kernel
theorem dX6_rounds_22 : decode cX6_rounds 22 = .ok (.ifCond .ne 7, 3) := by decide +kernel
theorem dX6_rounds_25 : decode cX6_rounds 25 = .ok (.ldc2_w 141, 3) := by decide +kernel
theorem dX6_rounds_28 : decode cX6_rounds 28 = .ok (.lreturn, 1) := by decide +kernel
theorem dX6_rounds_29 : decode cX6_rounds 29 = .ok (.lconst 0, 1) := by decide +kernel
theorem dX6_rounds_30 : decode cX6_rounds 30 = .ok (.lstore 4, 2) := by decide +kernel
theorem dX6_rounds_32 : decode cX6_rounds 32 = .ok (.iconst 1, 1) := by decide +kernel
theorem dX6_rounds_33 : decode cX6_rounds 33 = .ok (.istore 6, 2) := by decide +kernel
theorem dX6_rounds_35 : decode cX6_rounds 35 = .ok (.iload 6, 2) := by decide +kernel
theorem dX6_rounds_37 : decode cX6_rounds 37 = .ok (.iload_n 1, 1) := by decide +kernel
theorem dX6_rounds_38 : decode cX6_rounds 38 = .ok (.if_icmp .gt 95, 3) := by decide +kernel
theorem dX6_rounds_41 : decode cX6_rounds 41 = .ok (.aload_n 0, 1) := by decide +kernel
theorem dX6_rounds_42 : decode cX6_rounds 42 = .ok (.getfield 53, 3) := by decide +kernel
theorem dX6_rounds_45 : decode cX6_rounds 45 = .ok (.iload 6, 2) := by decide +kernel
theorem dX6_rounds_47 : decode cX6_rounds 47 = .ok (.iload_n 2, 1) := by decide +kernel
theorem dX6_rounds_48 : decode cX6_rounds 48 = .ok (.i2l, 1) := by decide +kernel
theorem dX6_rounds_49 : decode cX6_rounds 49 = .ok (.iload 6, 2) := by decide +kernel
theorem dX6_rounds_51 : decode cX6_rounds 51 = .ok (.invokestatic 143, 3) := by decide +kernel
theorem dX6_rounds_54 : decode cX6_rounds 54 = .ok (.lastore, 1) := by decide +kernel
theorem dX6_rounds_55 : decode cX6_rounds 55 = .ok (.iconst 1, 1) := by decide +kernel
theorem dX6_rounds_56 : decode cX6_rounds 56 = .ok (.istore 7, 2) := by decide +kernel
theorem dX6_rounds_58 : decode cX6_rounds 58 = .ok (.iload 7, 2) := by decide +kernel
theorem dX6_rounds_60 : decode cX6_rounds 60 = .ok (.iload 6, 2) := by decide +kernel
theorem dX6_rounds_62 : decode cX6_rounds 62 = .ok (.if_icmp .ge 38, 3) := by decide +kernel
theorem dX6_rounds_65 : decode cX6_rounds 65 = .ok (.aload_n 0, 1) := by decide +kernel
theorem dX6_rounds_66 : decode cX6_rounds 66 = .ok (.getfield 53, 3) := by decide +kernel
theorem dX6_rounds_69 : decode cX6_rounds 69 = .ok (.iload 6, 2) := by decide +kernel
theorem dX6_rounds_71 : decode cX6_rounds 71 = .ok (.dup2, 1) := by decide +kernel
theorem dX6_rounds_72 : decode cX6_rounds 72 = .ok (.laload, 1) := by decide +kernel
theorem dX6_rounds_73 : decode cX6_rounds 73 = .ok (.iload 6, 2) := by decide +kernel
theorem dX6_rounds_75 : decode cX6_rounds 75 = .ok (.iload 7, 2) := by decide +kernel
theorem dX6_rounds_77 : decode cX6_rounds 77 = .ok (.irem, 1) := by decide +kernel
theorem dX6_rounds_78 : decode cX6_rounds 78 = .ok (.ifCond .ne 13, 3) := by decide +kernel
theorem dX6_rounds_81 : decode cX6_rounds 81 = .ok (.aload_n 0, 1) := by decide +kernel
theorem dX6_rounds_82 : decode cX6_rounds 82 = .ok (.getfield 53, 3) := by decide +kernel
theorem dX6_rounds_85 : decode cX6_rounds 85 = .ok (.iload 7, 2) := by decide +kernel
theorem dX6_rounds_87 : decode cX6_rounds 87 = .ok (.laload, 1) := by decide +kernel
theorem dX6_rounds_88 : decode cX6_rounds 88 = .ok (.goto 4, 3) := by decide +kernel
theorem dX6_rounds_91 : decode cX6_rounds 91 = .ok (.lconst 0, 1) := by decide +kernel
theorem dX6_rounds_92 : decode cX6_rounds 92 = .ok (.lsub, 1) := by decide +kernel
theorem dX6_rounds_93 : decode cX6_rounds 93 = .ok (.lastore, 1) := by decide +kernel
theorem dX6_rounds_94 : decode cX6_rounds 94 = .ok (.iinc 7 1, 3) := by decide +kernel
theorem dX6_rounds_97 : decode cX6_rounds 97 = .ok (.goto (-39), 3) := by decide +kernel
theorem dX6_rounds_100 : decode cX6_rounds 100 = .ok (.lload 4, 2) := by decide +kernel
theorem dX6_rounds_102 : decode cX6_rounds 102 = .ok (.iload_n 1, 1) := by decide +kernel
theorem dX6_rounds_103 : decode cX6_rounds 103 = .ok (.iload 6, 2) := by decide +kernel
theorem dX6_rounds_105 : decode cX6_rounds 105 = .ok (.irem, 1) := by decide +kernel
theorem dX6_rounds_106 : decode cX6_rounds 106 = .ok (.ifCond .ne 17, 3) := by decide +kernel
theorem dX6_rounds_109 : decode cX6_rounds 109 = .ok (.aload_n 0, 1) := by decide +kernel
theorem dX6_rounds_110 : decode cX6_rounds 110 = .ok (.getfield 53, 3) := by decide +kernel
theorem dX6_rounds_113 : decode cX6_rounds 113 = .ok (.iload 6, 2) := by decide +kernel
theorem dX6_rounds_115 : decode cX6_rounds 115 = .ok (.laload, 1) := by decide +kernel
theorem dX6_rounds_116 : decode cX6_rounds 116 = .ok (.iload 6, 2) := by decide +kernel
theorem dX6_rounds_118 : decode cX6_rounds 118 = .ok (.i2l, 1) := by decide +kernel
theorem dX6_rounds_119 : decode cX6_rounds 119 = .ok (.ldiv, 1) := by decide +kernel
theorem dX6_rounds_120 : decode cX6_rounds 120 = .ok (.goto 4, 3) := by decide +kernel
theorem dX6_rounds_123 : decode cX6_rounds 123 = .ok (.lconst 0, 1) := by decide +kernel
theorem dX6_rounds_124 : decode cX6_rounds 124 = .ok (.ladd, 1) := by decide +kernel
theorem dX6_rounds_125 : decode cX6_rounds 125 = .ok (.lstore 4, 2) := by decide +kernel
theorem dX6_rounds_127 : decode cX6_rounds 127 = .ok (.iinc 6 1, 3) := by decide +kernel
theorem dX6_rounds_130 : decode cX6_rounds 130 = .ok (.goto (-95), 3) := by decide +kernel
theorem dX6_rounds_133 : decode cX6_rounds 133 = .ok (.iload_n 3, 1) := by decide +kernel
theorem dX6_rounds_134 : decode cX6_rounds 134 = .ok (.ifCond .ne 6, 3) := by decide +kernel
theorem dX6_rounds_137 : decode cX6_rounds 137 = .ok (.lload 4, 2) := by decide +kernel
theorem dX6_rounds_139 : decode cX6_rounds 139 = .ok (.lreturn, 1) := by decide +kernel
theorem dX6_rounds_140 : decode cX6_rounds 140 = .ok (.iload_n 1, 1) := by decide +kernel
theorem dX6_rounds_141 : decode cX6_rounds 141 = .ok (.iconst 2, 1) := by decide +kernel
theorem dX6_rounds_142 : decode cX6_rounds 142 = .ok (.irem, 1) := by decide +kernel
theorem dX6_rounds_143 : decode cX6_rounds 143 = .ok (.iconst 1, 1) := by decide +kernel
theorem dX6_rounds_144 : decode cX6_rounds 144 = .ok (.if_icmp .ne 16, 3) := by decide +kernel
theorem dX6_rounds_147 : decode cX6_rounds 147 = .ok (.iload_n 2, 1) := by decide +kernel
theorem dX6_rounds_148 : decode cX6_rounds 148 = .ok (.i2l, 1) := by decide +kernel
theorem dX6_rounds_149 : decode cX6_rounds 149 = .ok (.iload_n 1, 1) := by decide +kernel
theorem dX6_rounds_150 : decode cX6_rounds 150 = .ok (.iconst 1, 1) := by decide +kernel
theorem dX6_rounds_151 : decode cX6_rounds 151 = .ok (.iadd, 1) := by decide +kernel
theorem dX6_rounds_152 : decode cX6_rounds 152 = .ok (.iconst 2, 1) := by decide +kernel
theorem dX6_rounds_153 : decode cX6_rounds 153 = .ok (.idiv, 1) := by decide +kernel
theorem dX6_rounds_154 : decode cX6_rounds 154 = .ok (.invokestatic 143, 3) := by decide +kernel
theorem dX6_rounds_157 : decode cX6_rounds 157 = .ok (.goto 26, 3) := by decide +kernel
theorem dX6_rounds_160 : decode cX6_rounds 160 = .ok (.iload_n 2, 1) := by decide +kernel
theorem dX6_rounds_161 : decode cX6_rounds 161 = .ok (.i2l, 1) := by decide +kernel
theorem dX6_rounds_162 : decode cX6_rounds 162 = .ok (.iload_n 1, 1) := by decide +kernel
theorem dX6_rounds_163 : decode cX6_rounds 163 = .ok (.iconst 2, 1) := by decide +kernel
theorem dX6_rounds_164 : decode cX6_rounds 164 = .ok (.idiv, 1) := by decide +kernel
theorem dX6_rounds_165 : decode cX6_rounds 165 = .ok (.invokestatic 143, 3) := by decide +kernel
theorem dX6_rounds_168 : decode cX6_rounds 168 = .ok (.iload_n 2, 1) := by decide +kernel
theorem dX6_rounds_169 : decode cX6_rounds 169 = .ok (.i2l, 1) := by decide +kernel
theorem dX6_rounds_170 : decode cX6_rounds 170 = .ok (.iload_n 1, 1) := by decide +kernel
theorem dX6_rounds_171 : decode cX6_rounds 171 = .ok (.iconst 2, 1) := by decide +kernel
theorem dX6_rounds_172 : decode cX6_rounds 172 = .ok (.idiv, 1) := by decide +kernel
theorem dX6_rounds_173 : decode cX6_rounds 173 = .ok (.iconst 1, 1) := by decide +kernel
theorem dX6_rounds_174 : decode cX6_rounds 174 = .ok (.iadd, 1) := by decide +kernel
theorem dX6_rounds_175 : decode cX6_rounds 175 = .ok (.invokestatic 143, 3) := by decide +kernel
theorem dX6_rounds_178 : decode cX6_rounds 178 = .ok (.ladd, 1) := by decide +kernel
theorem dX6_rounds_179 : decode cX6_rounds 179 = .ok (.ldc2_w 147, 3) := by decide +kernel
theorem dX6_rounds_182 : decode cX6_rounds 182 = .ok (.ldiv, 1) := by decide +kernel
theorem dX6_rounds_183 : decode cX6_rounds 183 = .ok (.lstore 6, 2) := by decide +kernel
theorem dX6_rounds_185 : decode cX6_rounds 185 = .ok (.lload 4, 2) := by decide +kernel
theorem dX6_rounds_187 : decode cX6_rounds 187 = .ok (.lload 6, 2) := by decide +kernel
theorem dX6_rounds_189 : decode cX6_rounds 189 = .ok (.ladd, 1) := by decide +kernel
theorem dX6_rounds_190 : decode cX6_rounds 190 = .ok (.ldc2_w 147, 3) := by decide +kernel
theorem dX6_rounds_193 : decode cX6_rounds 193 = .ok (.ldiv, 1) := by decide +kernel
theorem dX6_rounds_194 : decode cX6_rounds 194 = .ok (.lreturn, 1) := by decide +kernel
