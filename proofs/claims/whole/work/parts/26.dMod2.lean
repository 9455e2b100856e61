theorem dMod_mayCome_122 : decode bMod_mayCome 122 = .ok (.if_icmp .ge 27, 3) := by decide +kernel
theorem dMod_mayCome_125 : decode bMod_mayCome 125 = .ok (.iload_n 2, 1) := by decide +kernel
theorem dMod_mayCome_126 : decode bMod_mayCome 126 = .ok (.ifCond .eq 19, 3) := by decide +kernel
theorem dMod_mayCome_129 : decode bMod_mayCome 129 = .ok (.aload_n 0, 1) := by decide +kernel
theorem dMod_mayCome_130 : decode bMod_mayCome 130 = .ok (.getfield 89, 3) := by decide +kernel
theorem dMod_mayCome_133 : decode bMod_mayCome 133 = .ok (.iload 4, 2) := by decide +kernel
theorem dMod_mayCome_135 : decode bMod_mayCome 135 = .ok (.iaload, 1) := by decide +kernel
theorem dMod_mayCome_136 : decode bMod_mayCome 136 = .ok (.aload_n 0, 1) := by decide +kernel
theorem dMod_mayCome_137 : decode bMod_mayCome 137 = .ok (.getfield 13, 3) := by decide +kernel
theorem dMod_mayCome_140 : decode bMod_mayCome 140 = .ok (.iload_n 1, 1) := by decide +kernel
theorem dMod_mayCome_141 : decode bMod_mayCome 141 = .ok (.iaload, 1) := by decide +kernel
theorem dMod_mayCome_142 : decode bMod_mayCome 142 = .ok (.if_icmp .ne 7, 3) := by decide +kernel
theorem dMod_mayCome_145 : decode bMod_mayCome 145 = .ok (.iconst 1, 1) := by decide +kernel
theorem dMod_mayCome_146 : decode bMod_mayCome 146 = .ok (.goto 4, 3) := by decide +kernel
theorem dMod_mayCome_149 : decode bMod_mayCome 149 = .ok (.iconst 0, 1) := by decide +kernel
theorem dMod_mayCome_150 : decode bMod_mayCome 150 = .ok (.ireturn, 1) := by decide +kernel
theorem dMod_nextAlignment_0 : decode bMod_nextAlignment 0 = .ok (.aload_n 0, 1) := by decide +kernel
theorem dMod_nextAlignment_1 : decode bMod_nextAlignment 1 = .ok (.getfield 144, 3) := by decide +kernel
theorem dMod_nextAlignment_4 : decode bMod_nextAlignment 4 = .ok (.ifCond .lt 218, 3) := by decide +kernel
theorem dMod_nextAlignment_7 : decode bMod_nextAlignment 7 = .ok (.aload_n 0, 1) := by decide +kernel
theorem dMod_nextAlignment_8 : decode bMod_nextAlignment 8 = .ok (.getfield 95, 3) := by decide +kernel
theorem dMod_nextAlignment_11 : decode bMod_nextAlignment 11 = .ok (.aload_n 0, 1) := by decide +kernel
theorem dMod_nextAlignment_12 : decode bMod_nextAlignment 12 = .ok (.getfield 144, 3) := by decide +kernel
theorem dMod_nextAlignment_15 : decode bMod_nextAlignment 15 = .ok (.iaload, 1) := by decide +kernel
theorem dMod_nextAlignment_16 : decode bMod_nextAlignment 16 = .ok (.istore_n 2, 1) := by decide +kernel
theorem dMod_nextAlignment_17 : decode bMod_nextAlignment 17 = .ok (.iload_n 2, 1) := by decide +kernel
theorem dMod_nextAlignment_18 : decode bMod_nextAlignment 18 = .ok (.aload_n 0, 1) := by decide +kernel
theorem dMod_nextAlignment_19 : decode bMod_nextAlignment 19 = .ok (.getfield 115, 3) := by decide +kernel
theorem dMod_nextAlignment_22 : decode bMod_nextAlignment 22 = .ok (.if_icmp .ne 54, 3) := by decide +kernel
theorem dMod_nextAlignment_25 : decode bMod_nextAlignment 25 = .ok (.aload_n 0, 1) := by decide +kernel
theorem dMod_nextAlignment_26 : decode bMod_nextAlignment 26 = .ok (.getfield 95, 3) := by decide +kernel
theorem dMod_nextAlignment_29 : decode bMod_nextAlignment 29 = .ok (.aload_n 0, 1) := by decide +kernel
theorem dMod_nextAlignment_30 : decode bMod_nextAlignment 30 = .ok (.getfield 144, 3) := by decide +kernel
theorem dMod_nextAlignment_33 : decode bMod_nextAlignment 33 = .ok (.dup2, 1) := by decide +kernel
theorem dMod_nextAlignment_34 : decode bMod_nextAlignment 34 = .ok (.iaload, 1) := by decide +kernel
theorem dMod_nextAlignment_35 : decode bMod_nextAlignment 35 = .ok (.iconst 1, 1) := by decide +kernel
theorem dMod_nextAlignment_36 : decode bMod_nextAlignment 36 = .ok (.iadd, 1) := by decide +kernel
theorem dMod_nextAlignment_37 : decode bMod_nextAlignment 37 = .ok (.iastore, 1) := by decide +kernel
theorem dMod_nextAlignment_38 : decode bMod_nextAlignment 38 = .ok (.aload_n 0, 1) := by decide +kernel
theorem dMod_nextAlignment_39 : decode bMod_nextAlignment 39 = .ok (.getfield 98, 3) := by decide +kernel
theorem dMod_nextAlignment_42 : decode bMod_nextAlignment 42 = .ok (.aload_n 0, 1) := by decide +kernel
theorem dMod_nextAlignment_43 : decode bMod_nextAlignment 43 = .ok (.getfield 144, 3) := by decide +kernel
theorem dMod_nextAlignment_46 : decode bMod_nextAlignment 46 = .ok (.iaload, 1) := by decide +kernel
theorem dMod_nextAlignment_47 : decode bMod_nextAlignment 47 = .ok (.aload_n 0, 1) := by decide +kernel
theorem dMod_nextAlignment_48 : decode bMod_nextAlignment 48 = .ok (.getfield 153, 3) := by decide +kernel
theorem dMod_nextAlignment_51 : decode bMod_nextAlignment 51 = .ok (.if_icmp .ne 168, 3) := by decide +kernel
theorem dMod_nextAlignment_54 : decode bMod_nextAlignment 54 = .ok (.iload_n 1, 1) := by decide +kernel
theorem dMod_nextAlignment_55 : decode bMod_nextAlignment 55 = .ok (.ifCond .eq 19, 3) := by decide +kernel
theorem dMod_nextAlignment_58 : decode bMod_nextAlignment 58 = .ok (.aload_n 0, 1) := by decide +kernel
theorem dMod_nextAlignment_59 : decode bMod_nextAlignment 59 = .ok (.getfield 101, 3) := by decide +kernel
theorem dMod_nextAlignment_62 : decode bMod_nextAlignment 62 = .ok (.aload_n 0, 1) := by decide +kernel
theorem dMod_nextAlignment_63 : decode bMod_nextAlignment 63 = .ok (.getfield 144, 3) := by decide +kernel
theorem dMod_nextAlignment_66 : decode bMod_nextAlignment 66 = .ok (.iaload, 1) := by decide +kernel
theorem dMod_nextAlignment_67 : decode bMod_nextAlignment 67 = .ok (.aload_n 0, 1) := by decide +kernel
theorem dMod_nextAlignment_68 : decode bMod_nextAlignment 68 = .ok (.getfield 156, 3) := by decide +kernel
theorem dMod_nextAlignment_71 : decode bMod_nextAlignment 71 = .ok (.if_icmp .ne 148, 3) := by decide +kernel
theorem dMod_nextAlignment_74 : decode bMod_nextAlignment 74 = .ok (.iconst 1, 1) := by decide +kernel
theorem dMod_nextAlignment_75 : decode bMod_nextAlignment 75 = .ok (.ireturn, 1) := by decide +kernel
theorem dMod_nextAlignment_76 : decode bMod_nextAlignment 76 = .ok (.iload_n 2, 1) := by decide +kernel
theorem dMod_nextAlignment_77 : decode bMod_nextAlignment 77 = .ok (.aload_n 0, 1) := by decide +kernel
theorem dMod_nextAlignment_78 : decode bMod_nextAlignment 78 = .ok (.getfield 115, 3) := by decide +kernel
theorem dMod_nextAlignment_81 : decode bMod_nextAlignment 81 = .ok (.if_icmp .le 16, 3) := by decide +kernel
theorem dMod_nextAlignment_84 : decode bMod_nextAlignment 84 = .ok (.aload_n 0, 1) := by decide +kernel
theorem dMod_nextAlignment_85 : decode bMod_nextAlignment 85 = .ok (.dup, 1) := by decide +kernel
theorem dMod_nextAlignment_86 : decode bMod_nextAlignment 86 = .ok (.getfield 144, 3) := by decide +kernel
theorem dMod_nextAlignment_89 : decode bMod_nextAlignment 89 = .ok (.iconst 1, 1) := by decide +kernel
theorem dMod_nextAlignment_90 : decode bMod_nextAlignment 90 = .ok (.isub, 1) := by decide +kernel
theorem dMod_nextAlignment_91 : decode bMod_nextAlignment 91 = .ok (.putfield 144, 3) := by decide +kernel
theorem dMod_nextAlignment_94 : decode bMod_nextAlignment 94 = .ok (.goto 125, 3) := by decide +kernel
theorem dMod_nextAlignment_97 : decode bMod_nextAlignment 97 = .ok (.aload_n 0, 1) := by decide +kernel
theorem dMod_nextAlignment_98 : decode bMod_nextAlignment 98 = .ok (.getfield 95, 3) := by decide +kernel
theorem dMod_nextAlignment_101 : decode bMod_nextAlignment 101 = .ok (.aload_n 0, 1) := by decide +kernel
theorem dMod_nextAlignment_102 : decode bMod_nextAlignment 102 = .ok (.getfield 144, 3) := by decide +kernel
theorem dMod_nextAlignment_105 : decode bMod_nextAlignment 105 = .ok (.dup2, 1) := by decide +kernel
theorem dMod_nextAlignment_106 : decode bMod_nextAlignment 106 = .ok (.iaload, 1) := by decide +kernel
theorem dMod_nextAlignment_107 : decode bMod_nextAlignment 107 = .ok (.iconst 1, 1) := by decide +kernel
theorem dMod_nextAlignment_108 : decode bMod_nextAlignment 108 = .ok (.iadd, 1) := by decide +kernel
theorem dMod_nextAlignment_109 : decode bMod_nextAlignment 109 = .ok (.iastore, 1) := by decide +kernel
theorem dMod_nextAlignment_110 : decode bMod_nextAlignment 110 = .ok (.aload_n 0, 1) := by decide +kernel
theorem dMod_nextAlignment_111 : decode bMod_nextAlignment 111 = .ok (.iload_n 2, 1) := by decide +kernel
theorem dMod_nextAlignment_112 : decode bMod_nextAlignment 112 = .ok (.iload_n 1, 1) := by decide +kernel
theorem dMod_nextAlignment_113 : decode bMod_nextAlignment 113 = .ok (.invokevirtual 159, 3) := by decide +kernel
theorem dMod_nextAlignment_116 : decode bMod_nextAlignment 116 = .ok (.ifCond .eq 103, 3) := by decide +kernel
theorem dMod_nextAlignment_119 : decode bMod_nextAlignment 119 = .ok (.aload_n 0, 1) := by decide +kernel
theorem dMod_nextAlignment_120 : decode bMod_nextAlignment 120 = .ok (.getfield 92, 3) := by decide +kernel
theorem dMod_nextAlignment_123 : decode bMod_nextAlignment 123 = .ok (.aload_n 0, 1) := by decide +kernel
theorem dMod_nextAlignment_124 : decode bMod_nextAlignment 124 = .ok (.getfield 144, 3) := by decide +kernel
theorem dMod_nextAlignment_127 : decode bMod_nextAlignment 127 = .ok (.iload_n 2, 1) := by decide +kernel
theorem dMod_nextAlignment_128 : decode bMod_nextAlignment 128 = .ok (.iastore, 1) := by decide +kernel
theorem dMod_nextAlignment_129 : decode bMod_nextAlignment 129 = .ok (.aload_n 0, 1) := by decide +kernel
theorem dMod_nextAlignment_130 : decode bMod_nextAlignment 130 = .ok (.getfield 98, 3) := by decide +kernel
theorem dMod_nextAlignment_133 : decode bMod_nextAlignment 133 = .ok (.aload_n 0, 1) := by decide +kernel
theorem dMod_nextAlignment_134 : decode bMod_nextAlignment 134 = .ok (.getfield 144, 3) := by decide +kernel
theorem dMod_nextAlignment_137 : decode bMod_nextAlignment 137 = .ok (.iconst 1, 1) := by decide +kernel
theorem dMod_nextAlignment_138 : decode bMod_nextAlignment 138 = .ok (.iadd, 1) := by decide +kernel
theorem dMod_nextAlignment_139 : decode bMod_nextAlignment 139 = .ok (.aload_n 0, 1) := by decide +kernel
theorem dMod_nextAlignment_140 : decode bMod_nextAlignment 140 = .ok (.getfield 98, 3) := by decide +kernel
theorem dMod_nextAlignment_143 : decode bMod_nextAlignment 143 = .ok (.aload_n 0, 1) := by decide +kernel
theorem dMod_nextAlignment_144 : decode bMod_nextAlignment 144 = .ok (.getfield 144, 3) := by decide +kernel
theorem dMod_nextAlignment_147 : decode bMod_nextAlignment 147 = .ok (.iaload, 1) := by decide +kernel
theorem dMod_nextAlignment_148 : decode bMod_nextAlignment 148 = .ok (.aload_n 0, 1) := by decide +kernel
theorem dMod_nextAlignment_149 : decode bMod_nextAlignment 149 = .ok (.getfield 7, 3) := by decide +kernel
theorem dMod_nextAlignment_152 : decode bMod_nextAlignment 152 = .ok (.iload_n 2, 1) := by decide +kernel
theorem dMod_nextAlignment_153 : decode bMod_nextAlignment 153 = .ok (.iaload, 1) := by decide +kernel
theorem dMod_nextAlignment_154 : decode bMod_nextAlignment 154 = .ok (.ifCond .le 7, 3) := by decide +kernel
theorem dMod_nextAlignment_157 : decode bMod_nextAlignment 157 = .ok (.iconst 1, 1) := by decide +kernel
theorem dMod_nextAlignment_158 : decode bMod_nextAlignment 158 = .ok (.goto 4, 3) := by decide +kernel
theorem dMod_nextAlignment_161 : decode bMod_nextAlignment 161 = .ok (.iconst 0, 1) := by decide +kernel
theorem dMod_nextAlignment_162 : decode bMod_nextAlignment 162 = .ok (.iadd, 1) := by decide +kernel
theorem dMod_nextAlignment_163 : decode bMod_nextAlignment 163 = .ok (.iastore, 1) := by decide +kernel
theorem dMod_nextAlignment_164 : decode bMod_nextAlignment 164 = .ok (.aload_n 0, 1) := by decide +kernel
theorem dMod_nextAlignment_165 : decode bMod_nextAlignment 165 = .ok (.getfield 101, 3) := by decide +kernel
theorem dMod_nextAlignment_168 : decode bMod_nextAlignment 168 = .ok (.aload_n 0, 1) := by decide +kernel
theorem dMod_nextAlignment_169 : decode bMod_nextAlignment 169 = .ok (.getfield 144, 3) := by decide +kernel
theorem dMod_nextAlignment_172 : decode bMod_nextAlignment 172 = .ok (.iconst 1, 1) := by decide +kernel
theorem dMod_nextAlignment_173 : decode bMod_nextAlignment 173 = .ok (.iadd, 1) := by decide +kernel
theorem dMod_nextAlignment_174 : decode bMod_nextAlignment 174 = .ok (.aload_n 0, 1) := by decide +kernel
theorem dMod_nextAlignment_175 : decode bMod_nextAlignment 175 = .ok (.getfield 101, 3) := by decide +kernel
theorem dMod_nextAlignment_178 : decode bMod_nextAlignment 178 = .ok (.aload_n 0, 1) := by decide +kernel
theorem dMod_nextAlignment_179 : decode bMod_nextAlignment 179 = .ok (.getfield 144, 3) := by decide +kernel
theorem dMod_nextAlignment_182 : decode bMod_nextAlignment 182 = .ok (.iaload, 1) := by decide +kernel
theorem dMod_nextAlignment_183 : decode bMod_nextAlignment 183 = .ok (.aload_n 0, 1) := by decide +kernel
theorem dMod_nextAlignment_184 : decode bMod_nextAlignment 184 = .ok (.getfield 13, 3) := by decide +kernel
theorem dMod_nextAlignment_187 : decode bMod_nextAlignment 187 = .ok (.iload_n 2, 1) := by decide +kernel
theorem dMod_nextAlignment_188 : decode bMod_nextAlignment 188 = .ok (.iaload, 1) := by decide +kernel
theorem dMod_nextAlignment_189 : decode bMod_nextAlignment 189 = .ok (.ifCond .le 7, 3) := by decide +kernel
theorem dMod_nextAlignment_192 : decode bMod_nextAlignment 192 = .ok (.iconst 1, 1) := by decide +kernel
theorem dMod_nextAlignment_193 : decode bMod_nextAlignment 193 = .ok (.goto 4, 3) := by decide +kernel
theorem dMod_nextAlignment_196 : decode bMod_nextAlignment 196 = .ok (.iconst 0, 1) := by decide +kernel
theorem dMod_nextAlignment_197 : decode bMod_nextAlignment 197 = .ok (.iadd, 1) := by decide +kernel
theorem dMod_nextAlignment_198 : decode bMod_nextAlignment 198 = .ok (.iastore, 1) := by decide +kernel
theorem dMod_nextAlignment_199 : decode bMod_nextAlignment 199 = .ok (.aload_n 0, 1) := by decide +kernel
theorem dMod_nextAlignment_200 : decode bMod_nextAlignment 200 = .ok (.dup, 1) := by decide +kernel
theorem dMod_nextAlignment_201 : decode bMod_nextAlignment 201 = .ok (.getfield 144, 3) := by decide +kernel
theorem dMod_nextAlignment_204 : decode bMod_nextAlignment 204 = .ok (.iconst 1, 1) := by decide +kernel
theorem dMod_nextAlignment_205 : decode bMod_nextAlignment 205 = .ok (.iadd, 1) := by decide +kernel
theorem dMod_nextAlignment_206 : decode bMod_nextAlignment 206 = .ok (.putfield 144, 3) := by decide +kernel
theorem dMod_nextAlignment_209 : decode bMod_nextAlignment 209 = .ok (.aload_n 0, 1) := by decide +kernel
theorem dMod_nextAlignment_210 : decode bMod_nextAlignment 210 = .ok (.getfield 95, 3) := by decide +kernel
theorem dMod_nextAlignment_213 : decode bMod_nextAlignment 213 = .ok (.aload_n 0, 1) := by decide +kernel
theorem dMod_nextAlignment_214 : decode bMod_nextAlignment 214 = .ok (.getfield 144, 3) := by decide +kernel
theorem dMod_nextAlignment_217 : decode bMod_nextAlignment 217 = .ok (.iconst 0, 1) := by decide +kernel
theorem dMod_nextAlignment_218 : decode bMod_nextAlignment 218 = .ok (.iastore, 1) := by decide +kernel
theorem dMod_nextAlignment_219 : decode bMod_nextAlignment 219 = .ok (.goto (-219), 3) := by decide +kernel
theorem dMod_nextAlignment_222 : decode bMod_nextAlignment 222 = .ok (.iconst 0, 1) := by decide +kernel
theorem dMod_nextAlignment_223 : decode bMod_nextAlignment 223 = .ok (.ireturn, 1) := by decide +kernel
theorem dMod_take_0 : decode bMod_take 0 = .ok (.aload_n 0, 1) := by decide +kernel
theorem dMod_take_1 : decode bMod_take 1 = .ok (.iload_n 3, 1) := by decide +kernel
theorem dMod_take_2 : decode bMod_take 2 = .ok (.putfield 153, 3) := by decide +kernel
theorem dMod_take_5 : decode bMod_take 5 = .ok (.iconst 0, 1) := by decide +kernel
theorem dMod_take_6 : decode bMod_take 6 = .ok (.istore 6, 2) := by decide +kernel
theorem dMod_take_8 : decode bMod_take 8 = .ok (.iload 6, 2) := by decide +kernel
theorem dMod_take_10 : decode bMod_take 10 = .ok (.iload_n 3, 1) := by decide +kernel
theorem dMod_take_11 : decode bMod_take 11 = .ok (.if_icmp .ge 22, 3) := by decide +kernel
theorem dMod_take_14 : decode bMod_take 14 = .ok (.aload_n 0, 1) := by decide +kernel
theorem dMod_take_15 : decode bMod_take 15 = .ok (.getfield 86, 3) := by decide +kernel
theorem dMod_take_18 : decode bMod_take 18 = .ok (.iload 6, 2) := by decide +kernel
theorem dMod_take_20 : decode bMod_take 20 = .ok (.aload_n 1, 1) := by decide +kernel
theorem dMod_take_21 : decode bMod_take 21 = .ok (.iload_n 2, 1) := by decide +kernel
theorem dMod_take_22 : decode bMod_take 22 = .ok (.iload 6, 2) := by decide +kernel
theorem dMod_take_24 : decode bMod_take 24 = .ok (.iadd, 1) := by decide +kernel
theorem dMod_take_25 : decode bMod_take 25 = .ok (.iaload, 1) := by decide +kernel
theorem dMod_take_26 : decode bMod_take 26 = .ok (.iastore, 1) := by decide +kernel
theorem dMod_take_27 : decode bMod_take 27 = .ok (.iinc 6 1, 3) := by decide +kernel
theorem dMod_take_30 : decode bMod_take 30 = .ok (.goto (-22), 3) := by decide +kernel
theorem dMod_take_33 : decode bMod_take 33 = .ok (.aload_n 0, 1) := by decide +kernel
theorem dMod_take_34 : decode bMod_take 34 = .ok (.iload 5, 2) := by decide +kernel
theorem dMod_take_36 : decode bMod_take 36 = .ok (.putfield 156, 3) := by decide +kernel
theorem dMod_take_39 : decode bMod_take 39 = .ok (.iconst 0, 1) := by decide +kernel
theorem dMod_take_40 : decode bMod_take 40 = .ok (.istore 6, 2) := by decide +kernel
theorem dMod_take_42 : decode bMod_take 42 = .ok (.iload 6, 2) := by decide +kernel
theorem dMod_take_44 : decode bMod_take 44 = .ok (.iload 5, 2) := by decide +kernel
theorem dMod_take_46 : decode bMod_take 46 = .ok (.if_icmp .ge 23, 3) := by decide +kernel
theorem dMod_take_49 : decode bMod_take 49 = .ok (.aload_n 0, 1) := by decide +kernel
theorem dMod_take_50 : decode bMod_take 50 = .ok (.getfield 89, 3) := by decide +kernel
theorem dMod_take_53 : decode bMod_take 53 = .ok (.iload 6, 2) := by decide +kernel
theorem dMod_take_55 : decode bMod_take 55 = .ok (.aload_n 1, 1) := by decide +kernel
theorem dMod_take_56 : decode bMod_take 56 = .ok (.iload 4, 2) := by decide +kernel
theorem dMod_take_58 : decode bMod_take 58 = .ok (.iload 6, 2) := by decide +kernel
theorem dMod_take_60 : decode bMod_take 60 = .ok (.iadd, 1) := by decide +kernel
theorem dMod_take_61 : decode bMod_take 61 = .ok (.iaload, 1) := by decide +kernel
theorem dMod_take_62 : decode bMod_take 62 = .ok (.iastore, 1) := by decide +kernel
theorem dMod_take_63 : decode bMod_take 63 = .ok (.iinc 6 1, 3) := by decide +kernel
theorem dMod_take_66 : decode bMod_take 66 = .ok (.goto (-24), 3) := by decide +kernel
theorem dMod_take_69 : decode bMod_take 69 = .ok (.return_, 1) := by decide +kernel
theorem dMod_doBelong_0 : decode bMod_doBelong 0 = .ok (.aload_n 0, 1) := by decide +kernel
theorem dMod_doBelong_1 : decode bMod_doBelong 1 = .ok (.invokevirtual 163, 3) := by decide +kernel
theorem dMod_doBelong_4 : decode bMod_doBelong 4 = .ok (.aload_n 0, 1) := by decide +kernel
theorem dMod_doBelong_5 : decode bMod_doBelong 5 = .ok (.iconst 1, 1) := by decide +kernel
theorem dMod_doBelong_6 : decode bMod_doBelong 6 = .ok (.invokevirtual 166, 3) := by decide +kernel
theorem dMod_doBelong_9 : decode bMod_doBelong 9 = .ok (.ifCond .eq 12, 3) := by decide +kernel
theorem dMod_doBelong_12 : decode bMod_doBelong 12 = .ok (.aload_n 0, 1) := by decide +kernel
theorem dMod_doBelong_13 : decode bMod_doBelong 13 = .ok (.invokevirtual 170, 3) := by decide +kernel
theorem dMod_doBelong_16 : decode bMod_doBelong 16 = .ok (.ifCond .eq (-12), 3) := by decide +kernel
theorem dMod_doBelong_19 : decode bMod_doBelong 19 = .ok (.iconst 1, 1) := by decide +kernel
theorem dMod_doBelong_20 : decode bMod_doBelong 20 = .ok (.ireturn, 1) := by decide +kernel
theorem dMod_doBelong_21 : decode bMod_doBelong 21 = .ok (.iconst 0, 1) := by decide +kernel
theorem dMod_doBelong_22 : decode bMod_doBelong 22 = .ok (.ireturn, 1) := by decide +kernel
theorem dMod_belong_0 : decode bMod_belong 0 = .ok (.aload_n 0, 1) := by decide +kernel
theorem dMod_belong_1 : decode bMod_belong 1 = .ok (.iconst 0, 1) := by decide +kernel
theorem dMod_belong_2 : decode bMod_belong 2 = .ok (.putfield 107, 3) := by decide +kernel
theorem dMod_belong_5 : decode bMod_belong 5 = .ok (.aload_n 0, 1) := by decide +kernel
theorem dMod_belong_6 : decode bMod_belong 6 = .ok (.aload_n 0, 1) := by decide +kernel
theorem dMod_belong_7 : decode bMod_belong 7 = .ok (.getfield 53, 3) := by decide +kernel
theorem dMod_belong_10 : decode bMod_belong 10 = .ok (.iconst 0, 1) := by decide +kernel
theorem dMod_belong_11 : decode bMod_belong 11 = .ok (.aload_n 0, 1) := by decide +kernel
theorem dMod_belong_12 : decode bMod_belong 12 = .ok (.getfield 50, 3) := by decide +kernel
theorem dMod_belong_15 : decode bMod_belong 15 = .ok (.iconst 0, 1) := by decide +kernel
theorem dMod_belong_16 : decode bMod_belong 16 = .ok (.iaload, 1) := by decide +kernel
theorem dMod_belong_17 : decode bMod_belong 17 = .ok (.iconst 5, 1) := by decide +kernel
theorem dMod_belong_18 : decode bMod_belong 18 = .ok (.aload_n 0, 1) := by decide +kernel
theorem dMod_belong_19 : decode bMod_belong 19 = .ok (.getfield 50, 3) := by decide +kernel
theorem dMod_belong_22 : decode bMod_belong 22 = .ok (.iconst 1, 1) := by decide +kernel
theorem dMod_belong_23 : decode bMod_belong 23 = .ok (.iaload, 1) := by decide +kernel
theorem dMod_belong_24 : decode bMod_belong 24 = .ok (.invokevirtual 174, 3) := by decide +kernel
theorem dMod_belong_27 : decode bMod_belong 27 = .ok (.aload_n 0, 1) := by decide +kernel
theorem dMod_belong_28 : decode bMod_belong 28 = .ok (.invokevirtual 178, 3) := by decide +kernel
theorem dMod_belong_31 : decode bMod_belong 31 = .ok (.ireturn, 1) := by decide +kernel
theorem dMod_blame_0 : decode bMod_blame 0 = .ok (.aload_n 0, 1) := by decide +kernel
theorem dMod_blame_1 : decode bMod_blame 1 = .ok (.iconst 0, 1) := by decide +kernel
theorem dMod_blame_2 : decode bMod_blame 2 = .ok (.putfield 107, 3) := by decide +kernel
theorem dMod_blame_5 : decode bMod_blame 5 = .ok (.aload_n 0, 1) := by decide +kernel
theorem dMod_blame_6 : decode bMod_blame 6 = .ok (.aload_n 0, 1) := by decide +kernel
theorem dMod_blame_7 : decode bMod_blame 7 = .ok (.getfield 53, 3) := by decide +kernel
theorem dMod_blame_10 : decode bMod_blame 10 = .ok (.iconst 0, 1) := by decide +kernel
theorem dMod_blame_11 : decode bMod_blame 11 = .ok (.aload_n 0, 1) := by decide +kernel
theorem dMod_blame_12 : decode bMod_blame 12 = .ok (.getfield 50, 3) := by decide +kernel
theorem dMod_blame_15 : decode bMod_blame 15 = .ok (.iconst 0, 1) := by decide +kernel
theorem dMod_blame_16 : decode bMod_blame 16 = .ok (.iaload, 1) := by decide +kernel
theorem dMod_blame_17 : decode bMod_blame 17 = .ok (.iconst 5, 1) := by decide +kernel
theorem dMod_blame_18 : decode bMod_blame 18 = .ok (.aload_n 0, 1) := by decide +kernel
theorem dMod_blame_19 : decode bMod_blame 19 = .ok (.getfield 50, 3) := by decide +kernel
theorem dMod_blame_22 : decode bMod_blame 22 = .ok (.iconst 1, 1) := by decide +kernel
theorem dMod_blame_23 : decode bMod_blame 23 = .ok (.iaload, 1) := by decide +kernel
theorem dMod_blame_24 : decode bMod_blame 24 = .ok (.invokevirtual 174, 3) := by decide +kernel
theorem dMod_blame_27 : decode bMod_blame 27 = .ok (.iconst 0, 1) := by decide +kernel
theorem dMod_blame_28 : decode bMod_blame 28 = .ok (.istore_n 1, 1) := by decide +kernel
theorem dMod_blame_29 : decode bMod_blame 29 = .ok (.iconst 0, 1) := by decide +kernel
theorem dMod_blame_30 : decode bMod_blame 30 = .ok (.istore_n 2, 1) := by decide +kernel
theorem dMod_blame_31 : decode bMod_blame 31 = .ok (.aload_n 0, 1) := by decide +kernel
theorem dMod_blame_32 : decode bMod_blame 32 = .ok (.invokevirtual 163, 3) := by decide +kernel
theorem dMod_blame_35 : decode bMod_blame 35 = .ok (.aload_n 0, 1) := by decide +kernel
theorem dMod_blame_36 : decode bMod_blame 36 = .ok (.iconst 1, 1) := by decide +kernel
theorem dMod_blame_37 : decode bMod_blame 37 = .ok (.invokevirtual 166, 3) := by decide +kernel
theorem dMod_blame_40 : decode bMod_blame 40 = .ok (.ifCond .eq 42, 3) := by decide +kernel
theorem dMod_blame_43 : decode bMod_blame 43 = .ok (.iconst 1, 1) := by decide +kernel
theorem dMod_blame_44 : decode bMod_blame 44 = .ok (.istore_n 2, 1) := by decide +kernel
theorem dMod_blame_45 : decode bMod_blame 45 = .ok (.iconst 0, 1) := by decide +kernel
theorem dMod_blame_46 : decode bMod_blame 46 = .ok (.istore_n 3, 1) := by decide +kernel
theorem dMod_blame_47 : decode bMod_blame 47 = .ok (.iload_n 3, 1) := by decide +kernel
theorem dMod_blame_48 : decode bMod_blame 48 = .ok (.aload_n 0, 1) := by decide +kernel
theorem dMod_blame_49 : decode bMod_blame 49 = .ok (.getfield 121, 3) := by decide +kernel
theorem dMod_blame_52 : decode bMod_blame 52 = .ok (.if_icmp .ge 27, 3) := by decide +kernel
theorem dMod_blame_55 : decode bMod_blame 55 = .ok (.aload_n 0, 1) := by decide +kernel
theorem dMod_blame_56 : decode bMod_blame 56 = .ok (.iload_n 3, 1) := by decide +kernel
theorem dMod_blame_57 : decode bMod_blame 57 = .ok (.invokevirtual 150, 3) := by decide +kernel
theorem dMod_blame_60 : decode bMod_blame 60 = .ok (.ifCond .eq 11, 3) := by decide +kernel
theorem dMod_blame_63 : decode bMod_blame 63 = .ok (.iload_n 1, 1) := by decide +kernel
theorem dMod_blame_64 : decode bMod_blame 64 = .ok (.iconst 1, 1) := by decide +kernel
theorem dMod_blame_65 : decode bMod_blame 65 = .ok (.iload_n 3, 1) := by decide +kernel
theorem dMod_blame_66 : decode bMod_blame 66 = .ok (.ishl, 1) := by decide +kernel
theorem dMod_blame_67 : decode bMod_blame 67 = .ok (.ior, 1) := by decide +kernel
theorem dMod_blame_68 : decode bMod_blame 68 = .ok (.goto 4, 3) := by decide +kernel
theorem dMod_blame_71 : decode bMod_blame 71 = .ok (.iload_n 1, 1) := by decide +kernel
theorem dMod_blame_72 : decode bMod_blame 72 = .ok (.istore_n 1, 1) := by decide +kernel
theorem dMod_blame_73 : decode bMod_blame 73 = .ok (.iinc 3 1, 3) := by decide +kernel
theorem dMod_blame_76 : decode bMod_blame 76 = .ok (.goto (-29), 3) := by decide +kernel
theorem dMod_blame_79 : decode bMod_blame 79 = .ok (.goto (-44), 3) := by decide +kernel
theorem dMod_blame_82 : decode bMod_blame 82 = .ok (.iconst 0, 1) := by decide +kernel
theorem dMod_blame_83 : decode bMod_blame 83 = .ok (.istore_n 3, 1) := by decide +kernel
theorem dMod_blame_84 : decode bMod_blame 84 = .ok (.iload_n 3, 1) := by decide +kernel
theorem dMod_blame_85 : decode bMod_blame 85 = .ok (.aload_n 0, 1) := by decide +kernel
theorem dMod_blame_86 : decode bMod_blame 86 = .ok (.getfield 121, 3) := by decide +kernel
theorem dMod_blame_89 : decode bMod_blame 89 = .ok (.if_icmp .ge 23, 3) := by decide +kernel
theorem dMod_blame_92 : decode bMod_blame 92 = .ok (.iload_n 2, 1) := by decide +kernel
theorem dMod_blame_93 : decode bMod_blame 93 = .ok (.ifCond .eq 19, 3) := by decide +kernel
theorem dMod_blame_96 : decode bMod_blame 96 = .ok (.iload_n 1, 1) := by decide +kernel
theorem dMod_blame_97 : decode bMod_blame 97 = .ok (.iload_n 3, 1) := by decide +kernel
theorem dMod_blame_98 : decode bMod_blame 98 = .ok (.ishr, 1) := by decide +kernel
theorem dMod_blame_99 : decode bMod_blame 99 = .ok (.iconst 1, 1) := by decide +kernel
theorem dMod_blame_100 : decode bMod_blame 100 = .ok (.iand, 1) := by decide +kernel
theorem dMod_blame_101 : decode bMod_blame 101 = .ok (.ifCond .ne 5, 3) := by decide +kernel
theorem dMod_blame_104 : decode bMod_blame 104 = .ok (.iload_n 3, 1) := by decide +kernel
theorem dMod_blame_105 : decode bMod_blame 105 = .ok (.ireturn, 1) := by decide +kernel
theorem dMod_blame_106 : decode bMod_blame 106 = .ok (.iinc 3 1, 3) := by decide +kernel
theorem dMod_blame_109 : decode bMod_blame 109 = .ok (.goto (-25), 3) := by decide +kernel
theorem dMod_blame_112 : decode bMod_blame 112 = .ok (.iload_n 2, 1) := by decide +kernel
theorem dMod_blame_113 : decode bMod_blame 113 = .ok (.ifCond .eq 7, 3) := by decide +kernel
theorem dMod_blame_116 : decode bMod_blame 116 = .ok (.iconst (-1), 1) := by decide +kernel
theorem dMod_blame_117 : decode bMod_blame 117 = .ok (.goto 5, 3) := by decide +kernel
theorem dMod_blame_120 : decode bMod_blame 120 = .ok (.bipush (-2), 2) := by decide +kernel
theorem dMod_blame_122 : decode bMod_blame 122 = .ok (.ireturn, 1) := by decide +kernel
theorem dMod_order_0 : decode bMod_order 0 = .ok (.aload_n 0, 1) := by decide +kernel
theorem dMod_order_1 : decode bMod_order 1 = .ok (.getfield 68, 3) := by decide +kernel
theorem dMod_order_4 : decode bMod_order 4 = .ok (.iload_n 1, 1) := by decide +kernel
theorem dMod_order_5 : decode bMod_order 5 = .ok (.iaload, 1) := by decide +kernel
theorem dMod_order_6 : decode bMod_order 6 = .ok (.aload_n 0, 1) := by decide +kernel
theorem dMod_order_7 : decode bMod_order 7 = .ok (.getfield 68, 3) := by decide +kernel
theorem dMod_order_10 : decode bMod_order 10 = .ok (.iload_n 2, 1) := by decide +kernel
theorem dMod_order_11 : decode bMod_order 11 = .ok (.iaload, 1) := by decide +kernel
theorem dMod_order_12 : decode bMod_order 12 = .ok (.isub, 1) := by decide +kernel
theorem dMod_order_13 : decode bMod_order 13 = .ok (.istore_n 3, 1) := by decide +kernel
theorem dMod_order_14 : decode bMod_order 14 = .ok (.iload_n 3, 1) := by decide +kernel
theorem dMod_order_15 : decode bMod_order 15 = .ok (.ifCond .ne 19, 3) := by decide +kernel
theorem dMod_order_18 : decode bMod_order 18 = .ok (.aload_n 0, 1) := by decide +kernel
theorem dMod_order_19 : decode bMod_order 19 = .ok (.getfield 71, 3) := by decide +kernel
theorem dMod_order_22 : decode bMod_order 22 = .ok (.iload_n 1, 1) := by decide +kernel
theorem dMod_order_23 : decode bMod_order 23 = .ok (.iaload, 1) := by decide +kernel
theorem dMod_order_24 : decode bMod_order 24 = .ok (.aload_n 0, 1) := by decide +kernel
theorem dMod_order_25 : decode bMod_order 25 = .ok (.getfield 71, 3) := by decide +kernel
theorem dMod_order_28 : decode bMod_order 28 = .ok (.iload_n 2, 1) := by decide +kernel
theorem dMod_order_29 : decode bMod_order 29 = .ok (.iaload, 1) := by decide +kernel
theorem dMod_order_30 : decode bMod_order 30 = .ok (.isub, 1) := by decide +kernel
theorem dMod_order_31 : decode bMod_order 31 = .ok (.goto 4, 3) := by decide +kernel
theorem dMod_order_34 : decode bMod_order 34 = .ok (.iload_n 3, 1) := by decide +kernel
theorem dMod_order_35 : decode bMod_order 35 = .ok (.istore_n 3, 1) := by decide +kernel
theorem dMod_order_36 : decode bMod_order 36 = .ok (.iload_n 3, 1) := by decide +kernel
theorem dMod_order_37 : decode bMod_order 37 = .ok (.ifCond .ne 19, 3) := by decide +kernel
theorem dMod_order_40 : decode bMod_order 40 = .ok (.aload_n 0, 1) := by decide +kernel
theorem dMod_order_41 : decode bMod_order 41 = .ok (.getfield 74, 3) := by decide +kernel
theorem dMod_order_44 : decode bMod_order 44 = .ok (.iload_n 1, 1) := by decide +kernel
theorem dMod_order_45 : decode bMod_order 45 = .ok (.iaload, 1) := by decide +kernel
theorem dMod_order_46 : decode bMod_order 46 = .ok (.aload_n 0, 1) := by decide +kernel
theorem dMod_order_47 : decode bMod_order 47 = .ok (.getfield 74, 3) := by decide +kernel
theorem dMod_order_50 : decode bMod_order 50 = .ok (.iload_n 2, 1) := by decide +kernel
theorem dMod_order_51 : decode bMod_order 51 = .ok (.iaload, 1) := by decide +kernel
theorem dMod_order_52 : decode bMod_order 52 = .ok (.isub, 1) := by decide +kernel
theorem dMod_order_53 : decode bMod_order 53 = .ok (.goto 4, 3) := by decide +kernel
theorem dMod_order_56 : decode bMod_order 56 = .ok (.iload_n 3, 1) := by decide +kernel
theorem dMod_order_57 : decode bMod_order 57 = .ok (.istore_n 3, 1) := by decide +kernel
theorem dMod_order_58 : decode bMod_order 58 = .ok (.iload_n 3, 1) := by decide +kernel
theorem dMod_order_59 : decode bMod_order 59 = .ok (.ifCond .ne 19, 3) := by decide +kernel
theorem dMod_order_62 : decode bMod_order 62 = .ok (.aload_n 0, 1) := by decide +kernel
theorem dMod_order_63 : decode bMod_order 63 = .ok (.getfield 77, 3) := by decide +kernel
theorem dMod_order_66 : decode bMod_order 66 = .ok (.iload_n 1, 1) := by decide +kernel
theorem dMod_order_67 : decode bMod_order 67 = .ok (.iaload, 1) := by decide +kernel
theorem dMod_order_68 : decode bMod_order 68 = .ok (.aload_n 0, 1) := by decide +kernel
theorem dMod_order_69 : decode bMod_order 69 = .ok (.getfield 77, 3) := by decide +kernel
theorem dMod_order_72 : decode bMod_order 72 = .ok (.iload_n 2, 1) := by decide +kernel
theorem dMod_order_73 : decode bMod_order 73 = .ok (.iaload, 1) := by decide +kernel
theorem dMod_order_74 : decode bMod_order 74 = .ok (.isub, 1) := by decide +kernel
theorem dMod_order_75 : decode bMod_order 75 = .ok (.goto 4, 3) := by decide +kernel
theorem dMod_order_78 : decode bMod_order 78 = .ok (.iload_n 3, 1) := by decide +kernel
theorem dMod_order_79 : decode bMod_order 79 = .ok (.ireturn, 1) := by decide +kernel
theorem dMod_put_0 : decode bMod_put 0 = .ok (.aload_n 0, 1) := by decide +kernel
theorem dMod_put_1 : decode bMod_put 1 = .ok (.getfield 181, 3) := by decide +kernel
theorem dMod_put_4 : decode bMod_put 4 = .ok (.istore_n 1, 1) := by decide +kernel
theorem dMod_put_5 : decode bMod_put 5 = .ok (.aload_n 0, 1) := by decide +kernel
theorem dMod_put_6 : decode bMod_put 6 = .ok (.getfield 181, 3) := by decide +kernel
theorem dMod_put_9 : decode bMod_put 9 = .ok (.iconst 1, 1) := by decide +kernel
theorem dMod_put_10 : decode bMod_put 10 = .ok (.isub, 1) := by decide +kernel
theorem dMod_put_11 : decode bMod_put 11 = .ok (.istore_n 2, 1) := by decide +kernel
theorem dMod_put_12 : decode bMod_put 12 = .ok (.iload_n 2, 1) := by decide +kernel
theorem dMod_put_13 : decode bMod_put 13 = .ok (.ifCond .lt 35, 3) := by decide +kernel
theorem dMod_put_16 : decode bMod_put 16 = .ok (.aload_n 0, 1) := by decide +kernel
theorem dMod_put_17 : decode bMod_put 17 = .ok (.iload_n 2, 1) := by decide +kernel
theorem dMod_put_18 : decode bMod_put 18 = .ok (.aload_n 0, 1) := by decide +kernel
theorem dMod_put_19 : decode bMod_put 19 = .ok (.getfield 181, 3) := by decide +kernel
theorem dMod_put_22 : decode bMod_put 22 = .ok (.invokevirtual 184, 3) := by decide +kernel
theorem dMod_put_25 : decode bMod_put 25 = .ok (.istore_n 3, 1) := by decide +kernel
theorem dMod_put_26 : decode bMod_put 26 = .ok (.iload_n 3, 1) := by decide +kernel
theorem dMod_put_27 : decode bMod_put 27 = .ok (.ifCond .ne 5, 3) := by decide +kernel
theorem dMod_put_30 : decode bMod_put 30 = .ok (.iconst 1, 1) := by decide +kernel
theorem dMod_put_31 : decode bMod_put 31 = .ok (.ireturn, 1) := by decide +kernel
theorem dMod_put_32 : decode bMod_put 32 = .ok (.iload_n 3, 1) := by decide +kernel
theorem dMod_put_33 : decode bMod_put 33 = .ok (.ifCond .le 7, 3) := by decide +kernel
theorem dMod_put_36 : decode bMod_put 36 = .ok (.iload_n 2, 1) := by decide +kernel
theorem dMod_put_37 : decode bMod_put 37 = .ok (.goto 4, 3) := by decide +kernel
theorem dMod_put_40 : decode bMod_put 40 = .ok (.iload_n 1, 1) := by decide +kernel
theorem dMod_put_41 : decode bMod_put 41 = .ok (.istore_n 1, 1) := by decide +kernel
theorem dMod_put_42 : decode bMod_put 42 = .ok (.iinc 2 (-1), 3) := by decide +kernel
theorem dMod_put_45 : decode bMod_put 45 = .ok (.goto (-33), 3) := by decide +kernel
theorem dMod_put_48 : decode bMod_put 48 = .ok (.aload_n 0, 1) := by decide +kernel
theorem dMod_put_49 : decode bMod_put 49 = .ok (.getfield 181, 3) := by decide +kernel
theorem dMod_put_52 : decode bMod_put 52 = .ok (.bipush 60, 2) := by decide +kernel
theorem dMod_put_54 : decode bMod_put 54 = .ok (.if_icmp .ne 5, 3) := by decide +kernel
theorem dMod_put_57 : decode bMod_put 57 = .ok (.iconst 0, 1) := by decide +kernel
theorem dMod_put_58 : decode bMod_put 58 = .ok (.ireturn, 1) := by decide +kernel
theorem dMod_put_59 : decode bMod_put 59 = .ok (.aload_n 0, 1) := by decide +kernel
theorem dMod_put_60 : decode bMod_put 60 = .ok (.getfield 68, 3) := by decide +kernel
theorem dMod_put_63 : decode bMod_put 63 = .ok (.aload_n 0, 1) := by decide +kernel
theorem dMod_put_64 : decode bMod_put 64 = .ok (.getfield 181, 3) := by decide +kernel
theorem dMod_put_67 : decode bMod_put 67 = .ok (.iaload, 1) := by decide +kernel
theorem dMod_put_68 : decode bMod_put 68 = .ok (.istore_n 2, 1) := by decide +kernel
theorem dMod_put_69 : decode bMod_put 69 = .ok (.aload_n 0, 1) := by decide +kernel
theorem dMod_put_70 : decode bMod_put 70 = .ok (.getfield 71, 3) := by decide +kernel
theorem dMod_put_73 : decode bMod_put 73 = .ok (.aload_n 0, 1) := by decide +kernel
theorem dMod_put_74 : decode bMod_put 74 = .ok (.getfield 181, 3) := by decide +kernel
theorem dMod_put_77 : decode bMod_put 77 = .ok (.iaload, 1) := by decide +kernel
theorem dMod_put_78 : decode bMod_put 78 = .ok (.istore_n 3, 1) := by decide +kernel
theorem dMod_put_79 : decode bMod_put 79 = .ok (.aload_n 0, 1) := by decide +kernel
theorem dMod_put_80 : decode bMod_put 80 = .ok (.getfield 74, 3) := by decide +kernel
theorem dMod_put_83 : decode bMod_put 83 = .ok (.aload_n 0, 1) := by decide +kernel
theorem dMod_put_84 : decode bMod_put 84 = .ok (.getfield 181, 3) := by decide +kernel
theorem dMod_put_87 : decode bMod_put 87 = .ok (.iaload, 1) := by decide +kernel
theorem dMod_put_88 : decode bMod_put 88 = .ok (.istore 4, 2) := by decide +kernel
theorem dMod_put_90 : decode bMod_put 90 = .ok (.aload_n 0, 1) := by decide +kernel
theorem dMod_put_91 : decode bMod_put 91 = .ok (.getfield 77, 3) := by decide +kernel
theorem dMod_put_94 : decode bMod_put 94 = .ok (.aload_n 0, 1) := by decide +kernel
theorem dMod_put_95 : decode bMod_put 95 = .ok (.getfield 181, 3) := by decide +kernel
theorem dMod_put_98 : decode bMod_put 98 = .ok (.iaload, 1) := by decide +kernel
theorem dMod_put_99 : decode bMod_put 99 = .ok (.istore 5, 2) := by decide +kernel
theorem dMod_put_101 : decode bMod_put 101 = .ok (.aload_n 0, 1) := by decide +kernel
theorem dMod_put_102 : decode bMod_put 102 = .ok (.getfield 181, 3) := by decide +kernel
theorem dMod_put_105 : decode bMod_put 105 = .ok (.istore 6, 2) := by decide +kernel
theorem dMod_put_107 : decode bMod_put 107 = .ok (.iload 6, 2) := by decide +kernel
theorem dMod_put_109 : decode bMod_put 109 = .ok (.iload_n 1, 1) := by decide +kernel
theorem dMod_put_110 : decode bMod_put 110 = .ok (.if_icmp .le 73, 3) := by decide +kernel
theorem dMod_put_113 : decode bMod_put 113 = .ok (.aload_n 0, 1) := by decide +kernel
theorem dMod_put_114 : decode bMod_put 114 = .ok (.getfield 68, 3) := by decide +kernel
theorem dMod_put_117 : decode bMod_put 117 = .ok (.iload 6, 2) := by decide +kernel
theorem dMod_put_119 : decode bMod_put 119 = .ok (.aload_n 0, 1) := by decide +kernel
theorem dMod_put_120 : decode bMod_put 120 = .ok (.getfield 68, 3) := by decide +kernel
theorem dMod_put_123 : decode bMod_put 123 = .ok (.iload 6, 2) := by decide +kernel
theorem dMod_put_125 : decode bMod_put 125 = .ok (.iconst 1, 1) := by decide +kernel
theorem dMod_put_126 : decode bMod_put 126 = .ok (.isub, 1) := by decide +kernel
theorem dMod_put_127 : decode bMod_put 127 = .ok (.iaload, 1) := by decide +kernel
theorem dMod_put_128 : decode bMod_put 128 = .ok (.iastore, 1) := by decide +kernel
theorem dMod_put_129 : decode bMod_put 129 = .ok (.aload_n 0, 1) := by decide +kernel
theorem dMod_put_130 : decode bMod_put 130 = .ok (.getfield 71, 3) := by decide +kernel
theorem dMod_put_133 : decode bMod_put 133 = .ok (.iload 6, 2) := by decide +kernel
theorem dMod_put_135 : decode bMod_put 135 = .ok (.aload_n 0, 1) := by decide +kernel
theorem dMod_put_136 : decode bMod_put 136 = .ok (.getfield 71, 3) := by decide +kernel
theorem dMod_put_139 : decode bMod_put 139 = .ok (.iload 6, 2) := by decide +kernel
theorem dMod_put_141 : decode bMod_put 141 = .ok (.iconst 1, 1) := by decide +kernel
theorem dMod_put_142 : decode bMod_put 142 = .ok (.isub, 1) := by decide +kernel
theorem dMod_put_143 : decode bMod_put 143 = .ok (.iaload, 1) := by decide +kernel
theorem dMod_put_144 : decode bMod_put 144 = .ok (.iastore, 1) := by decide +kernel
theorem dMod_put_145 : decode bMod_put 145 = .ok (.aload_n 0, 1) := by decide +kernel
theorem dMod_put_146 : decode bMod_put 146 = .ok (.getfield 74, 3) := by decide +kernel
theorem dMod_put_149 : decode bMod_put 149 = .ok (.iload 6, 2) := by decide +kernel
theorem dMod_put_151 : decode bMod_put 151 = .ok (.aload_n 0, 1) := by decide +kernel
theorem dMod_put_152 : decode bMod_put 152 = .ok (.getfield 74, 3) := by decide +kernel
theorem dMod_put_155 : decode bMod_put 155 = .ok (.iload 6, 2) := by decide +kernel
theorem dMod_put_157 : decode bMod_put 157 = .ok (.iconst 1, 1) := by decide +kernel
theorem dMod_put_158 : decode bMod_put 158 = .ok (.isub, 1) := by decide +kernel
theorem dMod_put_159 : decode bMod_put 159 = .ok (.iaload, 1) := by decide +kernel
theorem dMod_put_160 : decode bMod_put 160 = .ok (.iastore, 1) := by decide +kernel
theorem dMod_put_161 : decode bMod_put 161 = .ok (.aload_n 0, 1) := by decide +kernel
theorem dMod_put_162 : decode bMod_put 162 = .ok (.getfield 77, 3) := by decide +kernel
theorem dMod_put_165 : decode bMod_put 165 = .ok (.iload 6, 2) := by decide +kernel
theorem dMod_put_167 : decode bMod_put 167 = .ok (.aload_n 0, 1) := by decide +kernel
theorem dMod_put_168 : decode bMod_put 168 = .ok (.getfield 77, 3) := by decide +kernel
theorem dMod_put_171 : decode bMod_put 171 = .ok (.iload 6, 2) := by decide +kernel
theorem dMod_put_173 : decode bMod_put 173 = .ok (.iconst 1, 1) := by decide +kernel
theorem dMod_put_174 : decode bMod_put 174 = .ok (.isub, 1) := by decide +kernel
theorem dMod_put_175 : decode bMod_put 175 = .ok (.iaload, 1) := by decide +kernel
theorem dMod_put_176 : decode bMod_put 176 = .ok (.iastore, 1) := by decide +kernel
theorem dMod_put_177 : decode bMod_put 177 = .ok (.iinc 6 (-1), 3) := by decide +kernel
theorem dMod_put_180 : decode bMod_put 180 = .ok (.goto (-73), 3) := by decide +kernel
theorem dMod_put_183 : decode bMod_put 183 = .ok (.aload_n 0, 1) := by decide +kernel
theorem dMod_put_184 : decode bMod_put 184 = .ok (.getfield 68, 3) := by decide +kernel
theorem dMod_put_187 : decode bMod_put 187 = .ok (.iload_n 1, 1) := by decide +kernel
theorem dMod_put_188 : decode bMod_put 188 = .ok (.iload_n 2, 1) := by decide +kernel
theorem dMod_put_189 : decode bMod_put 189 = .ok (.iastore, 1) := by decide +kernel
theorem dMod_put_190 : decode bMod_put 190 = .ok (.aload_n 0, 1) := by decide +kernel
theorem dMod_put_191 : decode bMod_put 191 = .ok (.getfield 71, 3) := by decide +kernel
theorem dMod_put_194 : decode bMod_put 194 = .ok (.iload_n 1, 1) := by decide +kernel
theorem dMod_put_195 : decode bMod_put 195 = .ok (.iload_n 3, 1) := by decide +kernel
theorem dMod_put_196 : decode bMod_put 196 = .ok (.iastore, 1) := by decide +kernel
theorem dMod_put_197 : decode bMod_put 197 = .ok (.aload_n 0, 1) := by decide +kernel
theorem dMod_put_198 : decode bMod_put 198 = .ok (.getfield 74, 3) := by decide +kernel
theorem dMod_put_201 : decode bMod_put 201 = .ok (.iload_n 1, 1) := by decide +kernel
theorem dMod_put_202 : decode bMod_put 202 = .ok (.iload 4, 2) := by decide +kernel
theorem dMod_put_204 : decode bMod_put 204 = .ok (.iastore, 1) := by decide +kernel
theorem dMod_put_205 : decode bMod_put 205 = .ok (.aload_n 0, 1) := by decide +kernel
theorem dMod_put_206 : decode bMod_put 206 = .ok (.getfield 77, 3) := by decide +kernel
theorem dMod_put_209 : decode bMod_put 209 = .ok (.iload_n 1, 1) := by decide +kernel
theorem dMod_put_210 : decode bMod_put 210 = .ok (.iload 5, 2) := by decide +kernel
theorem dMod_put_212 : decode bMod_put 212 = .ok (.iastore, 1) := by decide +kernel
theorem dMod_put_213 : decode bMod_put 213 = .ok (.aload_n 0, 1) := by decide +kernel
theorem dMod_put_214 : decode bMod_put 214 = .ok (.dup, 1) := by decide +kernel
theorem dMod_put_215 : decode bMod_put 215 = .ok (.getfield 181, 3) := by decide +kernel
theorem dMod_put_218 : decode bMod_put 218 = .ok (.iconst 1, 1) := by decide +kernel
theorem dMod_put_219 : decode bMod_put 219 = .ok (.iadd, 1) := by decide +kernel
theorem dMod_put_220 : decode bMod_put 220 = .ok (.putfield 181, 3) := by decide +kernel
theorem dMod_put_223 : decode bMod_put 223 = .ok (.iconst 1, 1) := by decide +kernel
theorem dMod_put_224 : decode bMod_put 224 = .ok (.ireturn, 1) := by decide +kernel
theorem dMod_finish_0 : decode bMod_finish 0 = .ok (.aload_n 0, 1) := by decide +kernel
theorem dMod_finish_1 : decode bMod_finish 1 = .ok (.aload_n 0, 1) := by decide +kernel
theorem dMod_finish_2 : decode bMod_finish 2 = .ok (.getfield 181, 3) := by decide +kernel
theorem dMod_finish_5 : decode bMod_finish 5 = .ok (.putfield 118, 3) := by decide +kernel
theorem dMod_finish_8 : decode bMod_finish 8 = .ok (.iconst 0, 1) := by decide +kernel
theorem dMod_finish_9 : decode bMod_finish 9 = .ok (.istore_n 1, 1) := by decide +kernel
theorem dMod_finish_10 : decode bMod_finish 10 = .ok (.iload_n 1, 1) := by decide +kernel
theorem dMod_finish_11 : decode bMod_finish 11 = .ok (.aload_n 0, 1) := by decide +kernel
theorem dMod_finish_12 : decode bMod_finish 12 = .ok (.getfield 181, 3) := by decide +kernel
theorem dMod_finish_15 : decode bMod_finish 15 = .ok (.if_icmp .ge 57, 3) := by decide +kernel
theorem dMod_finish_18 : decode bMod_finish 18 = .ok (.aload_n 0, 1) := by decide +kernel
theorem dMod_finish_19 : decode bMod_finish 19 = .ok (.getfield 56, 3) := by decide +kernel
theorem dMod_finish_22 : decode bMod_finish 22 = .ok (.iload_n 1, 1) := by decide +kernel
theorem dMod_finish_23 : decode bMod_finish 23 = .ok (.aload_n 0, 1) := by decide +kernel
theorem dMod_finish_24 : decode bMod_finish 24 = .ok (.getfield 68, 3) := by decide +kernel
theorem dMod_finish_27 : decode bMod_finish 27 = .ok (.iload_n 1, 1) := by decide +kernel
theorem dMod_finish_28 : decode bMod_finish 28 = .ok (.iaload, 1) := by decide +kernel
theorem dMod_finish_29 : decode bMod_finish 29 = .ok (.iastore, 1) := by decide +kernel
theorem dMod_finish_30 : decode bMod_finish 30 = .ok (.aload_n 0, 1) := by decide +kernel
theorem dMod_finish_31 : decode bMod_finish 31 = .ok (.getfield 59, 3) := by decide +kernel
theorem dMod_finish_34 : decode bMod_finish 34 = .ok (.iload_n 1, 1) := by decide +kernel
theorem dMod_finish_35 : decode bMod_finish 35 = .ok (.aload_n 0, 1) := by decide +kernel
theorem dMod_finish_36 : decode bMod_finish 36 = .ok (.getfield 71, 3) := by decide +kernel
theorem dMod_finish_39 : decode bMod_finish 39 = .ok (.iload_n 1, 1) := by decide +kernel
theorem dMod_finish_40 : decode bMod_finish 40 = .ok (.iaload, 1) := by decide +kernel
theorem dMod_finish_41 : decode bMod_finish 41 = .ok (.iastore, 1) := by decide +kernel
theorem dMod_finish_42 : decode bMod_finish 42 = .ok (.aload_n 0, 1) := by decide +kernel
theorem dMod_finish_43 : decode bMod_finish 43 = .ok (.getfield 62, 3) := by decide +kernel
theorem dMod_finish_46 : decode bMod_finish 46 = .ok (.iload_n 1, 1) := by decide +kernel
theorem dMod_finish_47 : decode bMod_finish 47 = .ok (.aload_n 0, 1) := by decide +kernel
theorem dMod_finish_48 : decode bMod_finish 48 = .ok (.getfield 74, 3) := by decide +kernel
theorem dMod_finish_51 : decode bMod_finish 51 = .ok (.iload_n 1, 1) := by decide +kernel
theorem dMod_finish_52 : decode bMod_finish 52 = .ok (.iaload, 1) := by decide +kernel
theorem dMod_finish_53 : decode bMod_finish 53 = .ok (.iastore, 1) := by decide +kernel
theorem dMod_finish_54 : decode bMod_finish 54 = .ok (.aload_n 0, 1) := by decide +kernel
theorem dMod_finish_55 : decode bMod_finish 55 = .ok (.getfield 65, 3) := by decide +kernel
theorem dMod_finish_58 : decode bMod_finish 58 = .ok (.iload_n 1, 1) := by decide +kernel
theorem dMod_finish_59 : decode bMod_finish 59 = .ok (.aload_n 0, 1) := by decide +kernel
theorem dMod_finish_60 : decode bMod_finish 60 = .ok (.getfield 77, 3) := by decide +kernel
theorem dMod_finish_63 : decode bMod_finish 63 = .ok (.iload_n 1, 1) := by decide +kernel
theorem dMod_finish_64 : decode bMod_finish 64 = .ok (.iaload, 1) := by decide +kernel
theorem dMod_finish_65 : decode bMod_finish 65 = .ok (.iastore, 1) := by decide +kernel
theorem dMod_finish_66 : decode bMod_finish 66 = .ok (.iinc 1 1, 3) := by decide +kernel
theorem dMod_finish_69 : decode bMod_finish 69 = .ok (.goto (-59), 3) := by decide +kernel
theorem dMod_finish_72 : decode bMod_finish 72 = .ok (.aload_n 0, 1) := by decide +kernel
theorem dMod_finish_73 : decode bMod_finish 73 = .ok (.getfield 181, 3) := by decide +kernel
theorem dMod_finish_76 : decode bMod_finish 76 = .ok (.ireturn, 1) := by decide +kernel
theorem dMod_write_0 : decode bMod_write 0 = .ok (.aload_n 0, 1) := by decide +kernel
theorem dMod_write_1 : decode bMod_write 1 = .ok (.iconst 0, 1) := by decide +kernel
theorem dMod_write_2 : decode bMod_write 2 = .ok (.putfield 107, 3) := by decide +kernel
theorem dMod_write_5 : decode bMod_write 5 = .ok (.aload_n 0, 1) := by decide +kernel
theorem dMod_write_6 : decode bMod_write 6 = .ok (.aload_n 0, 1) := by decide +kernel
theorem dMod_write_7 : decode bMod_write 7 = .ok (.getfield 53, 3) := by decide +kernel
theorem dMod_write_10 : decode bMod_write 10 = .ok (.iconst 0, 1) := by decide +kernel
theorem dMod_write_11 : decode bMod_write 11 = .ok (.aload_n 0, 1) := by decide +kernel
theorem dMod_write_12 : decode bMod_write 12 = .ok (.getfield 50, 3) := by decide +kernel
theorem dMod_write_15 : decode bMod_write 15 = .ok (.iconst 0, 1) := by decide +kernel
theorem dMod_write_16 : decode bMod_write 16 = .ok (.iaload, 1) := by decide +kernel
theorem dMod_write_17 : decode bMod_write 17 = .ok (.iconst 5, 1) := by decide +kernel
theorem dMod_write_18 : decode bMod_write 18 = .ok (.iconst 0, 1) := by decide +kernel
theorem dMod_write_19 : decode bMod_write 19 = .ok (.invokevirtual 174, 3) := by decide +kernel
theorem dMod_write_22 : decode bMod_write 22 = .ok (.aload_n 0, 1) := by decide +kernel
theorem dMod_write_23 : decode bMod_write 23 = .ok (.iconst 0, 1) := by decide +kernel
theorem dMod_write_24 : decode bMod_write 24 = .ok (.putfield 181, 3) := by decide +kernel
theorem dMod_write_27 : decode bMod_write 27 = .ok (.aload_n 0, 1) := by decide +kernel
theorem dMod_write_28 : decode bMod_write 28 = .ok (.invokevirtual 163, 3) := by decide +kernel
theorem dMod_write_31 : decode bMod_write 31 = .ok (.aload_n 0, 1) := by decide +kernel
theorem dMod_write_32 : decode bMod_write 32 = .ok (.iconst 0, 1) := by decide +kernel
theorem dMod_write_33 : decode bMod_write 33 = .ok (.invokevirtual 166, 3) := by decide +kernel
theorem dMod_write_36 : decode bMod_write 36 = .ok (.ifCond .eq 147, 3) := by decide +kernel
theorem dMod_write_39 : decode bMod_write 39 = .ok (.aload_n 0, 1) := by decide +kernel
theorem dMod_write_40 : decode bMod_write 40 = .ok (.invokevirtual 170, 3) := by decide +kernel
theorem dMod_write_43 : decode bMod_write 43 = .ok (.ifCond .eq (-12), 3) := by decide +kernel
theorem dMod_write_46 : decode bMod_write 46 = .ok (.iconst 0, 1) := by decide +kernel
theorem dMod_write_47 : decode bMod_write 47 = .ok (.istore_n 1, 1) := by decide +kernel
theorem dMod_write_48 : decode bMod_write 48 = .ok (.iconst 0, 1) := by decide +kernel
theorem dMod_write_49 : decode bMod_write 49 = .ok (.istore_n 2, 1) := by decide +kernel
theorem dMod_write_50 : decode bMod_write 50 = .ok (.iconst 0, 1) := by decide +kernel
theorem dMod_write_51 : decode bMod_write 51 = .ok (.istore_n 3, 1) := by decide +kernel
theorem dMod_write_52 : decode bMod_write 52 = .ok (.iload_n 3, 1) := by decide +kernel
theorem dMod_write_53 : decode bMod_write 53 = .ok (.aload_n 0, 1) := by decide +kernel
theorem dMod_write_54 : decode bMod_write 54 = .ok (.getfield 144, 3) := by decide +kernel
theorem dMod_write_57 : decode bMod_write 57 = .ok (.if_icmp .ge 69, 3) := by decide +kernel
theorem dMod_write_60 : decode bMod_write 60 = .ok (.aload_n 0, 1) := by decide +kernel
theorem dMod_write_61 : decode bMod_write 61 = .ok (.getfield 13, 3) := by decide +kernel
theorem dMod_write_64 : decode bMod_write 64 = .ok (.aload_n 0, 1) := by decide +kernel
theorem dMod_write_65 : decode bMod_write 65 = .ok (.getfield 92, 3) := by decide +kernel
theorem dMod_write_68 : decode bMod_write 68 = .ok (.iload_n 3, 1) := by decide +kernel
theorem dMod_write_69 : decode bMod_write 69 = .ok (.iaload, 1) := by decide +kernel
theorem dMod_write_70 : decode bMod_write 70 = .ok (.iaload, 1) := by decide +kernel
theorem dMod_write_71 : decode bMod_write 71 = .ok (.ifCond .le 7, 3) := by decide +kernel
theorem dMod_write_74 : decode bMod_write 74 = .ok (.iconst 1, 1) := by decide +kernel
theorem dMod_write_75 : decode bMod_write 75 = .ok (.goto 4, 3) := by decide +kernel
theorem dMod_write_78 : decode bMod_write 78 = .ok (.iconst 0, 1) := by decide +kernel
theorem dMod_write_79 : decode bMod_write 79 = .ok (.istore 4, 2) := by decide +kernel
theorem dMod_write_81 : decode bMod_write 81 = .ok (.iload 4, 2) := by decide +kernel
theorem dMod_write_83 : decode bMod_write 83 = .ok (.ifCond .eq 22, 3) := by decide +kernel
theorem dMod_write_86 : decode bMod_write 86 = .ok (.bipush 8, 2) := by decide +kernel
theorem dMod_write_88 : decode bMod_write 88 = .ok (.iload_n 2, 1) := by decide +kernel
theorem dMod_write_89 : decode bMod_write 89 = .ok (.imul, 1) := by decide +kernel
theorem dMod_write_90 : decode bMod_write 90 = .ok (.aload_n 0, 1) := by decide +kernel
theorem dMod_write_91 : decode bMod_write 91 = .ok (.getfield 13, 3) := by decide +kernel
theorem dMod_write_94 : decode bMod_write 94 = .ok (.aload_n 0, 1) := by decide +kernel
theorem dMod_write_95 : decode bMod_write 95 = .ok (.getfield 92, 3) := by decide +kernel
theorem dMod_write_98 : decode bMod_write 98 = .ok (.iload_n 3, 1) := by decide +kernel
theorem dMod_write_99 : decode bMod_write 99 = .ok (.iaload, 1) := by decide +kernel
theorem dMod_write_100 : decode bMod_write 100 = .ok (.iaload, 1) := by decide +kernel
theorem dMod_write_101 : decode bMod_write 101 = .ok (.iadd, 1) := by decide +kernel
theorem dMod_write_102 : decode bMod_write 102 = .ok (.goto 4, 3) := by decide +kernel
theorem dMod_write_105 : decode bMod_write 105 = .ok (.iload_n 2, 1) := by decide +kernel
theorem dMod_write_106 : decode bMod_write 106 = .ok (.istore_n 2, 1) := by decide +kernel
theorem dMod_write_107 : decode bMod_write 107 = .ok (.iload_n 1, 1) := by decide +kernel
theorem dMod_write_108 : decode bMod_write 108 = .ok (.iload 4, 2) := by decide +kernel
theorem dMod_write_110 : decode bMod_write 110 = .ok (.ifCond .eq 7, 3) := by decide +kernel
theorem dMod_write_113 : decode bMod_write 113 = .ok (.iconst 1, 1) := by decide +kernel
theorem dMod_write_114 : decode bMod_write 114 = .ok (.goto 4, 3) := by decide +kernel
theorem dMod_write_117 : decode bMod_write 117 = .ok (.iconst 0, 1) := by decide +kernel
theorem dMod_write_118 : decode bMod_write 118 = .ok (.iadd, 1) := by decide +kernel
theorem dMod_write_119 : decode bMod_write 119 = .ok (.istore_n 1, 1) := by decide +kernel
theorem dMod_write_120 : decode bMod_write 120 = .ok (.iinc 3 1, 3) := by decide +kernel
theorem dMod_write_123 : decode bMod_write 123 = .ok (.goto (-71), 3) := by decide +kernel
theorem dMod_write_126 : decode bMod_write 126 = .ok (.aload_n 0, 1) := by decide +kernel
theorem dMod_write_127 : decode bMod_write 127 = .ok (.getfield 68, 3) := by decide +kernel
theorem dMod_write_130 : decode bMod_write 130 = .ok (.aload_n 0, 1) := by decide +kernel
theorem dMod_write_131 : decode bMod_write 131 = .ok (.getfield 181, 3) := by decide +kernel
theorem dMod_write_134 : decode bMod_write 134 = .ok (.iload_n 1, 1) := by decide +kernel
theorem dMod_write_135 : decode bMod_write 135 = .ok (.iastore, 1) := by decide +kernel
theorem dMod_write_136 : decode bMod_write 136 = .ok (.aload_n 0, 1) := by decide +kernel
theorem dMod_write_137 : decode bMod_write 137 = .ok (.getfield 71, 3) := by decide +kernel
theorem dMod_write_140 : decode bMod_write 140 = .ok (.aload_n 0, 1) := by decide +kernel
theorem dMod_write_141 : decode bMod_write 141 = .ok (.getfield 181, 3) := by decide +kernel
theorem dMod_write_144 : decode bMod_write 144 = .ok (.iload_n 2, 1) := by decide +kernel
theorem dMod_write_145 : decode bMod_write 145 = .ok (.iastore, 1) := by decide +kernel
theorem dMod_write_146 : decode bMod_write 146 = .ok (.aload_n 0, 1) := by decide +kernel
theorem dMod_write_147 : decode bMod_write 147 = .ok (.getfield 74, 3) := by decide +kernel
theorem dMod_write_150 : decode bMod_write 150 = .ok (.aload_n 0, 1) := by decide +kernel
theorem dMod_write_151 : decode bMod_write 151 = .ok (.getfield 181, 3) := by decide +kernel
theorem dMod_write_154 : decode bMod_write 154 = .ok (.iconst 0, 1) := by decide +kernel
theorem dMod_write_155 : decode bMod_write 155 = .ok (.iastore, 1) := by decide +kernel
theorem dMod_write_156 : decode bMod_write 156 = .ok (.aload_n 0, 1) := by decide +kernel
theorem dMod_write_157 : decode bMod_write 157 = .ok (.getfield 77, 3) := by decide +kernel
theorem dMod_write_160 : decode bMod_write 160 = .ok (.aload_n 0, 1) := by decide +kernel
theorem dMod_write_161 : decode bMod_write 161 = .ok (.getfield 181, 3) := by decide +kernel
theorem dMod_write_164 : decode bMod_write 164 = .ok (.iconst 0, 1) := by decide +kernel
theorem dMod_write_165 : decode bMod_write 165 = .ok (.iastore, 1) := by decide +kernel
theorem dMod_write_166 : decode bMod_write 166 = .ok (.aload_n 0, 1) := by decide +kernel
theorem dMod_write_167 : decode bMod_write 167 = .ok (.invokevirtual 188, 3) := by decide +kernel
theorem dMod_write_170 : decode bMod_write 170 = .ok (.ifCond .ne 10, 3) := by decide +kernel
theorem dMod_write_173 : decode bMod_write 173 = .ok (.aload_n 0, 1) := by decide +kernel
theorem dMod_write_174 : decode bMod_write 174 = .ok (.iconst 1, 1) := by decide +kernel
theorem dMod_write_175 : decode bMod_write 175 = .ok (.putfield 107, 3) := by decide +kernel
theorem dMod_write_178 : decode bMod_write 178 = .ok (.iconst 0, 1) := by decide +kernel
theorem dMod_write_179 : decode bMod_write 179 = .ok (.ireturn, 1) := by decide +kernel
theorem dMod_write_180 : decode bMod_write 180 = .ok (.goto (-149), 3) := by decide +kernel
theorem dMod_write_183 : decode bMod_write 183 = .ok (.aload_n 0, 1) := by decide +kernel
theorem dMod_write_184 : decode bMod_write 184 = .ok (.invokevirtual 191, 3) := by decide +kernel
theorem dMod_write_187 : decode bMod_write 187 = .ok (.ireturn, 1) := by decide +kernel
theorem dMod_isFound_0 : decode bMod_isFound 0 = .ok (.aload_n 0, 1) := by decide +kernel
theorem dMod_isFound_1 : decode bMod_isFound 1 = .ok (.getfield 38, 3) := by decide +kernel
theorem dMod_isFound_4 : decode bMod_isFound 4 = .ok (.aload_n 0, 1) := by decide +kernel
theorem dMod_isFound_5 : decode bMod_isFound 5 = .ok (.getfield 104, 3) := by decide +kernel
theorem dMod_isFound_8 : decode bMod_isFound 8 = .ok (.iconst 0, 1) := by decide +kernel
theorem dMod_isFound_9 : decode bMod_isFound 9 = .ok (.iaload, 1) := by decide +kernel
theorem dMod_isFound_10 : decode bMod_isFound 10 = .ok (.iaload, 1) := by decide +kernel
theorem dMod_isFound_11 : decode bMod_isFound 11 = .ok (.ifCond .ne 24, 3) := by decide +kernel
theorem dMod_isFound_14 : decode bMod_isFound 14 = .ok (.aload_n 0, 1) := by decide +kernel
theorem dMod_isFound_15 : decode bMod_isFound 15 = .ok (.getfield 41, 3) := by decide +kernel
theorem dMod_isFound_18 : decode bMod_isFound 18 = .ok (.aload_n 0, 1) := by decide +kernel
theorem dMod_isFound_19 : decode bMod_isFound 19 = .ok (.getfield 104, 3) := by decide +kernel
theorem dMod_isFound_22 : decode bMod_isFound 22 = .ok (.iload_n 1, 1) := by decide +kernel
theorem dMod_isFound_23 : decode bMod_isFound 23 = .ok (.iconst 1, 1) := by decide +kernel
theorem dMod_isFound_24 : decode bMod_isFound 24 = .ok (.isub, 1) := by decide +kernel
theorem dMod_isFound_25 : decode bMod_isFound 25 = .ok (.iaload, 1) := by decide +kernel
theorem dMod_isFound_26 : decode bMod_isFound 26 = .ok (.iaload, 1) := by decide +kernel
theorem dMod_isFound_27 : decode bMod_isFound 27 = .ok (.iconst (-1), 1) := by decide +kernel
theorem dMod_isFound_28 : decode bMod_isFound 28 = .ok (.if_icmp .ne 7, 3) := by decide +kernel
theorem dMod_isFound_31 : decode bMod_isFound 31 = .ok (.iconst 1, 1) := by decide +kernel
theorem dMod_isFound_32 : decode bMod_isFound 32 = .ok (.goto 4, 3) := by decide +kernel
theorem dMod_isFound_35 : decode bMod_isFound 35 = .ok (.iconst 0, 1) := by decide +kernel
theorem dMod_isFound_36 : decode bMod_isFound 36 = .ok (.istore_n 2, 1) := by decide +kernel
theorem dMod_isFound_37 : decode bMod_isFound 37 = .ok (.iconst 1, 1) := by decide +kernel
theorem dMod_isFound_38 : decode bMod_isFound 38 = .ok (.istore_n 3, 1) := by decide +kernel
theorem dMod_isFound_39 : decode bMod_isFound 39 = .ok (.iload_n 3, 1) := by decide +kernel
theorem dMod_isFound_40 : decode bMod_isFound 40 = .ok (.iload_n 1, 1) := by decide +kernel
theorem dMod_isFound_41 : decode bMod_isFound 41 = .ok (.if_icmp .ge 46, 3) := by decide +kernel
theorem dMod_isFound_44 : decode bMod_isFound 44 = .ok (.iload_n 2, 1) := by decide +kernel
theorem dMod_isFound_45 : decode bMod_isFound 45 = .ok (.ifCond .eq 34, 3) := by decide +kernel
theorem dMod_isFound_48 : decode bMod_isFound 48 = .ok (.aload_n 0, 1) := by decide +kernel
theorem dMod_isFound_49 : decode bMod_isFound 49 = .ok (.getfield 41, 3) := by decide +kernel
theorem dMod_isFound_52 : decode bMod_isFound 52 = .ok (.aload_n 0, 1) := by decide +kernel
theorem dMod_isFound_53 : decode bMod_isFound 53 = .ok (.getfield 104, 3) := by decide +kernel
theorem dMod_isFound_56 : decode bMod_isFound 56 = .ok (.iload_n 3, 1) := by decide +kernel
theorem dMod_isFound_57 : decode bMod_isFound 57 = .ok (.iconst 1, 1) := by decide +kernel
theorem dMod_isFound_58 : decode bMod_isFound 58 = .ok (.isub, 1) := by decide +kernel
theorem dMod_isFound_59 : decode bMod_isFound 59 = .ok (.iaload, 1) := by decide +kernel
theorem dMod_isFound_60 : decode bMod_isFound 60 = .ok (.iaload, 1) := by decide +kernel
theorem dMod_isFound_61 : decode bMod_isFound 61 = .ok (.aload_n 0, 1) := by decide +kernel
theorem dMod_isFound_62 : decode bMod_isFound 62 = .ok (.getfield 38, 3) := by decide +kernel
theorem dMod_isFound_65 : decode bMod_isFound 65 = .ok (.aload_n 0, 1) := by decide +kernel
theorem dMod_isFound_66 : decode bMod_isFound 66 = .ok (.getfield 104, 3) := by decide +kernel
theorem dMod_isFound_69 : decode bMod_isFound 69 = .ok (.iload_n 3, 1) := by decide +kernel
theorem dMod_isFound_70 : decode bMod_isFound 70 = .ok (.iaload, 1) := by decide +kernel
theorem dMod_isFound_71 : decode bMod_isFound 71 = .ok (.iaload, 1) := by decide +kernel
theorem dMod_isFound_72 : decode bMod_isFound 72 = .ok (.if_icmp .ne 7, 3) := by decide +kernel
theorem dMod_isFound_75 : decode bMod_isFound 75 = .ok (.iconst 1, 1) := by decide +kernel
theorem dMod_isFound_76 : decode bMod_isFound 76 = .ok (.goto 4, 3) := by decide +kernel
theorem dMod_isFound_79 : decode bMod_isFound 79 = .ok (.iconst 0, 1) := by decide +kernel
theorem dMod_isFound_80 : decode bMod_isFound 80 = .ok (.istore_n 2, 1) := by decide +kernel
theorem dMod_isFound_81 : decode bMod_isFound 81 = .ok (.iinc 3 1, 3) := by decide +kernel
theorem dMod_isFound_84 : decode bMod_isFound 84 = .ok (.goto (-45), 3) := by decide +kernel
theorem dMod_isFound_87 : decode bMod_isFound 87 = .ok (.iconst 0, 1) := by decide +kernel
theorem dMod_isFound_88 : decode bMod_isFound 88 = .ok (.istore_n 3, 1) := by decide +kernel
theorem dMod_isFound_89 : decode bMod_isFound 89 = .ok (.iconst 0, 1) := by decide +kernel
theorem dMod_isFound_90 : decode bMod_isFound 90 = .ok (.istore 4, 2) := by decide +kernel
theorem dMod_isFound_92 : decode bMod_isFound 92 = .ok (.iconst 0, 1) := by decide +kernel
theorem dMod_isFound_93 : decode bMod_isFound 93 = .ok (.istore 5, 2) := by decide +kernel
theorem dMod_isFound_95 : decode bMod_isFound 95 = .ok (.iconst 0, 1) := by decide +kernel
theorem dMod_isFound_96 : decode bMod_isFound 96 = .ok (.istore 6, 2) := by decide +kernel
theorem dMod_isFound_98 : decode bMod_isFound 98 = .ok (.iload 6, 2) := by decide +kernel
theorem dMod_isFound_100 : decode bMod_isFound 100 = .ok (.iload_n 1, 1) := by decide +kernel
theorem dMod_isFound_101 : decode bMod_isFound 101 = .ok (.if_icmp .ge 111, 3) := by decide +kernel
theorem dMod_isFound_104 : decode bMod_isFound 104 = .ok (.iload_n 2, 1) := by decide +kernel
theorem dMod_isFound_105 : decode bMod_isFound 105 = .ok (.ifCond .eq 107, 3) := by decide +kernel
theorem dMod_isFound_108 : decode bMod_isFound 108 = .ok (.aload_n 0, 1) := by decide +kernel
theorem dMod_isFound_109 : decode bMod_isFound 109 = .ok (.getfield 104, 3) := by decide +kernel
theorem dMod_isFound_112 : decode bMod_isFound 112 = .ok (.iload 6, 2) := by decide +kernel
theorem dMod_isFound_114 : decode bMod_isFound 114 = .ok (.iaload, 1) := by decide +kernel
theorem dMod_isFound_115 : decode bMod_isFound 115 = .ok (.istore 7, 2) := by decide +kernel
theorem dMod_isFound_117 : decode bMod_isFound 117 = .ok (.iload_n 3, 1) := by decide +kernel
theorem dMod_isFound_118 : decode bMod_isFound 118 = .ok (.aload_n 0, 1) := by decide +kernel
theorem dMod_isFound_119 : decode bMod_isFound 119 = .ok (.getfield 44, 3) := by decide +kernel
theorem dMod_isFound_122 : decode bMod_isFound 122 = .ok (.iload 7, 2) := by decide +kernel
theorem dMod_isFound_124 : decode bMod_isFound 124 = .ok (.iaload, 1) := by decide +kernel
theorem dMod_isFound_125 : decode bMod_isFound 125 = .ok (.iadd, 1) := by decide +kernel
theorem dMod_isFound_126 : decode bMod_isFound 126 = .ok (.iconst 4, 1) := by decide +kernel
theorem dMod_isFound_127 : decode bMod_isFound 127 = .ok (.if_icmp .gt 7, 3) := by decide +kernel
theorem dMod_isFound_130 : decode bMod_isFound 130 = .ok (.iconst 1, 1) := by decide +kernel
theorem dMod_isFound_131 : decode bMod_isFound 131 = .ok (.goto 4, 3) := by decide +kernel
theorem dMod_isFound_134 : decode bMod_isFound 134 = .ok (.iconst 0, 1) := by decide +kernel
theorem dMod_isFound_135 : decode bMod_isFound 135 = .ok (.istore_n 2, 1) := by decide +kernel
theorem dMod_isFound_136 : decode bMod_isFound 136 = .ok (.iconst 0, 1) := by decide +kernel
theorem dMod_isFound_137 : decode bMod_isFound 137 = .ok (.istore 8, 2) := by decide +kernel
theorem dMod_isFound_139 : decode bMod_isFound 139 = .ok (.iload 8, 2) := by decide +kernel
theorem dMod_isFound_141 : decode bMod_isFound 141 = .ok (.aload_n 0, 1) := by decide +kernel
theorem dMod_isFound_142 : decode bMod_isFound 142 = .ok (.getfield 44, 3) := by decide +kernel
theorem dMod_isFound_145 : decode bMod_isFound 145 = .ok (.iload 7, 2) := by decide +kernel
theorem dMod_isFound_147 : decode bMod_isFound 147 = .ok (.iaload, 1) := by decide +kernel
theorem dMod_isFound_148 : decode bMod_isFound 148 = .ok (.if_icmp .ge 48, 3) := by decide +kernel
theorem dMod_isFound_151 : decode bMod_isFound 151 = .ok (.iload_n 2, 1) := by decide +kernel
theorem dMod_isFound_152 : decode bMod_isFound 152 = .ok (.ifCond .eq 44, 3) := by decide +kernel
theorem dMod_isFound_155 : decode bMod_isFound 155 = .ok (.aload_n 0, 1) := by decide +kernel
theorem dMod_isFound_156 : decode bMod_isFound 156 = .ok (.getfield 86, 3) := by decide +kernel
theorem dMod_isFound_159 : decode bMod_isFound 159 = .ok (.iload_n 3, 1) := by decide +kernel
theorem dMod_isFound_160 : decode bMod_isFound 160 = .ok (.aload_n 0, 1) := by decide +kernel
theorem dMod_isFound_161 : decode bMod_isFound 161 = .ok (.getfield 47, 3) := by decide +kernel
theorem dMod_isFound_164 : decode bMod_isFound 164 = .ok (.iconst 3, 1) := by decide +kernel
theorem dMod_isFound_165 : decode bMod_isFound 165 = .ok (.iload 7, 2) := by decide +kernel
theorem dMod_isFound_167 : decode bMod_isFound 167 = .ok (.imul, 1) := by decide +kernel
theorem dMod_isFound_168 : decode bMod_isFound 168 = .ok (.iload 8, 2) := by decide +kernel
theorem dMod_isFound_170 : decode bMod_isFound 170 = .ok (.iadd, 1) := by decide +kernel
theorem dMod_isFound_171 : decode bMod_isFound 171 = .ok (.iaload, 1) := by decide +kernel
theorem dMod_isFound_172 : decode bMod_isFound 172 = .ok (.iastore, 1) := by decide +kernel
theorem dMod_isFound_173 : decode bMod_isFound 173 = .ok (.bipush 8, 2) := by decide +kernel
theorem dMod_isFound_175 : decode bMod_isFound 175 = .ok (.iload 4, 2) := by decide +kernel
theorem dMod_isFound_177 : decode bMod_isFound 177 = .ok (.imul, 1) := by decide +kernel
theorem dMod_isFound_178 : decode bMod_isFound 178 = .ok (.aload_n 0, 1) := by decide +kernel
theorem dMod_isFound_179 : decode bMod_isFound 179 = .ok (.getfield 86, 3) := by decide +kernel
theorem dMod_isFound_182 : decode bMod_isFound 182 = .ok (.iload_n 3, 1) := by decide +kernel
theorem dMod_isFound_183 : decode bMod_isFound 183 = .ok (.iaload, 1) := by decide +kernel
theorem dMod_isFound_184 : decode bMod_isFound 184 = .ok (.iadd, 1) := by decide +kernel
theorem dMod_isFound_185 : decode bMod_isFound 185 = .ok (.istore 4, 2) := by decide +kernel
theorem dMod_isFound_187 : decode bMod_isFound 187 = .ok (.iinc 3 1, 3) := by decide +kernel
theorem dMod_isFound_190 : decode bMod_isFound 190 = .ok (.iinc 8 1, 3) := by decide +kernel
theorem dMod_isFound_193 : decode bMod_isFound 193 = .ok (.goto (-54), 3) := by decide +kernel
theorem dMod_isFound_196 : decode bMod_isFound 196 = .ok (.bipush 8, 2) := by decide +kernel
theorem dMod_isFound_198 : decode bMod_isFound 198 = .ok (.iload 5, 2) := by decide +kernel
theorem dMod_isFound_200 : decode bMod_isFound 200 = .ok (.imul, 1) := by decide +kernel
theorem dMod_isFound_201 : decode bMod_isFound 201 = .ok (.iload 7, 2) := by decide +kernel
theorem dMod_isFound_203 : decode bMod_isFound 203 = .ok (.iadd, 1) := by decide +kernel
theorem dMod_isFound_204 : decode bMod_isFound 204 = .ok (.istore 5, 2) := by decide +kernel
theorem dMod_isFound_206 : decode bMod_isFound 206 = .ok (.iinc 6 1, 3) := by decide +kernel
theorem dMod_isFound_209 : decode bMod_isFound 209 = .ok (.goto (-111), 3) := by decide +kernel
theorem dMod_isFound_212 : decode bMod_isFound 212 = .ok (.aload_n 0, 1) := by decide +kernel
theorem dMod_isFound_213 : decode bMod_isFound 213 = .ok (.iload_n 3, 1) := by decide +kernel
theorem dMod_isFound_214 : decode bMod_isFound 214 = .ok (.putfield 153, 3) := by decide +kernel
theorem dMod_isFound_217 : decode bMod_isFound 217 = .ok (.aload_n 0, 1) := by decide +kernel
theorem dMod_isFound_218 : decode bMod_isFound 218 = .ok (.getfield 68, 3) := by decide +kernel
theorem dMod_isFound_221 : decode bMod_isFound 221 = .ok (.aload_n 0, 1) := by decide +kernel
theorem dMod_isFound_222 : decode bMod_isFound 222 = .ok (.getfield 181, 3) := by decide +kernel
theorem dMod_isFound_225 : decode bMod_isFound 225 = .ok (.iload_n 3, 1) := by decide +kernel
theorem dMod_isFound_226 : decode bMod_isFound 226 = .ok (.iastore, 1) := by decide +kernel
theorem dMod_isFound_227 : decode bMod_isFound 227 = .ok (.aload_n 0, 1) := by decide +kernel
theorem dMod_isFound_228 : decode bMod_isFound 228 = .ok (.getfield 71, 3) := by decide +kernel
theorem dMod_isFound_231 : decode bMod_isFound 231 = .ok (.aload_n 0, 1) := by decide +kernel
theorem dMod_isFound_232 : decode bMod_isFound 232 = .ok (.getfield 181, 3) := by decide +kernel
theorem dMod_isFound_235 : decode bMod_isFound 235 = .ok (.iload 4, 2) := by decide +kernel
theorem dMod_isFound_237 : decode bMod_isFound 237 = .ok (.iastore, 1) := by decide +kernel
theorem dMod_isFound_238 : decode bMod_isFound 238 = .ok (.aload_n 0, 1) := by decide +kernel
theorem dMod_isFound_239 : decode bMod_isFound 239 = .ok (.getfield 74, 3) := by decide +kernel
theorem dMod_isFound_242 : decode bMod_isFound 242 = .ok (.aload_n 0, 1) := by decide +kernel
theorem dMod_isFound_243 : decode bMod_isFound 243 = .ok (.getfield 181, 3) := by decide +kernel
theorem dMod_isFound_246 : decode bMod_isFound 246 = .ok (.iload_n 1, 1) := by decide +kernel
theorem dMod_isFound_247 : decode bMod_isFound 247 = .ok (.iastore, 1) := by decide +kernel
theorem dMod_isFound_248 : decode bMod_isFound 248 = .ok (.aload_n 0, 1) := by decide +kernel
theorem dMod_isFound_249 : decode bMod_isFound 249 = .ok (.getfield 77, 3) := by decide +kernel
theorem dMod_isFound_252 : decode bMod_isFound 252 = .ok (.aload_n 0, 1) := by decide +kernel
theorem dMod_isFound_253 : decode bMod_isFound 253 = .ok (.getfield 181, 3) := by decide +kernel
theorem dMod_isFound_256 : decode bMod_isFound 256 = .ok (.iload 5, 2) := by decide +kernel
theorem dMod_isFound_258 : decode bMod_isFound 258 = .ok (.iastore, 1) := by decide +kernel
theorem dMod_isFound_259 : decode bMod_isFound 259 = .ok (.iload_n 2, 1) := by decide +kernel
theorem dMod_isFound_260 : decode bMod_isFound 260 = .ok (.ifCond .eq 14, 3) := by decide +kernel
theorem dMod_isFound_263 : decode bMod_isFound 263 = .ok (.aload_n 0, 1) := by decide +kernel
theorem dMod_isFound_264 : decode bMod_isFound 264 = .ok (.invokevirtual 178, 3) := by decide +kernel
theorem dMod_isFound_267 : decode bMod_isFound 267 = .ok (.ifCond .eq 7, 3) := by decide +kernel
theorem dMod_isFound_270 : decode bMod_isFound 270 = .ok (.iconst 1, 1) := by decide +kernel
theorem dMod_isFound_271 : decode bMod_isFound 271 = .ok (.goto 4, 3) := by decide +kernel
theorem dMod_isFound_274 : decode bMod_isFound 274 = .ok (.iconst 0, 1) := by decide +kernel
theorem dMod_isFound_275 : decode bMod_isFound 275 = .ok (.ireturn, 1) := by decide +kernel
theorem dMod_analyse_0 : decode bMod_analyse 0 = .ok (.aload_n 0, 1) := by decide +kernel
theorem dMod_analyse_1 : decode bMod_analyse 1 = .ok (.iconst 0, 1) := by decide +kernel
theorem dMod_analyse_2 : decode bMod_analyse 2 = .ok (.putfield 107, 3) := by decide +kernel
theorem dMod_analyse_5 : decode bMod_analyse 5 = .ok (.aload_n 0, 1) := by decide +kernel
theorem dMod_analyse_6 : decode bMod_analyse 6 = .ok (.aload_n 0, 1) := by decide +kernel
theorem dMod_analyse_7 : decode bMod_analyse 7 = .ok (.getfield 53, 3) := by decide +kernel
theorem dMod_analyse_10 : decode bMod_analyse 10 = .ok (.iconst 0, 1) := by decide +kernel
theorem dMod_analyse_11 : decode bMod_analyse 11 = .ok (.iconst 0, 1) := by decide +kernel
theorem dMod_analyse_12 : decode bMod_analyse 12 = .ok (.iconst 5, 1) := by decide +kernel
theorem dMod_analyse_13 : decode bMod_analyse 13 = .ok (.aload_n 0, 1) := by decide +kernel
theorem dMod_analyse_14 : decode bMod_analyse 14 = .ok (.getfield 50, 3) := by decide +kernel
theorem dMod_analyse_17 : decode bMod_analyse 17 = .ok (.iconst 1, 1) := by decide +kernel
theorem dMod_analyse_18 : decode bMod_analyse 18 = .ok (.iaload, 1) := by decide +kernel
theorem dMod_analyse_19 : decode bMod_analyse 19 = .ok (.invokevirtual 174, 3) := by decide +kernel
theorem dMod_analyse_22 : decode bMod_analyse 22 = .ok (.aload_n 0, 1) := by decide +kernel
theorem dMod_analyse_23 : decode bMod_analyse 23 = .ok (.iconst 0, 1) := by decide +kernel
theorem dMod_analyse_24 : decode bMod_analyse 24 = .ok (.putfield 181, 3) := by decide +kernel
theorem dMod_analyse_27 : decode bMod_analyse 27 = .ok (.iconst 1, 1) := by decide +kernel
theorem dMod_analyse_28 : decode bMod_analyse 28 = .ok (.istore_n 1, 1) := by decide +kernel
theorem dMod_analyse_29 : decode bMod_analyse 29 = .ok (.iload_n 1, 1) := by decide +kernel
theorem dMod_analyse_30 : decode bMod_analyse 30 = .ok (.iconst 4, 1) := by decide +kernel
theorem dMod_analyse_31 : decode bMod_analyse 31 = .ok (.if_icmp .gt 115, 3) := by decide +kernel
theorem dMod_analyse_34 : decode bMod_analyse 34 = .ok (.aload_n 0, 1) := by decide +kernel
theorem dMod_analyse_35 : decode bMod_analyse 35 = .ok (.getfield 128, 3) := by decide +kernel
theorem dMod_analyse_38 : decode bMod_analyse 38 = .ok (.ifCond .le 108, 3) := by decide +kernel
theorem dMod_analyse_41 : decode bMod_analyse 41 = .ok (.iconst 1, 1) := by decide +kernel
theorem dMod_analyse_42 : decode bMod_analyse 42 = .ok (.istore_n 2, 1) := by decide +kernel
theorem dMod_analyse_43 : decode bMod_analyse 43 = .ok (.iconst 0, 1) := by decide +kernel
theorem dMod_analyse_44 : decode bMod_analyse 44 = .ok (.istore_n 3, 1) := by decide +kernel
theorem dMod_analyse_45 : decode bMod_analyse 45 = .ok (.iload_n 3, 1) := by decide +kernel
theorem dMod_analyse_46 : decode bMod_analyse 46 = .ok (.iload_n 1, 1) := by decide +kernel
theorem dMod_analyse_47 : decode bMod_analyse 47 = .ok (.if_icmp .ge 16, 3) := by decide +kernel
theorem dMod_analyse_50 : decode bMod_analyse 50 = .ok (.iload_n 2, 1) := by decide +kernel
theorem dMod_analyse_51 : decode bMod_analyse 51 = .ok (.aload_n 0, 1) := by decide +kernel
theorem dMod_analyse_52 : decode bMod_analyse 52 = .ok (.getfield 128, 3) := by decide +kernel
theorem dMod_analyse_55 : decode bMod_analyse 55 = .ok (.imul, 1) := by decide +kernel
theorem dMod_analyse_56 : decode bMod_analyse 56 = .ok (.istore_n 2, 1) := by decide +kernel
theorem dMod_analyse_57 : decode bMod_analyse 57 = .ok (.iinc 3 1, 3) := by decide +kernel
theorem dMod_analyse_60 : decode bMod_analyse 60 = .ok (.goto (-15), 3) := by decide +kernel
theorem dMod_analyse_63 : decode bMod_analyse 63 = .ok (.iconst 0, 1) := by decide +kernel
theorem dMod_analyse_64 : decode bMod_analyse 64 = .ok (.istore_n 3, 1) := by decide +kernel
theorem dMod_analyse_65 : decode bMod_analyse 65 = .ok (.iload_n 3, 1) := by decide +kernel
theorem dMod_analyse_66 : decode bMod_analyse 66 = .ok (.iload_n 2, 1) := by decide +kernel
theorem dMod_analyse_67 : decode bMod_analyse 67 = .ok (.if_icmp .ge 73, 3) := by decide +kernel
theorem dMod_analyse_70 : decode bMod_analyse 70 = .ok (.iload_n 3, 1) := by decide +kernel
theorem dMod_analyse_71 : decode bMod_analyse 71 = .ok (.istore 4, 2) := by decide +kernel
theorem dMod_analyse_73 : decode bMod_analyse 73 = .ok (.iload_n 1, 1) := by decide +kernel
theorem dMod_analyse_74 : decode bMod_analyse 74 = .ok (.iconst 1, 1) := by decide +kernel
theorem dMod_analyse_75 : decode bMod_analyse 75 = .ok (.isub, 1) := by decide +kernel
theorem dMod_analyse_76 : decode bMod_analyse 76 = .ok (.istore 5, 2) := by decide +kernel
theorem dMod_analyse_78 : decode bMod_analyse 78 = .ok (.iload 5, 2) := by decide +kernel
theorem dMod_analyse_80 : decode bMod_analyse 80 = .ok (.ifCond .lt 32, 3) := by decide +kernel
theorem dMod_analyse_83 : decode bMod_analyse 83 = .ok (.aload_n 0, 1) := by decide +kernel
theorem dMod_analyse_84 : decode bMod_analyse 84 = .ok (.getfield 104, 3) := by decide +kernel
theorem dMod_analyse_87 : decode bMod_analyse 87 = .ok (.iload 5, 2) := by decide +kernel
theorem dMod_analyse_89 : decode bMod_analyse 89 = .ok (.iload 4, 2) := by decide +kernel
theorem dMod_analyse_91 : decode bMod_analyse 91 = .ok (.aload_n 0, 1) := by decide +kernel
theorem dMod_analyse_92 : decode bMod_analyse 92 = .ok (.getfield 128, 3) := by decide +kernel
theorem dMod_analyse_95 : decode bMod_analyse 95 = .ok (.irem, 1) := by decide +kernel
theorem dMod_analyse_96 : decode bMod_analyse 96 = .ok (.iastore, 1) := by decide +kernel
theorem dMod_analyse_97 : decode bMod_analyse 97 = .ok (.iload 4, 2) := by decide +kernel
theorem dMod_analyse_99 : decode bMod_analyse 99 = .ok (.aload_n 0, 1) := by decide +kernel
theorem dMod_analyse_100 : decode bMod_analyse 100 = .ok (.getfield 128, 3) := by decide +kernel
theorem dMod_analyse_103 : decode bMod_analyse 103 = .ok (.idiv, 1) := by decide +kernel
theorem dMod_analyse_104 : decode bMod_analyse 104 = .ok (.istore 4, 2) := by decide +kernel
theorem dMod_analyse_106 : decode bMod_analyse 106 = .ok (.iinc 5 (-1), 3) := by decide +kernel
theorem dMod_analyse_109 : decode bMod_analyse 109 = .ok (.goto (-31), 3) := by decide +kernel
theorem dMod_analyse_112 : decode bMod_analyse 112 = .ok (.aload_n 0, 1) := by decide +kernel
theorem dMod_analyse_113 : decode bMod_analyse 113 = .ok (.iload_n 1, 1) := by decide +kernel
theorem dMod_analyse_114 : decode bMod_analyse 114 = .ok (.invokevirtual 195, 3) := by decide +kernel
theorem dMod_analyse_117 : decode bMod_analyse 117 = .ok (.ifCond .eq 17, 3) := by decide +kernel
theorem dMod_analyse_120 : decode bMod_analyse 120 = .ok (.aload_n 0, 1) := by decide +kernel
theorem dMod_analyse_121 : decode bMod_analyse 121 = .ok (.invokevirtual 188, 3) := by decide +kernel
theorem dMod_analyse_124 : decode bMod_analyse 124 = .ok (.ifCond .ne 10, 3) := by decide +kernel
theorem dMod_analyse_127 : decode bMod_analyse 127 = .ok (.aload_n 0, 1) := by decide +kernel
theorem dMod_analyse_128 : decode bMod_analyse 128 = .ok (.iconst 1, 1) := by decide +kernel
theorem dMod_analyse_129 : decode bMod_analyse 129 = .ok (.putfield 107, 3) := by decide +kernel
theorem dMod_analyse_132 : decode bMod_analyse 132 = .ok (.iconst 0, 1) := by decide +kernel
theorem dMod_analyse_133 : decode bMod_analyse 133 = .ok (.ireturn, 1) := by decide +kernel
theorem dMod_analyse_134 : decode bMod_analyse 134 = .ok (.iinc 3 1, 3) := by decide +kernel
theorem dMod_analyse_137 : decode bMod_analyse 137 = .ok (.goto (-72), 3) := by decide +kernel
theorem dMod_analyse_140 : decode bMod_analyse 140 = .ok (.iinc 1 1, 3) := by decide +kernel
theorem dMod_analyse_143 : decode bMod_analyse 143 = .ok (.goto (-114), 3) := by decide +kernel
theorem dMod_analyse_146 : decode bMod_analyse 146 = .ok (.aload_n 0, 1) := by decide +kernel
theorem dMod_analyse_147 : decode bMod_analyse 147 = .ok (.invokevirtual 191, 3) := by decide +kernel
theorem dMod_analyse_150 : decode bMod_analyse 150 = .ok (.ireturn, 1) := by decide +kernel
theorem dMod_length_0 : decode bMod_length 0 = .ok (.aload_n 0, 1) := by decide +kernel
theorem dMod_length_1 : decode bMod_length 1 = .ok (.iload_n 1, 1) := by decide +kernel
theorem dMod_length_2 : decode bMod_length 2 = .ok (.ifCond .lt 11, 3) := by decide +kernel
theorem dMod_length_5 : decode bMod_length 5 = .ok (.iload_n 1, 1) := by decide +kernel
theorem dMod_length_6 : decode bMod_length 6 = .ok (.aload_n 0, 1) := by decide +kernel
theorem dMod_length_7 : decode bMod_length 7 = .ok (.getfield 118, 3) := by decide +kernel
theorem dMod_length_10 : decode bMod_length 10 = .ok (.if_icmp .lt 7, 3) := by decide +kernel
theorem dMod_length_13 : decode bMod_length 13 = .ok (.iconst 1, 1) := by decide +kernel
theorem dMod_length_14 : decode bMod_length 14 = .ok (.goto 4, 3) := by decide +kernel
theorem dMod_length_17 : decode bMod_length 17 = .ok (.iconst 0, 1) := by decide +kernel
theorem dMod_length_18 : decode bMod_length 18 = .ok (.putfield 107, 3) := by decide +kernel
theorem dMod_length_21 : decode bMod_length 21 = .ok (.aload_n 0, 1) := by decide +kernel
theorem dMod_length_22 : decode bMod_length 22 = .ok (.getfield 107, 3) := by decide +kernel
theorem dMod_length_25 : decode bMod_length 25 = .ok (.ifCond .eq 7, 3) := by decide +kernel
theorem dMod_length_28 : decode bMod_length 28 = .ok (.iconst 0, 1) := by decide +kernel
theorem dMod_length_29 : decode bMod_length 29 = .ok (.goto 22, 3) := by decide +kernel
theorem dMod_length_32 : decode bMod_length 32 = .ok (.iload_n 2, 1) := by decide +kernel
theorem dMod_length_33 : decode bMod_length 33 = .ok (.ifCond .eq 12, 3) := by decide +kernel
theorem dMod_length_36 : decode bMod_length 36 = .ok (.aload_n 0, 1) := by decide +kernel
theorem dMod_length_37 : decode bMod_length 37 = .ok (.getfield 62, 3) := by decide +kernel
theorem dMod_length_40 : decode bMod_length 40 = .ok (.iload_n 1, 1) := by decide +kernel
theorem dMod_length_41 : decode bMod_length 41 = .ok (.iaload, 1) := by decide +kernel
theorem dMod_length_42 : decode bMod_length 42 = .ok (.goto 9, 3) := by decide +kernel
theorem dMod_length_45 : decode bMod_length 45 = .ok (.aload_n 0, 1) := by decide +kernel
theorem dMod_length_46 : decode bMod_length 46 = .ok (.getfield 56, 3) := by decide +kernel
theorem dMod_length_49 : decode bMod_length 49 = .ok (.iload_n 1, 1) := by decide +kernel
theorem dMod_length_50 : decode bMod_length 50 = .ok (.iaload, 1) := by decide +kernel
theorem dMod_length_51 : decode bMod_length 51 = .ok (.ireturn, 1) := by decide +kernel
theorem dMod_result_0 : decode bMod_result 0 = .ok (.iload_n 1, 1) := by decide +kernel
theorem dMod_result_1 : decode bMod_result 1 = .ok (.ifCond .lt 15, 3) := by decide +kernel
theorem dMod_result_4 : decode bMod_result 4 = .ok (.iload_n 1, 1) := by decide +kernel
theorem dMod_result_5 : decode bMod_result 5 = .ok (.aload_n 0, 1) := by decide +kernel
theorem dMod_result_6 : decode bMod_result 6 = .ok (.getfield 118, 3) := by decide +kernel
theorem dMod_result_9 : decode bMod_result 9 = .ok (.if_icmp .ge 7, 3) := by decide +kernel
theorem dMod_result_12 : decode bMod_result 12 = .ok (.iload_n 2, 1) := by decide +kernel
theorem dMod_result_13 : decode bMod_result 13 = .ok (.ifCond .ge 7, 3) := by decide +kernel
theorem dMod_result_16 : decode bMod_result 16 = .ok (.iconst 1, 1) := by decide +kernel
theorem dMod_result_17 : decode bMod_result 17 = .ok (.goto 4, 3) := by decide +kernel
theorem dMod_result_20 : decode bMod_result 20 = .ok (.iconst 0, 1) := by decide +kernel
theorem dMod_result_21 : decode bMod_result 21 = .ok (.istore 4, 2) := by decide +kernel
theorem dMod_result_23 : decode bMod_result 23 = .ok (.aload_n 0, 1) := by decide +kernel
theorem dMod_result_24 : decode bMod_result 24 = .ok (.iload 4, 2) := by decide +kernel
theorem dMod_result_26 : decode bMod_result 26 = .ok (.ifCond .eq 7, 3) := by decide +kernel
theorem dMod_result_29 : decode bMod_result 29 = .ok (.iconst 1, 1) := by decide +kernel
theorem dMod_result_30 : decode bMod_result 30 = .ok (.goto 31, 3) := by decide +kernel
theorem dMod_result_33 : decode bMod_result 33 = .ok (.iload_n 2, 1) := by decide +kernel
theorem dMod_result_34 : decode bMod_result 34 = .ok (.iload_n 3, 1) := by decide +kernel
theorem dMod_result_35 : decode bMod_result 35 = .ok (.ifCond .eq 12, 3) := by decide +kernel
theorem dMod_result_38 : decode bMod_result 38 = .ok (.aload_n 0, 1) := by decide +kernel
theorem dMod_result_39 : decode bMod_result 39 = .ok (.getfield 62, 3) := by decide +kernel
theorem dMod_result_42 : decode bMod_result 42 = .ok (.iload_n 1, 1) := by decide +kernel
theorem dMod_result_43 : decode bMod_result 43 = .ok (.iaload, 1) := by decide +kernel
theorem dMod_result_44 : decode bMod_result 44 = .ok (.goto 9, 3) := by decide +kernel
theorem dMod_result_47 : decode bMod_result 47 = .ok (.aload_n 0, 1) := by decide +kernel
theorem dMod_result_48 : decode bMod_result 48 = .ok (.getfield 56, 3) := by decide +kernel
theorem dMod_result_51 : decode bMod_result 51 = .ok (.iload_n 1, 1) := by decide +kernel
theorem dMod_result_52 : decode bMod_result 52 = .ok (.iaload, 1) := by decide +kernel
theorem dMod_result_53 : decode bMod_result 53 = .ok (.if_icmp .lt 7, 3) := by decide +kernel
theorem dMod_result_56 : decode bMod_result 56 = .ok (.iconst 1, 1) := by decide +kernel
theorem dMod_result_57 : decode bMod_result 57 = .ok (.goto 4, 3) := by decide +kernel
theorem dMod_result_60 : decode bMod_result 60 = .ok (.iconst 0, 1) := by decide +kernel
theorem dMod_result_61 : decode bMod_result 61 = .ok (.putfield 107, 3) := by decide +kernel
theorem dMod_result_64 : decode bMod_result 64 = .ok (.aload_n 0, 1) := by decide +kernel
theorem dMod_result_65 : decode bMod_result 65 = .ok (.getfield 107, 3) := by decide +kernel
theorem dMod_result_68 : decode bMod_result 68 = .ok (.ifCond .eq 5, 3) := by decide +kernel
theorem dMod_result_71 : decode bMod_result 71 = .ok (.iconst 0, 1) := by decide +kernel
theorem dMod_result_72 : decode bMod_result 72 = .ok (.ireturn, 1) := by decide +kernel
theorem dMod_result_73 : decode bMod_result 73 = .ok (.iload_n 3, 1) := by decide +kernel
theorem dMod_result_74 : decode bMod_result 74 = .ok (.ifCond .eq 12, 3) := by decide +kernel
theorem dMod_result_77 : decode bMod_result 77 = .ok (.aload_n 0, 1) := by decide +kernel
theorem dMod_result_78 : decode bMod_result 78 = .ok (.getfield 62, 3) := by decide +kernel
theorem dMod_result_81 : decode bMod_result 81 = .ok (.iload_n 1, 1) := by decide +kernel
theorem dMod_result_82 : decode bMod_result 82 = .ok (.iaload, 1) := by decide +kernel
theorem dMod_result_83 : decode bMod_result 83 = .ok (.goto 9, 3) := by decide +kernel
theorem dMod_result_86 : decode bMod_result 86 = .ok (.aload_n 0, 1) := by decide +kernel
theorem dMod_result_87 : decode bMod_result 87 = .ok (.getfield 56, 3) := by decide +kernel
theorem dMod_result_90 : decode bMod_result 90 = .ok (.iload_n 1, 1) := by decide +kernel
theorem dMod_result_91 : decode bMod_result 91 = .ok (.iaload, 1) := by decide +kernel
theorem dMod_result_92 : decode bMod_result 92 = .ok (.istore 5, 2) := by decide +kernel
theorem dMod_result_94 : decode bMod_result 94 = .ok (.iload_n 3, 1) := by decide +kernel
theorem dMod_result_95 : decode bMod_result 95 = .ok (.ifCond .eq 12, 3) := by decide +kernel
theorem dMod_result_98 : decode bMod_result 98 = .ok (.aload_n 0, 1) := by decide +kernel
theorem dMod_result_99 : decode bMod_result 99 = .ok (.getfield 65, 3) := by decide +kernel
theorem dMod_result_102 : decode bMod_result 102 = .ok (.iload_n 1, 1) := by decide +kernel
theorem dMod_result_103 : decode bMod_result 103 = .ok (.iaload, 1) := by decide +kernel
theorem dMod_result_104 : decode bMod_result 104 = .ok (.goto 9, 3) := by decide +kernel
theorem dMod_result_107 : decode bMod_result 107 = .ok (.aload_n 0, 1) := by decide +kernel
theorem dMod_result_108 : decode bMod_result 108 = .ok (.getfield 59, 3) := by decide +kernel
theorem dMod_result_111 : decode bMod_result 111 = .ok (.iload_n 1, 1) := by decide +kernel
theorem dMod_result_112 : decode bMod_result 112 = .ok (.iaload, 1) := by decide +kernel
theorem dMod_result_113 : decode bMod_result 113 = .ok (.iconst 3, 1) := by decide +kernel
theorem dMod_result_114 : decode bMod_result 114 = .ok (.iload 5, 2) := by decide +kernel
theorem dMod_result_116 : decode bMod_result 116 = .ok (.iconst 1, 1) := by decide +kernel
theorem dMod_result_117 : decode bMod_result 117 = .ok (.isub, 1) := by decide +kernel
theorem dMod_result_118 : decode bMod_result 118 = .ok (.iload_n 2, 1) := by decide +kernel
theorem dMod_result_119 : decode bMod_result 119 = .ok (.isub, 1) := by decide +kernel
theorem dMod_result_120 : decode bMod_result 120 = .ok (.imul, 1) := by decide +kernel
theorem dMod_result_121 : decode bMod_result 121 = .ok (.ishr, 1) := by decide +kernel
theorem dMod_result_122 : decode bMod_result 122 = .ok (.bipush 7, 2) := by decide +kernel
theorem dMod_result_124 : decode bMod_result 124 = .ok (.iand, 1) := by decide +kernel
theorem dMod_result_125 : decode bMod_result 125 = .ok (.ireturn, 1) := by decide +kernel
theorem dMod_sample_0 : decode bMod_sample 0 = .ok (.aload_n 0, 1) := by decide +kernel
theorem dMod_sample_1 : decode bMod_sample 1 = .ok (.aload_n 0, 1) := by decide +kernel
theorem dMod_sample_2 : decode bMod_sample 2 = .ok (.getfield 198, 3) := by decide +kernel
theorem dMod_sample_5 : decode bMod_sample 5 = .ok (.bipush 8, 2) := by decide +kernel
theorem dMod_sample_7 : decode bMod_sample 7 = .ok (.if_icmp .ne 7, 3) := by decide +kernel
theorem dMod_sample_10 : decode bMod_sample 10 = .ok (.iconst 1, 1) := by decide +kernel
theorem dMod_sample_11 : decode bMod_sample 11 = .ok (.goto 4, 3) := by decide +kernel
theorem dMod_sample_14 : decode bMod_sample 14 = .ok (.iconst 0, 1) := by decide +kernel
theorem dMod_sample_15 : decode bMod_sample 15 = .ok (.putfield 107, 3) := by decide +kernel
theorem dMod_sample_18 : decode bMod_sample 18 = .ok (.aload_n 0, 1) := by decide +kernel
theorem dMod_sample_19 : decode bMod_sample 19 = .ok (.getfield 107, 3) := by decide +kernel
theorem dMod_sample_22 : decode bMod_sample 22 = .ok (.ifCond .eq 5, 3) := by decide +kernel
theorem dMod_sample_25 : decode bMod_sample 25 = .ok (.iconst 0, 1) := by decide +kernel
theorem dMod_sample_26 : decode bMod_sample 26 = .ok (.ireturn, 1) := by decide +kernel
theorem dMod_sample_27 : decode bMod_sample 27 = .ok (.aload_n 0, 1) := by decide +kernel
theorem dMod_sample_28 : decode bMod_sample 28 = .ok (.getfield 80, 3) := by decide +kernel
theorem dMod_sample_31 : decode bMod_sample 31 = .ok (.iconst 2, 1) := by decide +kernel
theorem dMod_sample_32 : decode bMod_sample 32 = .ok (.aload_n 0, 1) := by decide +kernel
theorem dMod_sample_33 : decode bMod_sample 33 = .ok (.getfield 198, 3) := by decide +kernel
theorem dMod_sample_36 : decode bMod_sample 36 = .ok (.imul, 1) := by decide +kernel
theorem dMod_sample_37 : decode bMod_sample 37 = .ok (.aload_n 0, 1) := by decide +kernel
theorem dMod_sample_38 : decode bMod_sample 38 = .ok (.getfield 50, 3) := by decide +kernel
theorem dMod_sample_41 : decode bMod_sample 41 = .ok (.iconst 0, 1) := by decide +kernel
theorem dMod_sample_42 : decode bMod_sample 42 = .ok (.iaload, 1) := by decide +kernel
theorem dMod_sample_43 : decode bMod_sample 43 = .ok (.iastore, 1) := by decide +kernel
theorem dMod_sample_44 : decode bMod_sample 44 = .ok (.aload_n 0, 1) := by decide +kernel
theorem dMod_sample_45 : decode bMod_sample 45 = .ok (.getfield 80, 3) := by decide +kernel
theorem dMod_sample_48 : decode bMod_sample 48 = .ok (.iconst 2, 1) := by decide +kernel
theorem dMod_sample_49 : decode bMod_sample 49 = .ok (.aload_n 0, 1) := by decide +kernel
theorem dMod_sample_50 : decode bMod_sample 50 = .ok (.getfield 198, 3) := by decide +kernel
theorem dMod_sample_53 : decode bMod_sample 53 = .ok (.imul, 1) := by decide +kernel
theorem dMod_sample_54 : decode bMod_sample 54 = .ok (.iconst 1, 1) := by decide +kernel
theorem dMod_sample_55 : decode bMod_sample 55 = .ok (.iadd, 1) := by decide +kernel
theorem dMod_sample_56 : decode bMod_sample 56 = .ok (.aload_n 0, 1) := by decide +kernel
theorem dMod_sample_57 : decode bMod_sample 57 = .ok (.getfield 50, 3) := by decide +kernel
theorem dMod_sample_60 : decode bMod_sample 60 = .ok (.iconst 1, 1) := by decide +kernel
theorem dMod_sample_61 : decode bMod_sample 61 = .ok (.iaload, 1) := by decide +kernel
theorem dMod_sample_62 : decode bMod_sample 62 = .ok (.iastore, 1) := by decide +kernel
theorem dMod_sample_63 : decode bMod_sample 63 = .ok (.iconst 0, 1) := by decide +kernel
theorem dMod_sample_64 : decode bMod_sample 64 = .ok (.istore_n 1, 1) := by decide +kernel
theorem dMod_sample_65 : decode bMod_sample 65 = .ok (.iload_n 1, 1) := by decide +kernel
theorem dMod_sample_66 : decode bMod_sample 66 = .ok (.bipush 10, 2) := by decide +kernel
theorem dMod_sample_68 : decode bMod_sample 68 = .ok (.if_icmp .ge 29, 3) := by decide +kernel
theorem dMod_sample_71 : decode bMod_sample 71 = .ok (.aload_n 0, 1) := by decide +kernel
theorem dMod_sample_72 : decode bMod_sample 72 = .ok (.getfield 83, 3) := by decide +kernel
theorem dMod_sample_75 : decode bMod_sample 75 = .ok (.bipush 10, 2) := by decide +kernel
theorem dMod_sample_77 : decode bMod_sample 77 = .ok (.aload_n 0, 1) := by decide +kernel
theorem dMod_sample_78 : decode bMod_sample 78 = .ok (.getfield 198, 3) := by decide +kernel
theorem dMod_sample_81 : decode bMod_sample 81 = .ok (.imul, 1) := by decide +kernel
theorem dMod_sample_82 : decode bMod_sample 82 = .ok (.iload_n 1, 1) := by decide +kernel
theorem dMod_sample_83 : decode bMod_sample 83 = .ok (.iadd, 1) := by decide +kernel
theorem dMod_sample_84 : decode bMod_sample 84 = .ok (.aload_n 0, 1) := by decide +kernel
theorem dMod_sample_85 : decode bMod_sample 85 = .ok (.getfield 53, 3) := by decide +kernel
theorem dMod_sample_88 : decode bMod_sample 88 = .ok (.iload_n 1, 1) := by decide +kernel
theorem dMod_sample_89 : decode bMod_sample 89 = .ok (.iaload, 1) := by decide +kernel
theorem dMod_sample_90 : decode bMod_sample 90 = .ok (.iastore, 1) := by decide +kernel
theorem dMod_sample_91 : decode bMod_sample 91 = .ok (.iinc 1 1, 3) := by decide +kernel
theorem dMod_sample_94 : decode bMod_sample 94 = .ok (.goto (-29), 3) := by decide +kernel
theorem dMod_sample_97 : decode bMod_sample 97 = .ok (.aload_n 0, 1) := by decide +kernel
theorem dMod_sample_98 : decode bMod_sample 98 = .ok (.dup, 1) := by decide +kernel
theorem dMod_sample_99 : decode bMod_sample 99 = .ok (.getfield 198, 3) := by decide +kernel
theorem dMod_sample_102 : decode bMod_sample 102 = .ok (.iconst 1, 1) := by decide +kernel
theorem dMod_sample_103 : decode bMod_sample 103 = .ok (.iadd, 1) := by decide +kernel
theorem dMod_sample_104 : decode bMod_sample 104 = .ok (.putfield 198, 3) := by decide +kernel
theorem dMod_sample_107 : decode bMod_sample 107 = .ok (.aload_n 0, 1) := by decide +kernel
theorem dMod_sample_108 : decode bMod_sample 108 = .ok (.getfield 198, 3) := by decide +kernel
theorem dMod_sample_111 : decode bMod_sample 111 = .ok (.iconst 1, 1) := by decide +kernel
theorem dMod_sample_112 : decode bMod_sample 112 = .ok (.isub, 1) := by decide +kernel
theorem dMod_sample_113 : decode bMod_sample 113 = .ok (.ireturn, 1) := by decide +kernel
theorem dMod_check_0 : decode bMod_check 0 = .ok (.aload_n 0, 1) := by decide +kernel
theorem dMod_check_1 : decode bMod_check 1 = .ok (.iconst 0, 1) := by decide +kernel
theorem dMod_check_2 : decode bMod_check 2 = .ok (.putfield 107, 3) := by decide +kernel
theorem dMod_check_5 : decode bMod_check 5 = .ok (.iconst 0, 1) := by decide +kernel
theorem dMod_check_6 : decode bMod_check 6 = .ok (.istore_n 1, 1) := by decide +kernel
theorem dMod_check_7 : decode bMod_check 7 = .ok (.iload_n 1, 1) := by decide +kernel
theorem dMod_check_8 : decode bMod_check 8 = .ok (.aload_n 0, 1) := by decide +kernel
theorem dMod_check_9 : decode bMod_check 9 = .ok (.getfield 198, 3) := by decide +kernel
theorem dMod_check_12 : decode bMod_check 12 = .ok (.if_icmp .ge 54, 3) := by decide +kernel
theorem dMod_check_15 : decode bMod_check 15 = .ok (.aload_n 0, 1) := by decide +kernel
theorem dMod_check_16 : decode bMod_check 16 = .ok (.aload_n 0, 1) := by decide +kernel
theorem dMod_check_17 : decode bMod_check 17 = .ok (.getfield 83, 3) := by decide +kernel
theorem dMod_check_20 : decode bMod_check 20 = .ok (.bipush 10, 2) := by decide +kernel
theorem dMod_check_22 : decode bMod_check 22 = .ok (.iload_n 1, 1) := by decide +kernel
theorem dMod_check_23 : decode bMod_check 23 = .ok (.imul, 1) := by decide +kernel
theorem dMod_check_24 : decode bMod_check 24 = .ok (.aload_n 0, 1) := by decide +kernel
theorem dMod_check_25 : decode bMod_check 25 = .ok (.getfield 80, 3) := by decide +kernel
theorem dMod_check_28 : decode bMod_check 28 = .ok (.iconst 2, 1) := by decide +kernel
theorem dMod_check_29 : decode bMod_check 29 = .ok (.iload_n 1, 1) := by decide +kernel
theorem dMod_check_30 : decode bMod_check 30 = .ok (.imul, 1) := by decide +kernel
theorem dMod_check_31 : decode bMod_check 31 = .ok (.iaload, 1) := by decide +kernel
theorem dMod_check_32 : decode bMod_check 32 = .ok (.bipush 10, 2) := by decide +kernel
theorem dMod_check_34 : decode bMod_check 34 = .ok (.iload_n 1, 1) := by decide +kernel
theorem dMod_check_35 : decode bMod_check 35 = .ok (.imul, 1) := by decide +kernel
theorem dMod_check_36 : decode bMod_check 36 = .ok (.iconst 5, 1) := by decide +kernel
theorem dMod_check_37 : decode bMod_check 37 = .ok (.iadd, 1) := by decide +kernel
theorem dMod_check_38 : decode bMod_check 38 = .ok (.aload_n 0, 1) := by decide +kernel
theorem dMod_check_39 : decode bMod_check 39 = .ok (.getfield 80, 3) := by decide +kernel
theorem dMod_check_42 : decode bMod_check 42 = .ok (.iconst 2, 1) := by decide +kernel
theorem dMod_check_43 : decode bMod_check 43 = .ok (.iload_n 1, 1) := by decide +kernel
theorem dMod_check_44 : decode bMod_check 44 = .ok (.imul, 1) := by decide +kernel
theorem dMod_check_45 : decode bMod_check 45 = .ok (.iconst 1, 1) := by decide +kernel
theorem dMod_check_46 : decode bMod_check 46 = .ok (.iadd, 1) := by decide +kernel
theorem dMod_check_47 : decode bMod_check 47 = .ok (.iaload, 1) := by decide +kernel
theorem dMod_check_48 : decode bMod_check 48 = .ok (.invokevirtual 174, 3) := by decide +kernel
theorem dMod_check_51 : decode bMod_check 51 = .ok (.aload_n 0, 1) := by decide +kernel
theorem dMod_check_52 : decode bMod_check 52 = .ok (.invokevirtual 178, 3) := by decide +kernel
theorem dMod_check_55 : decode bMod_check 55 = .ok (.ifCond .ne 5, 3) := by decide +kernel
theorem dMod_check_58 : decode bMod_check 58 = .ok (.iload_n 1, 1) := by decide +kernel
theorem dMod_check_59 : decode bMod_check 59 = .ok (.ireturn, 1) := by decide +kernel
theorem dMod_check_60 : decode bMod_check 60 = .ok (.iinc 1 1, 3) := by decide +kernel
theorem dMod_check_63 : decode bMod_check 63 = .ok (.goto (-56), 3) := by decide +kernel
theorem dMod_check_66 : decode bMod_check 66 = .ok (.iconst (-1), 1) := by decide +kernel
theorem dMod_check_67 : decode bMod_check 67 = .ok (.ireturn, 1) := by decide +kernel
