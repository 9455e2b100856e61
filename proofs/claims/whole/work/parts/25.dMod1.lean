theorem dMod_init_0 : decode bMod_init 0 = .ok (.aload_n 0, 1) := by decide +kernel
theorem dMod_init_1 : decode bMod_init 1 = .ok (.invokespecial 1, 3) := by decide +kernel
theorem dMod_init_4 : decode bMod_init 4 = .ok (.aload_n 0, 1) := by decide +kernel
theorem dMod_init_5 : decode bMod_init 5 = .ok (.bipush 10, 2) := by decide +kernel
theorem dMod_init_7 : decode bMod_init 7 = .ok (.newarray .int, 2) := by decide +kernel
theorem dMod_init_9 : decode bMod_init 9 = .ok (.putfield 7, 3) := by decide +kernel
theorem dMod_init_12 : decode bMod_init 12 = .ok (.aload_n 0, 1) := by decide +kernel
theorem dMod_init_13 : decode bMod_init 13 = .ok (.bipush 10, 2) := by decide +kernel
theorem dMod_init_15 : decode bMod_init 15 = .ok (.newarray .int, 2) := by decide +kernel
theorem dMod_init_17 : decode bMod_init 17 = .ok (.putfield 13, 3) := by decide +kernel
theorem dMod_init_20 : decode bMod_init 20 = .ok (.aload_n 0, 1) := by decide +kernel
theorem dMod_init_21 : decode bMod_init 21 = .ok (.iconst 4, 1) := by decide +kernel
theorem dMod_init_22 : decode bMod_init 22 = .ok (.newarray .int, 2) := by decide +kernel
theorem dMod_init_24 : decode bMod_init 24 = .ok (.putfield 16, 3) := by decide +kernel
theorem dMod_init_27 : decode bMod_init 27 = .ok (.aload_n 0, 1) := by decide +kernel
theorem dMod_init_28 : decode bMod_init 28 = .ok (.iconst 4, 1) := by decide +kernel
theorem dMod_init_29 : decode bMod_init 29 = .ok (.newarray .int, 2) := by decide +kernel
theorem dMod_init_31 : decode bMod_init 31 = .ok (.putfield 19, 3) := by decide +kernel
theorem dMod_init_34 : decode bMod_init 34 = .ok (.aload_n 0, 1) := by decide +kernel
theorem dMod_init_35 : decode bMod_init 35 = .ok (.iconst 4, 1) := by decide +kernel
theorem dMod_init_36 : decode bMod_init 36 = .ok (.newarray .int, 2) := by decide +kernel
theorem dMod_init_38 : decode bMod_init 38 = .ok (.putfield 22, 3) := by decide +kernel
theorem dMod_init_41 : decode bMod_init 41 = .ok (.aload_n 0, 1) := by decide +kernel
theorem dMod_init_42 : decode bMod_init 42 = .ok (.bipush 16, 2) := by decide +kernel
theorem dMod_init_44 : decode bMod_init 44 = .ok (.newarray .boolean, 2) := by decide +kernel
theorem dMod_init_46 : decode bMod_init 46 = .ok (.putfield 25, 3) := by decide +kernel
theorem dMod_init_49 : decode bMod_init 49 = .ok (.aload_n 0, 1) := by decide +kernel
theorem dMod_init_50 : decode bMod_init 50 = .ok (.bipush 16, 2) := by decide +kernel
theorem dMod_init_52 : decode bMod_init 52 = .ok (.newarray .int, 2) := by decide +kernel
theorem dMod_init_54 : decode bMod_init 54 = .ok (.putfield 29, 3) := by decide +kernel
theorem dMod_init_57 : decode bMod_init 57 = .ok (.aload_n 0, 1) := by decide +kernel
theorem dMod_init_58 : decode bMod_init 58 = .ok (.bipush 32, 2) := by decide +kernel
theorem dMod_init_60 : decode bMod_init 60 = .ok (.newarray .int, 2) := by decide +kernel
theorem dMod_init_62 : decode bMod_init 62 = .ok (.putfield 32, 3) := by decide +kernel
theorem dMod_init_65 : decode bMod_init 65 = .ok (.aload_n 0, 1) := by decide +kernel
theorem dMod_init_66 : decode bMod_init 66 = .ok (.bipush 32, 2) := by decide +kernel
theorem dMod_init_68 : decode bMod_init 68 = .ok (.newarray .boolean, 2) := by decide +kernel
theorem dMod_init_70 : decode bMod_init 70 = .ok (.putfield 35, 3) := by decide +kernel
theorem dMod_init_73 : decode bMod_init 73 = .ok (.aload_n 0, 1) := by decide +kernel
theorem dMod_init_74 : decode bMod_init 74 = .ok (.bipush 8, 2) := by decide +kernel
theorem dMod_init_76 : decode bMod_init 76 = .ok (.newarray .int, 2) := by decide +kernel
theorem dMod_init_78 : decode bMod_init 78 = .ok (.putfield 38, 3) := by decide +kernel
theorem dMod_init_81 : decode bMod_init 81 = .ok (.aload_n 0, 1) := by decide +kernel
theorem dMod_init_82 : decode bMod_init 82 = .ok (.bipush 8, 2) := by decide +kernel
theorem dMod_init_84 : decode bMod_init 84 = .ok (.newarray .int, 2) := by decide +kernel
theorem dMod_init_86 : decode bMod_init 86 = .ok (.putfield 41, 3) := by decide +kernel
theorem dMod_init_89 : decode bMod_init 89 = .ok (.aload_n 0, 1) := by decide +kernel
theorem dMod_init_90 : decode bMod_init 90 = .ok (.bipush 8, 2) := by decide +kernel
theorem dMod_init_92 : decode bMod_init 92 = .ok (.newarray .int, 2) := by decide +kernel
theorem dMod_init_94 : decode bMod_init 94 = .ok (.putfield 44, 3) := by decide +kernel
theorem dMod_init_97 : decode bMod_init 97 = .ok (.aload_n 0, 1) := by decide +kernel
theorem dMod_init_98 : decode bMod_init 98 = .ok (.bipush 24, 2) := by decide +kernel
theorem dMod_init_100 : decode bMod_init 100 = .ok (.newarray .int, 2) := by decide +kernel
theorem dMod_init_102 : decode bMod_init 102 = .ok (.putfield 47, 3) := by decide +kernel
theorem dMod_init_105 : decode bMod_init 105 = .ok (.aload_n 0, 1) := by decide +kernel
theorem dMod_init_106 : decode bMod_init 106 = .ok (.iconst 2, 1) := by decide +kernel
theorem dMod_init_107 : decode bMod_init 107 = .ok (.newarray .int, 2) := by decide +kernel
theorem dMod_init_109 : decode bMod_init 109 = .ok (.putfield 50, 3) := by decide +kernel
theorem dMod_init_112 : decode bMod_init 112 = .ok (.aload_n 0, 1) := by decide +kernel
theorem dMod_init_113 : decode bMod_init 113 = .ok (.bipush 10, 2) := by decide +kernel
theorem dMod_init_115 : decode bMod_init 115 = .ok (.newarray .int, 2) := by decide +kernel
theorem dMod_init_117 : decode bMod_init 117 = .ok (.putfield 53, 3) := by decide +kernel
theorem dMod_init_120 : decode bMod_init 120 = .ok (.aload_n 0, 1) := by decide +kernel
theorem dMod_init_121 : decode bMod_init 121 = .ok (.bipush 60, 2) := by decide +kernel
theorem dMod_init_123 : decode bMod_init 123 = .ok (.newarray .int, 2) := by decide +kernel
theorem dMod_init_125 : decode bMod_init 125 = .ok (.putfield 56, 3) := by decide +kernel
theorem dMod_init_128 : decode bMod_init 128 = .ok (.aload_n 0, 1) := by decide +kernel
theorem dMod_init_129 : decode bMod_init 129 = .ok (.bipush 60, 2) := by decide +kernel
theorem dMod_init_131 : decode bMod_init 131 = .ok (.newarray .int, 2) := by decide +kernel
theorem dMod_init_133 : decode bMod_init 133 = .ok (.putfield 59, 3) := by decide +kernel
theorem dMod_init_136 : decode bMod_init 136 = .ok (.aload_n 0, 1) := by decide +kernel
theorem dMod_init_137 : decode bMod_init 137 = .ok (.bipush 60, 2) := by decide +kernel
theorem dMod_init_139 : decode bMod_init 139 = .ok (.newarray .int, 2) := by decide +kernel
theorem dMod_init_141 : decode bMod_init 141 = .ok (.putfield 62, 3) := by decide +kernel
theorem dMod_init_144 : decode bMod_init 144 = .ok (.aload_n 0, 1) := by decide +kernel
theorem dMod_init_145 : decode bMod_init 145 = .ok (.bipush 60, 2) := by decide +kernel
theorem dMod_init_147 : decode bMod_init 147 = .ok (.newarray .int, 2) := by decide +kernel
theorem dMod_init_149 : decode bMod_init 149 = .ok (.putfield 65, 3) := by decide +kernel
theorem dMod_init_152 : decode bMod_init 152 = .ok (.aload_n 0, 1) := by decide +kernel
theorem dMod_init_153 : decode bMod_init 153 = .ok (.bipush 61, 2) := by decide +kernel
theorem dMod_init_155 : decode bMod_init 155 = .ok (.newarray .int, 2) := by decide +kernel
theorem dMod_init_157 : decode bMod_init 157 = .ok (.putfield 68, 3) := by decide +kernel
theorem dMod_init_160 : decode bMod_init 160 = .ok (.aload_n 0, 1) := by decide +kernel
theorem dMod_init_161 : decode bMod_init 161 = .ok (.bipush 61, 2) := by decide +kernel
theorem dMod_init_163 : decode bMod_init 163 = .ok (.newarray .int, 2) := by decide +kernel
theorem dMod_init_165 : decode bMod_init 165 = .ok (.putfield 71, 3) := by decide +kernel
theorem dMod_init_168 : decode bMod_init 168 = .ok (.aload_n 0, 1) := by decide +kernel
theorem dMod_init_169 : decode bMod_init 169 = .ok (.bipush 61, 2) := by decide +kernel
theorem dMod_init_171 : decode bMod_init 171 = .ok (.newarray .int, 2) := by decide +kernel
theorem dMod_init_173 : decode bMod_init 173 = .ok (.putfield 74, 3) := by decide +kernel
theorem dMod_init_176 : decode bMod_init 176 = .ok (.aload_n 0, 1) := by decide +kernel
theorem dMod_init_177 : decode bMod_init 177 = .ok (.bipush 61, 2) := by decide +kernel
theorem dMod_init_179 : decode bMod_init 179 = .ok (.newarray .int, 2) := by decide +kernel
theorem dMod_init_181 : decode bMod_init 181 = .ok (.putfield 77, 3) := by decide +kernel
theorem dMod_init_184 : decode bMod_init 184 = .ok (.aload_n 0, 1) := by decide +kernel
theorem dMod_init_185 : decode bMod_init 185 = .ok (.bipush 16, 2) := by decide +kernel
theorem dMod_init_187 : decode bMod_init 187 = .ok (.newarray .int, 2) := by decide +kernel
theorem dMod_init_189 : decode bMod_init 189 = .ok (.putfield 80, 3) := by decide +kernel
theorem dMod_init_192 : decode bMod_init 192 = .ok (.aload_n 0, 1) := by decide +kernel
theorem dMod_init_193 : decode bMod_init 193 = .ok (.bipush 80, 2) := by decide +kernel
theorem dMod_init_195 : decode bMod_init 195 = .ok (.newarray .int, 2) := by decide +kernel
theorem dMod_init_197 : decode bMod_init 197 = .ok (.putfield 83, 3) := by decide +kernel
theorem dMod_init_200 : decode bMod_init 200 = .ok (.aload_n 0, 1) := by decide +kernel
theorem dMod_init_201 : decode bMod_init 201 = .ok (.iconst 4, 1) := by decide +kernel
theorem dMod_init_202 : decode bMod_init 202 = .ok (.newarray .int, 2) := by decide +kernel
theorem dMod_init_204 : decode bMod_init 204 = .ok (.putfield 86, 3) := by decide +kernel
theorem dMod_init_207 : decode bMod_init 207 = .ok (.aload_n 0, 1) := by decide +kernel
theorem dMod_init_208 : decode bMod_init 208 = .ok (.iconst 5, 1) := by decide +kernel
theorem dMod_init_209 : decode bMod_init 209 = .ok (.newarray .int, 2) := by decide +kernel
theorem dMod_init_211 : decode bMod_init 211 = .ok (.putfield 89, 3) := by decide +kernel
theorem dMod_init_214 : decode bMod_init 214 = .ok (.aload_n 0, 1) := by decide +kernel
theorem dMod_init_215 : decode bMod_init 215 = .ok (.bipush 12, 2) := by decide +kernel
theorem dMod_init_217 : decode bMod_init 217 = .ok (.newarray .int, 2) := by decide +kernel
theorem dMod_init_219 : decode bMod_init 219 = .ok (.putfield 92, 3) := by decide +kernel
theorem dMod_init_222 : decode bMod_init 222 = .ok (.aload_n 0, 1) := by decide +kernel
theorem dMod_init_223 : decode bMod_init 223 = .ok (.bipush 12, 2) := by decide +kernel
theorem dMod_init_225 : decode bMod_init 225 = .ok (.newarray .int, 2) := by decide +kernel
theorem dMod_init_227 : decode bMod_init 227 = .ok (.putfield 95, 3) := by decide +kernel
theorem dMod_init_230 : decode bMod_init 230 = .ok (.aload_n 0, 1) := by decide +kernel
theorem dMod_init_231 : decode bMod_init 231 = .ok (.bipush 12, 2) := by decide +kernel
theorem dMod_init_233 : decode bMod_init 233 = .ok (.newarray .int, 2) := by decide +kernel
theorem dMod_init_235 : decode bMod_init 235 = .ok (.putfield 98, 3) := by decide +kernel
theorem dMod_init_238 : decode bMod_init 238 = .ok (.aload_n 0, 1) := by decide +kernel
theorem dMod_init_239 : decode bMod_init 239 = .ok (.bipush 12, 2) := by decide +kernel
theorem dMod_init_241 : decode bMod_init 241 = .ok (.newarray .int, 2) := by decide +kernel
theorem dMod_init_243 : decode bMod_init 243 = .ok (.putfield 101, 3) := by decide +kernel
theorem dMod_init_246 : decode bMod_init 246 = .ok (.aload_n 0, 1) := by decide +kernel
theorem dMod_init_247 : decode bMod_init 247 = .ok (.iconst 4, 1) := by decide +kernel
theorem dMod_init_248 : decode bMod_init 248 = .ok (.newarray .int, 2) := by decide +kernel
theorem dMod_init_250 : decode bMod_init 250 = .ok (.putfield 104, 3) := by decide +kernel
theorem dMod_init_253 : decode bMod_init 253 = .ok (.return_, 1) := by decide +kernel
theorem dMod_thrown_0 : decode bMod_thrown 0 = .ok (.aload_n 0, 1) := by decide +kernel
theorem dMod_thrown_1 : decode bMod_thrown 1 = .ok (.getfield 107, 3) := by decide +kernel
theorem dMod_thrown_4 : decode bMod_thrown 4 = .ok (.ireturn, 1) := by decide +kernel
theorem dMod_noSign_0 : decode bMod_noSign 0 = .ok (.iload_n 1, 1) := by decide +kernel
theorem dMod_noSign_1 : decode bMod_noSign 1 = .ok (.iload_n 2, 1) := by decide +kernel
theorem dMod_noSign_2 : decode bMod_noSign 2 = .ok (.if_icmp .lt 9, 3) := by decide +kernel
theorem dMod_noSign_5 : decode bMod_noSign 5 = .ok (.iload_n 1, 1) := by decide +kernel
theorem dMod_noSign_6 : decode bMod_noSign 6 = .ok (.bipush 7, 2) := by decide +kernel
theorem dMod_noSign_8 : decode bMod_noSign 8 = .ok (.if_icmp .le 7, 3) := by decide +kernel
theorem dMod_noSign_11 : decode bMod_noSign 11 = .ok (.iconst 1, 1) := by decide +kernel
theorem dMod_noSign_12 : decode bMod_noSign 12 = .ok (.goto 4, 3) := by decide +kernel
theorem dMod_noSign_15 : decode bMod_noSign 15 = .ok (.iconst 0, 1) := by decide +kernel
theorem dMod_noSign_16 : decode bMod_noSign 16 = .ok (.ireturn, 1) := by decide +kernel
theorem dMod_pair_0 : decode bMod_pair 0 = .ok (.aload_n 0, 1) := by decide +kernel
theorem dMod_pair_1 : decode bMod_pair 1 = .ok (.iload_n 1, 1) := by decide +kernel
theorem dMod_pair_2 : decode bMod_pair 2 = .ok (.iconst 0, 1) := by decide +kernel
theorem dMod_pair_3 : decode bMod_pair 3 = .ok (.invokevirtual 111, 3) := by decide +kernel
theorem dMod_pair_6 : decode bMod_pair 6 = .ok (.ifCond .ne 20, 3) := by decide +kernel
theorem dMod_pair_9 : decode bMod_pair 9 = .ok (.aload_n 0, 1) := by decide +kernel
theorem dMod_pair_10 : decode bMod_pair 10 = .ok (.iload_n 2, 1) := by decide +kernel
theorem dMod_pair_11 : decode bMod_pair 11 = .ok (.iconst 0, 1) := by decide +kernel
theorem dMod_pair_12 : decode bMod_pair 12 = .ok (.invokevirtual 111, 3) := by decide +kernel
theorem dMod_pair_15 : decode bMod_pair 15 = .ok (.ifCond .ne 11, 3) := by decide +kernel
theorem dMod_pair_18 : decode bMod_pair 18 = .ok (.iload_n 1, 1) := by decide +kernel
theorem dMod_pair_19 : decode bMod_pair 19 = .ok (.ifCond .ne 11, 3) := by decide +kernel
theorem dMod_pair_22 : decode bMod_pair 22 = .ok (.iload_n 2, 1) := by decide +kernel
theorem dMod_pair_23 : decode bMod_pair 23 = .ok (.ifCond .ne 7, 3) := by decide +kernel
theorem dMod_pair_26 : decode bMod_pair 26 = .ok (.iconst 1, 1) := by decide +kernel
theorem dMod_pair_27 : decode bMod_pair 27 = .ok (.goto 4, 3) := by decide +kernel
theorem dMod_pair_30 : decode bMod_pair 30 = .ok (.iconst 0, 1) := by decide +kernel
theorem dMod_pair_31 : decode bMod_pair 31 = .ok (.istore_n 3, 1) := by decide +kernel
theorem dMod_pair_32 : decode bMod_pair 32 = .ok (.iconst 0, 1) := by decide +kernel
theorem dMod_pair_33 : decode bMod_pair 33 = .ok (.istore 4, 2) := by decide +kernel
theorem dMod_pair_35 : decode bMod_pair 35 = .ok (.iconst 0, 1) := by decide +kernel
theorem dMod_pair_36 : decode bMod_pair 36 = .ok (.istore 5, 2) := by decide +kernel
theorem dMod_pair_38 : decode bMod_pair 38 = .ok (.iload 5, 2) := by decide +kernel
theorem dMod_pair_40 : decode bMod_pair 40 = .ok (.aload_n 0, 1) := by decide +kernel
theorem dMod_pair_41 : decode bMod_pair 41 = .ok (.getfield 115, 3) := by decide +kernel
theorem dMod_pair_44 : decode bMod_pair 44 = .ok (.if_icmp .ge 62, 3) := by decide +kernel
theorem dMod_pair_47 : decode bMod_pair 47 = .ok (.iload_n 3, 1) := by decide +kernel
theorem dMod_pair_48 : decode bMod_pair 48 = .ok (.ifCond .ne 25, 3) := by decide +kernel
theorem dMod_pair_51 : decode bMod_pair 51 = .ok (.aload_n 0, 1) := by decide +kernel
theorem dMod_pair_52 : decode bMod_pair 52 = .ok (.getfield 7, 3) := by decide +kernel
theorem dMod_pair_55 : decode bMod_pair 55 = .ok (.iload 5, 2) := by decide +kernel
theorem dMod_pair_57 : decode bMod_pair 57 = .ok (.iaload, 1) := by decide +kernel
theorem dMod_pair_58 : decode bMod_pair 58 = .ok (.iload_n 1, 1) := by decide +kernel
theorem dMod_pair_59 : decode bMod_pair 59 = .ok (.if_icmp .ne 18, 3) := by decide +kernel
theorem dMod_pair_62 : decode bMod_pair 62 = .ok (.aload_n 0, 1) := by decide +kernel
theorem dMod_pair_63 : decode bMod_pair 63 = .ok (.getfield 13, 3) := by decide +kernel
theorem dMod_pair_66 : decode bMod_pair 66 = .ok (.iload 5, 2) := by decide +kernel
theorem dMod_pair_68 : decode bMod_pair 68 = .ok (.iaload, 1) := by decide +kernel
theorem dMod_pair_69 : decode bMod_pair 69 = .ok (.iload_n 2, 1) := by decide +kernel
theorem dMod_pair_70 : decode bMod_pair 70 = .ok (.if_icmp .ne 7, 3) := by decide +kernel
theorem dMod_pair_73 : decode bMod_pair 73 = .ok (.iconst 1, 1) := by decide +kernel
theorem dMod_pair_74 : decode bMod_pair 74 = .ok (.goto 4, 3) := by decide +kernel
theorem dMod_pair_77 : decode bMod_pair 77 = .ok (.iconst 0, 1) := by decide +kernel
theorem dMod_pair_78 : decode bMod_pair 78 = .ok (.istore_n 3, 1) := by decide +kernel
theorem dMod_pair_79 : decode bMod_pair 79 = .ok (.iload 4, 2) := by decide +kernel
theorem dMod_pair_81 : decode bMod_pair 81 = .ok (.aload_n 0, 1) := by decide +kernel
theorem dMod_pair_82 : decode bMod_pair 82 = .ok (.getfield 7, 3) := by decide +kernel
theorem dMod_pair_85 : decode bMod_pair 85 = .ok (.iload 5, 2) := by decide +kernel
theorem dMod_pair_87 : decode bMod_pair 87 = .ok (.iaload, 1) := by decide +kernel
theorem dMod_pair_88 : decode bMod_pair 88 = .ok (.iload_n 1, 1) := by decide +kernel
theorem dMod_pair_89 : decode bMod_pair 89 = .ok (.if_icmp .ne 7, 3) := by decide +kernel
theorem dMod_pair_92 : decode bMod_pair 92 = .ok (.iconst 1, 1) := by decide +kernel
theorem dMod_pair_93 : decode bMod_pair 93 = .ok (.goto 4, 3) := by decide +kernel
theorem dMod_pair_96 : decode bMod_pair 96 = .ok (.iconst 0, 1) := by decide +kernel
theorem dMod_pair_97 : decode bMod_pair 97 = .ok (.iadd, 1) := by decide +kernel
theorem dMod_pair_98 : decode bMod_pair 98 = .ok (.istore 4, 2) := by decide +kernel
theorem dMod_pair_100 : decode bMod_pair 100 = .ok (.iinc 5 1, 3) := by decide +kernel
theorem dMod_pair_103 : decode bMod_pair 103 = .ok (.goto (-65), 3) := by decide +kernel
theorem dMod_pair_106 : decode bMod_pair 106 = .ok (.aload_n 0, 1) := by decide +kernel
theorem dMod_pair_107 : decode bMod_pair 107 = .ok (.iload_n 3, 1) := by decide +kernel
theorem dMod_pair_108 : decode bMod_pair 108 = .ok (.ifCond .eq 7, 3) := by decide +kernel
theorem dMod_pair_111 : decode bMod_pair 111 = .ok (.iconst 1, 1) := by decide +kernel
theorem dMod_pair_112 : decode bMod_pair 112 = .ok (.goto 31, 3) := by decide +kernel
theorem dMod_pair_115 : decode bMod_pair 115 = .ok (.aload_n 0, 1) := by decide +kernel
theorem dMod_pair_116 : decode bMod_pair 116 = .ok (.getfield 115, 3) := by decide +kernel
theorem dMod_pair_119 : decode bMod_pair 119 = .ok (.bipush 10, 2) := by decide +kernel
theorem dMod_pair_121 : decode bMod_pair 121 = .ok (.if_icmp .eq 17, 3) := by decide +kernel
theorem dMod_pair_124 : decode bMod_pair 124 = .ok (.iload 4, 2) := by decide +kernel
theorem dMod_pair_126 : decode bMod_pair 126 = .ok (.iload_n 1, 1) := by decide +kernel
theorem dMod_pair_127 : decode bMod_pair 127 = .ok (.ifCond .ne 7, 3) := by decide +kernel
theorem dMod_pair_130 : decode bMod_pair 130 = .ok (.iconst 2, 1) := by decide +kernel
theorem dMod_pair_131 : decode bMod_pair 131 = .ok (.goto 4, 3) := by decide +kernel
theorem dMod_pair_134 : decode bMod_pair 134 = .ok (.iconst 3, 1) := by decide +kernel
theorem dMod_pair_135 : decode bMod_pair 135 = .ok (.if_icmp .ne 7, 3) := by decide +kernel
theorem dMod_pair_138 : decode bMod_pair 138 = .ok (.iconst 2, 1) := by decide +kernel
theorem dMod_pair_139 : decode bMod_pair 139 = .ok (.goto 4, 3) := by decide +kernel
theorem dMod_pair_142 : decode bMod_pair 142 = .ok (.iconst 0, 1) := by decide +kernel
theorem dMod_pair_143 : decode bMod_pair 143 = .ok (.putfield 107, 3) := by decide +kernel
theorem dMod_pair_146 : decode bMod_pair 146 = .ok (.aload_n 0, 1) := by decide +kernel
theorem dMod_pair_147 : decode bMod_pair 147 = .ok (.getfield 107, 3) := by decide +kernel
theorem dMod_pair_150 : decode bMod_pair 150 = .ok (.ifCond .eq 5, 3) := by decide +kernel
theorem dMod_pair_153 : decode bMod_pair 153 = .ok (.iconst 0, 1) := by decide +kernel
theorem dMod_pair_154 : decode bMod_pair 154 = .ok (.ireturn, 1) := by decide +kernel
theorem dMod_pair_155 : decode bMod_pair 155 = .ok (.aload_n 0, 1) := by decide +kernel
theorem dMod_pair_156 : decode bMod_pair 156 = .ok (.getfield 7, 3) := by decide +kernel
theorem dMod_pair_159 : decode bMod_pair 159 = .ok (.aload_n 0, 1) := by decide +kernel
theorem dMod_pair_160 : decode bMod_pair 160 = .ok (.getfield 115, 3) := by decide +kernel
theorem dMod_pair_163 : decode bMod_pair 163 = .ok (.iload_n 1, 1) := by decide +kernel
theorem dMod_pair_164 : decode bMod_pair 164 = .ok (.iastore, 1) := by decide +kernel
theorem dMod_pair_165 : decode bMod_pair 165 = .ok (.aload_n 0, 1) := by decide +kernel
theorem dMod_pair_166 : decode bMod_pair 166 = .ok (.getfield 13, 3) := by decide +kernel
theorem dMod_pair_169 : decode bMod_pair 169 = .ok (.aload_n 0, 1) := by decide +kernel
theorem dMod_pair_170 : decode bMod_pair 170 = .ok (.getfield 115, 3) := by decide +kernel
theorem dMod_pair_173 : decode bMod_pair 173 = .ok (.iload_n 2, 1) := by decide +kernel
theorem dMod_pair_174 : decode bMod_pair 174 = .ok (.iastore, 1) := by decide +kernel
theorem dMod_pair_175 : decode bMod_pair 175 = .ok (.aload_n 0, 1) := by decide +kernel
theorem dMod_pair_176 : decode bMod_pair 176 = .ok (.dup, 1) := by decide +kernel
theorem dMod_pair_177 : decode bMod_pair 177 = .ok (.getfield 115, 3) := by decide +kernel
theorem dMod_pair_180 : decode bMod_pair 180 = .ok (.iconst 1, 1) := by decide +kernel
theorem dMod_pair_181 : decode bMod_pair 181 = .ok (.iadd, 1) := by decide +kernel
theorem dMod_pair_182 : decode bMod_pair 182 = .ok (.putfield 115, 3) := by decide +kernel
theorem dMod_pair_185 : decode bMod_pair 185 = .ok (.aload_n 0, 1) := by decide +kernel
theorem dMod_pair_186 : decode bMod_pair 186 = .ok (.iconst 0, 1) := by decide +kernel
theorem dMod_pair_187 : decode bMod_pair 187 = .ok (.putfield 118, 3) := by decide +kernel
theorem dMod_pair_190 : decode bMod_pair 190 = .ok (.aload_n 0, 1) := by decide +kernel
theorem dMod_pair_191 : decode bMod_pair 191 = .ok (.getfield 115, 3) := by decide +kernel
theorem dMod_pair_194 : decode bMod_pair 194 = .ok (.iconst 1, 1) := by decide +kernel
theorem dMod_pair_195 : decode bMod_pair 195 = .ok (.isub, 1) := by decide +kernel
theorem dMod_pair_196 : decode bMod_pair 196 = .ok (.ireturn, 1) := by decide +kernel
theorem dMod_rule_0 : decode bMod_rule 0 = .ok (.aload_n 0, 1) := by decide +kernel
theorem dMod_rule_1 : decode bMod_rule 1 = .ok (.iload_n 1, 1) := by decide +kernel
theorem dMod_rule_2 : decode bMod_rule 2 = .ok (.ifCond .lt 20, 3) := by decide +kernel
theorem dMod_rule_5 : decode bMod_rule 5 = .ok (.iload_n 1, 1) := by decide +kernel
theorem dMod_rule_6 : decode bMod_rule 6 = .ok (.iconst 3, 1) := by decide +kernel
theorem dMod_rule_7 : decode bMod_rule 7 = .ok (.if_icmp .gt 15, 3) := by decide +kernel
theorem dMod_rule_10 : decode bMod_rule 10 = .ok (.iload_n 2, 1) := by decide +kernel
theorem dMod_rule_11 : decode bMod_rule 11 = .ok (.ifCond .lt 11, 3) := by decide +kernel
theorem dMod_rule_14 : decode bMod_rule 14 = .ok (.iload_n 2, 1) := by decide +kernel
theorem dMod_rule_15 : decode bMod_rule 15 = .ok (.aload_n 0, 1) := by decide +kernel
theorem dMod_rule_16 : decode bMod_rule 16 = .ok (.getfield 115, 3) := by decide +kernel
theorem dMod_rule_19 : decode bMod_rule 19 = .ok (.if_icmp .lt 7, 3) := by decide +kernel
theorem dMod_rule_22 : decode bMod_rule 22 = .ok (.iconst 1, 1) := by decide +kernel
theorem dMod_rule_23 : decode bMod_rule 23 = .ok (.goto 16, 3) := by decide +kernel
theorem dMod_rule_26 : decode bMod_rule 26 = .ok (.aload_n 0, 1) := by decide +kernel
theorem dMod_rule_27 : decode bMod_rule 27 = .ok (.getfield 121, 3) := by decide +kernel
theorem dMod_rule_30 : decode bMod_rule 30 = .ok (.iconst 4, 1) := by decide +kernel
theorem dMod_rule_31 : decode bMod_rule 31 = .ok (.if_icmp .ne 7, 3) := by decide +kernel
theorem dMod_rule_34 : decode bMod_rule 34 = .ok (.iconst 2, 1) := by decide +kernel
theorem dMod_rule_35 : decode bMod_rule 35 = .ok (.goto 4, 3) := by decide +kernel
theorem dMod_rule_38 : decode bMod_rule 38 = .ok (.iconst 0, 1) := by decide +kernel
theorem dMod_rule_39 : decode bMod_rule 39 = .ok (.putfield 107, 3) := by decide +kernel
theorem dMod_rule_42 : decode bMod_rule 42 = .ok (.aload_n 0, 1) := by decide +kernel
theorem dMod_rule_43 : decode bMod_rule 43 = .ok (.getfield 107, 3) := by decide +kernel
theorem dMod_rule_46 : decode bMod_rule 46 = .ok (.ifCond .eq 5, 3) := by decide +kernel
theorem dMod_rule_49 : decode bMod_rule 49 = .ok (.iconst 0, 1) := by decide +kernel
theorem dMod_rule_50 : decode bMod_rule 50 = .ok (.ireturn, 1) := by decide +kernel
theorem dMod_rule_51 : decode bMod_rule 51 = .ok (.aload_n 0, 1) := by decide +kernel
theorem dMod_rule_52 : decode bMod_rule 52 = .ok (.getfield 16, 3) := by decide +kernel
theorem dMod_rule_55 : decode bMod_rule 55 = .ok (.aload_n 0, 1) := by decide +kernel
theorem dMod_rule_56 : decode bMod_rule 56 = .ok (.getfield 121, 3) := by decide +kernel
theorem dMod_rule_59 : decode bMod_rule 59 = .ok (.iload_n 1, 1) := by decide +kernel
theorem dMod_rule_60 : decode bMod_rule 60 = .ok (.iastore, 1) := by decide +kernel
theorem dMod_rule_61 : decode bMod_rule 61 = .ok (.aload_n 0, 1) := by decide +kernel
theorem dMod_rule_62 : decode bMod_rule 62 = .ok (.getfield 19, 3) := by decide +kernel
theorem dMod_rule_65 : decode bMod_rule 65 = .ok (.aload_n 0, 1) := by decide +kernel
theorem dMod_rule_66 : decode bMod_rule 66 = .ok (.getfield 121, 3) := by decide +kernel
theorem dMod_rule_69 : decode bMod_rule 69 = .ok (.iload_n 2, 1) := by decide +kernel
theorem dMod_rule_70 : decode bMod_rule 70 = .ok (.iastore, 1) := by decide +kernel
theorem dMod_rule_71 : decode bMod_rule 71 = .ok (.aload_n 0, 1) := by decide +kernel
theorem dMod_rule_72 : decode bMod_rule 72 = .ok (.dup, 1) := by decide +kernel
theorem dMod_rule_73 : decode bMod_rule 73 = .ok (.getfield 121, 3) := by decide +kernel
theorem dMod_rule_76 : decode bMod_rule 76 = .ok (.iconst 1, 1) := by decide +kernel
theorem dMod_rule_77 : decode bMod_rule 77 = .ok (.iadd, 1) := by decide +kernel
theorem dMod_rule_78 : decode bMod_rule 78 = .ok (.putfield 121, 3) := by decide +kernel
theorem dMod_rule_81 : decode bMod_rule 81 = .ok (.aload_n 0, 1) := by decide +kernel
theorem dMod_rule_82 : decode bMod_rule 82 = .ok (.iconst 0, 1) := by decide +kernel
theorem dMod_rule_83 : decode bMod_rule 83 = .ok (.putfield 118, 3) := by decide +kernel
theorem dMod_rule_86 : decode bMod_rule 86 = .ok (.aload_n 0, 1) := by decide +kernel
theorem dMod_rule_87 : decode bMod_rule 87 = .ok (.getfield 121, 3) := by decide +kernel
theorem dMod_rule_90 : decode bMod_rule 90 = .ok (.iconst 1, 1) := by decide +kernel
theorem dMod_rule_91 : decode bMod_rule 91 = .ok (.isub, 1) := by decide +kernel
theorem dMod_rule_92 : decode bMod_rule 92 = .ok (.ireturn, 1) := by decide +kernel
theorem dMod_noRule_0 : decode bMod_noRule 0 = .ok (.iload_n 1, 1) := by decide +kernel
theorem dMod_noRule_1 : decode bMod_noRule 1 = .ok (.ifCond .lt 11, 3) := by decide +kernel
theorem dMod_noRule_4 : decode bMod_noRule 4 = .ok (.iload_n 1, 1) := by decide +kernel
theorem dMod_noRule_5 : decode bMod_noRule 5 = .ok (.aload_n 0, 1) := by decide +kernel
theorem dMod_noRule_6 : decode bMod_noRule 6 = .ok (.getfield 121, 3) := by decide +kernel
theorem dMod_noRule_9 : decode bMod_noRule 9 = .ok (.if_icmp .lt 7, 3) := by decide +kernel
theorem dMod_noRule_12 : decode bMod_noRule 12 = .ok (.iconst 1, 1) := by decide +kernel
theorem dMod_noRule_13 : decode bMod_noRule 13 = .ok (.goto 4, 3) := by decide +kernel
theorem dMod_noRule_16 : decode bMod_noRule 16 = .ok (.iconst 0, 1) := by decide +kernel
theorem dMod_noRule_17 : decode bMod_noRule 17 = .ok (.ireturn, 1) := by decide +kernel
theorem dMod_context_0 : decode bMod_context 0 = .ok (.aload_n 0, 1) := by decide +kernel
theorem dMod_context_1 : decode bMod_context 1 = .ok (.aload_n 0, 1) := by decide +kernel
theorem dMod_context_2 : decode bMod_context 2 = .ok (.iload_n 1, 1) := by decide +kernel
theorem dMod_context_3 : decode bMod_context 3 = .ok (.invokevirtual 124, 3) := by decide +kernel
theorem dMod_context_6 : decode bMod_context 6 = .ok (.ifCond .eq 7, 3) := by decide +kernel
theorem dMod_context_9 : decode bMod_context 9 = .ok (.iconst 1, 1) := by decide +kernel
theorem dMod_context_10 : decode bMod_context 10 = .ok (.goto 18, 3) := by decide +kernel
theorem dMod_context_13 : decode bMod_context 13 = .ok (.aload_n 0, 1) := by decide +kernel
theorem dMod_context_14 : decode bMod_context 14 = .ok (.getfield 22, 3) := by decide +kernel
theorem dMod_context_17 : decode bMod_context 17 = .ok (.iload_n 1, 1) := by decide +kernel
theorem dMod_context_18 : decode bMod_context 18 = .ok (.iaload, 1) := by decide +kernel
theorem dMod_context_19 : decode bMod_context 19 = .ok (.iconst 2, 1) := by decide +kernel
theorem dMod_context_20 : decode bMod_context 20 = .ok (.if_icmp .ne 7, 3) := by decide +kernel
theorem dMod_context_23 : decode bMod_context 23 = .ok (.iconst 2, 1) := by decide +kernel
theorem dMod_context_24 : decode bMod_context 24 = .ok (.goto 4, 3) := by decide +kernel
theorem dMod_context_27 : decode bMod_context 27 = .ok (.iconst 0, 1) := by decide +kernel
theorem dMod_context_28 : decode bMod_context 28 = .ok (.putfield 107, 3) := by decide +kernel
theorem dMod_context_31 : decode bMod_context 31 = .ok (.aload_n 0, 1) := by decide +kernel
theorem dMod_context_32 : decode bMod_context 32 = .ok (.getfield 107, 3) := by decide +kernel
theorem dMod_context_35 : decode bMod_context 35 = .ok (.ifCond .eq 5, 3) := by decide +kernel
theorem dMod_context_38 : decode bMod_context 38 = .ok (.iconst 0, 1) := by decide +kernel
theorem dMod_context_39 : decode bMod_context 39 = .ok (.ireturn, 1) := by decide +kernel
theorem dMod_context_40 : decode bMod_context 40 = .ok (.iconst 2, 1) := by decide +kernel
theorem dMod_context_41 : decode bMod_context 41 = .ok (.iload_n 1, 1) := by decide +kernel
theorem dMod_context_42 : decode bMod_context 42 = .ok (.imul, 1) := by decide +kernel
theorem dMod_context_43 : decode bMod_context 43 = .ok (.aload_n 0, 1) := by decide +kernel
theorem dMod_context_44 : decode bMod_context 44 = .ok (.getfield 22, 3) := by decide +kernel
theorem dMod_context_47 : decode bMod_context 47 = .ok (.iload_n 1, 1) := by decide +kernel
theorem dMod_context_48 : decode bMod_context 48 = .ok (.iaload, 1) := by decide +kernel
theorem dMod_context_49 : decode bMod_context 49 = .ok (.iadd, 1) := by decide +kernel
theorem dMod_context_50 : decode bMod_context 50 = .ok (.istore 4, 2) := by decide +kernel
theorem dMod_context_52 : decode bMod_context 52 = .ok (.aload_n 0, 1) := by decide +kernel
theorem dMod_context_53 : decode bMod_context 53 = .ok (.getfield 25, 3) := by decide +kernel
theorem dMod_context_56 : decode bMod_context 56 = .ok (.iconst 2, 1) := by decide +kernel
theorem dMod_context_57 : decode bMod_context 57 = .ok (.iload 4, 2) := by decide +kernel
theorem dMod_context_59 : decode bMod_context 59 = .ok (.imul, 1) := by decide +kernel
theorem dMod_context_60 : decode bMod_context 60 = .ok (.iload_n 2, 1) := by decide +kernel
theorem dMod_context_61 : decode bMod_context 61 = .ok (.bastore, 1) := by decide +kernel
theorem dMod_context_62 : decode bMod_context 62 = .ok (.aload_n 0, 1) := by decide +kernel
theorem dMod_context_63 : decode bMod_context 63 = .ok (.getfield 25, 3) := by decide +kernel
theorem dMod_context_66 : decode bMod_context 66 = .ok (.iconst 2, 1) := by decide +kernel
theorem dMod_context_67 : decode bMod_context 67 = .ok (.iload 4, 2) := by decide +kernel
theorem dMod_context_69 : decode bMod_context 69 = .ok (.imul, 1) := by decide +kernel
theorem dMod_context_70 : decode bMod_context 70 = .ok (.iconst 1, 1) := by decide +kernel
theorem dMod_context_71 : decode bMod_context 71 = .ok (.iadd, 1) := by decide +kernel
theorem dMod_context_72 : decode bMod_context 72 = .ok (.iload_n 3, 1) := by decide +kernel
theorem dMod_context_73 : decode bMod_context 73 = .ok (.bastore, 1) := by decide +kernel
theorem dMod_context_74 : decode bMod_context 74 = .ok (.aload_n 0, 1) := by decide +kernel
theorem dMod_context_75 : decode bMod_context 75 = .ok (.getfield 22, 3) := by decide +kernel
theorem dMod_context_78 : decode bMod_context 78 = .ok (.iload_n 1, 1) := by decide +kernel
theorem dMod_context_79 : decode bMod_context 79 = .ok (.dup2, 1) := by decide +kernel
theorem dMod_context_80 : decode bMod_context 80 = .ok (.iaload, 1) := by decide +kernel
theorem dMod_context_81 : decode bMod_context 81 = .ok (.iconst 1, 1) := by decide +kernel
theorem dMod_context_82 : decode bMod_context 82 = .ok (.iadd, 1) := by decide +kernel
theorem dMod_context_83 : decode bMod_context 83 = .ok (.iastore, 1) := by decide +kernel
theorem dMod_context_84 : decode bMod_context 84 = .ok (.aload_n 0, 1) := by decide +kernel
theorem dMod_context_85 : decode bMod_context 85 = .ok (.iconst 0, 1) := by decide +kernel
theorem dMod_context_86 : decode bMod_context 86 = .ok (.putfield 118, 3) := by decide +kernel
theorem dMod_context_89 : decode bMod_context 89 = .ok (.aload_n 0, 1) := by decide +kernel
theorem dMod_context_90 : decode bMod_context 90 = .ok (.getfield 22, 3) := by decide +kernel
theorem dMod_context_93 : decode bMod_context 93 = .ok (.iload_n 1, 1) := by decide +kernel
theorem dMod_context_94 : decode bMod_context 94 = .ok (.iaload, 1) := by decide +kernel
theorem dMod_context_95 : decode bMod_context 95 = .ok (.ireturn, 1) := by decide +kernel
theorem dMod_element_0 : decode bMod_element 0 = .ok (.aload_n 0, 1) := by decide +kernel
theorem dMod_element_1 : decode bMod_element 1 = .ok (.iload_n 1, 1) := by decide +kernel
theorem dMod_element_2 : decode bMod_element 2 = .ok (.invokevirtual 124, 3) := by decide +kernel
theorem dMod_element_5 : decode bMod_element 5 = .ok (.ifCond .ne 16, 3) := by decide +kernel
theorem dMod_element_8 : decode bMod_element 8 = .ok (.iload_n 3, 1) := by decide +kernel
theorem dMod_element_9 : decode bMod_element 9 = .ok (.ifCond .lt 12, 3) := by decide +kernel
theorem dMod_element_12 : decode bMod_element 12 = .ok (.iload_n 3, 1) := by decide +kernel
theorem dMod_element_13 : decode bMod_element 13 = .ok (.aload_n 0, 1) := by decide +kernel
theorem dMod_element_14 : decode bMod_element 14 = .ok (.getfield 115, 3) := by decide +kernel
theorem dMod_element_17 : decode bMod_element 17 = .ok (.ishr, 1) := by decide +kernel
theorem dMod_element_18 : decode bMod_element 18 = .ok (.ifCond .eq 7, 3) := by decide +kernel
theorem dMod_element_21 : decode bMod_element 21 = .ok (.iconst 1, 1) := by decide +kernel
theorem dMod_element_22 : decode bMod_element 22 = .ok (.goto 4, 3) := by decide +kernel
theorem dMod_element_25 : decode bMod_element 25 = .ok (.iconst 0, 1) := by decide +kernel
theorem dMod_element_26 : decode bMod_element 26 = .ok (.istore 5, 2) := by decide +kernel
theorem dMod_element_28 : decode bMod_element 28 = .ok (.aload_n 0, 1) := by decide +kernel
theorem dMod_element_29 : decode bMod_element 29 = .ok (.iload 5, 2) := by decide +kernel
theorem dMod_element_31 : decode bMod_element 31 = .ok (.ifCond .eq 7, 3) := by decide +kernel
theorem dMod_element_34 : decode bMod_element 34 = .ok (.iconst 1, 1) := by decide +kernel
theorem dMod_element_35 : decode bMod_element 35 = .ok (.goto 17, 3) := by decide +kernel
theorem dMod_element_38 : decode bMod_element 38 = .ok (.aload_n 0, 1) := by decide +kernel
theorem dMod_element_39 : decode bMod_element 39 = .ok (.getfield 22, 3) := by decide +kernel
theorem dMod_element_42 : decode bMod_element 42 = .ok (.iload_n 1, 1) := by decide +kernel
theorem dMod_element_43 : decode bMod_element 43 = .ok (.iaload, 1) := by decide +kernel
theorem dMod_element_44 : decode bMod_element 44 = .ok (.ifCond .ne 7, 3) := by decide +kernel
theorem dMod_element_47 : decode bMod_element 47 = .ok (.iconst 2, 1) := by decide +kernel
theorem dMod_element_48 : decode bMod_element 48 = .ok (.goto 4, 3) := by decide +kernel
theorem dMod_element_51 : decode bMod_element 51 = .ok (.iconst 0, 1) := by decide +kernel
theorem dMod_element_52 : decode bMod_element 52 = .ok (.putfield 107, 3) := by decide +kernel
theorem dMod_element_55 : decode bMod_element 55 = .ok (.aload_n 0, 1) := by decide +kernel
theorem dMod_element_56 : decode bMod_element 56 = .ok (.getfield 107, 3) := by decide +kernel
theorem dMod_element_59 : decode bMod_element 59 = .ok (.ifCond .eq 5, 3) := by decide +kernel
theorem dMod_element_62 : decode bMod_element 62 = .ok (.iconst 0, 1) := by decide +kernel
theorem dMod_element_63 : decode bMod_element 63 = .ok (.ireturn, 1) := by decide +kernel
theorem dMod_element_64 : decode bMod_element 64 = .ok (.iconst 2, 1) := by decide +kernel
theorem dMod_element_65 : decode bMod_element 65 = .ok (.iconst 2, 1) := by decide +kernel
theorem dMod_element_66 : decode bMod_element 66 = .ok (.iload_n 1, 1) := by decide +kernel
theorem dMod_element_67 : decode bMod_element 67 = .ok (.imul, 1) := by decide +kernel
theorem dMod_element_68 : decode bMod_element 68 = .ok (.aload_n 0, 1) := by decide +kernel
theorem dMod_element_69 : decode bMod_element 69 = .ok (.getfield 22, 3) := by decide +kernel
theorem dMod_element_72 : decode bMod_element 72 = .ok (.iload_n 1, 1) := by decide +kernel
theorem dMod_element_73 : decode bMod_element 73 = .ok (.iaload, 1) := by decide +kernel
theorem dMod_element_74 : decode bMod_element 74 = .ok (.iadd, 1) := by decide +kernel
theorem dMod_element_75 : decode bMod_element 75 = .ok (.iconst 1, 1) := by decide +kernel
theorem dMod_element_76 : decode bMod_element 76 = .ok (.isub, 1) := by decide +kernel
theorem dMod_element_77 : decode bMod_element 77 = .ok (.imul, 1) := by decide +kernel
theorem dMod_element_78 : decode bMod_element 78 = .ok (.iload_n 2, 1) := by decide +kernel
theorem dMod_element_79 : decode bMod_element 79 = .ok (.ifCond .eq 7, 3) := by decide +kernel
theorem dMod_element_82 : decode bMod_element 82 = .ok (.iconst 1, 1) := by decide +kernel
theorem dMod_element_83 : decode bMod_element 83 = .ok (.goto 4, 3) := by decide +kernel
theorem dMod_element_86 : decode bMod_element 86 = .ok (.iconst 0, 1) := by decide +kernel
theorem dMod_element_87 : decode bMod_element 87 = .ok (.iadd, 1) := by decide +kernel
theorem dMod_element_88 : decode bMod_element 88 = .ok (.istore 6, 2) := by decide +kernel
theorem dMod_element_90 : decode bMod_element 90 = .ok (.aload_n 0, 1) := by decide +kernel
theorem dMod_element_91 : decode bMod_element 91 = .ok (.aload_n 0, 1) := by decide +kernel
theorem dMod_element_92 : decode bMod_element 92 = .ok (.getfield 29, 3) := by decide +kernel
theorem dMod_element_95 : decode bMod_element 95 = .ok (.iload 6, 2) := by decide +kernel
theorem dMod_element_97 : decode bMod_element 97 = .ok (.iaload, 1) := by decide +kernel
theorem dMod_element_98 : decode bMod_element 98 = .ok (.iconst 2, 1) := by decide +kernel
theorem dMod_element_99 : decode bMod_element 99 = .ok (.if_icmp .ne 7, 3) := by decide +kernel
theorem dMod_element_102 : decode bMod_element 102 = .ok (.iconst 2, 1) := by decide +kernel
theorem dMod_element_103 : decode bMod_element 103 = .ok (.goto 4, 3) := by decide +kernel
theorem dMod_element_106 : decode bMod_element 106 = .ok (.iconst 0, 1) := by decide +kernel
theorem dMod_element_107 : decode bMod_element 107 = .ok (.putfield 107, 3) := by decide +kernel
theorem dMod_element_110 : decode bMod_element 110 = .ok (.aload_n 0, 1) := by decide +kernel
theorem dMod_element_111 : decode bMod_element 111 = .ok (.getfield 107, 3) := by decide +kernel
theorem dMod_element_114 : decode bMod_element 114 = .ok (.ifCond .eq 5, 3) := by decide +kernel
theorem dMod_element_117 : decode bMod_element 117 = .ok (.iconst 0, 1) := by decide +kernel
theorem dMod_element_118 : decode bMod_element 118 = .ok (.ireturn, 1) := by decide +kernel
theorem dMod_element_119 : decode bMod_element 119 = .ok (.aload_n 0, 1) := by decide +kernel
theorem dMod_element_120 : decode bMod_element 120 = .ok (.getfield 32, 3) := by decide +kernel
theorem dMod_element_123 : decode bMod_element 123 = .ok (.iconst 2, 1) := by decide +kernel
theorem dMod_element_124 : decode bMod_element 124 = .ok (.iload 6, 2) := by decide +kernel
theorem dMod_element_126 : decode bMod_element 126 = .ok (.imul, 1) := by decide +kernel
theorem dMod_element_127 : decode bMod_element 127 = .ok (.aload_n 0, 1) := by decide +kernel
theorem dMod_element_128 : decode bMod_element 128 = .ok (.getfield 29, 3) := by decide +kernel
theorem dMod_element_131 : decode bMod_element 131 = .ok (.iload 6, 2) := by decide +kernel
theorem dMod_element_133 : decode bMod_element 133 = .ok (.iaload, 1) := by decide +kernel
theorem dMod_element_134 : decode bMod_element 134 = .ok (.iadd, 1) := by decide +kernel
theorem dMod_element_135 : decode bMod_element 135 = .ok (.iload_n 3, 1) := by decide +kernel
theorem dMod_element_136 : decode bMod_element 136 = .ok (.iastore, 1) := by decide +kernel
theorem dMod_element_137 : decode bMod_element 137 = .ok (.aload_n 0, 1) := by decide +kernel
theorem dMod_element_138 : decode bMod_element 138 = .ok (.getfield 35, 3) := by decide +kernel
theorem dMod_element_141 : decode bMod_element 141 = .ok (.iconst 2, 1) := by decide +kernel
theorem dMod_element_142 : decode bMod_element 142 = .ok (.iload 6, 2) := by decide +kernel
theorem dMod_element_144 : decode bMod_element 144 = .ok (.imul, 1) := by decide +kernel
theorem dMod_element_145 : decode bMod_element 145 = .ok (.aload_n 0, 1) := by decide +kernel
theorem dMod_element_146 : decode bMod_element 146 = .ok (.getfield 29, 3) := by decide +kernel
theorem dMod_element_149 : decode bMod_element 149 = .ok (.iload 6, 2) := by decide +kernel
theorem dMod_element_151 : decode bMod_element 151 = .ok (.iaload, 1) := by decide +kernel
theorem dMod_element_152 : decode bMod_element 152 = .ok (.iadd, 1) := by decide +kernel
theorem dMod_element_153 : decode bMod_element 153 = .ok (.iload 4, 2) := by decide +kernel
theorem dMod_element_155 : decode bMod_element 155 = .ok (.bastore, 1) := by decide +kernel
theorem dMod_element_156 : decode bMod_element 156 = .ok (.aload_n 0, 1) := by decide +kernel
theorem dMod_element_157 : decode bMod_element 157 = .ok (.getfield 29, 3) := by decide +kernel
theorem dMod_element_160 : decode bMod_element 160 = .ok (.iload 6, 2) := by decide +kernel
theorem dMod_element_162 : decode bMod_element 162 = .ok (.dup2, 1) := by decide +kernel
theorem dMod_element_163 : decode bMod_element 163 = .ok (.iaload, 1) := by decide +kernel
theorem dMod_element_164 : decode bMod_element 164 = .ok (.iconst 1, 1) := by decide +kernel
theorem dMod_element_165 : decode bMod_element 165 = .ok (.iadd, 1) := by decide +kernel
theorem dMod_element_166 : decode bMod_element 166 = .ok (.iastore, 1) := by decide +kernel
theorem dMod_element_167 : decode bMod_element 167 = .ok (.aload_n 0, 1) := by decide +kernel
theorem dMod_element_168 : decode bMod_element 168 = .ok (.iconst 0, 1) := by decide +kernel
theorem dMod_element_169 : decode bMod_element 169 = .ok (.putfield 118, 3) := by decide +kernel
theorem dMod_element_172 : decode bMod_element 172 = .ok (.aload_n 0, 1) := by decide +kernel
theorem dMod_element_173 : decode bMod_element 173 = .ok (.getfield 29, 3) := by decide +kernel
theorem dMod_element_176 : decode bMod_element 176 = .ok (.iload 6, 2) := by decide +kernel
theorem dMod_element_178 : decode bMod_element 178 = .ok (.iaload, 1) := by decide +kernel
theorem dMod_element_179 : decode bMod_element 179 = .ok (.ireturn, 1) := by decide +kernel
theorem dMod_entry_0 : decode bMod_entry 0 = .ok (.aload_n 0, 1) := by decide +kernel
theorem dMod_entry_1 : decode bMod_entry 1 = .ok (.iload_n 1, 1) := by decide +kernel
theorem dMod_entry_2 : decode bMod_entry 2 = .ok (.ifCond .lt 18, 3) := by decide +kernel
theorem dMod_entry_5 : decode bMod_entry 5 = .ok (.iload_n 1, 1) := by decide +kernel
theorem dMod_entry_6 : decode bMod_entry 6 = .ok (.iconst 3, 1) := by decide +kernel
theorem dMod_entry_7 : decode bMod_entry 7 = .ok (.if_icmp .gt 13, 3) := by decide +kernel
theorem dMod_entry_10 : decode bMod_entry 10 = .ok (.iload_n 2, 1) := by decide +kernel
theorem dMod_entry_11 : decode bMod_entry 11 = .ok (.iconst (-1), 1) := by decide +kernel
theorem dMod_entry_12 : decode bMod_entry 12 = .ok (.if_icmp .lt 8, 3) := by decide +kernel
theorem dMod_entry_15 : decode bMod_entry 15 = .ok (.iload_n 2, 1) := by decide +kernel
theorem dMod_entry_16 : decode bMod_entry 16 = .ok (.iconst 3, 1) := by decide +kernel
theorem dMod_entry_17 : decode bMod_entry 17 = .ok (.if_icmp .le 7, 3) := by decide +kernel
theorem dMod_entry_20 : decode bMod_entry 20 = .ok (.iconst 1, 1) := by decide +kernel
theorem dMod_entry_21 : decode bMod_entry 21 = .ok (.goto 17, 3) := by decide +kernel
theorem dMod_entry_24 : decode bMod_entry 24 = .ok (.aload_n 0, 1) := by decide +kernel
theorem dMod_entry_25 : decode bMod_entry 25 = .ok (.getfield 128, 3) := by decide +kernel
theorem dMod_entry_28 : decode bMod_entry 28 = .ok (.bipush 8, 2) := by decide +kernel
theorem dMod_entry_30 : decode bMod_entry 30 = .ok (.if_icmp .ne 7, 3) := by decide +kernel
theorem dMod_entry_33 : decode bMod_entry 33 = .ok (.iconst 2, 1) := by decide +kernel
theorem dMod_entry_34 : decode bMod_entry 34 = .ok (.goto 4, 3) := by decide +kernel
theorem dMod_entry_37 : decode bMod_entry 37 = .ok (.iconst 0, 1) := by decide +kernel
theorem dMod_entry_38 : decode bMod_entry 38 = .ok (.putfield 107, 3) := by decide +kernel
theorem dMod_entry_41 : decode bMod_entry 41 = .ok (.aload_n 0, 1) := by decide +kernel
theorem dMod_entry_42 : decode bMod_entry 42 = .ok (.getfield 107, 3) := by decide +kernel
theorem dMod_entry_45 : decode bMod_entry 45 = .ok (.ifCond .eq 5, 3) := by decide +kernel
theorem dMod_entry_48 : decode bMod_entry 48 = .ok (.iconst 0, 1) := by decide +kernel
theorem dMod_entry_49 : decode bMod_entry 49 = .ok (.ireturn, 1) := by decide +kernel
theorem dMod_entry_50 : decode bMod_entry 50 = .ok (.aload_n 0, 1) := by decide +kernel
theorem dMod_entry_51 : decode bMod_entry 51 = .ok (.getfield 38, 3) := by decide +kernel
theorem dMod_entry_54 : decode bMod_entry 54 = .ok (.aload_n 0, 1) := by decide +kernel
theorem dMod_entry_55 : decode bMod_entry 55 = .ok (.getfield 128, 3) := by decide +kernel
theorem dMod_entry_58 : decode bMod_entry 58 = .ok (.iload_n 1, 1) := by decide +kernel
theorem dMod_entry_59 : decode bMod_entry 59 = .ok (.iastore, 1) := by decide +kernel
theorem dMod_entry_60 : decode bMod_entry 60 = .ok (.aload_n 0, 1) := by decide +kernel
theorem dMod_entry_61 : decode bMod_entry 61 = .ok (.getfield 41, 3) := by decide +kernel
theorem dMod_entry_64 : decode bMod_entry 64 = .ok (.aload_n 0, 1) := by decide +kernel
theorem dMod_entry_65 : decode bMod_entry 65 = .ok (.getfield 128, 3) := by decide +kernel
theorem dMod_entry_68 : decode bMod_entry 68 = .ok (.iload_n 2, 1) := by decide +kernel
theorem dMod_entry_69 : decode bMod_entry 69 = .ok (.iastore, 1) := by decide +kernel
theorem dMod_entry_70 : decode bMod_entry 70 = .ok (.aload_n 0, 1) := by decide +kernel
theorem dMod_entry_71 : decode bMod_entry 71 = .ok (.dup, 1) := by decide +kernel
theorem dMod_entry_72 : decode bMod_entry 72 = .ok (.getfield 128, 3) := by decide +kernel
theorem dMod_entry_75 : decode bMod_entry 75 = .ok (.iconst 1, 1) := by decide +kernel
theorem dMod_entry_76 : decode bMod_entry 76 = .ok (.iadd, 1) := by decide +kernel
theorem dMod_entry_77 : decode bMod_entry 77 = .ok (.putfield 128, 3) := by decide +kernel
theorem dMod_entry_80 : decode bMod_entry 80 = .ok (.aload_n 0, 1) := by decide +kernel
theorem dMod_entry_81 : decode bMod_entry 81 = .ok (.iconst 0, 1) := by decide +kernel
theorem dMod_entry_82 : decode bMod_entry 82 = .ok (.putfield 118, 3) := by decide +kernel
theorem dMod_entry_85 : decode bMod_entry 85 = .ok (.aload_n 0, 1) := by decide +kernel
theorem dMod_entry_86 : decode bMod_entry 86 = .ok (.getfield 128, 3) := by decide +kernel
theorem dMod_entry_89 : decode bMod_entry 89 = .ok (.iconst 1, 1) := by decide +kernel
theorem dMod_entry_90 : decode bMod_entry 90 = .ok (.isub, 1) := by decide +kernel
theorem dMod_entry_91 : decode bMod_entry 91 = .ok (.ireturn, 1) := by decide +kernel
theorem dMod_spell_0 : decode bMod_spell 0 = .ok (.aload_n 0, 1) := by decide +kernel
theorem dMod_spell_1 : decode bMod_spell 1 = .ok (.iload_n 1, 1) := by decide +kernel
theorem dMod_spell_2 : decode bMod_spell 2 = .ok (.ifCond .lt 20, 3) := by decide +kernel
theorem dMod_spell_5 : decode bMod_spell 5 = .ok (.iload_n 1, 1) := by decide +kernel
theorem dMod_spell_6 : decode bMod_spell 6 = .ok (.aload_n 0, 1) := by decide +kernel
theorem dMod_spell_7 : decode bMod_spell 7 = .ok (.getfield 128, 3) := by decide +kernel
theorem dMod_spell_10 : decode bMod_spell 10 = .ok (.if_icmp .ge 12, 3) := by decide +kernel
theorem dMod_spell_13 : decode bMod_spell 13 = .ok (.aload_n 0, 1) := by decide +kernel
theorem dMod_spell_14 : decode bMod_spell 14 = .ok (.iload_n 2, 1) := by decide +kernel
theorem dMod_spell_15 : decode bMod_spell 15 = .ok (.iconst 1, 1) := by decide +kernel
theorem dMod_spell_16 : decode bMod_spell 16 = .ok (.invokevirtual 111, 3) := by decide +kernel
theorem dMod_spell_19 : decode bMod_spell 19 = .ok (.ifCond .eq 7, 3) := by decide +kernel
theorem dMod_spell_22 : decode bMod_spell 22 = .ok (.iconst 1, 1) := by decide +kernel
theorem dMod_spell_23 : decode bMod_spell 23 = .ok (.goto 18, 3) := by decide +kernel
theorem dMod_spell_26 : decode bMod_spell 26 = .ok (.aload_n 0, 1) := by decide +kernel
theorem dMod_spell_27 : decode bMod_spell 27 = .ok (.getfield 44, 3) := by decide +kernel
theorem dMod_spell_30 : decode bMod_spell 30 = .ok (.iload_n 1, 1) := by decide +kernel
theorem dMod_spell_31 : decode bMod_spell 31 = .ok (.iaload, 1) := by decide +kernel
theorem dMod_spell_32 : decode bMod_spell 32 = .ok (.iconst 3, 1) := by decide +kernel
theorem dMod_spell_33 : decode bMod_spell 33 = .ok (.if_icmp .ne 7, 3) := by decide +kernel
theorem dMod_spell_36 : decode bMod_spell 36 = .ok (.iconst 2, 1) := by decide +kernel
theorem dMod_spell_37 : decode bMod_spell 37 = .ok (.goto 4, 3) := by decide +kernel
theorem dMod_spell_40 : decode bMod_spell 40 = .ok (.iconst 0, 1) := by decide +kernel
theorem dMod_spell_41 : decode bMod_spell 41 = .ok (.putfield 107, 3) := by decide +kernel
theorem dMod_spell_44 : decode bMod_spell 44 = .ok (.aload_n 0, 1) := by decide +kernel
theorem dMod_spell_45 : decode bMod_spell 45 = .ok (.getfield 107, 3) := by decide +kernel
theorem dMod_spell_48 : decode bMod_spell 48 = .ok (.ifCond .eq 5, 3) := by decide +kernel
theorem dMod_spell_51 : decode bMod_spell 51 = .ok (.iconst 0, 1) := by decide +kernel
theorem dMod_spell_52 : decode bMod_spell 52 = .ok (.ireturn, 1) := by decide +kernel
theorem dMod_spell_53 : decode bMod_spell 53 = .ok (.aload_n 0, 1) := by decide +kernel
theorem dMod_spell_54 : decode bMod_spell 54 = .ok (.getfield 47, 3) := by decide +kernel
theorem dMod_spell_57 : decode bMod_spell 57 = .ok (.iconst 3, 1) := by decide +kernel
theorem dMod_spell_58 : decode bMod_spell 58 = .ok (.iload_n 1, 1) := by decide +kernel
theorem dMod_spell_59 : decode bMod_spell 59 = .ok (.imul, 1) := by decide +kernel
theorem dMod_spell_60 : decode bMod_spell 60 = .ok (.aload_n 0, 1) := by decide +kernel
theorem dMod_spell_61 : decode bMod_spell 61 = .ok (.getfield 44, 3) := by decide +kernel
theorem dMod_spell_64 : decode bMod_spell 64 = .ok (.iload_n 1, 1) := by decide +kernel
theorem dMod_spell_65 : decode bMod_spell 65 = .ok (.iaload, 1) := by decide +kernel
theorem dMod_spell_66 : decode bMod_spell 66 = .ok (.iadd, 1) := by decide +kernel
theorem dMod_spell_67 : decode bMod_spell 67 = .ok (.iload_n 2, 1) := by decide +kernel
theorem dMod_spell_68 : decode bMod_spell 68 = .ok (.iastore, 1) := by decide +kernel
theorem dMod_spell_69 : decode bMod_spell 69 = .ok (.aload_n 0, 1) := by decide +kernel
theorem dMod_spell_70 : decode bMod_spell 70 = .ok (.getfield 44, 3) := by decide +kernel
theorem dMod_spell_73 : decode bMod_spell 73 = .ok (.iload_n 1, 1) := by decide +kernel
theorem dMod_spell_74 : decode bMod_spell 74 = .ok (.dup2, 1) := by decide +kernel
theorem dMod_spell_75 : decode bMod_spell 75 = .ok (.iaload, 1) := by decide +kernel
theorem dMod_spell_76 : decode bMod_spell 76 = .ok (.iconst 1, 1) := by decide +kernel
theorem dMod_spell_77 : decode bMod_spell 77 = .ok (.iadd, 1) := by decide +kernel
theorem dMod_spell_78 : decode bMod_spell 78 = .ok (.iastore, 1) := by decide +kernel
theorem dMod_spell_79 : decode bMod_spell 79 = .ok (.aload_n 0, 1) := by decide +kernel
theorem dMod_spell_80 : decode bMod_spell 80 = .ok (.iconst 0, 1) := by decide +kernel
theorem dMod_spell_81 : decode bMod_spell 81 = .ok (.putfield 118, 3) := by decide +kernel
theorem dMod_spell_84 : decode bMod_spell 84 = .ok (.aload_n 0, 1) := by decide +kernel
theorem dMod_spell_85 : decode bMod_spell 85 = .ok (.getfield 44, 3) := by decide +kernel
theorem dMod_spell_88 : decode bMod_spell 88 = .ok (.iload_n 1, 1) := by decide +kernel
theorem dMod_spell_89 : decode bMod_spell 89 = .ok (.iaload, 1) := by decide +kernel
theorem dMod_spell_90 : decode bMod_spell 90 = .ok (.ireturn, 1) := by decide +kernel
theorem dMod_type_0 : decode bMod_type 0 = .ok (.iload_n 1, 1) := by decide +kernel
theorem dMod_type_1 : decode bMod_type 1 = .ok (.ifCond .eq 7, 3) := by decide +kernel
theorem dMod_type_4 : decode bMod_type 4 = .ok (.iconst 1, 1) := by decide +kernel
theorem dMod_type_5 : decode bMod_type 5 = .ok (.goto 4, 3) := by decide +kernel
theorem dMod_type_8 : decode bMod_type 8 = .ok (.iconst 0, 1) := by decide +kernel
theorem dMod_type_9 : decode bMod_type 9 = .ok (.istore_n 3, 1) := by decide +kernel
theorem dMod_type_10 : decode bMod_type 10 = .ok (.aload_n 0, 1) := by decide +kernel
theorem dMod_type_11 : decode bMod_type 11 = .ok (.aload_n 0, 1) := by decide +kernel
theorem dMod_type_12 : decode bMod_type 12 = .ok (.iload_n 2, 1) := by decide +kernel
theorem dMod_type_13 : decode bMod_type 13 = .ok (.iconst 1, 1) := by decide +kernel
theorem dMod_type_14 : decode bMod_type 14 = .ok (.invokevirtual 111, 3) := by decide +kernel
theorem dMod_type_17 : decode bMod_type 17 = .ok (.ifCond .eq 7, 3) := by decide +kernel
theorem dMod_type_20 : decode bMod_type 20 = .ok (.iconst 1, 1) := by decide +kernel
theorem dMod_type_21 : decode bMod_type 21 = .ok (.goto 20, 3) := by decide +kernel
theorem dMod_type_24 : decode bMod_type 24 = .ok (.aload_n 0, 1) := by decide +kernel
theorem dMod_type_25 : decode bMod_type 25 = .ok (.getfield 50, 3) := by decide +kernel
theorem dMod_type_28 : decode bMod_type 28 = .ok (.iload_n 3, 1) := by decide +kernel
theorem dMod_type_29 : decode bMod_type 29 = .ok (.iaload, 1) := by decide +kernel
theorem dMod_type_30 : decode bMod_type 30 = .ok (.iconst 4, 1) := by decide +kernel
theorem dMod_type_31 : decode bMod_type 31 = .ok (.iload_n 3, 1) := by decide +kernel
theorem dMod_type_32 : decode bMod_type 32 = .ok (.iadd, 1) := by decide +kernel
theorem dMod_type_33 : decode bMod_type 33 = .ok (.if_icmp .ne 7, 3) := by decide +kernel
theorem dMod_type_36 : decode bMod_type 36 = .ok (.iconst 2, 1) := by decide +kernel
theorem dMod_type_37 : decode bMod_type 37 = .ok (.goto 4, 3) := by decide +kernel
theorem dMod_type_40 : decode bMod_type 40 = .ok (.iconst 0, 1) := by decide +kernel
theorem dMod_type_41 : decode bMod_type 41 = .ok (.putfield 107, 3) := by decide +kernel
theorem dMod_type_44 : decode bMod_type 44 = .ok (.aload_n 0, 1) := by decide +kernel
theorem dMod_type_45 : decode bMod_type 45 = .ok (.getfield 107, 3) := by decide +kernel
theorem dMod_type_48 : decode bMod_type 48 = .ok (.ifCond .eq 5, 3) := by decide +kernel
theorem dMod_type_51 : decode bMod_type 51 = .ok (.iconst 0, 1) := by decide +kernel
theorem dMod_type_52 : decode bMod_type 52 = .ok (.ireturn, 1) := by decide +kernel
theorem dMod_type_53 : decode bMod_type 53 = .ok (.aload_n 0, 1) := by decide +kernel
theorem dMod_type_54 : decode bMod_type 54 = .ok (.getfield 53, 3) := by decide +kernel
theorem dMod_type_57 : decode bMod_type 57 = .ok (.iconst 5, 1) := by decide +kernel
theorem dMod_type_58 : decode bMod_type 58 = .ok (.iload_n 3, 1) := by decide +kernel
theorem dMod_type_59 : decode bMod_type 59 = .ok (.imul, 1) := by decide +kernel
theorem dMod_type_60 : decode bMod_type 60 = .ok (.aload_n 0, 1) := by decide +kernel
theorem dMod_type_61 : decode bMod_type 61 = .ok (.getfield 50, 3) := by decide +kernel
theorem dMod_type_64 : decode bMod_type 64 = .ok (.iload_n 3, 1) := by decide +kernel
theorem dMod_type_65 : decode bMod_type 65 = .ok (.iaload, 1) := by decide +kernel
theorem dMod_type_66 : decode bMod_type 66 = .ok (.iadd, 1) := by decide +kernel
theorem dMod_type_67 : decode bMod_type 67 = .ok (.iload_n 2, 1) := by decide +kernel
theorem dMod_type_68 : decode bMod_type 68 = .ok (.iastore, 1) := by decide +kernel
theorem dMod_type_69 : decode bMod_type 69 = .ok (.aload_n 0, 1) := by decide +kernel
theorem dMod_type_70 : decode bMod_type 70 = .ok (.getfield 50, 3) := by decide +kernel
theorem dMod_type_73 : decode bMod_type 73 = .ok (.iload_n 3, 1) := by decide +kernel
theorem dMod_type_74 : decode bMod_type 74 = .ok (.dup2, 1) := by decide +kernel
theorem dMod_type_75 : decode bMod_type 75 = .ok (.iaload, 1) := by decide +kernel
theorem dMod_type_76 : decode bMod_type 76 = .ok (.iconst 1, 1) := by decide +kernel
theorem dMod_type_77 : decode bMod_type 77 = .ok (.iadd, 1) := by decide +kernel
theorem dMod_type_78 : decode bMod_type 78 = .ok (.iastore, 1) := by decide +kernel
theorem dMod_type_79 : decode bMod_type 79 = .ok (.aload_n 0, 1) := by decide +kernel
theorem dMod_type_80 : decode bMod_type 80 = .ok (.getfield 50, 3) := by decide +kernel
theorem dMod_type_83 : decode bMod_type 83 = .ok (.iload_n 3, 1) := by decide +kernel
theorem dMod_type_84 : decode bMod_type 84 = .ok (.iaload, 1) := by decide +kernel
theorem dMod_type_85 : decode bMod_type 85 = .ok (.ireturn, 1) := by decide +kernel
theorem dMod_wipe_0 : decode bMod_wipe 0 = .ok (.aload_n 0, 1) := by decide +kernel
theorem dMod_wipe_1 : decode bMod_wipe 1 = .ok (.iconst 0, 1) := by decide +kernel
theorem dMod_wipe_2 : decode bMod_wipe 2 = .ok (.putfield 107, 3) := by decide +kernel
theorem dMod_wipe_5 : decode bMod_wipe 5 = .ok (.aload_n 0, 1) := by decide +kernel
theorem dMod_wipe_6 : decode bMod_wipe 6 = .ok (.getfield 50, 3) := by decide +kernel
theorem dMod_wipe_9 : decode bMod_wipe 9 = .ok (.iload_n 1, 1) := by decide +kernel
theorem dMod_wipe_10 : decode bMod_wipe 10 = .ok (.ifCond .eq 7, 3) := by decide +kernel
theorem dMod_wipe_13 : decode bMod_wipe 13 = .ok (.iconst 1, 1) := by decide +kernel
theorem dMod_wipe_14 : decode bMod_wipe 14 = .ok (.goto 4, 3) := by decide +kernel
theorem dMod_wipe_17 : decode bMod_wipe 17 = .ok (.iconst 0, 1) := by decide +kernel
theorem dMod_wipe_18 : decode bMod_wipe 18 = .ok (.iaload, 1) := by decide +kernel
theorem dMod_wipe_19 : decode bMod_wipe 19 = .ok (.istore_n 2, 1) := by decide +kernel
theorem dMod_wipe_20 : decode bMod_wipe 20 = .ok (.aload_n 0, 1) := by decide +kernel
theorem dMod_wipe_21 : decode bMod_wipe 21 = .ok (.getfield 50, 3) := by decide +kernel
theorem dMod_wipe_24 : decode bMod_wipe 24 = .ok (.iload_n 1, 1) := by decide +kernel
theorem dMod_wipe_25 : decode bMod_wipe 25 = .ok (.ifCond .eq 7, 3) := by decide +kernel
theorem dMod_wipe_28 : decode bMod_wipe 28 = .ok (.iconst 1, 1) := by decide +kernel
theorem dMod_wipe_29 : decode bMod_wipe 29 = .ok (.goto 4, 3) := by decide +kernel
theorem dMod_wipe_32 : decode bMod_wipe 32 = .ok (.iconst 0, 1) := by decide +kernel
theorem dMod_wipe_33 : decode bMod_wipe 33 = .ok (.iconst 0, 1) := by decide +kernel
theorem dMod_wipe_34 : decode bMod_wipe 34 = .ok (.iastore, 1) := by decide +kernel
theorem dMod_wipe_35 : decode bMod_wipe 35 = .ok (.iload_n 2, 1) := by decide +kernel
theorem dMod_wipe_36 : decode bMod_wipe 36 = .ok (.ireturn, 1) := by decide +kernel
theorem dMod_inSet_0 : decode bMod_inSet 0 = .ok (.aload_n 0, 1) := by decide +kernel
theorem dMod_inSet_1 : decode bMod_inSet 1 = .ok (.getfield 32, 3) := by decide +kernel
theorem dMod_inSet_4 : decode bMod_inSet 4 = .ok (.iload_n 1, 1) := by decide +kernel
theorem dMod_inSet_5 : decode bMod_inSet 5 = .ok (.iaload, 1) := by decide +kernel
theorem dMod_inSet_6 : decode bMod_inSet 6 = .ok (.iload_n 2, 1) := by decide +kernel
theorem dMod_inSet_7 : decode bMod_inSet 7 = .ok (.ishr, 1) := by decide +kernel
theorem dMod_inSet_8 : decode bMod_inSet 8 = .ok (.iconst 1, 1) := by decide +kernel
theorem dMod_inSet_9 : decode bMod_inSet 9 = .ok (.iand, 1) := by decide +kernel
theorem dMod_inSet_10 : decode bMod_inSet 10 = .ok (.iconst 1, 1) := by decide +kernel
theorem dMod_inSet_11 : decode bMod_inSet 11 = .ok (.if_icmp .ne 7, 3) := by decide +kernel
theorem dMod_inSet_14 : decode bMod_inSet 14 = .ok (.iconst 1, 1) := by decide +kernel
theorem dMod_inSet_15 : decode bMod_inSet 15 = .ok (.goto 4, 3) := by decide +kernel
theorem dMod_inSet_18 : decode bMod_inSet 18 = .ok (.iconst 0, 1) := by decide +kernel
theorem dMod_inSet_19 : decode bMod_inSet 19 = .ok (.ireturn, 1) := by decide +kernel
theorem dMod_allIn_0 : decode bMod_allIn 0 = .ok (.iconst 1, 1) := by decide +kernel
theorem dMod_allIn_1 : decode bMod_allIn 1 = .ok (.istore 4, 2) := by decide +kernel
theorem dMod_allIn_3 : decode bMod_allIn 3 = .ok (.iload_n 2, 1) := by decide +kernel
theorem dMod_allIn_4 : decode bMod_allIn 4 = .ok (.istore 5, 2) := by decide +kernel
theorem dMod_allIn_6 : decode bMod_allIn 6 = .ok (.iload 5, 2) := by decide +kernel
theorem dMod_allIn_8 : decode bMod_allIn 8 = .ok (.iload_n 3, 1) := by decide +kernel
theorem dMod_allIn_9 : decode bMod_allIn 9 = .ok (.if_icmp .ge 36, 3) := by decide +kernel
theorem dMod_allIn_12 : decode bMod_allIn 12 = .ok (.iload 4, 2) := by decide +kernel
theorem dMod_allIn_14 : decode bMod_allIn 14 = .ok (.ifCond .eq 22, 3) := by decide +kernel
theorem dMod_allIn_17 : decode bMod_allIn 17 = .ok (.aload_n 0, 1) := by decide +kernel
theorem dMod_allIn_18 : decode bMod_allIn 18 = .ok (.iload_n 1, 1) := by decide +kernel
theorem dMod_allIn_19 : decode bMod_allIn 19 = .ok (.aload_n 0, 1) := by decide +kernel
theorem dMod_allIn_20 : decode bMod_allIn 20 = .ok (.getfield 92, 3) := by decide +kernel
theorem dMod_allIn_23 : decode bMod_allIn 23 = .ok (.iload 5, 2) := by decide +kernel
theorem dMod_allIn_25 : decode bMod_allIn 25 = .ok (.iaload, 1) := by decide +kernel
theorem dMod_allIn_26 : decode bMod_allIn 26 = .ok (.invokevirtual 131, 3) := by decide +kernel
theorem dMod_allIn_29 : decode bMod_allIn 29 = .ok (.ifCond .eq 7, 3) := by decide +kernel
theorem dMod_allIn_32 : decode bMod_allIn 32 = .ok (.iconst 1, 1) := by decide +kernel
theorem dMod_allIn_33 : decode bMod_allIn 33 = .ok (.goto 4, 3) := by decide +kernel
theorem dMod_allIn_36 : decode bMod_allIn 36 = .ok (.iconst 0, 1) := by decide +kernel
theorem dMod_allIn_37 : decode bMod_allIn 37 = .ok (.istore 4, 2) := by decide +kernel
theorem dMod_allIn_39 : decode bMod_allIn 39 = .ok (.iinc 5 1, 3) := by decide +kernel
theorem dMod_allIn_42 : decode bMod_allIn 42 = .ok (.goto (-36), 3) := by decide +kernel
theorem dMod_allIn_45 : decode bMod_allIn 45 = .ok (.iload 4, 2) := by decide +kernel
theorem dMod_allIn_47 : decode bMod_allIn 47 = .ok (.ireturn, 1) := by decide +kernel
theorem dMod_isPart_0 : decode bMod_isPart 0 = .ok (.aload_n 0, 1) := by decide +kernel
theorem dMod_isPart_1 : decode bMod_isPart 1 = .ok (.getfield 35, 3) := by decide +kernel
theorem dMod_isPart_4 : decode bMod_isPart 4 = .ok (.iload_n 1, 1) := by decide +kernel
theorem dMod_isPart_5 : decode bMod_isPart 5 = .ok (.baload, 1) := by decide +kernel
theorem dMod_isPart_6 : decode bMod_isPart 6 = .ok (.ifCond .ne 10, 3) := by decide +kernel
theorem dMod_isPart_9 : decode bMod_isPart 9 = .ok (.iload_n 3, 1) := by decide +kernel
theorem dMod_isPart_10 : decode bMod_isPart 10 = .ok (.iload_n 2, 1) := by decide +kernel
theorem dMod_isPart_11 : decode bMod_isPart 11 = .ok (.iconst 1, 1) := by decide +kernel
theorem dMod_isPart_12 : decode bMod_isPart 12 = .ok (.iadd, 1) := by decide +kernel
theorem dMod_isPart_13 : decode bMod_isPart 13 = .ok (.if_icmp .ne 17, 3) := by decide +kernel
theorem dMod_isPart_16 : decode bMod_isPart 16 = .ok (.aload_n 0, 1) := by decide +kernel
theorem dMod_isPart_17 : decode bMod_isPart 17 = .ok (.iload_n 1, 1) := by decide +kernel
theorem dMod_isPart_18 : decode bMod_isPart 18 = .ok (.iload_n 2, 1) := by decide +kernel
theorem dMod_isPart_19 : decode bMod_isPart 19 = .ok (.iload_n 3, 1) := by decide +kernel
theorem dMod_isPart_20 : decode bMod_isPart 20 = .ok (.invokevirtual 134, 3) := by decide +kernel
theorem dMod_isPart_23 : decode bMod_isPart 23 = .ok (.ifCond .eq 7, 3) := by decide +kernel
theorem dMod_isPart_26 : decode bMod_isPart 26 = .ok (.iconst 1, 1) := by decide +kernel
theorem dMod_isPart_27 : decode bMod_isPart 27 = .ok (.goto 4, 3) := by decide +kernel
theorem dMod_isPart_30 : decode bMod_isPart 30 = .ok (.iconst 0, 1) := by decide +kernel
theorem dMod_isPart_31 : decode bMod_isPart 31 = .ok (.ireturn, 1) := by decide +kernel
theorem dMod_isMatched_0 : decode bMod_isMatched 0 = .ok (.aload_n 0, 1) := by decide +kernel
theorem dMod_isMatched_1 : decode bMod_isMatched 1 = .ok (.getfield 29, 3) := by decide +kernel
theorem dMod_isMatched_4 : decode bMod_isMatched 4 = .ok (.iload_n 1, 1) := by decide +kernel
theorem dMod_isMatched_5 : decode bMod_isMatched 5 = .ok (.iaload, 1) := by decide +kernel
theorem dMod_isMatched_6 : decode bMod_isMatched 6 = .ok (.ifCond .ne 14, 3) := by decide +kernel
theorem dMod_isMatched_9 : decode bMod_isMatched 9 = .ok (.iload_n 2, 1) := by decide +kernel
theorem dMod_isMatched_10 : decode bMod_isMatched 10 = .ok (.iload_n 3, 1) := by decide +kernel
theorem dMod_isMatched_11 : decode bMod_isMatched 11 = .ok (.if_icmp .ne 7, 3) := by decide +kernel
theorem dMod_isMatched_14 : decode bMod_isMatched 14 = .ok (.iconst 1, 1) := by decide +kernel
theorem dMod_isMatched_15 : decode bMod_isMatched 15 = .ok (.goto 4, 3) := by decide +kernel
theorem dMod_isMatched_18 : decode bMod_isMatched 18 = .ok (.iconst 0, 1) := by decide +kernel
theorem dMod_isMatched_19 : decode bMod_isMatched 19 = .ok (.ireturn, 1) := by decide +kernel
theorem dMod_isMatched_20 : decode bMod_isMatched 20 = .ok (.aload_n 0, 1) := by decide +kernel
theorem dMod_isMatched_21 : decode bMod_isMatched 21 = .ok (.getfield 29, 3) := by decide +kernel
theorem dMod_isMatched_24 : decode bMod_isMatched 24 = .ok (.iload_n 1, 1) := by decide +kernel
theorem dMod_isMatched_25 : decode bMod_isMatched 25 = .ok (.iaload, 1) := by decide +kernel
theorem dMod_isMatched_26 : decode bMod_isMatched 26 = .ok (.iconst 1, 1) := by decide +kernel
theorem dMod_isMatched_27 : decode bMod_isMatched 27 = .ok (.if_icmp .ne 13, 3) := by decide +kernel
theorem dMod_isMatched_30 : decode bMod_isMatched 30 = .ok (.aload_n 0, 1) := by decide +kernel
theorem dMod_isMatched_31 : decode bMod_isMatched 31 = .ok (.iconst 2, 1) := by decide +kernel
theorem dMod_isMatched_32 : decode bMod_isMatched 32 = .ok (.iload_n 1, 1) := by decide +kernel
theorem dMod_isMatched_33 : decode bMod_isMatched 33 = .ok (.imul, 1) := by decide +kernel
theorem dMod_isMatched_34 : decode bMod_isMatched 34 = .ok (.iload_n 2, 1) := by decide +kernel
theorem dMod_isMatched_35 : decode bMod_isMatched 35 = .ok (.iload_n 3, 1) := by decide +kernel
theorem dMod_isMatched_36 : decode bMod_isMatched 36 = .ok (.invokevirtual 138, 3) := by decide +kernel
theorem dMod_isMatched_39 : decode bMod_isMatched 39 = .ok (.ireturn, 1) := by decide +kernel
theorem dMod_isMatched_40 : decode bMod_isMatched 40 = .ok (.iconst 0, 1) := by decide +kernel
theorem dMod_isMatched_41 : decode bMod_isMatched 41 = .ok (.istore 4, 2) := by decide +kernel
theorem dMod_isMatched_43 : decode bMod_isMatched 43 = .ok (.iload_n 2, 1) := by decide +kernel
theorem dMod_isMatched_44 : decode bMod_isMatched 44 = .ok (.istore 5, 2) := by decide +kernel
theorem dMod_isMatched_46 : decode bMod_isMatched 46 = .ok (.iload 5, 2) := by decide +kernel
theorem dMod_isMatched_48 : decode bMod_isMatched 48 = .ok (.iload_n 3, 1) := by decide +kernel
theorem dMod_isMatched_49 : decode bMod_isMatched 49 = .ok (.if_icmp .gt 49, 3) := by decide +kernel
theorem dMod_isMatched_52 : decode bMod_isMatched 52 = .ok (.iload 4, 2) := by decide +kernel
theorem dMod_isMatched_54 : decode bMod_isMatched 54 = .ok (.ifCond .ne 31, 3) := by decide +kernel
theorem dMod_isMatched_57 : decode bMod_isMatched 57 = .ok (.aload_n 0, 1) := by decide +kernel
theorem dMod_isMatched_58 : decode bMod_isMatched 58 = .ok (.iconst 2, 1) := by decide +kernel
theorem dMod_isMatched_59 : decode bMod_isMatched 59 = .ok (.iload_n 1, 1) := by decide +kernel
theorem dMod_isMatched_60 : decode bMod_isMatched 60 = .ok (.imul, 1) := by decide +kernel
theorem dMod_isMatched_61 : decode bMod_isMatched 61 = .ok (.iload_n 2, 1) := by decide +kernel
theorem dMod_isMatched_62 : decode bMod_isMatched 62 = .ok (.iload 5, 2) := by decide +kernel
theorem dMod_isMatched_64 : decode bMod_isMatched 64 = .ok (.invokevirtual 138, 3) := by decide +kernel
theorem dMod_isMatched_67 : decode bMod_isMatched 67 = .ok (.ifCond .eq 22, 3) := by decide +kernel
theorem dMod_isMatched_70 : decode bMod_isMatched 70 = .ok (.aload_n 0, 1) := by decide +kernel
theorem dMod_isMatched_71 : decode bMod_isMatched 71 = .ok (.iconst 2, 1) := by decide +kernel
theorem dMod_isMatched_72 : decode bMod_isMatched 72 = .ok (.iload_n 1, 1) := by decide +kernel
theorem dMod_isMatched_73 : decode bMod_isMatched 73 = .ok (.imul, 1) := by decide +kernel
theorem dMod_isMatched_74 : decode bMod_isMatched 74 = .ok (.iconst 1, 1) := by decide +kernel
theorem dMod_isMatched_75 : decode bMod_isMatched 75 = .ok (.iadd, 1) := by decide +kernel
theorem dMod_isMatched_76 : decode bMod_isMatched 76 = .ok (.iload 5, 2) := by decide +kernel
theorem dMod_isMatched_78 : decode bMod_isMatched 78 = .ok (.iload_n 3, 1) := by decide +kernel
theorem dMod_isMatched_79 : decode bMod_isMatched 79 = .ok (.invokevirtual 138, 3) := by decide +kernel
theorem dMod_isMatched_82 : decode bMod_isMatched 82 = .ok (.ifCond .eq 7, 3) := by decide +kernel
theorem dMod_isMatched_85 : decode bMod_isMatched 85 = .ok (.iconst 1, 1) := by decide +kernel
theorem dMod_isMatched_86 : decode bMod_isMatched 86 = .ok (.goto 4, 3) := by decide +kernel
theorem dMod_isMatched_89 : decode bMod_isMatched 89 = .ok (.iconst 0, 1) := by decide +kernel
theorem dMod_isMatched_90 : decode bMod_isMatched 90 = .ok (.istore 4, 2) := by decide +kernel
theorem dMod_isMatched_92 : decode bMod_isMatched 92 = .ok (.iinc 5 1, 3) := by decide +kernel
theorem dMod_isMatched_95 : decode bMod_isMatched 95 = .ok (.goto (-49), 3) := by decide +kernel
theorem dMod_isMatched_98 : decode bMod_isMatched 98 = .ok (.iload 4, 2) := by decide +kernel
theorem dMod_isMatched_100 : decode bMod_isMatched 100 = .ok (.ireturn, 1) := by decide +kernel
theorem dMod_holds_0 : decode bMod_holds 0 = .ok (.iconst 0, 1) := by decide +kernel
theorem dMod_holds_1 : decode bMod_holds 1 = .ok (.istore_n 3, 1) := by decide +kernel
theorem dMod_holds_2 : decode bMod_holds 2 = .ok (.iload_n 2, 1) := by decide +kernel
theorem dMod_holds_3 : decode bMod_holds 3 = .ok (.istore 4, 2) := by decide +kernel
theorem dMod_holds_5 : decode bMod_holds 5 = .ok (.iload 4, 2) := by decide +kernel
theorem dMod_holds_7 : decode bMod_holds 7 = .ok (.ifCond .lt 48, 3) := by decide +kernel
theorem dMod_holds_10 : decode bMod_holds 10 = .ok (.iload_n 3, 1) := by decide +kernel
theorem dMod_holds_11 : decode bMod_holds 11 = .ok (.ifCond .ne 32, 3) := by decide +kernel
theorem dMod_holds_14 : decode bMod_holds 14 = .ok (.aload_n 0, 1) := by decide +kernel
theorem dMod_holds_15 : decode bMod_holds 15 = .ok (.getfield 25, 3) := by decide +kernel
theorem dMod_holds_18 : decode bMod_holds 18 = .ok (.iconst 2, 1) := by decide +kernel
theorem dMod_holds_19 : decode bMod_holds 19 = .ok (.iload_n 1, 1) := by decide +kernel
theorem dMod_holds_20 : decode bMod_holds 20 = .ok (.imul, 1) := by decide +kernel
theorem dMod_holds_21 : decode bMod_holds 21 = .ok (.baload, 1) := by decide +kernel
theorem dMod_holds_22 : decode bMod_holds 22 = .ok (.ifCond .eq 8, 3) := by decide +kernel
theorem dMod_holds_25 : decode bMod_holds 25 = .ok (.iload 4, 2) := by decide +kernel
theorem dMod_holds_27 : decode bMod_holds 27 = .ok (.ifCond .ne 20, 3) := by decide +kernel
theorem dMod_holds_30 : decode bMod_holds 30 = .ok (.aload_n 0, 1) := by decide +kernel
theorem dMod_holds_31 : decode bMod_holds 31 = .ok (.iconst 2, 1) := by decide +kernel
theorem dMod_holds_32 : decode bMod_holds 32 = .ok (.iload_n 1, 1) := by decide +kernel
theorem dMod_holds_33 : decode bMod_holds 33 = .ok (.imul, 1) := by decide +kernel
theorem dMod_holds_34 : decode bMod_holds 34 = .ok (.iload 4, 2) := by decide +kernel
theorem dMod_holds_36 : decode bMod_holds 36 = .ok (.iload_n 2, 1) := by decide +kernel
theorem dMod_holds_37 : decode bMod_holds 37 = .ok (.invokevirtual 141, 3) := by decide +kernel
theorem dMod_holds_40 : decode bMod_holds 40 = .ok (.ifCond .eq 7, 3) := by decide +kernel
theorem dMod_holds_43 : decode bMod_holds 43 = .ok (.iconst 1, 1) := by decide +kernel
theorem dMod_holds_44 : decode bMod_holds 44 = .ok (.goto 4, 3) := by decide +kernel
theorem dMod_holds_47 : decode bMod_holds 47 = .ok (.iconst 0, 1) := by decide +kernel
theorem dMod_holds_48 : decode bMod_holds 48 = .ok (.istore_n 3, 1) := by decide +kernel
theorem dMod_holds_49 : decode bMod_holds 49 = .ok (.iinc 4 (-1), 3) := by decide +kernel
theorem dMod_holds_52 : decode bMod_holds 52 = .ok (.goto (-47), 3) := by decide +kernel
theorem dMod_holds_55 : decode bMod_holds 55 = .ok (.iload_n 3, 1) := by decide +kernel
theorem dMod_holds_56 : decode bMod_holds 56 = .ok (.ifCond .ne 5, 3) := by decide +kernel
theorem dMod_holds_59 : decode bMod_holds 59 = .ok (.iconst 0, 1) := by decide +kernel
theorem dMod_holds_60 : decode bMod_holds 60 = .ok (.ireturn, 1) := by decide +kernel
theorem dMod_holds_61 : decode bMod_holds 61 = .ok (.iconst 0, 1) := by decide +kernel
theorem dMod_holds_62 : decode bMod_holds 62 = .ok (.istore 4, 2) := by decide +kernel
theorem dMod_holds_64 : decode bMod_holds 64 = .ok (.iload_n 2, 1) := by decide +kernel
theorem dMod_holds_65 : decode bMod_holds 65 = .ok (.iconst 1, 1) := by decide +kernel
theorem dMod_holds_66 : decode bMod_holds 66 = .ok (.iadd, 1) := by decide +kernel
theorem dMod_holds_67 : decode bMod_holds 67 = .ok (.istore 5, 2) := by decide +kernel
theorem dMod_holds_69 : decode bMod_holds 69 = .ok (.iload 5, 2) := by decide +kernel
theorem dMod_holds_71 : decode bMod_holds 71 = .ok (.aload_n 0, 1) := by decide +kernel
theorem dMod_holds_72 : decode bMod_holds 72 = .ok (.getfield 144, 3) := by decide +kernel
theorem dMod_holds_75 : decode bMod_holds 75 = .ok (.if_icmp .gt 60, 3) := by decide +kernel
theorem dMod_holds_78 : decode bMod_holds 78 = .ok (.iload 4, 2) := by decide +kernel
theorem dMod_holds_80 : decode bMod_holds 80 = .ok (.ifCond .ne 42, 3) := by decide +kernel
theorem dMod_holds_83 : decode bMod_holds 83 = .ok (.aload_n 0, 1) := by decide +kernel
theorem dMod_holds_84 : decode bMod_holds 84 = .ok (.getfield 25, 3) := by decide +kernel
theorem dMod_holds_87 : decode bMod_holds 87 = .ok (.iconst 2, 1) := by decide +kernel
theorem dMod_holds_88 : decode bMod_holds 88 = .ok (.iload_n 1, 1) := by decide +kernel
theorem dMod_holds_89 : decode bMod_holds 89 = .ok (.imul, 1) := by decide +kernel
theorem dMod_holds_90 : decode bMod_holds 90 = .ok (.iconst 1, 1) := by decide +kernel
theorem dMod_holds_91 : decode bMod_holds 91 = .ok (.iadd, 1) := by decide +kernel
theorem dMod_holds_92 : decode bMod_holds 92 = .ok (.baload, 1) := by decide +kernel
theorem dMod_holds_93 : decode bMod_holds 93 = .ok (.ifCond .eq 12, 3) := by decide +kernel
theorem dMod_holds_96 : decode bMod_holds 96 = .ok (.iload 5, 2) := by decide +kernel
theorem dMod_holds_98 : decode bMod_holds 98 = .ok (.aload_n 0, 1) := by decide +kernel
theorem dMod_holds_99 : decode bMod_holds 99 = .ok (.getfield 144, 3) := by decide +kernel
theorem dMod_holds_102 : decode bMod_holds 102 = .ok (.if_icmp .ne 24, 3) := by decide +kernel
theorem dMod_holds_105 : decode bMod_holds 105 = .ok (.aload_n 0, 1) := by decide +kernel
theorem dMod_holds_106 : decode bMod_holds 106 = .ok (.iconst 2, 1) := by decide +kernel
theorem dMod_holds_107 : decode bMod_holds 107 = .ok (.iload_n 1, 1) := by decide +kernel
theorem dMod_holds_108 : decode bMod_holds 108 = .ok (.imul, 1) := by decide +kernel
theorem dMod_holds_109 : decode bMod_holds 109 = .ok (.iconst 1, 1) := by decide +kernel
theorem dMod_holds_110 : decode bMod_holds 110 = .ok (.iadd, 1) := by decide +kernel
theorem dMod_holds_111 : decode bMod_holds 111 = .ok (.iload_n 2, 1) := by decide +kernel
theorem dMod_holds_112 : decode bMod_holds 112 = .ok (.iconst 1, 1) := by decide +kernel
theorem dMod_holds_113 : decode bMod_holds 113 = .ok (.iadd, 1) := by decide +kernel
theorem dMod_holds_114 : decode bMod_holds 114 = .ok (.iload 5, 2) := by decide +kernel
theorem dMod_holds_116 : decode bMod_holds 116 = .ok (.invokevirtual 141, 3) := by decide +kernel
theorem dMod_holds_119 : decode bMod_holds 119 = .ok (.ifCond .eq 7, 3) := by decide +kernel
theorem dMod_holds_122 : decode bMod_holds 122 = .ok (.iconst 1, 1) := by decide +kernel
theorem dMod_holds_123 : decode bMod_holds 123 = .ok (.goto 4, 3) := by decide +kernel
theorem dMod_holds_126 : decode bMod_holds 126 = .ok (.iconst 0, 1) := by decide +kernel
theorem dMod_holds_127 : decode bMod_holds 127 = .ok (.istore 4, 2) := by decide +kernel
theorem dMod_holds_129 : decode bMod_holds 129 = .ok (.iinc 5 1, 3) := by decide +kernel
theorem dMod_holds_132 : decode bMod_holds 132 = .ok (.goto (-63), 3) := by decide +kernel
theorem dMod_holds_135 : decode bMod_holds 135 = .ok (.iload 4, 2) := by decide +kernel
theorem dMod_holds_137 : decode bMod_holds 137 = .ok (.ireturn, 1) := by decide +kernel
theorem dMod_isKept_0 : decode bMod_isKept 0 = .ok (.iconst 0, 1) := by decide +kernel
theorem dMod_isKept_1 : decode bMod_isKept 1 = .ok (.istore_n 2, 1) := by decide +kernel
theorem dMod_isKept_2 : decode bMod_isKept 2 = .ok (.iload_n 2, 1) := by decide +kernel
theorem dMod_isKept_3 : decode bMod_isKept 3 = .ok (.aload_n 0, 1) := by decide +kernel
theorem dMod_isKept_4 : decode bMod_isKept 4 = .ok (.getfield 144, 3) := by decide +kernel
theorem dMod_isKept_7 : decode bMod_isKept 7 = .ok (.if_icmp .ge 198, 3) := by decide +kernel
theorem dMod_isKept_10 : decode bMod_isKept 10 = .ok (.aload_n 0, 1) := by decide +kernel
theorem dMod_isKept_11 : decode bMod_isKept 11 = .ok (.getfield 92, 3) := by decide +kernel
theorem dMod_isKept_14 : decode bMod_isKept 14 = .ok (.iload_n 2, 1) := by decide +kernel
theorem dMod_isKept_15 : decode bMod_isKept 15 = .ok (.iaload, 1) := by decide +kernel
theorem dMod_isKept_16 : decode bMod_isKept 16 = .ok (.aload_n 0, 1) := by decide +kernel
theorem dMod_isKept_17 : decode bMod_isKept 17 = .ok (.getfield 19, 3) := by decide +kernel
theorem dMod_isKept_20 : decode bMod_isKept 20 = .ok (.iload_n 1, 1) := by decide +kernel
theorem dMod_isKept_21 : decode bMod_isKept 21 = .ok (.iaload, 1) := by decide +kernel
theorem dMod_isKept_22 : decode bMod_isKept 22 = .ok (.if_icmp .ne 7, 3) := by decide +kernel
theorem dMod_isKept_25 : decode bMod_isKept 25 = .ok (.iconst 1, 1) := by decide +kernel
theorem dMod_isKept_26 : decode bMod_isKept 26 = .ok (.goto 4, 3) := by decide +kernel
theorem dMod_isKept_29 : decode bMod_isKept 29 = .ok (.iconst 0, 1) := by decide +kernel
theorem dMod_isKept_30 : decode bMod_isKept 30 = .ok (.istore_n 3, 1) := by decide +kernel
theorem dMod_isKept_31 : decode bMod_isKept 31 = .ok (.iload_n 3, 1) := by decide +kernel
theorem dMod_isKept_32 : decode bMod_isKept 32 = .ok (.ifCond .ne 28, 3) := by decide +kernel
theorem dMod_isKept_35 : decode bMod_isKept 35 = .ok (.aload_n 0, 1) := by decide +kernel
theorem dMod_isKept_36 : decode bMod_isKept 36 = .ok (.getfield 7, 3) := by decide +kernel
theorem dMod_isKept_39 : decode bMod_isKept 39 = .ok (.aload_n 0, 1) := by decide +kernel
theorem dMod_isKept_40 : decode bMod_isKept 40 = .ok (.getfield 92, 3) := by decide +kernel
theorem dMod_isKept_43 : decode bMod_isKept 43 = .ok (.iload_n 2, 1) := by decide +kernel
theorem dMod_isKept_44 : decode bMod_isKept 44 = .ok (.iaload, 1) := by decide +kernel
theorem dMod_isKept_45 : decode bMod_isKept 45 = .ok (.iaload, 1) := by decide +kernel
theorem dMod_isKept_46 : decode bMod_isKept 46 = .ok (.aload_n 0, 1) := by decide +kernel
theorem dMod_isKept_47 : decode bMod_isKept 47 = .ok (.getfield 7, 3) := by decide +kernel
theorem dMod_isKept_50 : decode bMod_isKept 50 = .ok (.aload_n 0, 1) := by decide +kernel
theorem dMod_isKept_51 : decode bMod_isKept 51 = .ok (.getfield 19, 3) := by decide +kernel
theorem dMod_isKept_54 : decode bMod_isKept 54 = .ok (.iload_n 1, 1) := by decide +kernel
theorem dMod_isKept_55 : decode bMod_isKept 55 = .ok (.iaload, 1) := by decide +kernel
theorem dMod_isKept_56 : decode bMod_isKept 56 = .ok (.iaload, 1) := by decide +kernel
theorem dMod_isKept_57 : decode bMod_isKept 57 = .ok (.if_icmp .ne 142, 3) := by decide +kernel
theorem dMod_isKept_60 : decode bMod_isKept 60 = .ok (.iconst 0, 1) := by decide +kernel
theorem dMod_isKept_61 : decode bMod_isKept 61 = .ok (.istore 4, 2) := by decide +kernel
theorem dMod_isKept_63 : decode bMod_isKept 63 = .ok (.iconst 0, 1) := by decide +kernel
theorem dMod_isKept_64 : decode bMod_isKept 64 = .ok (.istore 5, 2) := by decide +kernel
theorem dMod_isKept_66 : decode bMod_isKept 66 = .ok (.iload 5, 2) := by decide +kernel
theorem dMod_isKept_68 : decode bMod_isKept 68 = .ok (.aload_n 0, 1) := by decide +kernel
theorem dMod_isKept_69 : decode bMod_isKept 69 = .ok (.getfield 22, 3) := by decide +kernel
theorem dMod_isKept_72 : decode bMod_isKept 72 = .ok (.iload_n 1, 1) := by decide +kernel
theorem dMod_isKept_73 : decode bMod_isKept 73 = .ok (.iaload, 1) := by decide +kernel
theorem dMod_isKept_74 : decode bMod_isKept 74 = .ok (.if_icmp .ge 35, 3) := by decide +kernel
theorem dMod_isKept_77 : decode bMod_isKept 77 = .ok (.iload 4, 2) := by decide +kernel
theorem dMod_isKept_79 : decode bMod_isKept 79 = .ok (.ifCond .ne 17, 3) := by decide +kernel
theorem dMod_isKept_82 : decode bMod_isKept 82 = .ok (.aload_n 0, 1) := by decide +kernel
theorem dMod_isKept_83 : decode bMod_isKept 83 = .ok (.iconst 2, 1) := by decide +kernel
theorem dMod_isKept_84 : decode bMod_isKept 84 = .ok (.iload_n 1, 1) := by decide +kernel
theorem dMod_isKept_85 : decode bMod_isKept 85 = .ok (.imul, 1) := by decide +kernel
theorem dMod_isKept_86 : decode bMod_isKept 86 = .ok (.iload 5, 2) := by decide +kernel
theorem dMod_isKept_88 : decode bMod_isKept 88 = .ok (.iadd, 1) := by decide +kernel
theorem dMod_isKept_89 : decode bMod_isKept 89 = .ok (.iload_n 2, 1) := by decide +kernel
theorem dMod_isKept_90 : decode bMod_isKept 90 = .ok (.invokevirtual 147, 3) := by decide +kernel
theorem dMod_isKept_93 : decode bMod_isKept 93 = .ok (.ifCond .eq 7, 3) := by decide +kernel
theorem dMod_isKept_96 : decode bMod_isKept 96 = .ok (.iconst 1, 1) := by decide +kernel
theorem dMod_isKept_97 : decode bMod_isKept 97 = .ok (.goto 4, 3) := by decide +kernel
theorem dMod_isKept_100 : decode bMod_isKept 100 = .ok (.iconst 0, 1) := by decide +kernel
theorem dMod_isKept_101 : decode bMod_isKept 101 = .ok (.istore 4, 2) := by decide +kernel
theorem dMod_isKept_103 : decode bMod_isKept 103 = .ok (.iinc 5 1, 3) := by decide +kernel
theorem dMod_isKept_106 : decode bMod_isKept 106 = .ok (.goto (-40), 3) := by decide +kernel
theorem dMod_isKept_109 : decode bMod_isKept 109 = .ok (.aload_n 0, 1) := by decide +kernel
theorem dMod_isKept_110 : decode bMod_isKept 110 = .ok (.getfield 16, 3) := by decide +kernel
theorem dMod_isKept_113 : decode bMod_isKept 113 = .ok (.iload_n 1, 1) := by decide +kernel
theorem dMod_isKept_114 : decode bMod_isKept 114 = .ok (.iaload, 1) := by decide +kernel
theorem dMod_isKept_115 : decode bMod_isKept 115 = .ok (.istore 5, 2) := by decide +kernel
theorem dMod_isKept_117 : decode bMod_isKept 117 = .ok (.iload_n 3, 1) := by decide +kernel
theorem dMod_isKept_118 : decode bMod_isKept 118 = .ok (.ifCond .eq 23, 3) := by decide +kernel
theorem dMod_isKept_121 : decode bMod_isKept 121 = .ok (.iload 5, 2) := by decide +kernel
theorem dMod_isKept_123 : decode bMod_isKept 123 = .ok (.ifCond .eq 9, 3) := by decide +kernel
theorem dMod_isKept_126 : decode bMod_isKept 126 = .ok (.iload 5, 2) := by decide +kernel
theorem dMod_isKept_128 : decode bMod_isKept 128 = .ok (.iconst 2, 1) := by decide +kernel
theorem dMod_isKept_129 : decode bMod_isKept 129 = .ok (.if_icmp .ne 12, 3) := by decide +kernel
theorem dMod_isKept_132 : decode bMod_isKept 132 = .ok (.iload 4, 2) := by decide +kernel
theorem dMod_isKept_134 : decode bMod_isKept 134 = .ok (.ifCond .ne 7, 3) := by decide +kernel
theorem dMod_isKept_137 : decode bMod_isKept 137 = .ok (.iconst 1, 1) := by decide +kernel
theorem dMod_isKept_138 : decode bMod_isKept 138 = .ok (.goto 4, 3) := by decide +kernel
theorem dMod_isKept_141 : decode bMod_isKept 141 = .ok (.iconst 0, 1) := by decide +kernel
theorem dMod_isKept_142 : decode bMod_isKept 142 = .ok (.istore 6, 2) := by decide +kernel
theorem dMod_isKept_144 : decode bMod_isKept 144 = .ok (.iload 6, 2) := by decide +kernel
theorem dMod_isKept_146 : decode bMod_isKept 146 = .ok (.ifCond .ne 24, 3) := by decide +kernel
theorem dMod_isKept_149 : decode bMod_isKept 149 = .ok (.iload_n 3, 1) := by decide +kernel
theorem dMod_isKept_150 : decode bMod_isKept 150 = .ok (.ifCond .ne 24, 3) := by decide +kernel
theorem dMod_isKept_153 : decode bMod_isKept 153 = .ok (.iload 5, 2) := by decide +kernel
theorem dMod_isKept_155 : decode bMod_isKept 155 = .ok (.iconst 1, 1) := by decide +kernel
theorem dMod_isKept_156 : decode bMod_isKept 156 = .ok (.if_icmp .eq 9, 3) := by decide +kernel
theorem dMod_isKept_159 : decode bMod_isKept 159 = .ok (.iload 5, 2) := by decide +kernel
theorem dMod_isKept_161 : decode bMod_isKept 161 = .ok (.iconst 2, 1) := by decide +kernel
theorem dMod_isKept_162 : decode bMod_isKept 162 = .ok (.if_icmp .ne 12, 3) := by decide +kernel
theorem dMod_isKept_165 : decode bMod_isKept 165 = .ok (.iload 4, 2) := by decide +kernel
theorem dMod_isKept_167 : decode bMod_isKept 167 = .ok (.ifCond .eq 7, 3) := by decide +kernel
theorem dMod_isKept_170 : decode bMod_isKept 170 = .ok (.iconst 1, 1) := by decide +kernel
theorem dMod_isKept_171 : decode bMod_isKept 171 = .ok (.goto 4, 3) := by decide +kernel
theorem dMod_isKept_174 : decode bMod_isKept 174 = .ok (.iconst 0, 1) := by decide +kernel
theorem dMod_isKept_175 : decode bMod_isKept 175 = .ok (.istore 6, 2) := by decide +kernel
theorem dMod_isKept_177 : decode bMod_isKept 177 = .ok (.iload 6, 2) := by decide +kernel
theorem dMod_isKept_179 : decode bMod_isKept 179 = .ok (.ifCond .ne 18, 3) := by decide +kernel
theorem dMod_isKept_182 : decode bMod_isKept 182 = .ok (.iload_n 3, 1) := by decide +kernel
theorem dMod_isKept_183 : decode bMod_isKept 183 = .ok (.ifCond .eq 16, 3) := by decide +kernel
theorem dMod_isKept_186 : decode bMod_isKept 186 = .ok (.iload 5, 2) := by decide +kernel
theorem dMod_isKept_188 : decode bMod_isKept 188 = .ok (.iconst 3, 1) := by decide +kernel
theorem dMod_isKept_189 : decode bMod_isKept 189 = .ok (.if_icmp .ne 10, 3) := by decide +kernel
theorem dMod_isKept_192 : decode bMod_isKept 192 = .ok (.iload 4, 2) := by decide +kernel
theorem dMod_isKept_194 : decode bMod_isKept 194 = .ok (.ifCond .eq 5, 3) := by decide +kernel
theorem dMod_isKept_197 : decode bMod_isKept 197 = .ok (.iconst 0, 1) := by decide +kernel
theorem dMod_isKept_198 : decode bMod_isKept 198 = .ok (.ireturn, 1) := by decide +kernel
theorem dMod_isKept_199 : decode bMod_isKept 199 = .ok (.iinc 2 1, 3) := by decide +kernel
theorem dMod_isKept_202 : decode bMod_isKept 202 = .ok (.goto (-200), 3) := by decide +kernel
theorem dMod_isKept_205 : decode bMod_isKept 205 = .ok (.iconst 1, 1) := by decide +kernel
theorem dMod_isKept_206 : decode bMod_isKept 206 = .ok (.ireturn, 1) := by decide +kernel
theorem dMod_keepsAll_0 : decode bMod_keepsAll 0 = .ok (.iconst 1, 1) := by decide +kernel
theorem dMod_keepsAll_1 : decode bMod_keepsAll 1 = .ok (.istore_n 1, 1) := by decide +kernel
theorem dMod_keepsAll_2 : decode bMod_keepsAll 2 = .ok (.iconst 0, 1) := by decide +kernel
theorem dMod_keepsAll_3 : decode bMod_keepsAll 3 = .ok (.istore_n 2, 1) := by decide +kernel
theorem dMod_keepsAll_4 : decode bMod_keepsAll 4 = .ok (.iload_n 2, 1) := by decide +kernel
theorem dMod_keepsAll_5 : decode bMod_keepsAll 5 = .ok (.aload_n 0, 1) := by decide +kernel
theorem dMod_keepsAll_6 : decode bMod_keepsAll 6 = .ok (.getfield 121, 3) := by decide +kernel
theorem dMod_keepsAll_9 : decode bMod_keepsAll 9 = .ok (.if_icmp .ge 27, 3) := by decide +kernel
theorem dMod_keepsAll_12 : decode bMod_keepsAll 12 = .ok (.iload_n 1, 1) := by decide +kernel
theorem dMod_keepsAll_13 : decode bMod_keepsAll 13 = .ok (.ifCond .eq 15, 3) := by decide +kernel
theorem dMod_keepsAll_16 : decode bMod_keepsAll 16 = .ok (.aload_n 0, 1) := by decide +kernel
theorem dMod_keepsAll_17 : decode bMod_keepsAll 17 = .ok (.iload_n 2, 1) := by decide +kernel
theorem dMod_keepsAll_18 : decode bMod_keepsAll 18 = .ok (.invokevirtual 150, 3) := by decide +kernel
theorem dMod_keepsAll_21 : decode bMod_keepsAll 21 = .ok (.ifCond .eq 7, 3) := by decide +kernel
theorem dMod_keepsAll_24 : decode bMod_keepsAll 24 = .ok (.iconst 1, 1) := by decide +kernel
theorem dMod_keepsAll_25 : decode bMod_keepsAll 25 = .ok (.goto 4, 3) := by decide +kernel
theorem dMod_keepsAll_28 : decode bMod_keepsAll 28 = .ok (.iconst 0, 1) := by decide +kernel
theorem dMod_keepsAll_29 : decode bMod_keepsAll 29 = .ok (.istore_n 1, 1) := by decide +kernel
theorem dMod_keepsAll_30 : decode bMod_keepsAll 30 = .ok (.iinc 2 1, 3) := by decide +kernel
theorem dMod_keepsAll_33 : decode bMod_keepsAll 33 = .ok (.goto (-29), 3) := by decide +kernel
theorem dMod_keepsAll_36 : decode bMod_keepsAll 36 = .ok (.iload_n 1, 1) := by decide +kernel
theorem dMod_keepsAll_37 : decode bMod_keepsAll 37 = .ok (.ireturn, 1) := by decide +kernel
theorem dMod_begin_0 : decode bMod_begin 0 = .ok (.aload_n 0, 1) := by decide +kernel
theorem dMod_begin_1 : decode bMod_begin 1 = .ok (.iconst 0, 1) := by decide +kernel
theorem dMod_begin_2 : decode bMod_begin 2 = .ok (.putfield 144, 3) := by decide +kernel
theorem dMod_begin_5 : decode bMod_begin 5 = .ok (.aload_n 0, 1) := by decide +kernel
theorem dMod_begin_6 : decode bMod_begin 6 = .ok (.getfield 95, 3) := by decide +kernel
theorem dMod_begin_9 : decode bMod_begin 9 = .ok (.iconst 0, 1) := by decide +kernel
theorem dMod_begin_10 : decode bMod_begin 10 = .ok (.iconst 0, 1) := by decide +kernel
theorem dMod_begin_11 : decode bMod_begin 11 = .ok (.iastore, 1) := by decide +kernel
theorem dMod_begin_12 : decode bMod_begin 12 = .ok (.aload_n 0, 1) := by decide +kernel
theorem dMod_begin_13 : decode bMod_begin 13 = .ok (.getfield 98, 3) := by decide +kernel
theorem dMod_begin_16 : decode bMod_begin 16 = .ok (.iconst 0, 1) := by decide +kernel
theorem dMod_begin_17 : decode bMod_begin 17 = .ok (.iconst 0, 1) := by decide +kernel
theorem dMod_begin_18 : decode bMod_begin 18 = .ok (.iastore, 1) := by decide +kernel
theorem dMod_begin_19 : decode bMod_begin 19 = .ok (.aload_n 0, 1) := by decide +kernel
theorem dMod_begin_20 : decode bMod_begin 20 = .ok (.getfield 101, 3) := by decide +kernel
theorem dMod_begin_23 : decode bMod_begin 23 = .ok (.iconst 0, 1) := by decide +kernel
theorem dMod_begin_24 : decode bMod_begin 24 = .ok (.iconst 0, 1) := by decide +kernel
theorem dMod_begin_25 : decode bMod_begin 25 = .ok (.iastore, 1) := by decide +kernel
theorem dMod_begin_26 : decode bMod_begin 26 = .ok (.return_, 1) := by decide +kernel
theorem dMod_mayCome_0 : decode bMod_mayCome 0 = .ok (.aload_n 0, 1) := by decide +kernel
theorem dMod_mayCome_1 : decode bMod_mayCome 1 = .ok (.getfield 98, 3) := by decide +kernel
theorem dMod_mayCome_4 : decode bMod_mayCome 4 = .ok (.aload_n 0, 1) := by decide +kernel
theorem dMod_mayCome_5 : decode bMod_mayCome 5 = .ok (.getfield 144, 3) := by decide +kernel
theorem dMod_mayCome_8 : decode bMod_mayCome 8 = .ok (.iaload, 1) := by decide +kernel
theorem dMod_mayCome_9 : decode bMod_mayCome 9 = .ok (.istore_n 3, 1) := by decide +kernel
theorem dMod_mayCome_10 : decode bMod_mayCome 10 = .ok (.aload_n 0, 1) := by decide +kernel
theorem dMod_mayCome_11 : decode bMod_mayCome 11 = .ok (.getfield 101, 3) := by decide +kernel
theorem dMod_mayCome_14 : decode bMod_mayCome 14 = .ok (.aload_n 0, 1) := by decide +kernel
theorem dMod_mayCome_15 : decode bMod_mayCome 15 = .ok (.getfield 144, 3) := by decide +kernel
theorem dMod_mayCome_18 : decode bMod_mayCome 18 = .ok (.iaload, 1) := by decide +kernel
theorem dMod_mayCome_19 : decode bMod_mayCome 19 = .ok (.istore 4, 2) := by decide +kernel
theorem dMod_mayCome_21 : decode bMod_mayCome 21 = .ok (.aload_n 0, 1) := by decide +kernel
theorem dMod_mayCome_22 : decode bMod_mayCome 22 = .ok (.getfield 7, 3) := by decide +kernel
theorem dMod_mayCome_25 : decode bMod_mayCome 25 = .ok (.iload_n 1, 1) := by decide +kernel
theorem dMod_mayCome_26 : decode bMod_mayCome 26 = .ok (.iaload, 1) := by decide +kernel
theorem dMod_mayCome_27 : decode bMod_mayCome 27 = .ok (.ifCond .ne 37, 3) := by decide +kernel
theorem dMod_mayCome_30 : decode bMod_mayCome 30 = .ok (.aload_n 0, 1) := by decide +kernel
theorem dMod_mayCome_31 : decode bMod_mayCome 31 = .ok (.getfield 144, 3) := by decide +kernel
theorem dMod_mayCome_34 : decode bMod_mayCome 34 = .ok (.ifCond .eq 22, 3) := by decide +kernel
theorem dMod_mayCome_37 : decode bMod_mayCome 37 = .ok (.aload_n 0, 1) := by decide +kernel
theorem dMod_mayCome_38 : decode bMod_mayCome 38 = .ok (.getfield 7, 3) := by decide +kernel
theorem dMod_mayCome_41 : decode bMod_mayCome 41 = .ok (.aload_n 0, 1) := by decide +kernel
theorem dMod_mayCome_42 : decode bMod_mayCome 42 = .ok (.getfield 92, 3) := by decide +kernel
theorem dMod_mayCome_45 : decode bMod_mayCome 45 = .ok (.aload_n 0, 1) := by decide +kernel
theorem dMod_mayCome_46 : decode bMod_mayCome 46 = .ok (.getfield 144, 3) := by decide +kernel
theorem dMod_mayCome_49 : decode bMod_mayCome 49 = .ok (.iconst 1, 1) := by decide +kernel
theorem dMod_mayCome_50 : decode bMod_mayCome 50 = .ok (.isub, 1) := by decide +kernel
theorem dMod_mayCome_51 : decode bMod_mayCome 51 = .ok (.iaload, 1) := by decide +kernel
theorem dMod_mayCome_52 : decode bMod_mayCome 52 = .ok (.iaload, 1) := by decide +kernel
theorem dMod_mayCome_53 : decode bMod_mayCome 53 = .ok (.ifCond .le 7, 3) := by decide +kernel
theorem dMod_mayCome_56 : decode bMod_mayCome 56 = .ok (.iconst 1, 1) := by decide +kernel
theorem dMod_mayCome_57 : decode bMod_mayCome 57 = .ok (.goto 35, 3) := by decide +kernel
theorem dMod_mayCome_60 : decode bMod_mayCome 60 = .ok (.iconst 0, 1) := by decide +kernel
theorem dMod_mayCome_61 : decode bMod_mayCome 61 = .ok (.goto 31, 3) := by decide +kernel
theorem dMod_mayCome_64 : decode bMod_mayCome 64 = .ok (.iload_n 3, 1) := by decide +kernel
theorem dMod_mayCome_65 : decode bMod_mayCome 65 = .ok (.aload_n 0, 1) := by decide +kernel
theorem dMod_mayCome_66 : decode bMod_mayCome 66 = .ok (.getfield 153, 3) := by decide +kernel
theorem dMod_mayCome_69 : decode bMod_mayCome 69 = .ok (.if_icmp .ge 22, 3) := by decide +kernel
theorem dMod_mayCome_72 : decode bMod_mayCome 72 = .ok (.aload_n 0, 1) := by decide +kernel
theorem dMod_mayCome_73 : decode bMod_mayCome 73 = .ok (.getfield 86, 3) := by decide +kernel
theorem dMod_mayCome_76 : decode bMod_mayCome 76 = .ok (.iload_n 3, 1) := by decide +kernel
theorem dMod_mayCome_77 : decode bMod_mayCome 77 = .ok (.iaload, 1) := by decide +kernel
theorem dMod_mayCome_78 : decode bMod_mayCome 78 = .ok (.aload_n 0, 1) := by decide +kernel
theorem dMod_mayCome_79 : decode bMod_mayCome 79 = .ok (.getfield 7, 3) := by decide +kernel
theorem dMod_mayCome_82 : decode bMod_mayCome 82 = .ok (.iload_n 1, 1) := by decide +kernel
theorem dMod_mayCome_83 : decode bMod_mayCome 83 = .ok (.iaload, 1) := by decide +kernel
theorem dMod_mayCome_84 : decode bMod_mayCome 84 = .ok (.if_icmp .ne 7, 3) := by decide +kernel
theorem dMod_mayCome_87 : decode bMod_mayCome 87 = .ok (.iconst 1, 1) := by decide +kernel
theorem dMod_mayCome_88 : decode bMod_mayCome 88 = .ok (.goto 4, 3) := by decide +kernel
theorem dMod_mayCome_91 : decode bMod_mayCome 91 = .ok (.iconst 0, 1) := by decide +kernel
theorem dMod_mayCome_92 : decode bMod_mayCome 92 = .ok (.istore 5, 2) := by decide +kernel
theorem dMod_mayCome_94 : decode bMod_mayCome 94 = .ok (.iload 5, 2) := by decide +kernel
theorem dMod_mayCome_96 : decode bMod_mayCome 96 = .ok (.ifCond .eq 53, 3) := by decide +kernel
theorem dMod_mayCome_99 : decode bMod_mayCome 99 = .ok (.aload_n 0, 1) := by decide +kernel
theorem dMod_mayCome_100 : decode bMod_mayCome 100 = .ok (.getfield 13, 3) := by decide +kernel
theorem dMod_mayCome_103 : decode bMod_mayCome 103 = .ok (.iload_n 1, 1) := by decide +kernel
theorem dMod_mayCome_104 : decode bMod_mayCome 104 = .ok (.iaload, 1) := by decide +kernel
theorem dMod_mayCome_105 : decode bMod_mayCome 105 = .ok (.ifCond .eq 40, 3) := by decide +kernel
theorem dMod_mayCome_108 : decode bMod_mayCome 108 = .ok (.iload 4, 2) := by decide +kernel
theorem dMod_mayCome_110 : decode bMod_mayCome 110 = .ok (.iload_n 2, 1) := by decide +kernel
theorem dMod_mayCome_111 : decode bMod_mayCome 111 = .ok (.ifCond .eq 10, 3) := by decide +kernel
theorem dMod_mayCome_114 : decode bMod_mayCome 114 = .ok (.aload_n 0, 1) := by decide +kernel
theorem dMod_mayCome_115 : decode bMod_mayCome 115 = .ok (.getfield 156, 3) := by decide +kernel
theorem dMod_mayCome_118 : decode bMod_mayCome 118 = .ok (.goto 4, 3) := by decide +kernel
theorem dMod_mayCome_121 : decode bMod_mayCome 121 = .ok (.iconst 5, 1) := by decide +kernel
