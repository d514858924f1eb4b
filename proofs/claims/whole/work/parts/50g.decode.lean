theorem dX8_areLike_216 : decode cX8_areLike 216 = .ok (.iload_n 3, 1) := by decide +kernel
theorem dX8_areLike_217 : decode cX8_areLike 217 = .ok (.aload_n 0, 1) := by decide +kernel
theorem dX8_areLike_218 : decode cX8_areLike 218 = .ok (.getfield 24, 3) := by decide +kernel
theorem dX8_areLike_221 : decode cX8_areLike 221 = .ok (.iload 6, 2) := by decide +kernel
theorem dX8_areLike_223 : decode cX8_areLike 223 = .ok (.iaload, 1) := by decide +kernel
theorem dX8_areLike_224 : decode cX8_areLike 224 = .ok (.iastore, 1) := by decide +kernel
theorem dX8_areLike_225 : decode cX8_areLike 225 = .ok (.iinc 3 1, 3) := by decide +kernel
theorem dX8_areLike_228 : decode cX8_areLike 228 = .ok (.iload 7, 2) := by decide +kernel
theorem dX8_areLike_230 : decode cX8_areLike 230 = .ok (.iconst 5, 1) := by decide +kernel
theorem dX8_areLike_231 : decode cX8_areLike 231 = .ok (.if_icmp .le 32, 3) := by decide +kernel
theorem dX8_areLike_234 : decode cX8_areLike 234 = .ok (.aload_n 0, 1) := by decide +kernel
theorem dX8_areLike_235 : decode cX8_areLike 235 = .ok (.getfield 89, 3) := by decide +kernel
theorem dX8_areLike_238 : decode cX8_areLike 238 = .ok (.iload_n 3, 1) := by decide +kernel
theorem dX8_areLike_239 : decode cX8_areLike 239 = .ok (.aload_n 0, 1) := by decide +kernel
theorem dX8_areLike_240 : decode cX8_areLike 240 = .ok (.getfield 21, 3) := by decide +kernel
theorem dX8_areLike_243 : decode cX8_areLike 243 = .ok (.iload 5, 2) := by decide +kernel
theorem dX8_areLike_245 : decode cX8_areLike 245 = .ok (.iaload, 1) := by decide +kernel
theorem dX8_areLike_246 : decode cX8_areLike 246 = .ok (.iastore, 1) := by decide +kernel
theorem dX8_areLike_247 : decode cX8_areLike 247 = .ok (.aload_n 0, 1) := by decide +kernel
theorem dX8_areLike_248 : decode cX8_areLike 248 = .ok (.getfield 92, 3) := by decide +kernel
theorem dX8_areLike_251 : decode cX8_areLike 251 = .ok (.iload_n 3, 1) := by decide +kernel
theorem dX8_areLike_252 : decode cX8_areLike 252 = .ok (.aload_n 0, 1) := by decide +kernel
theorem dX8_areLike_253 : decode cX8_areLike 253 = .ok (.getfield 21, 3) := by decide +kernel
theorem dX8_areLike_256 : decode cX8_areLike 256 = .ok (.iload 6, 2) := by decide +kernel
theorem dX8_areLike_258 : decode cX8_areLike 258 = .ok (.iaload, 1) := by decide +kernel
theorem dX8_areLike_259 : decode cX8_areLike 259 = .ok (.iastore, 1) := by decide +kernel
theorem dX8_areLike_260 : decode cX8_areLike 260 = .ok (.iinc 3 1, 3) := by decide +kernel
theorem dX8_areLike_263 : decode cX8_areLike 263 = .ok (.goto (-244), 3) := by decide +kernel
theorem dX8_areLike_266 : decode cX8_areLike 266 = .ok (.iload 4, 2) := by decide +kernel
theorem dX8_areLike_268 : decode cX8_areLike 268 = .ok (.ireturn, 1) := by decide +kernel
theorem dX8_findAtom_0 : decode cX8_findAtom 0 = .ok (.aload_n 0, 1) := by decide +kernel
theorem dX8_findAtom_1 : decode cX8_findAtom 1 = .ok (.getfield 17, 3) := by decide +kernel
theorem dX8_findAtom_4 : decode cX8_findAtom 4 = .ok (.iload_n 1, 1) := by decide +kernel
theorem dX8_findAtom_5 : decode cX8_findAtom 5 = .ok (.iaload, 1) := by decide +kernel
theorem dX8_findAtom_6 : decode cX8_findAtom 6 = .ok (.iconst 5, 1) := by decide +kernel
theorem dX8_findAtom_7 : decode cX8_findAtom 7 = .ok (.if_icmp .ne 7, 3) := by decide +kernel
theorem dX8_findAtom_10 : decode cX8_findAtom 10 = .ok (.iconst 1, 1) := by decide +kernel
theorem dX8_findAtom_11 : decode cX8_findAtom 11 = .ok (.goto 4, 3) := by decide +kernel
theorem dX8_findAtom_14 : decode cX8_findAtom 14 = .ok (.iconst 0, 1) := by decide +kernel
theorem dX8_findAtom_15 : decode cX8_findAtom 15 = .ok (.istore_n 2, 1) := by decide +kernel
theorem dX8_findAtom_16 : decode cX8_findAtom 16 = .ok (.aload_n 0, 1) := by decide +kernel
theorem dX8_findAtom_17 : decode cX8_findAtom 17 = .ok (.getfield 24, 3) := by decide +kernel
theorem dX8_findAtom_20 : decode cX8_findAtom 20 = .ok (.iload_n 1, 1) := by decide +kernel
theorem dX8_findAtom_21 : decode cX8_findAtom 21 = .ok (.iaload, 1) := by decide +kernel
theorem dX8_findAtom_22 : decode cX8_findAtom 22 = .ok (.istore_n 3, 1) := by decide +kernel
theorem dX8_findAtom_23 : decode cX8_findAtom 23 = .ok (.iload_n 2, 1) := by decide +kernel
theorem dX8_findAtom_24 : decode cX8_findAtom 24 = .ok (.ifCond .eq 22, 3) := by decide +kernel
theorem dX8_findAtom_27 : decode cX8_findAtom 27 = .ok (.aload_n 0, 1) := by decide +kernel
theorem dX8_findAtom_28 : decode cX8_findAtom 28 = .ok (.getfield 17, 3) := by decide +kernel
theorem dX8_findAtom_31 : decode cX8_findAtom 31 = .ok (.iload_n 3, 1) := by decide +kernel
theorem dX8_findAtom_32 : decode cX8_findAtom 32 = .ok (.iaload, 1) := by decide +kernel
theorem dX8_findAtom_33 : decode cX8_findAtom 33 = .ok (.iconst 3, 1) := by decide +kernel
theorem dX8_findAtom_34 : decode cX8_findAtom 34 = .ok (.if_icmp .ne 12, 3) := by decide +kernel
theorem dX8_findAtom_37 : decode cX8_findAtom 37 = .ok (.iconst 0, 1) := by decide +kernel
theorem dX8_findAtom_38 : decode cX8_findAtom 38 = .ok (.istore_n 2, 1) := by decide +kernel
theorem dX8_findAtom_39 : decode cX8_findAtom 39 = .ok (.aload_n 0, 1) := by decide +kernel
theorem dX8_findAtom_40 : decode cX8_findAtom 40 = .ok (.getfield 24, 3) := by decide +kernel
theorem dX8_findAtom_43 : decode cX8_findAtom 43 = .ok (.iload_n 3, 1) := by decide +kernel
theorem dX8_findAtom_44 : decode cX8_findAtom 44 = .ok (.iaload, 1) := by decide +kernel
theorem dX8_findAtom_45 : decode cX8_findAtom 45 = .ok (.istore_n 3, 1) := by decide +kernel
theorem dX8_findAtom_46 : decode cX8_findAtom 46 = .ok (.iload_n 2, 1) := by decide +kernel
theorem dX8_findAtom_47 : decode cX8_findAtom 47 = .ok (.ifCond .ne 22, 3) := by decide +kernel
theorem dX8_findAtom_50 : decode cX8_findAtom 50 = .ok (.aload_n 0, 1) := by decide +kernel
theorem dX8_findAtom_51 : decode cX8_findAtom 51 = .ok (.getfield 17, 3) := by decide +kernel
theorem dX8_findAtom_54 : decode cX8_findAtom 54 = .ok (.iload_n 3, 1) := by decide +kernel
theorem dX8_findAtom_55 : decode cX8_findAtom 55 = .ok (.iaload, 1) := by decide +kernel
theorem dX8_findAtom_56 : decode cX8_findAtom 56 = .ok (.iconst 3, 1) := by decide +kernel
theorem dX8_findAtom_57 : decode cX8_findAtom 57 = .ok (.if_icmp .ne 12, 3) := by decide +kernel
theorem dX8_findAtom_60 : decode cX8_findAtom 60 = .ok (.iconst 1, 1) := by decide +kernel
theorem dX8_findAtom_61 : decode cX8_findAtom 61 = .ok (.istore_n 2, 1) := by decide +kernel
theorem dX8_findAtom_62 : decode cX8_findAtom 62 = .ok (.aload_n 0, 1) := by decide +kernel
theorem dX8_findAtom_63 : decode cX8_findAtom 63 = .ok (.getfield 24, 3) := by decide +kernel
theorem dX8_findAtom_66 : decode cX8_findAtom 66 = .ok (.iload_n 3, 1) := by decide +kernel
theorem dX8_findAtom_67 : decode cX8_findAtom 67 = .ok (.iaload, 1) := by decide +kernel
theorem dX8_findAtom_68 : decode cX8_findAtom 68 = .ok (.istore_n 3, 1) := by decide +kernel
theorem dX8_findAtom_69 : decode cX8_findAtom 69 = .ok (.iconst 0, 1) := by decide +kernel
theorem dX8_findAtom_70 : decode cX8_findAtom 70 = .ok (.istore 4, 2) := by decide +kernel
theorem dX8_findAtom_72 : decode cX8_findAtom 72 = .ok (.iload 4, 2) := by decide +kernel
theorem dX8_findAtom_74 : decode cX8_findAtom 74 = .ok (.aload_n 0, 1) := by decide +kernel
theorem dX8_findAtom_75 : decode cX8_findAtom 75 = .ok (.getfield 234, 3) := by decide +kernel
theorem dX8_findAtom_78 : decode cX8_findAtom 78 = .ok (.if_icmp .ge 68, 3) := by decide +kernel
theorem dX8_findAtom_81 : decode cX8_findAtom 81 = .ok (.aload_n 0, 1) := by decide +kernel
theorem dX8_findAtom_82 : decode cX8_findAtom 82 = .ok (.getfield 73, 3) := by decide +kernel
theorem dX8_findAtom_85 : decode cX8_findAtom 85 = .ok (.bipush 9, 2) := by decide +kernel
theorem dX8_findAtom_87 : decode cX8_findAtom 87 = .ok (.iload 4, 2) := by decide +kernel
theorem dX8_findAtom_89 : decode cX8_findAtom 89 = .ok (.iadd, 1) := by decide +kernel
theorem dX8_findAtom_90 : decode cX8_findAtom 90 = .ok (.iaload, 1) := by decide +kernel
theorem dX8_findAtom_91 : decode cX8_findAtom 91 = .ok (.aload_n 0, 1) := by decide +kernel
theorem dX8_findAtom_92 : decode cX8_findAtom 92 = .ok (.getfield 21, 3) := by decide +kernel
theorem dX8_findAtom_95 : decode cX8_findAtom 95 = .ok (.iload_n 1, 1) := by decide +kernel
theorem dX8_findAtom_96 : decode cX8_findAtom 96 = .ok (.iaload, 1) := by decide +kernel
theorem dX8_findAtom_97 : decode cX8_findAtom 97 = .ok (.if_icmp .ne 43, 3) := by decide +kernel
theorem dX8_findAtom_100 : decode cX8_findAtom 100 = .ok (.aload_n 0, 1) := by decide +kernel
theorem dX8_findAtom_101 : decode cX8_findAtom 101 = .ok (.getfield 82, 3) := by decide +kernel
theorem dX8_findAtom_104 : decode cX8_findAtom 104 = .ok (.bipush 9, 2) := by decide +kernel
theorem dX8_findAtom_106 : decode cX8_findAtom 106 = .ok (.iload 4, 2) := by decide +kernel
theorem dX8_findAtom_108 : decode cX8_findAtom 108 = .ok (.iadd, 1) := by decide +kernel
theorem dX8_findAtom_109 : decode cX8_findAtom 109 = .ok (.baload, 1) := by decide +kernel
theorem dX8_findAtom_110 : decode cX8_findAtom 110 = .ok (.iload_n 2, 1) := by decide +kernel
theorem dX8_findAtom_111 : decode cX8_findAtom 111 = .ok (.if_icmp .ne 29, 3) := by decide +kernel
theorem dX8_findAtom_114 : decode cX8_findAtom 114 = .ok (.aload_n 0, 1) := by decide +kernel
theorem dX8_findAtom_115 : decode cX8_findAtom 115 = .ok (.aload_n 0, 1) := by decide +kernel
theorem dX8_findAtom_116 : decode cX8_findAtom 116 = .ok (.getfield 79, 3) := by decide +kernel
theorem dX8_findAtom_119 : decode cX8_findAtom 119 = .ok (.bipush 9, 2) := by decide +kernel
theorem dX8_findAtom_121 : decode cX8_findAtom 121 = .ok (.iload 4, 2) := by decide +kernel
theorem dX8_findAtom_123 : decode cX8_findAtom 123 = .ok (.iadd, 1) := by decide +kernel
theorem dX8_findAtom_124 : decode cX8_findAtom 124 = .ok (.iaload, 1) := by decide +kernel
theorem dX8_findAtom_125 : decode cX8_findAtom 125 = .ok (.iload_n 3, 1) := by decide +kernel
theorem dX8_findAtom_126 : decode cX8_findAtom 126 = .ok (.invokevirtual 241, 3) := by decide +kernel
theorem dX8_findAtom_129 : decode cX8_findAtom 129 = .ok (.ifCond .eq 11, 3) := by decide +kernel
theorem dX8_findAtom_132 : decode cX8_findAtom 132 = .ok (.aload_n 0, 1) := by decide +kernel
theorem dX8_findAtom_133 : decode cX8_findAtom 133 = .ok (.getfield 27, 3) := by decide +kernel
theorem dX8_findAtom_136 : decode cX8_findAtom 136 = .ok (.iload_n 1, 1) := by decide +kernel
theorem dX8_findAtom_137 : decode cX8_findAtom 137 = .ok (.iload 4, 2) := by decide +kernel
theorem dX8_findAtom_139 : decode cX8_findAtom 139 = .ok (.iastore, 1) := by decide +kernel
theorem dX8_findAtom_140 : decode cX8_findAtom 140 = .ok (.iinc 4 1, 3) := by decide +kernel
theorem dX8_findAtom_143 : decode cX8_findAtom 143 = .ok (.goto (-71), 3) := by decide +kernel
theorem dX8_findAtom_146 : decode cX8_findAtom 146 = .ok (.aload_n 0, 1) := by decide +kernel
theorem dX8_findAtom_147 : decode cX8_findAtom 147 = .ok (.getfield 27, 3) := by decide +kernel
theorem dX8_findAtom_150 : decode cX8_findAtom 150 = .ok (.iload_n 1, 1) := by decide +kernel
theorem dX8_findAtom_151 : decode cX8_findAtom 151 = .ok (.iaload, 1) := by decide +kernel
theorem dX8_findAtom_152 : decode cX8_findAtom 152 = .ok (.ifCond .ge 17, 3) := by decide +kernel
theorem dX8_findAtom_155 : decode cX8_findAtom 155 = .ok (.aload_n 0, 1) := by decide +kernel
theorem dX8_findAtom_156 : decode cX8_findAtom 156 = .ok (.iload_n 1, 1) := by decide +kernel
theorem dX8_findAtom_157 : decode cX8_findAtom 157 = .ok (.aload_n 0, 1) := by decide +kernel
theorem dX8_findAtom_158 : decode cX8_findAtom 158 = .ok (.getfield 21, 3) := by decide +kernel
theorem dX8_findAtom_161 : decode cX8_findAtom 161 = .ok (.iload_n 1, 1) := by decide +kernel
theorem dX8_findAtom_162 : decode cX8_findAtom 162 = .ok (.iaload, 1) := by decide +kernel
theorem dX8_findAtom_163 : decode cX8_findAtom 163 = .ok (.iconst (-1), 1) := by decide +kernel
theorem dX8_findAtom_164 : decode cX8_findAtom 164 = .ok (.iload_n 3, 1) := by decide +kernel
theorem dX8_findAtom_165 : decode cX8_findAtom 165 = .ok (.iload_n 2, 1) := by decide +kernel
theorem dX8_findAtom_166 : decode cX8_findAtom 166 = .ok (.invokevirtual 237, 3) := by decide +kernel
theorem dX8_findAtom_169 : decode cX8_findAtom 169 = .ok (.return_, 1) := by decide +kernel
theorem dX8_ended_0 : decode cX8_ended 0 = .ok (.aload_n 0, 1) := by decide +kernel
theorem dX8_ended_1 : decode cX8_ended 1 = .ok (.getfield 33, 3) := by decide +kernel
theorem dX8_ended_4 : decode cX8_ended 4 = .ok (.sipush 200, 3) := by decide +kernel
theorem dX8_ended_7 : decode cX8_ended 7 = .ok (.aload_n 0, 1) := by decide +kernel
theorem dX8_ended_8 : decode cX8_ended 8 = .ok (.getfield 245, 3) := by decide +kernel
theorem dX8_ended_11 : decode cX8_ended 11 = .ok (.iadd, 1) := by decide +kernel
theorem dX8_ended_12 : decode cX8_ended 12 = .ok (.iload_n 1, 1) := by decide +kernel
theorem dX8_ended_13 : decode cX8_ended 13 = .ok (.iastore, 1) := by decide +kernel
theorem dX8_ended_14 : decode cX8_ended 14 = .ok (.aload_n 0, 1) := by decide +kernel
theorem dX8_ended_15 : decode cX8_ended 15 = .ok (.dup, 1) := by decide +kernel
theorem dX8_ended_16 : decode cX8_ended 16 = .ok (.getfield 245, 3) := by decide +kernel
theorem dX8_ended_19 : decode cX8_ended 19 = .ok (.iconst 1, 1) := by decide +kernel
theorem dX8_ended_20 : decode cX8_ended 20 = .ok (.iadd, 1) := by decide +kernel
theorem dX8_ended_21 : decode cX8_ended 21 = .ok (.putfield 245, 3) := by decide +kernel
theorem dX8_ended_24 : decode cX8_ended 24 = .ok (.return_, 1) := by decide +kernel
theorem dX8_wait_0 : decode cX8_wait 0 = .ok (.aload_n 0, 1) := by decide +kernel
theorem dX8_wait_1 : decode cX8_wait 1 = .ok (.getfield 95, 3) := by decide +kernel
theorem dX8_wait_4 : decode cX8_wait 4 = .ok (.aload_n 0, 1) := by decide +kernel
theorem dX8_wait_5 : decode cX8_wait 5 = .ok (.getfield 248, 3) := by decide +kernel
theorem dX8_wait_8 : decode cX8_wait 8 = .ok (.iload_n 1, 1) := by decide +kernel
theorem dX8_wait_9 : decode cX8_wait 9 = .ok (.iastore, 1) := by decide +kernel
theorem dX8_wait_10 : decode cX8_wait 10 = .ok (.aload_n 0, 1) := by decide +kernel
theorem dX8_wait_11 : decode cX8_wait 11 = .ok (.getfield 98, 3) := by decide +kernel
theorem dX8_wait_14 : decode cX8_wait 14 = .ok (.aload_n 0, 1) := by decide +kernel
theorem dX8_wait_15 : decode cX8_wait 15 = .ok (.getfield 248, 3) := by decide +kernel
theorem dX8_wait_18 : decode cX8_wait 18 = .ok (.iload_n 2, 1) := by decide +kernel
theorem dX8_wait_19 : decode cX8_wait 19 = .ok (.iastore, 1) := by decide +kernel
theorem dX8_wait_20 : decode cX8_wait 20 = .ok (.aload_n 0, 1) := by decide +kernel
theorem dX8_wait_21 : decode cX8_wait 21 = .ok (.dup, 1) := by decide +kernel
theorem dX8_wait_22 : decode cX8_wait 22 = .ok (.getfield 248, 3) := by decide +kernel
theorem dX8_wait_25 : decode cX8_wait 25 = .ok (.iconst 1, 1) := by decide +kernel
theorem dX8_wait_26 : decode cX8_wait 26 = .ok (.iadd, 1) := by decide +kernel
theorem dX8_wait_27 : decode cX8_wait 27 = .ok (.putfield 248, 3) := by decide +kernel
theorem dX8_wait_30 : decode cX8_wait 30 = .ok (.return_, 1) := by decide +kernel
theorem dX8_stand_0 : decode cX8_stand 0 = .ok (.aload_n 0, 1) := by decide +kernel
theorem dX8_stand_1 : decode cX8_stand 1 = .ok (.iload_n 1, 1) := by decide +kernel
theorem dX8_stand_2 : decode cX8_stand 2 = .ok (.putfield 251, 3) := by decide +kernel
theorem dX8_stand_5 : decode cX8_stand 5 = .ok (.aload_n 0, 1) := by decide +kernel
theorem dX8_stand_6 : decode cX8_stand 6 = .ok (.invokevirtual 198, 3) := by decide +kernel
theorem dX8_stand_9 : decode cX8_stand 9 = .ok (.ifCond .eq 86, 3) := by decide +kernel
theorem dX8_stand_12 : decode cX8_stand 12 = .ok (.aload_n 0, 1) := by decide +kernel
theorem dX8_stand_13 : decode cX8_stand 13 = .ok (.getfield 95, 3) := by decide +kernel
theorem dX8_stand_16 : decode cX8_stand 16 = .ok (.aload_n 0, 1) := by decide +kernel
theorem dX8_stand_17 : decode cX8_stand 17 = .ok (.getfield 248, 3) := by decide +kernel
theorem dX8_stand_20 : decode cX8_stand 20 = .ok (.iconst 1, 1) := by decide +kernel
theorem dX8_stand_21 : decode cX8_stand 21 = .ok (.isub, 1) := by decide +kernel
theorem dX8_stand_22 : decode cX8_stand 22 = .ok (.iaload, 1) := by decide +kernel
theorem dX8_stand_23 : decode cX8_stand 23 = .ok (.iconst 2, 1) := by decide +kernel
theorem dX8_stand_24 : decode cX8_stand 24 = .ok (.if_icmp .ne 71, 3) := by decide +kernel
theorem dX8_stand_27 : decode cX8_stand 27 = .ok (.aload_n 0, 1) := by decide +kernel
theorem dX8_stand_28 : decode cX8_stand 28 = .ok (.dup, 1) := by decide +kernel
theorem dX8_stand_29 : decode cX8_stand 29 = .ok (.getfield 248, 3) := by decide +kernel
theorem dX8_stand_32 : decode cX8_stand 32 = .ok (.iconst 1, 1) := by decide +kernel
theorem dX8_stand_33 : decode cX8_stand 33 = .ok (.isub, 1) := by decide +kernel
theorem dX8_stand_34 : decode cX8_stand 34 = .ok (.putfield 248, 3) := by decide +kernel
theorem dX8_stand_37 : decode cX8_stand 37 = .ok (.aload_n 0, 1) := by decide +kernel
theorem dX8_stand_38 : decode cX8_stand 38 = .ok (.dup, 1) := by decide +kernel
theorem dX8_stand_39 : decode cX8_stand 39 = .ok (.getfield 254, 3) := by decide +kernel
theorem dX8_stand_42 : decode cX8_stand 42 = .ok (.iconst 1, 1) := by decide +kernel
theorem dX8_stand_43 : decode cX8_stand 43 = .ok (.isub, 1) := by decide +kernel
theorem dX8_stand_44 : decode cX8_stand 44 = .ok (.putfield 254, 3) := by decide +kernel
theorem dX8_stand_47 : decode cX8_stand 47 = .ok (.aload_n 0, 1) := by decide +kernel
theorem dX8_stand_48 : decode cX8_stand 48 = .ok (.getfield 98, 3) := by decide +kernel
theorem dX8_stand_51 : decode cX8_stand 51 = .ok (.aload_n 0, 1) := by decide +kernel
theorem dX8_stand_52 : decode cX8_stand 52 = .ok (.getfield 248, 3) := by decide +kernel
theorem dX8_stand_55 : decode cX8_stand 55 = .ok (.iaload, 1) := by decide +kernel
theorem dX8_stand_56 : decode cX8_stand 56 = .ok (.istore_n 2, 1) := by decide +kernel
theorem dX8_stand_57 : decode cX8_stand 57 = .ok (.aload_n 0, 1) := by decide +kernel
theorem dX8_stand_58 : decode cX8_stand 58 = .ok (.getfield 24, 3) := by decide +kernel
theorem dX8_stand_61 : decode cX8_stand 61 = .ok (.iload_n 2, 1) := by decide +kernel
theorem dX8_stand_62 : decode cX8_stand 62 = .ok (.aload_n 0, 1) := by decide +kernel
theorem dX8_stand_63 : decode cX8_stand 63 = .ok (.getfield 251, 3) := by decide +kernel
theorem dX8_stand_66 : decode cX8_stand 66 = .ok (.iastore, 1) := by decide +kernel
theorem dX8_stand_67 : decode cX8_stand 67 = .ok (.aload_n 0, 1) := by decide +kernel
theorem dX8_stand_68 : decode cX8_stand 68 = .ok (.iload_n 2, 1) := by decide +kernel
theorem dX8_stand_69 : decode cX8_stand 69 = .ok (.invokevirtual 257, 3) := by decide +kernel
theorem dX8_stand_72 : decode cX8_stand 72 = .ok (.aload_n 0, 1) := by decide +kernel
theorem dX8_stand_73 : decode cX8_stand 73 = .ok (.getfield 17, 3) := by decide +kernel
theorem dX8_stand_76 : decode cX8_stand 76 = .ok (.iload_n 2, 1) := by decide +kernel
theorem dX8_stand_77 : decode cX8_stand 77 = .ok (.iaload, 1) := by decide +kernel
theorem dX8_stand_78 : decode cX8_stand 78 = .ok (.iconst 3, 1) := by decide +kernel
theorem dX8_stand_79 : decode cX8_stand 79 = .ok (.if_icmp .eq 8, 3) := by decide +kernel
theorem dX8_stand_82 : decode cX8_stand 82 = .ok (.aload_n 0, 1) := by decide +kernel
theorem dX8_stand_83 : decode cX8_stand 83 = .ok (.iload_n 2, 1) := by decide +kernel
theorem dX8_stand_84 : decode cX8_stand 84 = .ok (.invokevirtual 260, 3) := by decide +kernel
theorem dX8_stand_87 : decode cX8_stand 87 = .ok (.aload_n 0, 1) := by decide +kernel
theorem dX8_stand_88 : decode cX8_stand 88 = .ok (.iload_n 2, 1) := by decide +kernel
theorem dX8_stand_89 : decode cX8_stand 89 = .ok (.putfield 251, 3) := by decide +kernel
theorem dX8_stand_92 : decode cX8_stand 92 = .ok (.goto (-87), 3) := by decide +kernel
theorem dX8_stand_95 : decode cX8_stand 95 = .ok (.aload_n 0, 1) := by decide +kernel
theorem dX8_stand_96 : decode cX8_stand 96 = .ok (.iconst 0, 1) := by decide +kernel
theorem dX8_stand_97 : decode cX8_stand 97 = .ok (.putfield 263, 3) := by decide +kernel
theorem dX8_stand_100 : decode cX8_stand 100 = .ok (.return_, 1) := by decide +kernel
theorem dX8_close_0 : decode cX8_close 0 = .ok (.aload_n 0, 1) := by decide +kernel
theorem dX8_close_1 : decode cX8_close 1 = .ok (.getfield 95, 3) := by decide +kernel
theorem dX8_close_4 : decode cX8_close 4 = .ok (.aload_n 0, 1) := by decide +kernel
theorem dX8_close_5 : decode cX8_close 5 = .ok (.getfield 248, 3) := by decide +kernel
theorem dX8_close_8 : decode cX8_close 8 = .ok (.iconst 1, 1) := by decide +kernel
theorem dX8_close_9 : decode cX8_close 9 = .ok (.isub, 1) := by decide +kernel
theorem dX8_close_10 : decode cX8_close 10 = .ok (.iaload, 1) := by decide +kernel
theorem dX8_close_11 : decode cX8_close 11 = .ok (.iconst 3, 1) := by decide +kernel
theorem dX8_close_12 : decode cX8_close 12 = .ok (.if_icmp .ne 66, 3) := by decide +kernel
theorem dX8_close_15 : decode cX8_close 15 = .ok (.aload_n 0, 1) := by decide +kernel
theorem dX8_close_16 : decode cX8_close 16 = .ok (.getfield 17, 3) := by decide +kernel
theorem dX8_close_19 : decode cX8_close 19 = .ok (.aload_n 0, 1) := by decide +kernel
theorem dX8_close_20 : decode cX8_close 20 = .ok (.getfield 98, 3) := by decide +kernel
theorem dX8_close_23 : decode cX8_close 23 = .ok (.aload_n 0, 1) := by decide +kernel
theorem dX8_close_24 : decode cX8_close 24 = .ok (.getfield 248, 3) := by decide +kernel
theorem dX8_close_27 : decode cX8_close 27 = .ok (.iconst 1, 1) := by decide +kernel
theorem dX8_close_28 : decode cX8_close 28 = .ok (.isub, 1) := by decide +kernel
theorem dX8_close_29 : decode cX8_close 29 = .ok (.iaload, 1) := by decide +kernel
theorem dX8_close_30 : decode cX8_close 30 = .ok (.iaload, 1) := by decide +kernel
theorem dX8_close_31 : decode cX8_close 31 = .ok (.iload_n 1, 1) := by decide +kernel
theorem dX8_close_32 : decode cX8_close 32 = .ok (.if_icmp .gt 46, 3) := by decide +kernel
theorem dX8_close_35 : decode cX8_close 35 = .ok (.aload_n 0, 1) := by decide +kernel
theorem dX8_close_36 : decode cX8_close 36 = .ok (.dup, 1) := by decide +kernel
theorem dX8_close_37 : decode cX8_close 37 = .ok (.getfield 248, 3) := by decide +kernel
theorem dX8_close_40 : decode cX8_close 40 = .ok (.iconst 1, 1) := by decide +kernel
theorem dX8_close_41 : decode cX8_close 41 = .ok (.isub, 1) := by decide +kernel
theorem dX8_close_42 : decode cX8_close 42 = .ok (.putfield 248, 3) := by decide +kernel
theorem dX8_close_45 : decode cX8_close 45 = .ok (.aload_n 0, 1) := by decide +kernel
theorem dX8_close_46 : decode cX8_close 46 = .ok (.getfield 98, 3) := by decide +kernel
theorem dX8_close_49 : decode cX8_close 49 = .ok (.aload_n 0, 1) := by decide +kernel
theorem dX8_close_50 : decode cX8_close 50 = .ok (.getfield 248, 3) := by decide +kernel
theorem dX8_close_53 : decode cX8_close 53 = .ok (.iaload, 1) := by decide +kernel
theorem dX8_close_54 : decode cX8_close 54 = .ok (.istore_n 2, 1) := by decide +kernel
theorem dX8_close_55 : decode cX8_close 55 = .ok (.aload_n 0, 1) := by decide +kernel
theorem dX8_close_56 : decode cX8_close 56 = .ok (.getfield 24, 3) := by decide +kernel
theorem dX8_close_59 : decode cX8_close 59 = .ok (.iload_n 2, 1) := by decide +kernel
theorem dX8_close_60 : decode cX8_close 60 = .ok (.aload_n 0, 1) := by decide +kernel
theorem dX8_close_61 : decode cX8_close 61 = .ok (.getfield 251, 3) := by decide +kernel
theorem dX8_close_64 : decode cX8_close 64 = .ok (.iastore, 1) := by decide +kernel
theorem dX8_close_65 : decode cX8_close 65 = .ok (.aload_n 0, 1) := by decide +kernel
theorem dX8_close_66 : decode cX8_close 66 = .ok (.iload_n 2, 1) := by decide +kernel
theorem dX8_close_67 : decode cX8_close 67 = .ok (.invokevirtual 257, 3) := by decide +kernel
theorem dX8_close_70 : decode cX8_close 70 = .ok (.aload_n 0, 1) := by decide +kernel
theorem dX8_close_71 : decode cX8_close 71 = .ok (.iload_n 2, 1) := by decide +kernel
theorem dX8_close_72 : decode cX8_close 72 = .ok (.putfield 251, 3) := by decide +kernel
theorem dX8_close_75 : decode cX8_close 75 = .ok (.goto (-75), 3) := by decide +kernel
theorem dX8_close_78 : decode cX8_close 78 = .ok (.return_, 1) := by decide +kernel
theorem dX8_goesDeeper_0 : decode cX8_goesDeeper 0 = .ok (.aload_n 0, 1) := by decide +kernel
theorem dX8_goesDeeper_1 : decode cX8_goesDeeper 1 = .ok (.getfield 254, 3) := by decide +kernel
theorem dX8_goesDeeper_4 : decode cX8_goesDeeper 4 = .ok (.bipush 12, 2) := by decide +kernel
theorem dX8_goesDeeper_6 : decode cX8_goesDeeper 6 = .ok (.if_icmp .ne 14, 3) := by decide +kernel
theorem dX8_goesDeeper_9 : decode cX8_goesDeeper 9 = .ok (.aload_n 0, 1) := by decide +kernel
theorem dX8_goesDeeper_10 : decode cX8_goesDeeper 10 = .ok (.iconst 3, 1) := by decide +kernel
theorem dX8_goesDeeper_11 : decode cX8_goesDeeper 11 = .ok (.aload_n 0, 1) := by decide +kernel
theorem dX8_goesDeeper_12 : decode cX8_goesDeeper 12 = .ok (.getfield 169, 3) := by decide +kernel
theorem dX8_goesDeeper_15 : decode cX8_goesDeeper 15 = .ok (.invokevirtual 194, 3) := by decide +kernel
theorem dX8_goesDeeper_18 : decode cX8_goesDeeper 18 = .ok (.iconst 0, 1) := by decide +kernel
theorem dX8_goesDeeper_19 : decode cX8_goesDeeper 19 = .ok (.ireturn, 1) := by decide +kernel
theorem dX8_goesDeeper_20 : decode cX8_goesDeeper 20 = .ok (.aload_n 0, 1) := by decide +kernel
theorem dX8_goesDeeper_21 : decode cX8_goesDeeper 21 = .ok (.dup, 1) := by decide +kernel
theorem dX8_goesDeeper_22 : decode cX8_goesDeeper 22 = .ok (.getfield 254, 3) := by decide +kernel
theorem dX8_goesDeeper_25 : decode cX8_goesDeeper 25 = .ok (.iconst 1, 1) := by decide +kernel
theorem dX8_goesDeeper_26 : decode cX8_goesDeeper 26 = .ok (.iadd, 1) := by decide +kernel
theorem dX8_goesDeeper_27 : decode cX8_goesDeeper 27 = .ok (.putfield 254, 3) := by decide +kernel
theorem dX8_goesDeeper_30 : decode cX8_goesDeeper 30 = .ok (.iconst 1, 1) := by decide +kernel
theorem dX8_goesDeeper_31 : decode cX8_goesDeeper 31 = .ok (.ireturn, 1) := by decide +kernel
theorem dX8_readOne_0 : decode cX8_readOne 0 = .ok (.aload_n 0, 1) := by decide +kernel
theorem dX8_readOne_1 : decode cX8_readOne 1 = .ok (.invokevirtual 224, 3) := by decide +kernel
theorem dX8_readOne_4 : decode cX8_readOne 4 = .ok (.istore_n 1, 1) := by decide +kernel
theorem dX8_readOne_5 : decode cX8_readOne 5 = .ok (.aload_n 0, 1) := by decide +kernel
theorem dX8_readOne_6 : decode cX8_readOne 6 = .ok (.bipush 40, 2) := by decide +kernel
theorem dX8_readOne_8 : decode cX8_readOne 8 = .ok (.invokevirtual 202, 3) := by decide +kernel
theorem dX8_readOne_11 : decode cX8_readOne 11 = .ok (.ifCond .eq 21, 3) := by decide +kernel
theorem dX8_readOne_14 : decode cX8_readOne 14 = .ok (.aload_n 0, 1) := by decide +kernel
theorem dX8_readOne_15 : decode cX8_readOne 15 = .ok (.invokevirtual 267, 3) := by decide +kernel
theorem dX8_readOne_18 : decode cX8_readOne 18 = .ok (.ifCond .eq 13, 3) := by decide +kernel
theorem dX8_readOne_21 : decode cX8_readOne 21 = .ok (.aload_n 0, 1) := by decide +kernel
theorem dX8_readOne_22 : decode cX8_readOne 22 = .ok (.iconst 1, 1) := by decide +kernel
theorem dX8_readOne_23 : decode cX8_readOne 23 = .ok (.iconst (-1), 1) := by decide +kernel
theorem dX8_readOne_24 : decode cX8_readOne 24 = .ok (.invokevirtual 270, 3) := by decide +kernel
theorem dX8_readOne_27 : decode cX8_readOne 27 = .ok (.aload_n 0, 1) := by decide +kernel
theorem dX8_readOne_28 : decode cX8_readOne 28 = .ok (.invokevirtual 205, 3) := by decide +kernel
theorem dX8_readOne_31 : decode cX8_readOne 31 = .ok (.return_, 1) := by decide +kernel
theorem dX8_readOne_32 : decode cX8_readOne 32 = .ok (.aload_n 0, 1) := by decide +kernel
theorem dX8_readOne_33 : decode cX8_readOne 33 = .ok (.getfield 178, 3) := by decide +kernel
theorem dX8_readOne_36 : decode cX8_readOne 36 = .ok (.iconst 1, 1) := by decide +kernel
theorem dX8_readOne_37 : decode cX8_readOne 37 = .ok (.if_icmp .ne 12, 3) := by decide +kernel
theorem dX8_readOne_40 : decode cX8_readOne 40 = .ok (.iload_n 1, 1) := by decide +kernel
theorem dX8_readOne_41 : decode cX8_readOne 41 = .ok (.ifCond .lt 13, 3) := by decide +kernel
theorem dX8_readOne_44 : decode cX8_readOne 44 = .ok (.iload_n 1, 1) := by decide +kernel
theorem dX8_readOne_45 : decode cX8_readOne 45 = .ok (.iconst 5, 1) := by decide +kernel
theorem dX8_readOne_46 : decode cX8_readOne 46 = .ok (.if_icmp .ge 8, 3) := by decide +kernel
theorem dX8_readOne_49 : decode cX8_readOne 49 = .ok (.aload_n 0, 1) := by decide +kernel
theorem dX8_readOne_50 : decode cX8_readOne 50 = .ok (.invokevirtual 208, 3) := by decide +kernel
theorem dX8_readOne_53 : decode cX8_readOne 53 = .ok (.return_, 1) := by decide +kernel
theorem dX8_readOne_54 : decode cX8_readOne 54 = .ok (.aload_n 0, 1) := by decide +kernel
theorem dX8_readOne_55 : decode cX8_readOne 55 = .ok (.iload_n 1, 1) := by decide +kernel
theorem dX8_readOne_56 : decode cX8_readOne 56 = .ok (.iconst 5, 1) := by decide +kernel
theorem dX8_readOne_57 : decode cX8_readOne 57 = .ok (.if_icmp .ne 7, 3) := by decide +kernel
theorem dX8_readOne_60 : decode cX8_readOne 60 = .ok (.iconst 3, 1) := by decide +kernel
theorem dX8_readOne_61 : decode cX8_readOne 61 = .ok (.goto 44, 3) := by decide +kernel
theorem dX8_readOne_64 : decode cX8_readOne 64 = .ok (.iload_n 1, 1) := by decide +kernel
theorem dX8_readOne_65 : decode cX8_readOne 65 = .ok (.bipush 6, 2) := by decide +kernel
theorem dX8_readOne_67 : decode cX8_readOne 67 = .ok (.if_icmp .ne 7, 3) := by decide +kernel
theorem dX8_readOne_70 : decode cX8_readOne 70 = .ok (.iconst 4, 1) := by decide +kernel
theorem dX8_readOne_71 : decode cX8_readOne 71 = .ok (.goto 34, 3) := by decide +kernel
theorem dX8_readOne_74 : decode cX8_readOne 74 = .ok (.iload_n 1, 1) := by decide +kernel
theorem dX8_readOne_75 : decode cX8_readOne 75 = .ok (.bipush 7, 2) := by decide +kernel
theorem dX8_readOne_77 : decode cX8_readOne 77 = .ok (.if_icmp .ne 7, 3) := by decide +kernel
theorem dX8_readOne_80 : decode cX8_readOne 80 = .ok (.iconst 5, 1) := by decide +kernel
theorem dX8_readOne_81 : decode cX8_readOne 81 = .ok (.goto 24, 3) := by decide +kernel
theorem dX8_readOne_84 : decode cX8_readOne 84 = .ok (.iload_n 1, 1) := by decide +kernel
theorem dX8_readOne_85 : decode cX8_readOne 85 = .ok (.bipush 8, 2) := by decide +kernel
theorem dX8_readOne_87 : decode cX8_readOne 87 = .ok (.if_icmp .ne 7, 3) := by decide +kernel
theorem dX8_readOne_90 : decode cX8_readOne 90 = .ok (.iconst 1, 1) := by decide +kernel
theorem dX8_readOne_91 : decode cX8_readOne 91 = .ok (.goto 14, 3) := by decide +kernel
theorem dX8_readOne_94 : decode cX8_readOne 94 = .ok (.iload_n 1, 1) := by decide +kernel
theorem dX8_readOne_95 : decode cX8_readOne 95 = .ok (.bipush 9, 2) := by decide +kernel
theorem dX8_readOne_97 : decode cX8_readOne 97 = .ok (.if_icmp .ne 7, 3) := by decide +kernel
theorem dX8_readOne_100 : decode cX8_readOne 100 = .ok (.iconst 2, 1) := by decide +kernel
theorem dX8_readOne_101 : decode cX8_readOne 101 = .ok (.goto 4, 3) := by decide +kernel
theorem dX8_readOne_104 : decode cX8_readOne 104 = .ok (.iconst 0, 1) := by decide +kernel
theorem dX8_readOne_105 : decode cX8_readOne 105 = .ok (.invokevirtual 273, 3) := by decide +kernel
theorem dX8_readOne_108 : decode cX8_readOne 108 = .ok (.istore_n 2, 1) := by decide +kernel
theorem dX8_readOne_109 : decode cX8_readOne 109 = .ok (.aload_n 0, 1) := by decide +kernel
theorem dX8_readOne_110 : decode cX8_readOne 110 = .ok (.invokevirtual 198, 3) := by decide +kernel
theorem dX8_readOne_113 : decode cX8_readOne 113 = .ok (.ifCond .ne 4, 3) := by decide +kernel
theorem dX8_readOne_116 : decode cX8_readOne 116 = .ok (.return_, 1) := by decide +kernel
theorem dX8_readOne_117 : decode cX8_readOne 117 = .ok (.iload_n 1, 1) := by decide +kernel
theorem dX8_readOne_118 : decode cX8_readOne 118 = .ok (.iconst 5, 1) := by decide +kernel
theorem dX8_readOne_119 : decode cX8_readOne 119 = .ok (.if_icmp .lt 54, 3) := by decide +kernel
theorem dX8_readOne_122 : decode cX8_readOne 122 = .ok (.iload_n 1, 1) := by decide +kernel
theorem dX8_readOne_123 : decode cX8_readOne 123 = .ok (.bipush 7, 2) := by decide +kernel
theorem dX8_readOne_125 : decode cX8_readOne 125 = .ok (.if_icmp .gt 48, 3) := by decide +kernel
theorem dX8_readOne_128 : decode cX8_readOne 128 = .ok (.aload_n 0, 1) := by decide +kernel
theorem dX8_readOne_129 : decode cX8_readOne 129 = .ok (.invokevirtual 267, 3) := by decide +kernel
theorem dX8_readOne_132 : decode cX8_readOne 132 = .ok (.ifCond .ne 4, 3) := by decide +kernel
theorem dX8_readOne_135 : decode cX8_readOne 135 = .ok (.return_, 1) := by decide +kernel
theorem dX8_readOne_136 : decode cX8_readOne 136 = .ok (.aload_n 0, 1) := by decide +kernel
theorem dX8_readOne_137 : decode cX8_readOne 137 = .ok (.invokevirtual 205, 3) := by decide +kernel
theorem dX8_readOne_140 : decode cX8_readOne 140 = .ok (.iload_n 1, 1) := by decide +kernel
theorem dX8_readOne_141 : decode cX8_readOne 141 = .ok (.iconst 5, 1) := by decide +kernel
theorem dX8_readOne_142 : decode cX8_readOne 142 = .ok (.if_icmp .eq 24, 3) := by decide +kernel
theorem dX8_readOne_145 : decode cX8_readOne 145 = .ok (.aload_n 0, 1) := by decide +kernel
theorem dX8_readOne_146 : decode cX8_readOne 146 = .ok (.getfield 21, 3) := by decide +kernel
theorem dX8_readOne_149 : decode cX8_readOne 149 = .ok (.iload_n 2, 1) := by decide +kernel
theorem dX8_readOne_150 : decode cX8_readOne 150 = .ok (.aload_n 0, 1) := by decide +kernel
theorem dX8_readOne_151 : decode cX8_readOne 151 = .ok (.invokevirtual 277, 3) := by decide +kernel
theorem dX8_readOne_154 : decode cX8_readOne 154 = .ok (.iastore, 1) := by decide +kernel
theorem dX8_readOne_155 : decode cX8_readOne 155 = .ok (.aload_n 0, 1) := by decide +kernel
theorem dX8_readOne_156 : decode cX8_readOne 156 = .ok (.invokevirtual 198, 3) := by decide +kernel
theorem dX8_readOne_159 : decode cX8_readOne 159 = .ok (.ifCond .eq 7, 3) := by decide +kernel
theorem dX8_readOne_162 : decode cX8_readOne 162 = .ok (.aload_n 0, 1) := by decide +kernel
theorem dX8_readOne_163 : decode cX8_readOne 163 = .ok (.invokevirtual 205, 3) := by decide +kernel
theorem dX8_readOne_166 : decode cX8_readOne 166 = .ok (.aload_n 0, 1) := by decide +kernel
theorem dX8_readOne_167 : decode cX8_readOne 167 = .ok (.iconst 2, 1) := by decide +kernel
theorem dX8_readOne_168 : decode cX8_readOne 168 = .ok (.iload_n 2, 1) := by decide +kernel
theorem dX8_readOne_169 : decode cX8_readOne 169 = .ok (.invokevirtual 270, 3) := by decide +kernel
theorem dX8_readOne_172 : decode cX8_readOne 172 = .ok (.return_, 1) := by decide +kernel
theorem dX8_readOne_173 : decode cX8_readOne 173 = .ok (.iload_n 1, 1) := by decide +kernel
theorem dX8_readOne_174 : decode cX8_readOne 174 = .ok (.ifCond .ge 8, 3) := by decide +kernel
theorem dX8_readOne_177 : decode cX8_readOne 177 = .ok (.aload_n 0, 1) := by decide +kernel
theorem dX8_readOne_178 : decode cX8_readOne 178 = .ok (.iload_n 2, 1) := by decide +kernel
theorem dX8_readOne_179 : decode cX8_readOne 179 = .ok (.invokevirtual 280, 3) := by decide +kernel
theorem dX8_readOne_182 : decode cX8_readOne 182 = .ok (.aload_n 0, 1) := by decide +kernel
theorem dX8_readOne_183 : decode cX8_readOne 183 = .ok (.invokevirtual 198, 3) := by decide +kernel
theorem dX8_readOne_186 : decode cX8_readOne 186 = .ok (.ifCond .eq 17, 3) := by decide +kernel
theorem dX8_readOne_189 : decode cX8_readOne 189 = .ok (.aload_n 0, 1) := by decide +kernel
theorem dX8_readOne_190 : decode cX8_readOne 190 = .ok (.iload_n 2, 1) := by decide +kernel
theorem dX8_readOne_191 : decode cX8_readOne 191 = .ok (.invokevirtual 257, 3) := by decide +kernel
theorem dX8_readOne_194 : decode cX8_readOne 194 = .ok (.aload_n 0, 1) := by decide +kernel
theorem dX8_readOne_195 : decode cX8_readOne 195 = .ok (.invokevirtual 205, 3) := by decide +kernel
theorem dX8_readOne_198 : decode cX8_readOne 198 = .ok (.aload_n 0, 1) := by decide +kernel
theorem dX8_readOne_199 : decode cX8_readOne 199 = .ok (.iload_n 2, 1) := by decide +kernel
theorem dX8_readOne_200 : decode cX8_readOne 200 = .ok (.invokevirtual 283, 3) := by decide +kernel
theorem dX8_readOne_203 : decode cX8_readOne 203 = .ok (.return_, 1) := by decide +kernel
theorem dX8_readBehind_0 : decode cX8_readBehind 0 = .ok (.aload_n 0, 1) := by decide +kernel
theorem dX8_readBehind_1 : decode cX8_readBehind 1 = .ok (.invokevirtual 224, 3) := by decide +kernel
theorem dX8_readBehind_4 : decode cX8_readBehind 4 = .ok (.istore_n 1, 1) := by decide +kernel
theorem dX8_readBehind_5 : decode cX8_readBehind 5 = .ok (.iload_n 1, 1) := by decide +kernel
theorem dX8_readBehind_6 : decode cX8_readBehind 6 = .ok (.iconst 4, 1) := by decide +kernel
theorem dX8_readBehind_7 : decode cX8_readBehind 7 = .ok (.if_icmp .eq 8, 3) := by decide +kernel
theorem dX8_readBehind_10 : decode cX8_readBehind 10 = .ok (.iload_n 1, 1) := by decide +kernel
theorem dX8_readBehind_11 : decode cX8_readBehind 11 = .ok (.iconst 3, 1) := by decide +kernel
theorem dX8_readBehind_12 : decode cX8_readBehind 12 = .ok (.if_icmp .ne 70, 3) := by decide +kernel
theorem dX8_readBehind_15 : decode cX8_readBehind 15 = .ok (.aload_n 0, 1) := by decide +kernel
theorem dX8_readBehind_16 : decode cX8_readBehind 16 = .ok (.iload_n 1, 1) := by decide +kernel
theorem dX8_readBehind_17 : decode cX8_readBehind 17 = .ok (.iconst 4, 1) := by decide +kernel
theorem dX8_readBehind_18 : decode cX8_readBehind 18 = .ok (.if_icmp .ne 8, 3) := by decide +kernel
theorem dX8_readBehind_21 : decode cX8_readBehind 21 = .ok (.bipush 6, 2) := by decide +kernel
theorem dX8_readBehind_23 : decode cX8_readBehind 23 = .ok (.goto 5, 3) := by decide +kernel
theorem dX8_readBehind_26 : decode cX8_readBehind 26 = .ok (.bipush 7, 2) := by decide +kernel
theorem dX8_readBehind_28 : decode cX8_readBehind 28 = .ok (.invokevirtual 286, 3) := by decide +kernel
theorem dX8_readBehind_31 : decode cX8_readBehind 31 = .ok (.aload_n 0, 1) := by decide +kernel
theorem dX8_readBehind_32 : decode cX8_readBehind 32 = .ok (.iload_n 1, 1) := by decide +kernel
theorem dX8_readBehind_33 : decode cX8_readBehind 33 = .ok (.iconst 4, 1) := by decide +kernel
theorem dX8_readBehind_34 : decode cX8_readBehind 34 = .ok (.if_icmp .ne 8, 3) := by decide +kernel
theorem dX8_readBehind_37 : decode cX8_readBehind 37 = .ok (.bipush 6, 2) := by decide +kernel
theorem dX8_readBehind_39 : decode cX8_readBehind 39 = .ok (.goto 5, 3) := by decide +kernel
theorem dX8_readBehind_42 : decode cX8_readBehind 42 = .ok (.bipush 7, 2) := by decide +kernel
theorem dX8_readBehind_44 : decode cX8_readBehind 44 = .ok (.invokevirtual 273, 3) := by decide +kernel
theorem dX8_readBehind_47 : decode cX8_readBehind 47 = .ok (.istore_n 2, 1) := by decide +kernel
theorem dX8_readBehind_48 : decode cX8_readBehind 48 = .ok (.aload_n 0, 1) := by decide +kernel
theorem dX8_readBehind_49 : decode cX8_readBehind 49 = .ok (.invokevirtual 198, 3) := by decide +kernel
theorem dX8_readBehind_52 : decode cX8_readBehind 52 = .ok (.ifCond .eq 28, 3) := by decide +kernel
theorem dX8_readBehind_55 : decode cX8_readBehind 55 = .ok (.aload_n 0, 1) := by decide +kernel
theorem dX8_readBehind_56 : decode cX8_readBehind 56 = .ok (.getfield 21, 3) := by decide +kernel
theorem dX8_readBehind_59 : decode cX8_readBehind 59 = .ok (.iload_n 2, 1) := by decide +kernel
theorem dX8_readBehind_60 : decode cX8_readBehind 60 = .ok (.aload_n 0, 1) := by decide +kernel
theorem dX8_readBehind_61 : decode cX8_readBehind 61 = .ok (.getfield 251, 3) := by decide +kernel
theorem dX8_readBehind_64 : decode cX8_readBehind 64 = .ok (.iastore, 1) := by decide +kernel
theorem dX8_readBehind_65 : decode cX8_readBehind 65 = .ok (.aload_n 0, 1) := by decide +kernel
theorem dX8_readBehind_66 : decode cX8_readBehind 66 = .ok (.iconst 3, 1) := by decide +kernel
theorem dX8_readBehind_67 : decode cX8_readBehind 67 = .ok (.iload_n 2, 1) := by decide +kernel
theorem dX8_readBehind_68 : decode cX8_readBehind 68 = .ok (.invokevirtual 270, 3) := by decide +kernel
theorem dX8_readBehind_71 : decode cX8_readBehind 71 = .ok (.aload_n 0, 1) := by decide +kernel
theorem dX8_readBehind_72 : decode cX8_readBehind 72 = .ok (.invokevirtual 205, 3) := by decide +kernel
theorem dX8_readBehind_75 : decode cX8_readBehind 75 = .ok (.aload_n 0, 1) := by decide +kernel
theorem dX8_readBehind_76 : decode cX8_readBehind 76 = .ok (.iconst 1, 1) := by decide +kernel
theorem dX8_readBehind_77 : decode cX8_readBehind 77 = .ok (.putfield 263, 3) := by decide +kernel
theorem dX8_readBehind_80 : decode cX8_readBehind 80 = .ok (.iconst 1, 1) := by decide +kernel
theorem dX8_readBehind_81 : decode cX8_readBehind 81 = .ok (.ireturn, 1) := by decide +kernel
theorem dX8_readBehind_82 : decode cX8_readBehind 82 = .ok (.aload_n 0, 1) := by decide +kernel
theorem dX8_readBehind_83 : decode cX8_readBehind 83 = .ok (.bipush 7, 2) := by decide +kernel
theorem dX8_readBehind_85 : decode cX8_readBehind 85 = .ok (.invokevirtual 286, 3) := by decide +kernel
theorem dX8_readBehind_88 : decode cX8_readBehind 88 = .ok (.aload_n 0, 1) := by decide +kernel
theorem dX8_readBehind_89 : decode cX8_readBehind 89 = .ok (.getfield 95, 3) := by decide +kernel
theorem dX8_readBehind_92 : decode cX8_readBehind 92 = .ok (.aload_n 0, 1) := by decide +kernel
theorem dX8_readBehind_93 : decode cX8_readBehind 93 = .ok (.getfield 248, 3) := by decide +kernel
theorem dX8_readBehind_96 : decode cX8_readBehind 96 = .ok (.iconst 1, 1) := by decide +kernel
theorem dX8_readBehind_97 : decode cX8_readBehind 97 = .ok (.isub, 1) := by decide +kernel
theorem dX8_readBehind_98 : decode cX8_readBehind 98 = .ok (.iaload, 1) := by decide +kernel
theorem dX8_readBehind_99 : decode cX8_readBehind 99 = .ok (.ifCond .ne 5, 3) := by decide +kernel
theorem dX8_readBehind_102 : decode cX8_readBehind 102 = .ok (.iconst 0, 1) := by decide +kernel
theorem dX8_readBehind_103 : decode cX8_readBehind 103 = .ok (.ireturn, 1) := by decide +kernel
theorem dX8_readBehind_104 : decode cX8_readBehind 104 = .ok (.aload_n 0, 1) := by decide +kernel
theorem dX8_readBehind_105 : decode cX8_readBehind 105 = .ok (.bipush 41, 2) := by decide +kernel
theorem dX8_readBehind_107 : decode cX8_readBehind 107 = .ok (.invokevirtual 202, 3) := by decide +kernel
theorem dX8_readBehind_110 : decode cX8_readBehind 110 = .ok (.ifCond .eq 38, 3) := by decide +kernel
theorem dX8_readBehind_113 : decode cX8_readBehind 113 = .ok (.aload_n 0, 1) := by decide +kernel
theorem dX8_readBehind_114 : decode cX8_readBehind 114 = .ok (.dup, 1) := by decide +kernel
theorem dX8_readBehind_115 : decode cX8_readBehind 115 = .ok (.getfield 248, 3) := by decide +kernel
theorem dX8_readBehind_118 : decode cX8_readBehind 118 = .ok (.iconst 1, 1) := by decide +kernel
theorem dX8_readBehind_119 : decode cX8_readBehind 119 = .ok (.isub, 1) := by decide +kernel
theorem dX8_readBehind_120 : decode cX8_readBehind 120 = .ok (.putfield 248, 3) := by decide +kernel
theorem dX8_readBehind_123 : decode cX8_readBehind 123 = .ok (.aload_n 0, 1) := by decide +kernel
theorem dX8_readBehind_124 : decode cX8_readBehind 124 = .ok (.dup, 1) := by decide +kernel
theorem dX8_readBehind_125 : decode cX8_readBehind 125 = .ok (.getfield 254, 3) := by decide +kernel
theorem dX8_readBehind_128 : decode cX8_readBehind 128 = .ok (.iconst 1, 1) := by decide +kernel
theorem dX8_readBehind_129 : decode cX8_readBehind 129 = .ok (.isub, 1) := by decide +kernel
theorem dX8_readBehind_130 : decode cX8_readBehind 130 = .ok (.putfield 254, 3) := by decide +kernel
theorem dX8_readBehind_133 : decode cX8_readBehind 133 = .ok (.aload_n 0, 1) := by decide +kernel
theorem dX8_readBehind_134 : decode cX8_readBehind 134 = .ok (.invokevirtual 205, 3) := by decide +kernel
theorem dX8_readBehind_137 : decode cX8_readBehind 137 = .ok (.aload_n 0, 1) := by decide +kernel
theorem dX8_readBehind_138 : decode cX8_readBehind 138 = .ok (.aload_n 0, 1) := by decide +kernel
theorem dX8_readBehind_139 : decode cX8_readBehind 139 = .ok (.getfield 251, 3) := by decide +kernel
theorem dX8_readBehind_142 : decode cX8_readBehind 142 = .ok (.invokevirtual 283, 3) := by decide +kernel
theorem dX8_readBehind_145 : decode cX8_readBehind 145 = .ok (.goto 7, 3) := by decide +kernel
theorem dX8_readBehind_148 : decode cX8_readBehind 148 = .ok (.aload_n 0, 1) := by decide +kernel
theorem dX8_readBehind_149 : decode cX8_readBehind 149 = .ok (.invokevirtual 208, 3) := by decide +kernel
theorem dX8_readBehind_152 : decode cX8_readBehind 152 = .ok (.iconst 1, 1) := by decide +kernel
theorem dX8_readBehind_153 : decode cX8_readBehind 153 = .ok (.ireturn, 1) := by decide +kernel
theorem dX8_readConcept_0 : decode cX8_readConcept 0 = .ok (.aload_n 0, 1) := by decide +kernel
theorem dX8_readConcept_1 : decode cX8_readConcept 1 = .ok (.iconst 0, 1) := by decide +kernel
theorem dX8_readConcept_2 : decode cX8_readConcept 2 = .ok (.putfield 248, 3) := by decide +kernel
theorem dX8_readConcept_5 : decode cX8_readConcept 5 = .ok (.aload_n 0, 1) := by decide +kernel
theorem dX8_readConcept_6 : decode cX8_readConcept 6 = .ok (.iconst 0, 1) := by decide +kernel
theorem dX8_readConcept_7 : decode cX8_readConcept 7 = .ok (.iconst (-1), 1) := by decide +kernel
theorem dX8_readConcept_8 : decode cX8_readConcept 8 = .ok (.invokevirtual 270, 3) := by decide +kernel
theorem dX8_readConcept_11 : decode cX8_readConcept 11 = .ok (.aload_n 0, 1) := by decide +kernel
theorem dX8_readConcept_12 : decode cX8_readConcept 12 = .ok (.iconst 1, 1) := by decide +kernel
theorem dX8_readConcept_13 : decode cX8_readConcept 13 = .ok (.putfield 263, 3) := by decide +kernel
theorem dX8_readConcept_16 : decode cX8_readConcept 16 = .ok (.aload_n 0, 1) := by decide +kernel
theorem dX8_readConcept_17 : decode cX8_readConcept 17 = .ok (.iconst (-1), 1) := by decide +kernel
theorem dX8_readConcept_18 : decode cX8_readConcept 18 = .ok (.putfield 251, 3) := by decide +kernel
theorem dX8_readConcept_21 : decode cX8_readConcept 21 = .ok (.aload_n 0, 1) := by decide +kernel
theorem dX8_readConcept_22 : decode cX8_readConcept 22 = .ok (.iconst 0, 1) := by decide +kernel
theorem dX8_readConcept_23 : decode cX8_readConcept 23 = .ok (.putfield 254, 3) := by decide +kernel
theorem dX8_readConcept_26 : decode cX8_readConcept 26 = .ok (.iconst 1, 1) := by decide +kernel
theorem dX8_readConcept_27 : decode cX8_readConcept 27 = .ok (.istore_n 1, 1) := by decide +kernel
theorem dX8_readConcept_28 : decode cX8_readConcept 28 = .ok (.iload_n 1, 1) := by decide +kernel
theorem dX8_readConcept_29 : decode cX8_readConcept 29 = .ok (.ifCond .eq 32, 3) := by decide +kernel
theorem dX8_readConcept_32 : decode cX8_readConcept 32 = .ok (.aload_n 0, 1) := by decide +kernel
theorem dX8_readConcept_33 : decode cX8_readConcept 33 = .ok (.invokevirtual 198, 3) := by decide +kernel
theorem dX8_readConcept_36 : decode cX8_readConcept 36 = .ok (.ifCond .eq 25, 3) := by decide +kernel
theorem dX8_readConcept_39 : decode cX8_readConcept 39 = .ok (.aload_n 0, 1) := by decide +kernel
theorem dX8_readConcept_40 : decode cX8_readConcept 40 = .ok (.getfield 263, 3) := by decide +kernel
theorem dX8_readConcept_43 : decode cX8_readConcept 43 = .ok (.ifCond .eq 10, 3) := by decide +kernel
theorem dX8_readConcept_46 : decode cX8_readConcept 46 = .ok (.aload_n 0, 1) := by decide +kernel
theorem dX8_readConcept_47 : decode cX8_readConcept 47 = .ok (.invokevirtual 289, 3) := by decide +kernel
theorem dX8_readConcept_50 : decode cX8_readConcept 50 = .ok (.goto (-22), 3) := by decide +kernel
theorem dX8_readConcept_53 : decode cX8_readConcept 53 = .ok (.aload_n 0, 1) := by decide +kernel
theorem dX8_readConcept_54 : decode cX8_readConcept 54 = .ok (.invokevirtual 292, 3) := by decide +kernel
theorem dX8_readConcept_57 : decode cX8_readConcept 57 = .ok (.istore_n 1, 1) := by decide +kernel
theorem dX8_readConcept_58 : decode cX8_readConcept 58 = .ok (.goto (-30), 3) := by decide +kernel
theorem dX8_readConcept_61 : decode cX8_readConcept 61 = .ok (.aload_n 0, 1) := by decide +kernel
theorem dX8_readConcept_62 : decode cX8_readConcept 62 = .ok (.getfield 251, 3) := by decide +kernel
theorem dX8_readConcept_65 : decode cX8_readConcept 65 = .ok (.ireturn, 1) := by decide +kernel
theorem dX8_say_0 : decode cX8_say 0 = .ok (.sipush 250, 3) := by decide +kernel
theorem dX8_say_3 : decode cX8_say 3 = .ok (.aload_n 0, 1) := by decide +kernel
theorem dX8_say_4 : decode cX8_say 4 = .ok (.getfield 295, 3) := by decide +kernel
theorem dX8_say_7 : decode cX8_say 7 = .ok (.iadd, 1) := by decide +kernel
theorem dX8_say_8 : decode cX8_say 8 = .ok (.istore 4, 2) := by decide +kernel
theorem dX8_say_10 : decode cX8_say 10 = .ok (.aload_n 0, 1) := by decide +kernel
theorem dX8_say_11 : decode cX8_say 11 = .ok (.getfield 36, 3) := by decide +kernel
theorem dX8_say_14 : decode cX8_say 14 = .ok (.iload 4, 2) := by decide +kernel
theorem dX8_say_16 : decode cX8_say 16 = .ok (.iload_n 1, 1) := by decide +kernel
theorem dX8_say_17 : decode cX8_say 17 = .ok (.iastore, 1) := by decide +kernel
theorem dX8_say_18 : decode cX8_say 18 = .ok (.aload_n 0, 1) := by decide +kernel
theorem dX8_say_19 : decode cX8_say 19 = .ok (.getfield 39, 3) := by decide +kernel
theorem dX8_say_22 : decode cX8_say 22 = .ok (.iload 4, 2) := by decide +kernel
theorem dX8_say_24 : decode cX8_say 24 = .ok (.iload_n 2, 1) := by decide +kernel
theorem dX8_say_25 : decode cX8_say 25 = .ok (.iastore, 1) := by decide +kernel
theorem dX8_say_26 : decode cX8_say 26 = .ok (.aload_n 0, 1) := by decide +kernel
theorem dX8_say_27 : decode cX8_say 27 = .ok (.getfield 42, 3) := by decide +kernel
theorem dX8_say_30 : decode cX8_say 30 = .ok (.iload 4, 2) := by decide +kernel
theorem dX8_say_32 : decode cX8_say 32 = .ok (.iload_n 3, 1) := by decide +kernel
theorem dX8_say_33 : decode cX8_say 33 = .ok (.iastore, 1) := by decide +kernel
theorem dX8_say_34 : decode cX8_say 34 = .ok (.aload_n 0, 1) := by decide +kernel
theorem dX8_say_35 : decode cX8_say 35 = .ok (.dup, 1) := by decide +kernel
theorem dX8_say_36 : decode cX8_say 36 = .ok (.getfield 295, 3) := by decide +kernel
theorem dX8_say_39 : decode cX8_say 39 = .ok (.iconst 1, 1) := by decide +kernel
theorem dX8_say_40 : decode cX8_say 40 = .ok (.iadd, 1) := by decide +kernel
theorem dX8_say_41 : decode cX8_say 41 = .ok (.putfield 295, 3) := by decide +kernel
theorem dX8_say_44 : decode cX8_say 44 = .ok (.return_, 1) := by decide +kernel
theorem dX8_reaches_0 : decode cX8_reaches 0 = .ok (.aload_n 0, 1) := by decide +kernel
theorem dX8_reaches_1 : decode cX8_reaches 1 = .ok (.getfield 67, 3) := by decide +kernel
theorem dX8_reaches_4 : decode cX8_reaches 4 = .ok (.bipush 9, 2) := by decide +kernel
theorem dX8_reaches_6 : decode cX8_reaches 6 = .ok (.iconst 3, 1) := by decide +kernel
theorem dX8_reaches_7 : decode cX8_reaches 7 = .ok (.iload_n 1, 1) := by decide +kernel
theorem dX8_reaches_8 : decode cX8_reaches 8 = .ok (.imul, 1) := by decide +kernel
theorem dX8_reaches_9 : decode cX8_reaches 9 = .ok (.iadd, 1) := by decide +kernel
theorem dX8_reaches_10 : decode cX8_reaches 10 = .ok (.iload_n 2, 1) := by decide +kernel
theorem dX8_reaches_11 : decode cX8_reaches 11 = .ok (.iadd, 1) := by decide +kernel
theorem dX8_reaches_12 : decode cX8_reaches 12 = .ok (.baload, 1) := by decide +kernel
theorem dX8_reaches_13 : decode cX8_reaches 13 = .ok (.istore_n 3, 1) := by decide +kernel
theorem dX8_reaches_14 : decode cX8_reaches 14 = .ok (.iconst 0, 1) := by decide +kernel
theorem dX8_reaches_15 : decode cX8_reaches 15 = .ok (.istore 4, 2) := by decide +kernel
theorem dX8_reaches_17 : decode cX8_reaches 17 = .ok (.iload 4, 2) := by decide +kernel
theorem dX8_reaches_19 : decode cX8_reaches 19 = .ok (.iconst 3, 1) := by decide +kernel
theorem dX8_reaches_20 : decode cX8_reaches 20 = .ok (.if_icmp .ge 59, 3) := by decide +kernel
theorem dX8_reaches_23 : decode cX8_reaches 23 = .ok (.iload_n 3, 1) := by decide +kernel
theorem dX8_reaches_24 : decode cX8_reaches 24 = .ok (.ifCond .ne 43, 3) := by decide +kernel
theorem dX8_reaches_27 : decode cX8_reaches 27 = .ok (.aload_n 0, 1) := by decide +kernel
theorem dX8_reaches_28 : decode cX8_reaches 28 = .ok (.getfield 67, 3) := by decide +kernel
theorem dX8_reaches_31 : decode cX8_reaches 31 = .ok (.bipush 9, 2) := by decide +kernel
theorem dX8_reaches_33 : decode cX8_reaches 33 = .ok (.iconst 3, 1) := by decide +kernel
theorem dX8_reaches_34 : decode cX8_reaches 34 = .ok (.iload_n 1, 1) := by decide +kernel
theorem dX8_reaches_35 : decode cX8_reaches 35 = .ok (.imul, 1) := by decide +kernel
theorem dX8_reaches_36 : decode cX8_reaches 36 = .ok (.iadd, 1) := by decide +kernel
theorem dX8_reaches_37 : decode cX8_reaches 37 = .ok (.iload 4, 2) := by decide +kernel
theorem dX8_reaches_39 : decode cX8_reaches 39 = .ok (.iadd, 1) := by decide +kernel
theorem dX8_reaches_40 : decode cX8_reaches 40 = .ok (.baload, 1) := by decide +kernel
theorem dX8_reaches_41 : decode cX8_reaches 41 = .ok (.ifCond .eq 30, 3) := by decide +kernel
theorem dX8_reaches_44 : decode cX8_reaches 44 = .ok (.iload 4, 2) := by decide +kernel
theorem dX8_reaches_46 : decode cX8_reaches 46 = .ok (.iload_n 2, 1) := by decide +kernel
theorem dX8_reaches_47 : decode cX8_reaches 47 = .ok (.if_icmp .eq 20, 3) := by decide +kernel
theorem dX8_reaches_50 : decode cX8_reaches 50 = .ok (.aload_n 0, 1) := by decide +kernel
theorem dX8_reaches_51 : decode cX8_reaches 51 = .ok (.getfield 67, 3) := by decide +kernel
theorem dX8_reaches_54 : decode cX8_reaches 54 = .ok (.bipush 9, 2) := by decide +kernel
theorem dX8_reaches_56 : decode cX8_reaches 56 = .ok (.iconst 3, 1) := by decide +kernel
theorem dX8_reaches_57 : decode cX8_reaches 57 = .ok (.iload 4, 2) := by decide +kernel
theorem dX8_reaches_59 : decode cX8_reaches 59 = .ok (.imul, 1) := by decide +kernel
theorem dX8_reaches_60 : decode cX8_reaches 60 = .ok (.iadd, 1) := by decide +kernel
theorem dX8_reaches_61 : decode cX8_reaches 61 = .ok (.iload_n 2, 1) := by decide +kernel
theorem dX8_reaches_62 : decode cX8_reaches 62 = .ok (.iadd, 1) := by decide +kernel
theorem dX8_reaches_63 : decode cX8_reaches 63 = .ok (.baload, 1) := by decide +kernel
theorem dX8_reaches_64 : decode cX8_reaches 64 = .ok (.ifCond .eq 7, 3) := by decide +kernel
theorem dX8_reaches_67 : decode cX8_reaches 67 = .ok (.iconst 1, 1) := by decide +kernel
theorem dX8_reaches_68 : decode cX8_reaches 68 = .ok (.goto 4, 3) := by decide +kernel
theorem dX8_reaches_71 : decode cX8_reaches 71 = .ok (.iconst 0, 1) := by decide +kernel
theorem dX8_reaches_72 : decode cX8_reaches 72 = .ok (.istore_n 3, 1) := by decide +kernel
theorem dX8_reaches_73 : decode cX8_reaches 73 = .ok (.iinc 4 1, 3) := by decide +kernel
theorem dX8_reaches_76 : decode cX8_reaches 76 = .ok (.goto (-59), 3) := by decide +kernel
theorem dX8_reaches_79 : decode cX8_reaches 79 = .ok (.iload_n 3, 1) := by decide +kernel
theorem dX8_reaches_80 : decode cX8_reaches 80 = .ok (.ireturn, 1) := by decide +kernel
theorem dX8_readUnder_0 : decode cX8_readUnder 0 = .ok (.aload_n 0, 1) := by decide +kernel
theorem dX8_readUnder_1 : decode cX8_readUnder 1 = .ok (.invokevirtual 205, 3) := by decide +kernel
theorem dX8_readUnder_4 : decode cX8_readUnder 4 = .ok (.aload_n 0, 1) := by decide +kernel
theorem dX8_readUnder_5 : decode cX8_readUnder 5 = .ok (.invokevirtual 277, 3) := by decide +kernel
theorem dX8_readUnder_8 : decode cX8_readUnder 8 = .ok (.istore_n 1, 1) := by decide +kernel
theorem dX8_readUnder_9 : decode cX8_readUnder 9 = .ok (.aload_n 0, 1) := by decide +kernel
theorem dX8_readUnder_10 : decode cX8_readUnder 10 = .ok (.invokevirtual 198, 3) := by decide +kernel
theorem dX8_readUnder_13 : decode cX8_readUnder 13 = .ok (.ifCond .eq 24, 3) := by decide +kernel
theorem dX8_readUnder_16 : decode cX8_readUnder 16 = .ok (.aload_n 0, 1) := by decide +kernel
theorem dX8_readUnder_17 : decode cX8_readUnder 17 = .ok (.getfield 63, 3) := by decide +kernel
theorem dX8_readUnder_20 : decode cX8_readUnder 20 = .ok (.iconst 3, 1) := by decide +kernel
theorem dX8_readUnder_21 : decode cX8_readUnder 21 = .ok (.iload_n 1, 1) := by decide +kernel
theorem dX8_readUnder_22 : decode cX8_readUnder 22 = .ok (.iadd, 1) := by decide +kernel
theorem dX8_readUnder_23 : decode cX8_readUnder 23 = .ok (.baload, 1) := by decide +kernel
theorem dX8_readUnder_24 : decode cX8_readUnder 24 = .ok (.ifCond .eq 13, 3) := by decide +kernel
theorem dX8_readUnder_27 : decode cX8_readUnder 27 = .ok (.aload_n 0, 1) := by decide +kernel
theorem dX8_readUnder_28 : decode cX8_readUnder 28 = .ok (.bipush 6, 2) := by decide +kernel
theorem dX8_readUnder_30 : decode cX8_readUnder 30 = .ok (.aload_n 0, 1) := by decide +kernel
theorem dX8_readUnder_31 : decode cX8_readUnder 31 = .ok (.getfield 169, 3) := by decide +kernel
theorem dX8_readUnder_34 : decode cX8_readUnder 34 = .ok (.invokevirtual 194, 3) := by decide +kernel
theorem dX8_readUnder_37 : decode cX8_readUnder 37 = .ok (.aload_n 0, 1) := by decide +kernel
theorem dX8_readUnder_38 : decode cX8_readUnder 38 = .ok (.invokevirtual 198, 3) := by decide +kernel
theorem dX8_readUnder_41 : decode cX8_readUnder 41 = .ok (.ifCond .eq 7, 3) := by decide +kernel
theorem dX8_readUnder_44 : decode cX8_readUnder 44 = .ok (.aload_n 0, 1) := by decide +kernel
theorem dX8_readUnder_45 : decode cX8_readUnder 45 = .ok (.invokevirtual 205, 3) := by decide +kernel
theorem dX8_readUnder_48 : decode cX8_readUnder 48 = .ok (.aload_n 0, 1) := by decide +kernel
theorem dX8_readUnder_49 : decode cX8_readUnder 49 = .ok (.invokevirtual 277, 3) := by decide +kernel
theorem dX8_readUnder_52 : decode cX8_readUnder 52 = .ok (.istore_n 2, 1) := by decide +kernel
theorem dX8_readUnder_53 : decode cX8_readUnder 53 = .ok (.aload_n 0, 1) := by decide +kernel
theorem dX8_readUnder_54 : decode cX8_readUnder 54 = .ok (.invokevirtual 198, 3) := by decide +kernel
theorem dX8_readUnder_57 : decode cX8_readUnder 57 = .ok (.ifCond .eq 38, 3) := by decide +kernel
theorem dX8_readUnder_60 : decode cX8_readUnder 60 = .ok (.aload_n 0, 1) := by decide +kernel
theorem dX8_readUnder_61 : decode cX8_readUnder 61 = .ok (.getfield 63, 3) := by decide +kernel
theorem dX8_readUnder_64 : decode cX8_readUnder 64 = .ok (.iconst 3, 1) := by decide +kernel
theorem dX8_readUnder_65 : decode cX8_readUnder 65 = .ok (.iload_n 2, 1) := by decide +kernel
theorem dX8_readUnder_66 : decode cX8_readUnder 66 = .ok (.iadd, 1) := by decide +kernel
theorem dX8_readUnder_67 : decode cX8_readUnder 67 = .ok (.baload, 1) := by decide +kernel
theorem dX8_readUnder_68 : decode cX8_readUnder 68 = .ok (.ifCond .ne 17, 3) := by decide +kernel
theorem dX8_readUnder_71 : decode cX8_readUnder 71 = .ok (.iload_n 2, 1) := by decide +kernel
theorem dX8_readUnder_72 : decode cX8_readUnder 72 = .ok (.iload_n 1, 1) := by decide +kernel
theorem dX8_readUnder_73 : decode cX8_readUnder 73 = .ok (.if_icmp .eq 12, 3) := by decide +kernel
theorem dX8_readUnder_76 : decode cX8_readUnder 76 = .ok (.aload_n 0, 1) := by decide +kernel
theorem dX8_readUnder_77 : decode cX8_readUnder 77 = .ok (.iload_n 2, 1) := by decide +kernel
theorem dX8_readUnder_78 : decode cX8_readUnder 78 = .ok (.iload_n 1, 1) := by decide +kernel
theorem dX8_readUnder_79 : decode cX8_readUnder 79 = .ok (.invokevirtual 298, 3) := by decide +kernel
theorem dX8_readUnder_82 : decode cX8_readUnder 82 = .ok (.ifCond .eq 13, 3) := by decide +kernel
theorem dX8_readUnder_85 : decode cX8_readUnder 85 = .ok (.aload_n 0, 1) := by decide +kernel
theorem dX8_readUnder_86 : decode cX8_readUnder 86 = .ok (.bipush 6, 2) := by decide +kernel
theorem dX8_readUnder_88 : decode cX8_readUnder 88 = .ok (.aload_n 0, 1) := by decide +kernel
theorem dX8_readUnder_89 : decode cX8_readUnder 89 = .ok (.getfield 169, 3) := by decide +kernel
theorem dX8_readUnder_92 : decode cX8_readUnder 92 = .ok (.invokevirtual 194, 3) := by decide +kernel
theorem dX8_readUnder_95 : decode cX8_readUnder 95 = .ok (.aload_n 0, 1) := by decide +kernel
theorem dX8_readUnder_96 : decode cX8_readUnder 96 = .ok (.invokevirtual 198, 3) := by decide +kernel
theorem dX8_readUnder_99 : decode cX8_readUnder 99 = .ok (.ifCond .eq 46, 3) := by decide +kernel
theorem dX8_readUnder_102 : decode cX8_readUnder 102 = .ok (.aload_n 0, 1) := by decide +kernel
theorem dX8_readUnder_103 : decode cX8_readUnder 103 = .ok (.invokevirtual 205, 3) := by decide +kernel
theorem dX8_readUnder_106 : decode cX8_readUnder 106 = .ok (.aload_n 0, 1) := by decide +kernel
theorem dX8_readUnder_107 : decode cX8_readUnder 107 = .ok (.getfield 67, 3) := by decide +kernel
theorem dX8_readUnder_110 : decode cX8_readUnder 110 = .ok (.bipush 9, 2) := by decide +kernel
theorem dX8_readUnder_112 : decode cX8_readUnder 112 = .ok (.iconst 3, 1) := by decide +kernel
theorem dX8_readUnder_113 : decode cX8_readUnder 113 = .ok (.iload_n 1, 1) := by decide +kernel
theorem dX8_readUnder_114 : decode cX8_readUnder 114 = .ok (.imul, 1) := by decide +kernel
theorem dX8_readUnder_115 : decode cX8_readUnder 115 = .ok (.iadd, 1) := by decide +kernel
theorem dX8_readUnder_116 : decode cX8_readUnder 116 = .ok (.iload_n 2, 1) := by decide +kernel
theorem dX8_readUnder_117 : decode cX8_readUnder 117 = .ok (.iadd, 1) := by decide +kernel
theorem dX8_readUnder_118 : decode cX8_readUnder 118 = .ok (.iconst 1, 1) := by decide +kernel
theorem dX8_readUnder_119 : decode cX8_readUnder 119 = .ok (.bastore, 1) := by decide +kernel
theorem dX8_readUnder_120 : decode cX8_readUnder 120 = .ok (.aload_n 0, 1) := by decide +kernel
theorem dX8_readUnder_121 : decode cX8_readUnder 121 = .ok (.getfield 70, 3) := by decide +kernel
theorem dX8_readUnder_124 : decode cX8_readUnder 124 = .ok (.iconst 3, 1) := by decide +kernel
theorem dX8_readUnder_125 : decode cX8_readUnder 125 = .ok (.iload_n 1, 1) := by decide +kernel
theorem dX8_readUnder_126 : decode cX8_readUnder 126 = .ok (.iadd, 1) := by decide +kernel
theorem dX8_readUnder_127 : decode cX8_readUnder 127 = .ok (.iconst 1, 1) := by decide +kernel
theorem dX8_readUnder_128 : decode cX8_readUnder 128 = .ok (.bastore, 1) := by decide +kernel
theorem dX8_readUnder_129 : decode cX8_readUnder 129 = .ok (.aload_n 0, 1) := by decide +kernel
theorem dX8_readUnder_130 : decode cX8_readUnder 130 = .ok (.getfield 70, 3) := by decide +kernel
theorem dX8_readUnder_133 : decode cX8_readUnder 133 = .ok (.iconst 3, 1) := by decide +kernel
theorem dX8_readUnder_134 : decode cX8_readUnder 134 = .ok (.iload_n 2, 1) := by decide +kernel
theorem dX8_readUnder_135 : decode cX8_readUnder 135 = .ok (.iadd, 1) := by decide +kernel
theorem dX8_readUnder_136 : decode cX8_readUnder 136 = .ok (.iconst 1, 1) := by decide +kernel
theorem dX8_readUnder_137 : decode cX8_readUnder 137 = .ok (.bastore, 1) := by decide +kernel
theorem dX8_readUnder_138 : decode cX8_readUnder 138 = .ok (.aload_n 0, 1) := by decide +kernel
theorem dX8_readUnder_139 : decode cX8_readUnder 139 = .ok (.iconst 3, 1) := by decide +kernel
theorem dX8_readUnder_140 : decode cX8_readUnder 140 = .ok (.iload_n 1, 1) := by decide +kernel
theorem dX8_readUnder_141 : decode cX8_readUnder 141 = .ok (.iload_n 2, 1) := by decide +kernel
theorem dX8_readUnder_142 : decode cX8_readUnder 142 = .ok (.invokevirtual 301, 3) := by decide +kernel
theorem dX8_readUnder_145 : decode cX8_readUnder 145 = .ok (.return_, 1) := by decide +kernel
theorem dX8_readSingle_0 : decode cX8_readSingle 0 = .ok (.aload_n 0, 1) := by decide +kernel
theorem dX8_readSingle_1 : decode cX8_readSingle 1 = .ok (.invokevirtual 205, 3) := by decide +kernel
theorem dX8_readSingle_4 : decode cX8_readSingle 4 = .ok (.aload_n 0, 1) := by decide +kernel
theorem dX8_readSingle_5 : decode cX8_readSingle 5 = .ok (.invokevirtual 277, 3) := by decide +kernel
theorem dX8_readSingle_8 : decode cX8_readSingle 8 = .ok (.istore_n 1, 1) := by decide +kernel
theorem dX8_readSingle_9 : decode cX8_readSingle 9 = .ok (.aload_n 0, 1) := by decide +kernel
theorem dX8_readSingle_10 : decode cX8_readSingle 10 = .ok (.invokevirtual 198, 3) := by decide +kernel
theorem dX8_readSingle_13 : decode cX8_readSingle 13 = .ok (.ifCond .eq 24, 3) := by decide +kernel
theorem dX8_readSingle_16 : decode cX8_readSingle 16 = .ok (.aload_n 0, 1) := by decide +kernel
theorem dX8_readSingle_17 : decode cX8_readSingle 17 = .ok (.getfield 70, 3) := by decide +kernel
theorem dX8_readSingle_20 : decode cX8_readSingle 20 = .ok (.iconst 3, 1) := by decide +kernel
theorem dX8_readSingle_21 : decode cX8_readSingle 21 = .ok (.iload_n 1, 1) := by decide +kernel
theorem dX8_readSingle_22 : decode cX8_readSingle 22 = .ok (.iadd, 1) := by decide +kernel
theorem dX8_readSingle_23 : decode cX8_readSingle 23 = .ok (.baload, 1) := by decide +kernel
theorem dX8_readSingle_24 : decode cX8_readSingle 24 = .ok (.ifCond .eq 13, 3) := by decide +kernel
theorem dX8_readSingle_27 : decode cX8_readSingle 27 = .ok (.aload_n 0, 1) := by decide +kernel
theorem dX8_readSingle_28 : decode cX8_readSingle 28 = .ok (.bipush 6, 2) := by decide +kernel
theorem dX8_readSingle_30 : decode cX8_readSingle 30 = .ok (.aload_n 0, 1) := by decide +kernel
theorem dX8_readSingle_31 : decode cX8_readSingle 31 = .ok (.getfield 169, 3) := by decide +kernel
theorem dX8_readSingle_34 : decode cX8_readSingle 34 = .ok (.invokevirtual 194, 3) := by decide +kernel
theorem dX8_readSingle_37 : decode cX8_readSingle 37 = .ok (.aload_n 0, 1) := by decide +kernel
theorem dX8_readSingle_38 : decode cX8_readSingle 38 = .ok (.invokevirtual 198, 3) := by decide +kernel
theorem dX8_readSingle_41 : decode cX8_readSingle 41 = .ok (.ifCond .eq 23, 3) := by decide +kernel
theorem dX8_readSingle_44 : decode cX8_readSingle 44 = .ok (.aload_n 0, 1) := by decide +kernel
theorem dX8_readSingle_45 : decode cX8_readSingle 45 = .ok (.invokevirtual 205, 3) := by decide +kernel
theorem dX8_readSingle_48 : decode cX8_readSingle 48 = .ok (.aload_n 0, 1) := by decide +kernel
theorem dX8_readSingle_49 : decode cX8_readSingle 49 = .ok (.getfield 63, 3) := by decide +kernel
theorem dX8_readSingle_52 : decode cX8_readSingle 52 = .ok (.iconst 3, 1) := by decide +kernel
theorem dX8_readSingle_53 : decode cX8_readSingle 53 = .ok (.iload_n 1, 1) := by decide +kernel
theorem dX8_readSingle_54 : decode cX8_readSingle 54 = .ok (.iadd, 1) := by decide +kernel
theorem dX8_readSingle_55 : decode cX8_readSingle 55 = .ok (.iconst 1, 1) := by decide +kernel
theorem dX8_readSingle_56 : decode cX8_readSingle 56 = .ok (.bastore, 1) := by decide +kernel
theorem dX8_readSingle_57 : decode cX8_readSingle 57 = .ok (.aload_n 0, 1) := by decide +kernel
theorem dX8_readSingle_58 : decode cX8_readSingle 58 = .ok (.iconst 4, 1) := by decide +kernel
theorem dX8_readSingle_59 : decode cX8_readSingle 59 = .ok (.iload_n 1, 1) := by decide +kernel
theorem dX8_readSingle_60 : decode cX8_readSingle 60 = .ok (.iconst (-1), 1) := by decide +kernel
theorem dX8_readSingle_61 : decode cX8_readSingle 61 = .ok (.invokevirtual 301, 3) := by decide +kernel
theorem dX8_readSingle_64 : decode cX8_readSingle 64 = .ok (.return_, 1) := by decide +kernel
theorem dX8_readAsk_0 : decode cX8_readAsk 0 = .ok (.aload_n 0, 1) := by decide +kernel
theorem dX8_readAsk_1 : decode cX8_readAsk 1 = .ok (.getfield 305, 3) := by decide +kernel
theorem dX8_readAsk_4 : decode cX8_readAsk 4 = .ok (.bipush 12, 2) := by decide +kernel
theorem dX8_readAsk_6 : decode cX8_readAsk 6 = .ok (.if_icmp .ne 13, 3) := by decide +kernel
theorem dX8_readAsk_9 : decode cX8_readAsk 9 = .ok (.aload_n 0, 1) := by decide +kernel
theorem dX8_readAsk_10 : decode cX8_readAsk 10 = .ok (.iconst 3, 1) := by decide +kernel
theorem dX8_readAsk_11 : decode cX8_readAsk 11 = .ok (.aload_n 0, 1) := by decide +kernel
theorem dX8_readAsk_12 : decode cX8_readAsk 12 = .ok (.getfield 169, 3) := by decide +kernel
theorem dX8_readAsk_15 : decode cX8_readAsk 15 = .ok (.invokevirtual 194, 3) := by decide +kernel
theorem dX8_readAsk_18 : decode cX8_readAsk 18 = .ok (.return_, 1) := by decide +kernel
theorem dX8_readAsk_19 : decode cX8_readAsk 19 = .ok (.aload_n 0, 1) := by decide +kernel
theorem dX8_readAsk_20 : decode cX8_readAsk 20 = .ok (.invokevirtual 205, 3) := by decide +kernel
theorem dX8_readAsk_23 : decode cX8_readAsk 23 = .ok (.aload_n 0, 1) := by decide +kernel
theorem dX8_readAsk_24 : decode cX8_readAsk 24 = .ok (.invokevirtual 308, 3) := by decide +kernel
theorem dX8_readAsk_27 : decode cX8_readAsk 27 = .ok (.istore_n 1, 1) := by decide +kernel
theorem dX8_readAsk_28 : decode cX8_readAsk 28 = .ok (.aload_n 0, 1) := by decide +kernel
theorem dX8_readAsk_29 : decode cX8_readAsk 29 = .ok (.invokevirtual 198, 3) := by decide +kernel
theorem dX8_readAsk_32 : decode cX8_readAsk 32 = .ok (.ifCond .eq 36, 3) := by decide +kernel
theorem dX8_readAsk_35 : decode cX8_readAsk 35 = .ok (.aload_n 0, 1) := by decide +kernel
theorem dX8_readAsk_36 : decode cX8_readAsk 36 = .ok (.getfield 48, 3) := by decide +kernel
theorem dX8_readAsk_39 : decode cX8_readAsk 39 = .ok (.bipush 12, 2) := by decide +kernel
theorem dX8_readAsk_41 : decode cX8_readAsk 41 = .ok (.aload_n 0, 1) := by decide +kernel
theorem dX8_readAsk_42 : decode cX8_readAsk 42 = .ok (.getfield 305, 3) := by decide +kernel
theorem dX8_readAsk_45 : decode cX8_readAsk 45 = .ok (.iadd, 1) := by decide +kernel
theorem dX8_readAsk_46 : decode cX8_readAsk 46 = .ok (.iload_n 1, 1) := by decide +kernel
theorem dX8_readAsk_47 : decode cX8_readAsk 47 = .ok (.iastore, 1) := by decide +kernel
theorem dX8_readAsk_48 : decode cX8_readAsk 48 = .ok (.aload_n 0, 1) := by decide +kernel
theorem dX8_readAsk_49 : decode cX8_readAsk 49 = .ok (.iconst 2, 1) := by decide +kernel
theorem dX8_readAsk_50 : decode cX8_readAsk 50 = .ok (.iload_n 1, 1) := by decide +kernel
theorem dX8_readAsk_51 : decode cX8_readAsk 51 = .ok (.aload_n 0, 1) := by decide +kernel
theorem dX8_readAsk_52 : decode cX8_readAsk 52 = .ok (.getfield 305, 3) := by decide +kernel
theorem dX8_readAsk_55 : decode cX8_readAsk 55 = .ok (.invokevirtual 301, 3) := by decide +kernel
theorem dX8_readAsk_58 : decode cX8_readAsk 58 = .ok (.aload_n 0, 1) := by decide +kernel
theorem dX8_readAsk_59 : decode cX8_readAsk 59 = .ok (.dup, 1) := by decide +kernel
theorem dX8_readAsk_60 : decode cX8_readAsk 60 = .ok (.getfield 305, 3) := by decide +kernel
theorem dX8_readAsk_63 : decode cX8_readAsk 63 = .ok (.iconst 1, 1) := by decide +kernel
theorem dX8_readAsk_64 : decode cX8_readAsk 64 = .ok (.iadd, 1) := by decide +kernel
theorem dX8_readAsk_65 : decode cX8_readAsk 65 = .ok (.putfield 305, 3) := by decide +kernel
theorem dX8_readAsk_68 : decode cX8_readAsk 68 = .ok (.return_, 1) := by decide +kernel
theorem dX8_readRule_0 : decode cX8_readRule 0 = .ok (.aload_n 0, 1) := by decide +kernel
theorem dX8_readRule_1 : decode cX8_readRule 1 = .ok (.invokevirtual 224, 3) := by decide +kernel
theorem dX8_readRule_4 : decode cX8_readRule 4 = .ok (.istore_n 1, 1) := by decide +kernel
theorem dX8_readRule_5 : decode cX8_readRule 5 = .ok (.aload_n 0, 1) := by decide +kernel
theorem dX8_readRule_6 : decode cX8_readRule 6 = .ok (.bipush 40, 2) := by decide +kernel
theorem dX8_readRule_8 : decode cX8_readRule 8 = .ok (.invokevirtual 202, 3) := by decide +kernel
theorem dX8_readRule_11 : decode cX8_readRule 11 = .ok (.ifCond .ne 27, 3) := by decide +kernel
theorem dX8_readRule_14 : decode cX8_readRule 14 = .ok (.aload_n 0, 1) := by decide +kernel
theorem dX8_readRule_15 : decode cX8_readRule 15 = .ok (.getfield 178, 3) := by decide +kernel
theorem dX8_readRule_18 : decode cX8_readRule 18 = .ok (.iconst 1, 1) := by decide +kernel
theorem dX8_readRule_19 : decode cX8_readRule 19 = .ok (.if_icmp .ne 12, 3) := by decide +kernel
theorem dX8_readRule_22 : decode cX8_readRule 22 = .ok (.iload_n 1, 1) := by decide +kernel
theorem dX8_readRule_23 : decode cX8_readRule 23 = .ok (.ifCond .lt 15, 3) := by decide +kernel
theorem dX8_readRule_26 : decode cX8_readRule 26 = .ok (.iload_n 1, 1) := by decide +kernel
theorem dX8_readRule_27 : decode cX8_readRule 27 = .ok (.iconst 5, 1) := by decide +kernel
theorem dX8_readRule_28 : decode cX8_readRule 28 = .ok (.if_icmp .ge 10, 3) := by decide +kernel
theorem dX8_readRule_31 : decode cX8_readRule 31 = .ok (.aload_n 0, 1) := by decide +kernel
theorem dX8_readRule_32 : decode cX8_readRule 32 = .ok (.invokevirtual 208, 3) := by decide +kernel
theorem dX8_readRule_35 : decode cX8_readRule 35 = .ok (.goto 21, 3) := by decide +kernel
theorem dX8_readRule_38 : decode cX8_readRule 38 = .ok (.aload_n 0, 1) := by decide +kernel
theorem dX8_readRule_39 : decode cX8_readRule 39 = .ok (.getfield 311, 3) := by decide +kernel
theorem dX8_readRule_42 : decode cX8_readRule 42 = .ok (.bipush 12, 2) := by decide +kernel
theorem dX8_readRule_44 : decode cX8_readRule 44 = .ok (.if_icmp .ne 12, 3) := by decide +kernel
theorem dX8_readRule_47 : decode cX8_readRule 47 = .ok (.aload_n 0, 1) := by decide +kernel
theorem dX8_readRule_48 : decode cX8_readRule 48 = .ok (.iconst 3, 1) := by decide +kernel
theorem dX8_readRule_49 : decode cX8_readRule 49 = .ok (.aload_n 0, 1) := by decide +kernel
theorem dX8_readRule_50 : decode cX8_readRule 50 = .ok (.getfield 169, 3) := by decide +kernel
theorem dX8_readRule_53 : decode cX8_readRule 53 = .ok (.invokevirtual 194, 3) := by decide +kernel
theorem dX8_readRule_56 : decode cX8_readRule 56 = .ok (.aload_n 0, 1) := by decide +kernel
theorem dX8_readRule_57 : decode cX8_readRule 57 = .ok (.invokevirtual 198, 3) := by decide +kernel
theorem dX8_readRule_60 : decode cX8_readRule 60 = .ok (.ifCond .ne 4, 3) := by decide +kernel
theorem dX8_readRule_63 : decode cX8_readRule 63 = .ok (.return_, 1) := by decide +kernel
theorem dX8_readRule_64 : decode cX8_readRule 64 = .ok (.aload_n 0, 1) := by decide +kernel
theorem dX8_readRule_65 : decode cX8_readRule 65 = .ok (.invokevirtual 308, 3) := by decide +kernel
theorem dX8_readRule_68 : decode cX8_readRule 68 = .ok (.istore_n 2, 1) := by decide +kernel
theorem dX8_readRule_69 : decode cX8_readRule 69 = .ok (.aload_n 0, 1) := by decide +kernel
theorem dX8_readRule_70 : decode cX8_readRule 70 = .ok (.invokevirtual 198, 3) := by decide +kernel
theorem dX8_readRule_73 : decode cX8_readRule 73 = .ok (.ifCond .eq 25, 3) := by decide +kernel
theorem dX8_readRule_76 : decode cX8_readRule 76 = .ok (.aload_n 0, 1) := by decide +kernel
theorem dX8_readRule_77 : decode cX8_readRule 77 = .ok (.bipush 60, 2) := by decide +kernel
theorem dX8_readRule_79 : decode cX8_readRule 79 = .ok (.invokevirtual 202, 3) := by decide +kernel
theorem dX8_readRule_82 : decode cX8_readRule 82 = .ok (.ifCond .ne 16, 3) := by decide +kernel
theorem dX8_readRule_85 : decode cX8_readRule 85 = .ok (.aload_n 0, 1) := by decide +kernel
theorem dX8_readRule_86 : decode cX8_readRule 86 = .ok (.bipush 61, 2) := by decide +kernel
theorem dX8_readRule_88 : decode cX8_readRule 88 = .ok (.invokevirtual 202, 3) := by decide +kernel
theorem dX8_readRule_91 : decode cX8_readRule 91 = .ok (.ifCond .ne 7, 3) := by decide +kernel
theorem dX8_readRule_94 : decode cX8_readRule 94 = .ok (.aload_n 0, 1) := by decide +kernel
theorem dX8_readRule_95 : decode cX8_readRule 95 = .ok (.invokevirtual 208, 3) := by decide +kernel
theorem dX8_readRule_98 : decode cX8_readRule 98 = .ok (.aload_n 0, 1) := by decide +kernel
theorem dX8_readRule_99 : decode cX8_readRule 99 = .ok (.invokevirtual 198, 3) := by decide +kernel
theorem dX8_readRule_102 : decode cX8_readRule 102 = .ok (.ifCond .ne 4, 3) := by decide +kernel
theorem dX8_readRule_105 : decode cX8_readRule 105 = .ok (.return_, 1) := by decide +kernel
theorem dX8_readRule_106 : decode cX8_readRule 106 = .ok (.aload_n 0, 1) := by decide +kernel
theorem dX8_readRule_107 : decode cX8_readRule 107 = .ok (.getfield 175, 3) := by decide +kernel
theorem dX8_readRule_110 : decode cX8_readRule 110 = .ok (.bipush 60, 2) := by decide +kernel
theorem dX8_readRule_112 : decode cX8_readRule 112 = .ok (.if_icmp .ne 7, 3) := by decide +kernel
theorem dX8_readRule_115 : decode cX8_readRule 115 = .ok (.iconst 0, 1) := by decide +kernel
theorem dX8_readRule_116 : decode cX8_readRule 116 = .ok (.goto 4, 3) := by decide +kernel
theorem dX8_readRule_119 : decode cX8_readRule 119 = .ok (.iconst 1, 1) := by decide +kernel
theorem dX8_readRule_120 : decode cX8_readRule 120 = .ok (.istore_n 3, 1) := by decide +kernel
theorem dX8_readRule_121 : decode cX8_readRule 121 = .ok (.aload_n 0, 1) := by decide +kernel
theorem dX8_readRule_122 : decode cX8_readRule 122 = .ok (.invokevirtual 205, 3) := by decide +kernel
theorem dX8_readRule_125 : decode cX8_readRule 125 = .ok (.aload_n 0, 1) := by decide +kernel
theorem dX8_readRule_126 : decode cX8_readRule 126 = .ok (.invokevirtual 308, 3) := by decide +kernel
theorem dX8_readRule_129 : decode cX8_readRule 129 = .ok (.istore 4, 2) := by decide +kernel
theorem dX8_readRule_131 : decode cX8_readRule 131 = .ok (.aload_n 0, 1) := by decide +kernel
theorem dX8_readRule_132 : decode cX8_readRule 132 = .ok (.invokevirtual 198, 3) := by decide +kernel
theorem dX8_readRule_135 : decode cX8_readRule 135 = .ok (.ifCond .eq 37, 3) := by decide +kernel
theorem dX8_readRule_138 : decode cX8_readRule 138 = .ok (.aload_n 0, 1) := by decide +kernel
theorem dX8_readRule_139 : decode cX8_readRule 139 = .ok (.getfield 45, 3) := by decide +kernel
theorem dX8_readRule_142 : decode cX8_readRule 142 = .ok (.bipush 12, 2) := by decide +kernel
theorem dX8_readRule_144 : decode cX8_readRule 144 = .ok (.aload_n 0, 1) := by decide +kernel
theorem dX8_readRule_145 : decode cX8_readRule 145 = .ok (.getfield 311, 3) := by decide +kernel
theorem dX8_readRule_148 : decode cX8_readRule 148 = .ok (.iadd, 1) := by decide +kernel
theorem dX8_readRule_149 : decode cX8_readRule 149 = .ok (.aload_n 0, 1) := by decide +kernel
theorem dX8_readRule_150 : decode cX8_readRule 150 = .ok (.getfield 295, 3) := by decide +kernel
theorem dX8_readRule_153 : decode cX8_readRule 153 = .ok (.iastore, 1) := by decide +kernel
theorem dX8_readRule_154 : decode cX8_readRule 154 = .ok (.aload_n 0, 1) := by decide +kernel
theorem dX8_readRule_155 : decode cX8_readRule 155 = .ok (.iload_n 3, 1) := by decide +kernel
theorem dX8_readRule_156 : decode cX8_readRule 156 = .ok (.iload_n 2, 1) := by decide +kernel
theorem dX8_readRule_157 : decode cX8_readRule 157 = .ok (.iload 4, 2) := by decide +kernel
theorem dX8_readRule_159 : decode cX8_readRule 159 = .ok (.invokevirtual 301, 3) := by decide +kernel
theorem dX8_readRule_162 : decode cX8_readRule 162 = .ok (.aload_n 0, 1) := by decide +kernel
theorem dX8_readRule_163 : decode cX8_readRule 163 = .ok (.dup, 1) := by decide +kernel
theorem dX8_readRule_164 : decode cX8_readRule 164 = .ok (.getfield 311, 3) := by decide +kernel
theorem dX8_readRule_167 : decode cX8_readRule 167 = .ok (.iconst 1, 1) := by decide +kernel
theorem dX8_readRule_168 : decode cX8_readRule 168 = .ok (.iadd, 1) := by decide +kernel
theorem dX8_readRule_169 : decode cX8_readRule 169 = .ok (.putfield 311, 3) := by decide +kernel
theorem dX8_readRule_172 : decode cX8_readRule 172 = .ok (.return_, 1) := by decide +kernel
theorem dX8_read_0 : decode cX8_read 0 = .ok (.aload_n 0, 1) := by decide +kernel
theorem dX8_read_1 : decode cX8_read 1 = .ok (.iconst 0, 1) := by decide +kernel
theorem dX8_read_2 : decode cX8_read 2 = .ok (.putfield 188, 3) := by decide +kernel
theorem dX8_read_5 : decode cX8_read 5 = .ok (.aload_n 0, 1) := by decide +kernel
theorem dX8_read_6 : decode cX8_read 6 = .ok (.iconst 0, 1) := by decide +kernel
theorem dX8_read_7 : decode cX8_read 7 = .ok (.putfield 211, 3) := by decide +kernel
theorem dX8_read_10 : decode cX8_read 10 = .ok (.aload_n 0, 1) := by decide +kernel
theorem dX8_read_11 : decode cX8_read 11 = .ok (.iconst 0, 1) := by decide +kernel
theorem dX8_read_12 : decode cX8_read 12 = .ok (.putfield 245, 3) := by decide +kernel
theorem dX8_read_15 : decode cX8_read 15 = .ok (.aload_n 0, 1) := by decide +kernel
theorem dX8_read_16 : decode cX8_read 16 = .ok (.iconst 0, 1) := by decide +kernel
theorem dX8_read_17 : decode cX8_read 17 = .ok (.putfield 295, 3) := by decide +kernel
theorem dX8_read_20 : decode cX8_read 20 = .ok (.aload_n 0, 1) := by decide +kernel
theorem dX8_read_21 : decode cX8_read 21 = .ok (.iconst 0, 1) := by decide +kernel
theorem dX8_read_22 : decode cX8_read 22 = .ok (.putfield 311, 3) := by decide +kernel
theorem dX8_read_25 : decode cX8_read 25 = .ok (.aload_n 0, 1) := by decide +kernel
theorem dX8_read_26 : decode cX8_read 26 = .ok (.iconst 0, 1) := by decide +kernel
theorem dX8_read_27 : decode cX8_read 27 = .ok (.putfield 305, 3) := by decide +kernel
theorem dX8_read_30 : decode cX8_read 30 = .ok (.aload_n 0, 1) := by decide +kernel
theorem dX8_read_31 : decode cX8_read 31 = .ok (.iconst 0, 1) := by decide +kernel
theorem dX8_read_32 : decode cX8_read 32 = .ok (.putfield 214, 3) := by decide +kernel
theorem dX8_read_35 : decode cX8_read 35 = .ok (.aload_n 0, 1) := by decide +kernel
theorem dX8_read_36 : decode cX8_read 36 = .ok (.iconst 0, 1) := by decide +kernel
theorem dX8_read_37 : decode cX8_read 37 = .ok (.putfield 221, 3) := by decide +kernel
theorem dX8_read_40 : decode cX8_read 40 = .ok (.aload_n 0, 1) := by decide +kernel
theorem dX8_read_41 : decode cX8_read 41 = .ok (.iconst 0, 1) := by decide +kernel
theorem dX8_read_42 : decode cX8_read 42 = .ok (.putfield 234, 3) := by decide +kernel
theorem dX8_read_45 : decode cX8_read 45 = .ok (.bipush 9, 2) := by decide +kernel
theorem dX8_read_47 : decode cX8_read 47 = .ok (.istore_n 1, 1) := by decide +kernel
theorem dX8_read_48 : decode cX8_read 48 = .ok (.iload_n 1, 1) := by decide +kernel
theorem dX8_read_49 : decode cX8_read 49 = .ok (.bipush 18, 2) := by decide +kernel
theorem dX8_read_51 : decode cX8_read 51 = .ok (.if_icmp .ge 16, 3) := by decide +kernel
theorem dX8_read_54 : decode cX8_read 54 = .ok (.aload_n 0, 1) := by decide +kernel
theorem dX8_read_55 : decode cX8_read 55 = .ok (.getfield 67, 3) := by decide +kernel
theorem dX8_read_58 : decode cX8_read 58 = .ok (.iload_n 1, 1) := by decide +kernel
theorem dX8_read_59 : decode cX8_read 59 = .ok (.iconst 0, 1) := by decide +kernel
theorem dX8_read_60 : decode cX8_read 60 = .ok (.bastore, 1) := by decide +kernel
theorem dX8_read_61 : decode cX8_read 61 = .ok (.iinc 1 1, 3) := by decide +kernel
theorem dX8_read_64 : decode cX8_read 64 = .ok (.goto (-16), 3) := by decide +kernel
theorem dX8_read_67 : decode cX8_read 67 = .ok (.aload_n 0, 1) := by decide +kernel
theorem dX8_read_68 : decode cX8_read 68 = .ok (.iconst 0, 1) := by decide +kernel
theorem dX8_read_69 : decode cX8_read 69 = .ok (.putfield 166, 3) := by decide +kernel
theorem dX8_read_72 : decode cX8_read 72 = .ok (.aload_n 0, 1) := by decide +kernel
theorem dX8_read_73 : decode cX8_read 73 = .ok (.invokevirtual 205, 3) := by decide +kernel
theorem dX8_read_76 : decode cX8_read 76 = .ok (.aload_n 0, 1) := by decide +kernel
theorem dX8_read_77 : decode cX8_read 77 = .ok (.invokevirtual 198, 3) := by decide +kernel
theorem dX8_read_80 : decode cX8_read 80 = .ok (.ifCond .eq 63, 3) := by decide +kernel
theorem dX8_read_83 : decode cX8_read 83 = .ok (.aload_n 0, 1) := by decide +kernel
theorem dX8_read_84 : decode cX8_read 84 = .ok (.getfield 178, 3) := by decide +kernel
theorem dX8_read_87 : decode cX8_read 87 = .ok (.ifCond .eq 56, 3) := by decide +kernel
theorem dX8_read_90 : decode cX8_read 90 = .ok (.aload_n 0, 1) := by decide +kernel
theorem dX8_read_91 : decode cX8_read 91 = .ok (.invokevirtual 224, 3) := by decide +kernel
theorem dX8_read_94 : decode cX8_read 94 = .ok (.istore_n 1, 1) := by decide +kernel
theorem dX8_read_95 : decode cX8_read 95 = .ok (.iload_n 1, 1) := by decide +kernel
theorem dX8_read_96 : decode cX8_read 96 = .ok (.ifCond .ne 10, 3) := by decide +kernel
theorem dX8_read_99 : decode cX8_read 99 = .ok (.aload_n 0, 1) := by decide +kernel
theorem dX8_read_100 : decode cX8_read 100 = .ok (.invokevirtual 314, 3) := by decide +kernel
theorem dX8_read_103 : decode cX8_read 103 = .ok (.goto 31, 3) := by decide +kernel
theorem dX8_read_106 : decode cX8_read 106 = .ok (.iload_n 1, 1) := by decide +kernel
theorem dX8_read_107 : decode cX8_read 107 = .ok (.iconst 1, 1) := by decide +kernel
theorem dX8_read_108 : decode cX8_read 108 = .ok (.if_icmp .ne 10, 3) := by decide +kernel
theorem dX8_read_111 : decode cX8_read 111 = .ok (.aload_n 0, 1) := by decide +kernel
theorem dX8_read_112 : decode cX8_read 112 = .ok (.invokevirtual 317, 3) := by decide +kernel
theorem dX8_read_115 : decode cX8_read 115 = .ok (.goto 19, 3) := by decide +kernel
theorem dX8_read_118 : decode cX8_read 118 = .ok (.iload_n 1, 1) := by decide +kernel
theorem dX8_read_119 : decode cX8_read 119 = .ok (.iconst 2, 1) := by decide +kernel
theorem dX8_read_120 : decode cX8_read 120 = .ok (.if_icmp .ne 10, 3) := by decide +kernel
theorem dX8_read_123 : decode cX8_read 123 = .ok (.aload_n 0, 1) := by decide +kernel
theorem dX8_read_124 : decode cX8_read 124 = .ok (.invokevirtual 320, 3) := by decide +kernel
theorem dX8_read_127 : decode cX8_read 127 = .ok (.goto 7, 3) := by decide +kernel
theorem dX8_read_130 : decode cX8_read 130 = .ok (.aload_n 0, 1) := by decide +kernel
theorem dX8_read_131 : decode cX8_read 131 = .ok (.invokevirtual 323, 3) := by decide +kernel
theorem dX8_read_134 : decode cX8_read 134 = .ok (.aload_n 0, 1) := by decide +kernel
theorem dX8_read_135 : decode cX8_read 135 = .ok (.bipush 59, 2) := by decide +kernel
theorem dX8_read_137 : decode cX8_read 137 = .ok (.invokevirtual 326, 3) := by decide +kernel
theorem dX8_read_140 : decode cX8_read 140 = .ok (.goto (-64), 3) := by decide +kernel
theorem dX8_read_143 : decode cX8_read 143 = .ok (.aload_n 0, 1) := by decide +kernel
theorem dX8_read_144 : decode cX8_read 144 = .ok (.iconst 0, 1) := by decide +kernel
theorem dX8_read_145 : decode cX8_read 145 = .ok (.putfield 147, 3) := by decide +kernel
theorem dX8_read_148 : decode cX8_read 148 = .ok (.aload_n 0, 1) := by decide +kernel
theorem dX8_read_149 : decode cX8_read 149 = .ok (.invokevirtual 198, 3) := by decide +kernel
theorem dX8_read_152 : decode cX8_read 152 = .ok (.ifCond .ne 17, 3) := by decide +kernel
theorem dX8_read_155 : decode cX8_read 155 = .ok (.aload_n 0, 1) := by decide +kernel
theorem dX8_read_156 : decode cX8_read 156 = .ok (.aload_n 0, 1) := by decide +kernel
theorem dX8_read_157 : decode cX8_read 157 = .ok (.getfield 191, 3) := by decide +kernel
theorem dX8_read_160 : decode cX8_read 160 = .ok (.putfield 85, 3) := by decide +kernel
theorem dX8_read_163 : decode cX8_read 163 = .ok (.aload_n 0, 1) := by decide +kernel
theorem dX8_read_164 : decode cX8_read 164 = .ok (.getfield 188, 3) := by decide +kernel
theorem dX8_read_167 : decode cX8_read 167 = .ok (.ineg, 1) := by decide +kernel
theorem dX8_read_168 : decode cX8_read 168 = .ok (.ireturn, 1) := by decide +kernel
theorem dX8_read_169 : decode cX8_read 169 = .ok (.aload_n 0, 1) := by decide +kernel
theorem dX8_read_170 : decode cX8_read 170 = .ok (.iconst (-1), 1) := by decide +kernel
theorem dX8_read_171 : decode cX8_read 171 = .ok (.putfield 85, 3) := by decide +kernel
theorem dX8_read_174 : decode cX8_read 174 = .ok (.aload_n 0, 1) := by decide +kernel
theorem dX8_read_175 : decode cX8_read 175 = .ok (.invokevirtual 329, 3) := by decide +kernel
theorem dX8_read_178 : decode cX8_read 178 = .ok (.aload_n 0, 1) := by decide +kernel
theorem dX8_read_179 : decode cX8_read 179 = .ok (.getfield 332, 3) := by decide +kernel
theorem dX8_read_182 : decode cX8_read 182 = .ok (.ireturn, 1) := by decide +kernel
theorem dX8_place_0 : decode cX8_place 0 = .ok (.aload_n 0, 1) := by decide +kernel
theorem dX8_place_1 : decode cX8_place 1 = .ok (.getfield 85, 3) := by decide +kernel
theorem dX8_place_4 : decode cX8_place 4 = .ok (.ireturn, 1) := by decide +kernel
theorem dX8_moved_0 : decode cX8_moved 0 = .ok (.iload_n 0, 1) := by decide +kernel
theorem dX8_moved_1 : decode cX8_moved 1 = .ok (.sipush 200, 3) := by decide +kernel
theorem dX8_moved_4 : decode cX8_moved 4 = .ok (.if_icmp .ge 7, 3) := by decide +kernel
theorem dX8_moved_7 : decode cX8_moved 7 = .ok (.iload_n 0, 1) := by decide +kernel
theorem dX8_moved_8 : decode cX8_moved 8 = .ok (.goto 8, 3) := by decide +kernel
theorem dX8_moved_11 : decode cX8_moved 11 = .ok (.iload_n 0, 1) := by decide +kernel
theorem dX8_moved_12 : decode cX8_moved 12 = .ok (.sipush 200, 3) := by decide +kernel
theorem dX8_moved_15 : decode cX8_moved 15 = .ok (.isub, 1) := by decide +kernel
theorem dX8_moved_16 : decode cX8_moved 16 = .ok (.ireturn, 1) := by decide +kernel
theorem dX8_become_0 : decode cX8_become 0 = .ok (.aload_n 0, 1) := by decide +kernel
theorem dX8_become_1 : decode cX8_become 1 = .ok (.aload_n 0, 1) := by decide +kernel
theorem dX8_become_2 : decode cX8_become 2 = .ok (.getfield 211, 3) := by decide +kernel
theorem dX8_become_5 : decode cX8_become 5 = .ok (.putfield 332, 3) := by decide +kernel
theorem dX8_become_8 : decode cX8_become 8 = .ok (.iconst 0, 1) := by decide +kernel
theorem dX8_become_9 : decode cX8_become 9 = .ok (.istore_n 1, 1) := by decide +kernel
theorem dX8_become_10 : decode cX8_become 10 = .ok (.iload_n 1, 1) := by decide +kernel
theorem dX8_become_11 : decode cX8_become 11 = .ok (.aload_n 0, 1) := by decide +kernel
theorem dX8_become_12 : decode cX8_become 12 = .ok (.getfield 332, 3) := by decide +kernel
theorem dX8_become_15 : decode cX8_become 15 = .ok (.if_icmp .ge 103, 3) := by decide +kernel
theorem dX8_become_18 : decode cX8_become 18 = .ok (.sipush 200, 3) := by decide +kernel
theorem dX8_become_21 : decode cX8_become 21 = .ok (.iload_n 1, 1) := by decide +kernel
theorem dX8_become_22 : decode cX8_become 22 = .ok (.iadd, 1) := by decide +kernel
theorem dX8_become_23 : decode cX8_become 23 = .ok (.istore_n 2, 1) := by decide +kernel
theorem dX8_become_24 : decode cX8_become 24 = .ok (.aload_n 0, 1) := by decide +kernel
theorem dX8_become_25 : decode cX8_become 25 = .ok (.getfield 17, 3) := by decide +kernel
theorem dX8_become_28 : decode cX8_become 28 = .ok (.iload_n 1, 1) := by decide +kernel
theorem dX8_become_29 : decode cX8_become 29 = .ok (.aload_n 0, 1) := by decide +kernel
theorem dX8_become_30 : decode cX8_become 30 = .ok (.getfield 17, 3) := by decide +kernel
theorem dX8_become_33 : decode cX8_become 33 = .ok (.iload_n 2, 1) := by decide +kernel
theorem dX8_become_34 : decode cX8_become 34 = .ok (.iaload, 1) := by decide +kernel
theorem dX8_become_35 : decode cX8_become 35 = .ok (.iastore, 1) := by decide +kernel
theorem dX8_become_36 : decode cX8_become 36 = .ok (.aload_n 0, 1) := by decide +kernel
theorem dX8_become_37 : decode cX8_become 37 = .ok (.getfield 21, 3) := by decide +kernel
theorem dX8_become_40 : decode cX8_become 40 = .ok (.iload_n 1, 1) := by decide +kernel
theorem dX8_become_41 : decode cX8_become 41 = .ok (.aload_n 0, 1) := by decide +kernel
theorem dX8_become_42 : decode cX8_become 42 = .ok (.getfield 17, 3) := by decide +kernel
theorem dX8_become_45 : decode cX8_become 45 = .ok (.iload_n 2, 1) := by decide +kernel
theorem dX8_become_46 : decode cX8_become 46 = .ok (.iaload, 1) := by decide +kernel
theorem dX8_become_47 : decode cX8_become 47 = .ok (.iconst 5, 1) := by decide +kernel
theorem dX8_become_48 : decode cX8_become 48 = .ok (.if_icmp .le 15, 3) := by decide +kernel
theorem dX8_become_51 : decode cX8_become 51 = .ok (.aload_n 0, 1) := by decide +kernel
theorem dX8_become_52 : decode cX8_become 52 = .ok (.getfield 21, 3) := by decide +kernel
theorem dX8_become_55 : decode cX8_become 55 = .ok (.iload_n 2, 1) := by decide +kernel
theorem dX8_become_56 : decode cX8_become 56 = .ok (.iaload, 1) := by decide +kernel
theorem dX8_become_57 : decode cX8_become 57 = .ok (.invokestatic 335, 3) := by decide +kernel
theorem dX8_become_60 : decode cX8_become 60 = .ok (.goto 9, 3) := by decide +kernel
theorem dX8_become_63 : decode cX8_become 63 = .ok (.aload_n 0, 1) := by decide +kernel
theorem dX8_become_64 : decode cX8_become 64 = .ok (.getfield 21, 3) := by decide +kernel
theorem dX8_become_67 : decode cX8_become 67 = .ok (.iload_n 2, 1) := by decide +kernel
theorem dX8_become_68 : decode cX8_become 68 = .ok (.iaload, 1) := by decide +kernel
theorem dX8_become_69 : decode cX8_become 69 = .ok (.iastore, 1) := by decide +kernel
theorem dX8_become_70 : decode cX8_become 70 = .ok (.aload_n 0, 1) := by decide +kernel
theorem dX8_become_71 : decode cX8_become 71 = .ok (.getfield 24, 3) := by decide +kernel
theorem dX8_become_74 : decode cX8_become 74 = .ok (.iload_n 1, 1) := by decide +kernel
theorem dX8_become_75 : decode cX8_become 75 = .ok (.aload_n 0, 1) := by decide +kernel
theorem dX8_become_76 : decode cX8_become 76 = .ok (.getfield 24, 3) := by decide +kernel
theorem dX8_become_79 : decode cX8_become 79 = .ok (.iload_n 2, 1) := by decide +kernel
theorem dX8_become_80 : decode cX8_become 80 = .ok (.iaload, 1) := by decide +kernel
theorem dX8_become_81 : decode cX8_become 81 = .ok (.invokestatic 335, 3) := by decide +kernel
theorem dX8_become_84 : decode cX8_become 84 = .ok (.iastore, 1) := by decide +kernel
theorem dX8_become_85 : decode cX8_become 85 = .ok (.aload_n 0, 1) := by decide +kernel
theorem dX8_become_86 : decode cX8_become 86 = .ok (.getfield 27, 3) := by decide +kernel
theorem dX8_become_89 : decode cX8_become 89 = .ok (.iload_n 1, 1) := by decide +kernel
theorem dX8_become_90 : decode cX8_become 90 = .ok (.aload_n 0, 1) := by decide +kernel
theorem dX8_become_91 : decode cX8_become 91 = .ok (.getfield 27, 3) := by decide +kernel
theorem dX8_become_94 : decode cX8_become 94 = .ok (.iload_n 2, 1) := by decide +kernel
theorem dX8_become_95 : decode cX8_become 95 = .ok (.iaload, 1) := by decide +kernel
theorem dX8_become_96 : decode cX8_become 96 = .ok (.iastore, 1) := by decide +kernel
theorem dX8_become_97 : decode cX8_become 97 = .ok (.aload_n 0, 1) := by decide +kernel
theorem dX8_become_98 : decode cX8_become 98 = .ok (.getfield 33, 3) := by decide +kernel
theorem dX8_become_101 : decode cX8_become 101 = .ok (.iload_n 1, 1) := by decide +kernel
theorem dX8_become_102 : decode cX8_become 102 = .ok (.aload_n 0, 1) := by decide +kernel
theorem dX8_become_103 : decode cX8_become 103 = .ok (.getfield 33, 3) := by decide +kernel
theorem dX8_become_106 : decode cX8_become 106 = .ok (.iload_n 2, 1) := by decide +kernel
theorem dX8_become_107 : decode cX8_become 107 = .ok (.iaload, 1) := by decide +kernel
theorem dX8_become_108 : decode cX8_become 108 = .ok (.invokestatic 335, 3) := by decide +kernel
theorem dX8_become_111 : decode cX8_become 111 = .ok (.iastore, 1) := by decide +kernel
theorem dX8_become_112 : decode cX8_become 112 = .ok (.iinc 1 1, 3) := by decide +kernel
theorem dX8_become_115 : decode cX8_become 115 = .ok (.goto (-105), 3) := by decide +kernel
theorem dX8_become_118 : decode cX8_become 118 = .ok (.aload_n 0, 1) := by decide +kernel
theorem dX8_become_119 : decode cX8_become 119 = .ok (.aload_n 0, 1) := by decide +kernel
theorem dX8_become_120 : decode cX8_become 120 = .ok (.getfield 295, 3) := by decide +kernel
theorem dX8_become_123 : decode cX8_become 123 = .ok (.putfield 338, 3) := by decide +kernel
theorem dX8_become_126 : decode cX8_become 126 = .ok (.iconst 0, 1) := by decide +kernel
theorem dX8_become_127 : decode cX8_become 127 = .ok (.istore_n 1, 1) := by decide +kernel
theorem dX8_become_128 : decode cX8_become 128 = .ok (.iload_n 1, 1) := by decide +kernel
theorem dX8_become_129 : decode cX8_become 129 = .ok (.aload_n 0, 1) := by decide +kernel
theorem dX8_become_130 : decode cX8_become 130 = .ok (.getfield 338, 3) := by decide +kernel
theorem dX8_become_133 : decode cX8_become 133 = .ok (.if_icmp .ge 63, 3) := by decide +kernel
theorem dX8_become_136 : decode cX8_become 136 = .ok (.aload_n 0, 1) := by decide +kernel
theorem dX8_become_137 : decode cX8_become 137 = .ok (.getfield 36, 3) := by decide +kernel
theorem dX8_become_140 : decode cX8_become 140 = .ok (.iload_n 1, 1) := by decide +kernel
theorem dX8_become_141 : decode cX8_become 141 = .ok (.aload_n 0, 1) := by decide +kernel
theorem dX8_become_142 : decode cX8_become 142 = .ok (.getfield 36, 3) := by decide +kernel
theorem dX8_become_145 : decode cX8_become 145 = .ok (.sipush 250, 3) := by decide +kernel
theorem dX8_become_148 : decode cX8_become 148 = .ok (.iload_n 1, 1) := by decide +kernel
theorem dX8_become_149 : decode cX8_become 149 = .ok (.iadd, 1) := by decide +kernel
theorem dX8_become_150 : decode cX8_become 150 = .ok (.iaload, 1) := by decide +kernel
theorem dX8_become_151 : decode cX8_become 151 = .ok (.iastore, 1) := by decide +kernel
theorem dX8_become_152 : decode cX8_become 152 = .ok (.aload_n 0, 1) := by decide +kernel
theorem dX8_become_153 : decode cX8_become 153 = .ok (.getfield 39, 3) := by decide +kernel
theorem dX8_become_156 : decode cX8_become 156 = .ok (.iload_n 1, 1) := by decide +kernel
theorem dX8_become_157 : decode cX8_become 157 = .ok (.aload_n 0, 1) := by decide +kernel
theorem dX8_become_158 : decode cX8_become 158 = .ok (.getfield 39, 3) := by decide +kernel
theorem dX8_become_161 : decode cX8_become 161 = .ok (.sipush 250, 3) := by decide +kernel
theorem dX8_become_164 : decode cX8_become 164 = .ok (.iload_n 1, 1) := by decide +kernel
theorem dX8_become_165 : decode cX8_become 165 = .ok (.iadd, 1) := by decide +kernel
theorem dX8_become_166 : decode cX8_become 166 = .ok (.iaload, 1) := by decide +kernel
theorem dX8_become_167 : decode cX8_become 167 = .ok (.invokestatic 335, 3) := by decide +kernel
theorem dX8_become_170 : decode cX8_become 170 = .ok (.iastore, 1) := by decide +kernel
theorem dX8_become_171 : decode cX8_become 171 = .ok (.aload_n 0, 1) := by decide +kernel
theorem dX8_become_172 : decode cX8_become 172 = .ok (.getfield 42, 3) := by decide +kernel
theorem dX8_become_175 : decode cX8_become 175 = .ok (.iload_n 1, 1) := by decide +kernel
theorem dX8_become_176 : decode cX8_become 176 = .ok (.aload_n 0, 1) := by decide +kernel
theorem dX8_become_177 : decode cX8_become 177 = .ok (.getfield 42, 3) := by decide +kernel
theorem dX8_become_180 : decode cX8_become 180 = .ok (.sipush 250, 3) := by decide +kernel
theorem dX8_become_183 : decode cX8_become 183 = .ok (.iload_n 1, 1) := by decide +kernel
theorem dX8_become_184 : decode cX8_become 184 = .ok (.iadd, 1) := by decide +kernel
theorem dX8_become_185 : decode cX8_become 185 = .ok (.iaload, 1) := by decide +kernel
theorem dX8_become_186 : decode cX8_become 186 = .ok (.invokestatic 335, 3) := by decide +kernel
theorem dX8_become_189 : decode cX8_become 189 = .ok (.iastore, 1) := by decide +kernel
theorem dX8_become_190 : decode cX8_become 190 = .ok (.iinc 1 1, 3) := by decide +kernel
theorem dX8_become_193 : decode cX8_become 193 = .ok (.goto (-65), 3) := by decide +kernel
theorem dX8_become_196 : decode cX8_become 196 = .ok (.aload_n 0, 1) := by decide +kernel
theorem dX8_become_197 : decode cX8_become 197 = .ok (.aload_n 0, 1) := by decide +kernel
theorem dX8_become_198 : decode cX8_become 198 = .ok (.getfield 311, 3) := by decide +kernel
theorem dX8_become_201 : decode cX8_become 201 = .ok (.putfield 341, 3) := by decide +kernel
theorem dX8_become_204 : decode cX8_become 204 = .ok (.aload_n 0, 1) := by decide +kernel
theorem dX8_become_205 : decode cX8_become 205 = .ok (.aload_n 0, 1) := by decide +kernel
theorem dX8_become_206 : decode cX8_become 206 = .ok (.getfield 305, 3) := by decide +kernel
theorem dX8_become_209 : decode cX8_become 209 = .ok (.putfield 344, 3) := by decide +kernel
theorem dX8_become_212 : decode cX8_become 212 = .ok (.aload_n 0, 1) := by decide +kernel
theorem dX8_become_213 : decode cX8_become 213 = .ok (.aload_n 0, 1) := by decide +kernel
theorem dX8_become_214 : decode cX8_become 214 = .ok (.getfield 214, 3) := by decide +kernel
theorem dX8_become_217 : decode cX8_become 217 = .ok (.putfield 347, 3) := by decide +kernel
theorem dX8_become_220 : decode cX8_become 220 = .ok (.aload_n 0, 1) := by decide +kernel
theorem dX8_become_221 : decode cX8_become 221 = .ok (.aload_n 0, 1) := by decide +kernel
theorem dX8_become_222 : decode cX8_become 222 = .ok (.getfield 221, 3) := by decide +kernel
theorem dX8_become_225 : decode cX8_become 225 = .ok (.putfield 350, 3) := by decide +kernel
theorem dX8_become_228 : decode cX8_become 228 = .ok (.aload_n 0, 1) := by decide +kernel
theorem dX8_become_229 : decode cX8_become 229 = .ok (.aload_n 0, 1) := by decide +kernel
theorem dX8_become_230 : decode cX8_become 230 = .ok (.getfield 234, 3) := by decide +kernel
theorem dX8_become_233 : decode cX8_become 233 = .ok (.putfield 353, 3) := by decide +kernel
theorem dX8_become_236 : decode cX8_become 236 = .ok (.iconst 0, 1) := by decide +kernel
theorem dX8_become_237 : decode cX8_become 237 = .ok (.istore_n 1, 1) := by decide +kernel
theorem dX8_become_238 : decode cX8_become 238 = .ok (.iload_n 1, 1) := by decide +kernel
theorem dX8_become_239 : decode cX8_become 239 = .ok (.bipush 12, 2) := by decide +kernel
theorem dX8_become_241 : decode cX8_become 241 = .ok (.if_icmp .ge 42, 3) := by decide +kernel
theorem dX8_become_244 : decode cX8_become 244 = .ok (.aload_n 0, 1) := by decide +kernel
theorem dX8_become_245 : decode cX8_become 245 = .ok (.getfield 45, 3) := by decide +kernel
theorem dX8_become_248 : decode cX8_become 248 = .ok (.iload_n 1, 1) := by decide +kernel
theorem dX8_become_249 : decode cX8_become 249 = .ok (.aload_n 0, 1) := by decide +kernel
theorem dX8_become_250 : decode cX8_become 250 = .ok (.getfield 45, 3) := by decide +kernel
theorem dX8_become_253 : decode cX8_become 253 = .ok (.bipush 12, 2) := by decide +kernel
theorem dX8_become_255 : decode cX8_become 255 = .ok (.iload_n 1, 1) := by decide +kernel
theorem dX8_become_256 : decode cX8_become 256 = .ok (.iadd, 1) := by decide +kernel
theorem dX8_become_257 : decode cX8_become 257 = .ok (.iaload, 1) := by decide +kernel
theorem dX8_become_258 : decode cX8_become 258 = .ok (.iastore, 1) := by decide +kernel
theorem dX8_become_259 : decode cX8_become 259 = .ok (.aload_n 0, 1) := by decide +kernel
theorem dX8_become_260 : decode cX8_become 260 = .ok (.getfield 48, 3) := by decide +kernel
theorem dX8_become_263 : decode cX8_become 263 = .ok (.iload_n 1, 1) := by decide +kernel
theorem dX8_become_264 : decode cX8_become 264 = .ok (.aload_n 0, 1) := by decide +kernel
theorem dX8_become_265 : decode cX8_become 265 = .ok (.getfield 48, 3) := by decide +kernel
theorem dX8_become_268 : decode cX8_become 268 = .ok (.bipush 12, 2) := by decide +kernel
theorem dX8_become_270 : decode cX8_become 270 = .ok (.iload_n 1, 1) := by decide +kernel
theorem dX8_become_271 : decode cX8_become 271 = .ok (.iadd, 1) := by decide +kernel
theorem dX8_become_272 : decode cX8_become 272 = .ok (.iaload, 1) := by decide +kernel
theorem dX8_become_273 : decode cX8_become 273 = .ok (.invokestatic 335, 3) := by decide +kernel
theorem dX8_become_276 : decode cX8_become 276 = .ok (.iastore, 1) := by decide +kernel
theorem dX8_become_277 : decode cX8_become 277 = .ok (.iinc 1 1, 3) := by decide +kernel
theorem dX8_become_280 : decode cX8_become 280 = .ok (.goto (-42), 3) := by decide +kernel
theorem dX8_become_283 : decode cX8_become 283 = .ok (.iconst 0, 1) := by decide +kernel
theorem dX8_become_284 : decode cX8_become 284 = .ok (.istore_n 1, 1) := by decide +kernel
theorem dX8_become_285 : decode cX8_become 285 = .ok (.iload_n 1, 1) := by decide +kernel
theorem dX8_become_286 : decode cX8_become 286 = .ok (.bipush 40, 2) := by decide +kernel
theorem dX8_become_288 : decode cX8_become 288 = .ok (.if_icmp .ge 24, 3) := by decide +kernel
theorem dX8_become_291 : decode cX8_become 291 = .ok (.aload_n 0, 1) := by decide +kernel
theorem dX8_become_292 : decode cX8_become 292 = .ok (.getfield 51, 3) := by decide +kernel
theorem dX8_become_295 : decode cX8_become 295 = .ok (.iload_n 1, 1) := by decide +kernel
theorem dX8_become_296 : decode cX8_become 296 = .ok (.aload_n 0, 1) := by decide +kernel
theorem dX8_become_297 : decode cX8_become 297 = .ok (.getfield 51, 3) := by decide +kernel
theorem dX8_become_300 : decode cX8_become 300 = .ok (.bipush 40, 2) := by decide +kernel
theorem dX8_become_302 : decode cX8_become 302 = .ok (.iload_n 1, 1) := by decide +kernel
theorem dX8_become_303 : decode cX8_become 303 = .ok (.iadd, 1) := by decide +kernel
theorem dX8_become_304 : decode cX8_become 304 = .ok (.baload, 1) := by decide +kernel
theorem dX8_become_305 : decode cX8_become 305 = .ok (.bastore, 1) := by decide +kernel
theorem dX8_become_306 : decode cX8_become 306 = .ok (.iinc 1 1, 3) := by decide +kernel
theorem dX8_become_309 : decode cX8_become 309 = .ok (.goto (-24), 3) := by decide +kernel
theorem dX8_become_312 : decode cX8_become 312 = .ok (.iconst 0, 1) := by decide +kernel
theorem dX8_become_313 : decode cX8_become 313 = .ok (.istore_n 1, 1) := by decide +kernel
theorem dX8_become_314 : decode cX8_become 314 = .ok (.iload_n 1, 1) := by decide +kernel
theorem dX8_become_315 : decode cX8_become 315 = .ok (.bipush 24, 2) := by decide +kernel
theorem dX8_become_317 : decode cX8_become 317 = .ok (.if_icmp .ge 24, 3) := by decide +kernel
theorem dX8_become_320 : decode cX8_become 320 = .ok (.aload_n 0, 1) := by decide +kernel
theorem dX8_become_321 : decode cX8_become 321 = .ok (.getfield 57, 3) := by decide +kernel
theorem dX8_become_324 : decode cX8_become 324 = .ok (.iload_n 1, 1) := by decide +kernel
theorem dX8_become_325 : decode cX8_become 325 = .ok (.aload_n 0, 1) := by decide +kernel
theorem dX8_become_326 : decode cX8_become 326 = .ok (.getfield 57, 3) := by decide +kernel
theorem dX8_become_329 : decode cX8_become 329 = .ok (.bipush 24, 2) := by decide +kernel
theorem dX8_become_331 : decode cX8_become 331 = .ok (.iload_n 1, 1) := by decide +kernel
theorem dX8_become_332 : decode cX8_become 332 = .ok (.iadd, 1) := by decide +kernel
theorem dX8_become_333 : decode cX8_become 333 = .ok (.baload, 1) := by decide +kernel
theorem dX8_become_334 : decode cX8_become 334 = .ok (.bastore, 1) := by decide +kernel
theorem dX8_become_335 : decode cX8_become 335 = .ok (.iinc 1 1, 3) := by decide +kernel
theorem dX8_become_338 : decode cX8_become 338 = .ok (.goto (-24), 3) := by decide +kernel
theorem dX8_become_341 : decode cX8_become 341 = .ok (.iconst 0, 1) := by decide +kernel
theorem dX8_become_342 : decode cX8_become 342 = .ok (.istore_n 1, 1) := by decide +kernel
theorem dX8_become_343 : decode cX8_become 343 = .ok (.iload_n 1, 1) := by decide +kernel
theorem dX8_become_344 : decode cX8_become 344 = .ok (.iconst 5, 1) := by decide +kernel
theorem dX8_become_345 : decode cX8_become 345 = .ok (.if_icmp .ge 23, 3) := by decide +kernel
theorem dX8_become_348 : decode cX8_become 348 = .ok (.aload_n 0, 1) := by decide +kernel
theorem dX8_become_349 : decode cX8_become 349 = .ok (.getfield 54, 3) := by decide +kernel
theorem dX8_become_352 : decode cX8_become 352 = .ok (.iload_n 1, 1) := by decide +kernel
theorem dX8_become_353 : decode cX8_become 353 = .ok (.aload_n 0, 1) := by decide +kernel
theorem dX8_become_354 : decode cX8_become 354 = .ok (.getfield 54, 3) := by decide +kernel
theorem dX8_become_357 : decode cX8_become 357 = .ok (.iconst 5, 1) := by decide +kernel
theorem dX8_become_358 : decode cX8_become 358 = .ok (.iload_n 1, 1) := by decide +kernel
theorem dX8_become_359 : decode cX8_become 359 = .ok (.iadd, 1) := by decide +kernel
theorem dX8_become_360 : decode cX8_become 360 = .ok (.iaload, 1) := by decide +kernel
theorem dX8_become_361 : decode cX8_become 361 = .ok (.iastore, 1) := by decide +kernel
theorem dX8_become_362 : decode cX8_become 362 = .ok (.iinc 1 1, 3) := by decide +kernel
theorem dX8_become_365 : decode cX8_become 365 = .ok (.goto (-22), 3) := by decide +kernel
theorem dX8_become_368 : decode cX8_become 368 = .ok (.iconst 0, 1) := by decide +kernel
theorem dX8_become_369 : decode cX8_become 369 = .ok (.istore_n 1, 1) := by decide +kernel
theorem dX8_become_370 : decode cX8_become 370 = .ok (.iload_n 1, 1) := by decide +kernel
theorem dX8_become_371 : decode cX8_become 371 = .ok (.iconst 3, 1) := by decide +kernel
theorem dX8_become_372 : decode cX8_become 372 = .ok (.if_icmp .ge 37, 3) := by decide +kernel
theorem dX8_become_375 : decode cX8_become 375 = .ok (.aload_n 0, 1) := by decide +kernel
theorem dX8_become_376 : decode cX8_become 376 = .ok (.getfield 60, 3) := by decide +kernel
theorem dX8_become_379 : decode cX8_become 379 = .ok (.iload_n 1, 1) := by decide +kernel
theorem dX8_become_380 : decode cX8_become 380 = .ok (.aload_n 0, 1) := by decide +kernel
theorem dX8_become_381 : decode cX8_become 381 = .ok (.getfield 60, 3) := by decide +kernel
theorem dX8_become_384 : decode cX8_become 384 = .ok (.iconst 3, 1) := by decide +kernel
theorem dX8_become_385 : decode cX8_become 385 = .ok (.iload_n 1, 1) := by decide +kernel
theorem dX8_become_386 : decode cX8_become 386 = .ok (.iadd, 1) := by decide +kernel
theorem dX8_become_387 : decode cX8_become 387 = .ok (.iaload, 1) := by decide +kernel
theorem dX8_become_388 : decode cX8_become 388 = .ok (.iastore, 1) := by decide +kernel
theorem dX8_become_389 : decode cX8_become 389 = .ok (.aload_n 0, 1) := by decide +kernel
theorem dX8_become_390 : decode cX8_become 390 = .ok (.getfield 63, 3) := by decide +kernel
theorem dX8_become_393 : decode cX8_become 393 = .ok (.iload_n 1, 1) := by decide +kernel
theorem dX8_become_394 : decode cX8_become 394 = .ok (.aload_n 0, 1) := by decide +kernel
theorem dX8_become_395 : decode cX8_become 395 = .ok (.getfield 63, 3) := by decide +kernel
theorem dX8_become_398 : decode cX8_become 398 = .ok (.iconst 3, 1) := by decide +kernel
theorem dX8_become_399 : decode cX8_become 399 = .ok (.iload_n 1, 1) := by decide +kernel
theorem dX8_become_400 : decode cX8_become 400 = .ok (.iadd, 1) := by decide +kernel
theorem dX8_become_401 : decode cX8_become 401 = .ok (.baload, 1) := by decide +kernel
theorem dX8_become_402 : decode cX8_become 402 = .ok (.bastore, 1) := by decide +kernel
theorem dX8_become_403 : decode cX8_become 403 = .ok (.iinc 1 1, 3) := by decide +kernel
theorem dX8_become_406 : decode cX8_become 406 = .ok (.goto (-36), 3) := by decide +kernel
theorem dX8_become_409 : decode cX8_become 409 = .ok (.iconst 0, 1) := by decide +kernel
theorem dX8_become_410 : decode cX8_become 410 = .ok (.istore_n 1, 1) := by decide +kernel
theorem dX8_become_411 : decode cX8_become 411 = .ok (.iload_n 1, 1) := by decide +kernel
theorem dX8_become_412 : decode cX8_become 412 = .ok (.bipush 9, 2) := by decide +kernel
theorem dX8_become_414 : decode cX8_become 414 = .ok (.if_icmp .ge 87, 3) := by decide +kernel
theorem dX8_become_417 : decode cX8_become 417 = .ok (.aload_n 0, 1) := by decide +kernel
theorem dX8_become_418 : decode cX8_become 418 = .ok (.getfield 67, 3) := by decide +kernel
theorem dX8_become_421 : decode cX8_become 421 = .ok (.iload_n 1, 1) := by decide +kernel
theorem dX8_become_422 : decode cX8_become 422 = .ok (.aload_n 0, 1) := by decide +kernel
theorem dX8_become_423 : decode cX8_become 423 = .ok (.getfield 67, 3) := by decide +kernel
theorem dX8_become_426 : decode cX8_become 426 = .ok (.bipush 9, 2) := by decide +kernel
theorem dX8_become_428 : decode cX8_become 428 = .ok (.iload_n 1, 1) := by decide +kernel
theorem dX8_become_429 : decode cX8_become 429 = .ok (.iadd, 1) := by decide +kernel
theorem dX8_become_430 : decode cX8_become 430 = .ok (.baload, 1) := by decide +kernel
theorem dX8_become_431 : decode cX8_become 431 = .ok (.bastore, 1) := by decide +kernel
theorem dX8_become_432 : decode cX8_become 432 = .ok (.aload_n 0, 1) := by decide +kernel
theorem dX8_become_433 : decode cX8_become 433 = .ok (.getfield 73, 3) := by decide +kernel
theorem dX8_become_436 : decode cX8_become 436 = .ok (.iload_n 1, 1) := by decide +kernel
theorem dX8_become_437 : decode cX8_become 437 = .ok (.aload_n 0, 1) := by decide +kernel
theorem dX8_become_438 : decode cX8_become 438 = .ok (.getfield 73, 3) := by decide +kernel
theorem dX8_become_441 : decode cX8_become 441 = .ok (.bipush 9, 2) := by decide +kernel
theorem dX8_become_443 : decode cX8_become 443 = .ok (.iload_n 1, 1) := by decide +kernel
theorem dX8_become_444 : decode cX8_become 444 = .ok (.iadd, 1) := by decide +kernel
theorem dX8_become_445 : decode cX8_become 445 = .ok (.iaload, 1) := by decide +kernel
theorem dX8_become_446 : decode cX8_become 446 = .ok (.iastore, 1) := by decide +kernel
theorem dX8_become_447 : decode cX8_become 447 = .ok (.aload_n 0, 1) := by decide +kernel
theorem dX8_become_448 : decode cX8_become 448 = .ok (.getfield 76, 3) := by decide +kernel
theorem dX8_become_451 : decode cX8_become 451 = .ok (.iload_n 1, 1) := by decide +kernel
theorem dX8_become_452 : decode cX8_become 452 = .ok (.aload_n 0, 1) := by decide +kernel
theorem dX8_become_453 : decode cX8_become 453 = .ok (.getfield 76, 3) := by decide +kernel
theorem dX8_become_456 : decode cX8_become 456 = .ok (.bipush 9, 2) := by decide +kernel
theorem dX8_become_458 : decode cX8_become 458 = .ok (.iload_n 1, 1) := by decide +kernel
theorem dX8_become_459 : decode cX8_become 459 = .ok (.iadd, 1) := by decide +kernel
theorem dX8_become_460 : decode cX8_become 460 = .ok (.iaload, 1) := by decide +kernel
theorem dX8_become_461 : decode cX8_become 461 = .ok (.iastore, 1) := by decide +kernel
theorem dX8_become_462 : decode cX8_become 462 = .ok (.aload_n 0, 1) := by decide +kernel
theorem dX8_become_463 : decode cX8_become 463 = .ok (.getfield 79, 3) := by decide +kernel
theorem dX8_become_466 : decode cX8_become 466 = .ok (.iload_n 1, 1) := by decide +kernel
theorem dX8_become_467 : decode cX8_become 467 = .ok (.aload_n 0, 1) := by decide +kernel
theorem dX8_become_468 : decode cX8_become 468 = .ok (.getfield 79, 3) := by decide +kernel
theorem dX8_become_471 : decode cX8_become 471 = .ok (.bipush 9, 2) := by decide +kernel
theorem dX8_become_473 : decode cX8_become 473 = .ok (.iload_n 1, 1) := by decide +kernel
theorem dX8_become_474 : decode cX8_become 474 = .ok (.iadd, 1) := by decide +kernel
theorem dX8_become_475 : decode cX8_become 475 = .ok (.iaload, 1) := by decide +kernel
theorem dX8_become_476 : decode cX8_become 476 = .ok (.invokestatic 335, 3) := by decide +kernel
theorem dX8_become_479 : decode cX8_become 479 = .ok (.iastore, 1) := by decide +kernel
theorem dX8_become_480 : decode cX8_become 480 = .ok (.aload_n 0, 1) := by decide +kernel
theorem dX8_become_481 : decode cX8_become 481 = .ok (.getfield 82, 3) := by decide +kernel
theorem dX8_become_484 : decode cX8_become 484 = .ok (.iload_n 1, 1) := by decide +kernel
theorem dX8_become_485 : decode cX8_become 485 = .ok (.aload_n 0, 1) := by decide +kernel
theorem dX8_become_486 : decode cX8_become 486 = .ok (.getfield 82, 3) := by decide +kernel
theorem dX8_become_489 : decode cX8_become 489 = .ok (.bipush 9, 2) := by decide +kernel
theorem dX8_become_491 : decode cX8_become 491 = .ok (.iload_n 1, 1) := by decide +kernel
theorem dX8_become_492 : decode cX8_become 492 = .ok (.iadd, 1) := by decide +kernel
theorem dX8_become_493 : decode cX8_become 493 = .ok (.baload, 1) := by decide +kernel
theorem dX8_become_494 : decode cX8_become 494 = .ok (.bastore, 1) := by decide +kernel
theorem dX8_become_495 : decode cX8_become 495 = .ok (.iinc 1 1, 3) := by decide +kernel
theorem dX8_become_498 : decode cX8_become 498 = .ok (.goto (-87), 3) := by decide +kernel
theorem dX8_become_501 : decode cX8_become 501 = .ok (.aload_n 0, 1) := by decide +kernel
theorem dX8_become_502 : decode cX8_become 502 = .ok (.iconst 1, 1) := by decide +kernel
theorem dX8_become_503 : decode cX8_become 503 = .ok (.putfield 356, 3) := by decide +kernel
theorem dX8_become_506 : decode cX8_become 506 = .ok (.aload_n 0, 1) := by decide +kernel
theorem dX8_become_507 : decode cX8_become 507 = .ok (.iconst 0, 1) := by decide +kernel
theorem dX8_become_508 : decode cX8_become 508 = .ok (.putfield 359, 3) := by decide +kernel
theorem dX8_become_511 : decode cX8_become 511 = .ok (.aload_n 0, 1) := by decide +kernel
theorem dX8_become_512 : decode cX8_become 512 = .ok (.iconst 0, 1) := by decide +kernel
theorem dX8_become_513 : decode cX8_become 513 = .ok (.putfield 362, 3) := by decide +kernel
theorem dX8_become_516 : decode cX8_become 516 = .ok (.aload_n 0, 1) := by decide +kernel
theorem dX8_become_517 : decode cX8_become 517 = .ok (.invokevirtual 365, 3) := by decide +kernel
theorem dX8_become_520 : decode cX8_become 520 = .ok (.return_, 1) := by decide +kernel
theorem dX8_types_0 : decode cX8_types 0 = .ok (.iconst 1, 1) := by decide +kernel
theorem dX8_types_1 : decode cX8_types 1 = .ok (.aload_n 0, 1) := by decide +kernel
theorem dX8_types_2 : decode cX8_types 2 = .ok (.getfield 353, 3) := by decide +kernel
theorem dX8_types_5 : decode cX8_types 5 = .ok (.ishl, 1) := by decide +kernel
theorem dX8_types_6 : decode cX8_types 6 = .ok (.ireturn, 1) := by decide +kernel
theorem dX8_findTruths_0 : decode cX8_findTruths 0 = .ok (.iconst 0, 1) := by decide +kernel
theorem dX8_findTruths_1 : decode cX8_findTruths 1 = .ok (.istore_n 1, 1) := by decide +kernel
theorem dX8_findTruths_2 : decode cX8_findTruths 2 = .ok (.iload_n 1, 1) := by decide +kernel
theorem dX8_findTruths_3 : decode cX8_findTruths 3 = .ok (.aload_n 0, 1) := by decide +kernel
theorem dX8_findTruths_4 : decode cX8_findTruths 4 = .ok (.invokevirtual 368, 3) := by decide +kernel
theorem dX8_findTruths_7 : decode cX8_findTruths 7 = .ok (.if_icmp .ge 380, 3) := by decide +kernel
theorem dX8_findTruths_10 : decode cX8_findTruths 10 = .ok (.iconst 0, 1) := by decide +kernel
theorem dX8_findTruths_11 : decode cX8_findTruths 11 = .ok (.istore_n 2, 1) := by decide +kernel
theorem dX8_findTruths_12 : decode cX8_findTruths 12 = .ok (.iload_n 2, 1) := by decide +kernel
theorem dX8_findTruths_13 : decode cX8_findTruths 13 = .ok (.aload_n 0, 1) := by decide +kernel
theorem dX8_findTruths_14 : decode cX8_findTruths 14 = .ok (.getfield 332, 3) := by decide +kernel
theorem dX8_findTruths_17 : decode cX8_findTruths 17 = .ok (.if_icmp .ge 294, 3) := by decide +kernel
theorem dX8_findTruths_20 : decode cX8_findTruths 20 = .ok (.aload_n 0, 1) := by decide +kernel
theorem dX8_findTruths_21 : decode cX8_findTruths 21 = .ok (.getfield 33, 3) := by decide +kernel
theorem dX8_findTruths_24 : decode cX8_findTruths 24 = .ok (.iload_n 2, 1) := by decide +kernel
theorem dX8_findTruths_25 : decode cX8_findTruths 25 = .ok (.iaload, 1) := by decide +kernel
theorem dX8_findTruths_26 : decode cX8_findTruths 26 = .ok (.istore_n 3, 1) := by decide +kernel
theorem dX8_findTruths_27 : decode cX8_findTruths 27 = .ok (.sipush 512, 3) := by decide +kernel
theorem dX8_findTruths_30 : decode cX8_findTruths 30 = .ok (.iload_n 3, 1) := by decide +kernel
theorem dX8_findTruths_31 : decode cX8_findTruths 31 = .ok (.imul, 1) := by decide +kernel
theorem dX8_findTruths_32 : decode cX8_findTruths 32 = .ok (.iload_n 1, 1) := by decide +kernel
theorem dX8_findTruths_33 : decode cX8_findTruths 33 = .ok (.iadd, 1) := by decide +kernel
theorem dX8_findTruths_34 : decode cX8_findTruths 34 = .ok (.istore 4, 2) := by decide +kernel
theorem dX8_findTruths_36 : decode cX8_findTruths 36 = .ok (.aload_n 0, 1) := by decide +kernel
theorem dX8_findTruths_37 : decode cX8_findTruths 37 = .ok (.getfield 17, 3) := by decide +kernel
theorem dX8_findTruths_40 : decode cX8_findTruths 40 = .ok (.iload_n 3, 1) := by decide +kernel
theorem dX8_findTruths_41 : decode cX8_findTruths 41 = .ok (.iaload, 1) := by decide +kernel
theorem dX8_findTruths_42 : decode cX8_findTruths 42 = .ok (.tableswitch 211 0 6 #[42, 99, 110, 121, 42, 71, 156], 42) := by decide +kernel
theorem dX8_findTruths_84 : decode cX8_findTruths 84 = .ok (.aload_n 0, 1) := by decide +kernel
theorem dX8_findTruths_85 : decode cX8_findTruths 85 = .ok (.getfield 102, 3) := by decide +kernel
theorem dX8_findTruths_88 : decode cX8_findTruths 88 = .ok (.iload 4, 2) := by decide +kernel
theorem dX8_findTruths_90 : decode cX8_findTruths 90 = .ok (.iload_n 1, 1) := by decide +kernel
theorem dX8_findTruths_91 : decode cX8_findTruths 91 = .ok (.aload_n 0, 1) := by decide +kernel
theorem dX8_findTruths_92 : decode cX8_findTruths 92 = .ok (.getfield 27, 3) := by decide +kernel
theorem dX8_findTruths_95 : decode cX8_findTruths 95 = .ok (.iload_n 3, 1) := by decide +kernel
theorem dX8_findTruths_96 : decode cX8_findTruths 96 = .ok (.iaload, 1) := by decide +kernel
theorem dX8_findTruths_97 : decode cX8_findTruths 97 = .ok (.ishr, 1) := by decide +kernel
theorem dX8_findTruths_98 : decode cX8_findTruths 98 = .ok (.iconst 1, 1) := by decide +kernel
theorem dX8_findTruths_99 : decode cX8_findTruths 99 = .ok (.iand, 1) := by decide +kernel
theorem dX8_findTruths_100 : decode cX8_findTruths 100 = .ok (.iconst 1, 1) := by decide +kernel
theorem dX8_findTruths_101 : decode cX8_findTruths 101 = .ok (.if_icmp .ne 7, 3) := by decide +kernel
theorem dX8_findTruths_104 : decode cX8_findTruths 104 = .ok (.iconst 1, 1) := by decide +kernel
theorem dX8_findTruths_105 : decode cX8_findTruths 105 = .ok (.goto 4, 3) := by decide +kernel
theorem dX8_findTruths_108 : decode cX8_findTruths 108 = .ok (.iconst 0, 1) := by decide +kernel
theorem dX8_findTruths_109 : decode cX8_findTruths 109 = .ok (.bastore, 1) := by decide +kernel
theorem dX8_findTruths_110 : decode cX8_findTruths 110 = .ok (.goto 195, 3) := by decide +kernel
theorem dX8_findTruths_113 : decode cX8_findTruths 113 = .ok (.aload_n 0, 1) := by decide +kernel
theorem dX8_findTruths_114 : decode cX8_findTruths 114 = .ok (.getfield 102, 3) := by decide +kernel
theorem dX8_findTruths_117 : decode cX8_findTruths 117 = .ok (.iload 4, 2) := by decide +kernel
theorem dX8_findTruths_119 : decode cX8_findTruths 119 = .ok (.iload_n 1, 1) := by decide +kernel
theorem dX8_findTruths_120 : decode cX8_findTruths 120 = .ok (.aload_n 0, 1) := by decide +kernel
theorem dX8_findTruths_121 : decode cX8_findTruths 121 = .ok (.getfield 27, 3) := by decide +kernel
theorem dX8_findTruths_124 : decode cX8_findTruths 124 = .ok (.iload_n 3, 1) := by decide +kernel
theorem dX8_findTruths_125 : decode cX8_findTruths 125 = .ok (.iaload, 1) := by decide +kernel
theorem dX8_findTruths_126 : decode cX8_findTruths 126 = .ok (.ishr, 1) := by decide +kernel
theorem dX8_findTruths_127 : decode cX8_findTruths 127 = .ok (.iconst 1, 1) := by decide +kernel
theorem dX8_findTruths_128 : decode cX8_findTruths 128 = .ok (.iand, 1) := by decide +kernel
theorem dX8_findTruths_129 : decode cX8_findTruths 129 = .ok (.ifCond .ne 7, 3) := by decide +kernel
theorem dX8_findTruths_132 : decode cX8_findTruths 132 = .ok (.iconst 1, 1) := by decide +kernel
theorem dX8_findTruths_133 : decode cX8_findTruths 133 = .ok (.goto 4, 3) := by decide +kernel
theorem dX8_findTruths_136 : decode cX8_findTruths 136 = .ok (.iconst 0, 1) := by decide +kernel
theorem dX8_findTruths_137 : decode cX8_findTruths 137 = .ok (.bastore, 1) := by decide +kernel
theorem dX8_findTruths_138 : decode cX8_findTruths 138 = .ok (.goto 167, 3) := by decide +kernel
theorem dX8_findTruths_141 : decode cX8_findTruths 141 = .ok (.aload_n 0, 1) := by decide +kernel
theorem dX8_findTruths_142 : decode cX8_findTruths 142 = .ok (.getfield 102, 3) := by decide +kernel
theorem dX8_findTruths_145 : decode cX8_findTruths 145 = .ok (.iload 4, 2) := by decide +kernel
theorem dX8_findTruths_147 : decode cX8_findTruths 147 = .ok (.iconst 1, 1) := by decide +kernel
theorem dX8_findTruths_148 : decode cX8_findTruths 148 = .ok (.bastore, 1) := by decide +kernel
theorem dX8_findTruths_149 : decode cX8_findTruths 149 = .ok (.goto 156, 3) := by decide +kernel
theorem dX8_findTruths_152 : decode cX8_findTruths 152 = .ok (.aload_n 0, 1) := by decide +kernel
theorem dX8_findTruths_153 : decode cX8_findTruths 153 = .ok (.getfield 102, 3) := by decide +kernel
theorem dX8_findTruths_156 : decode cX8_findTruths 156 = .ok (.iload 4, 2) := by decide +kernel
theorem dX8_findTruths_158 : decode cX8_findTruths 158 = .ok (.iconst 0, 1) := by decide +kernel
theorem dX8_findTruths_159 : decode cX8_findTruths 159 = .ok (.bastore, 1) := by decide +kernel
theorem dX8_findTruths_160 : decode cX8_findTruths 160 = .ok (.goto 145, 3) := by decide +kernel
theorem dX8_findTruths_163 : decode cX8_findTruths 163 = .ok (.aload_n 0, 1) := by decide +kernel
theorem dX8_findTruths_164 : decode cX8_findTruths 164 = .ok (.getfield 102, 3) := by decide +kernel
theorem dX8_findTruths_167 : decode cX8_findTruths 167 = .ok (.iload 4, 2) := by decide +kernel
theorem dX8_findTruths_169 : decode cX8_findTruths 169 = .ok (.aload_n 0, 1) := by decide +kernel
theorem dX8_findTruths_170 : decode cX8_findTruths 170 = .ok (.getfield 102, 3) := by decide +kernel
theorem dX8_findTruths_173 : decode cX8_findTruths 173 = .ok (.sipush 512, 3) := by decide +kernel
theorem dX8_findTruths_176 : decode cX8_findTruths 176 = .ok (.aload_n 0, 1) := by decide +kernel
theorem dX8_findTruths_177 : decode cX8_findTruths 177 = .ok (.getfield 24, 3) := by decide +kernel
theorem dX8_findTruths_180 : decode cX8_findTruths 180 = .ok (.iload_n 3, 1) := by decide +kernel
theorem dX8_findTruths_181 : decode cX8_findTruths 181 = .ok (.iaload, 1) := by decide +kernel
theorem dX8_findTruths_182 : decode cX8_findTruths 182 = .ok (.imul, 1) := by decide +kernel
theorem dX8_findTruths_183 : decode cX8_findTruths 183 = .ok (.iload_n 1, 1) := by decide +kernel
theorem dX8_findTruths_184 : decode cX8_findTruths 184 = .ok (.iadd, 1) := by decide +kernel
theorem dX8_findTruths_185 : decode cX8_findTruths 185 = .ok (.baload, 1) := by decide +kernel
theorem dX8_findTruths_186 : decode cX8_findTruths 186 = .ok (.ifCond .ne 7, 3) := by decide +kernel
theorem dX8_findTruths_189 : decode cX8_findTruths 189 = .ok (.iconst 1, 1) := by decide +kernel
theorem dX8_findTruths_190 : decode cX8_findTruths 190 = .ok (.goto 4, 3) := by decide +kernel
theorem dX8_findTruths_193 : decode cX8_findTruths 193 = .ok (.iconst 0, 1) := by decide +kernel
theorem dX8_findTruths_194 : decode cX8_findTruths 194 = .ok (.bastore, 1) := by decide +kernel
theorem dX8_findTruths_195 : decode cX8_findTruths 195 = .ok (.goto 110, 3) := by decide +kernel
theorem dX8_findTruths_198 : decode cX8_findTruths 198 = .ok (.aload_n 0, 1) := by decide +kernel
theorem dX8_findTruths_199 : decode cX8_findTruths 199 = .ok (.getfield 102, 3) := by decide +kernel
theorem dX8_findTruths_202 : decode cX8_findTruths 202 = .ok (.iload 4, 2) := by decide +kernel
theorem dX8_findTruths_204 : decode cX8_findTruths 204 = .ok (.aload_n 0, 1) := by decide +kernel
theorem dX8_findTruths_205 : decode cX8_findTruths 205 = .ok (.getfield 102, 3) := by decide +kernel
theorem dX8_findTruths_208 : decode cX8_findTruths 208 = .ok (.sipush 512, 3) := by decide +kernel
theorem dX8_findTruths_211 : decode cX8_findTruths 211 = .ok (.aload_n 0, 1) := by decide +kernel
theorem dX8_findTruths_212 : decode cX8_findTruths 212 = .ok (.getfield 21, 3) := by decide +kernel
theorem dX8_findTruths_215 : decode cX8_findTruths 215 = .ok (.iload_n 3, 1) := by decide +kernel
theorem dX8_findTruths_216 : decode cX8_findTruths 216 = .ok (.iaload, 1) := by decide +kernel
theorem dX8_findTruths_217 : decode cX8_findTruths 217 = .ok (.imul, 1) := by decide +kernel
theorem dX8_findTruths_218 : decode cX8_findTruths 218 = .ok (.iload_n 1, 1) := by decide +kernel
theorem dX8_findTruths_219 : decode cX8_findTruths 219 = .ok (.iadd, 1) := by decide +kernel
theorem dX8_findTruths_220 : decode cX8_findTruths 220 = .ok (.baload, 1) := by decide +kernel
theorem dX8_findTruths_221 : decode cX8_findTruths 221 = .ok (.ifCond .eq 27, 3) := by decide +kernel
theorem dX8_findTruths_224 : decode cX8_findTruths 224 = .ok (.aload_n 0, 1) := by decide +kernel
theorem dX8_findTruths_225 : decode cX8_findTruths 225 = .ok (.getfield 102, 3) := by decide +kernel
theorem dX8_findTruths_228 : decode cX8_findTruths 228 = .ok (.sipush 512, 3) := by decide +kernel
theorem dX8_findTruths_231 : decode cX8_findTruths 231 = .ok (.aload_n 0, 1) := by decide +kernel
theorem dX8_findTruths_232 : decode cX8_findTruths 232 = .ok (.getfield 24, 3) := by decide +kernel
theorem dX8_findTruths_235 : decode cX8_findTruths 235 = .ok (.iload_n 3, 1) := by decide +kernel
theorem dX8_findTruths_236 : decode cX8_findTruths 236 = .ok (.iaload, 1) := by decide +kernel
theorem dX8_findTruths_237 : decode cX8_findTruths 237 = .ok (.imul, 1) := by decide +kernel
theorem dX8_findTruths_238 : decode cX8_findTruths 238 = .ok (.iload_n 1, 1) := by decide +kernel
theorem dX8_findTruths_239 : decode cX8_findTruths 239 = .ok (.iadd, 1) := by decide +kernel
theorem dX8_findTruths_240 : decode cX8_findTruths 240 = .ok (.baload, 1) := by decide +kernel
theorem dX8_findTruths_241 : decode cX8_findTruths 241 = .ok (.ifCond .eq 7, 3) := by decide +kernel
theorem dX8_findTruths_244 : decode cX8_findTruths 244 = .ok (.iconst 1, 1) := by decide +kernel
theorem dX8_findTruths_245 : decode cX8_findTruths 245 = .ok (.goto 4, 3) := by decide +kernel
theorem dX8_findTruths_248 : decode cX8_findTruths 248 = .ok (.iconst 0, 1) := by decide +kernel
theorem dX8_findTruths_249 : decode cX8_findTruths 249 = .ok (.bastore, 1) := by decide +kernel
theorem dX8_findTruths_250 : decode cX8_findTruths 250 = .ok (.goto 55, 3) := by decide +kernel
theorem dX8_findTruths_253 : decode cX8_findTruths 253 = .ok (.aload_n 0, 1) := by decide +kernel
theorem dX8_findTruths_254 : decode cX8_findTruths 254 = .ok (.getfield 102, 3) := by decide +kernel
theorem dX8_findTruths_257 : decode cX8_findTruths 257 = .ok (.iload 4, 2) := by decide +kernel
theorem dX8_findTruths_259 : decode cX8_findTruths 259 = .ok (.aload_n 0, 1) := by decide +kernel
theorem dX8_findTruths_260 : decode cX8_findTruths 260 = .ok (.getfield 102, 3) := by decide +kernel
theorem dX8_findTruths_263 : decode cX8_findTruths 263 = .ok (.sipush 512, 3) := by decide +kernel
theorem dX8_findTruths_266 : decode cX8_findTruths 266 = .ok (.aload_n 0, 1) := by decide +kernel
theorem dX8_findTruths_267 : decode cX8_findTruths 267 = .ok (.getfield 21, 3) := by decide +kernel
theorem dX8_findTruths_270 : decode cX8_findTruths 270 = .ok (.iload_n 3, 1) := by decide +kernel
theorem dX8_findTruths_271 : decode cX8_findTruths 271 = .ok (.iaload, 1) := by decide +kernel
theorem dX8_findTruths_272 : decode cX8_findTruths 272 = .ok (.imul, 1) := by decide +kernel
theorem dX8_findTruths_273 : decode cX8_findTruths 273 = .ok (.iload_n 1, 1) := by decide +kernel
theorem dX8_findTruths_274 : decode cX8_findTruths 274 = .ok (.iadd, 1) := by decide +kernel
theorem dX8_findTruths_275 : decode cX8_findTruths 275 = .ok (.baload, 1) := by decide +kernel
theorem dX8_findTruths_276 : decode cX8_findTruths 276 = .ok (.ifCond .ne 23, 3) := by decide +kernel
theorem dX8_findTruths_279 : decode cX8_findTruths 279 = .ok (.aload_n 0, 1) := by decide +kernel
theorem dX8_findTruths_280 : decode cX8_findTruths 280 = .ok (.getfield 102, 3) := by decide +kernel
theorem dX8_findTruths_283 : decode cX8_findTruths 283 = .ok (.sipush 512, 3) := by decide +kernel
theorem dX8_findTruths_286 : decode cX8_findTruths 286 = .ok (.aload_n 0, 1) := by decide +kernel
theorem dX8_findTruths_287 : decode cX8_findTruths 287 = .ok (.getfield 24, 3) := by decide +kernel
theorem dX8_findTruths_290 : decode cX8_findTruths 290 = .ok (.iload_n 3, 1) := by decide +kernel
theorem dX8_findTruths_291 : decode cX8_findTruths 291 = .ok (.iaload, 1) := by decide +kernel
theorem dX8_findTruths_292 : decode cX8_findTruths 292 = .ok (.imul, 1) := by decide +kernel
theorem dX8_findTruths_293 : decode cX8_findTruths 293 = .ok (.iload_n 1, 1) := by decide +kernel
theorem dX8_findTruths_294 : decode cX8_findTruths 294 = .ok (.iadd, 1) := by decide +kernel
theorem dX8_findTruths_295 : decode cX8_findTruths 295 = .ok (.baload, 1) := by decide +kernel
theorem dX8_findTruths_296 : decode cX8_findTruths 296 = .ok (.ifCond .eq 7, 3) := by decide +kernel
theorem dX8_findTruths_299 : decode cX8_findTruths 299 = .ok (.iconst 1, 1) := by decide +kernel
theorem dX8_findTruths_300 : decode cX8_findTruths 300 = .ok (.goto 4, 3) := by decide +kernel
theorem dX8_findTruths_303 : decode cX8_findTruths 303 = .ok (.iconst 0, 1) := by decide +kernel
theorem dX8_findTruths_304 : decode cX8_findTruths 304 = .ok (.bastore, 1) := by decide +kernel
theorem dX8_findTruths_305 : decode cX8_findTruths 305 = .ok (.iinc 2 1, 3) := by decide +kernel
theorem dX8_findTruths_308 : decode cX8_findTruths 308 = .ok (.goto (-296), 3) := by decide +kernel
theorem dX8_findTruths_311 : decode cX8_findTruths 311 = .ok (.aload_n 0, 1) := by decide +kernel
theorem dX8_findTruths_312 : decode cX8_findTruths 312 = .ok (.getfield 105, 3) := by decide +kernel
theorem dX8_findTruths_315 : decode cX8_findTruths 315 = .ok (.iload_n 1, 1) := by decide +kernel
theorem dX8_findTruths_316 : decode cX8_findTruths 316 = .ok (.iconst 0, 1) := by decide +kernel
theorem dX8_findTruths_317 : decode cX8_findTruths 317 = .ok (.iastore, 1) := by decide +kernel
theorem dX8_findTruths_318 : decode cX8_findTruths 318 = .ok (.iconst 0, 1) := by decide +kernel
theorem dX8_findTruths_319 : decode cX8_findTruths 319 = .ok (.istore_n 2, 1) := by decide +kernel
theorem dX8_findTruths_320 : decode cX8_findTruths 320 = .ok (.iload_n 2, 1) := by decide +kernel
theorem dX8_findTruths_321 : decode cX8_findTruths 321 = .ok (.aload_n 0, 1) := by decide +kernel
theorem dX8_findTruths_322 : decode cX8_findTruths 322 = .ok (.getfield 353, 3) := by decide +kernel
theorem dX8_findTruths_325 : decode cX8_findTruths 325 = .ok (.if_icmp .ge 56, 3) := by decide +kernel
theorem dX8_findTruths_328 : decode cX8_findTruths 328 = .ok (.aload_n 0, 1) := by decide +kernel
theorem dX8_findTruths_329 : decode cX8_findTruths 329 = .ok (.getfield 73, 3) := by decide +kernel
theorem dX8_findTruths_332 : decode cX8_findTruths 332 = .ok (.iload_n 2, 1) := by decide +kernel
theorem dX8_findTruths_333 : decode cX8_findTruths 333 = .ok (.iaload, 1) := by decide +kernel
theorem dX8_findTruths_334 : decode cX8_findTruths 334 = .ok (.ifCond .lt 41, 3) := by decide +kernel
theorem dX8_findTruths_337 : decode cX8_findTruths 337 = .ok (.aload_n 0, 1) := by decide +kernel
theorem dX8_findTruths_338 : decode cX8_findTruths 338 = .ok (.getfield 102, 3) := by decide +kernel
theorem dX8_findTruths_341 : decode cX8_findTruths 341 = .ok (.sipush 512, 3) := by decide +kernel
theorem dX8_findTruths_344 : decode cX8_findTruths 344 = .ok (.aload_n 0, 1) := by decide +kernel
theorem dX8_findTruths_345 : decode cX8_findTruths 345 = .ok (.getfield 79, 3) := by decide +kernel
theorem dX8_findTruths_348 : decode cX8_findTruths 348 = .ok (.iload_n 2, 1) := by decide +kernel
theorem dX8_findTruths_349 : decode cX8_findTruths 349 = .ok (.iaload, 1) := by decide +kernel
theorem dX8_findTruths_350 : decode cX8_findTruths 350 = .ok (.imul, 1) := by decide +kernel
theorem dX8_findTruths_351 : decode cX8_findTruths 351 = .ok (.iload_n 1, 1) := by decide +kernel
theorem dX8_findTruths_352 : decode cX8_findTruths 352 = .ok (.iadd, 1) := by decide +kernel
theorem dX8_findTruths_353 : decode cX8_findTruths 353 = .ok (.baload, 1) := by decide +kernel
theorem dX8_findTruths_354 : decode cX8_findTruths 354 = .ok (.aload_n 0, 1) := by decide +kernel
theorem dX8_findTruths_355 : decode cX8_findTruths 355 = .ok (.getfield 82, 3) := by decide +kernel
theorem dX8_findTruths_358 : decode cX8_findTruths 358 = .ok (.iload_n 2, 1) := by decide +kernel
theorem dX8_findTruths_359 : decode cX8_findTruths 359 = .ok (.baload, 1) := by decide +kernel
theorem dX8_findTruths_360 : decode cX8_findTruths 360 = .ok (.if_icmp .eq 15, 3) := by decide +kernel
theorem dX8_findTruths_363 : decode cX8_findTruths 363 = .ok (.aload_n 0, 1) := by decide +kernel
theorem dX8_findTruths_364 : decode cX8_findTruths 364 = .ok (.getfield 105, 3) := by decide +kernel
theorem dX8_findTruths_367 : decode cX8_findTruths 367 = .ok (.iload_n 1, 1) := by decide +kernel
theorem dX8_findTruths_368 : decode cX8_findTruths 368 = .ok (.dup2, 1) := by decide +kernel
theorem dX8_findTruths_369 : decode cX8_findTruths 369 = .ok (.iaload, 1) := by decide +kernel
theorem dX8_findTruths_370 : decode cX8_findTruths 370 = .ok (.iconst 1, 1) := by decide +kernel
theorem dX8_findTruths_371 : decode cX8_findTruths 371 = .ok (.iload_n 2, 1) := by decide +kernel
theorem dX8_findTruths_372 : decode cX8_findTruths 372 = .ok (.ishl, 1) := by decide +kernel
theorem dX8_findTruths_373 : decode cX8_findTruths 373 = .ok (.ior, 1) := by decide +kernel
theorem dX8_findTruths_374 : decode cX8_findTruths 374 = .ok (.iastore, 1) := by decide +kernel
theorem dX8_findTruths_375 : decode cX8_findTruths 375 = .ok (.iinc 2 1, 3) := by decide +kernel
theorem dX8_findTruths_378 : decode cX8_findTruths 378 = .ok (.goto (-58), 3) := by decide +kernel
theorem dX8_findTruths_381 : decode cX8_findTruths 381 = .ok (.iinc 1 1, 3) := by decide +kernel
theorem dX8_findTruths_384 : decode cX8_findTruths 384 = .ok (.goto (-382), 3) := by decide +kernel
theorem dX8_findTruths_387 : decode cX8_findTruths 387 = .ok (.iconst 0, 1) := by decide +kernel
theorem dX8_findTruths_388 : decode cX8_findTruths 388 = .ok (.istore_n 1, 1) := by decide +kernel
theorem dX8_findTruths_389 : decode cX8_findTruths 389 = .ok (.iload_n 1, 1) := by decide +kernel
theorem dX8_findTruths_390 : decode cX8_findTruths 390 = .ok (.iconst 3, 1) := by decide +kernel
theorem dX8_findTruths_391 : decode cX8_findTruths 391 = .ok (.if_icmp .ge 97, 3) := by decide +kernel
theorem dX8_findTruths_394 : decode cX8_findTruths 394 = .ok (.aload_n 0, 1) := by decide +kernel
theorem dX8_findTruths_395 : decode cX8_findTruths 395 = .ok (.getfield 108, 3) := by decide +kernel
theorem dX8_findTruths_398 : decode cX8_findTruths 398 = .ok (.iload_n 1, 1) := by decide +kernel
theorem dX8_findTruths_399 : decode cX8_findTruths 399 = .ok (.iconst 0, 1) := by decide +kernel
theorem dX8_findTruths_400 : decode cX8_findTruths 400 = .ok (.iastore, 1) := by decide +kernel
theorem dX8_findTruths_401 : decode cX8_findTruths 401 = .ok (.aload_n 0, 1) := by decide +kernel
theorem dX8_findTruths_402 : decode cX8_findTruths 402 = .ok (.getfield 111, 3) := by decide +kernel
theorem dX8_findTruths_405 : decode cX8_findTruths 405 = .ok (.iload_n 1, 1) := by decide +kernel
theorem dX8_findTruths_406 : decode cX8_findTruths 406 = .ok (.iconst 0, 1) := by decide +kernel
theorem dX8_findTruths_407 : decode cX8_findTruths 407 = .ok (.iastore, 1) := by decide +kernel
theorem dX8_findTruths_408 : decode cX8_findTruths 408 = .ok (.iconst 0, 1) := by decide +kernel
theorem dX8_findTruths_409 : decode cX8_findTruths 409 = .ok (.istore_n 2, 1) := by decide +kernel
theorem dX8_findTruths_410 : decode cX8_findTruths 410 = .ok (.iload_n 2, 1) := by decide +kernel
theorem dX8_findTruths_411 : decode cX8_findTruths 411 = .ok (.aload_n 0, 1) := by decide +kernel
theorem dX8_findTruths_412 : decode cX8_findTruths 412 = .ok (.getfield 353, 3) := by decide +kernel
theorem dX8_findTruths_415 : decode cX8_findTruths 415 = .ok (.if_icmp .ge 67, 3) := by decide +kernel
theorem dX8_findTruths_418 : decode cX8_findTruths 418 = .ok (.aload_n 0, 1) := by decide +kernel
theorem dX8_findTruths_419 : decode cX8_findTruths 419 = .ok (.getfield 73, 3) := by decide +kernel
theorem dX8_findTruths_422 : decode cX8_findTruths 422 = .ok (.iload_n 2, 1) := by decide +kernel
theorem dX8_findTruths_423 : decode cX8_findTruths 423 = .ok (.iaload, 1) := by decide +kernel
theorem dX8_findTruths_424 : decode cX8_findTruths 424 = .ok (.istore_n 3, 1) := by decide +kernel
theorem dX8_findTruths_425 : decode cX8_findTruths 425 = .ok (.iload_n 3, 1) := by decide +kernel
theorem dX8_findTruths_426 : decode cX8_findTruths 426 = .ok (.ifCond .lt 29, 3) := by decide +kernel
theorem dX8_findTruths_429 : decode cX8_findTruths 429 = .ok (.iload_n 3, 1) := by decide +kernel
theorem dX8_findTruths_430 : decode cX8_findTruths 430 = .ok (.iload_n 1, 1) := by decide +kernel
theorem dX8_findTruths_431 : decode cX8_findTruths 431 = .ok (.if_icmp .eq 12, 3) := by decide +kernel
theorem dX8_findTruths_434 : decode cX8_findTruths 434 = .ok (.aload_n 0, 1) := by decide +kernel
theorem dX8_findTruths_435 : decode cX8_findTruths 435 = .ok (.iload_n 1, 1) := by decide +kernel
theorem dX8_findTruths_436 : decode cX8_findTruths 436 = .ok (.iload_n 3, 1) := by decide +kernel
theorem dX8_findTruths_437 : decode cX8_findTruths 437 = .ok (.invokevirtual 371, 3) := by decide +kernel
theorem dX8_findTruths_440 : decode cX8_findTruths 440 = .ok (.ifCond .eq 15, 3) := by decide +kernel
theorem dX8_findTruths_443 : decode cX8_findTruths 443 = .ok (.aload_n 0, 1) := by decide +kernel
theorem dX8_findTruths_444 : decode cX8_findTruths 444 = .ok (.getfield 108, 3) := by decide +kernel
theorem dX8_findTruths_447 : decode cX8_findTruths 447 = .ok (.iload_n 1, 1) := by decide +kernel
theorem dX8_findTruths_448 : decode cX8_findTruths 448 = .ok (.dup2, 1) := by decide +kernel
theorem dX8_findTruths_449 : decode cX8_findTruths 449 = .ok (.iaload, 1) := by decide +kernel
theorem dX8_findTruths_450 : decode cX8_findTruths 450 = .ok (.iconst 1, 1) := by decide +kernel
theorem dX8_findTruths_451 : decode cX8_findTruths 451 = .ok (.iload_n 2, 1) := by decide +kernel
theorem dX8_findTruths_452 : decode cX8_findTruths 452 = .ok (.ishl, 1) := by decide +kernel
theorem dX8_findTruths_453 : decode cX8_findTruths 453 = .ok (.ior, 1) := by decide +kernel
theorem dX8_findTruths_454 : decode cX8_findTruths 454 = .ok (.iastore, 1) := by decide +kernel
theorem dX8_findTruths_455 : decode cX8_findTruths 455 = .ok (.aload_n 0, 1) := by decide +kernel
theorem dX8_findTruths_456 : decode cX8_findTruths 456 = .ok (.getfield 111, 3) := by decide +kernel
theorem dX8_findTruths_459 : decode cX8_findTruths 459 = .ok (.iload_n 1, 1) := by decide +kernel
theorem dX8_findTruths_460 : decode cX8_findTruths 460 = .ok (.dup2, 1) := by decide +kernel
theorem dX8_findTruths_461 : decode cX8_findTruths 461 = .ok (.iaload, 1) := by decide +kernel
theorem dX8_findTruths_462 : decode cX8_findTruths 462 = .ok (.iload_n 3, 1) := by decide +kernel
theorem dX8_findTruths_463 : decode cX8_findTruths 463 = .ok (.iload_n 1, 1) := by decide +kernel
theorem dX8_findTruths_464 : decode cX8_findTruths 464 = .ok (.if_icmp .ne 9, 3) := by decide +kernel
theorem dX8_findTruths_467 : decode cX8_findTruths 467 = .ok (.iconst 1, 1) := by decide +kernel
theorem dX8_findTruths_468 : decode cX8_findTruths 468 = .ok (.iload_n 2, 1) := by decide +kernel
theorem dX8_findTruths_469 : decode cX8_findTruths 469 = .ok (.ishl, 1) := by decide +kernel
theorem dX8_findTruths_470 : decode cX8_findTruths 470 = .ok (.goto 4, 3) := by decide +kernel
theorem dX8_findTruths_473 : decode cX8_findTruths 473 = .ok (.iconst 0, 1) := by decide +kernel
theorem dX8_findTruths_474 : decode cX8_findTruths 474 = .ok (.ior, 1) := by decide +kernel
theorem dX8_findTruths_475 : decode cX8_findTruths 475 = .ok (.iastore, 1) := by decide +kernel
theorem dX8_findTruths_476 : decode cX8_findTruths 476 = .ok (.iinc 2 1, 3) := by decide +kernel
theorem dX8_findTruths_479 : decode cX8_findTruths 479 = .ok (.goto (-69), 3) := by decide +kernel
theorem dX8_findTruths_482 : decode cX8_findTruths 482 = .ok (.iinc 1 1, 3) := by decide +kernel
theorem dX8_findTruths_485 : decode cX8_findTruths 485 = .ok (.goto (-96), 3) := by decide +kernel
theorem dX8_findTruths_488 : decode cX8_findTruths 488 = .ok (.return_, 1) := by decide +kernel
theorem dX8_isBelow_0 : decode cX8_isBelow 0 = .ok (.aload_n 0, 1) := by decide +kernel
theorem dX8_isBelow_1 : decode cX8_isBelow 1 = .ok (.getfield 67, 3) := by decide +kernel
theorem dX8_isBelow_4 : decode cX8_isBelow 4 = .ok (.iconst 3, 1) := by decide +kernel
theorem dX8_isBelow_5 : decode cX8_isBelow 5 = .ok (.iload_n 1, 1) := by decide +kernel
theorem dX8_isBelow_6 : decode cX8_isBelow 6 = .ok (.imul, 1) := by decide +kernel
theorem dX8_isBelow_7 : decode cX8_isBelow 7 = .ok (.iload_n 2, 1) := by decide +kernel
theorem dX8_isBelow_8 : decode cX8_isBelow 8 = .ok (.iadd, 1) := by decide +kernel
theorem dX8_isBelow_9 : decode cX8_isBelow 9 = .ok (.baload, 1) := by decide +kernel
theorem dX8_isBelow_10 : decode cX8_isBelow 10 = .ok (.istore_n 3, 1) := by decide +kernel
theorem dX8_isBelow_11 : decode cX8_isBelow 11 = .ok (.iconst 0, 1) := by decide +kernel
theorem dX8_isBelow_12 : decode cX8_isBelow 12 = .ok (.istore 4, 2) := by decide +kernel
theorem dX8_isBelow_14 : decode cX8_isBelow 14 = .ok (.iload 4, 2) := by decide +kernel
theorem dX8_isBelow_16 : decode cX8_isBelow 16 = .ok (.iconst 3, 1) := by decide +kernel
theorem dX8_isBelow_17 : decode cX8_isBelow 17 = .ok (.if_icmp .ge 47, 3) := by decide +kernel
theorem dX8_isBelow_20 : decode cX8_isBelow 20 = .ok (.iload_n 3, 1) := by decide +kernel
theorem dX8_isBelow_21 : decode cX8_isBelow 21 = .ok (.ifCond .ne 31, 3) := by decide +kernel
theorem dX8_isBelow_24 : decode cX8_isBelow 24 = .ok (.aload_n 0, 1) := by decide +kernel
theorem dX8_isBelow_25 : decode cX8_isBelow 25 = .ok (.getfield 67, 3) := by decide +kernel
theorem dX8_isBelow_28 : decode cX8_isBelow 28 = .ok (.iconst 3, 1) := by decide +kernel
theorem dX8_isBelow_29 : decode cX8_isBelow 29 = .ok (.iload_n 1, 1) := by decide +kernel
theorem dX8_isBelow_30 : decode cX8_isBelow 30 = .ok (.imul, 1) := by decide +kernel
theorem dX8_isBelow_31 : decode cX8_isBelow 31 = .ok (.iload 4, 2) := by decide +kernel
theorem dX8_isBelow_33 : decode cX8_isBelow 33 = .ok (.iadd, 1) := by decide +kernel
theorem dX8_isBelow_34 : decode cX8_isBelow 34 = .ok (.baload, 1) := by decide +kernel
theorem dX8_isBelow_35 : decode cX8_isBelow 35 = .ok (.ifCond .eq 21, 3) := by decide +kernel
theorem dX8_isBelow_38 : decode cX8_isBelow 38 = .ok (.aload_n 0, 1) := by decide +kernel
theorem dX8_isBelow_39 : decode cX8_isBelow 39 = .ok (.getfield 67, 3) := by decide +kernel
theorem dX8_isBelow_42 : decode cX8_isBelow 42 = .ok (.iconst 3, 1) := by decide +kernel
theorem dX8_isBelow_43 : decode cX8_isBelow 43 = .ok (.iload 4, 2) := by decide +kernel
theorem dX8_isBelow_45 : decode cX8_isBelow 45 = .ok (.imul, 1) := by decide +kernel
theorem dX8_isBelow_46 : decode cX8_isBelow 46 = .ok (.iload_n 2, 1) := by decide +kernel
theorem dX8_isBelow_47 : decode cX8_isBelow 47 = .ok (.iadd, 1) := by decide +kernel
theorem dX8_isBelow_48 : decode cX8_isBelow 48 = .ok (.baload, 1) := by decide +kernel
theorem dX8_isBelow_49 : decode cX8_isBelow 49 = .ok (.ifCond .eq 7, 3) := by decide +kernel
theorem dX8_isBelow_52 : decode cX8_isBelow 52 = .ok (.iconst 1, 1) := by decide +kernel
theorem dX8_isBelow_53 : decode cX8_isBelow 53 = .ok (.goto 4, 3) := by decide +kernel
theorem dX8_isBelow_56 : decode cX8_isBelow 56 = .ok (.iconst 0, 1) := by decide +kernel
theorem dX8_isBelow_57 : decode cX8_isBelow 57 = .ok (.istore_n 3, 1) := by decide +kernel
theorem dX8_isBelow_58 : decode cX8_isBelow 58 = .ok (.iinc 4 1, 3) := by decide +kernel
theorem dX8_isBelow_61 : decode cX8_isBelow 61 = .ok (.goto (-47), 3) := by decide +kernel
theorem dX8_isBelow_64 : decode cX8_isBelow 64 = .ok (.iload_n 3, 1) := by decide +kernel
theorem dX8_isBelow_65 : decode cX8_isBelow 65 = .ok (.ireturn, 1) := by decide +kernel
theorem dX8_goesTo_0 : decode cX8_goesTo 0 = .ok (.aload_n 0, 1) := by decide +kernel
theorem dX8_goesTo_1 : decode cX8_goesTo 1 = .ok (.getfield 105, 3) := by decide +kernel
theorem dX8_goesTo_4 : decode cX8_goesTo 4 = .ok (.iload_n 3, 1) := by decide +kernel
theorem dX8_goesTo_5 : decode cX8_goesTo 5 = .ok (.iaload, 1) := by decide +kernel
theorem dX8_goesTo_6 : decode cX8_goesTo 6 = .ok (.aload_n 0, 1) := by decide +kernel
theorem dX8_goesTo_7 : decode cX8_goesTo 7 = .ok (.getfield 108, 3) := by decide +kernel
theorem dX8_goesTo_10 : decode cX8_goesTo 10 = .ok (.iload_n 2, 1) := by decide +kernel
theorem dX8_goesTo_11 : decode cX8_goesTo 11 = .ok (.iaload, 1) := by decide +kernel
theorem dX8_goesTo_12 : decode cX8_goesTo 12 = .ok (.iand, 1) := by decide +kernel
theorem dX8_goesTo_13 : decode cX8_goesTo 13 = .ok (.iload_n 1, 1) := by decide +kernel
theorem dX8_goesTo_14 : decode cX8_goesTo 14 = .ok (.iconst (-1), 1) := by decide +kernel
theorem dX8_goesTo_15 : decode cX8_goesTo 15 = .ok (.ixor, 1) := by decide +kernel
theorem dX8_goesTo_16 : decode cX8_goesTo 16 = .ok (.iand, 1) := by decide +kernel
theorem dX8_goesTo_17 : decode cX8_goesTo 17 = .ok (.ifCond .ne 7, 3) := by decide +kernel
theorem dX8_goesTo_20 : decode cX8_goesTo 20 = .ok (.iconst 1, 1) := by decide +kernel
theorem dX8_goesTo_21 : decode cX8_goesTo 21 = .ok (.goto 4, 3) := by decide +kernel
theorem dX8_goesTo_24 : decode cX8_goesTo 24 = .ok (.iconst 0, 1) := by decide +kernel
theorem dX8_goesTo_25 : decode cX8_goesTo 25 = .ok (.ireturn, 1) := by decide +kernel
theorem dX8_isFair_0 : decode cX8_isFair 0 = .ok (.iconst 1, 1) := by decide +kernel
theorem dX8_isFair_1 : decode cX8_isFair 1 = .ok (.istore_n 3, 1) := by decide +kernel
theorem dX8_isFair_2 : decode cX8_isFair 2 = .ok (.iconst 0, 1) := by decide +kernel
theorem dX8_isFair_3 : decode cX8_isFair 3 = .ok (.istore 4, 2) := by decide +kernel
theorem dX8_isFair_5 : decode cX8_isFair 5 = .ok (.iload 4, 2) := by decide +kernel
theorem dX8_isFair_7 : decode cX8_isFair 7 = .ok (.aload_n 0, 1) := by decide +kernel
theorem dX8_isFair_8 : decode cX8_isFair 8 = .ok (.getfield 341, 3) := by decide +kernel
theorem dX8_isFair_11 : decode cX8_isFair 11 = .ok (.if_icmp .ge 107, 3) := by decide +kernel
theorem dX8_isFair_14 : decode cX8_isFair 14 = .ok (.iload_n 2, 1) := by decide +kernel
theorem dX8_isFair_15 : decode cX8_isFair 15 = .ok (.iload 4, 2) := by decide +kernel
theorem dX8_isFair_17 : decode cX8_isFair 17 = .ok (.ishr, 1) := by decide +kernel
theorem dX8_isFair_18 : decode cX8_isFair 18 = .ok (.iconst 1, 1) := by decide +kernel
theorem dX8_isFair_19 : decode cX8_isFair 19 = .ok (.iand, 1) := by decide +kernel
theorem dX8_isFair_20 : decode cX8_isFair 20 = .ok (.ifCond .ne 92, 3) := by decide +kernel
theorem dX8_isFair_23 : decode cX8_isFair 23 = .ok (.aload_n 0, 1) := by decide +kernel
theorem dX8_isFair_24 : decode cX8_isFair 24 = .ok (.getfield 45, 3) := by decide +kernel
theorem dX8_isFair_27 : decode cX8_isFair 27 = .ok (.iload 4, 2) := by decide +kernel
theorem dX8_isFair_29 : decode cX8_isFair 29 = .ok (.iaload, 1) := by decide +kernel
theorem dX8_isFair_30 : decode cX8_isFair 30 = .ok (.istore 5, 2) := by decide +kernel
theorem dX8_isFair_32 : decode cX8_isFair 32 = .ok (.aload_n 0, 1) := by decide +kernel
theorem dX8_isFair_33 : decode cX8_isFair 33 = .ok (.getfield 102, 3) := by decide +kernel
theorem dX8_isFair_36 : decode cX8_isFair 36 = .ok (.sipush 512, 3) := by decide +kernel
theorem dX8_isFair_39 : decode cX8_isFair 39 = .ok (.aload_n 0, 1) := by decide +kernel
theorem dX8_isFair_40 : decode cX8_isFair 40 = .ok (.getfield 39, 3) := by decide +kernel
theorem dX8_isFair_43 : decode cX8_isFair 43 = .ok (.iload 5, 2) := by decide +kernel
theorem dX8_isFair_45 : decode cX8_isFair 45 = .ok (.iaload, 1) := by decide +kernel
theorem dX8_isFair_46 : decode cX8_isFair 46 = .ok (.imul, 1) := by decide +kernel
theorem dX8_isFair_47 : decode cX8_isFair 47 = .ok (.iload_n 1, 1) := by decide +kernel
theorem dX8_isFair_48 : decode cX8_isFair 48 = .ok (.iadd, 1) := by decide +kernel
theorem dX8_isFair_49 : decode cX8_isFair 49 = .ok (.baload, 1) := by decide +kernel
theorem dX8_isFair_50 : decode cX8_isFair 50 = .ok (.istore 6, 2) := by decide +kernel
theorem dX8_isFair_52 : decode cX8_isFair 52 = .ok (.aload_n 0, 1) := by decide +kernel
theorem dX8_isFair_53 : decode cX8_isFair 53 = .ok (.getfield 102, 3) := by decide +kernel
theorem dX8_isFair_56 : decode cX8_isFair 56 = .ok (.sipush 512, 3) := by decide +kernel
theorem dX8_isFair_59 : decode cX8_isFair 59 = .ok (.aload_n 0, 1) := by decide +kernel
theorem dX8_isFair_60 : decode cX8_isFair 60 = .ok (.getfield 42, 3) := by decide +kernel
theorem dX8_isFair_63 : decode cX8_isFair 63 = .ok (.iload 5, 2) := by decide +kernel
theorem dX8_isFair_65 : decode cX8_isFair 65 = .ok (.iaload, 1) := by decide +kernel
theorem dX8_isFair_66 : decode cX8_isFair 66 = .ok (.imul, 1) := by decide +kernel
theorem dX8_isFair_67 : decode cX8_isFair 67 = .ok (.iload_n 1, 1) := by decide +kernel
theorem dX8_isFair_68 : decode cX8_isFair 68 = .ok (.iadd, 1) := by decide +kernel
theorem dX8_isFair_69 : decode cX8_isFair 69 = .ok (.baload, 1) := by decide +kernel
theorem dX8_isFair_70 : decode cX8_isFair 70 = .ok (.istore 7, 2) := by decide +kernel
theorem dX8_isFair_72 : decode cX8_isFair 72 = .ok (.iload_n 3, 1) := by decide +kernel
theorem dX8_isFair_73 : decode cX8_isFair 73 = .ok (.ifCond .eq 37, 3) := by decide +kernel
theorem dX8_isFair_76 : decode cX8_isFair 76 = .ok (.aload_n 0, 1) := by decide +kernel
theorem dX8_isFair_77 : decode cX8_isFair 77 = .ok (.getfield 36, 3) := by decide +kernel
theorem dX8_isFair_80 : decode cX8_isFair 80 = .ok (.iload 5, 2) := by decide +kernel
theorem dX8_isFair_82 : decode cX8_isFair 82 = .ok (.iaload, 1) := by decide +kernel
theorem dX8_isFair_83 : decode cX8_isFair 83 = .ok (.ifCond .ne 16, 3) := by decide +kernel
theorem dX8_isFair_86 : decode cX8_isFair 86 = .ok (.iload 6, 2) := by decide +kernel
theorem dX8_isFair_88 : decode cX8_isFair 88 = .ok (.ifCond .eq 18, 3) := by decide +kernel
theorem dX8_isFair_91 : decode cX8_isFair 91 = .ok (.iload 7, 2) := by decide +kernel
theorem dX8_isFair_93 : decode cX8_isFair 93 = .ok (.ifCond .eq 17, 3) := by decide +kernel
theorem dX8_isFair_96 : decode cX8_isFair 96 = .ok (.goto 10, 3) := by decide +kernel
theorem dX8_isFair_99 : decode cX8_isFair 99 = .ok (.iload 6, 2) := by decide +kernel
theorem dX8_isFair_101 : decode cX8_isFair 101 = .ok (.iload 7, 2) := by decide +kernel
theorem dX8_isFair_103 : decode cX8_isFair 103 = .ok (.if_icmp .ne 7, 3) := by decide +kernel
theorem dX8_isFair_106 : decode cX8_isFair 106 = .ok (.iconst 1, 1) := by decide +kernel
theorem dX8_isFair_107 : decode cX8_isFair 107 = .ok (.goto 4, 3) := by decide +kernel
theorem dX8_isFair_110 : decode cX8_isFair 110 = .ok (.iconst 0, 1) := by decide +kernel
theorem dX8_isFair_111 : decode cX8_isFair 111 = .ok (.istore_n 3, 1) := by decide +kernel
theorem dX8_isFair_112 : decode cX8_isFair 112 = .ok (.iinc 4 1, 3) := by decide +kernel
theorem dX8_isFair_115 : decode cX8_isFair 115 = .ok (.goto (-110), 3) := by decide +kernel
theorem dX8_isFair_118 : decode cX8_isFair 118 = .ok (.iload_n 3, 1) := by decide +kernel
theorem dX8_isFair_119 : decode cX8_isFair 119 = .ok (.ireturn, 1) := by decide +kernel
theorem dX8_leastTo_0 : decode cX8_leastTo 0 = .ok (.iconst 0, 1) := by decide +kernel
theorem dX8_leastTo_1 : decode cX8_leastTo 1 = .ok (.istore 5, 2) := by decide +kernel
theorem dX8_leastTo_3 : decode cX8_leastTo 3 = .ok (.iload 5, 2) := by decide +kernel
theorem dX8_leastTo_5 : decode cX8_leastTo 5 = .ok (.aload_n 0, 1) := by decide +kernel
theorem dX8_leastTo_6 : decode cX8_leastTo 6 = .ok (.invokevirtual 368, 3) := by decide +kernel
theorem dX8_leastTo_9 : decode cX8_leastTo 9 = .ok (.if_icmp .ge 44, 3) := by decide +kernel
theorem dX8_leastTo_12 : decode cX8_leastTo 12 = .ok (.aload 4, 2) := by decide +kernel
theorem dX8_leastTo_14 : decode cX8_leastTo 14 = .ok (.iload 5, 2) := by decide +kernel
theorem dX8_leastTo_16 : decode cX8_leastTo 16 = .ok (.baload, 1) := by decide +kernel
theorem dX8_leastTo_17 : decode cX8_leastTo 17 = .ok (.ifCond .eq 30, 3) := by decide +kernel
theorem dX8_leastTo_20 : decode cX8_leastTo 20 = .ok (.aload_n 0, 1) := by decide +kernel
theorem dX8_leastTo_21 : decode cX8_leastTo 21 = .ok (.iload_n 1, 1) := by decide +kernel
theorem dX8_leastTo_22 : decode cX8_leastTo 22 = .ok (.iload_n 2, 1) := by decide +kernel
theorem dX8_leastTo_23 : decode cX8_leastTo 23 = .ok (.iload 5, 2) := by decide +kernel
theorem dX8_leastTo_25 : decode cX8_leastTo 25 = .ok (.invokevirtual 374, 3) := by decide +kernel
theorem dX8_leastTo_28 : decode cX8_leastTo 28 = .ok (.ifCond .eq 19, 3) := by decide +kernel
theorem dX8_leastTo_31 : decode cX8_leastTo 31 = .ok (.aload_n 0, 1) := by decide +kernel
theorem dX8_leastTo_32 : decode cX8_leastTo 32 = .ok (.getfield 105, 3) := by decide +kernel
theorem dX8_leastTo_35 : decode cX8_leastTo 35 = .ok (.iload 5, 2) := by decide +kernel
theorem dX8_leastTo_37 : decode cX8_leastTo 37 = .ok (.iaload, 1) := by decide +kernel
theorem dX8_leastTo_38 : decode cX8_leastTo 38 = .ok (.iload_n 3, 1) := by decide +kernel
theorem dX8_leastTo_39 : decode cX8_leastTo 39 = .ok (.iand, 1) := by decide +kernel
theorem dX8_leastTo_40 : decode cX8_leastTo 40 = .ok (.iload_n 3, 1) := by decide +kernel
theorem dX8_leastTo_41 : decode cX8_leastTo 41 = .ok (.if_icmp .ne 6, 3) := by decide +kernel
theorem dX8_leastTo_44 : decode cX8_leastTo 44 = .ok (.iload 5, 2) := by decide +kernel
theorem dX8_leastTo_46 : decode cX8_leastTo 46 = .ok (.ireturn, 1) := by decide +kernel
theorem dX8_leastTo_47 : decode cX8_leastTo 47 = .ok (.iinc 5 1, 3) := by decide +kernel
theorem dX8_leastTo_50 : decode cX8_leastTo 50 = .ok (.goto (-47), 3) := by decide +kernel
theorem dX8_leastTo_53 : decode cX8_leastTo 53 = .ok (.iconst (-1), 1) := by decide +kernel
theorem dX8_leastTo_54 : decode cX8_leastTo 54 = .ok (.ireturn, 1) := by decide +kernel
theorem dX8_isMet_0 : decode cX8_isMet 0 = .ok (.iconst 1, 1) := by decide +kernel
theorem dX8_isMet_1 : decode cX8_isMet 1 = .ok (.istore_n 3, 1) := by decide +kernel
theorem dX8_isMet_2 : decode cX8_isMet 2 = .ok (.iconst 0, 1) := by decide +kernel
theorem dX8_isMet_3 : decode cX8_isMet 3 = .ok (.istore 4, 2) := by decide +kernel
theorem dX8_isMet_5 : decode cX8_isMet 5 = .ok (.iload 4, 2) := by decide +kernel
theorem dX8_isMet_7 : decode cX8_isMet 7 = .ok (.aload_n 0, 1) := by decide +kernel
theorem dX8_isMet_8 : decode cX8_isMet 8 = .ok (.getfield 350, 3) := by decide +kernel
theorem dX8_isMet_11 : decode cX8_isMet 11 = .ok (.if_icmp .ge 121, 3) := by decide +kernel
theorem dX8_isMet_14 : decode cX8_isMet 14 = .ok (.iload_n 3, 1) := by decide +kernel
theorem dX8_isMet_15 : decode cX8_isMet 15 = .ok (.ifCond .eq 117, 3) := by decide +kernel
theorem dX8_isMet_18 : decode cX8_isMet 18 = .ok (.aload_n 0, 1) := by decide +kernel
theorem dX8_isMet_19 : decode cX8_isMet 19 = .ok (.getfield 111, 3) := by decide +kernel
theorem dX8_isMet_22 : decode cX8_isMet 22 = .ok (.iload 4, 2) := by decide +kernel
theorem dX8_isMet_24 : decode cX8_isMet 24 = .ok (.iaload, 1) := by decide +kernel
theorem dX8_isMet_25 : decode cX8_isMet 25 = .ok (.iload_n 1, 1) := by decide +kernel
theorem dX8_isMet_26 : decode cX8_isMet 26 = .ok (.iand, 1) := by decide +kernel
theorem dX8_isMet_27 : decode cX8_isMet 27 = .ok (.istore 5, 2) := by decide +kernel
theorem dX8_isMet_29 : decode cX8_isMet 29 = .ok (.aload_n 0, 1) := by decide +kernel
theorem dX8_isMet_30 : decode cX8_isMet 30 = .ok (.getfield 63, 3) := by decide +kernel
theorem dX8_isMet_33 : decode cX8_isMet 33 = .ok (.iload 4, 2) := by decide +kernel
theorem dX8_isMet_35 : decode cX8_isMet 35 = .ok (.baload, 1) := by decide +kernel
theorem dX8_isMet_36 : decode cX8_isMet 36 = .ok (.ifCond .eq 27, 3) := by decide +kernel
theorem dX8_isMet_39 : decode cX8_isMet 39 = .ok (.iload 5, 2) := by decide +kernel
theorem dX8_isMet_41 : decode cX8_isMet 41 = .ok (.ifCond .eq 16, 3) := by decide +kernel
theorem dX8_isMet_44 : decode cX8_isMet 44 = .ok (.aload_n 0, 1) := by decide +kernel
theorem dX8_isMet_45 : decode cX8_isMet 45 = .ok (.iload_n 1, 1) := by decide +kernel
theorem dX8_isMet_46 : decode cX8_isMet 46 = .ok (.iload 4, 2) := by decide +kernel
theorem dX8_isMet_48 : decode cX8_isMet 48 = .ok (.iload 5, 2) := by decide +kernel
theorem dX8_isMet_50 : decode cX8_isMet 50 = .ok (.aload_n 2, 1) := by decide +kernel
theorem dX8_isMet_51 : decode cX8_isMet 51 = .ok (.invokevirtual 378, 3) := by decide +kernel
theorem dX8_isMet_54 : decode cX8_isMet 54 = .ok (.ifCond .lt 7, 3) := by decide +kernel
theorem dX8_isMet_57 : decode cX8_isMet 57 = .ok (.iconst 1, 1) := by decide +kernel
theorem dX8_isMet_58 : decode cX8_isMet 58 = .ok (.goto 4, 3) := by decide +kernel
theorem dX8_isMet_61 : decode cX8_isMet 61 = .ok (.iconst 0, 1) := by decide +kernel
theorem dX8_isMet_62 : decode cX8_isMet 62 = .ok (.istore_n 3, 1) := by decide +kernel
theorem dX8_isMet_63 : decode cX8_isMet 63 = .ok (.iconst 0, 1) := by decide +kernel
theorem dX8_isMet_64 : decode cX8_isMet 64 = .ok (.istore 6, 2) := by decide +kernel
theorem dX8_isMet_66 : decode cX8_isMet 66 = .ok (.iload 6, 2) := by decide +kernel
theorem dX8_isMet_68 : decode cX8_isMet 68 = .ok (.aload_n 0, 1) := by decide +kernel
theorem dX8_isMet_69 : decode cX8_isMet 69 = .ok (.getfield 353, 3) := by decide +kernel
theorem dX8_isMet_72 : decode cX8_isMet 72 = .ok (.if_icmp .ge 54, 3) := by decide +kernel
theorem dX8_isMet_75 : decode cX8_isMet 75 = .ok (.iload_n 3, 1) := by decide +kernel
theorem dX8_isMet_76 : decode cX8_isMet 76 = .ok (.ifCond .eq 50, 3) := by decide +kernel
theorem dX8_isMet_79 : decode cX8_isMet 79 = .ok (.aload_n 0, 1) := by decide +kernel
theorem dX8_isMet_80 : decode cX8_isMet 80 = .ok (.getfield 63, 3) := by decide +kernel
theorem dX8_isMet_83 : decode cX8_isMet 83 = .ok (.iload 4, 2) := by decide +kernel
theorem dX8_isMet_85 : decode cX8_isMet 85 = .ok (.baload, 1) := by decide +kernel
theorem dX8_isMet_86 : decode cX8_isMet 86 = .ok (.ifCond .ne 40, 3) := by decide +kernel
theorem dX8_isMet_89 : decode cX8_isMet 89 = .ok (.iload 5, 2) := by decide +kernel
theorem dX8_isMet_91 : decode cX8_isMet 91 = .ok (.iload 6, 2) := by decide +kernel
theorem dX8_isMet_93 : decode cX8_isMet 93 = .ok (.ishr, 1) := by decide +kernel
theorem dX8_isMet_94 : decode cX8_isMet 94 = .ok (.iconst 1, 1) := by decide +kernel
theorem dX8_isMet_95 : decode cX8_isMet 95 = .ok (.iand, 1) := by decide +kernel
theorem dX8_isMet_96 : decode cX8_isMet 96 = .ok (.ifCond .eq 18, 3) := by decide +kernel
theorem dX8_isMet_99 : decode cX8_isMet 99 = .ok (.aload_n 0, 1) := by decide +kernel
theorem dX8_isMet_100 : decode cX8_isMet 100 = .ok (.iload_n 1, 1) := by decide +kernel
theorem dX8_isMet_101 : decode cX8_isMet 101 = .ok (.iload 4, 2) := by decide +kernel
theorem dX8_isMet_103 : decode cX8_isMet 103 = .ok (.iconst 1, 1) := by decide +kernel
theorem dX8_isMet_104 : decode cX8_isMet 104 = .ok (.iload 6, 2) := by decide +kernel
theorem dX8_isMet_106 : decode cX8_isMet 106 = .ok (.ishl, 1) := by decide +kernel
theorem dX8_isMet_107 : decode cX8_isMet 107 = .ok (.aload_n 2, 1) := by decide +kernel
theorem dX8_isMet_108 : decode cX8_isMet 108 = .ok (.invokevirtual 378, 3) := by decide +kernel
theorem dX8_isMet_111 : decode cX8_isMet 111 = .ok (.ifCond .lt 7, 3) := by decide +kernel
theorem dX8_isMet_114 : decode cX8_isMet 114 = .ok (.iconst 1, 1) := by decide +kernel
theorem dX8_isMet_115 : decode cX8_isMet 115 = .ok (.goto 4, 3) := by decide +kernel
theorem dX8_isMet_118 : decode cX8_isMet 118 = .ok (.iconst 0, 1) := by decide +kernel
theorem dX8_isMet_119 : decode cX8_isMet 119 = .ok (.istore_n 3, 1) := by decide +kernel
theorem dX8_isMet_120 : decode cX8_isMet 120 = .ok (.iinc 6 1, 3) := by decide +kernel
theorem dX8_isMet_123 : decode cX8_isMet 123 = .ok (.goto (-57), 3) := by decide +kernel
theorem dX8_isMet_126 : decode cX8_isMet 126 = .ok (.iinc 4 1, 3) := by decide +kernel
theorem dX8_isMet_129 : decode cX8_isMet 129 = .ok (.goto (-124), 3) := by decide +kernel
theorem dX8_isMet_132 : decode cX8_isMet 132 = .ok (.iload_n 3, 1) := by decide +kernel
theorem dX8_isMet_133 : decode cX8_isMet 133 = .ok (.ireturn, 1) := by decide +kernel
theorem dX8_sift_0 : decode cX8_sift 0 = .ok (.iconst 0, 1) := by decide +kernel
theorem dX8_sift_1 : decode cX8_sift 1 = .ok (.istore_n 3, 1) := by decide +kernel
theorem dX8_sift_2 : decode cX8_sift 2 = .ok (.iconst 0, 1) := by decide +kernel
theorem dX8_sift_3 : decode cX8_sift 3 = .ok (.istore 4, 2) := by decide +kernel
theorem dX8_sift_5 : decode cX8_sift 5 = .ok (.iload 4, 2) := by decide +kernel
theorem dX8_sift_7 : decode cX8_sift 7 = .ok (.aload_n 0, 1) := by decide +kernel
theorem dX8_sift_8 : decode cX8_sift 8 = .ok (.invokevirtual 368, 3) := by decide +kernel
theorem dX8_sift_11 : decode cX8_sift 11 = .ok (.if_icmp .ge 67, 3) := by decide +kernel
theorem dX8_sift_14 : decode cX8_sift 14 = .ok (.aload_n 0, 1) := by decide +kernel
theorem dX8_sift_15 : decode cX8_sift 15 = .ok (.getfield 117, 3) := by decide +kernel
theorem dX8_sift_18 : decode cX8_sift 18 = .ok (.iload 4, 2) := by decide +kernel
theorem dX8_sift_20 : decode cX8_sift 20 = .ok (.aload_n 0, 1) := by decide +kernel
theorem dX8_sift_21 : decode cX8_sift 21 = .ok (.iload 4, 2) := by decide +kernel
theorem dX8_sift_23 : decode cX8_sift 23 = .ok (.iload_n 1, 1) := by decide +kernel
theorem dX8_sift_24 : decode cX8_sift 24 = .ok (.invokevirtual 382, 3) := by decide +kernel
theorem dX8_sift_27 : decode cX8_sift 27 = .ok (.bastore, 1) := by decide +kernel
theorem dX8_sift_28 : decode cX8_sift 28 = .ok (.iload_n 3, 1) := by decide +kernel
theorem dX8_sift_29 : decode cX8_sift 29 = .ok (.aload_n 0, 1) := by decide +kernel
theorem dX8_sift_30 : decode cX8_sift 30 = .ok (.getfield 117, 3) := by decide +kernel
