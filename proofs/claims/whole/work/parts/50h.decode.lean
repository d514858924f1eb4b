theorem dX8_sift_33 : decode cX8_sift 33 = .ok (.iload 4, 2) := by decide +kernel
theorem dX8_sift_35 : decode cX8_sift 35 = .ok (.baload, 1) := by decide +kernel
theorem dX8_sift_36 : decode cX8_sift 36 = .ok (.ifCond .eq 7, 3) := by decide +kernel
theorem dX8_sift_39 : decode cX8_sift 39 = .ok (.iconst 1, 1) := by decide +kernel
theorem dX8_sift_40 : decode cX8_sift 40 = .ok (.goto 4, 3) := by decide +kernel
theorem dX8_sift_43 : decode cX8_sift 43 = .ok (.iconst 0, 1) := by decide +kernel
theorem dX8_sift_44 : decode cX8_sift 44 = .ok (.iadd, 1) := by decide +kernel
theorem dX8_sift_45 : decode cX8_sift 45 = .ok (.istore_n 3, 1) := by decide +kernel
theorem dX8_sift_46 : decode cX8_sift 46 = .ok (.iload_n 2, 1) := by decide +kernel
theorem dX8_sift_47 : decode cX8_sift 47 = .ok (.ifCond .eq 25, 3) := by decide +kernel
theorem dX8_sift_50 : decode cX8_sift 50 = .ok (.aload_n 0, 1) := by decide +kernel
theorem dX8_sift_51 : decode cX8_sift 51 = .ok (.getfield 114, 3) := by decide +kernel
theorem dX8_sift_54 : decode cX8_sift 54 = .ok (.iload 4, 2) := by decide +kernel
theorem dX8_sift_56 : decode cX8_sift 56 = .ok (.aload_n 0, 1) := by decide +kernel
theorem dX8_sift_57 : decode cX8_sift 57 = .ok (.getfield 117, 3) := by decide +kernel
theorem dX8_sift_60 : decode cX8_sift 60 = .ok (.iload 4, 2) := by decide +kernel
theorem dX8_sift_62 : decode cX8_sift 62 = .ok (.baload, 1) := by decide +kernel
theorem dX8_sift_63 : decode cX8_sift 63 = .ok (.ifCond .eq 7, 3) := by decide +kernel
theorem dX8_sift_66 : decode cX8_sift 66 = .ok (.iconst (-1), 1) := by decide +kernel
theorem dX8_sift_67 : decode cX8_sift 67 = .ok (.goto 4, 3) := by decide +kernel
theorem dX8_sift_70 : decode cX8_sift 70 = .ok (.iconst 0, 1) := by decide +kernel
theorem dX8_sift_71 : decode cX8_sift 71 = .ok (.iastore, 1) := by decide +kernel
theorem dX8_sift_72 : decode cX8_sift 72 = .ok (.iinc 4 1, 3) := by decide +kernel
theorem dX8_sift_75 : decode cX8_sift 75 = .ok (.goto (-70), 3) := by decide +kernel
theorem dX8_sift_78 : decode cX8_sift 78 = .ok (.iconst 0, 1) := by decide +kernel
theorem dX8_sift_79 : decode cX8_sift 79 = .ok (.istore 4, 2) := by decide +kernel
theorem dX8_sift_81 : decode cX8_sift 81 = .ok (.iconst 1, 1) := by decide +kernel
theorem dX8_sift_82 : decode cX8_sift 82 = .ok (.istore 5, 2) := by decide +kernel
theorem dX8_sift_84 : decode cX8_sift 84 = .ok (.iload 5, 2) := by decide +kernel
theorem dX8_sift_86 : decode cX8_sift 86 = .ok (.ifCond .eq 123, 3) := by decide +kernel
theorem dX8_sift_89 : decode cX8_sift 89 = .ok (.iconst 0, 1) := by decide +kernel
theorem dX8_sift_90 : decode cX8_sift 90 = .ok (.istore 5, 2) := by decide +kernel
theorem dX8_sift_92 : decode cX8_sift 92 = .ok (.iconst 0, 1) := by decide +kernel
theorem dX8_sift_93 : decode cX8_sift 93 = .ok (.istore 6, 2) := by decide +kernel
theorem dX8_sift_95 : decode cX8_sift 95 = .ok (.iload 6, 2) := by decide +kernel
theorem dX8_sift_97 : decode cX8_sift 97 = .ok (.aload_n 0, 1) := by decide +kernel
theorem dX8_sift_98 : decode cX8_sift 98 = .ok (.invokevirtual 368, 3) := by decide +kernel
theorem dX8_sift_101 : decode cX8_sift 101 = .ok (.if_icmp .ge 23, 3) := by decide +kernel
theorem dX8_sift_104 : decode cX8_sift 104 = .ok (.aload_n 0, 1) := by decide +kernel
theorem dX8_sift_105 : decode cX8_sift 105 = .ok (.getfield 120, 3) := by decide +kernel
theorem dX8_sift_108 : decode cX8_sift 108 = .ok (.iload 6, 2) := by decide +kernel
theorem dX8_sift_110 : decode cX8_sift 110 = .ok (.aload_n 0, 1) := by decide +kernel
theorem dX8_sift_111 : decode cX8_sift 111 = .ok (.getfield 117, 3) := by decide +kernel
theorem dX8_sift_114 : decode cX8_sift 114 = .ok (.iload 6, 2) := by decide +kernel
theorem dX8_sift_116 : decode cX8_sift 116 = .ok (.baload, 1) := by decide +kernel
theorem dX8_sift_117 : decode cX8_sift 117 = .ok (.bastore, 1) := by decide +kernel
theorem dX8_sift_118 : decode cX8_sift 118 = .ok (.iinc 6 1, 3) := by decide +kernel
theorem dX8_sift_121 : decode cX8_sift 121 = .ok (.goto (-26), 3) := by decide +kernel
theorem dX8_sift_124 : decode cX8_sift 124 = .ok (.iconst 0, 1) := by decide +kernel
theorem dX8_sift_125 : decode cX8_sift 125 = .ok (.istore 6, 2) := by decide +kernel
theorem dX8_sift_127 : decode cX8_sift 127 = .ok (.iload 6, 2) := by decide +kernel
theorem dX8_sift_129 : decode cX8_sift 129 = .ok (.aload_n 0, 1) := by decide +kernel
theorem dX8_sift_130 : decode cX8_sift 130 = .ok (.invokevirtual 368, 3) := by decide +kernel
theorem dX8_sift_133 : decode cX8_sift 133 = .ok (.if_icmp .ge 58, 3) := by decide +kernel
theorem dX8_sift_136 : decode cX8_sift 136 = .ok (.aload_n 0, 1) := by decide +kernel
theorem dX8_sift_137 : decode cX8_sift 137 = .ok (.getfield 120, 3) := by decide +kernel
theorem dX8_sift_140 : decode cX8_sift 140 = .ok (.iload 6, 2) := by decide +kernel
theorem dX8_sift_142 : decode cX8_sift 142 = .ok (.baload, 1) := by decide +kernel
theorem dX8_sift_143 : decode cX8_sift 143 = .ok (.ifCond .eq 42, 3) := by decide +kernel
theorem dX8_sift_146 : decode cX8_sift 146 = .ok (.aload_n 0, 1) := by decide +kernel
theorem dX8_sift_147 : decode cX8_sift 147 = .ok (.iload 6, 2) := by decide +kernel
theorem dX8_sift_149 : decode cX8_sift 149 = .ok (.aload_n 0, 1) := by decide +kernel
theorem dX8_sift_150 : decode cX8_sift 150 = .ok (.getfield 120, 3) := by decide +kernel
theorem dX8_sift_153 : decode cX8_sift 153 = .ok (.invokevirtual 385, 3) := by decide +kernel
theorem dX8_sift_156 : decode cX8_sift 156 = .ok (.ifCond .ne 29, 3) := by decide +kernel
theorem dX8_sift_159 : decode cX8_sift 159 = .ok (.aload_n 0, 1) := by decide +kernel
theorem dX8_sift_160 : decode cX8_sift 160 = .ok (.getfield 117, 3) := by decide +kernel
theorem dX8_sift_163 : decode cX8_sift 163 = .ok (.iload 6, 2) := by decide +kernel
theorem dX8_sift_165 : decode cX8_sift 165 = .ok (.iconst 0, 1) := by decide +kernel
theorem dX8_sift_166 : decode cX8_sift 166 = .ok (.bastore, 1) := by decide +kernel
theorem dX8_sift_167 : decode cX8_sift 167 = .ok (.iconst 1, 1) := by decide +kernel
theorem dX8_sift_168 : decode cX8_sift 168 = .ok (.istore 5, 2) := by decide +kernel
theorem dX8_sift_170 : decode cX8_sift 170 = .ok (.iload_n 2, 1) := by decide +kernel
theorem dX8_sift_171 : decode cX8_sift 171 = .ok (.ifCond .eq 14, 3) := by decide +kernel
theorem dX8_sift_174 : decode cX8_sift 174 = .ok (.aload_n 0, 1) := by decide +kernel
theorem dX8_sift_175 : decode cX8_sift 175 = .ok (.getfield 114, 3) := by decide +kernel
theorem dX8_sift_178 : decode cX8_sift 178 = .ok (.iload 6, 2) := by decide +kernel
theorem dX8_sift_180 : decode cX8_sift 180 = .ok (.iload 4, 2) := by decide +kernel
theorem dX8_sift_182 : decode cX8_sift 182 = .ok (.iconst 1, 1) := by decide +kernel
theorem dX8_sift_183 : decode cX8_sift 183 = .ok (.iadd, 1) := by decide +kernel
theorem dX8_sift_184 : decode cX8_sift 184 = .ok (.iastore, 1) := by decide +kernel
theorem dX8_sift_185 : decode cX8_sift 185 = .ok (.iinc 6 1, 3) := by decide +kernel
theorem dX8_sift_188 : decode cX8_sift 188 = .ok (.goto (-61), 3) := by decide +kernel
theorem dX8_sift_191 : decode cX8_sift 191 = .ok (.iload 4, 2) := by decide +kernel
theorem dX8_sift_193 : decode cX8_sift 193 = .ok (.iload 5, 2) := by decide +kernel
theorem dX8_sift_195 : decode cX8_sift 195 = .ok (.ifCond .eq 7, 3) := by decide +kernel
theorem dX8_sift_198 : decode cX8_sift 198 = .ok (.iconst 1, 1) := by decide +kernel
theorem dX8_sift_199 : decode cX8_sift 199 = .ok (.goto 4, 3) := by decide +kernel
theorem dX8_sift_202 : decode cX8_sift 202 = .ok (.iconst 0, 1) := by decide +kernel
theorem dX8_sift_203 : decode cX8_sift 203 = .ok (.iadd, 1) := by decide +kernel
theorem dX8_sift_204 : decode cX8_sift 204 = .ok (.istore 4, 2) := by decide +kernel
theorem dX8_sift_206 : decode cX8_sift 206 = .ok (.goto (-122), 3) := by decide +kernel
theorem dX8_sift_209 : decode cX8_sift 209 = .ok (.iload_n 2, 1) := by decide +kernel
theorem dX8_sift_210 : decode cX8_sift 210 = .ok (.ifCond .eq 14, 3) := by decide +kernel
theorem dX8_sift_213 : decode cX8_sift 213 = .ok (.aload_n 0, 1) := by decide +kernel
theorem dX8_sift_214 : decode cX8_sift 214 = .ok (.iload_n 3, 1) := by decide +kernel
theorem dX8_sift_215 : decode cX8_sift 215 = .ok (.putfield 389, 3) := by decide +kernel
theorem dX8_sift_218 : decode cX8_sift 218 = .ok (.aload_n 0, 1) := by decide +kernel
theorem dX8_sift_219 : decode cX8_sift 219 = .ok (.iload 4, 2) := by decide +kernel
theorem dX8_sift_221 : decode cX8_sift 221 = .ok (.putfield 392, 3) := by decide +kernel
theorem dX8_sift_224 : decode cX8_sift 224 = .ok (.return_, 1) := by decide +kernel
theorem dX8_workOut_0 : decode cX8_workOut 0 = .ok (.aload_n 0, 1) := by decide +kernel
theorem dX8_workOut_1 : decode cX8_workOut 1 = .ok (.invokevirtual 395, 3) := by decide +kernel
theorem dX8_workOut_4 : decode cX8_workOut 4 = .ok (.aload_n 0, 1) := by decide +kernel
theorem dX8_workOut_5 : decode cX8_workOut 5 = .ok (.iconst 0, 1) := by decide +kernel
theorem dX8_workOut_6 : decode cX8_workOut 6 = .ok (.iconst 1, 1) := by decide +kernel
theorem dX8_workOut_7 : decode cX8_workOut 7 = .ok (.invokevirtual 398, 3) := by decide +kernel
theorem dX8_workOut_10 : decode cX8_workOut 10 = .ok (.return_, 1) := by decide +kernel
theorem dX8_standing_0 : decode cX8_standing 0 = .ok (.iconst 0, 1) := by decide +kernel
theorem dX8_standing_1 : decode cX8_standing 1 = .ok (.istore_n 1, 1) := by decide +kernel
theorem dX8_standing_2 : decode cX8_standing 2 = .ok (.iconst 0, 1) := by decide +kernel
theorem dX8_standing_3 : decode cX8_standing 3 = .ok (.istore_n 2, 1) := by decide +kernel
theorem dX8_standing_4 : decode cX8_standing 4 = .ok (.iload_n 2, 1) := by decide +kernel
theorem dX8_standing_5 : decode cX8_standing 5 = .ok (.aload_n 0, 1) := by decide +kernel
theorem dX8_standing_6 : decode cX8_standing 6 = .ok (.invokevirtual 368, 3) := by decide +kernel
theorem dX8_standing_9 : decode cX8_standing 9 = .ok (.if_icmp .ge 26, 3) := by decide +kernel
theorem dX8_standing_12 : decode cX8_standing 12 = .ok (.iload_n 1, 1) := by decide +kernel
theorem dX8_standing_13 : decode cX8_standing 13 = .ok (.aload_n 0, 1) := by decide +kernel
theorem dX8_standing_14 : decode cX8_standing 14 = .ok (.getfield 117, 3) := by decide +kernel
theorem dX8_standing_17 : decode cX8_standing 17 = .ok (.iload_n 2, 1) := by decide +kernel
theorem dX8_standing_18 : decode cX8_standing 18 = .ok (.baload, 1) := by decide +kernel
theorem dX8_standing_19 : decode cX8_standing 19 = .ok (.ifCond .eq 7, 3) := by decide +kernel
theorem dX8_standing_22 : decode cX8_standing 22 = .ok (.iconst 1, 1) := by decide +kernel
theorem dX8_standing_23 : decode cX8_standing 23 = .ok (.goto 4, 3) := by decide +kernel
theorem dX8_standing_26 : decode cX8_standing 26 = .ok (.iconst 0, 1) := by decide +kernel
theorem dX8_standing_27 : decode cX8_standing 27 = .ok (.iadd, 1) := by decide +kernel
theorem dX8_standing_28 : decode cX8_standing 28 = .ok (.istore_n 1, 1) := by decide +kernel
theorem dX8_standing_29 : decode cX8_standing 29 = .ok (.iinc 2 1, 3) := by decide +kernel
theorem dX8_standing_32 : decode cX8_standing 32 = .ok (.goto (-28), 3) := by decide +kernel
theorem dX8_standing_35 : decode cX8_standing 35 = .ok (.iload_n 1, 1) := by decide +kernel
theorem dX8_standing_36 : decode cX8_standing 36 = .ok (.ireturn, 1) := by decide +kernel
theorem dX8_count_0 : decode cX8_count 0 = .ok (.iload_n 1, 1) := by decide +kernel
theorem dX8_count_1 : decode cX8_count 1 = .ok (.bipush 11, 2) := by decide +kernel
theorem dX8_count_3 : decode cX8_count 3 = .ok (.if_icmp .ne 8, 3) := by decide +kernel
theorem dX8_count_6 : decode cX8_count 6 = .ok (.aload_n 0, 1) := by decide +kernel
theorem dX8_count_7 : decode cX8_count 7 = .ok (.getfield 402, 3) := by decide +kernel
theorem dX8_count_10 : decode cX8_count 10 = .ok (.ireturn, 1) := by decide +kernel
theorem dX8_count_11 : decode cX8_count 11 = .ok (.aload_n 0, 1) := by decide +kernel
theorem dX8_count_12 : decode cX8_count 12 = .ok (.getfield 356, 3) := by decide +kernel
theorem dX8_count_15 : decode cX8_count 15 = .ok (.ifCond .ne 6, 3) := by decide +kernel
theorem dX8_count_18 : decode cX8_count 18 = .ok (.bipush (-101), 2) := by decide +kernel
theorem dX8_count_20 : decode cX8_count 20 = .ok (.ireturn, 1) := by decide +kernel
theorem dX8_count_21 : decode cX8_count 21 = .ok (.iload_n 1, 1) := by decide +kernel
theorem dX8_count_22 : decode cX8_count 22 = .ok (.tableswitch 113 0 10 #[58, 63, 68, 73, 78, 83, 88, 93, 98, 103, 108], 58) := by decide +kernel
theorem dX8_count_80 : decode cX8_count 80 = .ok (.aload_n 0, 1) := by decide +kernel
theorem dX8_count_81 : decode cX8_count 81 = .ok (.getfield 347, 3) := by decide +kernel
theorem dX8_count_84 : decode cX8_count 84 = .ok (.ireturn, 1) := by decide +kernel
theorem dX8_count_85 : decode cX8_count 85 = .ok (.aload_n 0, 1) := by decide +kernel
theorem dX8_count_86 : decode cX8_count 86 = .ok (.getfield 350, 3) := by decide +kernel
theorem dX8_count_89 : decode cX8_count 89 = .ok (.ireturn, 1) := by decide +kernel
theorem dX8_count_90 : decode cX8_count 90 = .ok (.aload_n 0, 1) := by decide +kernel
theorem dX8_count_91 : decode cX8_count 91 = .ok (.getfield 341, 3) := by decide +kernel
theorem dX8_count_94 : decode cX8_count 94 = .ok (.ireturn, 1) := by decide +kernel
theorem dX8_count_95 : decode cX8_count 95 = .ok (.aload_n 0, 1) := by decide +kernel
theorem dX8_count_96 : decode cX8_count 96 = .ok (.getfield 344, 3) := by decide +kernel
theorem dX8_count_99 : decode cX8_count 99 = .ok (.ireturn, 1) := by decide +kernel
theorem dX8_count_100 : decode cX8_count 100 = .ok (.aload_n 0, 1) := by decide +kernel
theorem dX8_count_101 : decode cX8_count 101 = .ok (.getfield 332, 3) := by decide +kernel
theorem dX8_count_104 : decode cX8_count 104 = .ok (.ireturn, 1) := by decide +kernel
theorem dX8_count_105 : decode cX8_count 105 = .ok (.aload_n 0, 1) := by decide +kernel
theorem dX8_count_106 : decode cX8_count 106 = .ok (.getfield 353, 3) := by decide +kernel
theorem dX8_count_109 : decode cX8_count 109 = .ok (.ireturn, 1) := by decide +kernel
theorem dX8_count_110 : decode cX8_count 110 = .ok (.aload_n 0, 1) := by decide +kernel
theorem dX8_count_111 : decode cX8_count 111 = .ok (.getfield 389, 3) := by decide +kernel
theorem dX8_count_114 : decode cX8_count 114 = .ok (.ireturn, 1) := by decide +kernel
theorem dX8_count_115 : decode cX8_count 115 = .ok (.aload_n 0, 1) := by decide +kernel
theorem dX8_count_116 : decode cX8_count 116 = .ok (.invokevirtual 405, 3) := by decide +kernel
theorem dX8_count_119 : decode cX8_count 119 = .ok (.ireturn, 1) := by decide +kernel
theorem dX8_count_120 : decode cX8_count 120 = .ok (.aload_n 0, 1) := by decide +kernel
theorem dX8_count_121 : decode cX8_count 121 = .ok (.getfield 392, 3) := by decide +kernel
theorem dX8_count_124 : decode cX8_count 124 = .ok (.ireturn, 1) := by decide +kernel
theorem dX8_count_125 : decode cX8_count 125 = .ok (.aload_n 0, 1) := by decide +kernel
theorem dX8_count_126 : decode cX8_count 126 = .ok (.getfield 359, 3) := by decide +kernel
theorem dX8_count_129 : decode cX8_count 129 = .ok (.ireturn, 1) := by decide +kernel
theorem dX8_count_130 : decode cX8_count 130 = .ok (.aload_n 0, 1) := by decide +kernel
theorem dX8_count_131 : decode cX8_count 131 = .ok (.getfield 362, 3) := by decide +kernel
theorem dX8_count_134 : decode cX8_count 134 = .ok (.ireturn, 1) := by decide +kernel
theorem dX8_count_135 : decode cX8_count 135 = .ok (.bipush (-103), 2) := by decide +kernel
theorem dX8_count_137 : decode cX8_count 137 = .ok (.ireturn, 1) := by decide +kernel
theorem dX8_atom_0 : decode cX8_atom 0 = .ok (.aload_n 0, 1) := by decide +kernel
theorem dX8_atom_1 : decode cX8_atom 1 = .ok (.getfield 356, 3) := by decide +kernel
theorem dX8_atom_4 : decode cX8_atom 4 = .ok (.ifCond .ne 6, 3) := by decide +kernel
theorem dX8_atom_7 : decode cX8_atom 7 = .ok (.bipush (-101), 2) := by decide +kernel
theorem dX8_atom_9 : decode cX8_atom 9 = .ok (.ireturn, 1) := by decide +kernel
theorem dX8_atom_10 : decode cX8_atom 10 = .ok (.iload_n 1, 1) := by decide +kernel
theorem dX8_atom_11 : decode cX8_atom 11 = .ok (.i2l, 1) := by decide +kernel
theorem dX8_atom_12 : decode cX8_atom 12 = .ok (.lconst 0, 1) := by decide +kernel
theorem dX8_atom_13 : decode cX8_atom 13 = .ok (.aload_n 0, 1) := by decide +kernel
theorem dX8_atom_14 : decode cX8_atom 14 = .ok (.getfield 353, 3) := by decide +kernel
theorem dX8_atom_17 : decode cX8_atom 17 = .ok (.iconst 1, 1) := by decide +kernel
theorem dX8_atom_18 : decode cX8_atom 18 = .ok (.isub, 1) := by decide +kernel
theorem dX8_atom_19 : decode cX8_atom 19 = .ok (.i2l, 1) := by decide +kernel
theorem dX8_atom_20 : decode cX8_atom 20 = .ok (.invokestatic 154, 3) := by decide +kernel
theorem dX8_atom_23 : decode cX8_atom 23 = .ok (.ifCond .ne 6, 3) := by decide +kernel
theorem dX8_atom_26 : decode cX8_atom 26 = .ok (.bipush (-102), 2) := by decide +kernel
theorem dX8_atom_28 : decode cX8_atom 28 = .ok (.ireturn, 1) := by decide +kernel
theorem dX8_atom_29 : decode cX8_atom 29 = .ok (.iload_n 2, 1) := by decide +kernel
theorem dX8_atom_30 : decode cX8_atom 30 = .ok (.ifCond .ne 12, 3) := by decide +kernel
theorem dX8_atom_33 : decode cX8_atom 33 = .ok (.aload_n 0, 1) := by decide +kernel
theorem dX8_atom_34 : decode cX8_atom 34 = .ok (.getfield 73, 3) := by decide +kernel
theorem dX8_atom_37 : decode cX8_atom 37 = .ok (.iload_n 1, 1) := by decide +kernel
theorem dX8_atom_38 : decode cX8_atom 38 = .ok (.iaload, 1) := by decide +kernel
theorem dX8_atom_39 : decode cX8_atom 39 = .ok (.goto 19, 3) := by decide +kernel
theorem dX8_atom_42 : decode cX8_atom 42 = .ok (.iload_n 2, 1) := by decide +kernel
theorem dX8_atom_43 : decode cX8_atom 43 = .ok (.iconst 1, 1) := by decide +kernel
theorem dX8_atom_44 : decode cX8_atom 44 = .ok (.if_icmp .ne 12, 3) := by decide +kernel
theorem dX8_atom_47 : decode cX8_atom 47 = .ok (.aload_n 0, 1) := by decide +kernel
theorem dX8_atom_48 : decode cX8_atom 48 = .ok (.getfield 76, 3) := by decide +kernel
theorem dX8_atom_51 : decode cX8_atom 51 = .ok (.iload_n 1, 1) := by decide +kernel
theorem dX8_atom_52 : decode cX8_atom 52 = .ok (.iaload, 1) := by decide +kernel
theorem dX8_atom_53 : decode cX8_atom 53 = .ok (.goto 5, 3) := by decide +kernel
theorem dX8_atom_56 : decode cX8_atom 56 = .ok (.bipush (-103), 2) := by decide +kernel
theorem dX8_atom_58 : decode cX8_atom 58 = .ok (.ireturn, 1) := by decide +kernel
theorem dX8_noType_0 : decode cX8_noType 0 = .ok (.iload_n 1, 1) := by decide +kernel
theorem dX8_noType_1 : decode cX8_noType 1 = .ok (.i2l, 1) := by decide +kernel
theorem dX8_noType_2 : decode cX8_noType 2 = .ok (.lconst 0, 1) := by decide +kernel
theorem dX8_noType_3 : decode cX8_noType 3 = .ok (.aload_n 0, 1) := by decide +kernel
theorem dX8_noType_4 : decode cX8_noType 4 = .ok (.invokevirtual 368, 3) := by decide +kernel
theorem dX8_noType_7 : decode cX8_noType 7 = .ok (.iconst 1, 1) := by decide +kernel
theorem dX8_noType_8 : decode cX8_noType 8 = .ok (.isub, 1) := by decide +kernel
theorem dX8_noType_9 : decode cX8_noType 9 = .ok (.i2l, 1) := by decide +kernel
theorem dX8_noType_10 : decode cX8_noType 10 = .ok (.invokestatic 154, 3) := by decide +kernel
theorem dX8_noType_13 : decode cX8_noType 13 = .ok (.ifCond .ne 7, 3) := by decide +kernel
theorem dX8_noType_16 : decode cX8_noType 16 = .ok (.iconst 1, 1) := by decide +kernel
theorem dX8_noType_17 : decode cX8_noType 17 = .ok (.goto 4, 3) := by decide +kernel
theorem dX8_noType_20 : decode cX8_noType 20 = .ok (.iconst 0, 1) := by decide +kernel
theorem dX8_noType_21 : decode cX8_noType 21 = .ok (.ireturn, 1) := by decide +kernel
theorem dX8_noQuestion_0 : decode cX8_noQuestion 0 = .ok (.iload_n 1, 1) := by decide +kernel
theorem dX8_noQuestion_1 : decode cX8_noQuestion 1 = .ok (.i2l, 1) := by decide +kernel
theorem dX8_noQuestion_2 : decode cX8_noQuestion 2 = .ok (.lconst 0, 1) := by decide +kernel
theorem dX8_noQuestion_3 : decode cX8_noQuestion 3 = .ok (.aload_n 0, 1) := by decide +kernel
theorem dX8_noQuestion_4 : decode cX8_noQuestion 4 = .ok (.getfield 344, 3) := by decide +kernel
theorem dX8_noQuestion_7 : decode cX8_noQuestion 7 = .ok (.iconst 1, 1) := by decide +kernel
theorem dX8_noQuestion_8 : decode cX8_noQuestion 8 = .ok (.isub, 1) := by decide +kernel
theorem dX8_noQuestion_9 : decode cX8_noQuestion 9 = .ok (.i2l, 1) := by decide +kernel
theorem dX8_noQuestion_10 : decode cX8_noQuestion 10 = .ok (.invokestatic 154, 3) := by decide +kernel
theorem dX8_noQuestion_13 : decode cX8_noQuestion 13 = .ok (.ifCond .ne 7, 3) := by decide +kernel
theorem dX8_noQuestion_16 : decode cX8_noQuestion 16 = .ok (.iconst 1, 1) := by decide +kernel
theorem dX8_noQuestion_17 : decode cX8_noQuestion 17 = .ok (.goto 4, 3) := by decide +kernel
theorem dX8_noQuestion_20 : decode cX8_noQuestion 20 = .ok (.iconst 0, 1) := by decide +kernel
theorem dX8_noQuestion_21 : decode cX8_noQuestion 21 = .ok (.ireturn, 1) := by decide +kernel
theorem dX8_noName_0 : decode cX8_noName 0 = .ok (.iload_n 1, 1) := by decide +kernel
theorem dX8_noName_1 : decode cX8_noName 1 = .ok (.i2l, 1) := by decide +kernel
theorem dX8_noName_2 : decode cX8_noName 2 = .ok (.lconst 0, 1) := by decide +kernel
theorem dX8_noName_3 : decode cX8_noName 3 = .ok (.aload_n 0, 1) := by decide +kernel
theorem dX8_noName_4 : decode cX8_noName 4 = .ok (.getfield 347, 3) := by decide +kernel
theorem dX8_noName_7 : decode cX8_noName 7 = .ok (.iconst 1, 1) := by decide +kernel
theorem dX8_noName_8 : decode cX8_noName 8 = .ok (.isub, 1) := by decide +kernel
theorem dX8_noName_9 : decode cX8_noName 9 = .ok (.i2l, 1) := by decide +kernel
theorem dX8_noName_10 : decode cX8_noName 10 = .ok (.invokestatic 154, 3) := by decide +kernel
theorem dX8_noName_13 : decode cX8_noName 13 = .ok (.ifCond .ne 7, 3) := by decide +kernel
theorem dX8_noName_16 : decode cX8_noName 16 = .ok (.iconst 1, 1) := by decide +kernel
theorem dX8_noName_17 : decode cX8_noName 17 = .ok (.goto 4, 3) := by decide +kernel
theorem dX8_noName_20 : decode cX8_noName 20 = .ok (.iconst 0, 1) := by decide +kernel
theorem dX8_noName_21 : decode cX8_noName 21 = .ok (.ireturn, 1) := by decide +kernel
theorem dX8_rank_0 : decode cX8_rank 0 = .ok (.aload_n 0, 1) := by decide +kernel
theorem dX8_rank_1 : decode cX8_rank 1 = .ok (.getfield 356, 3) := by decide +kernel
theorem dX8_rank_4 : decode cX8_rank 4 = .ok (.ifCond .ne 8, 3) := by decide +kernel
theorem dX8_rank_7 : decode cX8_rank 7 = .ok (.bipush (-101), 2) := by decide +kernel
theorem dX8_rank_9 : decode cX8_rank 9 = .ok (.goto 22, 3) := by decide +kernel
theorem dX8_rank_12 : decode cX8_rank 12 = .ok (.aload_n 0, 1) := by decide +kernel
theorem dX8_rank_13 : decode cX8_rank 13 = .ok (.iload_n 1, 1) := by decide +kernel
theorem dX8_rank_14 : decode cX8_rank 14 = .ok (.invokevirtual 408, 3) := by decide +kernel
theorem dX8_rank_17 : decode cX8_rank 17 = .ok (.ifCond .eq 8, 3) := by decide +kernel
theorem dX8_rank_20 : decode cX8_rank 20 = .ok (.bipush (-102), 2) := by decide +kernel
theorem dX8_rank_22 : decode cX8_rank 22 = .ok (.goto 9, 3) := by decide +kernel
theorem dX8_rank_25 : decode cX8_rank 25 = .ok (.aload_n 0, 1) := by decide +kernel
theorem dX8_rank_26 : decode cX8_rank 26 = .ok (.getfield 114, 3) := by decide +kernel
theorem dX8_rank_29 : decode cX8_rank 29 = .ok (.iload_n 1, 1) := by decide +kernel
theorem dX8_rank_30 : decode cX8_rank 30 = .ok (.iaload, 1) := by decide +kernel
theorem dX8_rank_31 : decode cX8_rank 31 = .ok (.ireturn, 1) := by decide +kernel
theorem dX8_goes_0 : decode cX8_goes 0 = .ok (.aload_n 0, 1) := by decide +kernel
theorem dX8_goes_1 : decode cX8_goes 1 = .ok (.getfield 356, 3) := by decide +kernel
theorem dX8_goes_4 : decode cX8_goes 4 = .ok (.ifCond .ne 6, 3) := by decide +kernel
theorem dX8_goes_7 : decode cX8_goes 7 = .ok (.bipush (-101), 2) := by decide +kernel
theorem dX8_goes_9 : decode cX8_goes 9 = .ok (.ireturn, 1) := by decide +kernel
theorem dX8_goes_10 : decode cX8_goes 10 = .ok (.aload_n 0, 1) := by decide +kernel
theorem dX8_goes_11 : decode cX8_goes 11 = .ok (.iload_n 1, 1) := by decide +kernel
theorem dX8_goes_12 : decode cX8_goes 12 = .ok (.invokevirtual 408, 3) := by decide +kernel
theorem dX8_goes_15 : decode cX8_goes 15 = .ok (.ifCond .ne 11, 3) := by decide +kernel
theorem dX8_goes_18 : decode cX8_goes 18 = .ok (.aload_n 0, 1) := by decide +kernel
theorem dX8_goes_19 : decode cX8_goes 19 = .ok (.iload_n 3, 1) := by decide +kernel
theorem dX8_goes_20 : decode cX8_goes 20 = .ok (.invokevirtual 408, 3) := by decide +kernel
theorem dX8_goes_23 : decode cX8_goes 23 = .ok (.ifCond .eq 6, 3) := by decide +kernel
theorem dX8_goes_26 : decode cX8_goes 26 = .ok (.bipush (-102), 2) := by decide +kernel
theorem dX8_goes_28 : decode cX8_goes 28 = .ok (.ireturn, 1) := by decide +kernel
theorem dX8_goes_29 : decode cX8_goes 29 = .ok (.iload_n 2, 1) := by decide +kernel
theorem dX8_goes_30 : decode cX8_goes 30 = .ok (.i2l, 1) := by decide +kernel
theorem dX8_goes_31 : decode cX8_goes 31 = .ok (.lconst 0, 1) := by decide +kernel
theorem dX8_goes_32 : decode cX8_goes 32 = .ok (.aload_n 0, 1) := by decide +kernel
theorem dX8_goes_33 : decode cX8_goes 33 = .ok (.getfield 350, 3) := by decide +kernel
theorem dX8_goes_36 : decode cX8_goes 36 = .ok (.iconst 1, 1) := by decide +kernel
theorem dX8_goes_37 : decode cX8_goes 37 = .ok (.isub, 1) := by decide +kernel
theorem dX8_goes_38 : decode cX8_goes 38 = .ok (.i2l, 1) := by decide +kernel
theorem dX8_goes_39 : decode cX8_goes 39 = .ok (.invokestatic 154, 3) := by decide +kernel
theorem dX8_goes_42 : decode cX8_goes 42 = .ok (.ifCond .ne 6, 3) := by decide +kernel
theorem dX8_goes_45 : decode cX8_goes 45 = .ok (.bipush (-103), 2) := by decide +kernel
theorem dX8_goes_47 : decode cX8_goes 47 = .ok (.ireturn, 1) := by decide +kernel
theorem dX8_goes_48 : decode cX8_goes 48 = .ok (.aload_n 0, 1) := by decide +kernel
theorem dX8_goes_49 : decode cX8_goes 49 = .ok (.iload_n 1, 1) := by decide +kernel
theorem dX8_goes_50 : decode cX8_goes 50 = .ok (.iload_n 2, 1) := by decide +kernel
theorem dX8_goes_51 : decode cX8_goes 51 = .ok (.iload_n 3, 1) := by decide +kernel
theorem dX8_goes_52 : decode cX8_goes 52 = .ok (.invokevirtual 374, 3) := by decide +kernel
theorem dX8_goes_55 : decode cX8_goes 55 = .ok (.ifCond .eq 7, 3) := by decide +kernel
theorem dX8_goes_58 : decode cX8_goes 58 = .ok (.iconst 1, 1) := by decide +kernel
theorem dX8_goes_59 : decode cX8_goes 59 = .ok (.goto 4, 3) := by decide +kernel
theorem dX8_goes_62 : decode cX8_goes 62 = .ok (.iconst 0, 1) := by decide +kernel
theorem dX8_goes_63 : decode cX8_goes 63 = .ok (.ireturn, 1) := by decide +kernel
theorem dX8_isAt_0 : decode cX8_isAt 0 = .ok (.aload_n 0, 1) := by decide +kernel
theorem dX8_isAt_1 : decode cX8_isAt 1 = .ok (.getfield 102, 3) := by decide +kernel
theorem dX8_isAt_4 : decode cX8_isAt 4 = .ok (.sipush 512, 3) := by decide +kernel
theorem dX8_isAt_7 : decode cX8_isAt 7 = .ok (.aload_n 0, 1) := by decide +kernel
theorem dX8_isAt_8 : decode cX8_isAt 8 = .ok (.getfield 48, 3) := by decide +kernel
theorem dX8_isAt_11 : decode cX8_isAt 11 = .ok (.iload_n 1, 1) := by decide +kernel
theorem dX8_isAt_12 : decode cX8_isAt 12 = .ok (.iaload, 1) := by decide +kernel
theorem dX8_isAt_13 : decode cX8_isAt 13 = .ok (.imul, 1) := by decide +kernel
theorem dX8_isAt_14 : decode cX8_isAt 14 = .ok (.iload_n 2, 1) := by decide +kernel
theorem dX8_isAt_15 : decode cX8_isAt 15 = .ok (.iadd, 1) := by decide +kernel
theorem dX8_isAt_16 : decode cX8_isAt 16 = .ok (.baload, 1) := by decide +kernel
theorem dX8_isAt_17 : decode cX8_isAt 17 = .ok (.ireturn, 1) := by decide +kernel
theorem dX8_at_0 : decode cX8_at 0 = .ok (.aload_n 0, 1) := by decide +kernel
theorem dX8_at_1 : decode cX8_at 1 = .ok (.getfield 356, 3) := by decide +kernel
theorem dX8_at_4 : decode cX8_at 4 = .ok (.ifCond .ne 6, 3) := by decide +kernel
theorem dX8_at_7 : decode cX8_at 7 = .ok (.bipush (-101), 2) := by decide +kernel
theorem dX8_at_9 : decode cX8_at 9 = .ok (.ireturn, 1) := by decide +kernel
theorem dX8_at_10 : decode cX8_at 10 = .ok (.aload_n 0, 1) := by decide +kernel
theorem dX8_at_11 : decode cX8_at 11 = .ok (.iload_n 1, 1) := by decide +kernel
theorem dX8_at_12 : decode cX8_at 12 = .ok (.invokevirtual 411, 3) := by decide +kernel
theorem dX8_at_15 : decode cX8_at 15 = .ok (.ifCond .ne 11, 3) := by decide +kernel
theorem dX8_at_18 : decode cX8_at 18 = .ok (.aload_n 0, 1) := by decide +kernel
theorem dX8_at_19 : decode cX8_at 19 = .ok (.iload_n 2, 1) := by decide +kernel
theorem dX8_at_20 : decode cX8_at 20 = .ok (.invokevirtual 408, 3) := by decide +kernel
theorem dX8_at_23 : decode cX8_at 23 = .ok (.ifCond .eq 8, 3) := by decide +kernel
theorem dX8_at_26 : decode cX8_at 26 = .ok (.bipush (-102), 2) := by decide +kernel
theorem dX8_at_28 : decode cX8_at 28 = .ok (.goto 17, 3) := by decide +kernel
theorem dX8_at_31 : decode cX8_at 31 = .ok (.aload_n 0, 1) := by decide +kernel
theorem dX8_at_32 : decode cX8_at 32 = .ok (.iload_n 1, 1) := by decide +kernel
theorem dX8_at_33 : decode cX8_at 33 = .ok (.iload_n 2, 1) := by decide +kernel
theorem dX8_at_34 : decode cX8_at 34 = .ok (.invokevirtual 414, 3) := by decide +kernel
theorem dX8_at_37 : decode cX8_at 37 = .ok (.ifCond .eq 7, 3) := by decide +kernel
theorem dX8_at_40 : decode cX8_at 40 = .ok (.iconst 1, 1) := by decide +kernel
theorem dX8_at_41 : decode cX8_at 41 = .ok (.goto 4, 3) := by decide +kernel
theorem dX8_at_44 : decode cX8_at 44 = .ok (.iconst 0, 1) := by decide +kernel
theorem dX8_at_45 : decode cX8_at 45 = .ok (.ireturn, 1) := by decide +kernel
theorem dX8_leastOf_0 : decode cX8_leastOf 0 = .ok (.iconst 0, 1) := by decide +kernel
theorem dX8_leastOf_1 : decode cX8_leastOf 1 = .ok (.istore_n 2, 1) := by decide +kernel
theorem dX8_leastOf_2 : decode cX8_leastOf 2 = .ok (.iload_n 2, 1) := by decide +kernel
theorem dX8_leastOf_3 : decode cX8_leastOf 3 = .ok (.aload_n 0, 1) := by decide +kernel
theorem dX8_leastOf_4 : decode cX8_leastOf 4 = .ok (.invokevirtual 368, 3) := by decide +kernel
theorem dX8_leastOf_7 : decode cX8_leastOf 7 = .ok (.if_icmp .ge 29, 3) := by decide +kernel
theorem dX8_leastOf_10 : decode cX8_leastOf 10 = .ok (.aload_n 0, 1) := by decide +kernel
theorem dX8_leastOf_11 : decode cX8_leastOf 11 = .ok (.getfield 117, 3) := by decide +kernel
theorem dX8_leastOf_14 : decode cX8_leastOf 14 = .ok (.iload_n 2, 1) := by decide +kernel
theorem dX8_leastOf_15 : decode cX8_leastOf 15 = .ok (.baload, 1) := by decide +kernel
theorem dX8_leastOf_16 : decode cX8_leastOf 16 = .ok (.ifCond .eq 14, 3) := by decide +kernel
theorem dX8_leastOf_19 : decode cX8_leastOf 19 = .ok (.aload_n 0, 1) := by decide +kernel
theorem dX8_leastOf_20 : decode cX8_leastOf 20 = .ok (.iload_n 1, 1) := by decide +kernel
theorem dX8_leastOf_21 : decode cX8_leastOf 21 = .ok (.iload_n 2, 1) := by decide +kernel
theorem dX8_leastOf_22 : decode cX8_leastOf 22 = .ok (.invokevirtual 414, 3) := by decide +kernel
theorem dX8_leastOf_25 : decode cX8_leastOf 25 = .ok (.ifCond .eq 5, 3) := by decide +kernel
theorem dX8_leastOf_28 : decode cX8_leastOf 28 = .ok (.iload_n 2, 1) := by decide +kernel
theorem dX8_leastOf_29 : decode cX8_leastOf 29 = .ok (.ireturn, 1) := by decide +kernel
theorem dX8_leastOf_30 : decode cX8_leastOf 30 = .ok (.iinc 2 1, 3) := by decide +kernel
theorem dX8_leastOf_33 : decode cX8_leastOf 33 = .ok (.goto (-31), 3) := by decide +kernel
theorem dX8_leastOf_36 : decode cX8_leastOf 36 = .ok (.iconst (-1), 1) := by decide +kernel
theorem dX8_leastOf_37 : decode cX8_leastOf 37 = .ok (.ireturn, 1) := by decide +kernel
theorem dX8_ask_0 : decode cX8_ask 0 = .ok (.aload_n 0, 1) := by decide +kernel
theorem dX8_ask_1 : decode cX8_ask 1 = .ok (.getfield 356, 3) := by decide +kernel
theorem dX8_ask_4 : decode cX8_ask 4 = .ok (.ifCond .ne 6, 3) := by decide +kernel
theorem dX8_ask_7 : decode cX8_ask 7 = .ok (.bipush (-101), 2) := by decide +kernel
theorem dX8_ask_9 : decode cX8_ask 9 = .ok (.ireturn, 1) := by decide +kernel
theorem dX8_ask_10 : decode cX8_ask 10 = .ok (.aload_n 0, 1) := by decide +kernel
theorem dX8_ask_11 : decode cX8_ask 11 = .ok (.iload_n 1, 1) := by decide +kernel
theorem dX8_ask_12 : decode cX8_ask 12 = .ok (.invokevirtual 411, 3) := by decide +kernel
theorem dX8_ask_15 : decode cX8_ask 15 = .ok (.ifCond .eq 8, 3) := by decide +kernel
theorem dX8_ask_18 : decode cX8_ask 18 = .ok (.bipush (-102), 2) := by decide +kernel
theorem dX8_ask_20 : decode cX8_ask 20 = .ok (.goto 16, 3) := by decide +kernel
theorem dX8_ask_23 : decode cX8_ask 23 = .ok (.aload_n 0, 1) := by decide +kernel
theorem dX8_ask_24 : decode cX8_ask 24 = .ok (.iload_n 1, 1) := by decide +kernel
theorem dX8_ask_25 : decode cX8_ask 25 = .ok (.invokevirtual 417, 3) := by decide +kernel
theorem dX8_ask_28 : decode cX8_ask 28 = .ok (.ifCond .lt 7, 3) := by decide +kernel
theorem dX8_ask_31 : decode cX8_ask 31 = .ok (.iconst 1, 1) := by decide +kernel
theorem dX8_ask_32 : decode cX8_ask 32 = .ok (.goto 4, 3) := by decide +kernel
theorem dX8_ask_35 : decode cX8_ask 35 = .ok (.iconst 0, 1) := by decide +kernel
theorem dX8_ask_36 : decode cX8_ask 36 = .ok (.ireturn, 1) := by decide +kernel
theorem dX8_atomOfName_0 : decode cX8_atomOfName 0 = .ok (.iconst 0, 1) := by decide +kernel
theorem dX8_atomOfName_1 : decode cX8_atomOfName 1 = .ok (.istore_n 2, 1) := by decide +kernel
theorem dX8_atomOfName_2 : decode cX8_atomOfName 2 = .ok (.aload_n 0, 1) := by decide +kernel
theorem dX8_atomOfName_3 : decode cX8_atomOfName 3 = .ok (.getfield 76, 3) := by decide +kernel
theorem dX8_atomOfName_6 : decode cX8_atomOfName 6 = .ok (.iload_n 2, 1) := by decide +kernel
theorem dX8_atomOfName_7 : decode cX8_atomOfName 7 = .ok (.iaload, 1) := by decide +kernel
theorem dX8_atomOfName_8 : decode cX8_atomOfName 8 = .ok (.iload_n 1, 1) := by decide +kernel
theorem dX8_atomOfName_9 : decode cX8_atomOfName 9 = .ok (.if_icmp .eq 9, 3) := by decide +kernel
theorem dX8_atomOfName_12 : decode cX8_atomOfName 12 = .ok (.iinc 2 1, 3) := by decide +kernel
theorem dX8_atomOfName_15 : decode cX8_atomOfName 15 = .ok (.goto (-13), 3) := by decide +kernel
theorem dX8_atomOfName_18 : decode cX8_atomOfName 18 = .ok (.iload_n 2, 1) := by decide +kernel
theorem dX8_atomOfName_19 : decode cX8_atomOfName 19 = .ok (.ireturn, 1) := by decide +kernel
theorem dX8_lies_0 : decode cX8_lies 0 = .ok (.aload_n 0, 1) := by decide +kernel
theorem dX8_lies_1 : decode cX8_lies 1 = .ok (.iload_n 1, 1) := by decide +kernel
theorem dX8_lies_2 : decode cX8_lies 2 = .ok (.invokevirtual 420, 3) := by decide +kernel
theorem dX8_lies_5 : decode cX8_lies 5 = .ok (.istore_n 3, 1) := by decide +kernel
theorem dX8_lies_6 : decode cX8_lies 6 = .ok (.aload_n 0, 1) := by decide +kernel
theorem dX8_lies_7 : decode cX8_lies 7 = .ok (.iload_n 2, 1) := by decide +kernel
theorem dX8_lies_8 : decode cX8_lies 8 = .ok (.invokevirtual 420, 3) := by decide +kernel
theorem dX8_lies_11 : decode cX8_lies 11 = .ok (.istore 4, 2) := by decide +kernel
theorem dX8_lies_13 : decode cX8_lies 13 = .ok (.iconst 1, 1) := by decide +kernel
theorem dX8_lies_14 : decode cX8_lies 14 = .ok (.istore 5, 2) := by decide +kernel
theorem dX8_lies_16 : decode cX8_lies 16 = .ok (.iconst 0, 1) := by decide +kernel
theorem dX8_lies_17 : decode cX8_lies 17 = .ok (.istore 6, 2) := by decide +kernel
theorem dX8_lies_19 : decode cX8_lies 19 = .ok (.iload 6, 2) := by decide +kernel
theorem dX8_lies_21 : decode cX8_lies 21 = .ok (.aload_n 0, 1) := by decide +kernel
theorem dX8_lies_22 : decode cX8_lies 22 = .ok (.invokevirtual 368, 3) := by decide +kernel
theorem dX8_lies_25 : decode cX8_lies 25 = .ok (.if_icmp .ge 51, 3) := by decide +kernel
theorem dX8_lies_28 : decode cX8_lies 28 = .ok (.iload 5, 2) := by decide +kernel
theorem dX8_lies_30 : decode cX8_lies 30 = .ok (.ifCond .eq 37, 3) := by decide +kernel
theorem dX8_lies_33 : decode cX8_lies 33 = .ok (.aload_n 0, 1) := by decide +kernel
theorem dX8_lies_34 : decode cX8_lies 34 = .ok (.getfield 117, 3) := by decide +kernel
theorem dX8_lies_37 : decode cX8_lies 37 = .ok (.iload 6, 2) := by decide +kernel
theorem dX8_lies_39 : decode cX8_lies 39 = .ok (.baload, 1) := by decide +kernel
theorem dX8_lies_40 : decode cX8_lies 40 = .ok (.ifCond .eq 23, 3) := by decide +kernel
theorem dX8_lies_43 : decode cX8_lies 43 = .ok (.iload 6, 2) := by decide +kernel
theorem dX8_lies_45 : decode cX8_lies 45 = .ok (.iload_n 3, 1) := by decide +kernel
theorem dX8_lies_46 : decode cX8_lies 46 = .ok (.ishr, 1) := by decide +kernel
theorem dX8_lies_47 : decode cX8_lies 47 = .ok (.iconst 1, 1) := by decide +kernel
theorem dX8_lies_48 : decode cX8_lies 48 = .ok (.iand, 1) := by decide +kernel
theorem dX8_lies_49 : decode cX8_lies 49 = .ok (.ifCond .eq 14, 3) := by decide +kernel
theorem dX8_lies_52 : decode cX8_lies 52 = .ok (.iload 6, 2) := by decide +kernel
theorem dX8_lies_54 : decode cX8_lies 54 = .ok (.iload 4, 2) := by decide +kernel
theorem dX8_lies_56 : decode cX8_lies 56 = .ok (.ishr, 1) := by decide +kernel
theorem dX8_lies_57 : decode cX8_lies 57 = .ok (.iconst 1, 1) := by decide +kernel
theorem dX8_lies_58 : decode cX8_lies 58 = .ok (.iand, 1) := by decide +kernel
theorem dX8_lies_59 : decode cX8_lies 59 = .ok (.iconst 1, 1) := by decide +kernel
theorem dX8_lies_60 : decode cX8_lies 60 = .ok (.if_icmp .ne 7, 3) := by decide +kernel
theorem dX8_lies_63 : decode cX8_lies 63 = .ok (.iconst 1, 1) := by decide +kernel
theorem dX8_lies_64 : decode cX8_lies 64 = .ok (.goto 4, 3) := by decide +kernel
theorem dX8_lies_67 : decode cX8_lies 67 = .ok (.iconst 0, 1) := by decide +kernel
theorem dX8_lies_68 : decode cX8_lies 68 = .ok (.istore 5, 2) := by decide +kernel
theorem dX8_lies_70 : decode cX8_lies 70 = .ok (.iinc 6 1, 3) := by decide +kernel
theorem dX8_lies_73 : decode cX8_lies 73 = .ok (.goto (-54), 3) := by decide +kernel
theorem dX8_lies_76 : decode cX8_lies 76 = .ok (.iload 5, 2) := by decide +kernel
theorem dX8_lies_78 : decode cX8_lies 78 = .ok (.ireturn, 1) := by decide +kernel
theorem dX8_isUnder_0 : decode cX8_isUnder 0 = .ok (.aload_n 0, 1) := by decide +kernel
theorem dX8_isUnder_1 : decode cX8_isUnder 1 = .ok (.getfield 356, 3) := by decide +kernel
theorem dX8_isUnder_4 : decode cX8_isUnder 4 = .ok (.ifCond .ne 6, 3) := by decide +kernel
theorem dX8_isUnder_7 : decode cX8_isUnder 7 = .ok (.bipush (-101), 2) := by decide +kernel
theorem dX8_isUnder_9 : decode cX8_isUnder 9 = .ok (.ireturn, 1) := by decide +kernel
theorem dX8_isUnder_10 : decode cX8_isUnder 10 = .ok (.aload_n 0, 1) := by decide +kernel
theorem dX8_isUnder_11 : decode cX8_isUnder 11 = .ok (.iload_n 1, 1) := by decide +kernel
theorem dX8_isUnder_12 : decode cX8_isUnder 12 = .ok (.invokevirtual 423, 3) := by decide +kernel
theorem dX8_isUnder_15 : decode cX8_isUnder 15 = .ok (.ifCond .ne 11, 3) := by decide +kernel
theorem dX8_isUnder_18 : decode cX8_isUnder 18 = .ok (.aload_n 0, 1) := by decide +kernel
theorem dX8_isUnder_19 : decode cX8_isUnder 19 = .ok (.iload_n 2, 1) := by decide +kernel
theorem dX8_isUnder_20 : decode cX8_isUnder 20 = .ok (.invokevirtual 423, 3) := by decide +kernel
theorem dX8_isUnder_23 : decode cX8_isUnder 23 = .ok (.ifCond .eq 8, 3) := by decide +kernel
theorem dX8_isUnder_26 : decode cX8_isUnder 26 = .ok (.bipush (-102), 2) := by decide +kernel
theorem dX8_isUnder_28 : decode cX8_isUnder 28 = .ok (.goto 17, 3) := by decide +kernel
theorem dX8_isUnder_31 : decode cX8_isUnder 31 = .ok (.aload_n 0, 1) := by decide +kernel
theorem dX8_isUnder_32 : decode cX8_isUnder 32 = .ok (.iload_n 1, 1) := by decide +kernel
theorem dX8_isUnder_33 : decode cX8_isUnder 33 = .ok (.iload_n 2, 1) := by decide +kernel
theorem dX8_isUnder_34 : decode cX8_isUnder 34 = .ok (.invokevirtual 426, 3) := by decide +kernel
theorem dX8_isUnder_37 : decode cX8_isUnder 37 = .ok (.ifCond .eq 7, 3) := by decide +kernel
theorem dX8_isUnder_40 : decode cX8_isUnder 40 = .ok (.iconst 1, 1) := by decide +kernel
theorem dX8_isUnder_41 : decode cX8_isUnder 41 = .ok (.goto 4, 3) := by decide +kernel
theorem dX8_isUnder_44 : decode cX8_isUnder 44 = .ok (.iconst 0, 1) := by decide +kernel
theorem dX8_isUnder_45 : decode cX8_isUnder 45 = .ok (.ireturn, 1) := by decide +kernel
theorem dX8_isAbove_0 : decode cX8_isAbove 0 = .ok (.aload_n 0, 1) := by decide +kernel
theorem dX8_isAbove_1 : decode cX8_isAbove 1 = .ok (.iload_n 1, 1) := by decide +kernel
theorem dX8_isAbove_2 : decode cX8_isAbove 2 = .ok (.iload_n 2, 1) := by decide +kernel
theorem dX8_isAbove_3 : decode cX8_isAbove 3 = .ok (.invokevirtual 426, 3) := by decide +kernel
theorem dX8_isAbove_6 : decode cX8_isAbove 6 = .ok (.ifCond .eq 16, 3) := by decide +kernel
theorem dX8_isAbove_9 : decode cX8_isAbove 9 = .ok (.aload_n 0, 1) := by decide +kernel
theorem dX8_isAbove_10 : decode cX8_isAbove 10 = .ok (.iload_n 2, 1) := by decide +kernel
theorem dX8_isAbove_11 : decode cX8_isAbove 11 = .ok (.iload_n 1, 1) := by decide +kernel
theorem dX8_isAbove_12 : decode cX8_isAbove 12 = .ok (.invokevirtual 426, 3) := by decide +kernel
theorem dX8_isAbove_15 : decode cX8_isAbove 15 = .ok (.ifCond .ne 7, 3) := by decide +kernel
theorem dX8_isAbove_18 : decode cX8_isAbove 18 = .ok (.iconst 1, 1) := by decide +kernel
theorem dX8_isAbove_19 : decode cX8_isAbove 19 = .ok (.goto 4, 3) := by decide +kernel
theorem dX8_isAbove_22 : decode cX8_isAbove 22 = .ok (.iconst 0, 1) := by decide +kernel
theorem dX8_isAbove_23 : decode cX8_isAbove 23 = .ok (.ireturn, 1) := by decide +kernel
theorem dX8_next__0 : decode cX8_next_ 0 = .ok (.aload_n 0, 1) := by decide +kernel
theorem dX8_next__1 : decode cX8_next_ 1 = .ok (.getfield 356, 3) := by decide +kernel
theorem dX8_next__4 : decode cX8_next_ 4 = .ok (.ifCond .ne 6, 3) := by decide +kernel
theorem dX8_next__7 : decode cX8_next_ 7 = .ok (.bipush (-101), 2) := by decide +kernel
theorem dX8_next__9 : decode cX8_next_ 9 = .ok (.ireturn, 1) := by decide +kernel
theorem dX8_next__10 : decode cX8_next_ 10 = .ok (.aload_n 0, 1) := by decide +kernel
theorem dX8_next__11 : decode cX8_next_ 11 = .ok (.iload_n 1, 1) := by decide +kernel
theorem dX8_next__12 : decode cX8_next_ 12 = .ok (.invokevirtual 423, 3) := by decide +kernel
theorem dX8_next__15 : decode cX8_next_ 15 = .ok (.ifCond .eq 6, 3) := by decide +kernel
theorem dX8_next__18 : decode cX8_next_ 18 = .ok (.bipush (-102), 2) := by decide +kernel
theorem dX8_next__20 : decode cX8_next_ 20 = .ok (.ireturn, 1) := by decide +kernel
theorem dX8_next__21 : decode cX8_next_ 21 = .ok (.iload_n 2, 1) := by decide +kernel
theorem dX8_next__22 : decode cX8_next_ 22 = .ok (.istore_n 3, 1) := by decide +kernel
theorem dX8_next__23 : decode cX8_next_ 23 = .ok (.iconst 0, 1) := by decide +kernel
theorem dX8_next__24 : decode cX8_next_ 24 = .ok (.istore 4, 2) := by decide +kernel
theorem dX8_next__26 : decode cX8_next_ 26 = .ok (.iload 4, 2) := by decide +kernel
theorem dX8_next__28 : decode cX8_next_ 28 = .ok (.aload_n 0, 1) := by decide +kernel
theorem dX8_next__29 : decode cX8_next_ 29 = .ok (.getfield 347, 3) := by decide +kernel
theorem dX8_next__32 : decode cX8_next_ 32 = .ok (.if_icmp .ge 84, 3) := by decide +kernel
theorem dX8_next__35 : decode cX8_next_ 35 = .ok (.aload_n 0, 1) := by decide +kernel
theorem dX8_next__36 : decode cX8_next_ 36 = .ok (.iload_n 1, 1) := by decide +kernel
theorem dX8_next__37 : decode cX8_next_ 37 = .ok (.iload 4, 2) := by decide +kernel
theorem dX8_next__39 : decode cX8_next_ 39 = .ok (.invokevirtual 429, 3) := by decide +kernel
theorem dX8_next__42 : decode cX8_next_ 42 = .ok (.istore 5, 2) := by decide +kernel
theorem dX8_next__44 : decode cX8_next_ 44 = .ok (.iconst 0, 1) := by decide +kernel
theorem dX8_next__45 : decode cX8_next_ 45 = .ok (.istore 6, 2) := by decide +kernel
theorem dX8_next__47 : decode cX8_next_ 47 = .ok (.iload 6, 2) := by decide +kernel
theorem dX8_next__49 : decode cX8_next_ 49 = .ok (.aload_n 0, 1) := by decide +kernel
theorem dX8_next__50 : decode cX8_next_ 50 = .ok (.getfield 347, 3) := by decide +kernel
theorem dX8_next__53 : decode cX8_next_ 53 = .ok (.if_icmp .ge 42, 3) := by decide +kernel
theorem dX8_next__56 : decode cX8_next_ 56 = .ok (.iload 5, 2) := by decide +kernel
theorem dX8_next__58 : decode cX8_next_ 58 = .ok (.ifCond .eq 37, 3) := by decide +kernel
theorem dX8_next__61 : decode cX8_next_ 61 = .ok (.aload_n 0, 1) := by decide +kernel
theorem dX8_next__62 : decode cX8_next_ 62 = .ok (.iload_n 1, 1) := by decide +kernel
theorem dX8_next__63 : decode cX8_next_ 63 = .ok (.iload 6, 2) := by decide +kernel
theorem dX8_next__65 : decode cX8_next_ 65 = .ok (.invokevirtual 429, 3) := by decide +kernel
theorem dX8_next__68 : decode cX8_next_ 68 = .ok (.ifCond .eq 14, 3) := by decide +kernel
theorem dX8_next__71 : decode cX8_next_ 71 = .ok (.aload_n 0, 1) := by decide +kernel
theorem dX8_next__72 : decode cX8_next_ 72 = .ok (.iload 6, 2) := by decide +kernel
theorem dX8_next__74 : decode cX8_next_ 74 = .ok (.iload 4, 2) := by decide +kernel
theorem dX8_next__76 : decode cX8_next_ 76 = .ok (.invokevirtual 429, 3) := by decide +kernel
theorem dX8_next__79 : decode cX8_next_ 79 = .ok (.ifCond .ne 7, 3) := by decide +kernel
theorem dX8_next__82 : decode cX8_next_ 82 = .ok (.iconst 1, 1) := by decide +kernel
theorem dX8_next__83 : decode cX8_next_ 83 = .ok (.goto 4, 3) := by decide +kernel
theorem dX8_next__86 : decode cX8_next_ 86 = .ok (.iconst 0, 1) := by decide +kernel
theorem dX8_next__87 : decode cX8_next_ 87 = .ok (.istore 5, 2) := by decide +kernel
theorem dX8_next__89 : decode cX8_next_ 89 = .ok (.iinc 6 1, 3) := by decide +kernel
theorem dX8_next__92 : decode cX8_next_ 92 = .ok (.goto (-45), 3) := by decide +kernel
theorem dX8_next__95 : decode cX8_next_ 95 = .ok (.iload 5, 2) := by decide +kernel
theorem dX8_next__97 : decode cX8_next_ 97 = .ok (.ifCond .eq 13, 3) := by decide +kernel
theorem dX8_next__100 : decode cX8_next_ 100 = .ok (.iload_n 3, 1) := by decide +kernel
theorem dX8_next__101 : decode cX8_next_ 101 = .ok (.ifCond .ne 6, 3) := by decide +kernel
theorem dX8_next__104 : decode cX8_next_ 104 = .ok (.iload 4, 2) := by decide +kernel
theorem dX8_next__106 : decode cX8_next_ 106 = .ok (.ireturn, 1) := by decide +kernel
theorem dX8_next__107 : decode cX8_next_ 107 = .ok (.iinc 3 (-1), 3) := by decide +kernel
theorem dX8_next__110 : decode cX8_next_ 110 = .ok (.iinc 4 1, 3) := by decide +kernel
theorem dX8_next__113 : decode cX8_next_ 113 = .ok (.goto (-87), 3) := by decide +kernel
theorem dX8_next__116 : decode cX8_next_ 116 = .ok (.iconst (-1), 1) := by decide +kernel
theorem dX8_next__117 : decode cX8_next_ 117 = .ok (.ireturn, 1) := by decide +kernel
theorem dX8_thingOf_0 : decode cX8_thingOf 0 = .ok (.iconst 0, 1) := by decide +kernel
theorem dX8_thingOf_1 : decode cX8_thingOf 1 = .ok (.istore_n 2, 1) := by decide +kernel
theorem dX8_thingOf_2 : decode cX8_thingOf 2 = .ok (.iload_n 2, 1) := by decide +kernel
theorem dX8_thingOf_3 : decode cX8_thingOf 3 = .ok (.aload_n 0, 1) := by decide +kernel
theorem dX8_thingOf_4 : decode cX8_thingOf 4 = .ok (.getfield 359, 3) := by decide +kernel
theorem dX8_thingOf_7 : decode cX8_thingOf 7 = .ok (.if_icmp .ge 21, 3) := by decide +kernel
theorem dX8_thingOf_10 : decode cX8_thingOf 10 = .ok (.aload_n 0, 1) := by decide +kernel
theorem dX8_thingOf_11 : decode cX8_thingOf 11 = .ok (.getfield 123, 3) := by decide +kernel
theorem dX8_thingOf_14 : decode cX8_thingOf 14 = .ok (.iload_n 2, 1) := by decide +kernel
theorem dX8_thingOf_15 : decode cX8_thingOf 15 = .ok (.iaload, 1) := by decide +kernel
theorem dX8_thingOf_16 : decode cX8_thingOf 16 = .ok (.iload_n 1, 1) := by decide +kernel
theorem dX8_thingOf_17 : decode cX8_thingOf 17 = .ok (.if_icmp .ne 5, 3) := by decide +kernel
theorem dX8_thingOf_20 : decode cX8_thingOf 20 = .ok (.iload_n 2, 1) := by decide +kernel
theorem dX8_thingOf_21 : decode cX8_thingOf 21 = .ok (.ireturn, 1) := by decide +kernel
theorem dX8_thingOf_22 : decode cX8_thingOf 22 = .ok (.iinc 2 1, 3) := by decide +kernel
theorem dX8_thingOf_25 : decode cX8_thingOf 25 = .ok (.goto (-23), 3) := by decide +kernel
theorem dX8_thingOf_28 : decode cX8_thingOf 28 = .ok (.aload_n 0, 1) := by decide +kernel
theorem dX8_thingOf_29 : decode cX8_thingOf 29 = .ok (.getfield 123, 3) := by decide +kernel
theorem dX8_thingOf_32 : decode cX8_thingOf 32 = .ok (.aload_n 0, 1) := by decide +kernel
theorem dX8_thingOf_33 : decode cX8_thingOf 33 = .ok (.getfield 359, 3) := by decide +kernel
theorem dX8_thingOf_36 : decode cX8_thingOf 36 = .ok (.iload_n 1, 1) := by decide +kernel
theorem dX8_thingOf_37 : decode cX8_thingOf 37 = .ok (.iastore, 1) := by decide +kernel
theorem dX8_thingOf_38 : decode cX8_thingOf 38 = .ok (.aload_n 0, 1) := by decide +kernel
theorem dX8_thingOf_39 : decode cX8_thingOf 39 = .ok (.dup, 1) := by decide +kernel
theorem dX8_thingOf_40 : decode cX8_thingOf 40 = .ok (.getfield 359, 3) := by decide +kernel
theorem dX8_thingOf_43 : decode cX8_thingOf 43 = .ok (.iconst 1, 1) := by decide +kernel
theorem dX8_thingOf_44 : decode cX8_thingOf 44 = .ok (.iadd, 1) := by decide +kernel
theorem dX8_thingOf_45 : decode cX8_thingOf 45 = .ok (.putfield 359, 3) := by decide +kernel
theorem dX8_thingOf_48 : decode cX8_thingOf 48 = .ok (.aload_n 0, 1) := by decide +kernel
theorem dX8_thingOf_49 : decode cX8_thingOf 49 = .ok (.getfield 359, 3) := by decide +kernel
theorem dX8_thingOf_52 : decode cX8_thingOf 52 = .ok (.iconst 1, 1) := by decide +kernel
theorem dX8_thingOf_53 : decode cX8_thingOf 53 = .ok (.isub, 1) := by decide +kernel
theorem dX8_thingOf_54 : decode cX8_thingOf 54 = .ok (.ireturn, 1) := by decide +kernel
theorem dX8_addEdge_0 : decode cX8_addEdge 0 = .ok (.aload_n 0, 1) := by decide +kernel
theorem dX8_addEdge_1 : decode cX8_addEdge 1 = .ok (.aload_n 0, 1) := by decide +kernel
theorem dX8_addEdge_2 : decode cX8_addEdge 2 = .ok (.aload_n 0, 1) := by decide +kernel
theorem dX8_addEdge_3 : decode cX8_addEdge 3 = .ok (.getfield 123, 3) := by decide +kernel
theorem dX8_addEdge_6 : decode cX8_addEdge 6 = .ok (.iload_n 1, 1) := by decide +kernel
theorem dX8_addEdge_7 : decode cX8_addEdge 7 = .ok (.iaload, 1) := by decide +kernel
theorem dX8_addEdge_8 : decode cX8_addEdge 8 = .ok (.iload_n 2, 1) := by decide +kernel
theorem dX8_addEdge_9 : decode cX8_addEdge 9 = .ok (.iload_n 3, 1) := by decide +kernel
theorem dX8_addEdge_10 : decode cX8_addEdge 10 = .ok (.aload_n 0, 1) := by decide +kernel
theorem dX8_addEdge_11 : decode cX8_addEdge 11 = .ok (.getfield 117, 3) := by decide +kernel
theorem dX8_addEdge_14 : decode cX8_addEdge 14 = .ok (.invokevirtual 378, 3) := by decide +kernel
theorem dX8_addEdge_17 : decode cX8_addEdge 17 = .ok (.invokevirtual 432, 3) := by decide +kernel
theorem dX8_addEdge_20 : decode cX8_addEdge 20 = .ok (.istore 4, 2) := by decide +kernel
theorem dX8_addEdge_22 : decode cX8_addEdge 22 = .ok (.aload_n 0, 1) := by decide +kernel
theorem dX8_addEdge_23 : decode cX8_addEdge 23 = .ok (.getfield 126, 3) := by decide +kernel
theorem dX8_addEdge_26 : decode cX8_addEdge 26 = .ok (.aload_n 0, 1) := by decide +kernel
theorem dX8_addEdge_27 : decode cX8_addEdge 27 = .ok (.getfield 362, 3) := by decide +kernel
theorem dX8_addEdge_30 : decode cX8_addEdge 30 = .ok (.iload_n 1, 1) := by decide +kernel
theorem dX8_addEdge_31 : decode cX8_addEdge 31 = .ok (.iastore, 1) := by decide +kernel
theorem dX8_addEdge_32 : decode cX8_addEdge 32 = .ok (.aload_n 0, 1) := by decide +kernel
theorem dX8_addEdge_33 : decode cX8_addEdge 33 = .ok (.getfield 129, 3) := by decide +kernel
theorem dX8_addEdge_36 : decode cX8_addEdge 36 = .ok (.aload_n 0, 1) := by decide +kernel
theorem dX8_addEdge_37 : decode cX8_addEdge 37 = .ok (.getfield 362, 3) := by decide +kernel
theorem dX8_addEdge_40 : decode cX8_addEdge 40 = .ok (.iload 4, 2) := by decide +kernel
theorem dX8_addEdge_42 : decode cX8_addEdge 42 = .ok (.iastore, 1) := by decide +kernel
theorem dX8_addEdge_43 : decode cX8_addEdge 43 = .ok (.aload_n 0, 1) := by decide +kernel
theorem dX8_addEdge_44 : decode cX8_addEdge 44 = .ok (.getfield 132, 3) := by decide +kernel
theorem dX8_addEdge_47 : decode cX8_addEdge 47 = .ok (.aload_n 0, 1) := by decide +kernel
theorem dX8_addEdge_48 : decode cX8_addEdge 48 = .ok (.getfield 362, 3) := by decide +kernel
theorem dX8_addEdge_51 : decode cX8_addEdge 51 = .ok (.iload_n 2, 1) := by decide +kernel
theorem dX8_addEdge_52 : decode cX8_addEdge 52 = .ok (.iastore, 1) := by decide +kernel
theorem dX8_addEdge_53 : decode cX8_addEdge 53 = .ok (.aload_n 0, 1) := by decide +kernel
theorem dX8_addEdge_54 : decode cX8_addEdge 54 = .ok (.dup, 1) := by decide +kernel
theorem dX8_addEdge_55 : decode cX8_addEdge 55 = .ok (.getfield 362, 3) := by decide +kernel
theorem dX8_addEdge_58 : decode cX8_addEdge 58 = .ok (.iconst 1, 1) := by decide +kernel
theorem dX8_addEdge_59 : decode cX8_addEdge 59 = .ok (.iadd, 1) := by decide +kernel
theorem dX8_addEdge_60 : decode cX8_addEdge 60 = .ok (.putfield 362, 3) := by decide +kernel
theorem dX8_addEdge_63 : decode cX8_addEdge 63 = .ok (.return_, 1) := by decide +kernel
theorem dX8_world_0 : decode cX8_world 0 = .ok (.aload_n 0, 1) := by decide +kernel
theorem dX8_world_1 : decode cX8_world 1 = .ok (.getfield 356, 3) := by decide +kernel
theorem dX8_world_4 : decode cX8_world 4 = .ok (.ifCond .ne 6, 3) := by decide +kernel
theorem dX8_world_7 : decode cX8_world 7 = .ok (.bipush (-101), 2) := by decide +kernel
theorem dX8_world_9 : decode cX8_world 9 = .ok (.ireturn, 1) := by decide +kernel
theorem dX8_world_10 : decode cX8_world 10 = .ok (.aload_n 0, 1) := by decide +kernel
theorem dX8_world_11 : decode cX8_world 11 = .ok (.iload_n 1, 1) := by decide +kernel
theorem dX8_world_12 : decode cX8_world 12 = .ok (.invokevirtual 411, 3) := by decide +kernel
theorem dX8_world_15 : decode cX8_world 15 = .ok (.ifCond .eq 6, 3) := by decide +kernel
theorem dX8_world_18 : decode cX8_world 18 = .ok (.bipush (-102), 2) := by decide +kernel
theorem dX8_world_20 : decode cX8_world 20 = .ok (.ireturn, 1) := by decide +kernel
theorem dX8_world_21 : decode cX8_world 21 = .ok (.aload_n 0, 1) := by decide +kernel
theorem dX8_world_22 : decode cX8_world 22 = .ok (.iconst 0, 1) := by decide +kernel
theorem dX8_world_23 : decode cX8_world 23 = .ok (.putfield 359, 3) := by decide +kernel
theorem dX8_world_26 : decode cX8_world 26 = .ok (.aload_n 0, 1) := by decide +kernel
theorem dX8_world_27 : decode cX8_world 27 = .ok (.iconst 0, 1) := by decide +kernel
theorem dX8_world_28 : decode cX8_world 28 = .ok (.putfield 362, 3) := by decide +kernel
theorem dX8_world_31 : decode cX8_world 31 = .ok (.aload_n 0, 1) := by decide +kernel
theorem dX8_world_32 : decode cX8_world 32 = .ok (.iload_n 1, 1) := by decide +kernel
theorem dX8_world_33 : decode cX8_world 33 = .ok (.invokevirtual 417, 3) := by decide +kernel
theorem dX8_world_36 : decode cX8_world 36 = .ok (.istore_n 2, 1) := by decide +kernel
theorem dX8_world_37 : decode cX8_world 37 = .ok (.iload_n 2, 1) := by decide +kernel
theorem dX8_world_38 : decode cX8_world 38 = .ok (.ifCond .ge 5, 3) := by decide +kernel
theorem dX8_world_41 : decode cX8_world 41 = .ok (.iconst 0, 1) := by decide +kernel
theorem dX8_world_42 : decode cX8_world 42 = .ok (.ireturn, 1) := by decide +kernel
theorem dX8_world_43 : decode cX8_world 43 = .ok (.aload_n 0, 1) := by decide +kernel
theorem dX8_world_44 : decode cX8_world 44 = .ok (.getfield 123, 3) := by decide +kernel
theorem dX8_world_47 : decode cX8_world 47 = .ok (.iconst 0, 1) := by decide +kernel
theorem dX8_world_48 : decode cX8_world 48 = .ok (.iload_n 2, 1) := by decide +kernel
theorem dX8_world_49 : decode cX8_world 49 = .ok (.iastore, 1) := by decide +kernel
theorem dX8_world_50 : decode cX8_world 50 = .ok (.aload_n 0, 1) := by decide +kernel
theorem dX8_world_51 : decode cX8_world 51 = .ok (.iconst 1, 1) := by decide +kernel
theorem dX8_world_52 : decode cX8_world 52 = .ok (.putfield 359, 3) := by decide +kernel
theorem dX8_world_55 : decode cX8_world 55 = .ok (.iconst 0, 1) := by decide +kernel
theorem dX8_world_56 : decode cX8_world 56 = .ok (.istore_n 3, 1) := by decide +kernel
theorem dX8_world_57 : decode cX8_world 57 = .ok (.iload_n 3, 1) := by decide +kernel
theorem dX8_world_58 : decode cX8_world 58 = .ok (.aload_n 0, 1) := by decide +kernel
theorem dX8_world_59 : decode cX8_world 59 = .ok (.getfield 359, 3) := by decide +kernel
theorem dX8_world_62 : decode cX8_world 62 = .ok (.if_icmp .ge 125, 3) := by decide +kernel
theorem dX8_world_65 : decode cX8_world 65 = .ok (.iconst 0, 1) := by decide +kernel
theorem dX8_world_66 : decode cX8_world 66 = .ok (.istore 4, 2) := by decide +kernel
theorem dX8_world_68 : decode cX8_world 68 = .ok (.iconst 0, 1) := by decide +kernel
theorem dX8_world_69 : decode cX8_world 69 = .ok (.istore 5, 2) := by decide +kernel
theorem dX8_world_71 : decode cX8_world 71 = .ok (.iload 5, 2) := by decide +kernel
theorem dX8_world_73 : decode cX8_world 73 = .ok (.aload_n 0, 1) := by decide +kernel
theorem dX8_world_74 : decode cX8_world 74 = .ok (.getfield 353, 3) := by decide +kernel
theorem dX8_world_77 : decode cX8_world 77 = .ok (.if_icmp .ge 104, 3) := by decide +kernel
theorem dX8_world_80 : decode cX8_world 80 = .ok (.aload_n 0, 1) := by decide +kernel
theorem dX8_world_81 : decode cX8_world 81 = .ok (.getfield 73, 3) := by decide +kernel
theorem dX8_world_84 : decode cX8_world 84 = .ok (.iload 5, 2) := by decide +kernel
theorem dX8_world_86 : decode cX8_world 86 = .ok (.iaload, 1) := by decide +kernel
theorem dX8_world_87 : decode cX8_world 87 = .ok (.istore 6, 2) := by decide +kernel
theorem dX8_world_89 : decode cX8_world 89 = .ok (.iload 6, 2) := by decide +kernel
theorem dX8_world_91 : decode cX8_world 91 = .ok (.ifCond .lt 84, 3) := by decide +kernel
theorem dX8_world_94 : decode cX8_world 94 = .ok (.aload_n 0, 1) := by decide +kernel
theorem dX8_world_95 : decode cX8_world 95 = .ok (.getfield 123, 3) := by decide +kernel
theorem dX8_world_98 : decode cX8_world 98 = .ok (.iload_n 3, 1) := by decide +kernel
theorem dX8_world_99 : decode cX8_world 99 = .ok (.iaload, 1) := by decide +kernel
theorem dX8_world_100 : decode cX8_world 100 = .ok (.iload 5, 2) := by decide +kernel
theorem dX8_world_102 : decode cX8_world 102 = .ok (.ishr, 1) := by decide +kernel
theorem dX8_world_103 : decode cX8_world 103 = .ok (.iconst 1, 1) := by decide +kernel
theorem dX8_world_104 : decode cX8_world 104 = .ok (.iand, 1) := by decide +kernel
theorem dX8_world_105 : decode cX8_world 105 = .ok (.ifCond .ne 6, 3) := by decide +kernel
theorem dX8_world_108 : decode cX8_world 108 = .ok (.goto 67, 3) := by decide +kernel
theorem dX8_world_111 : decode cX8_world 111 = .ok (.aload_n 0, 1) := by decide +kernel
theorem dX8_world_112 : decode cX8_world 112 = .ok (.getfield 63, 3) := by decide +kernel
theorem dX8_world_115 : decode cX8_world 115 = .ok (.iload 6, 2) := by decide +kernel
theorem dX8_world_117 : decode cX8_world 117 = .ok (.baload, 1) := by decide +kernel
theorem dX8_world_118 : decode cX8_world 118 = .ok (.ifCond .ne 17, 3) := by decide +kernel
theorem dX8_world_121 : decode cX8_world 121 = .ok (.aload_n 0, 1) := by decide +kernel
theorem dX8_world_122 : decode cX8_world 122 = .ok (.iload_n 3, 1) := by decide +kernel
theorem dX8_world_123 : decode cX8_world 123 = .ok (.iload 6, 2) := by decide +kernel
theorem dX8_world_125 : decode cX8_world 125 = .ok (.iconst 1, 1) := by decide +kernel
theorem dX8_world_126 : decode cX8_world 126 = .ok (.iload 5, 2) := by decide +kernel
theorem dX8_world_128 : decode cX8_world 128 = .ok (.ishl, 1) := by decide +kernel
theorem dX8_world_129 : decode cX8_world 129 = .ok (.invokevirtual 435, 3) := by decide +kernel
theorem dX8_world_132 : decode cX8_world 132 = .ok (.goto 43, 3) := by decide +kernel
theorem dX8_world_135 : decode cX8_world 135 = .ok (.iload 4, 2) := by decide +kernel
theorem dX8_world_137 : decode cX8_world 137 = .ok (.iload 6, 2) := by decide +kernel
theorem dX8_world_139 : decode cX8_world 139 = .ok (.ishr, 1) := by decide +kernel
theorem dX8_world_140 : decode cX8_world 140 = .ok (.iconst 1, 1) := by decide +kernel
theorem dX8_world_141 : decode cX8_world 141 = .ok (.iand, 1) := by decide +kernel
theorem dX8_world_142 : decode cX8_world 142 = .ok (.ifCond .ne 33, 3) := by decide +kernel
theorem dX8_world_145 : decode cX8_world 145 = .ok (.iload 4, 2) := by decide +kernel
theorem dX8_world_147 : decode cX8_world 147 = .ok (.iconst 1, 1) := by decide +kernel
theorem dX8_world_148 : decode cX8_world 148 = .ok (.iload 6, 2) := by decide +kernel
theorem dX8_world_150 : decode cX8_world 150 = .ok (.ishl, 1) := by decide +kernel
theorem dX8_world_151 : decode cX8_world 151 = .ok (.ior, 1) := by decide +kernel
theorem dX8_world_152 : decode cX8_world 152 = .ok (.istore 4, 2) := by decide +kernel
theorem dX8_world_154 : decode cX8_world 154 = .ok (.aload_n 0, 1) := by decide +kernel
theorem dX8_world_155 : decode cX8_world 155 = .ok (.iload_n 3, 1) := by decide +kernel
theorem dX8_world_156 : decode cX8_world 156 = .ok (.iload 6, 2) := by decide +kernel
theorem dX8_world_158 : decode cX8_world 158 = .ok (.aload_n 0, 1) := by decide +kernel
theorem dX8_world_159 : decode cX8_world 159 = .ok (.getfield 111, 3) := by decide +kernel
theorem dX8_world_162 : decode cX8_world 162 = .ok (.iload 6, 2) := by decide +kernel
theorem dX8_world_164 : decode cX8_world 164 = .ok (.iaload, 1) := by decide +kernel
theorem dX8_world_165 : decode cX8_world 165 = .ok (.aload_n 0, 1) := by decide +kernel
theorem dX8_world_166 : decode cX8_world 166 = .ok (.getfield 123, 3) := by decide +kernel
theorem dX8_world_169 : decode cX8_world 169 = .ok (.iload_n 3, 1) := by decide +kernel
theorem dX8_world_170 : decode cX8_world 170 = .ok (.iaload, 1) := by decide +kernel
theorem dX8_world_171 : decode cX8_world 171 = .ok (.iand, 1) := by decide +kernel
theorem dX8_world_172 : decode cX8_world 172 = .ok (.invokevirtual 435, 3) := by decide +kernel
theorem dX8_world_175 : decode cX8_world 175 = .ok (.iinc 5 1, 3) := by decide +kernel
theorem dX8_world_178 : decode cX8_world 178 = .ok (.goto (-107), 3) := by decide +kernel
theorem dX8_world_181 : decode cX8_world 181 = .ok (.iinc 3 1, 3) := by decide +kernel
theorem dX8_world_184 : decode cX8_world 184 = .ok (.goto (-127), 3) := by decide +kernel
theorem dX8_world_187 : decode cX8_world 187 = .ok (.aload_n 0, 1) := by decide +kernel
theorem dX8_world_188 : decode cX8_world 188 = .ok (.getfield 359, 3) := by decide +kernel
theorem dX8_world_191 : decode cX8_world 191 = .ok (.ireturn, 1) := by decide +kernel
theorem dX8_thing_0 : decode cX8_thing 0 = .ok (.aload_n 0, 1) := by decide +kernel
theorem dX8_thing_1 : decode cX8_thing 1 = .ok (.getfield 356, 3) := by decide +kernel
theorem dX8_thing_4 : decode cX8_thing 4 = .ok (.ifCond .ne 6, 3) := by decide +kernel
theorem dX8_thing_7 : decode cX8_thing 7 = .ok (.bipush (-101), 2) := by decide +kernel
theorem dX8_thing_9 : decode cX8_thing 9 = .ok (.ireturn, 1) := by decide +kernel
theorem dX8_thing_10 : decode cX8_thing 10 = .ok (.iload_n 1, 1) := by decide +kernel
theorem dX8_thing_11 : decode cX8_thing 11 = .ok (.i2l, 1) := by decide +kernel
theorem dX8_thing_12 : decode cX8_thing 12 = .ok (.lconst 0, 1) := by decide +kernel
theorem dX8_thing_13 : decode cX8_thing 13 = .ok (.aload_n 0, 1) := by decide +kernel
theorem dX8_thing_14 : decode cX8_thing 14 = .ok (.getfield 359, 3) := by decide +kernel
theorem dX8_thing_17 : decode cX8_thing 17 = .ok (.iconst 1, 1) := by decide +kernel
theorem dX8_thing_18 : decode cX8_thing 18 = .ok (.isub, 1) := by decide +kernel
theorem dX8_thing_19 : decode cX8_thing 19 = .ok (.i2l, 1) := by decide +kernel
theorem dX8_thing_20 : decode cX8_thing 20 = .ok (.invokestatic 154, 3) := by decide +kernel
theorem dX8_thing_23 : decode cX8_thing 23 = .ok (.ifCond .eq 12, 3) := by decide +kernel
theorem dX8_thing_26 : decode cX8_thing 26 = .ok (.aload_n 0, 1) := by decide +kernel
theorem dX8_thing_27 : decode cX8_thing 27 = .ok (.getfield 123, 3) := by decide +kernel
theorem dX8_thing_30 : decode cX8_thing 30 = .ok (.iload_n 1, 1) := by decide +kernel
theorem dX8_thing_31 : decode cX8_thing 31 = .ok (.iaload, 1) := by decide +kernel
theorem dX8_thing_32 : decode cX8_thing 32 = .ok (.goto 5, 3) := by decide +kernel
theorem dX8_thing_35 : decode cX8_thing 35 = .ok (.bipush (-102), 2) := by decide +kernel
theorem dX8_thing_37 : decode cX8_thing 37 = .ok (.ireturn, 1) := by decide +kernel
theorem dX8_edge_0 : decode cX8_edge 0 = .ok (.aload_n 0, 1) := by decide +kernel
theorem dX8_edge_1 : decode cX8_edge 1 = .ok (.getfield 356, 3) := by decide +kernel
theorem dX8_edge_4 : decode cX8_edge 4 = .ok (.ifCond .ne 6, 3) := by decide +kernel
theorem dX8_edge_7 : decode cX8_edge 7 = .ok (.bipush (-101), 2) := by decide +kernel
theorem dX8_edge_9 : decode cX8_edge 9 = .ok (.ireturn, 1) := by decide +kernel
theorem dX8_edge_10 : decode cX8_edge 10 = .ok (.iload_n 1, 1) := by decide +kernel
theorem dX8_edge_11 : decode cX8_edge 11 = .ok (.i2l, 1) := by decide +kernel
theorem dX8_edge_12 : decode cX8_edge 12 = .ok (.lconst 0, 1) := by decide +kernel
theorem dX8_edge_13 : decode cX8_edge 13 = .ok (.aload_n 0, 1) := by decide +kernel
theorem dX8_edge_14 : decode cX8_edge 14 = .ok (.getfield 362, 3) := by decide +kernel
theorem dX8_edge_17 : decode cX8_edge 17 = .ok (.iconst 1, 1) := by decide +kernel
theorem dX8_edge_18 : decode cX8_edge 18 = .ok (.isub, 1) := by decide +kernel
theorem dX8_edge_19 : decode cX8_edge 19 = .ok (.i2l, 1) := by decide +kernel
theorem dX8_edge_20 : decode cX8_edge 20 = .ok (.invokestatic 154, 3) := by decide +kernel
theorem dX8_edge_23 : decode cX8_edge 23 = .ok (.ifCond .ne 6, 3) := by decide +kernel
theorem dX8_edge_26 : decode cX8_edge 26 = .ok (.bipush (-102), 2) := by decide +kernel
theorem dX8_edge_28 : decode cX8_edge 28 = .ok (.ireturn, 1) := by decide +kernel
theorem dX8_edge_29 : decode cX8_edge 29 = .ok (.iload_n 2, 1) := by decide +kernel
theorem dX8_edge_30 : decode cX8_edge 30 = .ok (.ifCond .ne 12, 3) := by decide +kernel
theorem dX8_edge_33 : decode cX8_edge 33 = .ok (.aload_n 0, 1) := by decide +kernel
theorem dX8_edge_34 : decode cX8_edge 34 = .ok (.getfield 126, 3) := by decide +kernel
theorem dX8_edge_37 : decode cX8_edge 37 = .ok (.iload_n 1, 1) := by decide +kernel
theorem dX8_edge_38 : decode cX8_edge 38 = .ok (.iaload, 1) := by decide +kernel
theorem dX8_edge_39 : decode cX8_edge 39 = .ok (.goto 33, 3) := by decide +kernel
theorem dX8_edge_42 : decode cX8_edge 42 = .ok (.iload_n 2, 1) := by decide +kernel
theorem dX8_edge_43 : decode cX8_edge 43 = .ok (.iconst 1, 1) := by decide +kernel
theorem dX8_edge_44 : decode cX8_edge 44 = .ok (.if_icmp .ne 12, 3) := by decide +kernel
theorem dX8_edge_47 : decode cX8_edge 47 = .ok (.aload_n 0, 1) := by decide +kernel
theorem dX8_edge_48 : decode cX8_edge 48 = .ok (.getfield 129, 3) := by decide +kernel
theorem dX8_edge_51 : decode cX8_edge 51 = .ok (.iload_n 1, 1) := by decide +kernel
theorem dX8_edge_52 : decode cX8_edge 52 = .ok (.iaload, 1) := by decide +kernel
theorem dX8_edge_53 : decode cX8_edge 53 = .ok (.goto 19, 3) := by decide +kernel
theorem dX8_edge_56 : decode cX8_edge 56 = .ok (.iload_n 2, 1) := by decide +kernel
theorem dX8_edge_57 : decode cX8_edge 57 = .ok (.iconst 2, 1) := by decide +kernel
theorem dX8_edge_58 : decode cX8_edge 58 = .ok (.if_icmp .ne 12, 3) := by decide +kernel
theorem dX8_edge_61 : decode cX8_edge 61 = .ok (.aload_n 0, 1) := by decide +kernel
theorem dX8_edge_62 : decode cX8_edge 62 = .ok (.getfield 132, 3) := by decide +kernel
theorem dX8_edge_65 : decode cX8_edge 65 = .ok (.iload_n 1, 1) := by decide +kernel
theorem dX8_edge_66 : decode cX8_edge 66 = .ok (.iaload, 1) := by decide +kernel
theorem dX8_edge_67 : decode cX8_edge 67 = .ok (.goto 5, 3) := by decide +kernel
theorem dX8_edge_70 : decode cX8_edge 70 = .ok (.bipush (-103), 2) := by decide +kernel
theorem dX8_edge_72 : decode cX8_edge 72 = .ok (.ireturn, 1) := by decide +kernel
theorem dX8_bones_0 : decode cX8_bones 0 = .ok (.aload_n 0, 1) := by decide +kernel
theorem dX8_bones_1 : decode cX8_bones 1 = .ok (.getfield 356, 3) := by decide +kernel
theorem dX8_bones_4 : decode cX8_bones 4 = .ok (.ifCond .ne 6, 3) := by decide +kernel
theorem dX8_bones_7 : decode cX8_bones 7 = .ok (.bipush (-101), 2) := by decide +kernel
theorem dX8_bones_9 : decode cX8_bones 9 = .ok (.ireturn, 1) := by decide +kernel
theorem dX8_bones_10 : decode cX8_bones 10 = .ok (.aload_n 0, 1) := by decide +kernel
theorem dX8_bones_11 : decode cX8_bones 11 = .ok (.iload_n 1, 1) := by decide +kernel
theorem dX8_bones_12 : decode cX8_bones 12 = .ok (.invokevirtual 411, 3) := by decide +kernel
theorem dX8_bones_15 : decode cX8_bones 15 = .ok (.ifCond .eq 6, 3) := by decide +kernel
theorem dX8_bones_18 : decode cX8_bones 18 = .ok (.bipush (-102), 2) := by decide +kernel
theorem dX8_bones_20 : decode cX8_bones 20 = .ok (.ireturn, 1) := by decide +kernel
theorem dX8_bones_21 : decode cX8_bones 21 = .ok (.aload_n 0, 1) := by decide +kernel
theorem dX8_bones_22 : decode cX8_bones 22 = .ok (.iload_n 1, 1) := by decide +kernel
theorem dX8_bones_23 : decode cX8_bones 23 = .ok (.invokevirtual 417, 3) := by decide +kernel
theorem dX8_bones_26 : decode cX8_bones 26 = .ok (.ifCond .lt 5, 3) := by decide +kernel
theorem dX8_bones_29 : decode cX8_bones 29 = .ok (.iconst (-1), 1) := by decide +kernel
theorem dX8_bones_30 : decode cX8_bones 30 = .ok (.ireturn, 1) := by decide +kernel
theorem dX8_bones_31 : decode cX8_bones 31 = .ok (.iconst 0, 1) := by decide +kernel
theorem dX8_bones_32 : decode cX8_bones 32 = .ok (.istore_n 2, 1) := by decide +kernel
theorem dX8_bones_33 : decode cX8_bones 33 = .ok (.iconst 0, 1) := by decide +kernel
theorem dX8_bones_34 : decode cX8_bones 34 = .ok (.istore_n 3, 1) := by decide +kernel
theorem dX8_bones_35 : decode cX8_bones 35 = .ok (.iload_n 3, 1) := by decide +kernel
theorem dX8_bones_36 : decode cX8_bones 36 = .ok (.aload_n 0, 1) := by decide +kernel
theorem dX8_bones_37 : decode cX8_bones 37 = .ok (.getfield 341, 3) := by decide +kernel
theorem dX8_bones_40 : decode cX8_bones 40 = .ok (.if_icmp .ge 33, 3) := by decide +kernel
theorem dX8_bones_43 : decode cX8_bones 43 = .ok (.aload_n 0, 1) := by decide +kernel
theorem dX8_bones_44 : decode cX8_bones 44 = .ok (.iload_n 2, 1) := by decide +kernel
theorem dX8_bones_45 : decode cX8_bones 45 = .ok (.iconst 1, 1) := by decide +kernel
theorem dX8_bones_46 : decode cX8_bones 46 = .ok (.iload_n 3, 1) := by decide +kernel
theorem dX8_bones_47 : decode cX8_bones 47 = .ok (.ishl, 1) := by decide +kernel
theorem dX8_bones_48 : decode cX8_bones 48 = .ok (.ior, 1) := by decide +kernel
theorem dX8_bones_49 : decode cX8_bones 49 = .ok (.iconst 0, 1) := by decide +kernel
theorem dX8_bones_50 : decode cX8_bones 50 = .ok (.invokevirtual 398, 3) := by decide +kernel
theorem dX8_bones_53 : decode cX8_bones 53 = .ok (.aload_n 0, 1) := by decide +kernel
theorem dX8_bones_54 : decode cX8_bones 54 = .ok (.iload_n 1, 1) := by decide +kernel
theorem dX8_bones_55 : decode cX8_bones 55 = .ok (.invokevirtual 417, 3) := by decide +kernel
theorem dX8_bones_58 : decode cX8_bones 58 = .ok (.ifCond .ge 9, 3) := by decide +kernel
theorem dX8_bones_61 : decode cX8_bones 61 = .ok (.iload_n 2, 1) := by decide +kernel
theorem dX8_bones_62 : decode cX8_bones 62 = .ok (.iconst 1, 1) := by decide +kernel
theorem dX8_bones_63 : decode cX8_bones 63 = .ok (.iload_n 3, 1) := by decide +kernel
theorem dX8_bones_64 : decode cX8_bones 64 = .ok (.ishl, 1) := by decide +kernel
theorem dX8_bones_65 : decode cX8_bones 65 = .ok (.ior, 1) := by decide +kernel
theorem dX8_bones_66 : decode cX8_bones 66 = .ok (.istore_n 2, 1) := by decide +kernel
theorem dX8_bones_67 : decode cX8_bones 67 = .ok (.iinc 3 1, 3) := by decide +kernel
theorem dX8_bones_70 : decode cX8_bones 70 = .ok (.goto (-35), 3) := by decide +kernel
theorem dX8_bones_73 : decode cX8_bones 73 = .ok (.aload_n 0, 1) := by decide +kernel
theorem dX8_bones_74 : decode cX8_bones 74 = .ok (.iconst 0, 1) := by decide +kernel
theorem dX8_bones_75 : decode cX8_bones 75 = .ok (.iconst 0, 1) := by decide +kernel
theorem dX8_bones_76 : decode cX8_bones 76 = .ok (.invokevirtual 398, 3) := by decide +kernel
theorem dX8_bones_79 : decode cX8_bones 79 = .ok (.iconst 1, 1) := by decide +kernel
theorem dX8_bones_80 : decode cX8_bones 80 = .ok (.aload_n 0, 1) := by decide +kernel
theorem dX8_bones_81 : decode cX8_bones 81 = .ok (.getfield 341, 3) := by decide +kernel
theorem dX8_bones_84 : decode cX8_bones 84 = .ok (.ishl, 1) := by decide +kernel
theorem dX8_bones_85 : decode cX8_bones 85 = .ok (.iconst 1, 1) := by decide +kernel
theorem dX8_bones_86 : decode cX8_bones 86 = .ok (.isub, 1) := by decide +kernel
theorem dX8_bones_87 : decode cX8_bones 87 = .ok (.iload_n 2, 1) := by decide +kernel
theorem dX8_bones_88 : decode cX8_bones 88 = .ok (.iconst (-1), 1) := by decide +kernel
theorem dX8_bones_89 : decode cX8_bones 89 = .ok (.ixor, 1) := by decide +kernel
theorem dX8_bones_90 : decode cX8_bones 90 = .ok (.iand, 1) := by decide +kernel
theorem dX8_bones_91 : decode cX8_bones 91 = .ok (.ireturn, 1) := by decide +kernel
theorem dX8_same_0 : decode cX8_same 0 = .ok (.aload_n 0, 1) := by decide +kernel
theorem dX8_same_1 : decode cX8_same 1 = .ok (.getfield 356, 3) := by decide +kernel
theorem dX8_same_4 : decode cX8_same 4 = .ok (.ifCond .ne 6, 3) := by decide +kernel
theorem dX8_same_7 : decode cX8_same 7 = .ok (.bipush (-101), 2) := by decide +kernel
theorem dX8_same_9 : decode cX8_same 9 = .ok (.ireturn, 1) := by decide +kernel
theorem dX8_same_10 : decode cX8_same 10 = .ok (.aload_n 0, 1) := by decide +kernel
theorem dX8_same_11 : decode cX8_same 11 = .ok (.iload_n 1, 1) := by decide +kernel
theorem dX8_same_12 : decode cX8_same 12 = .ok (.invokevirtual 411, 3) := by decide +kernel
theorem dX8_same_15 : decode cX8_same 15 = .ok (.ifCond .ne 11, 3) := by decide +kernel
theorem dX8_same_18 : decode cX8_same 18 = .ok (.aload_n 0, 1) := by decide +kernel
theorem dX8_same_19 : decode cX8_same 19 = .ok (.iload_n 2, 1) := by decide +kernel
theorem dX8_same_20 : decode cX8_same 20 = .ok (.invokevirtual 411, 3) := by decide +kernel
theorem dX8_same_23 : decode cX8_same 23 = .ok (.ifCond .eq 6, 3) := by decide +kernel
theorem dX8_same_26 : decode cX8_same 26 = .ok (.bipush (-102), 2) := by decide +kernel
theorem dX8_same_28 : decode cX8_same 28 = .ok (.ireturn, 1) := by decide +kernel
theorem dX8_same_29 : decode cX8_same 29 = .ok (.iconst 1, 1) := by decide +kernel
theorem dX8_same_30 : decode cX8_same 30 = .ok (.istore_n 3, 1) := by decide +kernel
theorem dX8_same_31 : decode cX8_same 31 = .ok (.iconst 0, 1) := by decide +kernel
theorem dX8_same_32 : decode cX8_same 32 = .ok (.istore 4, 2) := by decide +kernel
theorem dX8_same_34 : decode cX8_same 34 = .ok (.iload 4, 2) := by decide +kernel
theorem dX8_same_36 : decode cX8_same 36 = .ok (.aload_n 0, 1) := by decide +kernel
theorem dX8_same_37 : decode cX8_same 37 = .ok (.invokevirtual 368, 3) := by decide +kernel
theorem dX8_same_40 : decode cX8_same 40 = .ok (.if_icmp .ge 46, 3) := by decide +kernel
theorem dX8_same_43 : decode cX8_same 43 = .ok (.iload_n 3, 1) := by decide +kernel
theorem dX8_same_44 : decode cX8_same 44 = .ok (.ifCond .eq 34, 3) := by decide +kernel
theorem dX8_same_47 : decode cX8_same 47 = .ok (.aload_n 0, 1) := by decide +kernel
theorem dX8_same_48 : decode cX8_same 48 = .ok (.getfield 117, 3) := by decide +kernel
theorem dX8_same_51 : decode cX8_same 51 = .ok (.iload 4, 2) := by decide +kernel
theorem dX8_same_53 : decode cX8_same 53 = .ok (.baload, 1) := by decide +kernel
theorem dX8_same_54 : decode cX8_same 54 = .ok (.ifCond .eq 20, 3) := by decide +kernel
theorem dX8_same_57 : decode cX8_same 57 = .ok (.aload_n 0, 1) := by decide +kernel
theorem dX8_same_58 : decode cX8_same 58 = .ok (.iload_n 1, 1) := by decide +kernel
theorem dX8_same_59 : decode cX8_same 59 = .ok (.iload 4, 2) := by decide +kernel
theorem dX8_same_61 : decode cX8_same 61 = .ok (.invokevirtual 414, 3) := by decide +kernel
theorem dX8_same_64 : decode cX8_same 64 = .ok (.aload_n 0, 1) := by decide +kernel
theorem dX8_same_65 : decode cX8_same 65 = .ok (.iload_n 2, 1) := by decide +kernel
theorem dX8_same_66 : decode cX8_same 66 = .ok (.iload 4, 2) := by decide +kernel
theorem dX8_same_68 : decode cX8_same 68 = .ok (.invokevirtual 414, 3) := by decide +kernel
theorem dX8_same_71 : decode cX8_same 71 = .ok (.if_icmp .ne 7, 3) := by decide +kernel
theorem dX8_same_74 : decode cX8_same 74 = .ok (.iconst 1, 1) := by decide +kernel
theorem dX8_same_75 : decode cX8_same 75 = .ok (.goto 4, 3) := by decide +kernel
theorem dX8_same_78 : decode cX8_same 78 = .ok (.iconst 0, 1) := by decide +kernel
theorem dX8_same_79 : decode cX8_same 79 = .ok (.istore_n 3, 1) := by decide +kernel
theorem dX8_same_80 : decode cX8_same 80 = .ok (.iinc 4 1, 3) := by decide +kernel
theorem dX8_same_83 : decode cX8_same 83 = .ok (.goto (-49), 3) := by decide +kernel
theorem dX8_same_86 : decode cX8_same 86 = .ok (.iload_n 3, 1) := by decide +kernel
theorem dX8_same_87 : decode cX8_same 87 = .ok (.ifCond .eq 7, 3) := by decide +kernel
theorem dX8_same_90 : decode cX8_same 90 = .ok (.iconst 1, 1) := by decide +kernel
theorem dX8_same_91 : decode cX8_same 91 = .ok (.goto 4, 3) := by decide +kernel
theorem dX8_same_94 : decode cX8_same 94 = .ok (.iconst 0, 1) := by decide +kernel
theorem dX8_same_95 : decode cX8_same 95 = .ok (.ireturn, 1) := by decide +kernel
theorem dX8_put_0 : decode cX8_put 0 = .ok (.aload_n 0, 1) := by decide +kernel
theorem dX8_put_1 : decode cX8_put 1 = .ok (.getfield 135, 3) := by decide +kernel
theorem dX8_put_4 : decode cX8_put 4 = .ok (.aload_n 0, 1) := by decide +kernel
theorem dX8_put_5 : decode cX8_put 5 = .ok (.getfield 402, 3) := by decide +kernel
theorem dX8_put_8 : decode cX8_put 8 = .ok (.iload_n 1, 1) := by decide +kernel
theorem dX8_put_9 : decode cX8_put 9 = .ok (.i2b, 1) := by decide +kernel
theorem dX8_put_10 : decode cX8_put 10 = .ok (.bastore, 1) := by decide +kernel
theorem dX8_put_11 : decode cX8_put 11 = .ok (.aload_n 0, 1) := by decide +kernel
theorem dX8_put_12 : decode cX8_put 12 = .ok (.dup, 1) := by decide +kernel
theorem dX8_put_13 : decode cX8_put 13 = .ok (.getfield 402, 3) := by decide +kernel
theorem dX8_put_16 : decode cX8_put 16 = .ok (.iconst 1, 1) := by decide +kernel
theorem dX8_put_17 : decode cX8_put 17 = .ok (.iadd, 1) := by decide +kernel
theorem dX8_put_18 : decode cX8_put 18 = .ok (.putfield 402, 3) := by decide +kernel
theorem dX8_put_21 : decode cX8_put 21 = .ok (.return_, 1) := by decide +kernel
theorem dX8_later_0 : decode cX8_later 0 = .ok (.aload_n 0, 1) := by decide +kernel
theorem dX8_later_1 : decode cX8_later 1 = .ok (.getfield 138, 3) := by decide +kernel
theorem dX8_later_4 : decode cX8_later 4 = .ok (.aload_n 0, 1) := by decide +kernel
theorem dX8_later_5 : decode cX8_later 5 = .ok (.getfield 438, 3) := by decide +kernel
theorem dX8_later_8 : decode cX8_later 8 = .ok (.iload_n 1, 1) := by decide +kernel
theorem dX8_later_9 : decode cX8_later 9 = .ok (.iastore, 1) := by decide +kernel
theorem dX8_later_10 : decode cX8_later 10 = .ok (.aload_n 0, 1) := by decide +kernel
theorem dX8_later_11 : decode cX8_later 11 = .ok (.getfield 141, 3) := by decide +kernel
theorem dX8_later_14 : decode cX8_later 14 = .ok (.aload_n 0, 1) := by decide +kernel
theorem dX8_later_15 : decode cX8_later 15 = .ok (.getfield 438, 3) := by decide +kernel
theorem dX8_later_18 : decode cX8_later 18 = .ok (.iload_n 2, 1) := by decide +kernel
theorem dX8_later_19 : decode cX8_later 19 = .ok (.iastore, 1) := by decide +kernel
theorem dX8_later_20 : decode cX8_later 20 = .ok (.aload_n 0, 1) := by decide +kernel
theorem dX8_later_21 : decode cX8_later 21 = .ok (.getfield 144, 3) := by decide +kernel
theorem dX8_later_24 : decode cX8_later 24 = .ok (.aload_n 0, 1) := by decide +kernel
theorem dX8_later_25 : decode cX8_later 25 = .ok (.getfield 438, 3) := by decide +kernel
theorem dX8_later_28 : decode cX8_later 28 = .ok (.iload_n 3, 1) := by decide +kernel
theorem dX8_later_29 : decode cX8_later 29 = .ok (.iastore, 1) := by decide +kernel
theorem dX8_later_30 : decode cX8_later 30 = .ok (.aload_n 0, 1) := by decide +kernel
theorem dX8_later_31 : decode cX8_later 31 = .ok (.dup, 1) := by decide +kernel
theorem dX8_later_32 : decode cX8_later 32 = .ok (.getfield 438, 3) := by decide +kernel
theorem dX8_later_35 : decode cX8_later 35 = .ok (.iconst 1, 1) := by decide +kernel
theorem dX8_later_36 : decode cX8_later 36 = .ok (.iadd, 1) := by decide +kernel
theorem dX8_later_37 : decode cX8_later 37 = .ok (.putfield 438, 3) := by decide +kernel
theorem dX8_later_40 : decode cX8_later 40 = .ok (.return_, 1) := by decide +kernel
theorem dX8_putWord_0 : decode cX8_putWord 0 = .ok (.iconst 0, 1) := by decide +kernel
theorem dX8_putWord_1 : decode cX8_putWord 1 = .ok (.istore_n 2, 1) := by decide +kernel
theorem dX8_putWord_2 : decode cX8_putWord 2 = .ok (.iload_n 1, 1) := by decide +kernel
theorem dX8_putWord_3 : decode cX8_putWord 3 = .ok (.istore_n 3, 1) := by decide +kernel
theorem dX8_putWord_4 : decode cX8_putWord 4 = .ok (.iload_n 3, 1) := by decide +kernel
theorem dX8_putWord_5 : decode cX8_putWord 5 = .ok (.ifCond .le 28, 3) := by decide +kernel
theorem dX8_putWord_8 : decode cX8_putWord 8 = .ok (.iload_n 3, 1) := by decide +kernel
theorem dX8_putWord_9 : decode cX8_putWord 9 = .ok (.aload_n 0, 1) := by decide +kernel
theorem dX8_putWord_10 : decode cX8_putWord 10 = .ok (.getfield 13, 3) := by decide +kernel
theorem dX8_putWord_13 : decode cX8_putWord 13 = .ok (.iload_n 2, 1) := by decide +kernel
theorem dX8_putWord_14 : decode cX8_putWord 14 = .ok (.caload, 1) := by decide +kernel
theorem dX8_putWord_15 : decode cX8_putWord 15 = .ok (.bipush 32, 2) := by decide +kernel
theorem dX8_putWord_17 : decode cX8_putWord 17 = .ok (.if_icmp .ne 7, 3) := by decide +kernel
theorem dX8_putWord_20 : decode cX8_putWord 20 = .ok (.iconst 1, 1) := by decide +kernel
theorem dX8_putWord_21 : decode cX8_putWord 21 = .ok (.goto 4, 3) := by decide +kernel
theorem dX8_putWord_24 : decode cX8_putWord 24 = .ok (.iconst 0, 1) := by decide +kernel
theorem dX8_putWord_25 : decode cX8_putWord 25 = .ok (.isub, 1) := by decide +kernel
theorem dX8_putWord_26 : decode cX8_putWord 26 = .ok (.istore_n 3, 1) := by decide +kernel
theorem dX8_putWord_27 : decode cX8_putWord 27 = .ok (.iinc 2 1, 3) := by decide +kernel
theorem dX8_putWord_30 : decode cX8_putWord 30 = .ok (.goto (-26), 3) := by decide +kernel
theorem dX8_putWord_33 : decode cX8_putWord 33 = .ok (.aload_n 0, 1) := by decide +kernel
theorem dX8_putWord_34 : decode cX8_putWord 34 = .ok (.getfield 13, 3) := by decide +kernel
theorem dX8_putWord_37 : decode cX8_putWord 37 = .ok (.iload_n 2, 1) := by decide +kernel
theorem dX8_putWord_38 : decode cX8_putWord 38 = .ok (.caload, 1) := by decide +kernel
theorem dX8_putWord_39 : decode cX8_putWord 39 = .ok (.bipush 32, 2) := by decide +kernel
theorem dX8_putWord_41 : decode cX8_putWord 41 = .ok (.if_icmp .eq 19, 3) := by decide +kernel
theorem dX8_putWord_44 : decode cX8_putWord 44 = .ok (.aload_n 0, 1) := by decide +kernel
theorem dX8_putWord_45 : decode cX8_putWord 45 = .ok (.aload_n 0, 1) := by decide +kernel
theorem dX8_putWord_46 : decode cX8_putWord 46 = .ok (.getfield 13, 3) := by decide +kernel
theorem dX8_putWord_49 : decode cX8_putWord 49 = .ok (.iload_n 2, 1) := by decide +kernel
theorem dX8_putWord_50 : decode cX8_putWord 50 = .ok (.caload, 1) := by decide +kernel
theorem dX8_putWord_51 : decode cX8_putWord 51 = .ok (.invokevirtual 441, 3) := by decide +kernel
theorem dX8_putWord_54 : decode cX8_putWord 54 = .ok (.iinc 2 1, 3) := by decide +kernel
theorem dX8_putWord_57 : decode cX8_putWord 57 = .ok (.goto (-24), 3) := by decide +kernel
theorem dX8_putWord_60 : decode cX8_putWord 60 = .ok (.return_, 1) := by decide +kernel
theorem dX8_putRole_0 : decode cX8_putRole 0 = .ok (.iconst 0, 1) := by decide +kernel
theorem dX8_putRole_1 : decode cX8_putRole 1 = .ok (.istore_n 2, 1) := by decide +kernel
theorem dX8_putRole_2 : decode cX8_putRole 2 = .ok (.iload_n 2, 1) := by decide +kernel
theorem dX8_putRole_3 : decode cX8_putRole 3 = .ok (.aload_n 0, 1) := by decide +kernel
theorem dX8_putRole_4 : decode cX8_putRole 4 = .ok (.getfield 60, 3) := by decide +kernel
theorem dX8_putRole_7 : decode cX8_putRole 7 = .ok (.iload_n 1, 1) := by decide +kernel
theorem dX8_putRole_8 : decode cX8_putRole 8 = .ok (.iaload, 1) := by decide +kernel
theorem dX8_putRole_9 : decode cX8_putRole 9 = .ok (.if_icmp .ge 24, 3) := by decide +kernel
theorem dX8_putRole_12 : decode cX8_putRole 12 = .ok (.aload_n 0, 1) := by decide +kernel
theorem dX8_putRole_13 : decode cX8_putRole 13 = .ok (.aload_n 0, 1) := by decide +kernel
theorem dX8_putRole_14 : decode cX8_putRole 14 = .ok (.getfield 57, 3) := by decide +kernel
theorem dX8_putRole_17 : decode cX8_putRole 17 = .ok (.bipush 8, 2) := by decide +kernel
theorem dX8_putRole_19 : decode cX8_putRole 19 = .ok (.iload_n 1, 1) := by decide +kernel
theorem dX8_putRole_20 : decode cX8_putRole 20 = .ok (.imul, 1) := by decide +kernel
theorem dX8_putRole_21 : decode cX8_putRole 21 = .ok (.iload_n 2, 1) := by decide +kernel
theorem dX8_putRole_22 : decode cX8_putRole 22 = .ok (.iadd, 1) := by decide +kernel
theorem dX8_putRole_23 : decode cX8_putRole 23 = .ok (.baload, 1) := by decide +kernel
theorem dX8_putRole_24 : decode cX8_putRole 24 = .ok (.invokevirtual 441, 3) := by decide +kernel
theorem dX8_putRole_27 : decode cX8_putRole 27 = .ok (.iinc 2 1, 3) := by decide +kernel
theorem dX8_putRole_30 : decode cX8_putRole 30 = .ok (.goto (-28), 3) := by decide +kernel
theorem dX8_putRole_33 : decode cX8_putRole 33 = .ok (.return_, 1) := by decide +kernel
theorem dX8_putName_0 : decode cX8_putName 0 = .ok (.iconst 0, 1) := by decide +kernel
theorem dX8_putName_1 : decode cX8_putName 1 = .ok (.istore_n 2, 1) := by decide +kernel
theorem dX8_putName_2 : decode cX8_putName 2 = .ok (.iload_n 2, 1) := by decide +kernel
theorem dX8_putName_3 : decode cX8_putName 3 = .ok (.aload_n 0, 1) := by decide +kernel
theorem dX8_putName_4 : decode cX8_putName 4 = .ok (.getfield 54, 3) := by decide +kernel
theorem dX8_putName_7 : decode cX8_putName 7 = .ok (.iload_n 1, 1) := by decide +kernel
theorem dX8_putName_8 : decode cX8_putName 8 = .ok (.iaload, 1) := by decide +kernel
theorem dX8_putName_9 : decode cX8_putName 9 = .ok (.if_icmp .ge 24, 3) := by decide +kernel
theorem dX8_putName_12 : decode cX8_putName 12 = .ok (.aload_n 0, 1) := by decide +kernel
theorem dX8_putName_13 : decode cX8_putName 13 = .ok (.aload_n 0, 1) := by decide +kernel
theorem dX8_putName_14 : decode cX8_putName 14 = .ok (.getfield 51, 3) := by decide +kernel
theorem dX8_putName_17 : decode cX8_putName 17 = .ok (.bipush 8, 2) := by decide +kernel
theorem dX8_putName_19 : decode cX8_putName 19 = .ok (.iload_n 1, 1) := by decide +kernel
theorem dX8_putName_20 : decode cX8_putName 20 = .ok (.imul, 1) := by decide +kernel
theorem dX8_putName_21 : decode cX8_putName 21 = .ok (.iload_n 2, 1) := by decide +kernel
theorem dX8_putName_22 : decode cX8_putName 22 = .ok (.iadd, 1) := by decide +kernel
theorem dX8_putName_23 : decode cX8_putName 23 = .ok (.baload, 1) := by decide +kernel
theorem dX8_putName_24 : decode cX8_putName 24 = .ok (.invokevirtual 441, 3) := by decide +kernel
theorem dX8_putName_27 : decode cX8_putName 27 = .ok (.iinc 2 1, 3) := by decide +kernel
theorem dX8_putName_30 : decode cX8_putName 30 = .ok (.goto (-28), 3) := by decide +kernel
theorem dX8_putName_33 : decode cX8_putName 33 = .ok (.return_, 1) := by decide +kernel
theorem dX8_putOne_0 : decode cX8_putOne 0 = .ok (.aload_n 0, 1) := by decide +kernel
theorem dX8_putOne_1 : decode cX8_putOne 1 = .ok (.getfield 17, 3) := by decide +kernel
theorem dX8_putOne_4 : decode cX8_putOne 4 = .ok (.iload_n 1, 1) := by decide +kernel
theorem dX8_putOne_5 : decode cX8_putOne 5 = .ok (.iaload, 1) := by decide +kernel
theorem dX8_putOne_6 : decode cX8_putOne 6 = .ok (.istore_n 3, 1) := by decide +kernel
theorem dX8_putOne_7 : decode cX8_putOne 7 = .ok (.iload_n 3, 1) := by decide +kernel
theorem dX8_putOne_8 : decode cX8_putOne 8 = .ok (.bipush 7, 2) := by decide +kernel
theorem dX8_putOne_10 : decode cX8_putOne 10 = .ok (.if_icmp .ne 7, 3) := by decide +kernel
theorem dX8_putOne_13 : decode cX8_putOne 13 = .ok (.iconst 1, 1) := by decide +kernel
theorem dX8_putOne_14 : decode cX8_putOne 14 = .ok (.goto 14, 3) := by decide +kernel
theorem dX8_putOne_17 : decode cX8_putOne 17 = .ok (.iload_n 3, 1) := by decide +kernel
theorem dX8_putOne_18 : decode cX8_putOne 18 = .ok (.bipush 6, 2) := by decide +kernel
theorem dX8_putOne_20 : decode cX8_putOne 20 = .ok (.if_icmp .ne 7, 3) := by decide +kernel
theorem dX8_putOne_23 : decode cX8_putOne 23 = .ok (.iconst 2, 1) := by decide +kernel
theorem dX8_putOne_24 : decode cX8_putOne 24 = .ok (.goto 4, 3) := by decide +kernel
theorem dX8_putOne_27 : decode cX8_putOne 27 = .ok (.iconst 3, 1) := by decide +kernel
theorem dX8_putOne_28 : decode cX8_putOne 28 = .ok (.istore 4, 2) := by decide +kernel
theorem dX8_putOne_30 : decode cX8_putOne 30 = .ok (.iload 4, 2) := by decide +kernel
theorem dX8_putOne_32 : decode cX8_putOne 32 = .ok (.iload_n 2, 1) := by decide +kernel
theorem dX8_putOne_33 : decode cX8_putOne 33 = .ok (.if_icmp .ge 17, 3) := by decide +kernel
theorem dX8_putOne_36 : decode cX8_putOne 36 = .ok (.aload_n 0, 1) := by decide +kernel
theorem dX8_putOne_37 : decode cX8_putOne 37 = .ok (.bipush 40, 2) := by decide +kernel
theorem dX8_putOne_39 : decode cX8_putOne 39 = .ok (.invokevirtual 441, 3) := by decide +kernel
theorem dX8_putOne_42 : decode cX8_putOne 42 = .ok (.aload_n 0, 1) := by decide +kernel
theorem dX8_putOne_43 : decode cX8_putOne 43 = .ok (.iconst 1, 1) := by decide +kernel
theorem dX8_putOne_44 : decode cX8_putOne 44 = .ok (.bipush 41, 2) := by decide +kernel
theorem dX8_putOne_46 : decode cX8_putOne 46 = .ok (.iconst 0, 1) := by decide +kernel
theorem dX8_putOne_47 : decode cX8_putOne 47 = .ok (.invokevirtual 443, 3) := by decide +kernel
theorem dX8_putOne_50 : decode cX8_putOne 50 = .ok (.iload_n 3, 1) := by decide +kernel
theorem dX8_putOne_51 : decode cX8_putOne 51 = .ok (.ifCond .ne 16, 3) := by decide +kernel
theorem dX8_putOne_54 : decode cX8_putOne 54 = .ok (.aload_n 0, 1) := by decide +kernel
theorem dX8_putOne_55 : decode cX8_putOne 55 = .ok (.aload_n 0, 1) := by decide +kernel
theorem dX8_putOne_56 : decode cX8_putOne 56 = .ok (.getfield 21, 3) := by decide +kernel
theorem dX8_putOne_59 : decode cX8_putOne 59 = .ok (.iload_n 1, 1) := by decide +kernel
theorem dX8_putOne_60 : decode cX8_putOne 60 = .ok (.iaload, 1) := by decide +kernel
theorem dX8_putOne_61 : decode cX8_putOne 61 = .ok (.invokevirtual 446, 3) := by decide +kernel
theorem dX8_putOne_64 : decode cX8_putOne 64 = .ok (.goto 166, 3) := by decide +kernel
theorem dX8_putOne_67 : decode cX8_putOne 67 = .ok (.iload_n 3, 1) := by decide +kernel
theorem dX8_putOne_68 : decode cX8_putOne 68 = .ok (.iconst 1, 1) := by decide +kernel
theorem dX8_putOne_69 : decode cX8_putOne 69 = .ok (.if_icmp .eq 8, 3) := by decide +kernel
theorem dX8_putOne_72 : decode cX8_putOne 72 = .ok (.iload_n 3, 1) := by decide +kernel
theorem dX8_putOne_73 : decode cX8_putOne 73 = .ok (.iconst 2, 1) := by decide +kernel
theorem dX8_putOne_74 : decode cX8_putOne 74 = .ok (.if_icmp .ne 22, 3) := by decide +kernel
theorem dX8_putOne_77 : decode cX8_putOne 77 = .ok (.aload_n 0, 1) := by decide +kernel
theorem dX8_putOne_78 : decode cX8_putOne 78 = .ok (.iload_n 3, 1) := by decide +kernel
theorem dX8_putOne_79 : decode cX8_putOne 79 = .ok (.iconst 1, 1) := by decide +kernel
theorem dX8_putOne_80 : decode cX8_putOne 80 = .ok (.if_icmp .ne 8, 3) := by decide +kernel
theorem dX8_putOne_83 : decode cX8_putOne 83 = .ok (.bipush 8, 2) := by decide +kernel
theorem dX8_putOne_85 : decode cX8_putOne 85 = .ok (.goto 5, 3) := by decide +kernel
theorem dX8_putOne_88 : decode cX8_putOne 88 = .ok (.bipush 9, 2) := by decide +kernel
theorem dX8_putOne_90 : decode cX8_putOne 90 = .ok (.invokevirtual 449, 3) := by decide +kernel
theorem dX8_putOne_93 : decode cX8_putOne 93 = .ok (.goto 137, 3) := by decide +kernel
theorem dX8_putOne_96 : decode cX8_putOne 96 = .ok (.iload_n 3, 1) := by decide +kernel
theorem dX8_putOne_97 : decode cX8_putOne 97 = .ok (.bipush 6, 2) := by decide +kernel
theorem dX8_putOne_99 : decode cX8_putOne 99 = .ok (.if_icmp .ge 70, 3) := by decide +kernel
theorem dX8_putOne_102 : decode cX8_putOne 102 = .ok (.aload_n 0, 1) := by decide +kernel
theorem dX8_putOne_103 : decode cX8_putOne 103 = .ok (.iload_n 3, 1) := by decide +kernel
theorem dX8_putOne_104 : decode cX8_putOne 104 = .ok (.iconst 3, 1) := by decide +kernel
theorem dX8_putOne_105 : decode cX8_putOne 105 = .ok (.if_icmp .ne 7, 3) := by decide +kernel
theorem dX8_putOne_108 : decode cX8_putOne 108 = .ok (.iconst 5, 1) := by decide +kernel
theorem dX8_putOne_109 : decode cX8_putOne 109 = .ok (.goto 15, 3) := by decide +kernel
theorem dX8_putOne_112 : decode cX8_putOne 112 = .ok (.iload_n 3, 1) := by decide +kernel
theorem dX8_putOne_113 : decode cX8_putOne 113 = .ok (.iconst 4, 1) := by decide +kernel
theorem dX8_putOne_114 : decode cX8_putOne 114 = .ok (.if_icmp .ne 8, 3) := by decide +kernel
theorem dX8_putOne_117 : decode cX8_putOne 117 = .ok (.bipush 6, 2) := by decide +kernel
theorem dX8_putOne_119 : decode cX8_putOne 119 = .ok (.goto 5, 3) := by decide +kernel
theorem dX8_putOne_122 : decode cX8_putOne 122 = .ok (.bipush 7, 2) := by decide +kernel
theorem dX8_putOne_124 : decode cX8_putOne 124 = .ok (.invokevirtual 449, 3) := by decide +kernel
theorem dX8_putOne_127 : decode cX8_putOne 127 = .ok (.aload_n 0, 1) := by decide +kernel
theorem dX8_putOne_128 : decode cX8_putOne 128 = .ok (.bipush 32, 2) := by decide +kernel
theorem dX8_putOne_130 : decode cX8_putOne 130 = .ok (.invokevirtual 441, 3) := by decide +kernel
theorem dX8_putOne_133 : decode cX8_putOne 133 = .ok (.iload_n 3, 1) := by decide +kernel
theorem dX8_putOne_134 : decode cX8_putOne 134 = .ok (.iconst 3, 1) := by decide +kernel
theorem dX8_putOne_135 : decode cX8_putOne 135 = .ok (.if_icmp .eq 19, 3) := by decide +kernel
theorem dX8_putOne_138 : decode cX8_putOne 138 = .ok (.aload_n 0, 1) := by decide +kernel
theorem dX8_putOne_139 : decode cX8_putOne 139 = .ok (.aload_n 0, 1) := by decide +kernel
theorem dX8_putOne_140 : decode cX8_putOne 140 = .ok (.getfield 21, 3) := by decide +kernel
theorem dX8_putOne_143 : decode cX8_putOne 143 = .ok (.iload_n 1, 1) := by decide +kernel
theorem dX8_putOne_144 : decode cX8_putOne 144 = .ok (.iaload, 1) := by decide +kernel
theorem dX8_putOne_145 : decode cX8_putOne 145 = .ok (.invokevirtual 452, 3) := by decide +kernel
theorem dX8_putOne_148 : decode cX8_putOne 148 = .ok (.aload_n 0, 1) := by decide +kernel
theorem dX8_putOne_149 : decode cX8_putOne 149 = .ok (.bipush 32, 2) := by decide +kernel
theorem dX8_putOne_151 : decode cX8_putOne 151 = .ok (.invokevirtual 441, 3) := by decide +kernel
theorem dX8_putOne_154 : decode cX8_putOne 154 = .ok (.aload_n 0, 1) := by decide +kernel
theorem dX8_putOne_155 : decode cX8_putOne 155 = .ok (.iconst 0, 1) := by decide +kernel
theorem dX8_putOne_156 : decode cX8_putOne 156 = .ok (.aload_n 0, 1) := by decide +kernel
theorem dX8_putOne_157 : decode cX8_putOne 157 = .ok (.getfield 24, 3) := by decide +kernel
theorem dX8_putOne_160 : decode cX8_putOne 160 = .ok (.iload_n 1, 1) := by decide +kernel
theorem dX8_putOne_161 : decode cX8_putOne 161 = .ok (.iaload, 1) := by decide +kernel
theorem dX8_putOne_162 : decode cX8_putOne 162 = .ok (.iconst 3, 1) := by decide +kernel
theorem dX8_putOne_163 : decode cX8_putOne 163 = .ok (.invokevirtual 443, 3) := by decide +kernel
theorem dX8_putOne_166 : decode cX8_putOne 166 = .ok (.goto 64, 3) := by decide +kernel
theorem dX8_putOne_169 : decode cX8_putOne 169 = .ok (.aload_n 0, 1) := by decide +kernel
theorem dX8_putOne_170 : decode cX8_putOne 170 = .ok (.iconst 0, 1) := by decide +kernel
theorem dX8_putOne_171 : decode cX8_putOne 171 = .ok (.aload_n 0, 1) := by decide +kernel
theorem dX8_putOne_172 : decode cX8_putOne 172 = .ok (.getfield 24, 3) := by decide +kernel
theorem dX8_putOne_175 : decode cX8_putOne 175 = .ok (.iload_n 1, 1) := by decide +kernel
theorem dX8_putOne_176 : decode cX8_putOne 176 = .ok (.iaload, 1) := by decide +kernel
theorem dX8_putOne_177 : decode cX8_putOne 177 = .ok (.iload 4, 2) := by decide +kernel
theorem dX8_putOne_179 : decode cX8_putOne 179 = .ok (.iconst 1, 1) := by decide +kernel
theorem dX8_putOne_180 : decode cX8_putOne 180 = .ok (.iadd, 1) := by decide +kernel
theorem dX8_putOne_181 : decode cX8_putOne 181 = .ok (.invokevirtual 443, 3) := by decide +kernel
theorem dX8_putOne_184 : decode cX8_putOne 184 = .ok (.aload_n 0, 1) := by decide +kernel
theorem dX8_putOne_185 : decode cX8_putOne 185 = .ok (.iconst 1, 1) := by decide +kernel
theorem dX8_putOne_186 : decode cX8_putOne 186 = .ok (.bipush 32, 2) := by decide +kernel
theorem dX8_putOne_188 : decode cX8_putOne 188 = .ok (.iconst 0, 1) := by decide +kernel
theorem dX8_putOne_189 : decode cX8_putOne 189 = .ok (.invokevirtual 443, 3) := by decide +kernel
theorem dX8_putOne_192 : decode cX8_putOne 192 = .ok (.aload_n 0, 1) := by decide +kernel
theorem dX8_putOne_193 : decode cX8_putOne 193 = .ok (.iconst 2, 1) := by decide +kernel
theorem dX8_putOne_194 : decode cX8_putOne 194 = .ok (.iload_n 3, 1) := by decide +kernel
theorem dX8_putOne_195 : decode cX8_putOne 195 = .ok (.bipush 6, 2) := by decide +kernel
theorem dX8_putOne_197 : decode cX8_putOne 197 = .ok (.if_icmp .ne 7, 3) := by decide +kernel
theorem dX8_putOne_200 : decode cX8_putOne 200 = .ok (.iconst 4, 1) := by decide +kernel
theorem dX8_putOne_201 : decode cX8_putOne 201 = .ok (.goto 4, 3) := by decide +kernel
theorem dX8_putOne_204 : decode cX8_putOne 204 = .ok (.iconst 3, 1) := by decide +kernel
theorem dX8_putOne_205 : decode cX8_putOne 205 = .ok (.iconst 0, 1) := by decide +kernel
theorem dX8_putOne_206 : decode cX8_putOne 206 = .ok (.invokevirtual 443, 3) := by decide +kernel
theorem dX8_putOne_209 : decode cX8_putOne 209 = .ok (.aload_n 0, 1) := by decide +kernel
theorem dX8_putOne_210 : decode cX8_putOne 210 = .ok (.iconst 1, 1) := by decide +kernel
theorem dX8_putOne_211 : decode cX8_putOne 211 = .ok (.bipush 32, 2) := by decide +kernel
theorem dX8_putOne_213 : decode cX8_putOne 213 = .ok (.iconst 0, 1) := by decide +kernel
theorem dX8_putOne_214 : decode cX8_putOne 214 = .ok (.invokevirtual 443, 3) := by decide +kernel
theorem dX8_putOne_217 : decode cX8_putOne 217 = .ok (.aload_n 0, 1) := by decide +kernel
theorem dX8_putOne_218 : decode cX8_putOne 218 = .ok (.iconst 0, 1) := by decide +kernel
theorem dX8_putOne_219 : decode cX8_putOne 219 = .ok (.aload_n 0, 1) := by decide +kernel
theorem dX8_putOne_220 : decode cX8_putOne 220 = .ok (.getfield 21, 3) := by decide +kernel
theorem dX8_putOne_223 : decode cX8_putOne 223 = .ok (.iload_n 1, 1) := by decide +kernel
theorem dX8_putOne_224 : decode cX8_putOne 224 = .ok (.iaload, 1) := by decide +kernel
theorem dX8_putOne_225 : decode cX8_putOne 225 = .ok (.iload 4, 2) := by decide +kernel
theorem dX8_putOne_227 : decode cX8_putOne 227 = .ok (.invokevirtual 443, 3) := by decide +kernel
theorem dX8_putOne_230 : decode cX8_putOne 230 = .ok (.return_, 1) := by decide +kernel
theorem dX8_putConcept_0 : decode cX8_putConcept 0 = .ok (.aload_n 0, 1) := by decide +kernel
theorem dX8_putConcept_1 : decode cX8_putConcept 1 = .ok (.iconst 0, 1) := by decide +kernel
theorem dX8_putConcept_2 : decode cX8_putConcept 2 = .ok (.putfield 438, 3) := by decide +kernel
theorem dX8_putConcept_5 : decode cX8_putConcept 5 = .ok (.aload_n 0, 1) := by decide +kernel
theorem dX8_putConcept_6 : decode cX8_putConcept 6 = .ok (.iconst 0, 1) := by decide +kernel
theorem dX8_putConcept_7 : decode cX8_putConcept 7 = .ok (.iload_n 1, 1) := by decide +kernel
theorem dX8_putConcept_8 : decode cX8_putConcept 8 = .ok (.iconst 1, 1) := by decide +kernel
theorem dX8_putConcept_9 : decode cX8_putConcept 9 = .ok (.invokevirtual 443, 3) := by decide +kernel
theorem dX8_putConcept_12 : decode cX8_putConcept 12 = .ok (.aload_n 0, 1) := by decide +kernel
theorem dX8_putConcept_13 : decode cX8_putConcept 13 = .ok (.getfield 438, 3) := by decide +kernel
theorem dX8_putConcept_16 : decode cX8_putConcept 16 = .ok (.ifCond .le 95, 3) := by decide +kernel
theorem dX8_putConcept_19 : decode cX8_putConcept 19 = .ok (.aload_n 0, 1) := by decide +kernel
theorem dX8_putConcept_20 : decode cX8_putConcept 20 = .ok (.dup, 1) := by decide +kernel
theorem dX8_putConcept_21 : decode cX8_putConcept 21 = .ok (.getfield 438, 3) := by decide +kernel
theorem dX8_putConcept_24 : decode cX8_putConcept 24 = .ok (.iconst 1, 1) := by decide +kernel
theorem dX8_putConcept_25 : decode cX8_putConcept 25 = .ok (.isub, 1) := by decide +kernel
theorem dX8_putConcept_26 : decode cX8_putConcept 26 = .ok (.putfield 438, 3) := by decide +kernel
theorem dX8_putConcept_29 : decode cX8_putConcept 29 = .ok (.aload_n 0, 1) := by decide +kernel
theorem dX8_putConcept_30 : decode cX8_putConcept 30 = .ok (.getfield 138, 3) := by decide +kernel
theorem dX8_putConcept_33 : decode cX8_putConcept 33 = .ok (.aload_n 0, 1) := by decide +kernel
theorem dX8_putConcept_34 : decode cX8_putConcept 34 = .ok (.getfield 438, 3) := by decide +kernel
theorem dX8_putConcept_37 : decode cX8_putConcept 37 = .ok (.iaload, 1) := by decide +kernel
theorem dX8_putConcept_38 : decode cX8_putConcept 38 = .ok (.ifCond .ne 28, 3) := by decide +kernel
theorem dX8_putConcept_41 : decode cX8_putConcept 41 = .ok (.aload_n 0, 1) := by decide +kernel
theorem dX8_putConcept_42 : decode cX8_putConcept 42 = .ok (.aload_n 0, 1) := by decide +kernel
theorem dX8_putConcept_43 : decode cX8_putConcept 43 = .ok (.getfield 141, 3) := by decide +kernel
theorem dX8_putConcept_46 : decode cX8_putConcept 46 = .ok (.aload_n 0, 1) := by decide +kernel
theorem dX8_putConcept_47 : decode cX8_putConcept 47 = .ok (.getfield 438, 3) := by decide +kernel
theorem dX8_putConcept_50 : decode cX8_putConcept 50 = .ok (.iaload, 1) := by decide +kernel
theorem dX8_putConcept_51 : decode cX8_putConcept 51 = .ok (.aload_n 0, 1) := by decide +kernel
theorem dX8_putConcept_52 : decode cX8_putConcept 52 = .ok (.getfield 144, 3) := by decide +kernel
theorem dX8_putConcept_55 : decode cX8_putConcept 55 = .ok (.aload_n 0, 1) := by decide +kernel
theorem dX8_putConcept_56 : decode cX8_putConcept 56 = .ok (.getfield 438, 3) := by decide +kernel
theorem dX8_putConcept_59 : decode cX8_putConcept 59 = .ok (.iaload, 1) := by decide +kernel
theorem dX8_putConcept_60 : decode cX8_putConcept 60 = .ok (.invokevirtual 455, 3) := by decide +kernel
theorem dX8_putConcept_63 : decode cX8_putConcept 63 = .ok (.goto (-51), 3) := by decide +kernel
theorem dX8_putConcept_66 : decode cX8_putConcept 66 = .ok (.aload_n 0, 1) := by decide +kernel
theorem dX8_putConcept_67 : decode cX8_putConcept 67 = .ok (.getfield 138, 3) := by decide +kernel
theorem dX8_putConcept_70 : decode cX8_putConcept 70 = .ok (.aload_n 0, 1) := by decide +kernel
theorem dX8_putConcept_71 : decode cX8_putConcept 71 = .ok (.getfield 438, 3) := by decide +kernel
theorem dX8_putConcept_74 : decode cX8_putConcept 74 = .ok (.iaload, 1) := by decide +kernel
theorem dX8_putConcept_75 : decode cX8_putConcept 75 = .ok (.iconst 1, 1) := by decide +kernel
theorem dX8_putConcept_76 : decode cX8_putConcept 76 = .ok (.if_icmp .ne 19, 3) := by decide +kernel
theorem dX8_putConcept_79 : decode cX8_putConcept 79 = .ok (.aload_n 0, 1) := by decide +kernel
theorem dX8_putConcept_80 : decode cX8_putConcept 80 = .ok (.aload_n 0, 1) := by decide +kernel
theorem dX8_putConcept_81 : decode cX8_putConcept 81 = .ok (.getfield 141, 3) := by decide +kernel
theorem dX8_putConcept_84 : decode cX8_putConcept 84 = .ok (.aload_n 0, 1) := by decide +kernel
theorem dX8_putConcept_85 : decode cX8_putConcept 85 = .ok (.getfield 438, 3) := by decide +kernel
theorem dX8_putConcept_88 : decode cX8_putConcept 88 = .ok (.iaload, 1) := by decide +kernel
theorem dX8_putConcept_89 : decode cX8_putConcept 89 = .ok (.invokevirtual 441, 3) := by decide +kernel
theorem dX8_putConcept_92 : decode cX8_putConcept 92 = .ok (.goto (-80), 3) := by decide +kernel
theorem dX8_putConcept_95 : decode cX8_putConcept 95 = .ok (.aload_n 0, 1) := by decide +kernel
theorem dX8_putConcept_96 : decode cX8_putConcept 96 = .ok (.aload_n 0, 1) := by decide +kernel
theorem dX8_putConcept_97 : decode cX8_putConcept 97 = .ok (.getfield 141, 3) := by decide +kernel
theorem dX8_putConcept_100 : decode cX8_putConcept 100 = .ok (.aload_n 0, 1) := by decide +kernel
theorem dX8_putConcept_101 : decode cX8_putConcept 101 = .ok (.getfield 438, 3) := by decide +kernel
theorem dX8_putConcept_104 : decode cX8_putConcept 104 = .ok (.iaload, 1) := by decide +kernel
theorem dX8_putConcept_105 : decode cX8_putConcept 105 = .ok (.invokevirtual 449, 3) := by decide +kernel
theorem dX8_putConcept_108 : decode cX8_putConcept 108 = .ok (.goto (-96), 3) := by decide +kernel
theorem dX8_putConcept_111 : decode cX8_putConcept 111 = .ok (.return_, 1) := by decide +kernel
theorem dX8_print_0 : decode cX8_print 0 = .ok (.aload_n 0, 1) := by decide +kernel
theorem dX8_print_1 : decode cX8_print 1 = .ok (.getfield 356, 3) := by decide +kernel
theorem dX8_print_4 : decode cX8_print 4 = .ok (.ifCond .ne 6, 3) := by decide +kernel
theorem dX8_print_7 : decode cX8_print 7 = .ok (.bipush (-101), 2) := by decide +kernel
theorem dX8_print_9 : decode cX8_print 9 = .ok (.ireturn, 1) := by decide +kernel
theorem dX8_print_10 : decode cX8_print 10 = .ok (.aload_n 0, 1) := by decide +kernel
theorem dX8_print_11 : decode cX8_print 11 = .ok (.iconst 0, 1) := by decide +kernel
theorem dX8_print_12 : decode cX8_print 12 = .ok (.putfield 402, 3) := by decide +kernel
theorem dX8_print_15 : decode cX8_print 15 = .ok (.iconst 0, 1) := by decide +kernel
theorem dX8_print_16 : decode cX8_print 16 = .ok (.istore_n 1, 1) := by decide +kernel
theorem dX8_print_17 : decode cX8_print 17 = .ok (.iload_n 1, 1) := by decide +kernel
theorem dX8_print_18 : decode cX8_print 18 = .ok (.aload_n 0, 1) := by decide +kernel
theorem dX8_print_19 : decode cX8_print 19 = .ok (.getfield 338, 3) := by decide +kernel
theorem dX8_print_22 : decode cX8_print 22 = .ok (.if_icmp .ge 163, 3) := by decide +kernel
theorem dX8_print_25 : decode cX8_print 25 = .ok (.aload_n 0, 1) := by decide +kernel
theorem dX8_print_26 : decode cX8_print 26 = .ok (.getfield 36, 3) := by decide +kernel
theorem dX8_print_29 : decode cX8_print 29 = .ok (.iload_n 1, 1) := by decide +kernel
theorem dX8_print_30 : decode cX8_print 30 = .ok (.iaload, 1) := by decide +kernel
theorem dX8_print_31 : decode cX8_print 31 = .ok (.iconst 2, 1) := by decide +kernel
theorem dX8_print_32 : decode cX8_print 32 = .ok (.if_icmp .ge 58, 3) := by decide +kernel
theorem dX8_print_35 : decode cX8_print 35 = .ok (.aload_n 0, 1) := by decide +kernel
theorem dX8_print_36 : decode cX8_print 36 = .ok (.aload_n 0, 1) := by decide +kernel
theorem dX8_print_37 : decode cX8_print 37 = .ok (.getfield 39, 3) := by decide +kernel
theorem dX8_print_40 : decode cX8_print 40 = .ok (.iload_n 1, 1) := by decide +kernel
theorem dX8_print_41 : decode cX8_print 41 = .ok (.iaload, 1) := by decide +kernel
theorem dX8_print_42 : decode cX8_print 42 = .ok (.invokevirtual 458, 3) := by decide +kernel
theorem dX8_print_45 : decode cX8_print 45 = .ok (.aload_n 0, 1) := by decide +kernel
theorem dX8_print_46 : decode cX8_print 46 = .ok (.bipush 32, 2) := by decide +kernel
theorem dX8_print_48 : decode cX8_print 48 = .ok (.invokevirtual 441, 3) := by decide +kernel
theorem dX8_print_51 : decode cX8_print 51 = .ok (.aload_n 0, 1) := by decide +kernel
theorem dX8_print_52 : decode cX8_print 52 = .ok (.aload_n 0, 1) := by decide +kernel
theorem dX8_print_53 : decode cX8_print 53 = .ok (.getfield 36, 3) := by decide +kernel
theorem dX8_print_56 : decode cX8_print 56 = .ok (.iload_n 1, 1) := by decide +kernel
theorem dX8_print_57 : decode cX8_print 57 = .ok (.iaload, 1) := by decide +kernel
theorem dX8_print_58 : decode cX8_print 58 = .ok (.ifCond .ne 8, 3) := by decide +kernel
theorem dX8_print_61 : decode cX8_print 61 = .ok (.bipush 60, 2) := by decide +kernel
theorem dX8_print_63 : decode cX8_print 63 = .ok (.goto 5, 3) := by decide +kernel
theorem dX8_print_66 : decode cX8_print 66 = .ok (.bipush 61, 2) := by decide +kernel
theorem dX8_print_68 : decode cX8_print 68 = .ok (.invokevirtual 441, 3) := by decide +kernel
theorem dX8_print_71 : decode cX8_print 71 = .ok (.aload_n 0, 1) := by decide +kernel
theorem dX8_print_72 : decode cX8_print 72 = .ok (.bipush 32, 2) := by decide +kernel
theorem dX8_print_74 : decode cX8_print 74 = .ok (.invokevirtual 441, 3) := by decide +kernel
theorem dX8_print_77 : decode cX8_print 77 = .ok (.aload_n 0, 1) := by decide +kernel
theorem dX8_print_78 : decode cX8_print 78 = .ok (.aload_n 0, 1) := by decide +kernel
theorem dX8_print_79 : decode cX8_print 79 = .ok (.getfield 42, 3) := by decide +kernel
theorem dX8_print_82 : decode cX8_print 82 = .ok (.iload_n 1, 1) := by decide +kernel
theorem dX8_print_83 : decode cX8_print 83 = .ok (.iaload, 1) := by decide +kernel
theorem dX8_print_84 : decode cX8_print 84 = .ok (.invokevirtual 458, 3) := by decide +kernel
theorem dX8_print_87 : decode cX8_print 87 = .ok (.goto 80, 3) := by decide +kernel
theorem dX8_print_90 : decode cX8_print 90 = .ok (.aload_n 0, 1) := by decide +kernel
theorem dX8_print_91 : decode cX8_print 91 = .ok (.aload_n 0, 1) := by decide +kernel
theorem dX8_print_92 : decode cX8_print 92 = .ok (.getfield 36, 3) := by decide +kernel
theorem dX8_print_95 : decode cX8_print 95 = .ok (.iload_n 1, 1) := by decide +kernel
theorem dX8_print_96 : decode cX8_print 96 = .ok (.iaload, 1) := by decide +kernel
theorem dX8_print_97 : decode cX8_print 97 = .ok (.iconst 2, 1) := by decide +kernel
theorem dX8_print_98 : decode cX8_print 98 = .ok (.isub, 1) := by decide +kernel
theorem dX8_print_99 : decode cX8_print 99 = .ok (.invokevirtual 449, 3) := by decide +kernel
theorem dX8_print_102 : decode cX8_print 102 = .ok (.aload_n 0, 1) := by decide +kernel
theorem dX8_print_103 : decode cX8_print 103 = .ok (.bipush 32, 2) := by decide +kernel
theorem dX8_print_105 : decode cX8_print 105 = .ok (.invokevirtual 441, 3) := by decide +kernel
theorem dX8_print_108 : decode cX8_print 108 = .ok (.aload_n 0, 1) := by decide +kernel
theorem dX8_print_109 : decode cX8_print 109 = .ok (.getfield 36, 3) := by decide +kernel
theorem dX8_print_112 : decode cX8_print 112 = .ok (.iload_n 1, 1) := by decide +kernel
theorem dX8_print_113 : decode cX8_print 113 = .ok (.iaload, 1) := by decide +kernel
theorem dX8_print_114 : decode cX8_print 114 = .ok (.iconst 2, 1) := by decide +kernel
theorem dX8_print_115 : decode cX8_print 115 = .ok (.if_icmp .ne 16, 3) := by decide +kernel
theorem dX8_print_118 : decode cX8_print 118 = .ok (.aload_n 0, 1) := by decide +kernel
theorem dX8_print_119 : decode cX8_print 119 = .ok (.aload_n 0, 1) := by decide +kernel
theorem dX8_print_120 : decode cX8_print 120 = .ok (.getfield 39, 3) := by decide +kernel
theorem dX8_print_123 : decode cX8_print 123 = .ok (.iload_n 1, 1) := by decide +kernel
theorem dX8_print_124 : decode cX8_print 124 = .ok (.iaload, 1) := by decide +kernel
theorem dX8_print_125 : decode cX8_print 125 = .ok (.invokevirtual 458, 3) := by decide +kernel
theorem dX8_print_128 : decode cX8_print 128 = .ok (.goto 13, 3) := by decide +kernel
theorem dX8_print_131 : decode cX8_print 131 = .ok (.aload_n 0, 1) := by decide +kernel
theorem dX8_print_132 : decode cX8_print 132 = .ok (.aload_n 0, 1) := by decide +kernel
theorem dX8_print_133 : decode cX8_print 133 = .ok (.getfield 39, 3) := by decide +kernel
theorem dX8_print_136 : decode cX8_print 136 = .ok (.iload_n 1, 1) := by decide +kernel
theorem dX8_print_137 : decode cX8_print 137 = .ok (.iaload, 1) := by decide +kernel
theorem dX8_print_138 : decode cX8_print 138 = .ok (.invokevirtual 452, 3) := by decide +kernel
theorem dX8_print_141 : decode cX8_print 141 = .ok (.aload_n 0, 1) := by decide +kernel
theorem dX8_print_142 : decode cX8_print 142 = .ok (.getfield 36, 3) := by decide +kernel
theorem dX8_print_145 : decode cX8_print 145 = .ok (.iload_n 1, 1) := by decide +kernel
theorem dX8_print_146 : decode cX8_print 146 = .ok (.iaload, 1) := by decide +kernel
theorem dX8_print_147 : decode cX8_print 147 = .ok (.iconst 3, 1) := by decide +kernel
theorem dX8_print_148 : decode cX8_print 148 = .ok (.if_icmp .ne 19, 3) := by decide +kernel
theorem dX8_print_151 : decode cX8_print 151 = .ok (.aload_n 0, 1) := by decide +kernel
theorem dX8_print_152 : decode cX8_print 152 = .ok (.bipush 32, 2) := by decide +kernel
theorem dX8_print_154 : decode cX8_print 154 = .ok (.invokevirtual 441, 3) := by decide +kernel
theorem dX8_print_157 : decode cX8_print 157 = .ok (.aload_n 0, 1) := by decide +kernel
theorem dX8_print_158 : decode cX8_print 158 = .ok (.aload_n 0, 1) := by decide +kernel
theorem dX8_print_159 : decode cX8_print 159 = .ok (.getfield 42, 3) := by decide +kernel
theorem dX8_print_162 : decode cX8_print 162 = .ok (.iload_n 1, 1) := by decide +kernel
theorem dX8_print_163 : decode cX8_print 163 = .ok (.iaload, 1) := by decide +kernel
theorem dX8_print_164 : decode cX8_print 164 = .ok (.invokevirtual 452, 3) := by decide +kernel
theorem dX8_print_167 : decode cX8_print 167 = .ok (.aload_n 0, 1) := by decide +kernel
theorem dX8_print_168 : decode cX8_print 168 = .ok (.bipush 59, 2) := by decide +kernel
theorem dX8_print_170 : decode cX8_print 170 = .ok (.invokevirtual 441, 3) := by decide +kernel
theorem dX8_print_173 : decode cX8_print 173 = .ok (.aload_n 0, 1) := by decide +kernel
theorem dX8_print_174 : decode cX8_print 174 = .ok (.bipush 10, 2) := by decide +kernel
theorem dX8_print_176 : decode cX8_print 176 = .ok (.invokevirtual 441, 3) := by decide +kernel
theorem dX8_print_179 : decode cX8_print 179 = .ok (.iinc 1 1, 3) := by decide +kernel
theorem dX8_print_182 : decode cX8_print 182 = .ok (.goto (-165), 3) := by decide +kernel
theorem dX8_print_185 : decode cX8_print 185 = .ok (.aload_n 0, 1) := by decide +kernel
theorem dX8_print_186 : decode cX8_print 186 = .ok (.getfield 402, 3) := by decide +kernel
theorem dX8_print_189 : decode cX8_print 189 = .ok (.ireturn, 1) := by decide +kernel
theorem dX8_out_0 : decode cX8_out 0 = .ok (.iload_n 1, 1) := by decide +kernel
theorem dX8_out_1 : decode cX8_out 1 = .ok (.i2l, 1) := by decide +kernel
theorem dX8_out_2 : decode cX8_out 2 = .ok (.lconst 0, 1) := by decide +kernel
theorem dX8_out_3 : decode cX8_out 3 = .ok (.aload_n 0, 1) := by decide +kernel
theorem dX8_out_4 : decode cX8_out 4 = .ok (.getfield 402, 3) := by decide +kernel
theorem dX8_out_7 : decode cX8_out 7 = .ok (.iconst 1, 1) := by decide +kernel
theorem dX8_out_8 : decode cX8_out 8 = .ok (.isub, 1) := by decide +kernel
theorem dX8_out_9 : decode cX8_out 9 = .ok (.i2l, 1) := by decide +kernel
theorem dX8_out_10 : decode cX8_out 10 = .ok (.invokestatic 154, 3) := by decide +kernel
theorem dX8_out_13 : decode cX8_out 13 = .ok (.ifCond .eq 12, 3) := by decide +kernel
theorem dX8_out_16 : decode cX8_out 16 = .ok (.aload_n 0, 1) := by decide +kernel
theorem dX8_out_17 : decode cX8_out 17 = .ok (.getfield 135, 3) := by decide +kernel
theorem dX8_out_20 : decode cX8_out 20 = .ok (.iload_n 1, 1) := by decide +kernel
theorem dX8_out_21 : decode cX8_out 21 = .ok (.baload, 1) := by decide +kernel
theorem dX8_out_22 : decode cX8_out 22 = .ok (.goto 4, 3) := by decide +kernel
theorem dX8_out_25 : decode cX8_out 25 = .ok (.iconst (-1), 1) := by decide +kernel
theorem dX8_out_26 : decode cX8_out 26 = .ok (.ireturn, 1) := by decide +kernel
theorem dX8_back_0 : decode cX8_back 0 = .ok (.aload_n 0, 1) := by decide +kernel
theorem dX8_back_1 : decode cX8_back 1 = .ok (.getfield 402, 3) := by decide +kernel
theorem dX8_back_4 : decode cX8_back 4 = .ok (.sipush 2000, 3) := by decide +kernel
theorem dX8_back_7 : decode cX8_back 7 = .ok (.if_icmp .ge 10, 3) := by decide +kernel
theorem dX8_back_10 : decode cX8_back 10 = .ok (.aload_n 0, 1) := by decide +kernel
theorem dX8_back_11 : decode cX8_back 11 = .ok (.getfield 402, 3) := by decide +kernel
theorem dX8_back_14 : decode cX8_back 14 = .ok (.goto 6, 3) := by decide +kernel
theorem dX8_back_17 : decode cX8_back 17 = .ok (.sipush 2000, 3) := by decide +kernel
theorem dX8_back_20 : decode cX8_back 20 = .ok (.istore_n 1, 1) := by decide +kernel
theorem dX8_back_21 : decode cX8_back 21 = .ok (.iconst 0, 1) := by decide +kernel
theorem dX8_back_22 : decode cX8_back 22 = .ok (.istore_n 2, 1) := by decide +kernel
theorem dX8_back_23 : decode cX8_back 23 = .ok (.iload_n 2, 1) := by decide +kernel
theorem dX8_back_24 : decode cX8_back 24 = .ok (.iload_n 1, 1) := by decide +kernel
theorem dX8_back_25 : decode cX8_back 25 = .ok (.if_icmp .ge 21, 3) := by decide +kernel
theorem dX8_back_28 : decode cX8_back 28 = .ok (.aload_n 0, 1) := by decide +kernel
theorem dX8_back_29 : decode cX8_back 29 = .ok (.getfield 7, 3) := by decide +kernel
theorem dX8_back_32 : decode cX8_back 32 = .ok (.iload_n 2, 1) := by decide +kernel
theorem dX8_back_33 : decode cX8_back 33 = .ok (.aload_n 0, 1) := by decide +kernel
theorem dX8_back_34 : decode cX8_back 34 = .ok (.getfield 135, 3) := by decide +kernel
theorem dX8_back_37 : decode cX8_back 37 = .ok (.iload_n 2, 1) := by decide +kernel
theorem dX8_back_38 : decode cX8_back 38 = .ok (.baload, 1) := by decide +kernel
theorem dX8_back_39 : decode cX8_back 39 = .ok (.bastore, 1) := by decide +kernel
theorem dX8_back_40 : decode cX8_back 40 = .ok (.iinc 2 1, 3) := by decide +kernel
theorem dX8_back_43 : decode cX8_back 43 = .ok (.goto (-20), 3) := by decide +kernel
theorem dX8_back_46 : decode cX8_back 46 = .ok (.aload_n 0, 1) := by decide +kernel
theorem dX8_back_47 : decode cX8_back 47 = .ok (.iload_n 1, 1) := by decide +kernel
theorem dX8_back_48 : decode cX8_back 48 = .ok (.putfield 147, 3) := by decide +kernel
theorem dX8_back_51 : decode cX8_back 51 = .ok (.iload_n 1, 1) := by decide +kernel
theorem dX8_back_52 : decode cX8_back 52 = .ok (.ireturn, 1) := by decide +kernel
theorem dJ13_bitCount_95d88_0 : decode cJ13_bitCount_95d88 0 = .ok (.lload_n 0, 1) := by decide +kernel
theorem dJ13_bitCount_95d88_1 : decode cJ13_bitCount_95d88 1 = .ok (.lload_n 0, 1) := by decide +kernel
theorem dJ13_bitCount_95d88_2 : decode cJ13_bitCount_95d88 2 = .ok (.iconst 1, 1) := by decide +kernel
theorem dJ13_bitCount_95d88_3 : decode cJ13_bitCount_95d88 3 = .ok (.lushr, 1) := by decide +kernel
theorem dJ13_bitCount_95d88_4 : decode cJ13_bitCount_95d88 4 = .ok (.ldc2_w 314, 3) := by decide +kernel
theorem dJ13_bitCount_95d88_7 : decode cJ13_bitCount_95d88 7 = .ok (.land, 1) := by decide +kernel
theorem dJ13_bitCount_95d88_8 : decode cJ13_bitCount_95d88 8 = .ok (.lsub, 1) := by decide +kernel
theorem dJ13_bitCount_95d88_9 : decode cJ13_bitCount_95d88 9 = .ok (.lstore_n 0, 1) := by decide +kernel
theorem dJ13_bitCount_95d88_10 : decode cJ13_bitCount_95d88 10 = .ok (.lload_n 0, 1) := by decide +kernel
theorem dJ13_bitCount_95d88_11 : decode cJ13_bitCount_95d88 11 = .ok (.ldc2_w 316, 3) := by decide +kernel
theorem dJ13_bitCount_95d88_14 : decode cJ13_bitCount_95d88 14 = .ok (.land, 1) := by decide +kernel
theorem dJ13_bitCount_95d88_15 : decode cJ13_bitCount_95d88 15 = .ok (.lload_n 0, 1) := by decide +kernel
theorem dJ13_bitCount_95d88_16 : decode cJ13_bitCount_95d88 16 = .ok (.iconst 2, 1) := by decide +kernel
theorem dJ13_bitCount_95d88_17 : decode cJ13_bitCount_95d88 17 = .ok (.lushr, 1) := by decide +kernel
theorem dJ13_bitCount_95d88_18 : decode cJ13_bitCount_95d88 18 = .ok (.ldc2_w 316, 3) := by decide +kernel
theorem dJ13_bitCount_95d88_21 : decode cJ13_bitCount_95d88 21 = .ok (.land, 1) := by decide +kernel
theorem dJ13_bitCount_95d88_22 : decode cJ13_bitCount_95d88 22 = .ok (.ladd, 1) := by decide +kernel
theorem dJ13_bitCount_95d88_23 : decode cJ13_bitCount_95d88 23 = .ok (.lstore_n 0, 1) := by decide +kernel
theorem dJ13_bitCount_95d88_24 : decode cJ13_bitCount_95d88 24 = .ok (.lload_n 0, 1) := by decide +kernel
theorem dJ13_bitCount_95d88_25 : decode cJ13_bitCount_95d88 25 = .ok (.lload_n 0, 1) := by decide +kernel
theorem dJ13_bitCount_95d88_26 : decode cJ13_bitCount_95d88 26 = .ok (.iconst 4, 1) := by decide +kernel
theorem dJ13_bitCount_95d88_27 : decode cJ13_bitCount_95d88 27 = .ok (.lushr, 1) := by decide +kernel
theorem dJ13_bitCount_95d88_28 : decode cJ13_bitCount_95d88 28 = .ok (.ladd, 1) := by decide +kernel
theorem dJ13_bitCount_95d88_29 : decode cJ13_bitCount_95d88 29 = .ok (.ldc2_w 318, 3) := by decide +kernel
theorem dJ13_bitCount_95d88_32 : decode cJ13_bitCount_95d88 32 = .ok (.land, 1) := by decide +kernel
theorem dJ13_bitCount_95d88_33 : decode cJ13_bitCount_95d88 33 = .ok (.lstore_n 0, 1) := by decide +kernel
theorem dJ13_bitCount_95d88_34 : decode cJ13_bitCount_95d88 34 = .ok (.lload_n 0, 1) := by decide +kernel
theorem dJ13_bitCount_95d88_35 : decode cJ13_bitCount_95d88 35 = .ok (.lload_n 0, 1) := by decide +kernel
theorem dJ13_bitCount_95d88_36 : decode cJ13_bitCount_95d88 36 = .ok (.bipush 8, 2) := by decide +kernel
theorem dJ13_bitCount_95d88_38 : decode cJ13_bitCount_95d88 38 = .ok (.lushr, 1) := by decide +kernel
theorem dJ13_bitCount_95d88_39 : decode cJ13_bitCount_95d88 39 = .ok (.ladd, 1) := by decide +kernel
theorem dJ13_bitCount_95d88_40 : decode cJ13_bitCount_95d88 40 = .ok (.lstore_n 0, 1) := by decide +kernel
theorem dJ13_bitCount_95d88_41 : decode cJ13_bitCount_95d88 41 = .ok (.lload_n 0, 1) := by decide +kernel
theorem dJ13_bitCount_95d88_42 : decode cJ13_bitCount_95d88 42 = .ok (.lload_n 0, 1) := by decide +kernel
theorem dJ13_bitCount_95d88_43 : decode cJ13_bitCount_95d88 43 = .ok (.bipush 16, 2) := by decide +kernel
theorem dJ13_bitCount_95d88_45 : decode cJ13_bitCount_95d88 45 = .ok (.lushr, 1) := by decide +kernel
theorem dJ13_bitCount_95d88_46 : decode cJ13_bitCount_95d88 46 = .ok (.ladd, 1) := by decide +kernel
theorem dJ13_bitCount_95d88_47 : decode cJ13_bitCount_95d88 47 = .ok (.lstore_n 0, 1) := by decide +kernel
theorem dJ13_bitCount_95d88_48 : decode cJ13_bitCount_95d88 48 = .ok (.lload_n 0, 1) := by decide +kernel
theorem dJ13_bitCount_95d88_49 : decode cJ13_bitCount_95d88 49 = .ok (.lload_n 0, 1) := by decide +kernel
theorem dJ13_bitCount_95d88_50 : decode cJ13_bitCount_95d88 50 = .ok (.bipush 32, 2) := by decide +kernel
theorem dJ13_bitCount_95d88_52 : decode cJ13_bitCount_95d88 52 = .ok (.lushr, 1) := by decide +kernel
theorem dJ13_bitCount_95d88_53 : decode cJ13_bitCount_95d88 53 = .ok (.ladd, 1) := by decide +kernel
theorem dJ13_bitCount_95d88_54 : decode cJ13_bitCount_95d88 54 = .ok (.lstore_n 0, 1) := by decide +kernel
theorem dJ13_bitCount_95d88_55 : decode cJ13_bitCount_95d88 55 = .ok (.lload_n 0, 1) := by decide +kernel
theorem dJ13_bitCount_95d88_56 : decode cJ13_bitCount_95d88 56 = .ok (.l2i, 1) := by decide +kernel
theorem dJ13_bitCount_95d88_57 : decode cJ13_bitCount_95d88 57 = .ok (.bipush 127, 2) := by decide +kernel
theorem dJ13_bitCount_95d88_59 : decode cJ13_bitCount_95d88 59 = .ok (.iand, 1) := by decide +kernel
theorem dJ13_bitCount_95d88_60 : decode cJ13_bitCount_95d88 60 = .ok (.ireturn, 1) := by decide +kernel
