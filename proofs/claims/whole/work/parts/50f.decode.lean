theorem dX7_read_34 : decode cX7_read 34 = .ok (.aload_n 0, 1) := by decide +kernel
theorem dX7_read_35 : decode cX7_read 35 = .ok (.getfield 16, 3) := by decide +kernel
theorem dX7_read_38 : decode cX7_read 38 = .ok (.astore_n 2, 1) := by decide +kernel
theorem dX7_read_39 : decode cX7_read 39 = .ok (.aload_n 0, 1) := by decide +kernel
theorem dX7_read_40 : decode cX7_read 40 = .ok (.aload_n 0, 1) := by decide +kernel
theorem dX7_read_41 : decode cX7_read 41 = .ok (.getfield 20, 3) := by decide +kernel
theorem dX7_read_44 : decode cX7_read 44 = .ok (.putfield 16, 3) := by decide +kernel
theorem dX7_read_47 : decode cX7_read 47 = .ok (.aload_n 0, 1) := by decide +kernel
theorem dX7_read_48 : decode cX7_read 48 = .ok (.aload_n 2, 1) := by decide +kernel
theorem dX7_read_49 : decode cX7_read 49 = .ok (.putfield 20, 3) := by decide +kernel
theorem dX7_read_52 : decode cX7_read 52 = .ok (.aload_n 0, 1) := by decide +kernel
theorem dX7_read_53 : decode cX7_read 53 = .ok (.iconst 1, 1) := by decide +kernel
theorem dX7_read_54 : decode cX7_read 54 = .ok (.putfield 70, 3) := by decide +kernel
theorem dX7_read_57 : decode cX7_read 57 = .ok (.aload_n 0, 1) := by decide +kernel
theorem dX7_read_58 : decode cX7_read 58 = .ok (.getfield 37, 3) := by decide +kernel
theorem dX7_read_61 : decode cX7_read 61 = .ok (.aload_n 0, 1) := by decide +kernel
theorem dX7_read_62 : decode cX7_read 62 = .ok (.getfield 16, 3) := by decide +kernel
theorem dX7_read_65 : decode cX7_read 65 = .ok (.invokevirtual 74, 3) := by decide +kernel
theorem dX7_read_68 : decode cX7_read 68 = .ok (.aload_n 0, 1) := by decide +kernel
theorem dX7_read_69 : decode cX7_read 69 = .ok (.getfield 44, 3) := by decide +kernel
theorem dX7_read_72 : decode cX7_read 72 = .ok (.invokevirtual 77, 3) := by decide +kernel
theorem dX7_read_75 : decode cX7_read 75 = .ok (.aload_n 0, 1) := by decide +kernel
theorem dX7_read_76 : decode cX7_read 76 = .ok (.getfield 16, 3) := by decide +kernel
theorem dX7_read_79 : decode cX7_read 79 = .ok (.getfield 80, 3) := by decide +kernel
theorem dX7_read_82 : decode cX7_read 82 = .ok (.ireturn, 1) := by decide +kernel
theorem dX7_place_0 : decode cX7_place 0 = .ok (.aload_n 0, 1) := by decide +kernel
theorem dX7_place_1 : decode cX7_place 1 = .ok (.getfield 28, 3) := by decide +kernel
theorem dX7_place_4 : decode cX7_place 4 = .ok (.getfield 83, 3) := by decide +kernel
theorem dX7_place_7 : decode cX7_place 7 = .ok (.ireturn, 1) := by decide +kernel
theorem dX7_count_0 : decode cX7_count 0 = .ok (.iload_n 1, 1) := by decide +kernel
theorem dX7_count_1 : decode cX7_count 1 = .ok (.bipush 11, 2) := by decide +kernel
theorem dX7_count_3 : decode cX7_count 3 = .ok (.if_icmp .ne 11, 3) := by decide +kernel
theorem dX7_count_6 : decode cX7_count 6 = .ok (.aload_n 0, 1) := by decide +kernel
theorem dX7_count_7 : decode cX7_count 7 = .ok (.getfield 51, 3) := by decide +kernel
theorem dX7_count_10 : decode cX7_count 10 = .ok (.getfield 86, 3) := by decide +kernel
theorem dX7_count_13 : decode cX7_count 13 = .ok (.ireturn, 1) := by decide +kernel
theorem dX7_count_14 : decode cX7_count 14 = .ok (.aload_n 0, 1) := by decide +kernel
theorem dX7_count_15 : decode cX7_count 15 = .ok (.getfield 70, 3) := by decide +kernel
theorem dX7_count_18 : decode cX7_count 18 = .ok (.ifCond .ne 6, 3) := by decide +kernel
theorem dX7_count_21 : decode cX7_count 21 = .ok (.bipush (-101), 2) := by decide +kernel
theorem dX7_count_23 : decode cX7_count 23 = .ok (.ireturn, 1) := by decide +kernel
theorem dX7_count_24 : decode cX7_count 24 = .ok (.iload_n 1, 1) := by decide +kernel
theorem dX7_count_25 : decode cX7_count 25 = .ok (.tableswitch 164 0 10 #[59, 67, 75, 83, 91, 99, 110, 125, 140, 148, 156], 59) := by decide +kernel
theorem dX7_count_84 : decode cX7_count 84 = .ok (.aload_n 0, 1) := by decide +kernel
theorem dX7_count_85 : decode cX7_count 85 = .ok (.getfield 16, 3) := by decide +kernel
theorem dX7_count_88 : decode cX7_count 88 = .ok (.getfield 89, 3) := by decide +kernel
theorem dX7_count_91 : decode cX7_count 91 = .ok (.ireturn, 1) := by decide +kernel
theorem dX7_count_92 : decode cX7_count 92 = .ok (.aload_n 0, 1) := by decide +kernel
theorem dX7_count_93 : decode cX7_count 93 = .ok (.getfield 16, 3) := by decide +kernel
theorem dX7_count_96 : decode cX7_count 96 = .ok (.getfield 92, 3) := by decide +kernel
theorem dX7_count_99 : decode cX7_count 99 = .ok (.ireturn, 1) := by decide +kernel
theorem dX7_count_100 : decode cX7_count 100 = .ok (.aload_n 0, 1) := by decide +kernel
theorem dX7_count_101 : decode cX7_count 101 = .ok (.getfield 16, 3) := by decide +kernel
theorem dX7_count_104 : decode cX7_count 104 = .ok (.getfield 95, 3) := by decide +kernel
theorem dX7_count_107 : decode cX7_count 107 = .ok (.ireturn, 1) := by decide +kernel
theorem dX7_count_108 : decode cX7_count 108 = .ok (.aload_n 0, 1) := by decide +kernel
theorem dX7_count_109 : decode cX7_count 109 = .ok (.getfield 16, 3) := by decide +kernel
theorem dX7_count_112 : decode cX7_count 112 = .ok (.getfield 98, 3) := by decide +kernel
theorem dX7_count_115 : decode cX7_count 115 = .ok (.ireturn, 1) := by decide +kernel
theorem dX7_count_116 : decode cX7_count 116 = .ok (.aload_n 0, 1) := by decide +kernel
theorem dX7_count_117 : decode cX7_count 117 = .ok (.getfield 16, 3) := by decide +kernel
theorem dX7_count_120 : decode cX7_count 120 = .ok (.getfield 80, 3) := by decide +kernel
theorem dX7_count_123 : decode cX7_count 123 = .ok (.ireturn, 1) := by decide +kernel
theorem dX7_count_124 : decode cX7_count 124 = .ok (.aload_n 0, 1) := by decide +kernel
theorem dX7_count_125 : decode cX7_count 125 = .ok (.getfield 16, 3) := by decide +kernel
theorem dX7_count_128 : decode cX7_count 128 = .ok (.getfield 101, 3) := by decide +kernel
theorem dX7_count_131 : decode cX7_count 131 = .ok (.getfield 105, 3) := by decide +kernel
theorem dX7_count_134 : decode cX7_count 134 = .ok (.ireturn, 1) := by decide +kernel
theorem dX7_count_135 : decode cX7_count 135 = .ok (.aload_n 0, 1) := by decide +kernel
theorem dX7_count_136 : decode cX7_count 136 = .ok (.getfield 37, 3) := by decide +kernel
theorem dX7_count_139 : decode cX7_count 139 = .ok (.aload_n 0, 1) := by decide +kernel
theorem dX7_count_140 : decode cX7_count 140 = .ok (.getfield 37, 3) := by decide +kernel
theorem dX7_count_143 : decode cX7_count 143 = .ok (.getfield 110, 3) := by decide +kernel
theorem dX7_count_146 : decode cX7_count 146 = .ok (.invokevirtual 114, 3) := by decide +kernel
theorem dX7_count_149 : decode cX7_count 149 = .ok (.ireturn, 1) := by decide +kernel
theorem dX7_count_150 : decode cX7_count 150 = .ok (.aload_n 0, 1) := by decide +kernel
theorem dX7_count_151 : decode cX7_count 151 = .ok (.getfield 37, 3) := by decide +kernel
theorem dX7_count_154 : decode cX7_count 154 = .ok (.aload_n 0, 1) := by decide +kernel
theorem dX7_count_155 : decode cX7_count 155 = .ok (.getfield 37, 3) := by decide +kernel
theorem dX7_count_158 : decode cX7_count 158 = .ok (.getfield 118, 3) := by decide +kernel
theorem dX7_count_161 : decode cX7_count 161 = .ok (.invokevirtual 114, 3) := by decide +kernel
theorem dX7_count_164 : decode cX7_count 164 = .ok (.ireturn, 1) := by decide +kernel
theorem dX7_count_165 : decode cX7_count 165 = .ok (.aload_n 0, 1) := by decide +kernel
theorem dX7_count_166 : decode cX7_count 166 = .ok (.getfield 37, 3) := by decide +kernel
theorem dX7_count_169 : decode cX7_count 169 = .ok (.getfield 121, 3) := by decide +kernel
theorem dX7_count_172 : decode cX7_count 172 = .ok (.ireturn, 1) := by decide +kernel
theorem dX7_count_173 : decode cX7_count 173 = .ok (.aload_n 0, 1) := by decide +kernel
theorem dX7_count_174 : decode cX7_count 174 = .ok (.getfield 44, 3) := by decide +kernel
theorem dX7_count_177 : decode cX7_count 177 = .ok (.getfield 124, 3) := by decide +kernel
theorem dX7_count_180 : decode cX7_count 180 = .ok (.ireturn, 1) := by decide +kernel
theorem dX7_count_181 : decode cX7_count 181 = .ok (.aload_n 0, 1) := by decide +kernel
theorem dX7_count_182 : decode cX7_count 182 = .ok (.getfield 44, 3) := by decide +kernel
theorem dX7_count_185 : decode cX7_count 185 = .ok (.getfield 127, 3) := by decide +kernel
theorem dX7_count_188 : decode cX7_count 188 = .ok (.ireturn, 1) := by decide +kernel
theorem dX7_count_189 : decode cX7_count 189 = .ok (.bipush (-103), 2) := by decide +kernel
theorem dX7_count_191 : decode cX7_count 191 = .ok (.ireturn, 1) := by decide +kernel
theorem dX7_atom_0 : decode cX7_atom 0 = .ok (.aload_n 0, 1) := by decide +kernel
theorem dX7_atom_1 : decode cX7_atom 1 = .ok (.getfield 70, 3) := by decide +kernel
theorem dX7_atom_4 : decode cX7_atom 4 = .ok (.ifCond .ne 6, 3) := by decide +kernel
theorem dX7_atom_7 : decode cX7_atom 7 = .ok (.bipush (-101), 2) := by decide +kernel
theorem dX7_atom_9 : decode cX7_atom 9 = .ok (.ireturn, 1) := by decide +kernel
theorem dX7_atom_10 : decode cX7_atom 10 = .ok (.iload_n 1, 1) := by decide +kernel
theorem dX7_atom_11 : decode cX7_atom 11 = .ok (.ifCond .lt 17, 3) := by decide +kernel
theorem dX7_atom_14 : decode cX7_atom 14 = .ok (.iload_n 1, 1) := by decide +kernel
theorem dX7_atom_15 : decode cX7_atom 15 = .ok (.aload_n 0, 1) := by decide +kernel
theorem dX7_atom_16 : decode cX7_atom 16 = .ok (.getfield 16, 3) := by decide +kernel
theorem dX7_atom_19 : decode cX7_atom 19 = .ok (.getfield 101, 3) := by decide +kernel
theorem dX7_atom_22 : decode cX7_atom 22 = .ok (.getfield 105, 3) := by decide +kernel
theorem dX7_atom_25 : decode cX7_atom 25 = .ok (.if_icmp .lt 6, 3) := by decide +kernel
theorem dX7_atom_28 : decode cX7_atom 28 = .ok (.bipush (-102), 2) := by decide +kernel
theorem dX7_atom_30 : decode cX7_atom 30 = .ok (.ireturn, 1) := by decide +kernel
theorem dX7_atom_31 : decode cX7_atom 31 = .ok (.iload_n 2, 1) := by decide +kernel
theorem dX7_atom_32 : decode cX7_atom 32 = .ok (.lookupswitch 52 #[(0, 28), (1, 40)], 28) := by decide +kernel
theorem dX7_atom_60 : decode cX7_atom 60 = .ok (.aload_n 0, 1) := by decide +kernel
theorem dX7_atom_61 : decode cX7_atom 61 = .ok (.getfield 16, 3) := by decide +kernel
theorem dX7_atom_64 : decode cX7_atom 64 = .ok (.getfield 101, 3) := by decide +kernel
theorem dX7_atom_67 : decode cX7_atom 67 = .ok (.iload_n 1, 1) := by decide +kernel
theorem dX7_atom_68 : decode cX7_atom 68 = .ok (.invokevirtual 130, 3) := by decide +kernel
theorem dX7_atom_71 : decode cX7_atom 71 = .ok (.ireturn, 1) := by decide +kernel
theorem dX7_atom_72 : decode cX7_atom 72 = .ok (.aload_n 0, 1) := by decide +kernel
theorem dX7_atom_73 : decode cX7_atom 73 = .ok (.getfield 16, 3) := by decide +kernel
theorem dX7_atom_76 : decode cX7_atom 76 = .ok (.getfield 101, 3) := by decide +kernel
theorem dX7_atom_79 : decode cX7_atom 79 = .ok (.iload_n 1, 1) := by decide +kernel
theorem dX7_atom_80 : decode cX7_atom 80 = .ok (.invokevirtual 134, 3) := by decide +kernel
theorem dX7_atom_83 : decode cX7_atom 83 = .ok (.ireturn, 1) := by decide +kernel
theorem dX7_atom_84 : decode cX7_atom 84 = .ok (.bipush (-103), 2) := by decide +kernel
theorem dX7_atom_86 : decode cX7_atom 86 = .ok (.ireturn, 1) := by decide +kernel
theorem dX7_rank_0 : decode cX7_rank 0 = .ok (.aload_n 0, 1) := by decide +kernel
theorem dX7_rank_1 : decode cX7_rank 1 = .ok (.getfield 70, 3) := by decide +kernel
theorem dX7_rank_4 : decode cX7_rank 4 = .ok (.ifCond .ne 6, 3) := by decide +kernel
theorem dX7_rank_7 : decode cX7_rank 7 = .ok (.bipush (-101), 2) := by decide +kernel
theorem dX7_rank_9 : decode cX7_rank 9 = .ok (.ireturn, 1) := by decide +kernel
theorem dX7_rank_10 : decode cX7_rank 10 = .ok (.aload_n 0, 1) := by decide +kernel
theorem dX7_rank_11 : decode cX7_rank 11 = .ok (.getfield 37, 3) := by decide +kernel
theorem dX7_rank_14 : decode cX7_rank 14 = .ok (.iload_n 1, 1) := by decide +kernel
theorem dX7_rank_15 : decode cX7_rank 15 = .ok (.invokevirtual 137, 3) := by decide +kernel
theorem dX7_rank_18 : decode cX7_rank 18 = .ok (.ifCond .eq 14, 3) := by decide +kernel
theorem dX7_rank_21 : decode cX7_rank 21 = .ok (.aload_n 0, 1) := by decide +kernel
theorem dX7_rank_22 : decode cX7_rank 22 = .ok (.getfield 37, 3) := by decide +kernel
theorem dX7_rank_25 : decode cX7_rank 25 = .ok (.iload_n 1, 1) := by decide +kernel
theorem dX7_rank_26 : decode cX7_rank 26 = .ok (.invokevirtual 141, 3) := by decide +kernel
theorem dX7_rank_29 : decode cX7_rank 29 = .ok (.goto 5, 3) := by decide +kernel
theorem dX7_rank_32 : decode cX7_rank 32 = .ok (.bipush (-102), 2) := by decide +kernel
theorem dX7_rank_34 : decode cX7_rank 34 = .ok (.ireturn, 1) := by decide +kernel
theorem dX7_goes_0 : decode cX7_goes 0 = .ok (.aload_n 0, 1) := by decide +kernel
theorem dX7_goes_1 : decode cX7_goes 1 = .ok (.getfield 70, 3) := by decide +kernel
theorem dX7_goes_4 : decode cX7_goes 4 = .ok (.ifCond .ne 6, 3) := by decide +kernel
theorem dX7_goes_7 : decode cX7_goes 7 = .ok (.bipush (-101), 2) := by decide +kernel
theorem dX7_goes_9 : decode cX7_goes 9 = .ok (.ireturn, 1) := by decide +kernel
theorem dX7_goes_10 : decode cX7_goes 10 = .ok (.aload_n 0, 1) := by decide +kernel
theorem dX7_goes_11 : decode cX7_goes 11 = .ok (.getfield 37, 3) := by decide +kernel
theorem dX7_goes_14 : decode cX7_goes 14 = .ok (.iload_n 1, 1) := by decide +kernel
theorem dX7_goes_15 : decode cX7_goes 15 = .ok (.invokevirtual 137, 3) := by decide +kernel
theorem dX7_goes_18 : decode cX7_goes 18 = .ok (.ifCond .eq 14, 3) := by decide +kernel
theorem dX7_goes_21 : decode cX7_goes 21 = .ok (.aload_n 0, 1) := by decide +kernel
theorem dX7_goes_22 : decode cX7_goes 22 = .ok (.getfield 37, 3) := by decide +kernel
theorem dX7_goes_25 : decode cX7_goes 25 = .ok (.iload_n 3, 1) := by decide +kernel
theorem dX7_goes_26 : decode cX7_goes 26 = .ok (.invokevirtual 137, 3) := by decide +kernel
theorem dX7_goes_29 : decode cX7_goes 29 = .ok (.ifCond .ne 6, 3) := by decide +kernel
theorem dX7_goes_32 : decode cX7_goes 32 = .ok (.bipush (-102), 2) := by decide +kernel
theorem dX7_goes_34 : decode cX7_goes 34 = .ok (.ireturn, 1) := by decide +kernel
theorem dX7_goes_35 : decode cX7_goes 35 = .ok (.iload_n 2, 1) := by decide +kernel
theorem dX7_goes_36 : decode cX7_goes 36 = .ok (.ifCond .lt 14, 3) := by decide +kernel
theorem dX7_goes_39 : decode cX7_goes 39 = .ok (.iload_n 2, 1) := by decide +kernel
theorem dX7_goes_40 : decode cX7_goes 40 = .ok (.aload_n 0, 1) := by decide +kernel
theorem dX7_goes_41 : decode cX7_goes 41 = .ok (.getfield 16, 3) := by decide +kernel
theorem dX7_goes_44 : decode cX7_goes 44 = .ok (.getfield 92, 3) := by decide +kernel
theorem dX7_goes_47 : decode cX7_goes 47 = .ok (.if_icmp .lt 6, 3) := by decide +kernel
theorem dX7_goes_50 : decode cX7_goes 50 = .ok (.bipush (-103), 2) := by decide +kernel
theorem dX7_goes_52 : decode cX7_goes 52 = .ok (.ireturn, 1) := by decide +kernel
theorem dX7_goes_53 : decode cX7_goes 53 = .ok (.aload_n 0, 1) := by decide +kernel
theorem dX7_goes_54 : decode cX7_goes 54 = .ok (.getfield 37, 3) := by decide +kernel
theorem dX7_goes_57 : decode cX7_goes 57 = .ok (.iload_n 1, 1) := by decide +kernel
theorem dX7_goes_58 : decode cX7_goes 58 = .ok (.iload_n 2, 1) := by decide +kernel
theorem dX7_goes_59 : decode cX7_goes 59 = .ok (.iload_n 3, 1) := by decide +kernel
theorem dX7_goes_60 : decode cX7_goes 60 = .ok (.invokevirtual 144, 3) := by decide +kernel
theorem dX7_goes_63 : decode cX7_goes 63 = .ok (.invokestatic 148, 3) := by decide +kernel
theorem dX7_goes_66 : decode cX7_goes 66 = .ok (.ireturn, 1) := by decide +kernel
theorem dX7_at_0 : decode cX7_at 0 = .ok (.aload_n 0, 1) := by decide +kernel
theorem dX7_at_1 : decode cX7_at 1 = .ok (.getfield 70, 3) := by decide +kernel
theorem dX7_at_4 : decode cX7_at 4 = .ok (.ifCond .ne 6, 3) := by decide +kernel
theorem dX7_at_7 : decode cX7_at 7 = .ok (.bipush (-101), 2) := by decide +kernel
theorem dX7_at_9 : decode cX7_at 9 = .ok (.ireturn, 1) := by decide +kernel
theorem dX7_at_10 : decode cX7_at 10 = .ok (.aload_n 0, 1) := by decide +kernel
theorem dX7_at_11 : decode cX7_at 11 = .ok (.iload_n 1, 1) := by decide +kernel
theorem dX7_at_12 : decode cX7_at 12 = .ok (.invokevirtual 152, 3) := by decide +kernel
theorem dX7_at_15 : decode cX7_at 15 = .ok (.ifCond .eq 14, 3) := by decide +kernel
theorem dX7_at_18 : decode cX7_at 18 = .ok (.aload_n 0, 1) := by decide +kernel
theorem dX7_at_19 : decode cX7_at 19 = .ok (.getfield 37, 3) := by decide +kernel
theorem dX7_at_22 : decode cX7_at 22 = .ok (.iload_n 2, 1) := by decide +kernel
theorem dX7_at_23 : decode cX7_at 23 = .ok (.invokevirtual 137, 3) := by decide +kernel
theorem dX7_at_26 : decode cX7_at 26 = .ok (.ifCond .ne 6, 3) := by decide +kernel
theorem dX7_at_29 : decode cX7_at 29 = .ok (.bipush (-102), 2) := by decide +kernel
theorem dX7_at_31 : decode cX7_at 31 = .ok (.ireturn, 1) := by decide +kernel
theorem dX7_at_32 : decode cX7_at 32 = .ok (.aload_n 0, 1) := by decide +kernel
theorem dX7_at_33 : decode cX7_at 33 = .ok (.getfield 37, 3) := by decide +kernel
theorem dX7_at_36 : decode cX7_at 36 = .ok (.aload_n 0, 1) := by decide +kernel
theorem dX7_at_37 : decode cX7_at 37 = .ok (.getfield 16, 3) := by decide +kernel
theorem dX7_at_40 : decode cX7_at 40 = .ok (.iload_n 1, 1) := by decide +kernel
theorem dX7_at_41 : decode cX7_at 41 = .ok (.invokevirtual 155, 3) := by decide +kernel
theorem dX7_at_44 : decode cX7_at 44 = .ok (.iload_n 2, 1) := by decide +kernel
theorem dX7_at_45 : decode cX7_at 45 = .ok (.invokevirtual 158, 3) := by decide +kernel
theorem dX7_at_48 : decode cX7_at 48 = .ok (.invokestatic 148, 3) := by decide +kernel
theorem dX7_at_51 : decode cX7_at 51 = .ok (.ireturn, 1) := by decide +kernel
theorem dX7_ask_0 : decode cX7_ask 0 = .ok (.aload_n 0, 1) := by decide +kernel
theorem dX7_ask_1 : decode cX7_ask 1 = .ok (.getfield 70, 3) := by decide +kernel
theorem dX7_ask_4 : decode cX7_ask 4 = .ok (.ifCond .ne 6, 3) := by decide +kernel
theorem dX7_ask_7 : decode cX7_ask 7 = .ok (.bipush (-101), 2) := by decide +kernel
theorem dX7_ask_9 : decode cX7_ask 9 = .ok (.ireturn, 1) := by decide +kernel
theorem dX7_ask_10 : decode cX7_ask 10 = .ok (.aload_n 0, 1) := by decide +kernel
theorem dX7_ask_11 : decode cX7_ask 11 = .ok (.iload_n 1, 1) := by decide +kernel
theorem dX7_ask_12 : decode cX7_ask 12 = .ok (.invokevirtual 152, 3) := by decide +kernel
theorem dX7_ask_15 : decode cX7_ask 15 = .ok (.ifCond .ne 6, 3) := by decide +kernel
theorem dX7_ask_18 : decode cX7_ask 18 = .ok (.bipush (-102), 2) := by decide +kernel
theorem dX7_ask_20 : decode cX7_ask 20 = .ok (.ireturn, 1) := by decide +kernel
theorem dX7_ask_21 : decode cX7_ask 21 = .ok (.aload_n 0, 1) := by decide +kernel
theorem dX7_ask_22 : decode cX7_ask 22 = .ok (.getfield 37, 3) := by decide +kernel
theorem dX7_ask_25 : decode cX7_ask 25 = .ok (.aload_n 0, 1) := by decide +kernel
theorem dX7_ask_26 : decode cX7_ask 26 = .ok (.getfield 16, 3) := by decide +kernel
theorem dX7_ask_29 : decode cX7_ask 29 = .ok (.iload_n 1, 1) := by decide +kernel
theorem dX7_ask_30 : decode cX7_ask 30 = .ok (.invokevirtual 155, 3) := by decide +kernel
theorem dX7_ask_33 : decode cX7_ask 33 = .ok (.aload_n 0, 1) := by decide +kernel
theorem dX7_ask_34 : decode cX7_ask 34 = .ok (.getfield 37, 3) := by decide +kernel
theorem dX7_ask_37 : decode cX7_ask 37 = .ok (.getfield 118, 3) := by decide +kernel
theorem dX7_ask_40 : decode cX7_ask 40 = .ok (.invokevirtual 162, 3) := by decide +kernel
theorem dX7_ask_43 : decode cX7_ask 43 = .ok (.iconst (-1), 1) := by decide +kernel
theorem dX7_ask_44 : decode cX7_ask 44 = .ok (.if_icmp .eq 7, 3) := by decide +kernel
theorem dX7_ask_47 : decode cX7_ask 47 = .ok (.iconst 1, 1) := by decide +kernel
theorem dX7_ask_48 : decode cX7_ask 48 = .ok (.goto 4, 3) := by decide +kernel
theorem dX7_ask_51 : decode cX7_ask 51 = .ok (.iconst 0, 1) := by decide +kernel
theorem dX7_ask_52 : decode cX7_ask 52 = .ok (.invokestatic 148, 3) := by decide +kernel
theorem dX7_ask_55 : decode cX7_ask 55 = .ok (.ireturn, 1) := by decide +kernel
theorem dX7_isUnder_0 : decode cX7_isUnder 0 = .ok (.aload_n 0, 1) := by decide +kernel
theorem dX7_isUnder_1 : decode cX7_isUnder 1 = .ok (.getfield 70, 3) := by decide +kernel
theorem dX7_isUnder_4 : decode cX7_isUnder 4 = .ok (.ifCond .ne 6, 3) := by decide +kernel
theorem dX7_isUnder_7 : decode cX7_isUnder 7 = .ok (.bipush (-101), 2) := by decide +kernel
theorem dX7_isUnder_9 : decode cX7_isUnder 9 = .ok (.ireturn, 1) := by decide +kernel
theorem dX7_isUnder_10 : decode cX7_isUnder 10 = .ok (.aload_n 0, 1) := by decide +kernel
theorem dX7_isUnder_11 : decode cX7_isUnder 11 = .ok (.iload_n 1, 1) := by decide +kernel
theorem dX7_isUnder_12 : decode cX7_isUnder 12 = .ok (.invokevirtual 166, 3) := by decide +kernel
theorem dX7_isUnder_15 : decode cX7_isUnder 15 = .ok (.ifCond .eq 11, 3) := by decide +kernel
theorem dX7_isUnder_18 : decode cX7_isUnder 18 = .ok (.aload_n 0, 1) := by decide +kernel
theorem dX7_isUnder_19 : decode cX7_isUnder 19 = .ok (.iload_n 2, 1) := by decide +kernel
theorem dX7_isUnder_20 : decode cX7_isUnder 20 = .ok (.invokevirtual 166, 3) := by decide +kernel
theorem dX7_isUnder_23 : decode cX7_isUnder 23 = .ok (.ifCond .ne 6, 3) := by decide +kernel
theorem dX7_isUnder_26 : decode cX7_isUnder 26 = .ok (.bipush (-102), 2) := by decide +kernel
theorem dX7_isUnder_28 : decode cX7_isUnder 28 = .ok (.ireturn, 1) := by decide +kernel
theorem dX7_isUnder_29 : decode cX7_isUnder 29 = .ok (.aload_n 0, 1) := by decide +kernel
theorem dX7_isUnder_30 : decode cX7_isUnder 30 = .ok (.iload_n 1, 1) := by decide +kernel
theorem dX7_isUnder_31 : decode cX7_isUnder 31 = .ok (.iload_n 2, 1) := by decide +kernel
theorem dX7_isUnder_32 : decode cX7_isUnder 32 = .ok (.invokevirtual 169, 3) := by decide +kernel
theorem dX7_isUnder_35 : decode cX7_isUnder 35 = .ok (.invokestatic 148, 3) := by decide +kernel
theorem dX7_isUnder_38 : decode cX7_isUnder 38 = .ok (.ireturn, 1) := by decide +kernel
theorem dX7_next_0 : decode cX7_next 0 = .ok (.aload_n 0, 1) := by decide +kernel
theorem dX7_next_1 : decode cX7_next 1 = .ok (.getfield 70, 3) := by decide +kernel
theorem dX7_next_4 : decode cX7_next 4 = .ok (.ifCond .ne 6, 3) := by decide +kernel
theorem dX7_next_7 : decode cX7_next 7 = .ok (.bipush (-101), 2) := by decide +kernel
theorem dX7_next_9 : decode cX7_next 9 = .ok (.ireturn, 1) := by decide +kernel
theorem dX7_next_10 : decode cX7_next 10 = .ok (.aload_n 0, 1) := by decide +kernel
theorem dX7_next_11 : decode cX7_next 11 = .ok (.iload_n 1, 1) := by decide +kernel
theorem dX7_next_12 : decode cX7_next 12 = .ok (.invokevirtual 166, 3) := by decide +kernel
theorem dX7_next_15 : decode cX7_next 15 = .ok (.ifCond .ne 6, 3) := by decide +kernel
theorem dX7_next_18 : decode cX7_next 18 = .ok (.bipush (-102), 2) := by decide +kernel
theorem dX7_next_20 : decode cX7_next 20 = .ok (.ireturn, 1) := by decide +kernel
theorem dX7_next_21 : decode cX7_next 21 = .ok (.iconst 0, 1) := by decide +kernel
theorem dX7_next_22 : decode cX7_next 22 = .ok (.istore_n 3, 1) := by decide +kernel
theorem dX7_next_23 : decode cX7_next 23 = .ok (.iconst 0, 1) := by decide +kernel
theorem dX7_next_24 : decode cX7_next 24 = .ok (.istore 4, 2) := by decide +kernel
theorem dX7_next_26 : decode cX7_next 26 = .ok (.iload 4, 2) := by decide +kernel
theorem dX7_next_28 : decode cX7_next 28 = .ok (.aload_n 0, 1) := by decide +kernel
theorem dX7_next_29 : decode cX7_next 29 = .ok (.getfield 16, 3) := by decide +kernel
theorem dX7_next_32 : decode cX7_next 32 = .ok (.getfield 89, 3) := by decide +kernel
theorem dX7_next_35 : decode cX7_next 35 = .ok (.if_icmp .ge 30, 3) := by decide +kernel
theorem dX7_next_38 : decode cX7_next 38 = .ok (.aload_n 0, 1) := by decide +kernel
theorem dX7_next_39 : decode cX7_next 39 = .ok (.iload_n 1, 1) := by decide +kernel
theorem dX7_next_40 : decode cX7_next 40 = .ok (.iload 4, 2) := by decide +kernel
theorem dX7_next_42 : decode cX7_next 42 = .ok (.invokevirtual 172, 3) := by decide +kernel
theorem dX7_next_45 : decode cX7_next 45 = .ok (.ifCond .eq 14, 3) := by decide +kernel
theorem dX7_next_48 : decode cX7_next 48 = .ok (.iload_n 3, 1) := by decide +kernel
theorem dX7_next_49 : decode cX7_next 49 = .ok (.iload_n 2, 1) := by decide +kernel
theorem dX7_next_50 : decode cX7_next 50 = .ok (.if_icmp .ne 6, 3) := by decide +kernel
theorem dX7_next_53 : decode cX7_next 53 = .ok (.iload 4, 2) := by decide +kernel
theorem dX7_next_55 : decode cX7_next 55 = .ok (.ireturn, 1) := by decide +kernel
theorem dX7_next_56 : decode cX7_next 56 = .ok (.iinc 3 1, 3) := by decide +kernel
theorem dX7_next_59 : decode cX7_next 59 = .ok (.iinc 4 1, 3) := by decide +kernel
theorem dX7_next_62 : decode cX7_next 62 = .ok (.goto (-36), 3) := by decide +kernel
theorem dX7_next_65 : decode cX7_next 65 = .ok (.iconst (-1), 1) := by decide +kernel
theorem dX7_next_66 : decode cX7_next 66 = .ok (.ireturn, 1) := by decide +kernel
theorem dX7_world_0 : decode cX7_world 0 = .ok (.aload_n 0, 1) := by decide +kernel
theorem dX7_world_1 : decode cX7_world 1 = .ok (.getfield 70, 3) := by decide +kernel
theorem dX7_world_4 : decode cX7_world 4 = .ok (.ifCond .ne 6, 3) := by decide +kernel
theorem dX7_world_7 : decode cX7_world 7 = .ok (.bipush (-101), 2) := by decide +kernel
theorem dX7_world_9 : decode cX7_world 9 = .ok (.ireturn, 1) := by decide +kernel
theorem dX7_world_10 : decode cX7_world 10 = .ok (.aload_n 0, 1) := by decide +kernel
theorem dX7_world_11 : decode cX7_world 11 = .ok (.iload_n 1, 1) := by decide +kernel
theorem dX7_world_12 : decode cX7_world 12 = .ok (.invokevirtual 152, 3) := by decide +kernel
theorem dX7_world_15 : decode cX7_world 15 = .ok (.ifCond .ne 6, 3) := by decide +kernel
theorem dX7_world_18 : decode cX7_world 18 = .ok (.bipush (-102), 2) := by decide +kernel
theorem dX7_world_20 : decode cX7_world 20 = .ok (.ireturn, 1) := by decide +kernel
theorem dX7_world_21 : decode cX7_world 21 = .ok (.aload_n 0, 1) := by decide +kernel
theorem dX7_world_22 : decode cX7_world 22 = .ok (.getfield 44, 3) := by decide +kernel
theorem dX7_world_25 : decode cX7_world 25 = .ok (.aload_n 0, 1) := by decide +kernel
theorem dX7_world_26 : decode cX7_world 26 = .ok (.getfield 37, 3) := by decide +kernel
theorem dX7_world_29 : decode cX7_world 29 = .ok (.aload_n 0, 1) := by decide +kernel
theorem dX7_world_30 : decode cX7_world 30 = .ok (.getfield 16, 3) := by decide +kernel
theorem dX7_world_33 : decode cX7_world 33 = .ok (.iload_n 1, 1) := by decide +kernel
theorem dX7_world_34 : decode cX7_world 34 = .ok (.invokevirtual 155, 3) := by decide +kernel
theorem dX7_world_37 : decode cX7_world 37 = .ok (.invokevirtual 175, 3) := by decide +kernel
theorem dX7_world_40 : decode cX7_world 40 = .ok (.aload_n 0, 1) := by decide +kernel
theorem dX7_world_41 : decode cX7_world 41 = .ok (.getfield 44, 3) := by decide +kernel
theorem dX7_world_44 : decode cX7_world 44 = .ok (.getfield 124, 3) := by decide +kernel
theorem dX7_world_47 : decode cX7_world 47 = .ok (.ireturn, 1) := by decide +kernel
theorem dX7_thing_0 : decode cX7_thing 0 = .ok (.aload_n 0, 1) := by decide +kernel
theorem dX7_thing_1 : decode cX7_thing 1 = .ok (.getfield 70, 3) := by decide +kernel
theorem dX7_thing_4 : decode cX7_thing 4 = .ok (.ifCond .ne 6, 3) := by decide +kernel
theorem dX7_thing_7 : decode cX7_thing 7 = .ok (.bipush (-101), 2) := by decide +kernel
theorem dX7_thing_9 : decode cX7_thing 9 = .ok (.ireturn, 1) := by decide +kernel
theorem dX7_thing_10 : decode cX7_thing 10 = .ok (.iload_n 1, 1) := by decide +kernel
theorem dX7_thing_11 : decode cX7_thing 11 = .ok (.ifCond .lt 26, 3) := by decide +kernel
theorem dX7_thing_14 : decode cX7_thing 14 = .ok (.iload_n 1, 1) := by decide +kernel
theorem dX7_thing_15 : decode cX7_thing 15 = .ok (.aload_n 0, 1) := by decide +kernel
theorem dX7_thing_16 : decode cX7_thing 16 = .ok (.getfield 44, 3) := by decide +kernel
theorem dX7_thing_19 : decode cX7_thing 19 = .ok (.getfield 124, 3) := by decide +kernel
theorem dX7_thing_22 : decode cX7_thing 22 = .ok (.if_icmp .ge 15, 3) := by decide +kernel
theorem dX7_thing_25 : decode cX7_thing 25 = .ok (.aload_n 0, 1) := by decide +kernel
theorem dX7_thing_26 : decode cX7_thing 26 = .ok (.getfield 44, 3) := by decide +kernel
theorem dX7_thing_29 : decode cX7_thing 29 = .ok (.getfield 179, 3) := by decide +kernel
theorem dX7_thing_32 : decode cX7_thing 32 = .ok (.iload_n 1, 1) := by decide +kernel
theorem dX7_thing_33 : decode cX7_thing 33 = .ok (.saload, 1) := by decide +kernel
theorem dX7_thing_34 : decode cX7_thing 34 = .ok (.goto 5, 3) := by decide +kernel
theorem dX7_thing_37 : decode cX7_thing 37 = .ok (.bipush (-102), 2) := by decide +kernel
theorem dX7_thing_39 : decode cX7_thing 39 = .ok (.ireturn, 1) := by decide +kernel
theorem dX7_edge_0 : decode cX7_edge 0 = .ok (.aload_n 0, 1) := by decide +kernel
theorem dX7_edge_1 : decode cX7_edge 1 = .ok (.getfield 70, 3) := by decide +kernel
theorem dX7_edge_4 : decode cX7_edge 4 = .ok (.ifCond .ne 6, 3) := by decide +kernel
theorem dX7_edge_7 : decode cX7_edge 7 = .ok (.bipush (-101), 2) := by decide +kernel
theorem dX7_edge_9 : decode cX7_edge 9 = .ok (.ireturn, 1) := by decide +kernel
theorem dX7_edge_10 : decode cX7_edge 10 = .ok (.iload_n 1, 1) := by decide +kernel
theorem dX7_edge_11 : decode cX7_edge 11 = .ok (.ifCond .lt 14, 3) := by decide +kernel
theorem dX7_edge_14 : decode cX7_edge 14 = .ok (.iload_n 1, 1) := by decide +kernel
theorem dX7_edge_15 : decode cX7_edge 15 = .ok (.aload_n 0, 1) := by decide +kernel
theorem dX7_edge_16 : decode cX7_edge 16 = .ok (.getfield 44, 3) := by decide +kernel
theorem dX7_edge_19 : decode cX7_edge 19 = .ok (.getfield 127, 3) := by decide +kernel
theorem dX7_edge_22 : decode cX7_edge 22 = .ok (.if_icmp .lt 6, 3) := by decide +kernel
theorem dX7_edge_25 : decode cX7_edge 25 = .ok (.bipush (-102), 2) := by decide +kernel
theorem dX7_edge_27 : decode cX7_edge 27 = .ok (.ireturn, 1) := by decide +kernel
theorem dX7_edge_28 : decode cX7_edge 28 = .ok (.iload_n 2, 1) := by decide +kernel
theorem dX7_edge_29 : decode cX7_edge 29 = .ok (.tableswitch 54 0 2 #[27, 36, 45], 27) := by decide +kernel
theorem dX7_edge_56 : decode cX7_edge 56 = .ok (.aload_n 0, 1) := by decide +kernel
theorem dX7_edge_57 : decode cX7_edge 57 = .ok (.getfield 44, 3) := by decide +kernel
theorem dX7_edge_60 : decode cX7_edge 60 = .ok (.iload_n 1, 1) := by decide +kernel
theorem dX7_edge_61 : decode cX7_edge 61 = .ok (.invokevirtual 183, 3) := by decide +kernel
theorem dX7_edge_64 : decode cX7_edge 64 = .ok (.ireturn, 1) := by decide +kernel
theorem dX7_edge_65 : decode cX7_edge 65 = .ok (.aload_n 0, 1) := by decide +kernel
theorem dX7_edge_66 : decode cX7_edge 66 = .ok (.getfield 44, 3) := by decide +kernel
theorem dX7_edge_69 : decode cX7_edge 69 = .ok (.iload_n 1, 1) := by decide +kernel
theorem dX7_edge_70 : decode cX7_edge 70 = .ok (.invokevirtual 186, 3) := by decide +kernel
theorem dX7_edge_73 : decode cX7_edge 73 = .ok (.ireturn, 1) := by decide +kernel
theorem dX7_edge_74 : decode cX7_edge 74 = .ok (.aload_n 0, 1) := by decide +kernel
theorem dX7_edge_75 : decode cX7_edge 75 = .ok (.getfield 44, 3) := by decide +kernel
theorem dX7_edge_78 : decode cX7_edge 78 = .ok (.iload_n 1, 1) := by decide +kernel
theorem dX7_edge_79 : decode cX7_edge 79 = .ok (.invokevirtual 189, 3) := by decide +kernel
theorem dX7_edge_82 : decode cX7_edge 82 = .ok (.ireturn, 1) := by decide +kernel
theorem dX7_edge_83 : decode cX7_edge 83 = .ok (.bipush (-103), 2) := by decide +kernel
theorem dX7_edge_85 : decode cX7_edge 85 = .ok (.ireturn, 1) := by decide +kernel
theorem dX7_bones_0 : decode cX7_bones 0 = .ok (.aload_n 0, 1) := by decide +kernel
theorem dX7_bones_1 : decode cX7_bones 1 = .ok (.getfield 70, 3) := by decide +kernel
theorem dX7_bones_4 : decode cX7_bones 4 = .ok (.ifCond .ne 6, 3) := by decide +kernel
theorem dX7_bones_7 : decode cX7_bones 7 = .ok (.bipush (-101), 2) := by decide +kernel
theorem dX7_bones_9 : decode cX7_bones 9 = .ok (.ireturn, 1) := by decide +kernel
theorem dX7_bones_10 : decode cX7_bones 10 = .ok (.aload_n 0, 1) := by decide +kernel
theorem dX7_bones_11 : decode cX7_bones 11 = .ok (.iload_n 1, 1) := by decide +kernel
theorem dX7_bones_12 : decode cX7_bones 12 = .ok (.invokevirtual 152, 3) := by decide +kernel
theorem dX7_bones_15 : decode cX7_bones 15 = .ok (.ifCond .eq 21, 3) := by decide +kernel
theorem dX7_bones_18 : decode cX7_bones 18 = .ok (.aload_n 0, 1) := by decide +kernel
theorem dX7_bones_19 : decode cX7_bones 19 = .ok (.getfield 37, 3) := by decide +kernel
theorem dX7_bones_22 : decode cX7_bones 22 = .ok (.aload_n 0, 1) := by decide +kernel
theorem dX7_bones_23 : decode cX7_bones 23 = .ok (.getfield 16, 3) := by decide +kernel
theorem dX7_bones_26 : decode cX7_bones 26 = .ok (.iload_n 1, 1) := by decide +kernel
theorem dX7_bones_27 : decode cX7_bones 27 = .ok (.invokevirtual 155, 3) := by decide +kernel
theorem dX7_bones_30 : decode cX7_bones 30 = .ok (.invokevirtual 192, 3) := by decide +kernel
theorem dX7_bones_33 : decode cX7_bones 33 = .ok (.goto 5, 3) := by decide +kernel
theorem dX7_bones_36 : decode cX7_bones 36 = .ok (.bipush (-102), 2) := by decide +kernel
theorem dX7_bones_38 : decode cX7_bones 38 = .ok (.ireturn, 1) := by decide +kernel
theorem dX7_same_0 : decode cX7_same 0 = .ok (.aload_n 0, 1) := by decide +kernel
theorem dX7_same_1 : decode cX7_same 1 = .ok (.getfield 70, 3) := by decide +kernel
theorem dX7_same_4 : decode cX7_same 4 = .ok (.ifCond .ne 6, 3) := by decide +kernel
theorem dX7_same_7 : decode cX7_same 7 = .ok (.bipush (-101), 2) := by decide +kernel
theorem dX7_same_9 : decode cX7_same 9 = .ok (.ireturn, 1) := by decide +kernel
theorem dX7_same_10 : decode cX7_same 10 = .ok (.aload_n 0, 1) := by decide +kernel
theorem dX7_same_11 : decode cX7_same 11 = .ok (.iload_n 1, 1) := by decide +kernel
theorem dX7_same_12 : decode cX7_same 12 = .ok (.invokevirtual 152, 3) := by decide +kernel
theorem dX7_same_15 : decode cX7_same 15 = .ok (.ifCond .eq 11, 3) := by decide +kernel
theorem dX7_same_18 : decode cX7_same 18 = .ok (.aload_n 0, 1) := by decide +kernel
theorem dX7_same_19 : decode cX7_same 19 = .ok (.iload_n 2, 1) := by decide +kernel
theorem dX7_same_20 : decode cX7_same 20 = .ok (.invokevirtual 152, 3) := by decide +kernel
theorem dX7_same_23 : decode cX7_same 23 = .ok (.ifCond .ne 6, 3) := by decide +kernel
theorem dX7_same_26 : decode cX7_same 26 = .ok (.bipush (-102), 2) := by decide +kernel
theorem dX7_same_28 : decode cX7_same 28 = .ok (.ireturn, 1) := by decide +kernel
theorem dX7_same_29 : decode cX7_same 29 = .ok (.aload_n 0, 1) := by decide +kernel
theorem dX7_same_30 : decode cX7_same 30 = .ok (.getfield 37, 3) := by decide +kernel
theorem dX7_same_33 : decode cX7_same 33 = .ok (.aload_n 0, 1) := by decide +kernel
theorem dX7_same_34 : decode cX7_same 34 = .ok (.getfield 16, 3) := by decide +kernel
theorem dX7_same_37 : decode cX7_same 37 = .ok (.iload_n 1, 1) := by decide +kernel
theorem dX7_same_38 : decode cX7_same 38 = .ok (.invokevirtual 155, 3) := by decide +kernel
theorem dX7_same_41 : decode cX7_same 41 = .ok (.aload_n 0, 1) := by decide +kernel
theorem dX7_same_42 : decode cX7_same 42 = .ok (.getfield 16, 3) := by decide +kernel
theorem dX7_same_45 : decode cX7_same 45 = .ok (.iload_n 2, 1) := by decide +kernel
theorem dX7_same_46 : decode cX7_same 46 = .ok (.invokevirtual 155, 3) := by decide +kernel
theorem dX7_same_49 : decode cX7_same 49 = .ok (.invokevirtual 195, 3) := by decide +kernel
theorem dX7_same_52 : decode cX7_same 52 = .ok (.invokestatic 148, 3) := by decide +kernel
theorem dX7_same_55 : decode cX7_same 55 = .ok (.ireturn, 1) := by decide +kernel
theorem dX7_print_0 : decode cX7_print 0 = .ok (.aload_n 0, 1) := by decide +kernel
theorem dX7_print_1 : decode cX7_print 1 = .ok (.getfield 70, 3) := by decide +kernel
theorem dX7_print_4 : decode cX7_print 4 = .ok (.ifCond .ne 6, 3) := by decide +kernel
theorem dX7_print_7 : decode cX7_print 7 = .ok (.bipush (-101), 2) := by decide +kernel
theorem dX7_print_9 : decode cX7_print 9 = .ok (.ireturn, 1) := by decide +kernel
theorem dX7_print_10 : decode cX7_print 10 = .ok (.aload_n 0, 1) := by decide +kernel
theorem dX7_print_11 : decode cX7_print 11 = .ok (.getfield 51, 3) := by decide +kernel
theorem dX7_print_14 : decode cX7_print 14 = .ok (.aload_n 0, 1) := by decide +kernel
theorem dX7_print_15 : decode cX7_print 15 = .ok (.getfield 16, 3) := by decide +kernel
theorem dX7_print_18 : decode cX7_print 18 = .ok (.invokevirtual 198, 3) := by decide +kernel
theorem dX7_print_21 : decode cX7_print 21 = .ok (.aload_n 0, 1) := by decide +kernel
theorem dX7_print_22 : decode cX7_print 22 = .ok (.getfield 51, 3) := by decide +kernel
theorem dX7_print_25 : decode cX7_print 25 = .ok (.getfield 86, 3) := by decide +kernel
theorem dX7_print_28 : decode cX7_print 28 = .ok (.ireturn, 1) := by decide +kernel
theorem dX7_out_0 : decode cX7_out 0 = .ok (.iload_n 1, 1) := by decide +kernel
theorem dX7_out_1 : decode cX7_out 1 = .ok (.ifCond .lt 26, 3) := by decide +kernel
theorem dX7_out_4 : decode cX7_out 4 = .ok (.iload_n 1, 1) := by decide +kernel
theorem dX7_out_5 : decode cX7_out 5 = .ok (.aload_n 0, 1) := by decide +kernel
theorem dX7_out_6 : decode cX7_out 6 = .ok (.getfield 51, 3) := by decide +kernel
theorem dX7_out_9 : decode cX7_out 9 = .ok (.getfield 86, 3) := by decide +kernel
theorem dX7_out_12 : decode cX7_out 12 = .ok (.if_icmp .ge 15, 3) := by decide +kernel
theorem dX7_out_15 : decode cX7_out 15 = .ok (.aload_n 0, 1) := by decide +kernel
theorem dX7_out_16 : decode cX7_out 16 = .ok (.getfield 51, 3) := by decide +kernel
theorem dX7_out_19 : decode cX7_out 19 = .ok (.getfield 201, 3) := by decide +kernel
theorem dX7_out_22 : decode cX7_out 22 = .ok (.iload_n 1, 1) := by decide +kernel
theorem dX7_out_23 : decode cX7_out 23 = .ok (.baload, 1) := by decide +kernel
theorem dX7_out_24 : decode cX7_out 24 = .ok (.goto 4, 3) := by decide +kernel
theorem dX7_out_27 : decode cX7_out 27 = .ok (.iconst (-1), 1) := by decide +kernel
theorem dX7_out_28 : decode cX7_out 28 = .ok (.ireturn, 1) := by decide +kernel
theorem dX7_back_0 : decode cX7_back 0 = .ok (.aload_n 0, 1) := by decide +kernel
theorem dX7_back_1 : decode cX7_back 1 = .ok (.aload_n 0, 1) := by decide +kernel
theorem dX7_back_2 : decode cX7_back 2 = .ok (.getfield 51, 3) := by decide +kernel
theorem dX7_back_5 : decode cX7_back 5 = .ok (.getfield 86, 3) := by decide +kernel
theorem dX7_back_8 : decode cX7_back 8 = .ok (.sipush 2000, 3) := by decide +kernel
theorem dX7_back_11 : decode cX7_back 11 = .ok (.invokestatic 204, 3) := by decide +kernel
theorem dX7_back_14 : decode cX7_back 14 = .ok (.putfield 55, 3) := by decide +kernel
theorem dX7_back_17 : decode cX7_back 17 = .ok (.aload_n 0, 1) := by decide +kernel
theorem dX7_back_18 : decode cX7_back 18 = .ok (.getfield 51, 3) := by decide +kernel
theorem dX7_back_21 : decode cX7_back 21 = .ok (.getfield 201, 3) := by decide +kernel
theorem dX7_back_24 : decode cX7_back 24 = .ok (.iconst 0, 1) := by decide +kernel
theorem dX7_back_25 : decode cX7_back 25 = .ok (.aload_n 0, 1) := by decide +kernel
theorem dX7_back_26 : decode cX7_back 26 = .ok (.getfield 9, 3) := by decide +kernel
theorem dX7_back_29 : decode cX7_back 29 = .ok (.iconst 0, 1) := by decide +kernel
theorem dX7_back_30 : decode cX7_back 30 = .ok (.aload_n 0, 1) := by decide +kernel
theorem dX7_back_31 : decode cX7_back 31 = .ok (.getfield 55, 3) := by decide +kernel
theorem dX7_back_34 : decode cX7_back 34 = .ok (.invokestatic 210, 3) := by decide +kernel
theorem dX7_back_37 : decode cX7_back 37 = .ok (.aload_n 0, 1) := by decide +kernel
theorem dX7_back_38 : decode cX7_back 38 = .ok (.getfield 55, 3) := by decide +kernel
theorem dX7_back_41 : decode cX7_back 41 = .ok (.ireturn, 1) := by decide +kernel
theorem dX7_oneIf_0 : decode cX7_oneIf 0 = .ok (.iload_n 0, 1) := by decide +kernel
theorem dX7_oneIf_1 : decode cX7_oneIf 1 = .ok (.ifCond .eq 7, 3) := by decide +kernel
theorem dX7_oneIf_4 : decode cX7_oneIf 4 = .ok (.iconst 1, 1) := by decide +kernel
theorem dX7_oneIf_5 : decode cX7_oneIf 5 = .ok (.goto 4, 3) := by decide +kernel
theorem dX7_oneIf_8 : decode cX7_oneIf 8 = .ok (.iconst 0, 1) := by decide +kernel
theorem dX7_oneIf_9 : decode cX7_oneIf 9 = .ok (.ireturn, 1) := by decide +kernel
theorem dX7_isQuestion_0 : decode cX7_isQuestion 0 = .ok (.iload_n 1, 1) := by decide +kernel
theorem dX7_isQuestion_1 : decode cX7_isQuestion 1 = .ok (.ifCond .lt 18, 3) := by decide +kernel
theorem dX7_isQuestion_4 : decode cX7_isQuestion 4 = .ok (.iload_n 1, 1) := by decide +kernel
theorem dX7_isQuestion_5 : decode cX7_isQuestion 5 = .ok (.aload_n 0, 1) := by decide +kernel
theorem dX7_isQuestion_6 : decode cX7_isQuestion 6 = .ok (.getfield 16, 3) := by decide +kernel
theorem dX7_isQuestion_9 : decode cX7_isQuestion 9 = .ok (.getfield 98, 3) := by decide +kernel
theorem dX7_isQuestion_12 : decode cX7_isQuestion 12 = .ok (.if_icmp .ge 7, 3) := by decide +kernel
theorem dX7_isQuestion_15 : decode cX7_isQuestion 15 = .ok (.iconst 1, 1) := by decide +kernel
theorem dX7_isQuestion_16 : decode cX7_isQuestion 16 = .ok (.goto 4, 3) := by decide +kernel
theorem dX7_isQuestion_19 : decode cX7_isQuestion 19 = .ok (.iconst 0, 1) := by decide +kernel
theorem dX7_isQuestion_20 : decode cX7_isQuestion 20 = .ok (.ireturn, 1) := by decide +kernel
theorem dX7_isName_0 : decode cX7_isName 0 = .ok (.iload_n 1, 1) := by decide +kernel
theorem dX7_isName_1 : decode cX7_isName 1 = .ok (.ifCond .lt 18, 3) := by decide +kernel
theorem dX7_isName_4 : decode cX7_isName 4 = .ok (.iload_n 1, 1) := by decide +kernel
theorem dX7_isName_5 : decode cX7_isName 5 = .ok (.aload_n 0, 1) := by decide +kernel
theorem dX7_isName_6 : decode cX7_isName 6 = .ok (.getfield 16, 3) := by decide +kernel
theorem dX7_isName_9 : decode cX7_isName 9 = .ok (.getfield 89, 3) := by decide +kernel
theorem dX7_isName_12 : decode cX7_isName 12 = .ok (.if_icmp .ge 7, 3) := by decide +kernel
theorem dX7_isName_15 : decode cX7_isName 15 = .ok (.iconst 1, 1) := by decide +kernel
theorem dX7_isName_16 : decode cX7_isName 16 = .ok (.goto 4, 3) := by decide +kernel
theorem dX7_isName_19 : decode cX7_isName 19 = .ok (.iconst 0, 1) := by decide +kernel
theorem dX7_isName_20 : decode cX7_isName 20 = .ok (.ireturn, 1) := by decide +kernel
theorem dX7_standsUnder_0 : decode cX7_standsUnder 0 = .ok (.aload_n 0, 1) := by decide +kernel
theorem dX7_standsUnder_1 : decode cX7_standsUnder 1 = .ok (.getfield 37, 3) := by decide +kernel
theorem dX7_standsUnder_4 : decode cX7_standsUnder 4 = .ok (.aload_n 0, 1) := by decide +kernel
theorem dX7_standsUnder_5 : decode cX7_standsUnder 5 = .ok (.getfield 16, 3) := by decide +kernel
theorem dX7_standsUnder_8 : decode cX7_standsUnder 8 = .ok (.getfield 101, 3) := by decide +kernel
theorem dX7_standsUnder_11 : decode cX7_standsUnder 11 = .ok (.iload_n 1, 1) := by decide +kernel
theorem dX7_standsUnder_12 : decode cX7_standsUnder 12 = .ok (.invokevirtual 216, 3) := by decide +kernel
theorem dX7_standsUnder_15 : decode cX7_standsUnder 15 = .ok (.aload_n 0, 1) := by decide +kernel
theorem dX7_standsUnder_16 : decode cX7_standsUnder 16 = .ok (.getfield 16, 3) := by decide +kernel
theorem dX7_standsUnder_19 : decode cX7_standsUnder 19 = .ok (.getfield 101, 3) := by decide +kernel
theorem dX7_standsUnder_22 : decode cX7_standsUnder 22 = .ok (.iload_n 2, 1) := by decide +kernel
theorem dX7_standsUnder_23 : decode cX7_standsUnder 23 = .ok (.invokevirtual 216, 3) := by decide +kernel
theorem dX7_standsUnder_26 : decode cX7_standsUnder 26 = .ok (.invokevirtual 219, 3) := by decide +kernel
theorem dX7_standsUnder_29 : decode cX7_standsUnder 29 = .ok (.ireturn, 1) := by decide +kernel
theorem dX7_isStrictlyUnder_0 : decode cX7_isStrictlyUnder 0 = .ok (.aload_n 0, 1) := by decide +kernel
theorem dX7_isStrictlyUnder_1 : decode cX7_isStrictlyUnder 1 = .ok (.iload_n 1, 1) := by decide +kernel
theorem dX7_isStrictlyUnder_2 : decode cX7_isStrictlyUnder 2 = .ok (.iload_n 2, 1) := by decide +kernel
theorem dX7_isStrictlyUnder_3 : decode cX7_isStrictlyUnder 3 = .ok (.invokevirtual 169, 3) := by decide +kernel
theorem dX7_isStrictlyUnder_6 : decode cX7_isStrictlyUnder 6 = .ok (.ifCond .eq 16, 3) := by decide +kernel
theorem dX7_isStrictlyUnder_9 : decode cX7_isStrictlyUnder 9 = .ok (.aload_n 0, 1) := by decide +kernel
theorem dX7_isStrictlyUnder_10 : decode cX7_isStrictlyUnder 10 = .ok (.iload_n 2, 1) := by decide +kernel
theorem dX7_isStrictlyUnder_11 : decode cX7_isStrictlyUnder 11 = .ok (.iload_n 1, 1) := by decide +kernel
theorem dX7_isStrictlyUnder_12 : decode cX7_isStrictlyUnder 12 = .ok (.invokevirtual 169, 3) := by decide +kernel
theorem dX7_isStrictlyUnder_15 : decode cX7_isStrictlyUnder 15 = .ok (.ifCond .ne 7, 3) := by decide +kernel
theorem dX7_isStrictlyUnder_18 : decode cX7_isStrictlyUnder 18 = .ok (.iconst 1, 1) := by decide +kernel
theorem dX7_isStrictlyUnder_19 : decode cX7_isStrictlyUnder 19 = .ok (.goto 4, 3) := by decide +kernel
theorem dX7_isStrictlyUnder_22 : decode cX7_isStrictlyUnder 22 = .ok (.iconst 0, 1) := by decide +kernel
theorem dX7_isStrictlyUnder_23 : decode cX7_isStrictlyUnder 23 = .ok (.ireturn, 1) := by decide +kernel
theorem dX7_isNextAbove_0 : decode cX7_isNextAbove 0 = .ok (.aload_n 0, 1) := by decide +kernel
theorem dX7_isNextAbove_1 : decode cX7_isNextAbove 1 = .ok (.iload_n 1, 1) := by decide +kernel
theorem dX7_isNextAbove_2 : decode cX7_isNextAbove 2 = .ok (.iload_n 2, 1) := by decide +kernel
theorem dX7_isNextAbove_3 : decode cX7_isNextAbove 3 = .ok (.invokevirtual 222, 3) := by decide +kernel
theorem dX7_isNextAbove_6 : decode cX7_isNextAbove 6 = .ok (.ifCond .ne 5, 3) := by decide +kernel
theorem dX7_isNextAbove_9 : decode cX7_isNextAbove 9 = .ok (.iconst 0, 1) := by decide +kernel
theorem dX7_isNextAbove_10 : decode cX7_isNextAbove 10 = .ok (.ireturn, 1) := by decide +kernel
theorem dX7_isNextAbove_11 : decode cX7_isNextAbove 11 = .ok (.iconst 0, 1) := by decide +kernel
theorem dX7_isNextAbove_12 : decode cX7_isNextAbove 12 = .ok (.istore_n 3, 1) := by decide +kernel
theorem dX7_isNextAbove_13 : decode cX7_isNextAbove 13 = .ok (.iload_n 3, 1) := by decide +kernel
theorem dX7_isNextAbove_14 : decode cX7_isNextAbove 14 = .ok (.aload_n 0, 1) := by decide +kernel
theorem dX7_isNextAbove_15 : decode cX7_isNextAbove 15 = .ok (.getfield 16, 3) := by decide +kernel
theorem dX7_isNextAbove_18 : decode cX7_isNextAbove 18 = .ok (.getfield 89, 3) := by decide +kernel
theorem dX7_isNextAbove_21 : decode cX7_isNextAbove 21 = .ok (.if_icmp .ge 29, 3) := by decide +kernel
theorem dX7_isNextAbove_24 : decode cX7_isNextAbove 24 = .ok (.aload_n 0, 1) := by decide +kernel
theorem dX7_isNextAbove_25 : decode cX7_isNextAbove 25 = .ok (.iload_n 1, 1) := by decide +kernel
theorem dX7_isNextAbove_26 : decode cX7_isNextAbove 26 = .ok (.iload_n 3, 1) := by decide +kernel
theorem dX7_isNextAbove_27 : decode cX7_isNextAbove 27 = .ok (.invokevirtual 222, 3) := by decide +kernel
theorem dX7_isNextAbove_30 : decode cX7_isNextAbove 30 = .ok (.ifCond .eq 14, 3) := by decide +kernel
theorem dX7_isNextAbove_33 : decode cX7_isNextAbove 33 = .ok (.aload_n 0, 1) := by decide +kernel
theorem dX7_isNextAbove_34 : decode cX7_isNextAbove 34 = .ok (.iload_n 3, 1) := by decide +kernel
theorem dX7_isNextAbove_35 : decode cX7_isNextAbove 35 = .ok (.iload_n 2, 1) := by decide +kernel
theorem dX7_isNextAbove_36 : decode cX7_isNextAbove 36 = .ok (.invokevirtual 222, 3) := by decide +kernel
theorem dX7_isNextAbove_39 : decode cX7_isNextAbove 39 = .ok (.ifCond .eq 5, 3) := by decide +kernel
theorem dX7_isNextAbove_42 : decode cX7_isNextAbove 42 = .ok (.iconst 0, 1) := by decide +kernel
theorem dX7_isNextAbove_43 : decode cX7_isNextAbove 43 = .ok (.ireturn, 1) := by decide +kernel
theorem dX7_isNextAbove_44 : decode cX7_isNextAbove 44 = .ok (.iinc 3 1, 3) := by decide +kernel
theorem dX7_isNextAbove_47 : decode cX7_isNextAbove 47 = .ok (.goto (-34), 3) := by decide +kernel
theorem dX7_isNextAbove_50 : decode cX7_isNextAbove 50 = .ok (.iconst 1, 1) := by decide +kernel
theorem dX7_isNextAbove_51 : decode cX7_isNextAbove 51 = .ok (.ireturn, 1) := by decide +kernel
theorem dX8_init_0 : decode cX8_init 0 = .ok (.aload_n 0, 1) := by decide +kernel
theorem dX8_init_1 : decode cX8_init 1 = .ok (.invokespecial 1, 3) := by decide +kernel
theorem dX8_init_4 : decode cX8_init 4 = .ok (.aload_n 0, 1) := by decide +kernel
theorem dX8_init_5 : decode cX8_init 5 = .ok (.sipush 2000, 3) := by decide +kernel
theorem dX8_init_8 : decode cX8_init 8 = .ok (.newarray .byte, 2) := by decide +kernel
theorem dX8_init_10 : decode cX8_init 10 = .ok (.putfield 7, 3) := by decide +kernel
theorem dX8_init_13 : decode cX8_init 13 = .ok (.aload_n 0, 1) := by decide +kernel
theorem dX8_init_14 : decode cX8_init 14 = .ok (.bipush 50, 2) := by decide +kernel
theorem dX8_init_16 : decode cX8_init 16 = .ok (.newarray .char, 2) := by decide +kernel
theorem dX8_init_18 : decode cX8_init 18 = .ok (.dup, 1) := by decide +kernel
theorem dX8_init_19 : decode cX8_init 19 = .ok (.iconst 0, 1) := by decide +kernel
theorem dX8_init_20 : decode cX8_init 20 = .ok (.bipush 97, 2) := by decide +kernel
theorem dX8_init_22 : decode cX8_init 22 = .ok (.castore, 1) := by decide +kernel
theorem dX8_init_23 : decode cX8_init 23 = .ok (.dup, 1) := by decide +kernel
theorem dX8_init_24 : decode cX8_init 24 = .ok (.iconst 1, 1) := by decide +kernel
theorem dX8_init_25 : decode cX8_init 25 = .ok (.bipush 115, 2) := by decide +kernel
theorem dX8_init_27 : decode cX8_init 27 = .ok (.castore, 1) := by decide +kernel
theorem dX8_init_28 : decode cX8_init 28 = .ok (.dup, 1) := by decide +kernel
theorem dX8_init_29 : decode cX8_init 29 = .ok (.iconst 2, 1) := by decide +kernel
theorem dX8_init_30 : decode cX8_init 30 = .ok (.bipush 107, 2) := by decide +kernel
theorem dX8_init_32 : decode cX8_init 32 = .ok (.castore, 1) := by decide +kernel
theorem dX8_init_33 : decode cX8_init 33 = .ok (.dup, 1) := by decide +kernel
theorem dX8_init_34 : decode cX8_init 34 = .ok (.iconst 3, 1) := by decide +kernel
theorem dX8_init_35 : decode cX8_init 35 = .ok (.bipush 32, 2) := by decide +kernel
theorem dX8_init_37 : decode cX8_init 37 = .ok (.castore, 1) := by decide +kernel
theorem dX8_init_38 : decode cX8_init 38 = .ok (.dup, 1) := by decide +kernel
theorem dX8_init_39 : decode cX8_init 39 = .ok (.iconst 4, 1) := by decide +kernel
theorem dX8_init_40 : decode cX8_init 40 = .ok (.bipush 117, 2) := by decide +kernel
theorem dX8_init_42 : decode cX8_init 42 = .ok (.castore, 1) := by decide +kernel
theorem dX8_init_43 : decode cX8_init 43 = .ok (.dup, 1) := by decide +kernel
theorem dX8_init_44 : decode cX8_init 44 = .ok (.iconst 5, 1) := by decide +kernel
theorem dX8_init_45 : decode cX8_init 45 = .ok (.bipush 110, 2) := by decide +kernel
theorem dX8_init_47 : decode cX8_init 47 = .ok (.castore, 1) := by decide +kernel
theorem dX8_init_48 : decode cX8_init 48 = .ok (.dup, 1) := by decide +kernel
theorem dX8_init_49 : decode cX8_init 49 = .ok (.bipush 6, 2) := by decide +kernel
theorem dX8_init_51 : decode cX8_init 51 = .ok (.bipush 100, 2) := by decide +kernel
theorem dX8_init_53 : decode cX8_init 53 = .ok (.castore, 1) := by decide +kernel
theorem dX8_init_54 : decode cX8_init 54 = .ok (.dup, 1) := by decide +kernel
theorem dX8_init_55 : decode cX8_init 55 = .ok (.bipush 7, 2) := by decide +kernel
theorem dX8_init_57 : decode cX8_init 57 = .ok (.bipush 101, 2) := by decide +kernel
theorem dX8_init_59 : decode cX8_init 59 = .ok (.castore, 1) := by decide +kernel
theorem dX8_init_60 : decode cX8_init 60 = .ok (.dup, 1) := by decide +kernel
theorem dX8_init_61 : decode cX8_init 61 = .ok (.bipush 8, 2) := by decide +kernel
theorem dX8_init_63 : decode cX8_init 63 = .ok (.bipush 114, 2) := by decide +kernel
theorem dX8_init_65 : decode cX8_init 65 = .ok (.castore, 1) := by decide +kernel
theorem dX8_init_66 : decode cX8_init 66 = .ok (.dup, 1) := by decide +kernel
theorem dX8_init_67 : decode cX8_init 67 = .ok (.bipush 9, 2) := by decide +kernel
theorem dX8_init_69 : decode cX8_init 69 = .ok (.bipush 32, 2) := by decide +kernel
theorem dX8_init_71 : decode cX8_init 71 = .ok (.castore, 1) := by decide +kernel
theorem dX8_init_72 : decode cX8_init 72 = .ok (.dup, 1) := by decide +kernel
theorem dX8_init_73 : decode cX8_init 73 = .ok (.bipush 10, 2) := by decide +kernel
theorem dX8_init_75 : decode cX8_init 75 = .ok (.bipush 115, 2) := by decide +kernel
theorem dX8_init_77 : decode cX8_init 77 = .ok (.castore, 1) := by decide +kernel
theorem dX8_init_78 : decode cX8_init 78 = .ok (.dup, 1) := by decide +kernel
theorem dX8_init_79 : decode cX8_init 79 = .ok (.bipush 11, 2) := by decide +kernel
theorem dX8_init_81 : decode cX8_init 81 = .ok (.bipush 105, 2) := by decide +kernel
theorem dX8_init_83 : decode cX8_init 83 = .ok (.castore, 1) := by decide +kernel
theorem dX8_init_84 : decode cX8_init 84 = .ok (.dup, 1) := by decide +kernel
theorem dX8_init_85 : decode cX8_init 85 = .ok (.bipush 12, 2) := by decide +kernel
theorem dX8_init_87 : decode cX8_init 87 = .ok (.bipush 110, 2) := by decide +kernel
theorem dX8_init_89 : decode cX8_init 89 = .ok (.castore, 1) := by decide +kernel
theorem dX8_init_90 : decode cX8_init 90 = .ok (.dup, 1) := by decide +kernel
theorem dX8_init_91 : decode cX8_init 91 = .ok (.bipush 13, 2) := by decide +kernel
theorem dX8_init_93 : decode cX8_init 93 = .ok (.bipush 103, 2) := by decide +kernel
theorem dX8_init_95 : decode cX8_init 95 = .ok (.castore, 1) := by decide +kernel
theorem dX8_init_96 : decode cX8_init 96 = .ok (.dup, 1) := by decide +kernel
theorem dX8_init_97 : decode cX8_init 97 = .ok (.bipush 14, 2) := by decide +kernel
theorem dX8_init_99 : decode cX8_init 99 = .ok (.bipush 108, 2) := by decide +kernel
theorem dX8_init_101 : decode cX8_init 101 = .ok (.castore, 1) := by decide +kernel
theorem dX8_init_102 : decode cX8_init 102 = .ok (.dup, 1) := by decide +kernel
theorem dX8_init_103 : decode cX8_init 103 = .ok (.bipush 15, 2) := by decide +kernel
theorem dX8_init_105 : decode cX8_init 105 = .ok (.bipush 101, 2) := by decide +kernel
theorem dX8_init_107 : decode cX8_init 107 = .ok (.castore, 1) := by decide +kernel
theorem dX8_init_108 : decode cX8_init 108 = .ok (.dup, 1) := by decide +kernel
theorem dX8_init_109 : decode cX8_init 109 = .ok (.bipush 16, 2) := by decide +kernel
theorem dX8_init_111 : decode cX8_init 111 = .ok (.bipush 32, 2) := by decide +kernel
theorem dX8_init_113 : decode cX8_init 113 = .ok (.castore, 1) := by decide +kernel
theorem dX8_init_114 : decode cX8_init 114 = .ok (.dup, 1) := by decide +kernel
theorem dX8_init_115 : decode cX8_init 115 = .ok (.bipush 17, 2) := by decide +kernel
theorem dX8_init_117 : decode cX8_init 117 = .ok (.bipush 111, 2) := by decide +kernel
theorem dX8_init_119 : decode cX8_init 119 = .ok (.castore, 1) := by decide +kernel
theorem dX8_init_120 : decode cX8_init 120 = .ok (.dup, 1) := by decide +kernel
theorem dX8_init_121 : decode cX8_init 121 = .ok (.bipush 18, 2) := by decide +kernel
theorem dX8_init_123 : decode cX8_init 123 = .ok (.bipush 114, 2) := by decide +kernel
theorem dX8_init_125 : decode cX8_init 125 = .ok (.castore, 1) := by decide +kernel
theorem dX8_init_126 : decode cX8_init 126 = .ok (.dup, 1) := by decide +kernel
theorem dX8_init_127 : decode cX8_init 127 = .ok (.bipush 19, 2) := by decide +kernel
theorem dX8_init_129 : decode cX8_init 129 = .ok (.bipush 32, 2) := by decide +kernel
theorem dX8_init_131 : decode cX8_init 131 = .ok (.castore, 1) := by decide +kernel
theorem dX8_init_132 : decode cX8_init 132 = .ok (.dup, 1) := by decide +kernel
theorem dX8_init_133 : decode cX8_init 133 = .ok (.bipush 20, 2) := by decide +kernel
theorem dX8_init_135 : decode cX8_init 135 = .ok (.bipush 97, 2) := by decide +kernel
theorem dX8_init_137 : decode cX8_init 137 = .ok (.castore, 1) := by decide +kernel
theorem dX8_init_138 : decode cX8_init 138 = .ok (.dup, 1) := by decide +kernel
theorem dX8_init_139 : decode cX8_init 139 = .ok (.bipush 21, 2) := by decide +kernel
theorem dX8_init_141 : decode cX8_init 141 = .ok (.bipush 110, 2) := by decide +kernel
theorem dX8_init_143 : decode cX8_init 143 = .ok (.castore, 1) := by decide +kernel
theorem dX8_init_144 : decode cX8_init 144 = .ok (.dup, 1) := by decide +kernel
theorem dX8_init_145 : decode cX8_init 145 = .ok (.bipush 22, 2) := by decide +kernel
theorem dX8_init_147 : decode cX8_init 147 = .ok (.bipush 100, 2) := by decide +kernel
theorem dX8_init_149 : decode cX8_init 149 = .ok (.castore, 1) := by decide +kernel
theorem dX8_init_150 : decode cX8_init 150 = .ok (.dup, 1) := by decide +kernel
theorem dX8_init_151 : decode cX8_init 151 = .ok (.bipush 23, 2) := by decide +kernel
theorem dX8_init_153 : decode cX8_init 153 = .ok (.bipush 32, 2) := by decide +kernel
theorem dX8_init_155 : decode cX8_init 155 = .ok (.castore, 1) := by decide +kernel
theorem dX8_init_156 : decode cX8_init 156 = .ok (.dup, 1) := by decide +kernel
theorem dX8_init_157 : decode cX8_init 157 = .ok (.bipush 24, 2) := by decide +kernel
theorem dX8_init_159 : decode cX8_init 159 = .ok (.bipush 110, 2) := by decide +kernel
theorem dX8_init_161 : decode cX8_init 161 = .ok (.castore, 1) := by decide +kernel
theorem dX8_init_162 : decode cX8_init 162 = .ok (.dup, 1) := by decide +kernel
theorem dX8_init_163 : decode cX8_init 163 = .ok (.bipush 25, 2) := by decide +kernel
theorem dX8_init_165 : decode cX8_init 165 = .ok (.bipush 111, 2) := by decide +kernel
theorem dX8_init_167 : decode cX8_init 167 = .ok (.castore, 1) := by decide +kernel
theorem dX8_init_168 : decode cX8_init 168 = .ok (.dup, 1) := by decide +kernel
theorem dX8_init_169 : decode cX8_init 169 = .ok (.bipush 26, 2) := by decide +kernel
theorem dX8_init_171 : decode cX8_init 171 = .ok (.bipush 116, 2) := by decide +kernel
theorem dX8_init_173 : decode cX8_init 173 = .ok (.castore, 1) := by decide +kernel
theorem dX8_init_174 : decode cX8_init 174 = .ok (.dup, 1) := by decide +kernel
theorem dX8_init_175 : decode cX8_init 175 = .ok (.bipush 27, 2) := by decide +kernel
theorem dX8_init_177 : decode cX8_init 177 = .ok (.bipush 32, 2) := by decide +kernel
theorem dX8_init_179 : decode cX8_init 179 = .ok (.castore, 1) := by decide +kernel
theorem dX8_init_180 : decode cX8_init 180 = .ok (.dup, 1) := by decide +kernel
theorem dX8_init_181 : decode cX8_init 181 = .ok (.bipush 28, 2) := by decide +kernel
theorem dX8_init_183 : decode cX8_init 183 = .ok (.bipush 115, 2) := by decide +kernel
theorem dX8_init_185 : decode cX8_init 185 = .ok (.castore, 1) := by decide +kernel
theorem dX8_init_186 : decode cX8_init 186 = .ok (.dup, 1) := by decide +kernel
theorem dX8_init_187 : decode cX8_init 187 = .ok (.bipush 29, 2) := by decide +kernel
theorem dX8_init_189 : decode cX8_init 189 = .ok (.bipush 111, 2) := by decide +kernel
theorem dX8_init_191 : decode cX8_init 191 = .ok (.castore, 1) := by decide +kernel
theorem dX8_init_192 : decode cX8_init 192 = .ok (.dup, 1) := by decide +kernel
theorem dX8_init_193 : decode cX8_init 193 = .ok (.bipush 30, 2) := by decide +kernel
theorem dX8_init_195 : decode cX8_init 195 = .ok (.bipush 109, 2) := by decide +kernel
theorem dX8_init_197 : decode cX8_init 197 = .ok (.castore, 1) := by decide +kernel
theorem dX8_init_198 : decode cX8_init 198 = .ok (.dup, 1) := by decide +kernel
theorem dX8_init_199 : decode cX8_init 199 = .ok (.bipush 31, 2) := by decide +kernel
theorem dX8_init_201 : decode cX8_init 201 = .ok (.bipush 101, 2) := by decide +kernel
theorem dX8_init_203 : decode cX8_init 203 = .ok (.castore, 1) := by decide +kernel
theorem dX8_init_204 : decode cX8_init 204 = .ok (.dup, 1) := by decide +kernel
theorem dX8_init_205 : decode cX8_init 205 = .ok (.bipush 32, 2) := by decide +kernel
theorem dX8_init_207 : decode cX8_init 207 = .ok (.bipush 32, 2) := by decide +kernel
theorem dX8_init_209 : decode cX8_init 209 = .ok (.castore, 1) := by decide +kernel
theorem dX8_init_210 : decode cX8_init 210 = .ok (.dup, 1) := by decide +kernel
theorem dX8_init_211 : decode cX8_init 211 = .ok (.bipush 33, 2) := by decide +kernel
theorem dX8_init_213 : decode cX8_init 213 = .ok (.bipush 101, 2) := by decide +kernel
theorem dX8_init_215 : decode cX8_init 215 = .ok (.castore, 1) := by decide +kernel
theorem dX8_init_216 : decode cX8_init 216 = .ok (.dup, 1) := by decide +kernel
theorem dX8_init_217 : decode cX8_init 217 = .ok (.bipush 34, 2) := by decide +kernel
theorem dX8_init_219 : decode cX8_init 219 = .ok (.bipush 118, 2) := by decide +kernel
theorem dX8_init_221 : decode cX8_init 221 = .ok (.castore, 1) := by decide +kernel
theorem dX8_init_222 : decode cX8_init 222 = .ok (.dup, 1) := by decide +kernel
theorem dX8_init_223 : decode cX8_init 223 = .ok (.bipush 35, 2) := by decide +kernel
theorem dX8_init_225 : decode cX8_init 225 = .ok (.bipush 101, 2) := by decide +kernel
theorem dX8_init_227 : decode cX8_init 227 = .ok (.castore, 1) := by decide +kernel
theorem dX8_init_228 : decode cX8_init 228 = .ok (.dup, 1) := by decide +kernel
theorem dX8_init_229 : decode cX8_init 229 = .ok (.bipush 36, 2) := by decide +kernel
theorem dX8_init_231 : decode cX8_init 231 = .ok (.bipush 114, 2) := by decide +kernel
theorem dX8_init_233 : decode cX8_init 233 = .ok (.castore, 1) := by decide +kernel
theorem dX8_init_234 : decode cX8_init 234 = .ok (.dup, 1) := by decide +kernel
theorem dX8_init_235 : decode cX8_init 235 = .ok (.bipush 37, 2) := by decide +kernel
theorem dX8_init_237 : decode cX8_init 237 = .ok (.bipush 121, 2) := by decide +kernel
theorem dX8_init_239 : decode cX8_init 239 = .ok (.castore, 1) := by decide +kernel
theorem dX8_init_240 : decode cX8_init 240 = .ok (.dup, 1) := by decide +kernel
theorem dX8_init_241 : decode cX8_init 241 = .ok (.bipush 38, 2) := by decide +kernel
theorem dX8_init_243 : decode cX8_init 243 = .ok (.bipush 32, 2) := by decide +kernel
theorem dX8_init_245 : decode cX8_init 245 = .ok (.castore, 1) := by decide +kernel
theorem dX8_init_246 : decode cX8_init 246 = .ok (.dup, 1) := by decide +kernel
theorem dX8_init_247 : decode cX8_init 247 = .ok (.bipush 39, 2) := by decide +kernel
theorem dX8_init_249 : decode cX8_init 249 = .ok (.bipush 116, 2) := by decide +kernel
theorem dX8_init_251 : decode cX8_init 251 = .ok (.castore, 1) := by decide +kernel
theorem dX8_init_252 : decode cX8_init 252 = .ok (.dup, 1) := by decide +kernel
theorem dX8_init_253 : decode cX8_init 253 = .ok (.bipush 40, 2) := by decide +kernel
theorem dX8_init_255 : decode cX8_init 255 = .ok (.bipush 111, 2) := by decide +kernel
theorem dX8_init_257 : decode cX8_init 257 = .ok (.castore, 1) := by decide +kernel
theorem dX8_init_258 : decode cX8_init 258 = .ok (.dup, 1) := by decide +kernel
theorem dX8_init_259 : decode cX8_init 259 = .ok (.bipush 41, 2) := by decide +kernel
theorem dX8_init_261 : decode cX8_init 261 = .ok (.bipush 112, 2) := by decide +kernel
theorem dX8_init_263 : decode cX8_init 263 = .ok (.castore, 1) := by decide +kernel
theorem dX8_init_264 : decode cX8_init 264 = .ok (.dup, 1) := by decide +kernel
theorem dX8_init_265 : decode cX8_init 265 = .ok (.bipush 42, 2) := by decide +kernel
theorem dX8_init_267 : decode cX8_init 267 = .ok (.bipush 32, 2) := by decide +kernel
theorem dX8_init_269 : decode cX8_init 269 = .ok (.castore, 1) := by decide +kernel
theorem dX8_init_270 : decode cX8_init 270 = .ok (.dup, 1) := by decide +kernel
theorem dX8_init_271 : decode cX8_init 271 = .ok (.bipush 43, 2) := by decide +kernel
theorem dX8_init_273 : decode cX8_init 273 = .ok (.bipush 98, 2) := by decide +kernel
theorem dX8_init_275 : decode cX8_init 275 = .ok (.castore, 1) := by decide +kernel
theorem dX8_init_276 : decode cX8_init 276 = .ok (.dup, 1) := by decide +kernel
theorem dX8_init_277 : decode cX8_init 277 = .ok (.bipush 44, 2) := by decide +kernel
theorem dX8_init_279 : decode cX8_init 279 = .ok (.bipush 111, 2) := by decide +kernel
theorem dX8_init_281 : decode cX8_init 281 = .ok (.castore, 1) := by decide +kernel
theorem dX8_init_282 : decode cX8_init 282 = .ok (.dup, 1) := by decide +kernel
theorem dX8_init_283 : decode cX8_init 283 = .ok (.bipush 45, 2) := by decide +kernel
theorem dX8_init_285 : decode cX8_init 285 = .ok (.bipush 116, 2) := by decide +kernel
theorem dX8_init_287 : decode cX8_init 287 = .ok (.castore, 1) := by decide +kernel
theorem dX8_init_288 : decode cX8_init 288 = .ok (.dup, 1) := by decide +kernel
theorem dX8_init_289 : decode cX8_init 289 = .ok (.bipush 46, 2) := by decide +kernel
theorem dX8_init_291 : decode cX8_init 291 = .ok (.bipush 116, 2) := by decide +kernel
theorem dX8_init_293 : decode cX8_init 293 = .ok (.castore, 1) := by decide +kernel
theorem dX8_init_294 : decode cX8_init 294 = .ok (.dup, 1) := by decide +kernel
theorem dX8_init_295 : decode cX8_init 295 = .ok (.bipush 47, 2) := by decide +kernel
theorem dX8_init_297 : decode cX8_init 297 = .ok (.bipush 111, 2) := by decide +kernel
theorem dX8_init_299 : decode cX8_init 299 = .ok (.castore, 1) := by decide +kernel
theorem dX8_init_300 : decode cX8_init 300 = .ok (.dup, 1) := by decide +kernel
theorem dX8_init_301 : decode cX8_init 301 = .ok (.bipush 48, 2) := by decide +kernel
theorem dX8_init_303 : decode cX8_init 303 = .ok (.bipush 109, 2) := by decide +kernel
theorem dX8_init_305 : decode cX8_init 305 = .ok (.castore, 1) := by decide +kernel
theorem dX8_init_306 : decode cX8_init 306 = .ok (.dup, 1) := by decide +kernel
theorem dX8_init_307 : decode cX8_init 307 = .ok (.bipush 49, 2) := by decide +kernel
theorem dX8_init_309 : decode cX8_init 309 = .ok (.bipush 32, 2) := by decide +kernel
theorem dX8_init_311 : decode cX8_init 311 = .ok (.castore, 1) := by decide +kernel
theorem dX8_init_312 : decode cX8_init 312 = .ok (.putfield 13, 3) := by decide +kernel
theorem dX8_init_315 : decode cX8_init 315 = .ok (.aload_n 0, 1) := by decide +kernel
theorem dX8_init_316 : decode cX8_init 316 = .ok (.sipush 400, 3) := by decide +kernel
theorem dX8_init_319 : decode cX8_init 319 = .ok (.newarray .int, 2) := by decide +kernel
theorem dX8_init_321 : decode cX8_init 321 = .ok (.putfield 17, 3) := by decide +kernel
theorem dX8_init_324 : decode cX8_init 324 = .ok (.aload_n 0, 1) := by decide +kernel
theorem dX8_init_325 : decode cX8_init 325 = .ok (.sipush 400, 3) := by decide +kernel
theorem dX8_init_328 : decode cX8_init 328 = .ok (.newarray .int, 2) := by decide +kernel
theorem dX8_init_330 : decode cX8_init 330 = .ok (.putfield 21, 3) := by decide +kernel
theorem dX8_init_333 : decode cX8_init 333 = .ok (.aload_n 0, 1) := by decide +kernel
theorem dX8_init_334 : decode cX8_init 334 = .ok (.sipush 400, 3) := by decide +kernel
theorem dX8_init_337 : decode cX8_init 337 = .ok (.newarray .int, 2) := by decide +kernel
theorem dX8_init_339 : decode cX8_init 339 = .ok (.putfield 24, 3) := by decide +kernel
theorem dX8_init_342 : decode cX8_init 342 = .ok (.aload_n 0, 1) := by decide +kernel
theorem dX8_init_343 : decode cX8_init 343 = .ok (.sipush 400, 3) := by decide +kernel
theorem dX8_init_346 : decode cX8_init 346 = .ok (.newarray .int, 2) := by decide +kernel
theorem dX8_init_348 : decode cX8_init 348 = .ok (.putfield 27, 3) := by decide +kernel
theorem dX8_init_351 : decode cX8_init 351 = .ok (.aload_n 0, 1) := by decide +kernel
theorem dX8_init_352 : decode cX8_init 352 = .ok (.sipush 400, 3) := by decide +kernel
theorem dX8_init_355 : decode cX8_init 355 = .ok (.newarray .int, 2) := by decide +kernel
theorem dX8_init_357 : decode cX8_init 357 = .ok (.putfield 30, 3) := by decide +kernel
theorem dX8_init_360 : decode cX8_init 360 = .ok (.aload_n 0, 1) := by decide +kernel
theorem dX8_init_361 : decode cX8_init 361 = .ok (.sipush 400, 3) := by decide +kernel
theorem dX8_init_364 : decode cX8_init 364 = .ok (.newarray .int, 2) := by decide +kernel
theorem dX8_init_366 : decode cX8_init 366 = .ok (.putfield 33, 3) := by decide +kernel
theorem dX8_init_369 : decode cX8_init 369 = .ok (.aload_n 0, 1) := by decide +kernel
theorem dX8_init_370 : decode cX8_init 370 = .ok (.sipush 500, 3) := by decide +kernel
theorem dX8_init_373 : decode cX8_init 373 = .ok (.newarray .int, 2) := by decide +kernel
theorem dX8_init_375 : decode cX8_init 375 = .ok (.putfield 36, 3) := by decide +kernel
theorem dX8_init_378 : decode cX8_init 378 = .ok (.aload_n 0, 1) := by decide +kernel
theorem dX8_init_379 : decode cX8_init 379 = .ok (.sipush 500, 3) := by decide +kernel
theorem dX8_init_382 : decode cX8_init 382 = .ok (.newarray .int, 2) := by decide +kernel
theorem dX8_init_384 : decode cX8_init 384 = .ok (.putfield 39, 3) := by decide +kernel
theorem dX8_init_387 : decode cX8_init 387 = .ok (.aload_n 0, 1) := by decide +kernel
theorem dX8_init_388 : decode cX8_init 388 = .ok (.sipush 500, 3) := by decide +kernel
theorem dX8_init_391 : decode cX8_init 391 = .ok (.newarray .int, 2) := by decide +kernel
theorem dX8_init_393 : decode cX8_init 393 = .ok (.putfield 42, 3) := by decide +kernel
theorem dX8_init_396 : decode cX8_init 396 = .ok (.aload_n 0, 1) := by decide +kernel
theorem dX8_init_397 : decode cX8_init 397 = .ok (.bipush 24, 2) := by decide +kernel
theorem dX8_init_399 : decode cX8_init 399 = .ok (.newarray .int, 2) := by decide +kernel
theorem dX8_init_401 : decode cX8_init 401 = .ok (.putfield 45, 3) := by decide +kernel
theorem dX8_init_404 : decode cX8_init 404 = .ok (.aload_n 0, 1) := by decide +kernel
theorem dX8_init_405 : decode cX8_init 405 = .ok (.bipush 24, 2) := by decide +kernel
theorem dX8_init_407 : decode cX8_init 407 = .ok (.newarray .int, 2) := by decide +kernel
theorem dX8_init_409 : decode cX8_init 409 = .ok (.putfield 48, 3) := by decide +kernel
theorem dX8_init_412 : decode cX8_init 412 = .ok (.aload_n 0, 1) := by decide +kernel
theorem dX8_init_413 : decode cX8_init 413 = .ok (.bipush 80, 2) := by decide +kernel
theorem dX8_init_415 : decode cX8_init 415 = .ok (.newarray .byte, 2) := by decide +kernel
theorem dX8_init_417 : decode cX8_init 417 = .ok (.putfield 51, 3) := by decide +kernel
theorem dX8_init_420 : decode cX8_init 420 = .ok (.aload_n 0, 1) := by decide +kernel
theorem dX8_init_421 : decode cX8_init 421 = .ok (.bipush 10, 2) := by decide +kernel
theorem dX8_init_423 : decode cX8_init 423 = .ok (.newarray .int, 2) := by decide +kernel
theorem dX8_init_425 : decode cX8_init 425 = .ok (.putfield 54, 3) := by decide +kernel
theorem dX8_init_428 : decode cX8_init 428 = .ok (.aload_n 0, 1) := by decide +kernel
theorem dX8_init_429 : decode cX8_init 429 = .ok (.bipush 48, 2) := by decide +kernel
theorem dX8_init_431 : decode cX8_init 431 = .ok (.newarray .byte, 2) := by decide +kernel
theorem dX8_init_433 : decode cX8_init 433 = .ok (.putfield 57, 3) := by decide +kernel
theorem dX8_init_436 : decode cX8_init 436 = .ok (.aload_n 0, 1) := by decide +kernel
theorem dX8_init_437 : decode cX8_init 437 = .ok (.bipush 6, 2) := by decide +kernel
theorem dX8_init_439 : decode cX8_init 439 = .ok (.newarray .int, 2) := by decide +kernel
theorem dX8_init_441 : decode cX8_init 441 = .ok (.putfield 60, 3) := by decide +kernel
theorem dX8_init_444 : decode cX8_init 444 = .ok (.aload_n 0, 1) := by decide +kernel
theorem dX8_init_445 : decode cX8_init 445 = .ok (.bipush 6, 2) := by decide +kernel
theorem dX8_init_447 : decode cX8_init 447 = .ok (.newarray .boolean, 2) := by decide +kernel
theorem dX8_init_449 : decode cX8_init 449 = .ok (.putfield 63, 3) := by decide +kernel
theorem dX8_init_452 : decode cX8_init 452 = .ok (.aload_n 0, 1) := by decide +kernel
theorem dX8_init_453 : decode cX8_init 453 = .ok (.bipush 18, 2) := by decide +kernel
theorem dX8_init_455 : decode cX8_init 455 = .ok (.newarray .boolean, 2) := by decide +kernel
theorem dX8_init_457 : decode cX8_init 457 = .ok (.putfield 67, 3) := by decide +kernel
theorem dX8_init_460 : decode cX8_init 460 = .ok (.aload_n 0, 1) := by decide +kernel
theorem dX8_init_461 : decode cX8_init 461 = .ok (.bipush 6, 2) := by decide +kernel
theorem dX8_init_463 : decode cX8_init 463 = .ok (.newarray .boolean, 2) := by decide +kernel
theorem dX8_init_465 : decode cX8_init 465 = .ok (.putfield 70, 3) := by decide +kernel
theorem dX8_init_468 : decode cX8_init 468 = .ok (.aload_n 0, 1) := by decide +kernel
theorem dX8_init_469 : decode cX8_init 469 = .ok (.bipush 18, 2) := by decide +kernel
theorem dX8_init_471 : decode cX8_init 471 = .ok (.newarray .int, 2) := by decide +kernel
theorem dX8_init_473 : decode cX8_init 473 = .ok (.putfield 73, 3) := by decide +kernel
theorem dX8_init_476 : decode cX8_init 476 = .ok (.aload_n 0, 1) := by decide +kernel
theorem dX8_init_477 : decode cX8_init 477 = .ok (.bipush 18, 2) := by decide +kernel
theorem dX8_init_479 : decode cX8_init 479 = .ok (.newarray .int, 2) := by decide +kernel
theorem dX8_init_481 : decode cX8_init 481 = .ok (.putfield 76, 3) := by decide +kernel
theorem dX8_init_484 : decode cX8_init 484 = .ok (.aload_n 0, 1) := by decide +kernel
theorem dX8_init_485 : decode cX8_init 485 = .ok (.bipush 18, 2) := by decide +kernel
theorem dX8_init_487 : decode cX8_init 487 = .ok (.newarray .int, 2) := by decide +kernel
theorem dX8_init_489 : decode cX8_init 489 = .ok (.putfield 79, 3) := by decide +kernel
theorem dX8_init_492 : decode cX8_init 492 = .ok (.aload_n 0, 1) := by decide +kernel
theorem dX8_init_493 : decode cX8_init 493 = .ok (.bipush 18, 2) := by decide +kernel
theorem dX8_init_495 : decode cX8_init 495 = .ok (.newarray .boolean, 2) := by decide +kernel
theorem dX8_init_497 : decode cX8_init 497 = .ok (.putfield 82, 3) := by decide +kernel
theorem dX8_init_500 : decode cX8_init 500 = .ok (.aload_n 0, 1) := by decide +kernel
theorem dX8_init_501 : decode cX8_init 501 = .ok (.iconst (-1), 1) := by decide +kernel
theorem dX8_init_502 : decode cX8_init 502 = .ok (.putfield 85, 3) := by decide +kernel
theorem dX8_init_505 : decode cX8_init 505 = .ok (.aload_n 0, 1) := by decide +kernel
theorem dX8_init_506 : decode cX8_init 506 = .ok (.sipush 400, 3) := by decide +kernel
theorem dX8_init_509 : decode cX8_init 509 = .ok (.newarray .int, 2) := by decide +kernel
theorem dX8_init_511 : decode cX8_init 511 = .ok (.putfield 89, 3) := by decide +kernel
theorem dX8_init_514 : decode cX8_init 514 = .ok (.aload_n 0, 1) := by decide +kernel
theorem dX8_init_515 : decode cX8_init 515 = .ok (.sipush 400, 3) := by decide +kernel
theorem dX8_init_518 : decode cX8_init 518 = .ok (.newarray .int, 2) := by decide +kernel
theorem dX8_init_520 : decode cX8_init 520 = .ok (.putfield 92, 3) := by decide +kernel
theorem dX8_init_523 : decode cX8_init 523 = .ok (.aload_n 0, 1) := by decide +kernel
theorem dX8_init_524 : decode cX8_init 524 = .ok (.sipush 500, 3) := by decide +kernel
theorem dX8_init_527 : decode cX8_init 527 = .ok (.newarray .int, 2) := by decide +kernel
theorem dX8_init_529 : decode cX8_init 529 = .ok (.putfield 95, 3) := by decide +kernel
theorem dX8_init_532 : decode cX8_init 532 = .ok (.aload_n 0, 1) := by decide +kernel
theorem dX8_init_533 : decode cX8_init 533 = .ok (.sipush 500, 3) := by decide +kernel
theorem dX8_init_536 : decode cX8_init 536 = .ok (.newarray .int, 2) := by decide +kernel
theorem dX8_init_538 : decode cX8_init 538 = .ok (.putfield 98, 3) := by decide +kernel
theorem dX8_init_541 : decode cX8_init 541 = .ok (.aload_n 0, 1) := by decide +kernel
theorem dX8_init_542 : decode cX8_init 542 = .ok (.ldc 101, 2) := by decide +kernel
theorem dX8_init_544 : decode cX8_init 544 = .ok (.newarray .boolean, 2) := by decide +kernel
theorem dX8_init_546 : decode cX8_init 546 = .ok (.putfield 102, 3) := by decide +kernel
theorem dX8_init_549 : decode cX8_init 549 = .ok (.aload_n 0, 1) := by decide +kernel
theorem dX8_init_550 : decode cX8_init 550 = .ok (.sipush 512, 3) := by decide +kernel
theorem dX8_init_553 : decode cX8_init 553 = .ok (.newarray .int, 2) := by decide +kernel
theorem dX8_init_555 : decode cX8_init 555 = .ok (.putfield 105, 3) := by decide +kernel
theorem dX8_init_558 : decode cX8_init 558 = .ok (.aload_n 0, 1) := by decide +kernel
theorem dX8_init_559 : decode cX8_init 559 = .ok (.iconst 3, 1) := by decide +kernel
theorem dX8_init_560 : decode cX8_init 560 = .ok (.newarray .int, 2) := by decide +kernel
theorem dX8_init_562 : decode cX8_init 562 = .ok (.putfield 108, 3) := by decide +kernel
theorem dX8_init_565 : decode cX8_init 565 = .ok (.aload_n 0, 1) := by decide +kernel
theorem dX8_init_566 : decode cX8_init 566 = .ok (.iconst 3, 1) := by decide +kernel
theorem dX8_init_567 : decode cX8_init 567 = .ok (.newarray .int, 2) := by decide +kernel
theorem dX8_init_569 : decode cX8_init 569 = .ok (.putfield 111, 3) := by decide +kernel
theorem dX8_init_572 : decode cX8_init 572 = .ok (.aload_n 0, 1) := by decide +kernel
theorem dX8_init_573 : decode cX8_init 573 = .ok (.sipush 512, 3) := by decide +kernel
theorem dX8_init_576 : decode cX8_init 576 = .ok (.newarray .int, 2) := by decide +kernel
theorem dX8_init_578 : decode cX8_init 578 = .ok (.putfield 114, 3) := by decide +kernel
theorem dX8_init_581 : decode cX8_init 581 = .ok (.aload_n 0, 1) := by decide +kernel
theorem dX8_init_582 : decode cX8_init 582 = .ok (.sipush 512, 3) := by decide +kernel
theorem dX8_init_585 : decode cX8_init 585 = .ok (.newarray .boolean, 2) := by decide +kernel
theorem dX8_init_587 : decode cX8_init 587 = .ok (.putfield 117, 3) := by decide +kernel
theorem dX8_init_590 : decode cX8_init 590 = .ok (.aload_n 0, 1) := by decide +kernel
theorem dX8_init_591 : decode cX8_init 591 = .ok (.sipush 512, 3) := by decide +kernel
theorem dX8_init_594 : decode cX8_init 594 = .ok (.newarray .boolean, 2) := by decide +kernel
theorem dX8_init_596 : decode cX8_init 596 = .ok (.putfield 120, 3) := by decide +kernel
theorem dX8_init_599 : decode cX8_init 599 = .ok (.aload_n 0, 1) := by decide +kernel
theorem dX8_init_600 : decode cX8_init 600 = .ok (.sipush 512, 3) := by decide +kernel
theorem dX8_init_603 : decode cX8_init 603 = .ok (.newarray .int, 2) := by decide +kernel
theorem dX8_init_605 : decode cX8_init 605 = .ok (.putfield 123, 3) := by decide +kernel
theorem dX8_init_608 : decode cX8_init 608 = .ok (.aload_n 0, 1) := by decide +kernel
theorem dX8_init_609 : decode cX8_init 609 = .ok (.sipush 4700, 3) := by decide +kernel
theorem dX8_init_612 : decode cX8_init 612 = .ok (.newarray .int, 2) := by decide +kernel
theorem dX8_init_614 : decode cX8_init 614 = .ok (.putfield 126, 3) := by decide +kernel
theorem dX8_init_617 : decode cX8_init 617 = .ok (.aload_n 0, 1) := by decide +kernel
theorem dX8_init_618 : decode cX8_init 618 = .ok (.sipush 4700, 3) := by decide +kernel
theorem dX8_init_621 : decode cX8_init 621 = .ok (.newarray .int, 2) := by decide +kernel
theorem dX8_init_623 : decode cX8_init 623 = .ok (.putfield 129, 3) := by decide +kernel
theorem dX8_init_626 : decode cX8_init 626 = .ok (.aload_n 0, 1) := by decide +kernel
theorem dX8_init_627 : decode cX8_init 627 = .ok (.sipush 4700, 3) := by decide +kernel
theorem dX8_init_630 : decode cX8_init 630 = .ok (.newarray .int, 2) := by decide +kernel
theorem dX8_init_632 : decode cX8_init 632 = .ok (.putfield 132, 3) := by decide +kernel
theorem dX8_init_635 : decode cX8_init 635 = .ok (.aload_n 0, 1) := by decide +kernel
theorem dX8_init_636 : decode cX8_init 636 = .ok (.sipush 16000, 3) := by decide +kernel
theorem dX8_init_639 : decode cX8_init 639 = .ok (.newarray .byte, 2) := by decide +kernel
theorem dX8_init_641 : decode cX8_init 641 = .ok (.putfield 135, 3) := by decide +kernel
theorem dX8_init_644 : decode cX8_init 644 = .ok (.aload_n 0, 1) := by decide +kernel
theorem dX8_init_645 : decode cX8_init 645 = .ok (.sipush 2000, 3) := by decide +kernel
theorem dX8_init_648 : decode cX8_init 648 = .ok (.newarray .int, 2) := by decide +kernel
theorem dX8_init_650 : decode cX8_init 650 = .ok (.putfield 138, 3) := by decide +kernel
theorem dX8_init_653 : decode cX8_init 653 = .ok (.aload_n 0, 1) := by decide +kernel
theorem dX8_init_654 : decode cX8_init 654 = .ok (.sipush 2000, 3) := by decide +kernel
theorem dX8_init_657 : decode cX8_init 657 = .ok (.newarray .int, 2) := by decide +kernel
theorem dX8_init_659 : decode cX8_init 659 = .ok (.putfield 141, 3) := by decide +kernel
theorem dX8_init_662 : decode cX8_init 662 = .ok (.aload_n 0, 1) := by decide +kernel
theorem dX8_init_663 : decode cX8_init 663 = .ok (.sipush 2000, 3) := by decide +kernel
theorem dX8_init_666 : decode cX8_init 666 = .ok (.newarray .int, 2) := by decide +kernel
theorem dX8_init_668 : decode cX8_init 668 = .ok (.putfield 144, 3) := by decide +kernel
theorem dX8_init_671 : decode cX8_init 671 = .ok (.return_, 1) := by decide +kernel
theorem dX8_in_0 : decode cX8_in 0 = .ok (.lload_n 0, 1) := by decide +kernel
theorem dX8_in_1 : decode cX8_in 1 = .ok (.lload_n 2, 1) := by decide +kernel
theorem dX8_in_2 : decode cX8_in 2 = .ok (.lcmp, 1) := by decide +kernel
theorem dX8_in_3 : decode cX8_in 3 = .ok (.ifCond .lt 14, 3) := by decide +kernel
theorem dX8_in_6 : decode cX8_in 6 = .ok (.lload_n 0, 1) := by decide +kernel
theorem dX8_in_7 : decode cX8_in 7 = .ok (.lload 4, 2) := by decide +kernel
theorem dX8_in_9 : decode cX8_in 9 = .ok (.lcmp, 1) := by decide +kernel
theorem dX8_in_10 : decode cX8_in 10 = .ok (.ifCond .gt 7, 3) := by decide +kernel
theorem dX8_in_13 : decode cX8_in 13 = .ok (.iconst 1, 1) := by decide +kernel
theorem dX8_in_14 : decode cX8_in 14 = .ok (.goto 4, 3) := by decide +kernel
theorem dX8_in_17 : decode cX8_in 17 = .ok (.iconst 0, 1) := by decide +kernel
theorem dX8_in_18 : decode cX8_in 18 = .ok (.ireturn, 1) := by decide +kernel
theorem dX8_four_0 : decode cX8_four 0 = .ok (.iconst 3, 1) := by decide +kernel
theorem dX8_four_1 : decode cX8_four 1 = .ok (.istore_n 2, 1) := by decide +kernel
theorem dX8_four_2 : decode cX8_four 2 = .ok (.iload_n 2, 1) := by decide +kernel
theorem dX8_four_3 : decode cX8_four 3 = .ok (.ifCond .lt 35, 3) := by decide +kernel
theorem dX8_four_6 : decode cX8_four 6 = .ok (.aload_n 0, 1) := by decide +kernel
theorem dX8_four_7 : decode cX8_four 7 = .ok (.getfield 7, 3) := by decide +kernel
theorem dX8_four_10 : decode cX8_four 10 = .ok (.aload_n 0, 1) := by decide +kernel
theorem dX8_four_11 : decode cX8_four 11 = .ok (.getfield 147, 3) := by decide +kernel
theorem dX8_four_14 : decode cX8_four 14 = .ok (.iload_n 1, 1) := by decide +kernel
theorem dX8_four_15 : decode cX8_four 15 = .ok (.bipush 8, 2) := by decide +kernel
theorem dX8_four_17 : decode cX8_four 17 = .ok (.iload_n 2, 1) := by decide +kernel
theorem dX8_four_18 : decode cX8_four 18 = .ok (.imul, 1) := by decide +kernel
theorem dX8_four_19 : decode cX8_four 19 = .ok (.ishr, 1) := by decide +kernel
theorem dX8_four_20 : decode cX8_four 20 = .ok (.i2b, 1) := by decide +kernel
theorem dX8_four_21 : decode cX8_four 21 = .ok (.bastore, 1) := by decide +kernel
theorem dX8_four_22 : decode cX8_four 22 = .ok (.aload_n 0, 1) := by decide +kernel
theorem dX8_four_23 : decode cX8_four 23 = .ok (.dup, 1) := by decide +kernel
theorem dX8_four_24 : decode cX8_four 24 = .ok (.getfield 147, 3) := by decide +kernel
theorem dX8_four_27 : decode cX8_four 27 = .ok (.iconst 1, 1) := by decide +kernel
theorem dX8_four_28 : decode cX8_four 28 = .ok (.iadd, 1) := by decide +kernel
theorem dX8_four_29 : decode cX8_four 29 = .ok (.putfield 147, 3) := by decide +kernel
theorem dX8_four_32 : decode cX8_four 32 = .ok (.iinc 2 (-1), 3) := by decide +kernel
theorem dX8_four_35 : decode cX8_four 35 = .ok (.goto (-33), 3) := by decide +kernel
theorem dX8_four_38 : decode cX8_four 38 = .ok (.return_, 1) := by decide +kernel
theorem dX8_feed_0 : decode cX8_feed 0 = .ok (.aload_n 0, 1) := by decide +kernel
theorem dX8_feed_1 : decode cX8_feed 1 = .ok (.getfield 147, 3) := by decide +kernel
theorem dX8_feed_4 : decode cX8_feed 4 = .ok (.bipush 20, 2) := by decide +kernel
theorem dX8_feed_6 : decode cX8_feed 6 = .ok (.iadd, 1) := by decide +kernel
theorem dX8_feed_7 : decode cX8_feed 7 = .ok (.sipush 2000, 3) := by decide +kernel
theorem dX8_feed_10 : decode cX8_feed 10 = .ok (.if_icmp .le 6, 3) := by decide +kernel
theorem dX8_feed_13 : decode cX8_feed 13 = .ok (.bipush (-104), 2) := by decide +kernel
theorem dX8_feed_15 : decode cX8_feed 15 = .ok (.ireturn, 1) := by decide +kernel
theorem dX8_feed_16 : decode cX8_feed 16 = .ok (.aload_n 0, 1) := by decide +kernel
theorem dX8_feed_17 : decode cX8_feed 17 = .ok (.iload_n 1, 1) := by decide +kernel
theorem dX8_feed_18 : decode cX8_feed 18 = .ok (.invokevirtual 150, 3) := by decide +kernel
theorem dX8_feed_21 : decode cX8_feed 21 = .ok (.aload_n 0, 1) := by decide +kernel
theorem dX8_feed_22 : decode cX8_feed 22 = .ok (.iload_n 2, 1) := by decide +kernel
theorem dX8_feed_23 : decode cX8_feed 23 = .ok (.invokevirtual 150, 3) := by decide +kernel
theorem dX8_feed_26 : decode cX8_feed 26 = .ok (.aload_n 0, 1) := by decide +kernel
theorem dX8_feed_27 : decode cX8_feed 27 = .ok (.iload_n 3, 1) := by decide +kernel
theorem dX8_feed_28 : decode cX8_feed 28 = .ok (.invokevirtual 150, 3) := by decide +kernel
theorem dX8_feed_31 : decode cX8_feed 31 = .ok (.aload_n 0, 1) := by decide +kernel
theorem dX8_feed_32 : decode cX8_feed 32 = .ok (.iload 4, 2) := by decide +kernel
theorem dX8_feed_34 : decode cX8_feed 34 = .ok (.invokevirtual 150, 3) := by decide +kernel
theorem dX8_feed_37 : decode cX8_feed 37 = .ok (.aload_n 0, 1) := by decide +kernel
theorem dX8_feed_38 : decode cX8_feed 38 = .ok (.iload 5, 2) := by decide +kernel
theorem dX8_feed_40 : decode cX8_feed 40 = .ok (.invokevirtual 150, 3) := by decide +kernel
theorem dX8_feed_43 : decode cX8_feed 43 = .ok (.aload_n 0, 1) := by decide +kernel
theorem dX8_feed_44 : decode cX8_feed 44 = .ok (.getfield 147, 3) := by decide +kernel
theorem dX8_feed_47 : decode cX8_feed 47 = .ok (.ireturn, 1) := by decide +kernel
theorem dX8_cut_0 : decode cX8_cut 0 = .ok (.iload_n 1, 1) := by decide +kernel
theorem dX8_cut_1 : decode cX8_cut 1 = .ok (.i2l, 1) := by decide +kernel
theorem dX8_cut_2 : decode cX8_cut 2 = .ok (.lconst 0, 1) := by decide +kernel
theorem dX8_cut_3 : decode cX8_cut 3 = .ok (.aload_n 0, 1) := by decide +kernel
theorem dX8_cut_4 : decode cX8_cut 4 = .ok (.getfield 147, 3) := by decide +kernel
theorem dX8_cut_7 : decode cX8_cut 7 = .ok (.i2l, 1) := by decide +kernel
theorem dX8_cut_8 : decode cX8_cut 8 = .ok (.invokestatic 154, 3) := by decide +kernel
theorem dX8_cut_11 : decode cX8_cut 11 = .ok (.ifCond .ne 6, 3) := by decide +kernel
theorem dX8_cut_14 : decode cX8_cut 14 = .ok (.bipush (-103), 2) := by decide +kernel
theorem dX8_cut_16 : decode cX8_cut 16 = .ok (.ireturn, 1) := by decide +kernel
theorem dX8_cut_17 : decode cX8_cut 17 = .ok (.aload_n 0, 1) := by decide +kernel
theorem dX8_cut_18 : decode cX8_cut 18 = .ok (.getfield 147, 3) := by decide +kernel
theorem dX8_cut_21 : decode cX8_cut 21 = .ok (.iload_n 1, 1) := by decide +kernel
theorem dX8_cut_22 : decode cX8_cut 22 = .ok (.isub, 1) := by decide +kernel
theorem dX8_cut_23 : decode cX8_cut 23 = .ok (.istore_n 2, 1) := by decide +kernel
theorem dX8_cut_24 : decode cX8_cut 24 = .ok (.aload_n 0, 1) := by decide +kernel
theorem dX8_cut_25 : decode cX8_cut 25 = .ok (.iload_n 1, 1) := by decide +kernel
theorem dX8_cut_26 : decode cX8_cut 26 = .ok (.putfield 147, 3) := by decide +kernel
theorem dX8_cut_29 : decode cX8_cut 29 = .ok (.iload_n 2, 1) := by decide +kernel
theorem dX8_cut_30 : decode cX8_cut 30 = .ok (.ireturn, 1) := by decide +kernel
theorem dX8_isLetter_0 : decode cX8_isLetter 0 = .ok (.iload_n 0, 1) := by decide +kernel
theorem dX8_isLetter_1 : decode cX8_isLetter 1 = .ok (.i2l, 1) := by decide +kernel
theorem dX8_isLetter_2 : decode cX8_isLetter 2 = .ok (.ldc2_w 158, 3) := by decide +kernel
theorem dX8_isLetter_5 : decode cX8_isLetter 5 = .ok (.ldc2_w 160, 3) := by decide +kernel
theorem dX8_isLetter_8 : decode cX8_isLetter 8 = .ok (.invokestatic 154, 3) := by decide +kernel
theorem dX8_isLetter_11 : decode cX8_isLetter 11 = .ok (.ireturn, 1) := by decide +kernel
theorem dX8_isFigure_0 : decode cX8_isFigure 0 = .ok (.iload_n 0, 1) := by decide +kernel
theorem dX8_isFigure_1 : decode cX8_isFigure 1 = .ok (.i2l, 1) := by decide +kernel
theorem dX8_isFigure_2 : decode cX8_isFigure 2 = .ok (.ldc2_w 162, 3) := by decide +kernel
theorem dX8_isFigure_5 : decode cX8_isFigure 5 = .ok (.ldc2_w 164, 3) := by decide +kernel
theorem dX8_isFigure_8 : decode cX8_isFigure 8 = .ok (.invokestatic 154, 3) := by decide +kernel
theorem dX8_isFigure_11 : decode cX8_isFigure 11 = .ok (.ireturn, 1) := by decide +kernel
theorem dX8_next_0 : decode cX8_next 0 = .ok (.aload_n 0, 1) := by decide +kernel
theorem dX8_next_1 : decode cX8_next 1 = .ok (.getfield 166, 3) := by decide +kernel
theorem dX8_next_4 : decode cX8_next 4 = .ok (.istore_n 1, 1) := by decide +kernel
theorem dX8_next_5 : decode cX8_next 5 = .ok (.iload_n 1, 1) := by decide +kernel
theorem dX8_next_6 : decode cX8_next 6 = .ok (.aload_n 0, 1) := by decide +kernel
theorem dX8_next_7 : decode cX8_next 7 = .ok (.getfield 147, 3) := by decide +kernel
theorem dX8_next_10 : decode cX8_next 10 = .ok (.if_icmp .ge 31, 3) := by decide +kernel
theorem dX8_next_13 : decode cX8_next 13 = .ok (.aload_n 0, 1) := by decide +kernel
theorem dX8_next_14 : decode cX8_next 14 = .ok (.getfield 7, 3) := by decide +kernel
theorem dX8_next_17 : decode cX8_next 17 = .ok (.iload_n 1, 1) := by decide +kernel
theorem dX8_next_18 : decode cX8_next 18 = .ok (.baload, 1) := by decide +kernel
theorem dX8_next_19 : decode cX8_next 19 = .ok (.bipush 32, 2) := by decide +kernel
theorem dX8_next_21 : decode cX8_next 21 = .ok (.if_icmp .eq 14, 3) := by decide +kernel
theorem dX8_next_24 : decode cX8_next 24 = .ok (.aload_n 0, 1) := by decide +kernel
theorem dX8_next_25 : decode cX8_next 25 = .ok (.getfield 7, 3) := by decide +kernel
theorem dX8_next_28 : decode cX8_next 28 = .ok (.iload_n 1, 1) := by decide +kernel
theorem dX8_next_29 : decode cX8_next 29 = .ok (.baload, 1) := by decide +kernel
theorem dX8_next_30 : decode cX8_next 30 = .ok (.bipush 10, 2) := by decide +kernel
theorem dX8_next_32 : decode cX8_next 32 = .ok (.if_icmp .ne 9, 3) := by decide +kernel
theorem dX8_next_35 : decode cX8_next 35 = .ok (.iinc 1 1, 3) := by decide +kernel
theorem dX8_next_38 : decode cX8_next 38 = .ok (.goto (-33), 3) := by decide +kernel
theorem dX8_next_41 : decode cX8_next 41 = .ok (.aload_n 0, 1) := by decide +kernel
theorem dX8_next_42 : decode cX8_next 42 = .ok (.iload_n 1, 1) := by decide +kernel
theorem dX8_next_43 : decode cX8_next 43 = .ok (.putfield 169, 3) := by decide +kernel
theorem dX8_next_46 : decode cX8_next 46 = .ok (.aload_n 0, 1) := by decide +kernel
theorem dX8_next_47 : decode cX8_next 47 = .ok (.iconst 0, 1) := by decide +kernel
theorem dX8_next_48 : decode cX8_next 48 = .ok (.putfield 172, 3) := by decide +kernel
theorem dX8_next_51 : decode cX8_next 51 = .ok (.aload_n 0, 1) := by decide +kernel
theorem dX8_next_52 : decode cX8_next 52 = .ok (.iconst 0, 1) := by decide +kernel
theorem dX8_next_53 : decode cX8_next 53 = .ok (.putfield 175, 3) := by decide +kernel
theorem dX8_next_56 : decode cX8_next 56 = .ok (.iload_n 1, 1) := by decide +kernel
theorem dX8_next_57 : decode cX8_next 57 = .ok (.aload_n 0, 1) := by decide +kernel
theorem dX8_next_58 : decode cX8_next 58 = .ok (.getfield 147, 3) := by decide +kernel
theorem dX8_next_61 : decode cX8_next 61 = .ok (.if_icmp .ne 11, 3) := by decide +kernel
theorem dX8_next_64 : decode cX8_next 64 = .ok (.aload_n 0, 1) := by decide +kernel
theorem dX8_next_65 : decode cX8_next 65 = .ok (.iconst 0, 1) := by decide +kernel
theorem dX8_next_66 : decode cX8_next 66 = .ok (.putfield 178, 3) := by decide +kernel
theorem dX8_next_69 : decode cX8_next 69 = .ok (.goto 178, 3) := by decide +kernel
theorem dX8_next_72 : decode cX8_next 72 = .ok (.aload_n 0, 1) := by decide +kernel
theorem dX8_next_73 : decode cX8_next 73 = .ok (.getfield 7, 3) := by decide +kernel
theorem dX8_next_76 : decode cX8_next 76 = .ok (.iload_n 1, 1) := by decide +kernel
theorem dX8_next_77 : decode cX8_next 77 = .ok (.baload, 1) := by decide +kernel
theorem dX8_next_78 : decode cX8_next 78 = .ok (.invokestatic 181, 3) := by decide +kernel
theorem dX8_next_81 : decode cX8_next 81 = .ok (.ifCond .ne 15, 3) := by decide +kernel
theorem dX8_next_84 : decode cX8_next 84 = .ok (.aload_n 0, 1) := by decide +kernel
theorem dX8_next_85 : decode cX8_next 85 = .ok (.getfield 7, 3) := by decide +kernel
theorem dX8_next_88 : decode cX8_next 88 = .ok (.iload_n 1, 1) := by decide +kernel
theorem dX8_next_89 : decode cX8_next 89 = .ok (.baload, 1) := by decide +kernel
theorem dX8_next_90 : decode cX8_next 90 = .ok (.invokestatic 185, 3) := by decide +kernel
theorem dX8_next_93 : decode cX8_next 93 = .ok (.ifCond .eq 87, 3) := by decide +kernel
theorem dX8_next_96 : decode cX8_next 96 = .ok (.iload_n 1, 1) := by decide +kernel
theorem dX8_next_97 : decode cX8_next 97 = .ok (.aload_n 0, 1) := by decide +kernel
theorem dX8_next_98 : decode cX8_next 98 = .ok (.getfield 147, 3) := by decide +kernel
theorem dX8_next_101 : decode cX8_next 101 = .ok (.if_icmp .ge 33, 3) := by decide +kernel
theorem dX8_next_104 : decode cX8_next 104 = .ok (.aload_n 0, 1) := by decide +kernel
theorem dX8_next_105 : decode cX8_next 105 = .ok (.getfield 7, 3) := by decide +kernel
theorem dX8_next_108 : decode cX8_next 108 = .ok (.iload_n 1, 1) := by decide +kernel
theorem dX8_next_109 : decode cX8_next 109 = .ok (.baload, 1) := by decide +kernel
theorem dX8_next_110 : decode cX8_next 110 = .ok (.invokestatic 181, 3) := by decide +kernel
theorem dX8_next_113 : decode cX8_next 113 = .ok (.ifCond .ne 15, 3) := by decide +kernel
theorem dX8_next_116 : decode cX8_next 116 = .ok (.aload_n 0, 1) := by decide +kernel
theorem dX8_next_117 : decode cX8_next 117 = .ok (.getfield 7, 3) := by decide +kernel
theorem dX8_next_120 : decode cX8_next 120 = .ok (.iload_n 1, 1) := by decide +kernel
theorem dX8_next_121 : decode cX8_next 121 = .ok (.baload, 1) := by decide +kernel
theorem dX8_next_122 : decode cX8_next 122 = .ok (.invokestatic 185, 3) := by decide +kernel
theorem dX8_next_125 : decode cX8_next 125 = .ok (.ifCond .eq 9, 3) := by decide +kernel
theorem dX8_next_128 : decode cX8_next 128 = .ok (.iinc 1 1, 3) := by decide +kernel
theorem dX8_next_131 : decode cX8_next 131 = .ok (.goto (-35), 3) := by decide +kernel
theorem dX8_next_134 : decode cX8_next 134 = .ok (.aload_n 0, 1) := by decide +kernel
theorem dX8_next_135 : decode cX8_next 135 = .ok (.iload_n 1, 1) := by decide +kernel
theorem dX8_next_136 : decode cX8_next 136 = .ok (.aload_n 0, 1) := by decide +kernel
theorem dX8_next_137 : decode cX8_next 137 = .ok (.getfield 169, 3) := by decide +kernel
theorem dX8_next_140 : decode cX8_next 140 = .ok (.isub, 1) := by decide +kernel
theorem dX8_next_141 : decode cX8_next 141 = .ok (.putfield 172, 3) := by decide +kernel
theorem dX8_next_144 : decode cX8_next 144 = .ok (.aload_n 0, 1) := by decide +kernel
theorem dX8_next_145 : decode cX8_next 145 = .ok (.aload_n 0, 1) := by decide +kernel
theorem dX8_next_146 : decode cX8_next 146 = .ok (.getfield 7, 3) := by decide +kernel
theorem dX8_next_149 : decode cX8_next 149 = .ok (.aload_n 0, 1) := by decide +kernel
theorem dX8_next_150 : decode cX8_next 150 = .ok (.getfield 169, 3) := by decide +kernel
theorem dX8_next_153 : decode cX8_next 153 = .ok (.baload, 1) := by decide +kernel
theorem dX8_next_154 : decode cX8_next 154 = .ok (.invokestatic 181, 3) := by decide +kernel
theorem dX8_next_157 : decode cX8_next 157 = .ok (.ifCond .eq 16, 3) := by decide +kernel
theorem dX8_next_160 : decode cX8_next 160 = .ok (.aload_n 0, 1) := by decide +kernel
theorem dX8_next_161 : decode cX8_next 161 = .ok (.getfield 172, 3) := by decide +kernel
theorem dX8_next_164 : decode cX8_next 164 = .ok (.bipush 8, 2) := by decide +kernel
theorem dX8_next_166 : decode cX8_next 166 = .ok (.if_icmp .gt 7, 3) := by decide +kernel
theorem dX8_next_169 : decode cX8_next 169 = .ok (.iconst 1, 1) := by decide +kernel
theorem dX8_next_170 : decode cX8_next 170 = .ok (.goto 4, 3) := by decide +kernel
theorem dX8_next_173 : decode cX8_next 173 = .ok (.iconst 3, 1) := by decide +kernel
theorem dX8_next_174 : decode cX8_next 174 = .ok (.putfield 178, 3) := by decide +kernel
theorem dX8_next_177 : decode cX8_next 177 = .ok (.goto 70, 3) := by decide +kernel
theorem dX8_next_180 : decode cX8_next 180 = .ok (.aload_n 0, 1) := by decide +kernel
theorem dX8_next_181 : decode cX8_next 181 = .ok (.aload_n 0, 1) := by decide +kernel
theorem dX8_next_182 : decode cX8_next 182 = .ok (.getfield 7, 3) := by decide +kernel
theorem dX8_next_185 : decode cX8_next 185 = .ok (.iload_n 1, 1) := by decide +kernel
theorem dX8_next_186 : decode cX8_next 186 = .ok (.baload, 1) := by decide +kernel
theorem dX8_next_187 : decode cX8_next 187 = .ok (.putfield 175, 3) := by decide +kernel
theorem dX8_next_190 : decode cX8_next 190 = .ok (.aload_n 0, 1) := by decide +kernel
theorem dX8_next_191 : decode cX8_next 191 = .ok (.aload_n 0, 1) := by decide +kernel
theorem dX8_next_192 : decode cX8_next 192 = .ok (.getfield 175, 3) := by decide +kernel
theorem dX8_next_195 : decode cX8_next 195 = .ok (.bipush 60, 2) := by decide +kernel
theorem dX8_next_197 : decode cX8_next 197 = .ok (.if_icmp .eq 39, 3) := by decide +kernel
theorem dX8_next_200 : decode cX8_next 200 = .ok (.aload_n 0, 1) := by decide +kernel
theorem dX8_next_201 : decode cX8_next 201 = .ok (.getfield 175, 3) := by decide +kernel
theorem dX8_next_204 : decode cX8_next 204 = .ok (.bipush 61, 2) := by decide +kernel
theorem dX8_next_206 : decode cX8_next 206 = .ok (.if_icmp .eq 30, 3) := by decide +kernel
theorem dX8_next_209 : decode cX8_next 209 = .ok (.aload_n 0, 1) := by decide +kernel
theorem dX8_next_210 : decode cX8_next 210 = .ok (.getfield 175, 3) := by decide +kernel
theorem dX8_next_213 : decode cX8_next 213 = .ok (.bipush 59, 2) := by decide +kernel
theorem dX8_next_215 : decode cX8_next 215 = .ok (.if_icmp .eq 21, 3) := by decide +kernel
theorem dX8_next_218 : decode cX8_next 218 = .ok (.aload_n 0, 1) := by decide +kernel
theorem dX8_next_219 : decode cX8_next 219 = .ok (.getfield 175, 3) := by decide +kernel
theorem dX8_next_222 : decode cX8_next 222 = .ok (.bipush 40, 2) := by decide +kernel
theorem dX8_next_224 : decode cX8_next 224 = .ok (.if_icmp .eq 12, 3) := by decide +kernel
theorem dX8_next_227 : decode cX8_next 227 = .ok (.aload_n 0, 1) := by decide +kernel
theorem dX8_next_228 : decode cX8_next 228 = .ok (.getfield 175, 3) := by decide +kernel
theorem dX8_next_231 : decode cX8_next 231 = .ok (.bipush 41, 2) := by decide +kernel
theorem dX8_next_233 : decode cX8_next 233 = .ok (.if_icmp .ne 7, 3) := by decide +kernel
theorem dX8_next_236 : decode cX8_next 236 = .ok (.iconst 2, 1) := by decide +kernel
theorem dX8_next_237 : decode cX8_next 237 = .ok (.goto 4, 3) := by decide +kernel
theorem dX8_next_240 : decode cX8_next 240 = .ok (.iconst 3, 1) := by decide +kernel
theorem dX8_next_241 : decode cX8_next 241 = .ok (.putfield 178, 3) := by decide +kernel
theorem dX8_next_244 : decode cX8_next 244 = .ok (.iinc 1 1, 3) := by decide +kernel
theorem dX8_next_247 : decode cX8_next 247 = .ok (.aload_n 0, 1) := by decide +kernel
theorem dX8_next_248 : decode cX8_next 248 = .ok (.iload_n 1, 1) := by decide +kernel
theorem dX8_next_249 : decode cX8_next 249 = .ok (.putfield 166, 3) := by decide +kernel
theorem dX8_next_252 : decode cX8_next 252 = .ok (.return_, 1) := by decide +kernel
theorem dX8_kept_0 : decode cX8_kept 0 = .ok (.iconst 0, 1) := by decide +kernel
theorem dX8_kept_1 : decode cX8_kept 1 = .ok (.istore_n 1, 1) := by decide +kernel
theorem dX8_kept_2 : decode cX8_kept 2 = .ok (.iconst 0, 1) := by decide +kernel
theorem dX8_kept_3 : decode cX8_kept 3 = .ok (.istore_n 2, 1) := by decide +kernel
theorem dX8_kept_4 : decode cX8_kept 4 = .ok (.iconst 0, 1) := by decide +kernel
theorem dX8_kept_5 : decode cX8_kept 5 = .ok (.istore_n 3, 1) := by decide +kernel
theorem dX8_kept_6 : decode cX8_kept 6 = .ok (.iload_n 3, 1) := by decide +kernel
theorem dX8_kept_7 : decode cX8_kept 7 = .ok (.bipush 50, 2) := by decide +kernel
theorem dX8_kept_9 : decode cX8_kept 9 = .ok (.if_icmp .ge 113, 3) := by decide +kernel
theorem dX8_kept_12 : decode cX8_kept 12 = .ok (.aload_n 0, 1) := by decide +kernel
theorem dX8_kept_13 : decode cX8_kept 13 = .ok (.getfield 13, 3) := by decide +kernel
theorem dX8_kept_16 : decode cX8_kept 16 = .ok (.iload_n 3, 1) := by decide +kernel
theorem dX8_kept_17 : decode cX8_kept 17 = .ok (.caload, 1) := by decide +kernel
theorem dX8_kept_18 : decode cX8_kept 18 = .ok (.bipush 32, 2) := by decide +kernel
theorem dX8_kept_20 : decode cX8_kept 20 = .ok (.if_icmp .ne 96, 3) := by decide +kernel
theorem dX8_kept_23 : decode cX8_kept 23 = .ok (.aload_n 0, 1) := by decide +kernel
theorem dX8_kept_24 : decode cX8_kept 24 = .ok (.getfield 178, 3) := by decide +kernel
theorem dX8_kept_27 : decode cX8_kept 27 = .ok (.iconst 1, 1) := by decide +kernel
theorem dX8_kept_28 : decode cX8_kept 28 = .ok (.if_icmp .ne 17, 3) := by decide +kernel
theorem dX8_kept_31 : decode cX8_kept 31 = .ok (.iload_n 3, 1) := by decide +kernel
theorem dX8_kept_32 : decode cX8_kept 32 = .ok (.iload_n 2, 1) := by decide +kernel
theorem dX8_kept_33 : decode cX8_kept 33 = .ok (.isub, 1) := by decide +kernel
theorem dX8_kept_34 : decode cX8_kept 34 = .ok (.aload_n 0, 1) := by decide +kernel
theorem dX8_kept_35 : decode cX8_kept 35 = .ok (.getfield 172, 3) := by decide +kernel
theorem dX8_kept_38 : decode cX8_kept 38 = .ok (.if_icmp .ne 7, 3) := by decide +kernel
theorem dX8_kept_41 : decode cX8_kept 41 = .ok (.iconst 1, 1) := by decide +kernel
theorem dX8_kept_42 : decode cX8_kept 42 = .ok (.goto 4, 3) := by decide +kernel
theorem dX8_kept_45 : decode cX8_kept 45 = .ok (.iconst 0, 1) := by decide +kernel
theorem dX8_kept_46 : decode cX8_kept 46 = .ok (.istore 4, 2) := by decide +kernel
theorem dX8_kept_48 : decode cX8_kept 48 = .ok (.iconst 0, 1) := by decide +kernel
theorem dX8_kept_49 : decode cX8_kept 49 = .ok (.istore 5, 2) := by decide +kernel
theorem dX8_kept_51 : decode cX8_kept 51 = .ok (.iload 5, 2) := by decide +kernel
theorem dX8_kept_53 : decode cX8_kept 53 = .ok (.aload_n 0, 1) := by decide +kernel
theorem dX8_kept_54 : decode cX8_kept 54 = .ok (.getfield 172, 3) := by decide +kernel
theorem dX8_kept_57 : decode cX8_kept 57 = .ok (.if_icmp .ge 45, 3) := by decide +kernel
theorem dX8_kept_60 : decode cX8_kept 60 = .ok (.iload 4, 2) := by decide +kernel
theorem dX8_kept_62 : decode cX8_kept 62 = .ok (.ifCond .eq 40, 3) := by decide +kernel
theorem dX8_kept_65 : decode cX8_kept 65 = .ok (.aload_n 0, 1) := by decide +kernel
theorem dX8_kept_66 : decode cX8_kept 66 = .ok (.getfield 7, 3) := by decide +kernel
theorem dX8_kept_69 : decode cX8_kept 69 = .ok (.aload_n 0, 1) := by decide +kernel
theorem dX8_kept_70 : decode cX8_kept 70 = .ok (.getfield 169, 3) := by decide +kernel
theorem dX8_kept_73 : decode cX8_kept 73 = .ok (.iload 5, 2) := by decide +kernel
theorem dX8_kept_75 : decode cX8_kept 75 = .ok (.iadd, 1) := by decide +kernel
theorem dX8_kept_76 : decode cX8_kept 76 = .ok (.baload, 1) := by decide +kernel
theorem dX8_kept_77 : decode cX8_kept 77 = .ok (.aload_n 0, 1) := by decide +kernel
theorem dX8_kept_78 : decode cX8_kept 78 = .ok (.getfield 13, 3) := by decide +kernel
theorem dX8_kept_81 : decode cX8_kept 81 = .ok (.iload_n 2, 1) := by decide +kernel
theorem dX8_kept_82 : decode cX8_kept 82 = .ok (.iload 5, 2) := by decide +kernel
theorem dX8_kept_84 : decode cX8_kept 84 = .ok (.iadd, 1) := by decide +kernel
theorem dX8_kept_85 : decode cX8_kept 85 = .ok (.caload, 1) := by decide +kernel
theorem dX8_kept_86 : decode cX8_kept 86 = .ok (.if_icmp .ne 7, 3) := by decide +kernel
theorem dX8_kept_89 : decode cX8_kept 89 = .ok (.iconst 1, 1) := by decide +kernel
theorem dX8_kept_90 : decode cX8_kept 90 = .ok (.goto 4, 3) := by decide +kernel
theorem dX8_kept_93 : decode cX8_kept 93 = .ok (.iconst 0, 1) := by decide +kernel
theorem dX8_kept_94 : decode cX8_kept 94 = .ok (.istore 4, 2) := by decide +kernel
theorem dX8_kept_96 : decode cX8_kept 96 = .ok (.iinc 5 1, 3) := by decide +kernel
theorem dX8_kept_99 : decode cX8_kept 99 = .ok (.goto (-48), 3) := by decide +kernel
theorem dX8_kept_102 : decode cX8_kept 102 = .ok (.iload 4, 2) := by decide +kernel
theorem dX8_kept_104 : decode cX8_kept 104 = .ok (.ifCond .eq 5, 3) := by decide +kernel
theorem dX8_kept_107 : decode cX8_kept 107 = .ok (.iload_n 1, 1) := by decide +kernel
theorem dX8_kept_108 : decode cX8_kept 108 = .ok (.ireturn, 1) := by decide +kernel
theorem dX8_kept_109 : decode cX8_kept 109 = .ok (.iinc 1 1, 3) := by decide +kernel
theorem dX8_kept_112 : decode cX8_kept 112 = .ok (.iload_n 3, 1) := by decide +kernel
theorem dX8_kept_113 : decode cX8_kept 113 = .ok (.iconst 1, 1) := by decide +kernel
theorem dX8_kept_114 : decode cX8_kept 114 = .ok (.iadd, 1) := by decide +kernel
theorem dX8_kept_115 : decode cX8_kept 115 = .ok (.istore_n 2, 1) := by decide +kernel
theorem dX8_kept_116 : decode cX8_kept 116 = .ok (.iinc 3 1, 3) := by decide +kernel
theorem dX8_kept_119 : decode cX8_kept 119 = .ok (.goto (-113), 3) := by decide +kernel
theorem dX8_kept_122 : decode cX8_kept 122 = .ok (.iconst (-1), 1) := by decide +kernel
theorem dX8_kept_123 : decode cX8_kept 123 = .ok (.ireturn, 1) := by decide +kernel
theorem dX8_isSignHere_0 : decode cX8_isSignHere 0 = .ok (.aload_n 0, 1) := by decide +kernel
theorem dX8_isSignHere_1 : decode cX8_isSignHere 1 = .ok (.getfield 178, 3) := by decide +kernel
theorem dX8_isSignHere_4 : decode cX8_isSignHere 4 = .ok (.iconst 2, 1) := by decide +kernel
theorem dX8_isSignHere_5 : decode cX8_isSignHere 5 = .ok (.if_icmp .ne 15, 3) := by decide +kernel
theorem dX8_isSignHere_8 : decode cX8_isSignHere 8 = .ok (.aload_n 0, 1) := by decide +kernel
theorem dX8_isSignHere_9 : decode cX8_isSignHere 9 = .ok (.getfield 175, 3) := by decide +kernel
theorem dX8_isSignHere_12 : decode cX8_isSignHere 12 = .ok (.iload_n 1, 1) := by decide +kernel
theorem dX8_isSignHere_13 : decode cX8_isSignHere 13 = .ok (.if_icmp .ne 7, 3) := by decide +kernel
theorem dX8_isSignHere_16 : decode cX8_isSignHere 16 = .ok (.iconst 1, 1) := by decide +kernel
theorem dX8_isSignHere_17 : decode cX8_isSignHere 17 = .ok (.goto 4, 3) := by decide +kernel
theorem dX8_isSignHere_20 : decode cX8_isSignHere 20 = .ok (.iconst 0, 1) := by decide +kernel
theorem dX8_isSignHere_21 : decode cX8_isSignHere 21 = .ok (.ireturn, 1) := by decide +kernel
theorem dX8_wrong_0 : decode cX8_wrong 0 = .ok (.aload_n 0, 1) := by decide +kernel
theorem dX8_wrong_1 : decode cX8_wrong 1 = .ok (.getfield 188, 3) := by decide +kernel
theorem dX8_wrong_4 : decode cX8_wrong 4 = .ok (.ifCond .ne 13, 3) := by decide +kernel
theorem dX8_wrong_7 : decode cX8_wrong 7 = .ok (.aload_n 0, 1) := by decide +kernel
theorem dX8_wrong_8 : decode cX8_wrong 8 = .ok (.iload_n 1, 1) := by decide +kernel
theorem dX8_wrong_9 : decode cX8_wrong 9 = .ok (.putfield 188, 3) := by decide +kernel
theorem dX8_wrong_12 : decode cX8_wrong 12 = .ok (.aload_n 0, 1) := by decide +kernel
theorem dX8_wrong_13 : decode cX8_wrong 13 = .ok (.iload_n 2, 1) := by decide +kernel
theorem dX8_wrong_14 : decode cX8_wrong 14 = .ok (.putfield 191, 3) := by decide +kernel
theorem dX8_wrong_17 : decode cX8_wrong 17 = .ok (.return_, 1) := by decide +kernel
theorem dX8_fine_0 : decode cX8_fine 0 = .ok (.aload_n 0, 1) := by decide +kernel
theorem dX8_fine_1 : decode cX8_fine 1 = .ok (.getfield 188, 3) := by decide +kernel
theorem dX8_fine_4 : decode cX8_fine 4 = .ok (.ifCond .ne 7, 3) := by decide +kernel
theorem dX8_fine_7 : decode cX8_fine 7 = .ok (.iconst 1, 1) := by decide +kernel
theorem dX8_fine_8 : decode cX8_fine 8 = .ok (.goto 4, 3) := by decide +kernel
theorem dX8_fine_11 : decode cX8_fine 11 = .ok (.iconst 0, 1) := by decide +kernel
theorem dX8_fine_12 : decode cX8_fine 12 = .ok (.ireturn, 1) := by decide +kernel
theorem dX8_misplaced_0 : decode cX8_misplaced 0 = .ok (.aload_n 0, 1) := by decide +kernel
theorem dX8_misplaced_1 : decode cX8_misplaced 1 = .ok (.aload_n 0, 1) := by decide +kernel
theorem dX8_misplaced_2 : decode cX8_misplaced 2 = .ok (.getfield 178, 3) := by decide +kernel
theorem dX8_misplaced_5 : decode cX8_misplaced 5 = .ok (.iconst 3, 1) := by decide +kernel
theorem dX8_misplaced_6 : decode cX8_misplaced 6 = .ok (.if_icmp .ne 7, 3) := by decide +kernel
theorem dX8_misplaced_9 : decode cX8_misplaced 9 = .ok (.iconst 1, 1) := by decide +kernel
theorem dX8_misplaced_10 : decode cX8_misplaced 10 = .ok (.goto 4, 3) := by decide +kernel
theorem dX8_misplaced_13 : decode cX8_misplaced 13 = .ok (.iconst 2, 1) := by decide +kernel
theorem dX8_misplaced_14 : decode cX8_misplaced 14 = .ok (.aload_n 0, 1) := by decide +kernel
theorem dX8_misplaced_15 : decode cX8_misplaced 15 = .ok (.getfield 169, 3) := by decide +kernel
theorem dX8_misplaced_18 : decode cX8_misplaced 18 = .ok (.invokevirtual 194, 3) := by decide +kernel
theorem dX8_misplaced_21 : decode cX8_misplaced 21 = .ok (.return_, 1) := by decide +kernel
theorem dX8_take_0 : decode cX8_take 0 = .ok (.aload_n 0, 1) := by decide +kernel
theorem dX8_take_1 : decode cX8_take 1 = .ok (.invokevirtual 198, 3) := by decide +kernel
theorem dX8_take_4 : decode cX8_take 4 = .ok (.ifCond .eq 22, 3) := by decide +kernel
theorem dX8_take_7 : decode cX8_take 7 = .ok (.aload_n 0, 1) := by decide +kernel
theorem dX8_take_8 : decode cX8_take 8 = .ok (.iload_n 1, 1) := by decide +kernel
theorem dX8_take_9 : decode cX8_take 9 = .ok (.invokevirtual 202, 3) := by decide +kernel
theorem dX8_take_12 : decode cX8_take 12 = .ok (.ifCond .eq 10, 3) := by decide +kernel
theorem dX8_take_15 : decode cX8_take 15 = .ok (.aload_n 0, 1) := by decide +kernel
theorem dX8_take_16 : decode cX8_take 16 = .ok (.invokevirtual 205, 3) := by decide +kernel
theorem dX8_take_19 : decode cX8_take 19 = .ok (.goto 7, 3) := by decide +kernel
theorem dX8_take_22 : decode cX8_take 22 = .ok (.aload_n 0, 1) := by decide +kernel
theorem dX8_take_23 : decode cX8_take 23 = .ok (.invokevirtual 208, 3) := by decide +kernel
theorem dX8_take_26 : decode cX8_take 26 = .ok (.return_, 1) := by decide +kernel
theorem dX8_newNode_0 : decode cX8_newNode 0 = .ok (.aload_n 0, 1) := by decide +kernel
theorem dX8_newNode_1 : decode cX8_newNode 1 = .ok (.getfield 211, 3) := by decide +kernel
theorem dX8_newNode_4 : decode cX8_newNode 4 = .ok (.sipush 200, 3) := by decide +kernel
theorem dX8_newNode_7 : decode cX8_newNode 7 = .ok (.if_icmp .ne 16, 3) := by decide +kernel
theorem dX8_newNode_10 : decode cX8_newNode 10 = .ok (.aload_n 0, 1) := by decide +kernel
theorem dX8_newNode_11 : decode cX8_newNode 11 = .ok (.iconst 3, 1) := by decide +kernel
theorem dX8_newNode_12 : decode cX8_newNode 12 = .ok (.aload_n 0, 1) := by decide +kernel
theorem dX8_newNode_13 : decode cX8_newNode 13 = .ok (.getfield 169, 3) := by decide +kernel
theorem dX8_newNode_16 : decode cX8_newNode 16 = .ok (.invokevirtual 194, 3) := by decide +kernel
theorem dX8_newNode_19 : decode cX8_newNode 19 = .ok (.sipush 200, 3) := by decide +kernel
theorem dX8_newNode_22 : decode cX8_newNode 22 = .ok (.ireturn, 1) := by decide +kernel
theorem dX8_newNode_23 : decode cX8_newNode 23 = .ok (.sipush 200, 3) := by decide +kernel
theorem dX8_newNode_26 : decode cX8_newNode 26 = .ok (.aload_n 0, 1) := by decide +kernel
theorem dX8_newNode_27 : decode cX8_newNode 27 = .ok (.getfield 211, 3) := by decide +kernel
theorem dX8_newNode_30 : decode cX8_newNode 30 = .ok (.iadd, 1) := by decide +kernel
theorem dX8_newNode_31 : decode cX8_newNode 31 = .ok (.istore_n 2, 1) := by decide +kernel
theorem dX8_newNode_32 : decode cX8_newNode 32 = .ok (.aload_n 0, 1) := by decide +kernel
theorem dX8_newNode_33 : decode cX8_newNode 33 = .ok (.dup, 1) := by decide +kernel
theorem dX8_newNode_34 : decode cX8_newNode 34 = .ok (.getfield 211, 3) := by decide +kernel
theorem dX8_newNode_37 : decode cX8_newNode 37 = .ok (.iconst 1, 1) := by decide +kernel
theorem dX8_newNode_38 : decode cX8_newNode 38 = .ok (.iadd, 1) := by decide +kernel
theorem dX8_newNode_39 : decode cX8_newNode 39 = .ok (.putfield 211, 3) := by decide +kernel
theorem dX8_newNode_42 : decode cX8_newNode 42 = .ok (.aload_n 0, 1) := by decide +kernel
theorem dX8_newNode_43 : decode cX8_newNode 43 = .ok (.getfield 17, 3) := by decide +kernel
theorem dX8_newNode_46 : decode cX8_newNode 46 = .ok (.iload_n 2, 1) := by decide +kernel
theorem dX8_newNode_47 : decode cX8_newNode 47 = .ok (.iload_n 1, 1) := by decide +kernel
theorem dX8_newNode_48 : decode cX8_newNode 48 = .ok (.iastore, 1) := by decide +kernel
theorem dX8_newNode_49 : decode cX8_newNode 49 = .ok (.aload_n 0, 1) := by decide +kernel
theorem dX8_newNode_50 : decode cX8_newNode 50 = .ok (.getfield 21, 3) := by decide +kernel
theorem dX8_newNode_53 : decode cX8_newNode 53 = .ok (.iload_n 2, 1) := by decide +kernel
theorem dX8_newNode_54 : decode cX8_newNode 54 = .ok (.iconst (-1), 1) := by decide +kernel
theorem dX8_newNode_55 : decode cX8_newNode 55 = .ok (.iastore, 1) := by decide +kernel
theorem dX8_newNode_56 : decode cX8_newNode 56 = .ok (.aload_n 0, 1) := by decide +kernel
theorem dX8_newNode_57 : decode cX8_newNode 57 = .ok (.getfield 24, 3) := by decide +kernel
theorem dX8_newNode_60 : decode cX8_newNode 60 = .ok (.iload_n 2, 1) := by decide +kernel
theorem dX8_newNode_61 : decode cX8_newNode 61 = .ok (.iconst (-1), 1) := by decide +kernel
theorem dX8_newNode_62 : decode cX8_newNode 62 = .ok (.iastore, 1) := by decide +kernel
theorem dX8_newNode_63 : decode cX8_newNode 63 = .ok (.aload_n 0, 1) := by decide +kernel
theorem dX8_newNode_64 : decode cX8_newNode 64 = .ok (.getfield 27, 3) := by decide +kernel
theorem dX8_newNode_67 : decode cX8_newNode 67 = .ok (.iload_n 2, 1) := by decide +kernel
theorem dX8_newNode_68 : decode cX8_newNode 68 = .ok (.iconst (-1), 1) := by decide +kernel
theorem dX8_newNode_69 : decode cX8_newNode 69 = .ok (.iastore, 1) := by decide +kernel
theorem dX8_newNode_70 : decode cX8_newNode 70 = .ok (.aload_n 0, 1) := by decide +kernel
theorem dX8_newNode_71 : decode cX8_newNode 71 = .ok (.getfield 30, 3) := by decide +kernel
theorem dX8_newNode_74 : decode cX8_newNode 74 = .ok (.iload_n 2, 1) := by decide +kernel
theorem dX8_newNode_75 : decode cX8_newNode 75 = .ok (.aload_n 0, 1) := by decide +kernel
theorem dX8_newNode_76 : decode cX8_newNode 76 = .ok (.getfield 169, 3) := by decide +kernel
theorem dX8_newNode_79 : decode cX8_newNode 79 = .ok (.iastore, 1) := by decide +kernel
theorem dX8_newNode_80 : decode cX8_newNode 80 = .ok (.iload_n 2, 1) := by decide +kernel
theorem dX8_newNode_81 : decode cX8_newNode 81 = .ok (.ireturn, 1) := by decide +kernel
theorem dX8_isHere_0 : decode cX8_isHere 0 = .ok (.iload_n 3, 1) := by decide +kernel
theorem dX8_isHere_1 : decode cX8_isHere 1 = .ok (.aload_n 0, 1) := by decide +kernel
theorem dX8_isHere_2 : decode cX8_isHere 2 = .ok (.getfield 172, 3) := by decide +kernel
theorem dX8_isHere_5 : decode cX8_isHere 5 = .ok (.if_icmp .ne 7, 3) := by decide +kernel
theorem dX8_isHere_8 : decode cX8_isHere 8 = .ok (.iconst 1, 1) := by decide +kernel
theorem dX8_isHere_9 : decode cX8_isHere 9 = .ok (.goto 4, 3) := by decide +kernel
theorem dX8_isHere_12 : decode cX8_isHere 12 = .ok (.iconst 0, 1) := by decide +kernel
theorem dX8_isHere_13 : decode cX8_isHere 13 = .ok (.istore 4, 2) := by decide +kernel
theorem dX8_isHere_15 : decode cX8_isHere 15 = .ok (.iconst 0, 1) := by decide +kernel
theorem dX8_isHere_16 : decode cX8_isHere 16 = .ok (.istore 5, 2) := by decide +kernel
theorem dX8_isHere_18 : decode cX8_isHere 18 = .ok (.iload 5, 2) := by decide +kernel
theorem dX8_isHere_20 : decode cX8_isHere 20 = .ok (.iload_n 3, 1) := by decide +kernel
theorem dX8_isHere_21 : decode cX8_isHere 21 = .ok (.if_icmp .ge 42, 3) := by decide +kernel
theorem dX8_isHere_24 : decode cX8_isHere 24 = .ok (.iload 4, 2) := by decide +kernel
theorem dX8_isHere_26 : decode cX8_isHere 26 = .ok (.ifCond .eq 37, 3) := by decide +kernel
theorem dX8_isHere_29 : decode cX8_isHere 29 = .ok (.aload_n 1, 1) := by decide +kernel
theorem dX8_isHere_30 : decode cX8_isHere 30 = .ok (.iload_n 2, 1) := by decide +kernel
theorem dX8_isHere_31 : decode cX8_isHere 31 = .ok (.iload 5, 2) := by decide +kernel
theorem dX8_isHere_33 : decode cX8_isHere 33 = .ok (.iadd, 1) := by decide +kernel
theorem dX8_isHere_34 : decode cX8_isHere 34 = .ok (.baload, 1) := by decide +kernel
theorem dX8_isHere_35 : decode cX8_isHere 35 = .ok (.aload_n 0, 1) := by decide +kernel
theorem dX8_isHere_36 : decode cX8_isHere 36 = .ok (.getfield 7, 3) := by decide +kernel
theorem dX8_isHere_39 : decode cX8_isHere 39 = .ok (.aload_n 0, 1) := by decide +kernel
theorem dX8_isHere_40 : decode cX8_isHere 40 = .ok (.getfield 169, 3) := by decide +kernel
theorem dX8_isHere_43 : decode cX8_isHere 43 = .ok (.iload 5, 2) := by decide +kernel
theorem dX8_isHere_45 : decode cX8_isHere 45 = .ok (.iadd, 1) := by decide +kernel
theorem dX8_isHere_46 : decode cX8_isHere 46 = .ok (.baload, 1) := by decide +kernel
theorem dX8_isHere_47 : decode cX8_isHere 47 = .ok (.if_icmp .ne 7, 3) := by decide +kernel
theorem dX8_isHere_50 : decode cX8_isHere 50 = .ok (.iconst 1, 1) := by decide +kernel
theorem dX8_isHere_51 : decode cX8_isHere 51 = .ok (.goto 4, 3) := by decide +kernel
theorem dX8_isHere_54 : decode cX8_isHere 54 = .ok (.iconst 0, 1) := by decide +kernel
theorem dX8_isHere_55 : decode cX8_isHere 55 = .ok (.istore 4, 2) := by decide +kernel
theorem dX8_isHere_57 : decode cX8_isHere 57 = .ok (.iinc 5 1, 3) := by decide +kernel
theorem dX8_isHere_60 : decode cX8_isHere 60 = .ok (.goto (-42), 3) := by decide +kernel
theorem dX8_isHere_63 : decode cX8_isHere 63 = .ok (.iload 4, 2) := by decide +kernel
theorem dX8_isHere_65 : decode cX8_isHere 65 = .ok (.ireturn, 1) := by decide +kernel
theorem dX8_nameHere_0 : decode cX8_nameHere 0 = .ok (.iconst 0, 1) := by decide +kernel
theorem dX8_nameHere_1 : decode cX8_nameHere 1 = .ok (.istore_n 1, 1) := by decide +kernel
theorem dX8_nameHere_2 : decode cX8_nameHere 2 = .ok (.iload_n 1, 1) := by decide +kernel
theorem dX8_nameHere_3 : decode cX8_nameHere 3 = .ok (.aload_n 0, 1) := by decide +kernel
theorem dX8_nameHere_4 : decode cX8_nameHere 4 = .ok (.getfield 214, 3) := by decide +kernel
theorem dX8_nameHere_7 : decode cX8_nameHere 7 = .ok (.if_icmp .ge 36, 3) := by decide +kernel
theorem dX8_nameHere_10 : decode cX8_nameHere 10 = .ok (.aload_n 0, 1) := by decide +kernel
theorem dX8_nameHere_11 : decode cX8_nameHere 11 = .ok (.aload_n 0, 1) := by decide +kernel
theorem dX8_nameHere_12 : decode cX8_nameHere 12 = .ok (.getfield 51, 3) := by decide +kernel
theorem dX8_nameHere_15 : decode cX8_nameHere 15 = .ok (.bipush 8, 2) := by decide +kernel
theorem dX8_nameHere_17 : decode cX8_nameHere 17 = .ok (.iconst 5, 1) := by decide +kernel
theorem dX8_nameHere_18 : decode cX8_nameHere 18 = .ok (.iload_n 1, 1) := by decide +kernel
theorem dX8_nameHere_19 : decode cX8_nameHere 19 = .ok (.iadd, 1) := by decide +kernel
theorem dX8_nameHere_20 : decode cX8_nameHere 20 = .ok (.imul, 1) := by decide +kernel
theorem dX8_nameHere_21 : decode cX8_nameHere 21 = .ok (.aload_n 0, 1) := by decide +kernel
theorem dX8_nameHere_22 : decode cX8_nameHere 22 = .ok (.getfield 54, 3) := by decide +kernel
theorem dX8_nameHere_25 : decode cX8_nameHere 25 = .ok (.iconst 5, 1) := by decide +kernel
theorem dX8_nameHere_26 : decode cX8_nameHere 26 = .ok (.iload_n 1, 1) := by decide +kernel
theorem dX8_nameHere_27 : decode cX8_nameHere 27 = .ok (.iadd, 1) := by decide +kernel
theorem dX8_nameHere_28 : decode cX8_nameHere 28 = .ok (.iaload, 1) := by decide +kernel
theorem dX8_nameHere_29 : decode cX8_nameHere 29 = .ok (.invokevirtual 217, 3) := by decide +kernel
theorem dX8_nameHere_32 : decode cX8_nameHere 32 = .ok (.ifCond .eq 5, 3) := by decide +kernel
theorem dX8_nameHere_35 : decode cX8_nameHere 35 = .ok (.iload_n 1, 1) := by decide +kernel
theorem dX8_nameHere_36 : decode cX8_nameHere 36 = .ok (.ireturn, 1) := by decide +kernel
theorem dX8_nameHere_37 : decode cX8_nameHere 37 = .ok (.iinc 1 1, 3) := by decide +kernel
theorem dX8_nameHere_40 : decode cX8_nameHere 40 = .ok (.goto (-38), 3) := by decide +kernel
theorem dX8_nameHere_43 : decode cX8_nameHere 43 = .ok (.iconst (-1), 1) := by decide +kernel
theorem dX8_nameHere_44 : decode cX8_nameHere 44 = .ok (.ireturn, 1) := by decide +kernel
theorem dX8_roleHere_0 : decode cX8_roleHere 0 = .ok (.iconst 0, 1) := by decide +kernel
theorem dX8_roleHere_1 : decode cX8_roleHere 1 = .ok (.istore_n 1, 1) := by decide +kernel
theorem dX8_roleHere_2 : decode cX8_roleHere 2 = .ok (.iload_n 1, 1) := by decide +kernel
theorem dX8_roleHere_3 : decode cX8_roleHere 3 = .ok (.aload_n 0, 1) := by decide +kernel
theorem dX8_roleHere_4 : decode cX8_roleHere 4 = .ok (.getfield 221, 3) := by decide +kernel
theorem dX8_roleHere_7 : decode cX8_roleHere 7 = .ok (.if_icmp .ge 36, 3) := by decide +kernel
theorem dX8_roleHere_10 : decode cX8_roleHere 10 = .ok (.aload_n 0, 1) := by decide +kernel
theorem dX8_roleHere_11 : decode cX8_roleHere 11 = .ok (.aload_n 0, 1) := by decide +kernel
theorem dX8_roleHere_12 : decode cX8_roleHere 12 = .ok (.getfield 57, 3) := by decide +kernel
theorem dX8_roleHere_15 : decode cX8_roleHere 15 = .ok (.bipush 8, 2) := by decide +kernel
theorem dX8_roleHere_17 : decode cX8_roleHere 17 = .ok (.iconst 3, 1) := by decide +kernel
theorem dX8_roleHere_18 : decode cX8_roleHere 18 = .ok (.iload_n 1, 1) := by decide +kernel
theorem dX8_roleHere_19 : decode cX8_roleHere 19 = .ok (.iadd, 1) := by decide +kernel
theorem dX8_roleHere_20 : decode cX8_roleHere 20 = .ok (.imul, 1) := by decide +kernel
theorem dX8_roleHere_21 : decode cX8_roleHere 21 = .ok (.aload_n 0, 1) := by decide +kernel
theorem dX8_roleHere_22 : decode cX8_roleHere 22 = .ok (.getfield 60, 3) := by decide +kernel
theorem dX8_roleHere_25 : decode cX8_roleHere 25 = .ok (.iconst 3, 1) := by decide +kernel
theorem dX8_roleHere_26 : decode cX8_roleHere 26 = .ok (.iload_n 1, 1) := by decide +kernel
theorem dX8_roleHere_27 : decode cX8_roleHere 27 = .ok (.iadd, 1) := by decide +kernel
theorem dX8_roleHere_28 : decode cX8_roleHere 28 = .ok (.iaload, 1) := by decide +kernel
theorem dX8_roleHere_29 : decode cX8_roleHere 29 = .ok (.invokevirtual 217, 3) := by decide +kernel
theorem dX8_roleHere_32 : decode cX8_roleHere 32 = .ok (.ifCond .eq 5, 3) := by decide +kernel
theorem dX8_roleHere_35 : decode cX8_roleHere 35 = .ok (.iload_n 1, 1) := by decide +kernel
theorem dX8_roleHere_36 : decode cX8_roleHere 36 = .ok (.ireturn, 1) := by decide +kernel
theorem dX8_roleHere_37 : decode cX8_roleHere 37 = .ok (.iinc 1 1, 3) := by decide +kernel
theorem dX8_roleHere_40 : decode cX8_roleHere 40 = .ok (.goto (-38), 3) := by decide +kernel
theorem dX8_roleHere_43 : decode cX8_roleHere 43 = .ok (.iconst (-1), 1) := by decide +kernel
theorem dX8_roleHere_44 : decode cX8_roleHere 44 = .ok (.ireturn, 1) := by decide +kernel
theorem dX8_readRole_0 : decode cX8_readRole 0 = .ok (.aload_n 0, 1) := by decide +kernel
theorem dX8_readRole_1 : decode cX8_readRole 1 = .ok (.invokevirtual 198, 3) := by decide +kernel
theorem dX8_readRole_4 : decode cX8_readRole 4 = .ok (.ifCond .ne 5, 3) := by decide +kernel
theorem dX8_readRole_7 : decode cX8_readRole 7 = .ok (.iconst 0, 1) := by decide +kernel
theorem dX8_readRole_8 : decode cX8_readRole 8 = .ok (.ireturn, 1) := by decide +kernel
theorem dX8_readRole_9 : decode cX8_readRole 9 = .ok (.aload_n 0, 1) := by decide +kernel
theorem dX8_readRole_10 : decode cX8_readRole 10 = .ok (.getfield 178, 3) := by decide +kernel
theorem dX8_readRole_13 : decode cX8_readRole 13 = .ok (.iconst 1, 1) := by decide +kernel
theorem dX8_readRole_14 : decode cX8_readRole 14 = .ok (.if_icmp .ne 10, 3) := by decide +kernel
theorem dX8_readRole_17 : decode cX8_readRole 17 = .ok (.aload_n 0, 1) := by decide +kernel
theorem dX8_readRole_18 : decode cX8_readRole 18 = .ok (.invokevirtual 224, 3) := by decide +kernel
theorem dX8_readRole_21 : decode cX8_readRole 21 = .ok (.ifCond .lt 9, 3) := by decide +kernel
theorem dX8_readRole_24 : decode cX8_readRole 24 = .ok (.aload_n 0, 1) := by decide +kernel
theorem dX8_readRole_25 : decode cX8_readRole 25 = .ok (.invokevirtual 208, 3) := by decide +kernel
theorem dX8_readRole_28 : decode cX8_readRole 28 = .ok (.iconst 0, 1) := by decide +kernel
theorem dX8_readRole_29 : decode cX8_readRole 29 = .ok (.ireturn, 1) := by decide +kernel
theorem dX8_readRole_30 : decode cX8_readRole 30 = .ok (.aload_n 0, 1) := by decide +kernel
theorem dX8_readRole_31 : decode cX8_readRole 31 = .ok (.invokevirtual 228, 3) := by decide +kernel
theorem dX8_readRole_34 : decode cX8_readRole 34 = .ok (.istore_n 1, 1) := by decide +kernel
theorem dX8_readRole_35 : decode cX8_readRole 35 = .ok (.iload_n 1, 1) := by decide +kernel
theorem dX8_readRole_36 : decode cX8_readRole 36 = .ok (.ifCond .lt 5, 3) := by decide +kernel
theorem dX8_readRole_39 : decode cX8_readRole 39 = .ok (.iload_n 1, 1) := by decide +kernel
theorem dX8_readRole_40 : decode cX8_readRole 40 = .ok (.ireturn, 1) := by decide +kernel
theorem dX8_readRole_41 : decode cX8_readRole 41 = .ok (.aload_n 0, 1) := by decide +kernel
theorem dX8_readRole_42 : decode cX8_readRole 42 = .ok (.invokevirtual 231, 3) := by decide +kernel
theorem dX8_readRole_45 : decode cX8_readRole 45 = .ok (.ifCond .lt 14, 3) := by decide +kernel
theorem dX8_readRole_48 : decode cX8_readRole 48 = .ok (.aload_n 0, 1) := by decide +kernel
theorem dX8_readRole_49 : decode cX8_readRole 49 = .ok (.iconst 4, 1) := by decide +kernel
theorem dX8_readRole_50 : decode cX8_readRole 50 = .ok (.aload_n 0, 1) := by decide +kernel
theorem dX8_readRole_51 : decode cX8_readRole 51 = .ok (.getfield 169, 3) := by decide +kernel
theorem dX8_readRole_54 : decode cX8_readRole 54 = .ok (.invokevirtual 194, 3) := by decide +kernel
theorem dX8_readRole_57 : decode cX8_readRole 57 = .ok (.iconst 0, 1) := by decide +kernel
theorem dX8_readRole_58 : decode cX8_readRole 58 = .ok (.ireturn, 1) := by decide +kernel
theorem dX8_readRole_59 : decode cX8_readRole 59 = .ok (.aload_n 0, 1) := by decide +kernel
theorem dX8_readRole_60 : decode cX8_readRole 60 = .ok (.getfield 221, 3) := by decide +kernel
theorem dX8_readRole_63 : decode cX8_readRole 63 = .ok (.iconst 3, 1) := by decide +kernel
theorem dX8_readRole_64 : decode cX8_readRole 64 = .ok (.if_icmp .ne 14, 3) := by decide +kernel
theorem dX8_readRole_67 : decode cX8_readRole 67 = .ok (.aload_n 0, 1) := by decide +kernel
theorem dX8_readRole_68 : decode cX8_readRole 68 = .ok (.iconst 3, 1) := by decide +kernel
theorem dX8_readRole_69 : decode cX8_readRole 69 = .ok (.aload_n 0, 1) := by decide +kernel
theorem dX8_readRole_70 : decode cX8_readRole 70 = .ok (.getfield 169, 3) := by decide +kernel
theorem dX8_readRole_73 : decode cX8_readRole 73 = .ok (.invokevirtual 194, 3) := by decide +kernel
theorem dX8_readRole_76 : decode cX8_readRole 76 = .ok (.iconst 0, 1) := by decide +kernel
theorem dX8_readRole_77 : decode cX8_readRole 77 = .ok (.ireturn, 1) := by decide +kernel
theorem dX8_readRole_78 : decode cX8_readRole 78 = .ok (.aload_n 0, 1) := by decide +kernel
theorem dX8_readRole_79 : decode cX8_readRole 79 = .ok (.getfield 221, 3) := by decide +kernel
theorem dX8_readRole_82 : decode cX8_readRole 82 = .ok (.istore_n 1, 1) := by decide +kernel
theorem dX8_readRole_83 : decode cX8_readRole 83 = .ok (.iconst 0, 1) := by decide +kernel
theorem dX8_readRole_84 : decode cX8_readRole 84 = .ok (.istore_n 2, 1) := by decide +kernel
theorem dX8_readRole_85 : decode cX8_readRole 85 = .ok (.iload_n 2, 1) := by decide +kernel
theorem dX8_readRole_86 : decode cX8_readRole 86 = .ok (.aload_n 0, 1) := by decide +kernel
theorem dX8_readRole_87 : decode cX8_readRole 87 = .ok (.getfield 172, 3) := by decide +kernel
theorem dX8_readRole_90 : decode cX8_readRole 90 = .ok (.if_icmp .ge 33, 3) := by decide +kernel
theorem dX8_readRole_93 : decode cX8_readRole 93 = .ok (.aload_n 0, 1) := by decide +kernel
theorem dX8_readRole_94 : decode cX8_readRole 94 = .ok (.getfield 57, 3) := by decide +kernel
theorem dX8_readRole_97 : decode cX8_readRole 97 = .ok (.bipush 8, 2) := by decide +kernel
theorem dX8_readRole_99 : decode cX8_readRole 99 = .ok (.iconst 3, 1) := by decide +kernel
theorem dX8_readRole_100 : decode cX8_readRole 100 = .ok (.iload_n 1, 1) := by decide +kernel
theorem dX8_readRole_101 : decode cX8_readRole 101 = .ok (.iadd, 1) := by decide +kernel
theorem dX8_readRole_102 : decode cX8_readRole 102 = .ok (.imul, 1) := by decide +kernel
theorem dX8_readRole_103 : decode cX8_readRole 103 = .ok (.iload_n 2, 1) := by decide +kernel
theorem dX8_readRole_104 : decode cX8_readRole 104 = .ok (.iadd, 1) := by decide +kernel
theorem dX8_readRole_105 : decode cX8_readRole 105 = .ok (.aload_n 0, 1) := by decide +kernel
theorem dX8_readRole_106 : decode cX8_readRole 106 = .ok (.getfield 7, 3) := by decide +kernel
theorem dX8_readRole_109 : decode cX8_readRole 109 = .ok (.aload_n 0, 1) := by decide +kernel
theorem dX8_readRole_110 : decode cX8_readRole 110 = .ok (.getfield 169, 3) := by decide +kernel
theorem dX8_readRole_113 : decode cX8_readRole 113 = .ok (.iload_n 2, 1) := by decide +kernel
theorem dX8_readRole_114 : decode cX8_readRole 114 = .ok (.iadd, 1) := by decide +kernel
theorem dX8_readRole_115 : decode cX8_readRole 115 = .ok (.baload, 1) := by decide +kernel
theorem dX8_readRole_116 : decode cX8_readRole 116 = .ok (.bastore, 1) := by decide +kernel
theorem dX8_readRole_117 : decode cX8_readRole 117 = .ok (.iinc 2 1, 3) := by decide +kernel
theorem dX8_readRole_120 : decode cX8_readRole 120 = .ok (.goto (-35), 3) := by decide +kernel
theorem dX8_readRole_123 : decode cX8_readRole 123 = .ok (.aload_n 0, 1) := by decide +kernel
theorem dX8_readRole_124 : decode cX8_readRole 124 = .ok (.getfield 60, 3) := by decide +kernel
theorem dX8_readRole_127 : decode cX8_readRole 127 = .ok (.iconst 3, 1) := by decide +kernel
theorem dX8_readRole_128 : decode cX8_readRole 128 = .ok (.iload_n 1, 1) := by decide +kernel
theorem dX8_readRole_129 : decode cX8_readRole 129 = .ok (.iadd, 1) := by decide +kernel
theorem dX8_readRole_130 : decode cX8_readRole 130 = .ok (.aload_n 0, 1) := by decide +kernel
theorem dX8_readRole_131 : decode cX8_readRole 131 = .ok (.getfield 172, 3) := by decide +kernel
theorem dX8_readRole_134 : decode cX8_readRole 134 = .ok (.iastore, 1) := by decide +kernel
theorem dX8_readRole_135 : decode cX8_readRole 135 = .ok (.aload_n 0, 1) := by decide +kernel
theorem dX8_readRole_136 : decode cX8_readRole 136 = .ok (.getfield 63, 3) := by decide +kernel
theorem dX8_readRole_139 : decode cX8_readRole 139 = .ok (.iconst 3, 1) := by decide +kernel
theorem dX8_readRole_140 : decode cX8_readRole 140 = .ok (.iload_n 1, 1) := by decide +kernel
theorem dX8_readRole_141 : decode cX8_readRole 141 = .ok (.iadd, 1) := by decide +kernel
theorem dX8_readRole_142 : decode cX8_readRole 142 = .ok (.iconst 0, 1) := by decide +kernel
theorem dX8_readRole_143 : decode cX8_readRole 143 = .ok (.bastore, 1) := by decide +kernel
theorem dX8_readRole_144 : decode cX8_readRole 144 = .ok (.aload_n 0, 1) := by decide +kernel
theorem dX8_readRole_145 : decode cX8_readRole 145 = .ok (.getfield 70, 3) := by decide +kernel
theorem dX8_readRole_148 : decode cX8_readRole 148 = .ok (.iconst 3, 1) := by decide +kernel
theorem dX8_readRole_149 : decode cX8_readRole 149 = .ok (.iload_n 1, 1) := by decide +kernel
theorem dX8_readRole_150 : decode cX8_readRole 150 = .ok (.iadd, 1) := by decide +kernel
theorem dX8_readRole_151 : decode cX8_readRole 151 = .ok (.iconst 0, 1) := by decide +kernel
theorem dX8_readRole_152 : decode cX8_readRole 152 = .ok (.bastore, 1) := by decide +kernel
theorem dX8_readRole_153 : decode cX8_readRole 153 = .ok (.aload_n 0, 1) := by decide +kernel
theorem dX8_readRole_154 : decode cX8_readRole 154 = .ok (.dup, 1) := by decide +kernel
theorem dX8_readRole_155 : decode cX8_readRole 155 = .ok (.getfield 221, 3) := by decide +kernel
theorem dX8_readRole_158 : decode cX8_readRole 158 = .ok (.iconst 1, 1) := by decide +kernel
theorem dX8_readRole_159 : decode cX8_readRole 159 = .ok (.iadd, 1) := by decide +kernel
theorem dX8_readRole_160 : decode cX8_readRole 160 = .ok (.putfield 221, 3) := by decide +kernel
theorem dX8_readRole_163 : decode cX8_readRole 163 = .ok (.iload_n 1, 1) := by decide +kernel
theorem dX8_readRole_164 : decode cX8_readRole 164 = .ok (.ireturn, 1) := by decide +kernel
theorem dX8_readName_0 : decode cX8_readName 0 = .ok (.aload_n 0, 1) := by decide +kernel
theorem dX8_readName_1 : decode cX8_readName 1 = .ok (.invokevirtual 231, 3) := by decide +kernel
theorem dX8_readName_4 : decode cX8_readName 4 = .ok (.istore_n 2, 1) := by decide +kernel
theorem dX8_readName_5 : decode cX8_readName 5 = .ok (.iload_n 2, 1) := by decide +kernel
theorem dX8_readName_6 : decode cX8_readName 6 = .ok (.ifCond .ge 20, 3) := by decide +kernel
theorem dX8_readName_9 : decode cX8_readName 9 = .ok (.aload_n 0, 1) := by decide +kernel
theorem dX8_readName_10 : decode cX8_readName 10 = .ok (.invokevirtual 228, 3) := by decide +kernel
theorem dX8_readName_13 : decode cX8_readName 13 = .ok (.ifCond .lt 13, 3) := by decide +kernel
theorem dX8_readName_16 : decode cX8_readName 16 = .ok (.aload_n 0, 1) := by decide +kernel
theorem dX8_readName_17 : decode cX8_readName 17 = .ok (.iconst 4, 1) := by decide +kernel
theorem dX8_readName_18 : decode cX8_readName 18 = .ok (.aload_n 0, 1) := by decide +kernel
theorem dX8_readName_19 : decode cX8_readName 19 = .ok (.getfield 169, 3) := by decide +kernel
theorem dX8_readName_22 : decode cX8_readName 22 = .ok (.invokevirtual 194, 3) := by decide +kernel
theorem dX8_readName_25 : decode cX8_readName 25 = .ok (.return_, 1) := by decide +kernel
theorem dX8_readName_26 : decode cX8_readName 26 = .ok (.iload_n 2, 1) := by decide +kernel
theorem dX8_readName_27 : decode cX8_readName 27 = .ok (.ifCond .ge 21, 3) := by decide +kernel
theorem dX8_readName_30 : decode cX8_readName 30 = .ok (.aload_n 0, 1) := by decide +kernel
theorem dX8_readName_31 : decode cX8_readName 31 = .ok (.getfield 214, 3) := by decide +kernel
theorem dX8_readName_34 : decode cX8_readName 34 = .ok (.iconst 5, 1) := by decide +kernel
theorem dX8_readName_35 : decode cX8_readName 35 = .ok (.if_icmp .ne 13, 3) := by decide +kernel
theorem dX8_readName_38 : decode cX8_readName 38 = .ok (.aload_n 0, 1) := by decide +kernel
theorem dX8_readName_39 : decode cX8_readName 39 = .ok (.iconst 3, 1) := by decide +kernel
theorem dX8_readName_40 : decode cX8_readName 40 = .ok (.aload_n 0, 1) := by decide +kernel
theorem dX8_readName_41 : decode cX8_readName 41 = .ok (.getfield 169, 3) := by decide +kernel
theorem dX8_readName_44 : decode cX8_readName 44 = .ok (.invokevirtual 194, 3) := by decide +kernel
theorem dX8_readName_47 : decode cX8_readName 47 = .ok (.return_, 1) := by decide +kernel
theorem dX8_readName_48 : decode cX8_readName 48 = .ok (.iload_n 2, 1) := by decide +kernel
theorem dX8_readName_49 : decode cX8_readName 49 = .ok (.ifCond .ge 70, 3) := by decide +kernel
theorem dX8_readName_52 : decode cX8_readName 52 = .ok (.aload_n 0, 1) := by decide +kernel
theorem dX8_readName_53 : decode cX8_readName 53 = .ok (.getfield 214, 3) := by decide +kernel
theorem dX8_readName_56 : decode cX8_readName 56 = .ok (.istore_n 2, 1) := by decide +kernel
theorem dX8_readName_57 : decode cX8_readName 57 = .ok (.iconst 0, 1) := by decide +kernel
theorem dX8_readName_58 : decode cX8_readName 58 = .ok (.istore_n 3, 1) := by decide +kernel
theorem dX8_readName_59 : decode cX8_readName 59 = .ok (.iload_n 3, 1) := by decide +kernel
theorem dX8_readName_60 : decode cX8_readName 60 = .ok (.aload_n 0, 1) := by decide +kernel
theorem dX8_readName_61 : decode cX8_readName 61 = .ok (.getfield 172, 3) := by decide +kernel
theorem dX8_readName_64 : decode cX8_readName 64 = .ok (.if_icmp .ge 33, 3) := by decide +kernel
theorem dX8_readName_67 : decode cX8_readName 67 = .ok (.aload_n 0, 1) := by decide +kernel
theorem dX8_readName_68 : decode cX8_readName 68 = .ok (.getfield 51, 3) := by decide +kernel
theorem dX8_readName_71 : decode cX8_readName 71 = .ok (.bipush 8, 2) := by decide +kernel
theorem dX8_readName_73 : decode cX8_readName 73 = .ok (.iconst 5, 1) := by decide +kernel
theorem dX8_readName_74 : decode cX8_readName 74 = .ok (.iload_n 2, 1) := by decide +kernel
theorem dX8_readName_75 : decode cX8_readName 75 = .ok (.iadd, 1) := by decide +kernel
theorem dX8_readName_76 : decode cX8_readName 76 = .ok (.imul, 1) := by decide +kernel
theorem dX8_readName_77 : decode cX8_readName 77 = .ok (.iload_n 3, 1) := by decide +kernel
theorem dX8_readName_78 : decode cX8_readName 78 = .ok (.iadd, 1) := by decide +kernel
theorem dX8_readName_79 : decode cX8_readName 79 = .ok (.aload_n 0, 1) := by decide +kernel
theorem dX8_readName_80 : decode cX8_readName 80 = .ok (.getfield 7, 3) := by decide +kernel
theorem dX8_readName_83 : decode cX8_readName 83 = .ok (.aload_n 0, 1) := by decide +kernel
theorem dX8_readName_84 : decode cX8_readName 84 = .ok (.getfield 169, 3) := by decide +kernel
theorem dX8_readName_87 : decode cX8_readName 87 = .ok (.iload_n 3, 1) := by decide +kernel
theorem dX8_readName_88 : decode cX8_readName 88 = .ok (.iadd, 1) := by decide +kernel
theorem dX8_readName_89 : decode cX8_readName 89 = .ok (.baload, 1) := by decide +kernel
theorem dX8_readName_90 : decode cX8_readName 90 = .ok (.bastore, 1) := by decide +kernel
theorem dX8_readName_91 : decode cX8_readName 91 = .ok (.iinc 3 1, 3) := by decide +kernel
theorem dX8_readName_94 : decode cX8_readName 94 = .ok (.goto (-35), 3) := by decide +kernel
theorem dX8_readName_97 : decode cX8_readName 97 = .ok (.aload_n 0, 1) := by decide +kernel
theorem dX8_readName_98 : decode cX8_readName 98 = .ok (.getfield 54, 3) := by decide +kernel
theorem dX8_readName_101 : decode cX8_readName 101 = .ok (.iconst 5, 1) := by decide +kernel
theorem dX8_readName_102 : decode cX8_readName 102 = .ok (.iload_n 2, 1) := by decide +kernel
theorem dX8_readName_103 : decode cX8_readName 103 = .ok (.iadd, 1) := by decide +kernel
theorem dX8_readName_104 : decode cX8_readName 104 = .ok (.aload_n 0, 1) := by decide +kernel
theorem dX8_readName_105 : decode cX8_readName 105 = .ok (.getfield 172, 3) := by decide +kernel
theorem dX8_readName_108 : decode cX8_readName 108 = .ok (.iastore, 1) := by decide +kernel
theorem dX8_readName_109 : decode cX8_readName 109 = .ok (.aload_n 0, 1) := by decide +kernel
theorem dX8_readName_110 : decode cX8_readName 110 = .ok (.dup, 1) := by decide +kernel
theorem dX8_readName_111 : decode cX8_readName 111 = .ok (.getfield 214, 3) := by decide +kernel
theorem dX8_readName_114 : decode cX8_readName 114 = .ok (.iconst 1, 1) := by decide +kernel
theorem dX8_readName_115 : decode cX8_readName 115 = .ok (.iadd, 1) := by decide +kernel
theorem dX8_readName_116 : decode cX8_readName 116 = .ok (.putfield 214, 3) := by decide +kernel
theorem dX8_readName_119 : decode cX8_readName 119 = .ok (.aload_n 0, 1) := by decide +kernel
theorem dX8_readName_120 : decode cX8_readName 120 = .ok (.getfield 21, 3) := by decide +kernel
theorem dX8_readName_123 : decode cX8_readName 123 = .ok (.iload_n 1, 1) := by decide +kernel
theorem dX8_readName_124 : decode cX8_readName 124 = .ok (.iload_n 2, 1) := by decide +kernel
theorem dX8_readName_125 : decode cX8_readName 125 = .ok (.iastore, 1) := by decide +kernel
theorem dX8_readName_126 : decode cX8_readName 126 = .ok (.iconst 0, 1) := by decide +kernel
theorem dX8_readName_127 : decode cX8_readName 127 = .ok (.istore_n 3, 1) := by decide +kernel
theorem dX8_readName_128 : decode cX8_readName 128 = .ok (.iload_n 3, 1) := by decide +kernel
theorem dX8_readName_129 : decode cX8_readName 129 = .ok (.aload_n 0, 1) := by decide +kernel
theorem dX8_readName_130 : decode cX8_readName 130 = .ok (.getfield 234, 3) := by decide +kernel
theorem dX8_readName_133 : decode cX8_readName 133 = .ok (.if_icmp .ge 29, 3) := by decide +kernel
theorem dX8_readName_136 : decode cX8_readName 136 = .ok (.aload_n 0, 1) := by decide +kernel
theorem dX8_readName_137 : decode cX8_readName 137 = .ok (.getfield 76, 3) := by decide +kernel
theorem dX8_readName_140 : decode cX8_readName 140 = .ok (.bipush 9, 2) := by decide +kernel
theorem dX8_readName_142 : decode cX8_readName 142 = .ok (.iload_n 3, 1) := by decide +kernel
theorem dX8_readName_143 : decode cX8_readName 143 = .ok (.iadd, 1) := by decide +kernel
theorem dX8_readName_144 : decode cX8_readName 144 = .ok (.iaload, 1) := by decide +kernel
theorem dX8_readName_145 : decode cX8_readName 145 = .ok (.iload_n 2, 1) := by decide +kernel
theorem dX8_readName_146 : decode cX8_readName 146 = .ok (.if_icmp .ne 10, 3) := by decide +kernel
theorem dX8_readName_149 : decode cX8_readName 149 = .ok (.aload_n 0, 1) := by decide +kernel
theorem dX8_readName_150 : decode cX8_readName 150 = .ok (.getfield 27, 3) := by decide +kernel
theorem dX8_readName_153 : decode cX8_readName 153 = .ok (.iload_n 1, 1) := by decide +kernel
theorem dX8_readName_154 : decode cX8_readName 154 = .ok (.iload_n 3, 1) := by decide +kernel
theorem dX8_readName_155 : decode cX8_readName 155 = .ok (.iastore, 1) := by decide +kernel
theorem dX8_readName_156 : decode cX8_readName 156 = .ok (.iinc 3 1, 3) := by decide +kernel
theorem dX8_readName_159 : decode cX8_readName 159 = .ok (.goto (-31), 3) := by decide +kernel
theorem dX8_readName_162 : decode cX8_readName 162 = .ok (.aload_n 0, 1) := by decide +kernel
theorem dX8_readName_163 : decode cX8_readName 163 = .ok (.getfield 27, 3) := by decide +kernel
theorem dX8_readName_166 : decode cX8_readName 166 = .ok (.iload_n 1, 1) := by decide +kernel
theorem dX8_readName_167 : decode cX8_readName 167 = .ok (.iaload, 1) := by decide +kernel
theorem dX8_readName_168 : decode cX8_readName 168 = .ok (.ifCond .ge 12, 3) := by decide +kernel
theorem dX8_readName_171 : decode cX8_readName 171 = .ok (.aload_n 0, 1) := by decide +kernel
theorem dX8_readName_172 : decode cX8_readName 172 = .ok (.iload_n 1, 1) := by decide +kernel
theorem dX8_readName_173 : decode cX8_readName 173 = .ok (.iconst (-1), 1) := by decide +kernel
theorem dX8_readName_174 : decode cX8_readName 174 = .ok (.iload_n 2, 1) := by decide +kernel
theorem dX8_readName_175 : decode cX8_readName 175 = .ok (.iconst (-1), 1) := by decide +kernel
theorem dX8_readName_176 : decode cX8_readName 176 = .ok (.iconst 0, 1) := by decide +kernel
theorem dX8_readName_177 : decode cX8_readName 177 = .ok (.invokevirtual 237, 3) := by decide +kernel
theorem dX8_readName_180 : decode cX8_readName 180 = .ok (.return_, 1) := by decide +kernel
theorem dX8_newAtom_0 : decode cX8_newAtom 0 = .ok (.aload_n 0, 1) := by decide +kernel
theorem dX8_newAtom_1 : decode cX8_newAtom 1 = .ok (.getfield 234, 3) := by decide +kernel
theorem dX8_newAtom_4 : decode cX8_newAtom 4 = .ok (.bipush 9, 2) := by decide +kernel
theorem dX8_newAtom_6 : decode cX8_newAtom 6 = .ok (.if_icmp .ne 15, 3) := by decide +kernel
theorem dX8_newAtom_9 : decode cX8_newAtom 9 = .ok (.aload_n 0, 1) := by decide +kernel
theorem dX8_newAtom_10 : decode cX8_newAtom 10 = .ok (.iconst 5, 1) := by decide +kernel
theorem dX8_newAtom_11 : decode cX8_newAtom 11 = .ok (.aload_n 0, 1) := by decide +kernel
theorem dX8_newAtom_12 : decode cX8_newAtom 12 = .ok (.getfield 30, 3) := by decide +kernel
theorem dX8_newAtom_15 : decode cX8_newAtom 15 = .ok (.iload_n 1, 1) := by decide +kernel
theorem dX8_newAtom_16 : decode cX8_newAtom 16 = .ok (.iaload, 1) := by decide +kernel
theorem dX8_newAtom_17 : decode cX8_newAtom 17 = .ok (.invokevirtual 194, 3) := by decide +kernel
theorem dX8_newAtom_20 : decode cX8_newAtom 20 = .ok (.return_, 1) := by decide +kernel
theorem dX8_newAtom_21 : decode cX8_newAtom 21 = .ok (.aload_n 0, 1) := by decide +kernel
theorem dX8_newAtom_22 : decode cX8_newAtom 22 = .ok (.getfield 27, 3) := by decide +kernel
theorem dX8_newAtom_25 : decode cX8_newAtom 25 = .ok (.iload_n 1, 1) := by decide +kernel
theorem dX8_newAtom_26 : decode cX8_newAtom 26 = .ok (.aload_n 0, 1) := by decide +kernel
theorem dX8_newAtom_27 : decode cX8_newAtom 27 = .ok (.getfield 234, 3) := by decide +kernel
theorem dX8_newAtom_30 : decode cX8_newAtom 30 = .ok (.iastore, 1) := by decide +kernel
theorem dX8_newAtom_31 : decode cX8_newAtom 31 = .ok (.aload_n 0, 1) := by decide +kernel
theorem dX8_newAtom_32 : decode cX8_newAtom 32 = .ok (.getfield 73, 3) := by decide +kernel
theorem dX8_newAtom_35 : decode cX8_newAtom 35 = .ok (.bipush 9, 2) := by decide +kernel
theorem dX8_newAtom_37 : decode cX8_newAtom 37 = .ok (.aload_n 0, 1) := by decide +kernel
theorem dX8_newAtom_38 : decode cX8_newAtom 38 = .ok (.getfield 234, 3) := by decide +kernel
theorem dX8_newAtom_41 : decode cX8_newAtom 41 = .ok (.iadd, 1) := by decide +kernel
theorem dX8_newAtom_42 : decode cX8_newAtom 42 = .ok (.iload_n 2, 1) := by decide +kernel
theorem dX8_newAtom_43 : decode cX8_newAtom 43 = .ok (.iastore, 1) := by decide +kernel
theorem dX8_newAtom_44 : decode cX8_newAtom 44 = .ok (.aload_n 0, 1) := by decide +kernel
theorem dX8_newAtom_45 : decode cX8_newAtom 45 = .ok (.getfield 76, 3) := by decide +kernel
theorem dX8_newAtom_48 : decode cX8_newAtom 48 = .ok (.bipush 9, 2) := by decide +kernel
theorem dX8_newAtom_50 : decode cX8_newAtom 50 = .ok (.aload_n 0, 1) := by decide +kernel
theorem dX8_newAtom_51 : decode cX8_newAtom 51 = .ok (.getfield 234, 3) := by decide +kernel
theorem dX8_newAtom_54 : decode cX8_newAtom 54 = .ok (.iadd, 1) := by decide +kernel
theorem dX8_newAtom_55 : decode cX8_newAtom 55 = .ok (.iload_n 3, 1) := by decide +kernel
theorem dX8_newAtom_56 : decode cX8_newAtom 56 = .ok (.iastore, 1) := by decide +kernel
theorem dX8_newAtom_57 : decode cX8_newAtom 57 = .ok (.aload_n 0, 1) := by decide +kernel
theorem dX8_newAtom_58 : decode cX8_newAtom 58 = .ok (.getfield 79, 3) := by decide +kernel
theorem dX8_newAtom_61 : decode cX8_newAtom 61 = .ok (.bipush 9, 2) := by decide +kernel
theorem dX8_newAtom_63 : decode cX8_newAtom 63 = .ok (.aload_n 0, 1) := by decide +kernel
theorem dX8_newAtom_64 : decode cX8_newAtom 64 = .ok (.getfield 234, 3) := by decide +kernel
theorem dX8_newAtom_67 : decode cX8_newAtom 67 = .ok (.iadd, 1) := by decide +kernel
theorem dX8_newAtom_68 : decode cX8_newAtom 68 = .ok (.iload 4, 2) := by decide +kernel
theorem dX8_newAtom_70 : decode cX8_newAtom 70 = .ok (.iastore, 1) := by decide +kernel
theorem dX8_newAtom_71 : decode cX8_newAtom 71 = .ok (.aload_n 0, 1) := by decide +kernel
theorem dX8_newAtom_72 : decode cX8_newAtom 72 = .ok (.getfield 82, 3) := by decide +kernel
theorem dX8_newAtom_75 : decode cX8_newAtom 75 = .ok (.bipush 9, 2) := by decide +kernel
theorem dX8_newAtom_77 : decode cX8_newAtom 77 = .ok (.aload_n 0, 1) := by decide +kernel
theorem dX8_newAtom_78 : decode cX8_newAtom 78 = .ok (.getfield 234, 3) := by decide +kernel
theorem dX8_newAtom_81 : decode cX8_newAtom 81 = .ok (.iadd, 1) := by decide +kernel
theorem dX8_newAtom_82 : decode cX8_newAtom 82 = .ok (.iload 5, 2) := by decide +kernel
theorem dX8_newAtom_84 : decode cX8_newAtom 84 = .ok (.bastore, 1) := by decide +kernel
theorem dX8_newAtom_85 : decode cX8_newAtom 85 = .ok (.aload_n 0, 1) := by decide +kernel
theorem dX8_newAtom_86 : decode cX8_newAtom 86 = .ok (.dup, 1) := by decide +kernel
theorem dX8_newAtom_87 : decode cX8_newAtom 87 = .ok (.getfield 234, 3) := by decide +kernel
theorem dX8_newAtom_90 : decode cX8_newAtom 90 = .ok (.iconst 1, 1) := by decide +kernel
theorem dX8_newAtom_91 : decode cX8_newAtom 91 = .ok (.iadd, 1) := by decide +kernel
theorem dX8_newAtom_92 : decode cX8_newAtom 92 = .ok (.putfield 234, 3) := by decide +kernel
theorem dX8_newAtom_95 : decode cX8_newAtom 95 = .ok (.return_, 1) := by decide +kernel
theorem dX8_areLike_0 : decode cX8_areLike 0 = .ok (.iconst 1, 1) := by decide +kernel
theorem dX8_areLike_1 : decode cX8_areLike 1 = .ok (.istore_n 3, 1) := by decide +kernel
theorem dX8_areLike_2 : decode cX8_areLike 2 = .ok (.aload_n 0, 1) := by decide +kernel
theorem dX8_areLike_3 : decode cX8_areLike 3 = .ok (.getfield 89, 3) := by decide +kernel
theorem dX8_areLike_6 : decode cX8_areLike 6 = .ok (.iconst 0, 1) := by decide +kernel
theorem dX8_areLike_7 : decode cX8_areLike 7 = .ok (.iload_n 1, 1) := by decide +kernel
theorem dX8_areLike_8 : decode cX8_areLike 8 = .ok (.iastore, 1) := by decide +kernel
theorem dX8_areLike_9 : decode cX8_areLike 9 = .ok (.aload_n 0, 1) := by decide +kernel
theorem dX8_areLike_10 : decode cX8_areLike 10 = .ok (.getfield 92, 3) := by decide +kernel
theorem dX8_areLike_13 : decode cX8_areLike 13 = .ok (.iconst 0, 1) := by decide +kernel
theorem dX8_areLike_14 : decode cX8_areLike 14 = .ok (.iload_n 2, 1) := by decide +kernel
theorem dX8_areLike_15 : decode cX8_areLike 15 = .ok (.iastore, 1) := by decide +kernel
theorem dX8_areLike_16 : decode cX8_areLike 16 = .ok (.iconst 1, 1) := by decide +kernel
theorem dX8_areLike_17 : decode cX8_areLike 17 = .ok (.istore 4, 2) := by decide +kernel
theorem dX8_areLike_19 : decode cX8_areLike 19 = .ok (.iload_n 3, 1) := by decide +kernel
theorem dX8_areLike_20 : decode cX8_areLike 20 = .ok (.ifCond .le 246, 3) := by decide +kernel
theorem dX8_areLike_23 : decode cX8_areLike 23 = .ok (.iload 4, 2) := by decide +kernel
theorem dX8_areLike_25 : decode cX8_areLike 25 = .ok (.ifCond .eq 241, 3) := by decide +kernel
theorem dX8_areLike_28 : decode cX8_areLike 28 = .ok (.iinc 3 (-1), 3) := by decide +kernel
theorem dX8_areLike_31 : decode cX8_areLike 31 = .ok (.aload_n 0, 1) := by decide +kernel
theorem dX8_areLike_32 : decode cX8_areLike 32 = .ok (.getfield 89, 3) := by decide +kernel
theorem dX8_areLike_35 : decode cX8_areLike 35 = .ok (.iload_n 3, 1) := by decide +kernel
theorem dX8_areLike_36 : decode cX8_areLike 36 = .ok (.iaload, 1) := by decide +kernel
theorem dX8_areLike_37 : decode cX8_areLike 37 = .ok (.istore 5, 2) := by decide +kernel
theorem dX8_areLike_39 : decode cX8_areLike 39 = .ok (.aload_n 0, 1) := by decide +kernel
theorem dX8_areLike_40 : decode cX8_areLike 40 = .ok (.getfield 92, 3) := by decide +kernel
theorem dX8_areLike_43 : decode cX8_areLike 43 = .ok (.iload_n 3, 1) := by decide +kernel
theorem dX8_areLike_44 : decode cX8_areLike 44 = .ok (.iaload, 1) := by decide +kernel
theorem dX8_areLike_45 : decode cX8_areLike 45 = .ok (.istore 6, 2) := by decide +kernel
theorem dX8_areLike_47 : decode cX8_areLike 47 = .ok (.aload_n 0, 1) := by decide +kernel
theorem dX8_areLike_48 : decode cX8_areLike 48 = .ok (.getfield 17, 3) := by decide +kernel
theorem dX8_areLike_51 : decode cX8_areLike 51 = .ok (.iload 5, 2) := by decide +kernel
theorem dX8_areLike_53 : decode cX8_areLike 53 = .ok (.iaload, 1) := by decide +kernel
theorem dX8_areLike_54 : decode cX8_areLike 54 = .ok (.aload_n 0, 1) := by decide +kernel
theorem dX8_areLike_55 : decode cX8_areLike 55 = .ok (.getfield 17, 3) := by decide +kernel
theorem dX8_areLike_58 : decode cX8_areLike 58 = .ok (.iload 6, 2) := by decide +kernel
theorem dX8_areLike_60 : decode cX8_areLike 60 = .ok (.iaload, 1) := by decide +kernel
theorem dX8_areLike_61 : decode cX8_areLike 61 = .ok (.if_icmp .ne 7, 3) := by decide +kernel
theorem dX8_areLike_64 : decode cX8_areLike 64 = .ok (.iconst 1, 1) := by decide +kernel
theorem dX8_areLike_65 : decode cX8_areLike 65 = .ok (.goto 4, 3) := by decide +kernel
theorem dX8_areLike_68 : decode cX8_areLike 68 = .ok (.iconst 0, 1) := by decide +kernel
theorem dX8_areLike_69 : decode cX8_areLike 69 = .ok (.istore 4, 2) := by decide +kernel
theorem dX8_areLike_71 : decode cX8_areLike 71 = .ok (.iload 4, 2) := by decide +kernel
theorem dX8_areLike_73 : decode cX8_areLike 73 = .ok (.ifCond .ne 5, 3) := by decide +kernel
theorem dX8_areLike_76 : decode cX8_areLike 76 = .ok (.iconst 0, 1) := by decide +kernel
theorem dX8_areLike_77 : decode cX8_areLike 77 = .ok (.ireturn, 1) := by decide +kernel
theorem dX8_areLike_78 : decode cX8_areLike 78 = .ok (.aload_n 0, 1) := by decide +kernel
theorem dX8_areLike_79 : decode cX8_areLike 79 = .ok (.getfield 17, 3) := by decide +kernel
theorem dX8_areLike_82 : decode cX8_areLike 82 = .ok (.iload 5, 2) := by decide +kernel
theorem dX8_areLike_84 : decode cX8_areLike 84 = .ok (.iaload, 1) := by decide +kernel
theorem dX8_areLike_85 : decode cX8_areLike 85 = .ok (.istore 7, 2) := by decide +kernel
theorem dX8_areLike_87 : decode cX8_areLike 87 = .ok (.iload 7, 2) := by decide +kernel
theorem dX8_areLike_89 : decode cX8_areLike 89 = .ok (.ifCond .ne 30, 3) := by decide +kernel
theorem dX8_areLike_92 : decode cX8_areLike 92 = .ok (.aload_n 0, 1) := by decide +kernel
theorem dX8_areLike_93 : decode cX8_areLike 93 = .ok (.getfield 21, 3) := by decide +kernel
theorem dX8_areLike_96 : decode cX8_areLike 96 = .ok (.iload 5, 2) := by decide +kernel
theorem dX8_areLike_98 : decode cX8_areLike 98 = .ok (.iaload, 1) := by decide +kernel
theorem dX8_areLike_99 : decode cX8_areLike 99 = .ok (.aload_n 0, 1) := by decide +kernel
theorem dX8_areLike_100 : decode cX8_areLike 100 = .ok (.getfield 21, 3) := by decide +kernel
theorem dX8_areLike_103 : decode cX8_areLike 103 = .ok (.iload 6, 2) := by decide +kernel
theorem dX8_areLike_105 : decode cX8_areLike 105 = .ok (.iaload, 1) := by decide +kernel
theorem dX8_areLike_106 : decode cX8_areLike 106 = .ok (.if_icmp .ne 7, 3) := by decide +kernel
theorem dX8_areLike_109 : decode cX8_areLike 109 = .ok (.iconst 1, 1) := by decide +kernel
theorem dX8_areLike_110 : decode cX8_areLike 110 = .ok (.goto 4, 3) := by decide +kernel
theorem dX8_areLike_113 : decode cX8_areLike 113 = .ok (.iconst 0, 1) := by decide +kernel
theorem dX8_areLike_114 : decode cX8_areLike 114 = .ok (.istore 4, 2) := by decide +kernel
theorem dX8_areLike_116 : decode cX8_areLike 116 = .ok (.goto 147, 3) := by decide +kernel
theorem dX8_areLike_119 : decode cX8_areLike 119 = .ok (.iload 7, 2) := by decide +kernel
theorem dX8_areLike_121 : decode cX8_areLike 121 = .ok (.iconst 4, 1) := by decide +kernel
theorem dX8_areLike_122 : decode cX8_areLike 122 = .ok (.if_icmp .eq 9, 3) := by decide +kernel
theorem dX8_areLike_125 : decode cX8_areLike 125 = .ok (.iload 7, 2) := by decide +kernel
theorem dX8_areLike_127 : decode cX8_areLike 127 = .ok (.iconst 5, 1) := by decide +kernel
theorem dX8_areLike_128 : decode cX8_areLike 128 = .ok (.if_icmp .ne 59, 3) := by decide +kernel
theorem dX8_areLike_131 : decode cX8_areLike 131 = .ok (.aload_n 0, 1) := by decide +kernel
theorem dX8_areLike_132 : decode cX8_areLike 132 = .ok (.getfield 21, 3) := by decide +kernel
theorem dX8_areLike_135 : decode cX8_areLike 135 = .ok (.iload 5, 2) := by decide +kernel
theorem dX8_areLike_137 : decode cX8_areLike 137 = .ok (.iaload, 1) := by decide +kernel
theorem dX8_areLike_138 : decode cX8_areLike 138 = .ok (.aload_n 0, 1) := by decide +kernel
theorem dX8_areLike_139 : decode cX8_areLike 139 = .ok (.getfield 21, 3) := by decide +kernel
theorem dX8_areLike_142 : decode cX8_areLike 142 = .ok (.iload 6, 2) := by decide +kernel
theorem dX8_areLike_144 : decode cX8_areLike 144 = .ok (.iaload, 1) := by decide +kernel
theorem dX8_areLike_145 : decode cX8_areLike 145 = .ok (.if_icmp .ne 7, 3) := by decide +kernel
theorem dX8_areLike_148 : decode cX8_areLike 148 = .ok (.iconst 1, 1) := by decide +kernel
theorem dX8_areLike_149 : decode cX8_areLike 149 = .ok (.goto 4, 3) := by decide +kernel
theorem dX8_areLike_152 : decode cX8_areLike 152 = .ok (.iconst 0, 1) := by decide +kernel
theorem dX8_areLike_153 : decode cX8_areLike 153 = .ok (.istore 4, 2) := by decide +kernel
theorem dX8_areLike_155 : decode cX8_areLike 155 = .ok (.aload_n 0, 1) := by decide +kernel
theorem dX8_areLike_156 : decode cX8_areLike 156 = .ok (.getfield 89, 3) := by decide +kernel
theorem dX8_areLike_159 : decode cX8_areLike 159 = .ok (.iload_n 3, 1) := by decide +kernel
theorem dX8_areLike_160 : decode cX8_areLike 160 = .ok (.aload_n 0, 1) := by decide +kernel
theorem dX8_areLike_161 : decode cX8_areLike 161 = .ok (.getfield 24, 3) := by decide +kernel
theorem dX8_areLike_164 : decode cX8_areLike 164 = .ok (.iload 5, 2) := by decide +kernel
theorem dX8_areLike_166 : decode cX8_areLike 166 = .ok (.iaload, 1) := by decide +kernel
theorem dX8_areLike_167 : decode cX8_areLike 167 = .ok (.iastore, 1) := by decide +kernel
theorem dX8_areLike_168 : decode cX8_areLike 168 = .ok (.aload_n 0, 1) := by decide +kernel
theorem dX8_areLike_169 : decode cX8_areLike 169 = .ok (.getfield 92, 3) := by decide +kernel
theorem dX8_areLike_172 : decode cX8_areLike 172 = .ok (.iload_n 3, 1) := by decide +kernel
theorem dX8_areLike_173 : decode cX8_areLike 173 = .ok (.aload_n 0, 1) := by decide +kernel
theorem dX8_areLike_174 : decode cX8_areLike 174 = .ok (.getfield 24, 3) := by decide +kernel
theorem dX8_areLike_177 : decode cX8_areLike 177 = .ok (.iload 6, 2) := by decide +kernel
theorem dX8_areLike_179 : decode cX8_areLike 179 = .ok (.iaload, 1) := by decide +kernel
theorem dX8_areLike_180 : decode cX8_areLike 180 = .ok (.iastore, 1) := by decide +kernel
theorem dX8_areLike_181 : decode cX8_areLike 181 = .ok (.iinc 3 1, 3) := by decide +kernel
theorem dX8_areLike_184 : decode cX8_areLike 184 = .ok (.goto 79, 3) := by decide +kernel
theorem dX8_areLike_187 : decode cX8_areLike 187 = .ok (.iload 7, 2) := by decide +kernel
theorem dX8_areLike_189 : decode cX8_areLike 189 = .ok (.iconst 3, 1) := by decide +kernel
theorem dX8_areLike_190 : decode cX8_areLike 190 = .ok (.if_icmp .eq 9, 3) := by decide +kernel
theorem dX8_areLike_193 : decode cX8_areLike 193 = .ok (.iload 7, 2) := by decide +kernel
theorem dX8_areLike_195 : decode cX8_areLike 195 = .ok (.iconst 5, 1) := by decide +kernel
theorem dX8_areLike_196 : decode cX8_areLike 196 = .ok (.if_icmp .le 67, 3) := by decide +kernel
theorem dX8_areLike_199 : decode cX8_areLike 199 = .ok (.aload_n 0, 1) := by decide +kernel
theorem dX8_areLike_200 : decode cX8_areLike 200 = .ok (.getfield 89, 3) := by decide +kernel
theorem dX8_areLike_203 : decode cX8_areLike 203 = .ok (.iload_n 3, 1) := by decide +kernel
theorem dX8_areLike_204 : decode cX8_areLike 204 = .ok (.aload_n 0, 1) := by decide +kernel
theorem dX8_areLike_205 : decode cX8_areLike 205 = .ok (.getfield 24, 3) := by decide +kernel
theorem dX8_areLike_208 : decode cX8_areLike 208 = .ok (.iload 5, 2) := by decide +kernel
theorem dX8_areLike_210 : decode cX8_areLike 210 = .ok (.iaload, 1) := by decide +kernel
theorem dX8_areLike_211 : decode cX8_areLike 211 = .ok (.iastore, 1) := by decide +kernel
theorem dX8_areLike_212 : decode cX8_areLike 212 = .ok (.aload_n 0, 1) := by decide +kernel
theorem dX8_areLike_213 : decode cX8_areLike 213 = .ok (.getfield 92, 3) := by decide +kernel
