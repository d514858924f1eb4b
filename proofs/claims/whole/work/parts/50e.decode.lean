theorem dX2_sizeOf_18 : decode cX2_sizeOf 18 = .ok (.aload_n 3, 1) := by decide +kernel
theorem dX2_sizeOf_19 : decode cX2_sizeOf 19 = .ok (.iload 5, 2) := by decide +kernel
theorem dX2_sizeOf_21 : decode cX2_sizeOf 21 = .ok (.laload, 1) := by decide +kernel
theorem dX2_sizeOf_22 : decode cX2_sizeOf 22 = .ok (.lstore 6, 2) := by decide +kernel
theorem dX2_sizeOf_24 : decode cX2_sizeOf 24 = .ok (.iload_n 2, 1) := by decide +kernel
theorem dX2_sizeOf_25 : decode cX2_sizeOf 25 = .ok (.lload 6, 2) := by decide +kernel
theorem dX2_sizeOf_27 : decode cX2_sizeOf 27 = .ok (.invokestatic 191, 3) := by decide +kernel
theorem dX2_sizeOf_30 : decode cX2_sizeOf 30 = .ok (.iadd, 1) := by decide +kernel
theorem dX2_sizeOf_31 : decode cX2_sizeOf 31 = .ok (.istore_n 2, 1) := by decide +kernel
theorem dX2_sizeOf_32 : decode cX2_sizeOf 32 = .ok (.iinc 5 1, 3) := by decide +kernel
theorem dX2_sizeOf_35 : decode cX2_sizeOf 35 = .ok (.goto (-24), 3) := by decide +kernel
theorem dX2_sizeOf_38 : decode cX2_sizeOf 38 = .ok (.iload_n 2, 1) := by decide +kernel
theorem dX2_sizeOf_39 : decode cX2_sizeOf 39 = .ok (.ireturn, 1) := by decide +kernel
theorem dX2_has_0 : decode cX2_has 0 = .ok (.iload_n 1, 1) := by decide +kernel
theorem dX2_has_1 : decode cX2_has 1 = .ok (.bipush 6, 2) := by decide +kernel
theorem dX2_has_3 : decode cX2_has 3 = .ok (.ishr, 1) := by decide +kernel
theorem dX2_has_4 : decode cX2_has 4 = .ok (.istore_n 2, 1) := by decide +kernel
theorem dX2_has_5 : decode cX2_has 5 = .ok (.iload_n 2, 1) := by decide +kernel
theorem dX2_has_6 : decode cX2_has 6 = .ok (.ifCond .lt 25, 3) := by decide +kernel
theorem dX2_has_9 : decode cX2_has 9 = .ok (.iload_n 2, 1) := by decide +kernel
theorem dX2_has_10 : decode cX2_has 10 = .ok (.aload_n 0, 1) := by decide +kernel
theorem dX2_has_11 : decode cX2_has 11 = .ok (.arraylength, 1) := by decide +kernel
theorem dX2_has_12 : decode cX2_has 12 = .ok (.if_icmp .ge 19, 3) := by decide +kernel
theorem dX2_has_15 : decode cX2_has 15 = .ok (.aload_n 0, 1) := by decide +kernel
theorem dX2_has_16 : decode cX2_has 16 = .ok (.iload_n 2, 1) := by decide +kernel
theorem dX2_has_17 : decode cX2_has 17 = .ok (.laload, 1) := by decide +kernel
theorem dX2_has_18 : decode cX2_has 18 = .ok (.iload_n 1, 1) := by decide +kernel
theorem dX2_has_19 : decode cX2_has 19 = .ok (.lshr, 1) := by decide +kernel
theorem dX2_has_20 : decode cX2_has 20 = .ok (.lconst 1, 1) := by decide +kernel
theorem dX2_has_21 : decode cX2_has 21 = .ok (.land, 1) := by decide +kernel
theorem dX2_has_22 : decode cX2_has 22 = .ok (.lconst 1, 1) := by decide +kernel
theorem dX2_has_23 : decode cX2_has 23 = .ok (.lcmp, 1) := by decide +kernel
theorem dX2_has_24 : decode cX2_has 24 = .ok (.ifCond .ne 7, 3) := by decide +kernel
theorem dX2_has_27 : decode cX2_has 27 = .ok (.iconst 1, 1) := by decide +kernel
theorem dX2_has_28 : decode cX2_has 28 = .ok (.goto 4, 3) := by decide +kernel
theorem dX2_has_31 : decode cX2_has 31 = .ok (.iconst 0, 1) := by decide +kernel
theorem dX2_has_32 : decode cX2_has 32 = .ok (.ireturn, 1) := by decide +kernel
theorem dX2_put_0 : decode cX2_put 0 = .ok (.iload_n 1, 1) := by decide +kernel
theorem dX2_put_1 : decode cX2_put 1 = .ok (.bipush 6, 2) := by decide +kernel
theorem dX2_put_3 : decode cX2_put 3 = .ok (.ishr, 1) := by decide +kernel
theorem dX2_put_4 : decode cX2_put 4 = .ok (.istore_n 3, 1) := by decide +kernel
theorem dX2_put_5 : decode cX2_put 5 = .ok (.iload_n 3, 1) := by decide +kernel
theorem dX2_put_6 : decode cX2_put 6 = .ok (.ifCond .lt 40, 3) := by decide +kernel
theorem dX2_put_9 : decode cX2_put 9 = .ok (.iload_n 3, 1) := by decide +kernel
theorem dX2_put_10 : decode cX2_put 10 = .ok (.aload_n 0, 1) := by decide +kernel
theorem dX2_put_11 : decode cX2_put 11 = .ok (.arraylength, 1) := by decide +kernel
theorem dX2_put_12 : decode cX2_put 12 = .ok (.if_icmp .ge 34, 3) := by decide +kernel
theorem dX2_put_15 : decode cX2_put 15 = .ok (.lconst 1, 1) := by decide +kernel
theorem dX2_put_16 : decode cX2_put 16 = .ok (.iload_n 1, 1) := by decide +kernel
theorem dX2_put_17 : decode cX2_put 17 = .ok (.lshl, 1) := by decide +kernel
theorem dX2_put_18 : decode cX2_put 18 = .ok (.lstore 4, 2) := by decide +kernel
theorem dX2_put_20 : decode cX2_put 20 = .ok (.aload_n 0, 1) := by decide +kernel
theorem dX2_put_21 : decode cX2_put 21 = .ok (.iload_n 3, 1) := by decide +kernel
theorem dX2_put_22 : decode cX2_put 22 = .ok (.iload_n 2, 1) := by decide +kernel
theorem dX2_put_23 : decode cX2_put 23 = .ok (.ifCond .eq 12, 3) := by decide +kernel
theorem dX2_put_26 : decode cX2_put 26 = .ok (.aload_n 0, 1) := by decide +kernel
theorem dX2_put_27 : decode cX2_put 27 = .ok (.iload_n 3, 1) := by decide +kernel
theorem dX2_put_28 : decode cX2_put 28 = .ok (.laload, 1) := by decide +kernel
theorem dX2_put_29 : decode cX2_put 29 = .ok (.lload 4, 2) := by decide +kernel
theorem dX2_put_31 : decode cX2_put 31 = .ok (.lor, 1) := by decide +kernel
theorem dX2_put_32 : decode cX2_put 32 = .ok (.goto 13, 3) := by decide +kernel
theorem dX2_put_35 : decode cX2_put 35 = .ok (.aload_n 0, 1) := by decide +kernel
theorem dX2_put_36 : decode cX2_put 36 = .ok (.iload_n 3, 1) := by decide +kernel
theorem dX2_put_37 : decode cX2_put 37 = .ok (.laload, 1) := by decide +kernel
theorem dX2_put_38 : decode cX2_put 38 = .ok (.lload 4, 2) := by decide +kernel
theorem dX2_put_40 : decode cX2_put 40 = .ok (.ldc2_w 88, 3) := by decide +kernel
theorem dX2_put_43 : decode cX2_put 43 = .ok (.lxor, 1) := by decide +kernel
theorem dX2_put_44 : decode cX2_put 44 = .ok (.land, 1) := by decide +kernel
theorem dX2_put_45 : decode cX2_put 45 = .ok (.lastore, 1) := by decide +kernel
theorem dX2_put_46 : decode cX2_put 46 = .ok (.return_, 1) := by decide +kernel
theorem dX2_lowestBit_0 : decode cX2_lowestBit 0 = .ok (.lload_n 0, 1) := by decide +kernel
theorem dX2_lowestBit_1 : decode cX2_lowestBit 1 = .ok (.lload_n 0, 1) := by decide +kernel
theorem dX2_lowestBit_2 : decode cX2_lowestBit 2 = .ok (.lneg, 1) := by decide +kernel
theorem dX2_lowestBit_3 : decode cX2_lowestBit 3 = .ok (.land, 1) := by decide +kernel
theorem dX2_lowestBit_4 : decode cX2_lowestBit 4 = .ok (.lconst 1, 1) := by decide +kernel
theorem dX2_lowestBit_5 : decode cX2_lowestBit 5 = .ok (.lsub, 1) := by decide +kernel
theorem dX2_lowestBit_6 : decode cX2_lowestBit 6 = .ok (.invokestatic 191, 3) := by decide +kernel
theorem dX2_lowestBit_9 : decode cX2_lowestBit 9 = .ok (.ireturn, 1) := by decide +kernel
theorem dX3_init_0 : decode cX3_init 0 = .ok (.aload_n 0, 1) := by decide +kernel
theorem dX3_init_1 : decode cX3_init 1 = .ok (.invokespecial 3, 3) := by decide +kernel
theorem dX3_init_4 : decode cX3_init 4 = .ok (.aload_n 0, 1) := by decide +kernel
theorem dX3_init_5 : decode cX3_init 5 = .ok (.sipush 2670, 3) := by decide +kernel
theorem dX3_init_8 : decode cX3_init 8 = .ok (.newarray .byte, 2) := by decide +kernel
theorem dX3_init_10 : decode cX3_init 10 = .ok (.putfield 9, 3) := by decide +kernel
theorem dX3_init_13 : decode cX3_init 13 = .ok (.aload_n 0, 1) := by decide +kernel
theorem dX3_init_14 : decode cX3_init 14 = .ok (.sipush 500, 3) := by decide +kernel
theorem dX3_init_17 : decode cX3_init 17 = .ok (.newarray .int, 2) := by decide +kernel
theorem dX3_init_19 : decode cX3_init 19 = .ok (.putfield 15, 3) := by decide +kernel
theorem dX3_init_22 : decode cX3_init 22 = .ok (.aload_n 0, 1) := by decide +kernel
theorem dX3_init_23 : decode cX3_init 23 = .ok (.aload_n 1, 1) := by decide +kernel
theorem dX3_init_24 : decode cX3_init 24 = .ok (.putfield 19, 3) := by decide +kernel
theorem dX3_init_27 : decode cX3_init 27 = .ok (.return_, 1) := by decide +kernel
theorem dX3_printBook_0 : decode cX3_printBook 0 = .ok (.aload_n 0, 1) := by decide +kernel
theorem dX3_printBook_1 : decode cX3_printBook 1 = .ok (.aload_n 1, 1) := by decide +kernel
theorem dX3_printBook_2 : decode cX3_printBook 2 = .ok (.putfield 19, 3) := by decide +kernel
theorem dX3_printBook_5 : decode cX3_printBook 5 = .ok (.aload_n 0, 1) := by decide +kernel
theorem dX3_printBook_6 : decode cX3_printBook 6 = .ok (.iconst 0, 1) := by decide +kernel
theorem dX3_printBook_7 : decode cX3_printBook 7 = .ok (.putfield 23, 3) := by decide +kernel
theorem dX3_printBook_10 : decode cX3_printBook 10 = .ok (.iconst 0, 1) := by decide +kernel
theorem dX3_printBook_11 : decode cX3_printBook 11 = .ok (.istore_n 2, 1) := by decide +kernel
theorem dX3_printBook_12 : decode cX3_printBook 12 = .ok (.iload_n 2, 1) := by decide +kernel
theorem dX3_printBook_13 : decode cX3_printBook 13 = .ok (.aload_n 0, 1) := by decide +kernel
theorem dX3_printBook_14 : decode cX3_printBook 14 = .ok (.getfield 19, 3) := by decide +kernel
theorem dX3_printBook_17 : decode cX3_printBook 17 = .ok (.getfield 27, 3) := by decide +kernel
theorem dX3_printBook_20 : decode cX3_printBook 20 = .ok (.if_icmp .ge 35, 3) := by decide +kernel
theorem dX3_printBook_23 : decode cX3_printBook 23 = .ok (.aload_n 0, 1) := by decide +kernel
theorem dX3_printBook_24 : decode cX3_printBook 24 = .ok (.aload_n 0, 1) := by decide +kernel
theorem dX3_printBook_25 : decode cX3_printBook 25 = .ok (.getfield 19, 3) := by decide +kernel
theorem dX3_printBook_28 : decode cX3_printBook 28 = .ok (.iload_n 2, 1) := by decide +kernel
theorem dX3_printBook_29 : decode cX3_printBook 29 = .ok (.invokevirtual 32, 3) := by decide +kernel
theorem dX3_printBook_32 : decode cX3_printBook 32 = .ok (.invokevirtual 36, 3) := by decide +kernel
theorem dX3_printBook_35 : decode cX3_printBook 35 = .ok (.aload_n 0, 1) := by decide +kernel
theorem dX3_printBook_36 : decode cX3_printBook 36 = .ok (.ldc2_w 40, 3) := by decide +kernel
theorem dX3_printBook_39 : decode cX3_printBook 39 = .ok (.invokevirtual 42, 3) := by decide +kernel
theorem dX3_printBook_42 : decode cX3_printBook 42 = .ok (.aload_n 0, 1) := by decide +kernel
theorem dX3_printBook_43 : decode cX3_printBook 43 = .ok (.ldc2_w 46, 3) := by decide +kernel
theorem dX3_printBook_46 : decode cX3_printBook 46 = .ok (.invokevirtual 42, 3) := by decide +kernel
theorem dX3_printBook_49 : decode cX3_printBook 49 = .ok (.iinc 2 1, 3) := by decide +kernel
theorem dX3_printBook_52 : decode cX3_printBook 52 = .ok (.goto (-40), 3) := by decide +kernel
theorem dX3_printBook_55 : decode cX3_printBook 55 = .ok (.return_, 1) := by decide +kernel
theorem dX3_printStatement_0 : decode cX3_printStatement 0 = .ok (.iload_n 1, 1) := by decide +kernel
theorem dX3_printStatement_1 : decode cX3_printStatement 1 = .ok (.invokestatic 48, 3) := by decide +kernel
theorem dX3_printStatement_4 : decode cX3_printStatement 4 = .ok (.istore_n 2, 1) := by decide +kernel
theorem dX3_printStatement_5 : decode cX3_printStatement 5 = .ok (.iload_n 1, 1) := by decide +kernel
theorem dX3_printStatement_6 : decode cX3_printStatement 6 = .ok (.invokestatic 51, 3) := by decide +kernel
theorem dX3_printStatement_9 : decode cX3_printStatement 9 = .ok (.istore_n 3, 1) := by decide +kernel
theorem dX3_printStatement_10 : decode cX3_printStatement 10 = .ok (.iload_n 1, 1) := by decide +kernel
theorem dX3_printStatement_11 : decode cX3_printStatement 11 = .ok (.invokestatic 54, 3) := by decide +kernel
theorem dX3_printStatement_14 : decode cX3_printStatement 14 = .ok (.istore 4, 2) := by decide +kernel
theorem dX3_printStatement_16 : decode cX3_printStatement 16 = .ok (.iload 4, 2) := by decide +kernel
theorem dX3_printStatement_18 : decode cX3_printStatement 18 = .ok (.tableswitch 117 0 3 #[30, 30, 68, 83], 30) := by decide +kernel
theorem dX3_printStatement_48 : decode cX3_printStatement 48 = .ok (.aload_n 0, 1) := by decide +kernel
theorem dX3_printStatement_49 : decode cX3_printStatement 49 = .ok (.iload_n 2, 1) := by decide +kernel
theorem dX3_printStatement_50 : decode cX3_printStatement 50 = .ok (.invokevirtual 57, 3) := by decide +kernel
theorem dX3_printStatement_53 : decode cX3_printStatement 53 = .ok (.aload_n 0, 1) := by decide +kernel
theorem dX3_printStatement_54 : decode cX3_printStatement 54 = .ok (.ldc2_w 60, 3) := by decide +kernel
theorem dX3_printStatement_57 : decode cX3_printStatement 57 = .ok (.invokevirtual 42, 3) := by decide +kernel
theorem dX3_printStatement_60 : decode cX3_printStatement 60 = .ok (.aload_n 0, 1) := by decide +kernel
theorem dX3_printStatement_61 : decode cX3_printStatement 61 = .ok (.iload 4, 2) := by decide +kernel
theorem dX3_printStatement_63 : decode cX3_printStatement 63 = .ok (.ifCond .ne 9, 3) := by decide +kernel
theorem dX3_printStatement_66 : decode cX3_printStatement 66 = .ok (.ldc2_w 62, 3) := by decide +kernel
theorem dX3_printStatement_69 : decode cX3_printStatement 69 = .ok (.goto 6, 3) := by decide +kernel
theorem dX3_printStatement_72 : decode cX3_printStatement 72 = .ok (.ldc2_w 64, 3) := by decide +kernel
theorem dX3_printStatement_75 : decode cX3_printStatement 75 = .ok (.invokevirtual 66, 3) := by decide +kernel
theorem dX3_printStatement_78 : decode cX3_printStatement 78 = .ok (.aload_n 0, 1) := by decide +kernel
theorem dX3_printStatement_79 : decode cX3_printStatement 79 = .ok (.iload_n 3, 1) := by decide +kernel
theorem dX3_printStatement_80 : decode cX3_printStatement 80 = .ok (.invokevirtual 57, 3) := by decide +kernel
theorem dX3_printStatement_83 : decode cX3_printStatement 83 = .ok (.goto 71, 3) := by decide +kernel
theorem dX3_printStatement_86 : decode cX3_printStatement 86 = .ok (.aload_n 0, 1) := by decide +kernel
theorem dX3_printStatement_87 : decode cX3_printStatement 87 = .ok (.ldc2_w 69, 3) := by decide +kernel
theorem dX3_printStatement_90 : decode cX3_printStatement 90 = .ok (.invokevirtual 66, 3) := by decide +kernel
theorem dX3_printStatement_93 : decode cX3_printStatement 93 = .ok (.aload_n 0, 1) := by decide +kernel
theorem dX3_printStatement_94 : decode cX3_printStatement 94 = .ok (.iload_n 2, 1) := by decide +kernel
theorem dX3_printStatement_95 : decode cX3_printStatement 95 = .ok (.invokevirtual 57, 3) := by decide +kernel
theorem dX3_printStatement_98 : decode cX3_printStatement 98 = .ok (.goto 56, 3) := by decide +kernel
theorem dX3_printStatement_101 : decode cX3_printStatement 101 = .ok (.aload_n 0, 1) := by decide +kernel
theorem dX3_printStatement_102 : decode cX3_printStatement 102 = .ok (.ldc2_w 71, 3) := by decide +kernel
theorem dX3_printStatement_105 : decode cX3_printStatement 105 = .ok (.invokevirtual 66, 3) := by decide +kernel
theorem dX3_printStatement_108 : decode cX3_printStatement 108 = .ok (.aload_n 0, 1) := by decide +kernel
theorem dX3_printStatement_109 : decode cX3_printStatement 109 = .ok (.aload_n 0, 1) := by decide +kernel
theorem dX3_printStatement_110 : decode cX3_printStatement 110 = .ok (.getfield 19, 3) := by decide +kernel
theorem dX3_printStatement_113 : decode cX3_printStatement 113 = .ok (.iload_n 2, 1) := by decide +kernel
theorem dX3_printStatement_114 : decode cX3_printStatement 114 = .ok (.invokevirtual 73, 3) := by decide +kernel
theorem dX3_printStatement_117 : decode cX3_printStatement 117 = .ok (.invokevirtual 66, 3) := by decide +kernel
theorem dX3_printStatement_120 : decode cX3_printStatement 120 = .ok (.aload_n 0, 1) := by decide +kernel
theorem dX3_printStatement_121 : decode cX3_printStatement 121 = .ok (.aload_n 0, 1) := by decide +kernel
theorem dX3_printStatement_122 : decode cX3_printStatement 122 = .ok (.getfield 19, 3) := by decide +kernel
theorem dX3_printStatement_125 : decode cX3_printStatement 125 = .ok (.iload_n 3, 1) := by decide +kernel
theorem dX3_printStatement_126 : decode cX3_printStatement 126 = .ok (.invokevirtual 73, 3) := by decide +kernel
theorem dX3_printStatement_129 : decode cX3_printStatement 129 = .ok (.invokevirtual 42, 3) := by decide +kernel
theorem dX3_printStatement_132 : decode cX3_printStatement 132 = .ok (.goto 22, 3) := by decide +kernel
theorem dX3_printStatement_135 : decode cX3_printStatement 135 = .ok (.aload_n 0, 1) := by decide +kernel
theorem dX3_printStatement_136 : decode cX3_printStatement 136 = .ok (.ldc2_w 77, 3) := by decide +kernel
theorem dX3_printStatement_139 : decode cX3_printStatement 139 = .ok (.invokevirtual 66, 3) := by decide +kernel
theorem dX3_printStatement_142 : decode cX3_printStatement 142 = .ok (.aload_n 0, 1) := by decide +kernel
theorem dX3_printStatement_143 : decode cX3_printStatement 143 = .ok (.aload_n 0, 1) := by decide +kernel
theorem dX3_printStatement_144 : decode cX3_printStatement 144 = .ok (.getfield 19, 3) := by decide +kernel
theorem dX3_printStatement_147 : decode cX3_printStatement 147 = .ok (.iload_n 2, 1) := by decide +kernel
theorem dX3_printStatement_148 : decode cX3_printStatement 148 = .ok (.invokevirtual 73, 3) := by decide +kernel
theorem dX3_printStatement_151 : decode cX3_printStatement 151 = .ok (.invokevirtual 42, 3) := by decide +kernel
theorem dX3_printStatement_154 : decode cX3_printStatement 154 = .ok (.return_, 1) := by decide +kernel
theorem dX3_printConcept_0 : decode cX3_printConcept 0 = .ok (.aload_n 0, 1) := by decide +kernel
theorem dX3_printConcept_1 : decode cX3_printConcept 1 = .ok (.iconst 0, 1) := by decide +kernel
theorem dX3_printConcept_2 : decode cX3_printConcept 2 = .ok (.putfield 79, 3) := by decide +kernel
theorem dX3_printConcept_5 : decode cX3_printConcept 5 = .ok (.aload_n 0, 1) := by decide +kernel
theorem dX3_printConcept_6 : decode cX3_printConcept 6 = .ok (.iload_n 1, 1) := by decide +kernel
theorem dX3_printConcept_7 : decode cX3_printConcept 7 = .ok (.invokevirtual 82, 3) := by decide +kernel
theorem dX3_printConcept_10 : decode cX3_printConcept 10 = .ok (.iconst 0, 1) := by decide +kernel
theorem dX3_printConcept_11 : decode cX3_printConcept 11 = .ok (.istore_n 2, 1) := by decide +kernel
theorem dX3_printConcept_12 : decode cX3_printConcept 12 = .ok (.iload_n 2, 1) := by decide +kernel
theorem dX3_printConcept_13 : decode cX3_printConcept 13 = .ok (.sipush 800, 3) := by decide +kernel
theorem dX3_printConcept_16 : decode cX3_printConcept 16 = .ok (.if_icmp .ge 111, 3) := by decide +kernel
theorem dX3_printConcept_19 : decode cX3_printConcept 19 = .ok (.aload_n 0, 1) := by decide +kernel
theorem dX3_printConcept_20 : decode cX3_printConcept 20 = .ok (.getfield 79, 3) := by decide +kernel
theorem dX3_printConcept_23 : decode cX3_printConcept 23 = .ok (.ifCond .le 104, 3) := by decide +kernel
theorem dX3_printConcept_26 : decode cX3_printConcept 26 = .ok (.aload_n 0, 1) := by decide +kernel
theorem dX3_printConcept_27 : decode cX3_printConcept 27 = .ok (.dup, 1) := by decide +kernel
theorem dX3_printConcept_28 : decode cX3_printConcept 28 = .ok (.getfield 79, 3) := by decide +kernel
theorem dX3_printConcept_31 : decode cX3_printConcept 31 = .ok (.iconst 1, 1) := by decide +kernel
theorem dX3_printConcept_32 : decode cX3_printConcept 32 = .ok (.isub, 1) := by decide +kernel
theorem dX3_printConcept_33 : decode cX3_printConcept 33 = .ok (.putfield 79, 3) := by decide +kernel
theorem dX3_printConcept_36 : decode cX3_printConcept 36 = .ok (.aload_n 0, 1) := by decide +kernel
theorem dX3_printConcept_37 : decode cX3_printConcept 37 = .ok (.getfield 15, 3) := by decide +kernel
theorem dX3_printConcept_40 : decode cX3_printConcept 40 = .ok (.aload_n 0, 1) := by decide +kernel
theorem dX3_printConcept_41 : decode cX3_printConcept 41 = .ok (.getfield 79, 3) := by decide +kernel
theorem dX3_printConcept_44 : decode cX3_printConcept 44 = .ok (.iaload, 1) := by decide +kernel
theorem dX3_printConcept_45 : decode cX3_printConcept 45 = .ok (.istore_n 3, 1) := by decide +kernel
theorem dX3_printConcept_46 : decode cX3_printConcept 46 = .ok (.iload_n 3, 1) := by decide +kernel
theorem dX3_printConcept_47 : decode cX3_printConcept 47 = .ok (.tableswitch 69 (-4) (-1) #[59, 49, 39, 29], 29) := by decide +kernel
theorem dX3_printConcept_76 : decode cX3_printConcept 76 = .ok (.aload_n 0, 1) := by decide +kernel
theorem dX3_printConcept_77 : decode cX3_printConcept 77 = .ok (.ldc2_w 85, 3) := by decide +kernel
theorem dX3_printConcept_80 : decode cX3_printConcept 80 = .ok (.invokevirtual 42, 3) := by decide +kernel
theorem dX3_printConcept_83 : decode cX3_printConcept 83 = .ok (.goto 38, 3) := by decide +kernel
theorem dX3_printConcept_86 : decode cX3_printConcept 86 = .ok (.aload_n 0, 1) := by decide +kernel
theorem dX3_printConcept_87 : decode cX3_printConcept 87 = .ok (.ldc2_w 87, 3) := by decide +kernel
theorem dX3_printConcept_90 : decode cX3_printConcept 90 = .ok (.invokevirtual 42, 3) := by decide +kernel
theorem dX3_printConcept_93 : decode cX3_printConcept 93 = .ok (.goto 28, 3) := by decide +kernel
theorem dX3_printConcept_96 : decode cX3_printConcept 96 = .ok (.aload_n 0, 1) := by decide +kernel
theorem dX3_printConcept_97 : decode cX3_printConcept 97 = .ok (.ldc2_w 89, 3) := by decide +kernel
theorem dX3_printConcept_100 : decode cX3_printConcept 100 = .ok (.invokevirtual 91, 3) := by decide +kernel
theorem dX3_printConcept_103 : decode cX3_printConcept 103 = .ok (.goto 18, 3) := by decide +kernel
theorem dX3_printConcept_106 : decode cX3_printConcept 106 = .ok (.aload_n 0, 1) := by decide +kernel
theorem dX3_printConcept_107 : decode cX3_printConcept 107 = .ok (.ldc2_w 94, 3) := by decide +kernel
theorem dX3_printConcept_110 : decode cX3_printConcept 110 = .ok (.invokevirtual 91, 3) := by decide +kernel
theorem dX3_printConcept_113 : decode cX3_printConcept 113 = .ok (.goto 8, 3) := by decide +kernel
theorem dX3_printConcept_116 : decode cX3_printConcept 116 = .ok (.aload_n 0, 1) := by decide +kernel
theorem dX3_printConcept_117 : decode cX3_printConcept 117 = .ok (.iload_n 3, 1) := by decide +kernel
theorem dX3_printConcept_118 : decode cX3_printConcept 118 = .ok (.invokevirtual 96, 3) := by decide +kernel
theorem dX3_printConcept_121 : decode cX3_printConcept 121 = .ok (.iinc 2 1, 3) := by decide +kernel
theorem dX3_printConcept_124 : decode cX3_printConcept 124 = .ok (.goto (-112), 3) := by decide +kernel
theorem dX3_printConcept_127 : decode cX3_printConcept 127 = .ok (.return_, 1) := by decide +kernel
theorem dX3_printNode_0 : decode cX3_printNode 0 = .ok (.aload_n 0, 1) := by decide +kernel
theorem dX3_printNode_1 : decode cX3_printNode 1 = .ok (.getfield 19, 3) := by decide +kernel
theorem dX3_printNode_4 : decode cX3_printNode 4 = .ok (.getfield 99, 3) := by decide +kernel
theorem dX3_printNode_7 : decode cX3_printNode 7 = .ok (.astore_n 2, 1) := by decide +kernel
theorem dX3_printNode_8 : decode cX3_printNode 8 = .ok (.aload_n 2, 1) := by decide +kernel
theorem dX3_printNode_9 : decode cX3_printNode 9 = .ok (.iload_n 1, 1) := by decide +kernel
theorem dX3_printNode_10 : decode cX3_printNode 10 = .ok (.invokevirtual 103, 3) := by decide +kernel
theorem dX3_printNode_13 : decode cX3_printNode 13 = .ok (.istore_n 3, 1) := by decide +kernel
theorem dX3_printNode_14 : decode cX3_printNode 14 = .ok (.aload_n 2, 1) := by decide +kernel
theorem dX3_printNode_15 : decode cX3_printNode 15 = .ok (.iload_n 1, 1) := by decide +kernel
theorem dX3_printNode_16 : decode cX3_printNode 16 = .ok (.invokevirtual 106, 3) := by decide +kernel
theorem dX3_printNode_19 : decode cX3_printNode 19 = .ok (.istore 4, 2) := by decide +kernel
theorem dX3_printNode_21 : decode cX3_printNode 21 = .ok (.aload_n 2, 1) := by decide +kernel
theorem dX3_printNode_22 : decode cX3_printNode 22 = .ok (.iload_n 1, 1) := by decide +kernel
theorem dX3_printNode_23 : decode cX3_printNode 23 = .ok (.invokevirtual 107, 3) := by decide +kernel
theorem dX3_printNode_26 : decode cX3_printNode 26 = .ok (.istore 5, 2) := by decide +kernel
theorem dX3_printNode_28 : decode cX3_printNode 28 = .ok (.iload_n 3, 1) := by decide +kernel
theorem dX3_printNode_29 : decode cX3_printNode 29 = .ok (.tableswitch 177 0 7 #[47, 63, 73, 145, 177, 177, 83, 83], 47) := by decide +kernel
theorem dX3_printNode_76 : decode cX3_printNode 76 = .ok (.aload_n 0, 1) := by decide +kernel
theorem dX3_printNode_77 : decode cX3_printNode 77 = .ok (.aload_n 0, 1) := by decide +kernel
theorem dX3_printNode_78 : decode cX3_printNode 78 = .ok (.getfield 19, 3) := by decide +kernel
theorem dX3_printNode_81 : decode cX3_printNode 81 = .ok (.iload 4, 2) := by decide +kernel
theorem dX3_printNode_83 : decode cX3_printNode 83 = .ok (.invokevirtual 108, 3) := by decide +kernel
theorem dX3_printNode_86 : decode cX3_printNode 86 = .ok (.invokevirtual 42, 3) := by decide +kernel
theorem dX3_printNode_89 : decode cX3_printNode 89 = .ok (.goto 170, 3) := by decide +kernel
theorem dX3_printNode_92 : decode cX3_printNode 92 = .ok (.aload_n 0, 1) := by decide +kernel
theorem dX3_printNode_93 : decode cX3_printNode 93 = .ok (.ldc2_w 111, 3) := by decide +kernel
theorem dX3_printNode_96 : decode cX3_printNode 96 = .ok (.invokevirtual 42, 3) := by decide +kernel
theorem dX3_printNode_99 : decode cX3_printNode 99 = .ok (.goto 160, 3) := by decide +kernel
theorem dX3_printNode_102 : decode cX3_printNode 102 = .ok (.aload_n 0, 1) := by decide +kernel
theorem dX3_printNode_103 : decode cX3_printNode 103 = .ok (.ldc2_w 113, 3) := by decide +kernel
theorem dX3_printNode_106 : decode cX3_printNode 106 = .ok (.invokevirtual 42, 3) := by decide +kernel
theorem dX3_printNode_109 : decode cX3_printNode 109 = .ok (.goto 150, 3) := by decide +kernel
theorem dX3_printNode_112 : decode cX3_printNode 112 = .ok (.aload_n 0, 1) := by decide +kernel
theorem dX3_printNode_113 : decode cX3_printNode 113 = .ok (.iload 5, 2) := by decide +kernel
theorem dX3_printNode_115 : decode cX3_printNode 115 = .ok (.aload_n 2, 1) := by decide +kernel
theorem dX3_printNode_116 : decode cX3_printNode 116 = .ok (.iload 5, 2) := by decide +kernel
theorem dX3_printNode_118 : decode cX3_printNode 118 = .ok (.invokevirtual 103, 3) := by decide +kernel
theorem dX3_printNode_121 : decode cX3_printNode 121 = .ok (.iload_n 3, 1) := by decide +kernel
theorem dX3_printNode_122 : decode cX3_printNode 122 = .ok (.if_icmp .lt 7, 3) := by decide +kernel
theorem dX3_printNode_125 : decode cX3_printNode 125 = .ok (.iconst 1, 1) := by decide +kernel
theorem dX3_printNode_126 : decode cX3_printNode 126 = .ok (.goto 4, 3) := by decide +kernel
theorem dX3_printNode_129 : decode cX3_printNode 129 = .ok (.iconst 0, 1) := by decide +kernel
theorem dX3_printNode_130 : decode cX3_printNode 130 = .ok (.invokevirtual 115, 3) := by decide +kernel
theorem dX3_printNode_133 : decode cX3_printNode 133 = .ok (.aload_n 0, 1) := by decide +kernel
theorem dX3_printNode_134 : decode cX3_printNode 134 = .ok (.iload_n 3, 1) := by decide +kernel
theorem dX3_printNode_135 : decode cX3_printNode 135 = .ok (.bipush 6, 2) := by decide +kernel
theorem dX3_printNode_137 : decode cX3_printNode 137 = .ok (.if_icmp .ne 8, 3) := by decide +kernel
theorem dX3_printNode_140 : decode cX3_printNode 140 = .ok (.bipush (-3), 2) := by decide +kernel
theorem dX3_printNode_142 : decode cX3_printNode 142 = .ok (.goto 5, 3) := by decide +kernel
theorem dX3_printNode_145 : decode cX3_printNode 145 = .ok (.bipush (-4), 2) := by decide +kernel
theorem dX3_printNode_147 : decode cX3_printNode 147 = .ok (.invokevirtual 82, 3) := by decide +kernel
theorem dX3_printNode_150 : decode cX3_printNode 150 = .ok (.aload_n 0, 1) := by decide +kernel
theorem dX3_printNode_151 : decode cX3_printNode 151 = .ok (.iload 4, 2) := by decide +kernel
theorem dX3_printNode_153 : decode cX3_printNode 153 = .ok (.aload_n 2, 1) := by decide +kernel
theorem dX3_printNode_154 : decode cX3_printNode 154 = .ok (.iload 4, 2) := by decide +kernel
theorem dX3_printNode_156 : decode cX3_printNode 156 = .ok (.invokevirtual 103, 3) := by decide +kernel
theorem dX3_printNode_159 : decode cX3_printNode 159 = .ok (.iload_n 3, 1) := by decide +kernel
theorem dX3_printNode_160 : decode cX3_printNode 160 = .ok (.if_icmp .le 7, 3) := by decide +kernel
theorem dX3_printNode_163 : decode cX3_printNode 163 = .ok (.iconst 1, 1) := by decide +kernel
theorem dX3_printNode_164 : decode cX3_printNode 164 = .ok (.goto 4, 3) := by decide +kernel
theorem dX3_printNode_167 : decode cX3_printNode 167 = .ok (.iconst 0, 1) := by decide +kernel
theorem dX3_printNode_168 : decode cX3_printNode 168 = .ok (.invokevirtual 115, 3) := by decide +kernel
theorem dX3_printNode_171 : decode cX3_printNode 171 = .ok (.goto 88, 3) := by decide +kernel
theorem dX3_printNode_174 : decode cX3_printNode 174 = .ok (.aload_n 0, 1) := by decide +kernel
theorem dX3_printNode_175 : decode cX3_printNode 175 = .ok (.ldc2_w 119, 3) := by decide +kernel
theorem dX3_printNode_178 : decode cX3_printNode 178 = .ok (.invokevirtual 66, 3) := by decide +kernel
theorem dX3_printNode_181 : decode cX3_printNode 181 = .ok (.aload_n 0, 1) := by decide +kernel
theorem dX3_printNode_182 : decode cX3_printNode 182 = .ok (.iload 4, 2) := by decide +kernel
theorem dX3_printNode_184 : decode cX3_printNode 184 = .ok (.aload_n 2, 1) := by decide +kernel
theorem dX3_printNode_185 : decode cX3_printNode 185 = .ok (.iload 4, 2) := by decide +kernel
theorem dX3_printNode_187 : decode cX3_printNode 187 = .ok (.invokevirtual 103, 3) := by decide +kernel
theorem dX3_printNode_190 : decode cX3_printNode 190 = .ok (.bipush 6, 2) := by decide +kernel
theorem dX3_printNode_192 : decode cX3_printNode 192 = .ok (.if_icmp .lt 7, 3) := by decide +kernel
theorem dX3_printNode_195 : decode cX3_printNode 195 = .ok (.iconst 1, 1) := by decide +kernel
theorem dX3_printNode_196 : decode cX3_printNode 196 = .ok (.goto 4, 3) := by decide +kernel
theorem dX3_printNode_199 : decode cX3_printNode 199 = .ok (.iconst 0, 1) := by decide +kernel
theorem dX3_printNode_200 : decode cX3_printNode 200 = .ok (.invokevirtual 115, 3) := by decide +kernel
theorem dX3_printNode_203 : decode cX3_printNode 203 = .ok (.goto 56, 3) := by decide +kernel
theorem dX3_printNode_206 : decode cX3_printNode 206 = .ok (.aload_n 0, 1) := by decide +kernel
theorem dX3_printNode_207 : decode cX3_printNode 207 = .ok (.iload_n 3, 1) := by decide +kernel
theorem dX3_printNode_208 : decode cX3_printNode 208 = .ok (.iconst 4, 1) := by decide +kernel
theorem dX3_printNode_209 : decode cX3_printNode 209 = .ok (.if_icmp .ne 9, 3) := by decide +kernel
theorem dX3_printNode_212 : decode cX3_printNode 212 = .ok (.ldc2_w 121, 3) := by decide +kernel
theorem dX3_printNode_215 : decode cX3_printNode 215 = .ok (.goto 6, 3) := by decide +kernel
theorem dX3_printNode_218 : decode cX3_printNode 218 = .ok (.ldc2_w 123, 3) := by decide +kernel
theorem dX3_printNode_221 : decode cX3_printNode 221 = .ok (.invokevirtual 66, 3) := by decide +kernel
theorem dX3_printNode_224 : decode cX3_printNode 224 = .ok (.aload_n 0, 1) := by decide +kernel
theorem dX3_printNode_225 : decode cX3_printNode 225 = .ok (.aload_n 0, 1) := by decide +kernel
theorem dX3_printNode_226 : decode cX3_printNode 226 = .ok (.getfield 19, 3) := by decide +kernel
theorem dX3_printNode_229 : decode cX3_printNode 229 = .ok (.iload 5, 2) := by decide +kernel
theorem dX3_printNode_231 : decode cX3_printNode 231 = .ok (.invokevirtual 73, 3) := by decide +kernel
theorem dX3_printNode_234 : decode cX3_printNode 234 = .ok (.invokevirtual 66, 3) := by decide +kernel
theorem dX3_printNode_237 : decode cX3_printNode 237 = .ok (.aload_n 0, 1) := by decide +kernel
theorem dX3_printNode_238 : decode cX3_printNode 238 = .ok (.iload 4, 2) := by decide +kernel
theorem dX3_printNode_240 : decode cX3_printNode 240 = .ok (.aload_n 2, 1) := by decide +kernel
theorem dX3_printNode_241 : decode cX3_printNode 241 = .ok (.iload 4, 2) := by decide +kernel
theorem dX3_printNode_243 : decode cX3_printNode 243 = .ok (.invokevirtual 103, 3) := by decide +kernel
theorem dX3_printNode_246 : decode cX3_printNode 246 = .ok (.bipush 6, 2) := by decide +kernel
theorem dX3_printNode_248 : decode cX3_printNode 248 = .ok (.if_icmp .lt 7, 3) := by decide +kernel
theorem dX3_printNode_251 : decode cX3_printNode 251 = .ok (.iconst 1, 1) := by decide +kernel
theorem dX3_printNode_252 : decode cX3_printNode 252 = .ok (.goto 4, 3) := by decide +kernel
theorem dX3_printNode_255 : decode cX3_printNode 255 = .ok (.iconst 0, 1) := by decide +kernel
theorem dX3_printNode_256 : decode cX3_printNode 256 = .ok (.invokevirtual 115, 3) := by decide +kernel
theorem dX3_printNode_259 : decode cX3_printNode 259 = .ok (.return_, 1) := by decide +kernel
theorem dX3_awaitPart_0 : decode cX3_awaitPart 0 = .ok (.iload_n 2, 1) := by decide +kernel
theorem dX3_awaitPart_1 : decode cX3_awaitPart 1 = .ok (.ifCond .eq 9, 3) := by decide +kernel
theorem dX3_awaitPart_4 : decode cX3_awaitPart 4 = .ok (.aload_n 0, 1) := by decide +kernel
theorem dX3_awaitPart_5 : decode cX3_awaitPart 5 = .ok (.bipush (-2), 2) := by decide +kernel
theorem dX3_awaitPart_7 : decode cX3_awaitPart 7 = .ok (.invokevirtual 82, 3) := by decide +kernel
theorem dX3_awaitPart_10 : decode cX3_awaitPart 10 = .ok (.aload_n 0, 1) := by decide +kernel
theorem dX3_awaitPart_11 : decode cX3_awaitPart 11 = .ok (.iload_n 1, 1) := by decide +kernel
theorem dX3_awaitPart_12 : decode cX3_awaitPart 12 = .ok (.invokevirtual 82, 3) := by decide +kernel
theorem dX3_awaitPart_15 : decode cX3_awaitPart 15 = .ok (.iload_n 2, 1) := by decide +kernel
theorem dX3_awaitPart_16 : decode cX3_awaitPart 16 = .ok (.ifCond .eq 8, 3) := by decide +kernel
theorem dX3_awaitPart_19 : decode cX3_awaitPart 19 = .ok (.aload_n 0, 1) := by decide +kernel
theorem dX3_awaitPart_20 : decode cX3_awaitPart 20 = .ok (.iconst (-1), 1) := by decide +kernel
theorem dX3_awaitPart_21 : decode cX3_awaitPart 21 = .ok (.invokevirtual 82, 3) := by decide +kernel
theorem dX3_awaitPart_24 : decode cX3_awaitPart 24 = .ok (.return_, 1) := by decide +kernel
theorem dX3_await_0 : decode cX3_await 0 = .ok (.aload_n 0, 1) := by decide +kernel
theorem dX3_await_1 : decode cX3_await 1 = .ok (.getfield 79, 3) := by decide +kernel
theorem dX3_await_4 : decode cX3_await 4 = .ok (.ifCond .lt 33, 3) := by decide +kernel
theorem dX3_await_7 : decode cX3_await 7 = .ok (.aload_n 0, 1) := by decide +kernel
theorem dX3_await_8 : decode cX3_await 8 = .ok (.getfield 79, 3) := by decide +kernel
theorem dX3_await_11 : decode cX3_await 11 = .ok (.sipush 500, 3) := by decide +kernel
theorem dX3_await_14 : decode cX3_await 14 = .ok (.if_icmp .ge 23, 3) := by decide +kernel
theorem dX3_await_17 : decode cX3_await 17 = .ok (.aload_n 0, 1) := by decide +kernel
theorem dX3_await_18 : decode cX3_await 18 = .ok (.getfield 15, 3) := by decide +kernel
theorem dX3_await_21 : decode cX3_await 21 = .ok (.aload_n 0, 1) := by decide +kernel
theorem dX3_await_22 : decode cX3_await 22 = .ok (.getfield 79, 3) := by decide +kernel
theorem dX3_await_25 : decode cX3_await 25 = .ok (.iload_n 1, 1) := by decide +kernel
theorem dX3_await_26 : decode cX3_await 26 = .ok (.iastore, 1) := by decide +kernel
theorem dX3_await_27 : decode cX3_await 27 = .ok (.aload_n 0, 1) := by decide +kernel
theorem dX3_await_28 : decode cX3_await 28 = .ok (.dup, 1) := by decide +kernel
theorem dX3_await_29 : decode cX3_await 29 = .ok (.getfield 79, 3) := by decide +kernel
theorem dX3_await_32 : decode cX3_await 32 = .ok (.iconst 1, 1) := by decide +kernel
theorem dX3_await_33 : decode cX3_await 33 = .ok (.iadd, 1) := by decide +kernel
theorem dX3_await_34 : decode cX3_await 34 = .ok (.putfield 79, 3) := by decide +kernel
theorem dX3_await_37 : decode cX3_await 37 = .ok (.return_, 1) := by decide +kernel
theorem dX3_putJoint_0 : decode cX3_putJoint 0 = .ok (.aload_n 0, 1) := by decide +kernel
theorem dX3_putJoint_1 : decode cX3_putJoint 1 = .ok (.ldc2_w 60, 3) := by decide +kernel
theorem dX3_putJoint_4 : decode cX3_putJoint 4 = .ok (.invokevirtual 42, 3) := by decide +kernel
theorem dX3_putJoint_7 : decode cX3_putJoint 7 = .ok (.aload_n 0, 1) := by decide +kernel
theorem dX3_putJoint_8 : decode cX3_putJoint 8 = .ok (.lload_n 1, 1) := by decide +kernel
theorem dX3_putJoint_9 : decode cX3_putJoint 9 = .ok (.invokevirtual 66, 3) := by decide +kernel
theorem dX3_putJoint_12 : decode cX3_putJoint 12 = .ok (.return_, 1) := by decide +kernel
theorem dX3_putBehind_0 : decode cX3_putBehind 0 = .ok (.aload_n 0, 1) := by decide +kernel
theorem dX3_putBehind_1 : decode cX3_putBehind 1 = .ok (.lload_n 1, 1) := by decide +kernel
theorem dX3_putBehind_2 : decode cX3_putBehind 2 = .ok (.invokevirtual 42, 3) := by decide +kernel
theorem dX3_putBehind_5 : decode cX3_putBehind 5 = .ok (.aload_n 0, 1) := by decide +kernel
theorem dX3_putBehind_6 : decode cX3_putBehind 6 = .ok (.ldc2_w 60, 3) := by decide +kernel
theorem dX3_putBehind_9 : decode cX3_putBehind 9 = .ok (.invokevirtual 42, 3) := by decide +kernel
theorem dX3_putBehind_12 : decode cX3_putBehind 12 = .ok (.return_, 1) := by decide +kernel
theorem dX3_putWord_0 : decode cX3_putWord 0 = .ok (.bipush 56, 2) := by decide +kernel
theorem dX3_putWord_2 : decode cX3_putWord 2 = .ok (.istore_n 3, 1) := by decide +kernel
theorem dX3_putWord_3 : decode cX3_putWord 3 = .ok (.iload_n 3, 1) := by decide +kernel
theorem dX3_putWord_4 : decode cX3_putWord 4 = .ok (.ifCond .lt 58, 3) := by decide +kernel
theorem dX3_putWord_7 : decode cX3_putWord 7 = .ok (.lload_n 1, 1) := by decide +kernel
theorem dX3_putWord_8 : decode cX3_putWord 8 = .ok (.iload_n 3, 1) := by decide +kernel
theorem dX3_putWord_9 : decode cX3_putWord 9 = .ok (.lshr, 1) := by decide +kernel
theorem dX3_putWord_10 : decode cX3_putWord 10 = .ok (.ldc2_w 125, 3) := by decide +kernel
theorem dX3_putWord_13 : decode cX3_putWord 13 = .ok (.land, 1) := by decide +kernel
theorem dX3_putWord_14 : decode cX3_putWord 14 = .ok (.lstore 4, 2) := by decide +kernel
theorem dX3_putWord_16 : decode cX3_putWord 16 = .ok (.lload 4, 2) := by decide +kernel
theorem dX3_putWord_18 : decode cX3_putWord 18 = .ok (.lconst 0, 1) := by decide +kernel
theorem dX3_putWord_19 : decode cX3_putWord 19 = .ok (.lcmp, 1) := by decide +kernel
theorem dX3_putWord_20 : decode cX3_putWord 20 = .ok (.ifCond .eq 36, 3) := by decide +kernel
theorem dX3_putWord_23 : decode cX3_putWord 23 = .ok (.aload_n 0, 1) := by decide +kernel
theorem dX3_putWord_24 : decode cX3_putWord 24 = .ok (.getfield 23, 3) := by decide +kernel
theorem dX3_putWord_27 : decode cX3_putWord 27 = .ok (.sipush 2670, 3) := by decide +kernel
theorem dX3_putWord_30 : decode cX3_putWord 30 = .ok (.if_icmp .ge 26, 3) := by decide +kernel
theorem dX3_putWord_33 : decode cX3_putWord 33 = .ok (.aload_n 0, 1) := by decide +kernel
theorem dX3_putWord_34 : decode cX3_putWord 34 = .ok (.getfield 9, 3) := by decide +kernel
theorem dX3_putWord_37 : decode cX3_putWord 37 = .ok (.aload_n 0, 1) := by decide +kernel
theorem dX3_putWord_38 : decode cX3_putWord 38 = .ok (.getfield 23, 3) := by decide +kernel
theorem dX3_putWord_41 : decode cX3_putWord 41 = .ok (.lload 4, 2) := by decide +kernel
theorem dX3_putWord_43 : decode cX3_putWord 43 = .ok (.l2i, 1) := by decide +kernel
theorem dX3_putWord_44 : decode cX3_putWord 44 = .ok (.i2b, 1) := by decide +kernel
theorem dX3_putWord_45 : decode cX3_putWord 45 = .ok (.bastore, 1) := by decide +kernel
theorem dX3_putWord_46 : decode cX3_putWord 46 = .ok (.aload_n 0, 1) := by decide +kernel
theorem dX3_putWord_47 : decode cX3_putWord 47 = .ok (.dup, 1) := by decide +kernel
theorem dX3_putWord_48 : decode cX3_putWord 48 = .ok (.getfield 23, 3) := by decide +kernel
theorem dX3_putWord_51 : decode cX3_putWord 51 = .ok (.iconst 1, 1) := by decide +kernel
theorem dX3_putWord_52 : decode cX3_putWord 52 = .ok (.iadd, 1) := by decide +kernel
theorem dX3_putWord_53 : decode cX3_putWord 53 = .ok (.putfield 23, 3) := by decide +kernel
theorem dX3_putWord_56 : decode cX3_putWord 56 = .ok (.iinc 3 (-8), 3) := by decide +kernel
theorem dX3_putWord_59 : decode cX3_putWord 59 = .ok (.goto (-56), 3) := by decide +kernel
theorem dX3_putWord_62 : decode cX3_putWord 62 = .ok (.return_, 1) := by decide +kernel
theorem dX4_init_0 : decode cX4_init 0 = .ok (.aload_n 0, 1) := by decide +kernel
theorem dX4_init_1 : decode cX4_init 1 = .ok (.invokespecial 3, 3) := by decide +kernel
theorem dX4_init_4 : decode cX4_init 4 = .ok (.aload_n 0, 1) := by decide +kernel
theorem dX4_init_5 : decode cX4_init 5 = .ok (.iconst (-1), 1) := by decide +kernel
theorem dX4_init_6 : decode cX4_init 6 = .ok (.putfield 9, 3) := by decide +kernel
theorem dX4_init_9 : decode cX4_init 9 = .ok (.aload_n 0, 1) := by decide +kernel
theorem dX4_init_10 : decode cX4_init 10 = .ok (.new 15, 3) := by decide +kernel
theorem dX4_init_13 : decode cX4_init 13 = .ok (.dup, 1) := by decide +kernel
theorem dX4_init_14 : decode cX4_init 14 = .ok (.aload_n 1, 1) := by decide +kernel
theorem dX4_init_15 : decode cX4_init 15 = .ok (.invokespecial 17, 3) := by decide +kernel
theorem dX4_init_18 : decode cX4_init 18 = .ok (.putfield 20, 3) := by decide +kernel
theorem dX4_init_21 : decode cX4_init 21 = .ok (.aload_n 0, 1) := by decide +kernel
theorem dX4_init_22 : decode cX4_init 22 = .ok (.aload_n 2, 1) := by decide +kernel
theorem dX4_init_23 : decode cX4_init 23 = .ok (.putfield 24, 3) := by decide +kernel
theorem dX4_init_26 : decode cX4_init 26 = .ok (.aload_n 0, 1) := by decide +kernel
theorem dX4_init_27 : decode cX4_init 27 = .ok (.aload_n 2, 1) := by decide +kernel
theorem dX4_init_28 : decode cX4_init 28 = .ok (.getfield 28, 3) := by decide +kernel
theorem dX4_init_31 : decode cX4_init 31 = .ok (.putfield 34, 3) := by decide +kernel
theorem dX4_init_34 : decode cX4_init 34 = .ok (.return_, 1) := by decide +kernel
theorem dX4_takeIn_0 : decode cX4_takeIn 0 = .ok (.aload_n 0, 1) := by decide +kernel
theorem dX4_takeIn_1 : decode cX4_takeIn 1 = .ok (.aload_n 2, 1) := by decide +kernel
theorem dX4_takeIn_2 : decode cX4_takeIn 2 = .ok (.putfield 24, 3) := by decide +kernel
theorem dX4_takeIn_5 : decode cX4_takeIn 5 = .ok (.aload_n 0, 1) := by decide +kernel
theorem dX4_takeIn_6 : decode cX4_takeIn 6 = .ok (.aload_n 2, 1) := by decide +kernel
theorem dX4_takeIn_7 : decode cX4_takeIn 7 = .ok (.getfield 28, 3) := by decide +kernel
theorem dX4_takeIn_10 : decode cX4_takeIn 10 = .ok (.putfield 34, 3) := by decide +kernel
theorem dX4_takeIn_13 : decode cX4_takeIn 13 = .ok (.aload_n 0, 1) := by decide +kernel
theorem dX4_takeIn_14 : decode cX4_takeIn 14 = .ok (.getfield 24, 3) := by decide +kernel
theorem dX4_takeIn_17 : decode cX4_takeIn 17 = .ok (.invokevirtual 35, 3) := by decide +kernel
theorem dX4_takeIn_20 : decode cX4_takeIn 20 = .ok (.aload_n 0, 1) := by decide +kernel
theorem dX4_takeIn_21 : decode cX4_takeIn 21 = .ok (.iconst 0, 1) := by decide +kernel
theorem dX4_takeIn_22 : decode cX4_takeIn 22 = .ok (.putfield 38, 3) := by decide +kernel
theorem dX4_takeIn_25 : decode cX4_takeIn 25 = .ok (.aload_n 0, 1) := by decide +kernel
theorem dX4_takeIn_26 : decode cX4_takeIn 26 = .ok (.iconst (-1), 1) := by decide +kernel
theorem dX4_takeIn_27 : decode cX4_takeIn 27 = .ok (.putfield 9, 3) := by decide +kernel
theorem dX4_takeIn_30 : decode cX4_takeIn 30 = .ok (.aload_n 0, 1) := by decide +kernel
theorem dX4_takeIn_31 : decode cX4_takeIn 31 = .ok (.getfield 20, 3) := by decide +kernel
theorem dX4_takeIn_34 : decode cX4_takeIn 34 = .ok (.iload_n 1, 1) := by decide +kernel
theorem dX4_takeIn_35 : decode cX4_takeIn 35 = .ok (.invokevirtual 41, 3) := by decide +kernel
theorem dX4_takeIn_38 : decode cX4_takeIn 38 = .ok (.iconst 0, 1) := by decide +kernel
theorem dX4_takeIn_39 : decode cX4_takeIn 39 = .ok (.istore_n 3, 1) := by decide +kernel
theorem dX4_takeIn_40 : decode cX4_takeIn 40 = .ok (.iload_n 3, 1) := by decide +kernel
theorem dX4_takeIn_41 : decode cX4_takeIn 41 = .ok (.iload_n 1, 1) := by decide +kernel
theorem dX4_takeIn_42 : decode cX4_takeIn 42 = .ok (.if_icmp .gt 94, 3) := by decide +kernel
theorem dX4_takeIn_45 : decode cX4_takeIn 45 = .ok (.aload_n 0, 1) := by decide +kernel
theorem dX4_takeIn_46 : decode cX4_takeIn 46 = .ok (.getfield 38, 3) := by decide +kernel
theorem dX4_takeIn_49 : decode cX4_takeIn 49 = .ok (.ifCond .ne 87, 3) := by decide +kernel
theorem dX4_takeIn_52 : decode cX4_takeIn 52 = .ok (.aload_n 0, 1) := by decide +kernel
theorem dX4_takeIn_53 : decode cX4_takeIn 53 = .ok (.getfield 20, 3) := by decide +kernel
theorem dX4_takeIn_56 : decode cX4_takeIn 56 = .ok (.getfield 45, 3) := by decide +kernel
theorem dX4_takeIn_59 : decode cX4_takeIn 59 = .ok (.iconst 1, 1) := by decide +kernel
theorem dX4_takeIn_60 : decode cX4_takeIn 60 = .ok (.if_icmp .eq 76, 3) := by decide +kernel
theorem dX4_takeIn_63 : decode cX4_takeIn 63 = .ok (.aload_n 0, 1) := by decide +kernel
theorem dX4_takeIn_64 : decode cX4_takeIn 64 = .ok (.getfield 20, 3) := by decide +kernel
theorem dX4_takeIn_67 : decode cX4_takeIn 67 = .ok (.getfield 48, 3) := by decide +kernel
theorem dX4_takeIn_70 : decode cX4_takeIn 70 = .ok (.ldc2_w 52, 3) := by decide +kernel
theorem dX4_takeIn_73 : decode cX4_takeIn 73 = .ok (.lcmp, 1) := by decide +kernel
theorem dX4_takeIn_74 : decode cX4_takeIn 74 = .ok (.ifCond .ne 10, 3) := by decide +kernel
theorem dX4_takeIn_77 : decode cX4_takeIn 77 = .ok (.aload_n 0, 1) := by decide +kernel
theorem dX4_takeIn_78 : decode cX4_takeIn 78 = .ok (.invokevirtual 54, 3) := by decide +kernel
theorem dX4_takeIn_81 : decode cX4_takeIn 81 = .ok (.goto 49, 3) := by decide +kernel
theorem dX4_takeIn_84 : decode cX4_takeIn 84 = .ok (.aload_n 0, 1) := by decide +kernel
theorem dX4_takeIn_85 : decode cX4_takeIn 85 = .ok (.getfield 20, 3) := by decide +kernel
theorem dX4_takeIn_88 : decode cX4_takeIn 88 = .ok (.getfield 48, 3) := by decide +kernel
theorem dX4_takeIn_91 : decode cX4_takeIn 91 = .ok (.ldc2_w 57, 3) := by decide +kernel
theorem dX4_takeIn_94 : decode cX4_takeIn 94 = .ok (.lcmp, 1) := by decide +kernel
theorem dX4_takeIn_95 : decode cX4_takeIn 95 = .ok (.ifCond .ne 10, 3) := by decide +kernel
theorem dX4_takeIn_98 : decode cX4_takeIn 98 = .ok (.aload_n 0, 1) := by decide +kernel
theorem dX4_takeIn_99 : decode cX4_takeIn 99 = .ok (.invokevirtual 59, 3) := by decide +kernel
theorem dX4_takeIn_102 : decode cX4_takeIn 102 = .ok (.goto 28, 3) := by decide +kernel
theorem dX4_takeIn_105 : decode cX4_takeIn 105 = .ok (.aload_n 0, 1) := by decide +kernel
theorem dX4_takeIn_106 : decode cX4_takeIn 106 = .ok (.getfield 20, 3) := by decide +kernel
theorem dX4_takeIn_109 : decode cX4_takeIn 109 = .ok (.getfield 48, 3) := by decide +kernel
theorem dX4_takeIn_112 : decode cX4_takeIn 112 = .ok (.ldc2_w 62, 3) := by decide +kernel
theorem dX4_takeIn_115 : decode cX4_takeIn 115 = .ok (.lcmp, 1) := by decide +kernel
theorem dX4_takeIn_116 : decode cX4_takeIn 116 = .ok (.ifCond .ne 10, 3) := by decide +kernel
theorem dX4_takeIn_119 : decode cX4_takeIn 119 = .ok (.aload_n 0, 1) := by decide +kernel
theorem dX4_takeIn_120 : decode cX4_takeIn 120 = .ok (.invokevirtual 64, 3) := by decide +kernel
theorem dX4_takeIn_123 : decode cX4_takeIn 123 = .ok (.goto 7, 3) := by decide +kernel
theorem dX4_takeIn_126 : decode cX4_takeIn 126 = .ok (.aload_n 0, 1) := by decide +kernel
theorem dX4_takeIn_127 : decode cX4_takeIn 127 = .ok (.invokevirtual 67, 3) := by decide +kernel
theorem dX4_takeIn_130 : decode cX4_takeIn 130 = .ok (.iinc 3 1, 3) := by decide +kernel
theorem dX4_takeIn_133 : decode cX4_takeIn 133 = .ok (.goto (-93), 3) := by decide +kernel
theorem dX4_takeIn_136 : decode cX4_takeIn 136 = .ok (.aload_n 0, 1) := by decide +kernel
theorem dX4_takeIn_137 : decode cX4_takeIn 137 = .ok (.getfield 38, 3) := by decide +kernel
theorem dX4_takeIn_140 : decode cX4_takeIn 140 = .ok (.ifCond .ne 7, 3) := by decide +kernel
theorem dX4_takeIn_143 : decode cX4_takeIn 143 = .ok (.iconst 1, 1) := by decide +kernel
theorem dX4_takeIn_144 : decode cX4_takeIn 144 = .ok (.goto 4, 3) := by decide +kernel
theorem dX4_takeIn_147 : decode cX4_takeIn 147 = .ok (.iconst 0, 1) := by decide +kernel
theorem dX4_takeIn_148 : decode cX4_takeIn 148 = .ok (.ireturn, 1) := by decide +kernel
theorem dX4_fail_0 : decode cX4_fail 0 = .ok (.aload_n 0, 1) := by decide +kernel
theorem dX4_fail_1 : decode cX4_fail 1 = .ok (.iload_n 1, 1) := by decide +kernel
theorem dX4_fail_2 : decode cX4_fail 2 = .ok (.putfield 38, 3) := by decide +kernel
theorem dX4_fail_5 : decode cX4_fail 5 = .ok (.aload_n 0, 1) := by decide +kernel
theorem dX4_fail_6 : decode cX4_fail 6 = .ok (.iload_n 2, 1) := by decide +kernel
theorem dX4_fail_7 : decode cX4_fail 7 = .ok (.putfield 9, 3) := by decide +kernel
theorem dX4_fail_10 : decode cX4_fail 10 = .ok (.iconst (-1), 1) := by decide +kernel
theorem dX4_fail_11 : decode cX4_fail 11 = .ok (.ireturn, 1) := by decide +kernel
theorem dX4_failHere_0 : decode cX4_failHere 0 = .ok (.aload_n 0, 1) := by decide +kernel
theorem dX4_failHere_1 : decode cX4_failHere 1 = .ok (.iload_n 1, 1) := by decide +kernel
theorem dX4_failHere_2 : decode cX4_failHere 2 = .ok (.aload_n 0, 1) := by decide +kernel
theorem dX4_failHere_3 : decode cX4_failHere 3 = .ok (.getfield 20, 3) := by decide +kernel
theorem dX4_failHere_6 : decode cX4_failHere 6 = .ok (.getfield 70, 3) := by decide +kernel
theorem dX4_failHere_9 : decode cX4_failHere 9 = .ok (.invokevirtual 73, 3) := by decide +kernel
theorem dX4_failHere_12 : decode cX4_failHere 12 = .ok (.ireturn, 1) := by decide +kernel
theorem dX4_misplaced_0 : decode cX4_misplaced 0 = .ok (.aload_n 0, 1) := by decide +kernel
theorem dX4_misplaced_1 : decode cX4_misplaced 1 = .ok (.aload_n 0, 1) := by decide +kernel
theorem dX4_misplaced_2 : decode cX4_misplaced 2 = .ok (.getfield 20, 3) := by decide +kernel
theorem dX4_misplaced_5 : decode cX4_misplaced 5 = .ok (.getfield 45, 3) := by decide +kernel
theorem dX4_misplaced_8 : decode cX4_misplaced 8 = .ok (.ifCond .ne 7, 3) := by decide +kernel
theorem dX4_misplaced_11 : decode cX4_misplaced 11 = .ok (.iconst 1, 1) := by decide +kernel
theorem dX4_misplaced_12 : decode cX4_misplaced 12 = .ok (.goto 4, 3) := by decide +kernel
theorem dX4_misplaced_15 : decode cX4_misplaced 15 = .ok (.iconst 2, 1) := by decide +kernel
theorem dX4_misplaced_16 : decode cX4_misplaced 16 = .ok (.invokevirtual 77, 3) := by decide +kernel
theorem dX4_misplaced_19 : decode cX4_misplaced 19 = .ok (.ireturn, 1) := by decide +kernel
theorem dX4_takeEnd_0 : decode cX4_takeEnd 0 = .ok (.aload_n 0, 1) := by decide +kernel
theorem dX4_takeEnd_1 : decode cX4_takeEnd 1 = .ok (.getfield 20, 3) := by decide +kernel
theorem dX4_takeEnd_4 : decode cX4_takeEnd 4 = .ok (.getfield 48, 3) := by decide +kernel
theorem dX4_takeEnd_7 : decode cX4_takeEnd 7 = .ok (.ldc2_w 81, 3) := by decide +kernel
theorem dX4_takeEnd_10 : decode cX4_takeEnd 10 = .ok (.lcmp, 1) := by decide +kernel
theorem dX4_takeEnd_11 : decode cX4_takeEnd 11 = .ok (.ifCond .eq 10, 3) := by decide +kernel
theorem dX4_takeEnd_14 : decode cX4_takeEnd 14 = .ok (.aload_n 0, 1) := by decide +kernel
theorem dX4_takeEnd_15 : decode cX4_takeEnd 15 = .ok (.invokevirtual 83, 3) := by decide +kernel
theorem dX4_takeEnd_18 : decode cX4_takeEnd 18 = .ok (.pop, 1) := by decide +kernel
theorem dX4_takeEnd_19 : decode cX4_takeEnd 19 = .ok (.iconst 0, 1) := by decide +kernel
theorem dX4_takeEnd_20 : decode cX4_takeEnd 20 = .ok (.ireturn, 1) := by decide +kernel
theorem dX4_takeEnd_21 : decode cX4_takeEnd 21 = .ok (.aload_n 0, 1) := by decide +kernel
theorem dX4_takeEnd_22 : decode cX4_takeEnd 22 = .ok (.getfield 20, 3) := by decide +kernel
theorem dX4_takeEnd_25 : decode cX4_takeEnd 25 = .ok (.invokevirtual 87, 3) := by decide +kernel
theorem dX4_takeEnd_28 : decode cX4_takeEnd 28 = .ok (.iconst 1, 1) := by decide +kernel
theorem dX4_takeEnd_29 : decode cX4_takeEnd 29 = .ok (.ireturn, 1) := by decide +kernel
theorem dX4_takeRule_0 : decode cX4_takeRule 0 = .ok (.aload_n 0, 1) := by decide +kernel
theorem dX4_takeRule_1 : decode cX4_takeRule 1 = .ok (.getfield 20, 3) := by decide +kernel
theorem dX4_takeRule_4 : decode cX4_takeRule 4 = .ok (.invokevirtual 90, 3) := by decide +kernel
theorem dX4_takeRule_7 : decode cX4_takeRule 7 = .ok (.ifCond .ne 9, 3) := by decide +kernel
theorem dX4_takeRule_10 : decode cX4_takeRule 10 = .ok (.aload_n 0, 1) := by decide +kernel
theorem dX4_takeRule_11 : decode cX4_takeRule 11 = .ok (.invokevirtual 83, 3) := by decide +kernel
theorem dX4_takeRule_14 : decode cX4_takeRule 14 = .ok (.pop, 1) := by decide +kernel
theorem dX4_takeRule_15 : decode cX4_takeRule 15 = .ok (.return_, 1) := by decide +kernel
theorem dX4_takeRule_16 : decode cX4_takeRule 16 = .ok (.aload_n 0, 1) := by decide +kernel
theorem dX4_takeRule_17 : decode cX4_takeRule 17 = .ok (.getfield 24, 3) := by decide +kernel
theorem dX4_takeRule_20 : decode cX4_takeRule 20 = .ok (.getfield 94, 3) := by decide +kernel
theorem dX4_takeRule_23 : decode cX4_takeRule 23 = .ok (.bipush 12, 2) := by decide +kernel
theorem dX4_takeRule_25 : decode cX4_takeRule 25 = .ok (.if_icmp .lt 10, 3) := by decide +kernel
theorem dX4_takeRule_28 : decode cX4_takeRule 28 = .ok (.aload_n 0, 1) := by decide +kernel
theorem dX4_takeRule_29 : decode cX4_takeRule 29 = .ok (.iconst 3, 1) := by decide +kernel
theorem dX4_takeRule_30 : decode cX4_takeRule 30 = .ok (.invokevirtual 77, 3) := by decide +kernel
theorem dX4_takeRule_33 : decode cX4_takeRule 33 = .ok (.pop, 1) := by decide +kernel
theorem dX4_takeRule_34 : decode cX4_takeRule 34 = .ok (.return_, 1) := by decide +kernel
theorem dX4_takeRule_35 : decode cX4_takeRule 35 = .ok (.aload_n 0, 1) := by decide +kernel
theorem dX4_takeRule_36 : decode cX4_takeRule 36 = .ok (.iconst 0, 1) := by decide +kernel
theorem dX4_takeRule_37 : decode cX4_takeRule 37 = .ok (.invokevirtual 97, 3) := by decide +kernel
theorem dX4_takeRule_40 : decode cX4_takeRule 40 = .ok (.istore_n 1, 1) := by decide +kernel
theorem dX4_takeRule_41 : decode cX4_takeRule 41 = .ok (.iload_n 1, 1) := by decide +kernel
theorem dX4_takeRule_42 : decode cX4_takeRule 42 = .ok (.iconst (-1), 1) := by decide +kernel
theorem dX4_takeRule_43 : decode cX4_takeRule 43 = .ok (.if_icmp .ne 4, 3) := by decide +kernel
theorem dX4_takeRule_46 : decode cX4_takeRule 46 = .ok (.return_, 1) := by decide +kernel
theorem dX4_takeRule_47 : decode cX4_takeRule 47 = .ok (.aload_n 0, 1) := by decide +kernel
theorem dX4_takeRule_48 : decode cX4_takeRule 48 = .ok (.getfield 20, 3) := by decide +kernel
theorem dX4_takeRule_51 : decode cX4_takeRule 51 = .ok (.getfield 48, 3) := by decide +kernel
theorem dX4_takeRule_54 : decode cX4_takeRule 54 = .ok (.ldc2_w 100, 3) := by decide +kernel
theorem dX4_takeRule_57 : decode cX4_takeRule 57 = .ok (.lcmp, 1) := by decide +kernel
theorem dX4_takeRule_58 : decode cX4_takeRule 58 = .ok (.ifCond .eq 23, 3) := by decide +kernel
theorem dX4_takeRule_61 : decode cX4_takeRule 61 = .ok (.aload_n 0, 1) := by decide +kernel
theorem dX4_takeRule_62 : decode cX4_takeRule 62 = .ok (.getfield 20, 3) := by decide +kernel
theorem dX4_takeRule_65 : decode cX4_takeRule 65 = .ok (.getfield 48, 3) := by decide +kernel
theorem dX4_takeRule_68 : decode cX4_takeRule 68 = .ok (.ldc2_w 102, 3) := by decide +kernel
theorem dX4_takeRule_71 : decode cX4_takeRule 71 = .ok (.lcmp, 1) := by decide +kernel
theorem dX4_takeRule_72 : decode cX4_takeRule 72 = .ok (.ifCond .eq 9, 3) := by decide +kernel
theorem dX4_takeRule_75 : decode cX4_takeRule 75 = .ok (.aload_n 0, 1) := by decide +kernel
theorem dX4_takeRule_76 : decode cX4_takeRule 76 = .ok (.invokevirtual 83, 3) := by decide +kernel
theorem dX4_takeRule_79 : decode cX4_takeRule 79 = .ok (.pop, 1) := by decide +kernel
theorem dX4_takeRule_80 : decode cX4_takeRule 80 = .ok (.return_, 1) := by decide +kernel
theorem dX4_takeRule_81 : decode cX4_takeRule 81 = .ok (.aload_n 0, 1) := by decide +kernel
theorem dX4_takeRule_82 : decode cX4_takeRule 82 = .ok (.getfield 20, 3) := by decide +kernel
theorem dX4_takeRule_85 : decode cX4_takeRule 85 = .ok (.getfield 48, 3) := by decide +kernel
theorem dX4_takeRule_88 : decode cX4_takeRule 88 = .ok (.ldc2_w 100, 3) := by decide +kernel
theorem dX4_takeRule_91 : decode cX4_takeRule 91 = .ok (.lcmp, 1) := by decide +kernel
theorem dX4_takeRule_92 : decode cX4_takeRule 92 = .ok (.ifCond .ne 7, 3) := by decide +kernel
theorem dX4_takeRule_95 : decode cX4_takeRule 95 = .ok (.iconst 0, 1) := by decide +kernel
theorem dX4_takeRule_96 : decode cX4_takeRule 96 = .ok (.goto 4, 3) := by decide +kernel
theorem dX4_takeRule_99 : decode cX4_takeRule 99 = .ok (.iconst 1, 1) := by decide +kernel
theorem dX4_takeRule_100 : decode cX4_takeRule 100 = .ok (.istore_n 2, 1) := by decide +kernel
theorem dX4_takeRule_101 : decode cX4_takeRule 101 = .ok (.aload_n 0, 1) := by decide +kernel
theorem dX4_takeRule_102 : decode cX4_takeRule 102 = .ok (.getfield 20, 3) := by decide +kernel
theorem dX4_takeRule_105 : decode cX4_takeRule 105 = .ok (.invokevirtual 87, 3) := by decide +kernel
theorem dX4_takeRule_108 : decode cX4_takeRule 108 = .ok (.aload_n 0, 1) := by decide +kernel
theorem dX4_takeRule_109 : decode cX4_takeRule 109 = .ok (.iconst 0, 1) := by decide +kernel
theorem dX4_takeRule_110 : decode cX4_takeRule 110 = .ok (.invokevirtual 97, 3) := by decide +kernel
theorem dX4_takeRule_113 : decode cX4_takeRule 113 = .ok (.istore_n 3, 1) := by decide +kernel
theorem dX4_takeRule_114 : decode cX4_takeRule 114 = .ok (.iload_n 3, 1) := by decide +kernel
theorem dX4_takeRule_115 : decode cX4_takeRule 115 = .ok (.iconst (-1), 1) := by decide +kernel
theorem dX4_takeRule_116 : decode cX4_takeRule 116 = .ok (.if_icmp .eq 20, 3) := by decide +kernel
theorem dX4_takeRule_119 : decode cX4_takeRule 119 = .ok (.aload_n 0, 1) := by decide +kernel
theorem dX4_takeRule_120 : decode cX4_takeRule 120 = .ok (.invokevirtual 104, 3) := by decide +kernel
theorem dX4_takeRule_123 : decode cX4_takeRule 123 = .ok (.ifCond .eq 13, 3) := by decide +kernel
theorem dX4_takeRule_126 : decode cX4_takeRule 126 = .ok (.aload_n 0, 1) := by decide +kernel
theorem dX4_takeRule_127 : decode cX4_takeRule 127 = .ok (.getfield 24, 3) := by decide +kernel
theorem dX4_takeRule_130 : decode cX4_takeRule 130 = .ok (.iload_n 2, 1) := by decide +kernel
theorem dX4_takeRule_131 : decode cX4_takeRule 131 = .ok (.iload_n 1, 1) := by decide +kernel
theorem dX4_takeRule_132 : decode cX4_takeRule 132 = .ok (.iload_n 3, 1) := by decide +kernel
theorem dX4_takeRule_133 : decode cX4_takeRule 133 = .ok (.invokevirtual 107, 3) := by decide +kernel
theorem dX4_takeRule_136 : decode cX4_takeRule 136 = .ok (.return_, 1) := by decide +kernel
theorem dX4_takeQuestion_0 : decode cX4_takeQuestion 0 = .ok (.aload_n 0, 1) := by decide +kernel
theorem dX4_takeQuestion_1 : decode cX4_takeQuestion 1 = .ok (.getfield 24, 3) := by decide +kernel
theorem dX4_takeQuestion_4 : decode cX4_takeQuestion 4 = .ok (.getfield 111, 3) := by decide +kernel
theorem dX4_takeQuestion_7 : decode cX4_takeQuestion 7 = .ok (.bipush 12, 2) := by decide +kernel
theorem dX4_takeQuestion_9 : decode cX4_takeQuestion 9 = .ok (.if_icmp .lt 10, 3) := by decide +kernel
theorem dX4_takeQuestion_12 : decode cX4_takeQuestion 12 = .ok (.aload_n 0, 1) := by decide +kernel
theorem dX4_takeQuestion_13 : decode cX4_takeQuestion 13 = .ok (.iconst 3, 1) := by decide +kernel
theorem dX4_takeQuestion_14 : decode cX4_takeQuestion 14 = .ok (.invokevirtual 77, 3) := by decide +kernel
theorem dX4_takeQuestion_17 : decode cX4_takeQuestion 17 = .ok (.pop, 1) := by decide +kernel
theorem dX4_takeQuestion_18 : decode cX4_takeQuestion 18 = .ok (.return_, 1) := by decide +kernel
theorem dX4_takeQuestion_19 : decode cX4_takeQuestion 19 = .ok (.aload_n 0, 1) := by decide +kernel
theorem dX4_takeQuestion_20 : decode cX4_takeQuestion 20 = .ok (.getfield 20, 3) := by decide +kernel
theorem dX4_takeQuestion_23 : decode cX4_takeQuestion 23 = .ok (.invokevirtual 87, 3) := by decide +kernel
theorem dX4_takeQuestion_26 : decode cX4_takeQuestion 26 = .ok (.aload_n 0, 1) := by decide +kernel
theorem dX4_takeQuestion_27 : decode cX4_takeQuestion 27 = .ok (.iconst 0, 1) := by decide +kernel
theorem dX4_takeQuestion_28 : decode cX4_takeQuestion 28 = .ok (.invokevirtual 97, 3) := by decide +kernel
theorem dX4_takeQuestion_31 : decode cX4_takeQuestion 31 = .ok (.istore_n 1, 1) := by decide +kernel
theorem dX4_takeQuestion_32 : decode cX4_takeQuestion 32 = .ok (.iload_n 1, 1) := by decide +kernel
theorem dX4_takeQuestion_33 : decode cX4_takeQuestion 33 = .ok (.iconst (-1), 1) := by decide +kernel
theorem dX4_takeQuestion_34 : decode cX4_takeQuestion 34 = .ok (.if_icmp .eq 18, 3) := by decide +kernel
theorem dX4_takeQuestion_37 : decode cX4_takeQuestion 37 = .ok (.aload_n 0, 1) := by decide +kernel
theorem dX4_takeQuestion_38 : decode cX4_takeQuestion 38 = .ok (.invokevirtual 104, 3) := by decide +kernel
theorem dX4_takeQuestion_41 : decode cX4_takeQuestion 41 = .ok (.ifCond .eq 11, 3) := by decide +kernel
theorem dX4_takeQuestion_44 : decode cX4_takeQuestion 44 = .ok (.aload_n 0, 1) := by decide +kernel
theorem dX4_takeQuestion_45 : decode cX4_takeQuestion 45 = .ok (.getfield 24, 3) := by decide +kernel
theorem dX4_takeQuestion_48 : decode cX4_takeQuestion 48 = .ok (.iload_n 1, 1) := by decide +kernel
theorem dX4_takeQuestion_49 : decode cX4_takeQuestion 49 = .ok (.invokevirtual 114, 3) := by decide +kernel
theorem dX4_takeQuestion_52 : decode cX4_takeQuestion 52 = .ok (.return_, 1) := by decide +kernel
theorem dX4_takeOrder_0 : decode cX4_takeOrder 0 = .ok (.aload_n 0, 1) := by decide +kernel
theorem dX4_takeOrder_1 : decode cX4_takeOrder 1 = .ok (.getfield 20, 3) := by decide +kernel
theorem dX4_takeOrder_4 : decode cX4_takeOrder 4 = .ok (.invokevirtual 87, 3) := by decide +kernel
theorem dX4_takeOrder_7 : decode cX4_takeOrder 7 = .ok (.aload_n 0, 1) := by decide +kernel
theorem dX4_takeOrder_8 : decode cX4_takeOrder 8 = .ok (.getfield 20, 3) := by decide +kernel
theorem dX4_takeOrder_11 : decode cX4_takeOrder 11 = .ok (.getfield 70, 3) := by decide +kernel
theorem dX4_takeOrder_14 : decode cX4_takeOrder 14 = .ok (.istore_n 1, 1) := by decide +kernel
theorem dX4_takeOrder_15 : decode cX4_takeOrder 15 = .ok (.aload_n 0, 1) := by decide +kernel
theorem dX4_takeOrder_16 : decode cX4_takeOrder 16 = .ok (.invokevirtual 117, 3) := by decide +kernel
theorem dX4_takeOrder_19 : decode cX4_takeOrder 19 = .ok (.istore_n 2, 1) := by decide +kernel
theorem dX4_takeOrder_20 : decode cX4_takeOrder 20 = .ok (.iload_n 2, 1) := by decide +kernel
theorem dX4_takeOrder_21 : decode cX4_takeOrder 21 = .ok (.iconst (-1), 1) := by decide +kernel
theorem dX4_takeOrder_22 : decode cX4_takeOrder 22 = .ok (.if_icmp .ne 4, 3) := by decide +kernel
theorem dX4_takeOrder_25 : decode cX4_takeOrder 25 = .ok (.return_, 1) := by decide +kernel
theorem dX4_takeOrder_26 : decode cX4_takeOrder 26 = .ok (.aload_n 0, 1) := by decide +kernel
theorem dX4_takeOrder_27 : decode cX4_takeOrder 27 = .ok (.getfield 24, 3) := by decide +kernel
theorem dX4_takeOrder_30 : decode cX4_takeOrder 30 = .ok (.iload_n 2, 1) := by decide +kernel
theorem dX4_takeOrder_31 : decode cX4_takeOrder 31 = .ok (.invokevirtual 120, 3) := by decide +kernel
theorem dX4_takeOrder_34 : decode cX4_takeOrder 34 = .ok (.ifCond .eq 12, 3) := by decide +kernel
theorem dX4_takeOrder_37 : decode cX4_takeOrder 37 = .ok (.aload_n 0, 1) := by decide +kernel
theorem dX4_takeOrder_38 : decode cX4_takeOrder 38 = .ok (.bipush 6, 2) := by decide +kernel
theorem dX4_takeOrder_40 : decode cX4_takeOrder 40 = .ok (.iload_n 1, 1) := by decide +kernel
theorem dX4_takeOrder_41 : decode cX4_takeOrder 41 = .ok (.invokevirtual 73, 3) := by decide +kernel
theorem dX4_takeOrder_44 : decode cX4_takeOrder 44 = .ok (.pop, 1) := by decide +kernel
theorem dX4_takeOrder_45 : decode cX4_takeOrder 45 = .ok (.return_, 1) := by decide +kernel
theorem dX4_takeOrder_46 : decode cX4_takeOrder 46 = .ok (.aload_n 0, 1) := by decide +kernel
theorem dX4_takeOrder_47 : decode cX4_takeOrder 47 = .ok (.getfield 20, 3) := by decide +kernel
theorem dX4_takeOrder_50 : decode cX4_takeOrder 50 = .ok (.getfield 70, 3) := by decide +kernel
theorem dX4_takeOrder_53 : decode cX4_takeOrder 53 = .ok (.istore_n 1, 1) := by decide +kernel
theorem dX4_takeOrder_54 : decode cX4_takeOrder 54 = .ok (.aload_n 0, 1) := by decide +kernel
theorem dX4_takeOrder_55 : decode cX4_takeOrder 55 = .ok (.invokevirtual 117, 3) := by decide +kernel
theorem dX4_takeOrder_58 : decode cX4_takeOrder 58 = .ok (.istore_n 3, 1) := by decide +kernel
theorem dX4_takeOrder_59 : decode cX4_takeOrder 59 = .ok (.iload_n 3, 1) := by decide +kernel
theorem dX4_takeOrder_60 : decode cX4_takeOrder 60 = .ok (.iconst (-1), 1) := by decide +kernel
theorem dX4_takeOrder_61 : decode cX4_takeOrder 61 = .ok (.if_icmp .ne 4, 3) := by decide +kernel
theorem dX4_takeOrder_64 : decode cX4_takeOrder 64 = .ok (.return_, 1) := by decide +kernel
theorem dX4_takeOrder_65 : decode cX4_takeOrder 65 = .ok (.iload_n 3, 1) := by decide +kernel
theorem dX4_takeOrder_66 : decode cX4_takeOrder 66 = .ok (.iload_n 2, 1) := by decide +kernel
theorem dX4_takeOrder_67 : decode cX4_takeOrder 67 = .ok (.if_icmp .eq 26, 3) := by decide +kernel
theorem dX4_takeOrder_70 : decode cX4_takeOrder 70 = .ok (.aload_n 0, 1) := by decide +kernel
theorem dX4_takeOrder_71 : decode cX4_takeOrder 71 = .ok (.getfield 24, 3) := by decide +kernel
theorem dX4_takeOrder_74 : decode cX4_takeOrder 74 = .ok (.iload_n 3, 1) := by decide +kernel
theorem dX4_takeOrder_75 : decode cX4_takeOrder 75 = .ok (.invokevirtual 120, 3) := by decide +kernel
theorem dX4_takeOrder_78 : decode cX4_takeOrder 78 = .ok (.ifCond .ne 15, 3) := by decide +kernel
theorem dX4_takeOrder_81 : decode cX4_takeOrder 81 = .ok (.aload_n 0, 1) := by decide +kernel
theorem dX4_takeOrder_82 : decode cX4_takeOrder 82 = .ok (.getfield 24, 3) := by decide +kernel
theorem dX4_takeOrder_85 : decode cX4_takeOrder 85 = .ok (.iload_n 3, 1) := by decide +kernel
theorem dX4_takeOrder_86 : decode cX4_takeOrder 86 = .ok (.iload_n 2, 1) := by decide +kernel
theorem dX4_takeOrder_87 : decode cX4_takeOrder 87 = .ok (.invokevirtual 124, 3) := by decide +kernel
theorem dX4_takeOrder_90 : decode cX4_takeOrder 90 = .ok (.ifCond .eq 14, 3) := by decide +kernel
theorem dX4_takeOrder_93 : decode cX4_takeOrder 93 = .ok (.aload_n 0, 1) := by decide +kernel
theorem dX4_takeOrder_94 : decode cX4_takeOrder 94 = .ok (.bipush 6, 2) := by decide +kernel
theorem dX4_takeOrder_96 : decode cX4_takeOrder 96 = .ok (.iload_n 1, 1) := by decide +kernel
theorem dX4_takeOrder_97 : decode cX4_takeOrder 97 = .ok (.invokevirtual 73, 3) := by decide +kernel
theorem dX4_takeOrder_100 : decode cX4_takeOrder 100 = .ok (.pop, 1) := by decide +kernel
theorem dX4_takeOrder_101 : decode cX4_takeOrder 101 = .ok (.goto 19, 3) := by decide +kernel
theorem dX4_takeOrder_104 : decode cX4_takeOrder 104 = .ok (.aload_n 0, 1) := by decide +kernel
theorem dX4_takeOrder_105 : decode cX4_takeOrder 105 = .ok (.invokevirtual 104, 3) := by decide +kernel
theorem dX4_takeOrder_108 : decode cX4_takeOrder 108 = .ok (.ifCond .eq 12, 3) := by decide +kernel
theorem dX4_takeOrder_111 : decode cX4_takeOrder 111 = .ok (.aload_n 0, 1) := by decide +kernel
theorem dX4_takeOrder_112 : decode cX4_takeOrder 112 = .ok (.getfield 24, 3) := by decide +kernel
theorem dX4_takeOrder_115 : decode cX4_takeOrder 115 = .ok (.iload_n 2, 1) := by decide +kernel
theorem dX4_takeOrder_116 : decode cX4_takeOrder 116 = .ok (.iload_n 3, 1) := by decide +kernel
theorem dX4_takeOrder_117 : decode cX4_takeOrder 117 = .ok (.invokevirtual 128, 3) := by decide +kernel
theorem dX4_takeOrder_120 : decode cX4_takeOrder 120 = .ok (.return_, 1) := by decide +kernel
theorem dX4_takeSingle_0 : decode cX4_takeSingle 0 = .ok (.aload_n 0, 1) := by decide +kernel
theorem dX4_takeSingle_1 : decode cX4_takeSingle 1 = .ok (.getfield 20, 3) := by decide +kernel
theorem dX4_takeSingle_4 : decode cX4_takeSingle 4 = .ok (.invokevirtual 87, 3) := by decide +kernel
theorem dX4_takeSingle_7 : decode cX4_takeSingle 7 = .ok (.aload_n 0, 1) := by decide +kernel
theorem dX4_takeSingle_8 : decode cX4_takeSingle 8 = .ok (.getfield 20, 3) := by decide +kernel
theorem dX4_takeSingle_11 : decode cX4_takeSingle 11 = .ok (.getfield 70, 3) := by decide +kernel
theorem dX4_takeSingle_14 : decode cX4_takeSingle 14 = .ok (.istore_n 1, 1) := by decide +kernel
theorem dX4_takeSingle_15 : decode cX4_takeSingle 15 = .ok (.aload_n 0, 1) := by decide +kernel
theorem dX4_takeSingle_16 : decode cX4_takeSingle 16 = .ok (.invokevirtual 117, 3) := by decide +kernel
theorem dX4_takeSingle_19 : decode cX4_takeSingle 19 = .ok (.istore_n 2, 1) := by decide +kernel
theorem dX4_takeSingle_20 : decode cX4_takeSingle 20 = .ok (.iload_n 2, 1) := by decide +kernel
theorem dX4_takeSingle_21 : decode cX4_takeSingle 21 = .ok (.iconst (-1), 1) := by decide +kernel
theorem dX4_takeSingle_22 : decode cX4_takeSingle 22 = .ok (.if_icmp .ne 4, 3) := by decide +kernel
theorem dX4_takeSingle_25 : decode cX4_takeSingle 25 = .ok (.return_, 1) := by decide +kernel
theorem dX4_takeSingle_26 : decode cX4_takeSingle 26 = .ok (.aload_n 0, 1) := by decide +kernel
theorem dX4_takeSingle_27 : decode cX4_takeSingle 27 = .ok (.getfield 24, 3) := by decide +kernel
theorem dX4_takeSingle_30 : decode cX4_takeSingle 30 = .ok (.iload_n 2, 1) := by decide +kernel
theorem dX4_takeSingle_31 : decode cX4_takeSingle 31 = .ok (.invokevirtual 132, 3) := by decide +kernel
theorem dX4_takeSingle_34 : decode cX4_takeSingle 34 = .ok (.ifCond .eq 14, 3) := by decide +kernel
theorem dX4_takeSingle_37 : decode cX4_takeSingle 37 = .ok (.aload_n 0, 1) := by decide +kernel
theorem dX4_takeSingle_38 : decode cX4_takeSingle 38 = .ok (.bipush 6, 2) := by decide +kernel
theorem dX4_takeSingle_40 : decode cX4_takeSingle 40 = .ok (.iload_n 1, 1) := by decide +kernel
theorem dX4_takeSingle_41 : decode cX4_takeSingle 41 = .ok (.invokevirtual 73, 3) := by decide +kernel
theorem dX4_takeSingle_44 : decode cX4_takeSingle 44 = .ok (.pop, 1) := by decide +kernel
theorem dX4_takeSingle_45 : decode cX4_takeSingle 45 = .ok (.goto 18, 3) := by decide +kernel
theorem dX4_takeSingle_48 : decode cX4_takeSingle 48 = .ok (.aload_n 0, 1) := by decide +kernel
theorem dX4_takeSingle_49 : decode cX4_takeSingle 49 = .ok (.invokevirtual 104, 3) := by decide +kernel
theorem dX4_takeSingle_52 : decode cX4_takeSingle 52 = .ok (.ifCond .eq 11, 3) := by decide +kernel
theorem dX4_takeSingle_55 : decode cX4_takeSingle 55 = .ok (.aload_n 0, 1) := by decide +kernel
theorem dX4_takeSingle_56 : decode cX4_takeSingle 56 = .ok (.getfield 24, 3) := by decide +kernel
theorem dX4_takeSingle_59 : decode cX4_takeSingle 59 = .ok (.iload_n 2, 1) := by decide +kernel
theorem dX4_takeSingle_60 : decode cX4_takeSingle 60 = .ok (.invokevirtual 135, 3) := by decide +kernel
theorem dX4_takeSingle_63 : decode cX4_takeSingle 63 = .ok (.return_, 1) := by decide +kernel
theorem dX4_takeRole_0 : decode cX4_takeRole 0 = .ok (.aload_n 0, 1) := by decide +kernel
theorem dX4_takeRole_1 : decode cX4_takeRole 1 = .ok (.getfield 20, 3) := by decide +kernel
theorem dX4_takeRole_4 : decode cX4_takeRole 4 = .ok (.getfield 45, 3) := by decide +kernel
theorem dX4_takeRole_7 : decode cX4_takeRole 7 = .ok (.iconst 4, 1) := by decide +kernel
theorem dX4_takeRole_8 : decode cX4_takeRole 8 = .ok (.if_icmp .eq 8, 3) := by decide +kernel
theorem dX4_takeRole_11 : decode cX4_takeRole 11 = .ok (.aload_n 0, 1) := by decide +kernel
theorem dX4_takeRole_12 : decode cX4_takeRole 12 = .ok (.invokevirtual 83, 3) := by decide +kernel
theorem dX4_takeRole_15 : decode cX4_takeRole 15 = .ok (.ireturn, 1) := by decide +kernel
theorem dX4_takeRole_16 : decode cX4_takeRole 16 = .ok (.aload_n 0, 1) := by decide +kernel
theorem dX4_takeRole_17 : decode cX4_takeRole 17 = .ok (.getfield 24, 3) := by decide +kernel
theorem dX4_takeRole_20 : decode cX4_takeRole 20 = .ok (.aload_n 0, 1) := by decide +kernel
theorem dX4_takeRole_21 : decode cX4_takeRole 21 = .ok (.getfield 20, 3) := by decide +kernel
theorem dX4_takeRole_24 : decode cX4_takeRole 24 = .ok (.getfield 48, 3) := by decide +kernel
theorem dX4_takeRole_27 : decode cX4_takeRole 27 = .ok (.invokevirtual 138, 3) := by decide +kernel
theorem dX4_takeRole_30 : decode cX4_takeRole 30 = .ok (.istore_n 1, 1) := by decide +kernel
theorem dX4_takeRole_31 : decode cX4_takeRole 31 = .ok (.iload_n 1, 1) := by decide +kernel
theorem dX4_takeRole_32 : decode cX4_takeRole 32 = .ok (.iconst (-1), 1) := by decide +kernel
theorem dX4_takeRole_33 : decode cX4_takeRole 33 = .ok (.if_icmp .ne 27, 3) := by decide +kernel
theorem dX4_takeRole_36 : decode cX4_takeRole 36 = .ok (.aload_n 0, 1) := by decide +kernel
theorem dX4_takeRole_37 : decode cX4_takeRole 37 = .ok (.getfield 24, 3) := by decide +kernel
theorem dX4_takeRole_40 : decode cX4_takeRole 40 = .ok (.aload_n 0, 1) := by decide +kernel
theorem dX4_takeRole_41 : decode cX4_takeRole 41 = .ok (.getfield 20, 3) := by decide +kernel
theorem dX4_takeRole_44 : decode cX4_takeRole 44 = .ok (.getfield 48, 3) := by decide +kernel
theorem dX4_takeRole_47 : decode cX4_takeRole 47 = .ok (.invokevirtual 142, 3) := by decide +kernel
theorem dX4_takeRole_50 : decode cX4_takeRole 50 = .ok (.iconst (-1), 1) := by decide +kernel
theorem dX4_takeRole_51 : decode cX4_takeRole 51 = .ok (.if_icmp .eq 9, 3) := by decide +kernel
theorem dX4_takeRole_54 : decode cX4_takeRole 54 = .ok (.aload_n 0, 1) := by decide +kernel
theorem dX4_takeRole_55 : decode cX4_takeRole 55 = .ok (.iconst 4, 1) := by decide +kernel
theorem dX4_takeRole_56 : decode cX4_takeRole 56 = .ok (.invokevirtual 77, 3) := by decide +kernel
theorem dX4_takeRole_59 : decode cX4_takeRole 59 = .ok (.ireturn, 1) := by decide +kernel
theorem dX4_takeRole_60 : decode cX4_takeRole 60 = .ok (.iload_n 1, 1) := by decide +kernel
theorem dX4_takeRole_61 : decode cX4_takeRole 61 = .ok (.iconst (-1), 1) := by decide +kernel
theorem dX4_takeRole_62 : decode cX4_takeRole 62 = .ok (.if_icmp .ne 18, 3) := by decide +kernel
theorem dX4_takeRole_65 : decode cX4_takeRole 65 = .ok (.aload_n 0, 1) := by decide +kernel
theorem dX4_takeRole_66 : decode cX4_takeRole 66 = .ok (.getfield 24, 3) := by decide +kernel
theorem dX4_takeRole_69 : decode cX4_takeRole 69 = .ok (.aload_n 0, 1) := by decide +kernel
theorem dX4_takeRole_70 : decode cX4_takeRole 70 = .ok (.getfield 20, 3) := by decide +kernel
theorem dX4_takeRole_73 : decode cX4_takeRole 73 = .ok (.getfield 48, 3) := by decide +kernel
theorem dX4_takeRole_76 : decode cX4_takeRole 76 = .ok (.invokevirtual 145, 3) := by decide +kernel
theorem dX4_takeRole_79 : decode cX4_takeRole 79 = .ok (.istore_n 1, 1) := by decide +kernel
theorem dX4_takeRole_80 : decode cX4_takeRole 80 = .ok (.iload_n 1, 1) := by decide +kernel
theorem dX4_takeRole_81 : decode cX4_takeRole 81 = .ok (.iconst (-1), 1) := by decide +kernel
theorem dX4_takeRole_82 : decode cX4_takeRole 82 = .ok (.if_icmp .ne 9, 3) := by decide +kernel
theorem dX4_takeRole_85 : decode cX4_takeRole 85 = .ok (.aload_n 0, 1) := by decide +kernel
theorem dX4_takeRole_86 : decode cX4_takeRole 86 = .ok (.iconst 3, 1) := by decide +kernel
theorem dX4_takeRole_87 : decode cX4_takeRole 87 = .ok (.invokevirtual 77, 3) := by decide +kernel
theorem dX4_takeRole_90 : decode cX4_takeRole 90 = .ok (.ireturn, 1) := by decide +kernel
theorem dX4_takeRole_91 : decode cX4_takeRole 91 = .ok (.aload_n 0, 1) := by decide +kernel
theorem dX4_takeRole_92 : decode cX4_takeRole 92 = .ok (.getfield 20, 3) := by decide +kernel
theorem dX4_takeRole_95 : decode cX4_takeRole 95 = .ok (.invokevirtual 87, 3) := by decide +kernel
theorem dX4_takeRole_98 : decode cX4_takeRole 98 = .ok (.iload_n 1, 1) := by decide +kernel
theorem dX4_takeRole_99 : decode cX4_takeRole 99 = .ok (.ireturn, 1) := by decide +kernel
theorem dX4_takeConcept_0 : decode cX4_takeConcept 0 = .ok (.aload_n 0, 1) := by decide +kernel
theorem dX4_takeConcept_1 : decode cX4_takeConcept 1 = .ok (.iload_n 1, 1) := by decide +kernel
theorem dX4_takeConcept_2 : decode cX4_takeConcept 2 = .ok (.invokevirtual 148, 3) := by decide +kernel
theorem dX4_takeConcept_5 : decode cX4_takeConcept 5 = .ok (.istore_n 2, 1) := by decide +kernel
theorem dX4_takeConcept_6 : decode cX4_takeConcept 6 = .ok (.iconst 0, 1) := by decide +kernel
theorem dX4_takeConcept_7 : decode cX4_takeConcept 7 = .ok (.istore_n 3, 1) := by decide +kernel
theorem dX4_takeConcept_8 : decode cX4_takeConcept 8 = .ok (.iload_n 3, 1) := by decide +kernel
theorem dX4_takeConcept_9 : decode cX4_takeConcept 9 = .ok (.sipush 200, 3) := by decide +kernel
theorem dX4_takeConcept_12 : decode cX4_takeConcept 12 = .ok (.if_icmp .gt 74, 3) := by decide +kernel
theorem dX4_takeConcept_15 : decode cX4_takeConcept 15 = .ok (.iload_n 2, 1) := by decide +kernel
theorem dX4_takeConcept_16 : decode cX4_takeConcept 16 = .ok (.iconst (-1), 1) := by decide +kernel
theorem dX4_takeConcept_17 : decode cX4_takeConcept 17 = .ok (.if_icmp .eq 69, 3) := by decide +kernel
theorem dX4_takeConcept_20 : decode cX4_takeConcept 20 = .ok (.aload_n 0, 1) := by decide +kernel
theorem dX4_takeConcept_21 : decode cX4_takeConcept 21 = .ok (.getfield 20, 3) := by decide +kernel
theorem dX4_takeConcept_24 : decode cX4_takeConcept 24 = .ok (.getfield 48, 3) := by decide +kernel
theorem dX4_takeConcept_27 : decode cX4_takeConcept 27 = .ok (.ldc2_w 151, 3) := by decide +kernel
theorem dX4_takeConcept_30 : decode cX4_takeConcept 30 = .ok (.lcmp, 1) := by decide +kernel
theorem dX4_takeConcept_31 : decode cX4_takeConcept 31 = .ok (.ifCond .ne 55, 3) := by decide +kernel
theorem dX4_takeConcept_34 : decode cX4_takeConcept 34 = .ok (.aload_n 0, 1) := by decide +kernel
theorem dX4_takeConcept_35 : decode cX4_takeConcept 35 = .ok (.invokevirtual 153, 3) := by decide +kernel
theorem dX4_takeConcept_38 : decode cX4_takeConcept 38 = .ok (.ifCond .ne 5, 3) := by decide +kernel
theorem dX4_takeConcept_41 : decode cX4_takeConcept 41 = .ok (.iconst (-1), 1) := by decide +kernel
theorem dX4_takeConcept_42 : decode cX4_takeConcept 42 = .ok (.ireturn, 1) := by decide +kernel
theorem dX4_takeConcept_43 : decode cX4_takeConcept 43 = .ok (.aload_n 0, 1) := by decide +kernel
theorem dX4_takeConcept_44 : decode cX4_takeConcept 44 = .ok (.getfield 20, 3) := by decide +kernel
theorem dX4_takeConcept_47 : decode cX4_takeConcept 47 = .ok (.invokevirtual 87, 3) := by decide +kernel
theorem dX4_takeConcept_50 : decode cX4_takeConcept 50 = .ok (.aload_n 0, 1) := by decide +kernel
theorem dX4_takeConcept_51 : decode cX4_takeConcept 51 = .ok (.iload_n 1, 1) := by decide +kernel
theorem dX4_takeConcept_52 : decode cX4_takeConcept 52 = .ok (.invokevirtual 148, 3) := by decide +kernel
theorem dX4_takeConcept_55 : decode cX4_takeConcept 55 = .ok (.istore 4, 2) := by decide +kernel
theorem dX4_takeConcept_57 : decode cX4_takeConcept 57 = .ok (.iload 4, 2) := by decide +kernel
theorem dX4_takeConcept_59 : decode cX4_takeConcept 59 = .ok (.iconst (-1), 1) := by decide +kernel
theorem dX4_takeConcept_60 : decode cX4_takeConcept 60 = .ok (.if_icmp .ne 7, 3) := by decide +kernel
theorem dX4_takeConcept_63 : decode cX4_takeConcept 63 = .ok (.iconst (-1), 1) := by decide +kernel
theorem dX4_takeConcept_64 : decode cX4_takeConcept 64 = .ok (.goto 15, 3) := by decide +kernel
theorem dX4_takeConcept_67 : decode cX4_takeConcept 67 = .ok (.aload_n 0, 1) := by decide +kernel
theorem dX4_takeConcept_68 : decode cX4_takeConcept 68 = .ok (.getfield 34, 3) := by decide +kernel
theorem dX4_takeConcept_71 : decode cX4_takeConcept 71 = .ok (.bipush 7, 2) := by decide +kernel
theorem dX4_takeConcept_73 : decode cX4_takeConcept 73 = .ok (.iload_n 2, 1) := by decide +kernel
theorem dX4_takeConcept_74 : decode cX4_takeConcept 74 = .ok (.iload 4, 2) := by decide +kernel
theorem dX4_takeConcept_76 : decode cX4_takeConcept 76 = .ok (.invokevirtual 156, 3) := by decide +kernel
theorem dX4_takeConcept_79 : decode cX4_takeConcept 79 = .ok (.istore_n 2, 1) := by decide +kernel
theorem dX4_takeConcept_80 : decode cX4_takeConcept 80 = .ok (.iinc 3 1, 3) := by decide +kernel
theorem dX4_takeConcept_83 : decode cX4_takeConcept 83 = .ok (.goto (-75), 3) := by decide +kernel
theorem dX4_takeConcept_86 : decode cX4_takeConcept 86 = .ok (.iload_n 2, 1) := by decide +kernel
theorem dX4_takeConcept_87 : decode cX4_takeConcept 87 = .ok (.ireturn, 1) := by decide +kernel
theorem dX4_takeAll_0 : decode cX4_takeAll 0 = .ok (.aload_n 0, 1) := by decide +kernel
theorem dX4_takeAll_1 : decode cX4_takeAll 1 = .ok (.iload_n 1, 1) := by decide +kernel
theorem dX4_takeAll_2 : decode cX4_takeAll 2 = .ok (.invokevirtual 162, 3) := by decide +kernel
theorem dX4_takeAll_5 : decode cX4_takeAll 5 = .ok (.istore_n 2, 1) := by decide +kernel
theorem dX4_takeAll_6 : decode cX4_takeAll 6 = .ok (.iconst 0, 1) := by decide +kernel
theorem dX4_takeAll_7 : decode cX4_takeAll 7 = .ok (.istore_n 3, 1) := by decide +kernel
theorem dX4_takeAll_8 : decode cX4_takeAll 8 = .ok (.iload_n 3, 1) := by decide +kernel
theorem dX4_takeAll_9 : decode cX4_takeAll 9 = .ok (.sipush 200, 3) := by decide +kernel
theorem dX4_takeAll_12 : decode cX4_takeAll 12 = .ok (.if_icmp .gt 74, 3) := by decide +kernel
theorem dX4_takeAll_15 : decode cX4_takeAll 15 = .ok (.iload_n 2, 1) := by decide +kernel
theorem dX4_takeAll_16 : decode cX4_takeAll 16 = .ok (.iconst (-1), 1) := by decide +kernel
theorem dX4_takeAll_17 : decode cX4_takeAll 17 = .ok (.if_icmp .eq 69, 3) := by decide +kernel
theorem dX4_takeAll_20 : decode cX4_takeAll 20 = .ok (.aload_n 0, 1) := by decide +kernel
theorem dX4_takeAll_21 : decode cX4_takeAll 21 = .ok (.getfield 20, 3) := by decide +kernel
theorem dX4_takeAll_24 : decode cX4_takeAll 24 = .ok (.getfield 48, 3) := by decide +kernel
theorem dX4_takeAll_27 : decode cX4_takeAll 27 = .ok (.ldc2_w 165, 3) := by decide +kernel
theorem dX4_takeAll_30 : decode cX4_takeAll 30 = .ok (.lcmp, 1) := by decide +kernel
theorem dX4_takeAll_31 : decode cX4_takeAll 31 = .ok (.ifCond .ne 55, 3) := by decide +kernel
theorem dX4_takeAll_34 : decode cX4_takeAll 34 = .ok (.aload_n 0, 1) := by decide +kernel
theorem dX4_takeAll_35 : decode cX4_takeAll 35 = .ok (.invokevirtual 153, 3) := by decide +kernel
theorem dX4_takeAll_38 : decode cX4_takeAll 38 = .ok (.ifCond .ne 5, 3) := by decide +kernel
theorem dX4_takeAll_41 : decode cX4_takeAll 41 = .ok (.iconst (-1), 1) := by decide +kernel
theorem dX4_takeAll_42 : decode cX4_takeAll 42 = .ok (.ireturn, 1) := by decide +kernel
theorem dX4_takeAll_43 : decode cX4_takeAll 43 = .ok (.aload_n 0, 1) := by decide +kernel
theorem dX4_takeAll_44 : decode cX4_takeAll 44 = .ok (.getfield 20, 3) := by decide +kernel
theorem dX4_takeAll_47 : decode cX4_takeAll 47 = .ok (.invokevirtual 87, 3) := by decide +kernel
theorem dX4_takeAll_50 : decode cX4_takeAll 50 = .ok (.aload_n 0, 1) := by decide +kernel
theorem dX4_takeAll_51 : decode cX4_takeAll 51 = .ok (.iload_n 1, 1) := by decide +kernel
theorem dX4_takeAll_52 : decode cX4_takeAll 52 = .ok (.invokevirtual 162, 3) := by decide +kernel
theorem dX4_takeAll_55 : decode cX4_takeAll 55 = .ok (.istore 4, 2) := by decide +kernel
theorem dX4_takeAll_57 : decode cX4_takeAll 57 = .ok (.iload 4, 2) := by decide +kernel
theorem dX4_takeAll_59 : decode cX4_takeAll 59 = .ok (.iconst (-1), 1) := by decide +kernel
theorem dX4_takeAll_60 : decode cX4_takeAll 60 = .ok (.if_icmp .ne 7, 3) := by decide +kernel
theorem dX4_takeAll_63 : decode cX4_takeAll 63 = .ok (.iconst (-1), 1) := by decide +kernel
theorem dX4_takeAll_64 : decode cX4_takeAll 64 = .ok (.goto 15, 3) := by decide +kernel
theorem dX4_takeAll_67 : decode cX4_takeAll 67 = .ok (.aload_n 0, 1) := by decide +kernel
theorem dX4_takeAll_68 : decode cX4_takeAll 68 = .ok (.getfield 34, 3) := by decide +kernel
theorem dX4_takeAll_71 : decode cX4_takeAll 71 = .ok (.bipush 6, 2) := by decide +kernel
theorem dX4_takeAll_73 : decode cX4_takeAll 73 = .ok (.iload_n 2, 1) := by decide +kernel
theorem dX4_takeAll_74 : decode cX4_takeAll 74 = .ok (.iload 4, 2) := by decide +kernel
theorem dX4_takeAll_76 : decode cX4_takeAll 76 = .ok (.invokevirtual 156, 3) := by decide +kernel
theorem dX4_takeAll_79 : decode cX4_takeAll 79 = .ok (.istore_n 2, 1) := by decide +kernel
theorem dX4_takeAll_80 : decode cX4_takeAll 80 = .ok (.iinc 3 1, 3) := by decide +kernel
theorem dX4_takeAll_83 : decode cX4_takeAll 83 = .ok (.goto (-75), 3) := by decide +kernel
theorem dX4_takeAll_86 : decode cX4_takeAll 86 = .ok (.iload_n 2, 1) := by decide +kernel
theorem dX4_takeAll_87 : decode cX4_takeAll 87 = .ok (.ireturn, 1) := by decide +kernel
theorem dX4_takeOne_0 : decode cX4_takeOne 0 = .ok (.aload_n 0, 1) := by decide +kernel
theorem dX4_takeOne_1 : decode cX4_takeOne 1 = .ok (.getfield 20, 3) := by decide +kernel
theorem dX4_takeOne_4 : decode cX4_takeOne 4 = .ok (.invokevirtual 90, 3) := by decide +kernel
theorem dX4_takeOne_7 : decode cX4_takeOne 7 = .ok (.ifCond .ne 8, 3) := by decide +kernel
theorem dX4_takeOne_10 : decode cX4_takeOne 10 = .ok (.aload_n 0, 1) := by decide +kernel
theorem dX4_takeOne_11 : decode cX4_takeOne 11 = .ok (.invokevirtual 83, 3) := by decide +kernel
theorem dX4_takeOne_14 : decode cX4_takeOne 14 = .ok (.ireturn, 1) := by decide +kernel
theorem dX4_takeOne_15 : decode cX4_takeOne 15 = .ok (.iload_n 1, 1) := by decide +kernel
theorem dX4_takeOne_16 : decode cX4_takeOne 16 = .ok (.bipush 12, 2) := by decide +kernel
theorem dX4_takeOne_18 : decode cX4_takeOne 18 = .ok (.if_icmp .lt 19, 3) := by decide +kernel
theorem dX4_takeOne_21 : decode cX4_takeOne 21 = .ok (.aload_n 0, 1) := by decide +kernel
theorem dX4_takeOne_22 : decode cX4_takeOne 22 = .ok (.getfield 20, 3) := by decide +kernel
theorem dX4_takeOne_25 : decode cX4_takeOne 25 = .ok (.invokevirtual 167, 3) := by decide +kernel
theorem dX4_takeOne_28 : decode cX4_takeOne 28 = .ok (.ifCond .eq 9, 3) := by decide +kernel
theorem dX4_takeOne_31 : decode cX4_takeOne 31 = .ok (.aload_n 0, 1) := by decide +kernel
theorem dX4_takeOne_32 : decode cX4_takeOne 32 = .ok (.iconst 3, 1) := by decide +kernel
theorem dX4_takeOne_33 : decode cX4_takeOne 33 = .ok (.invokevirtual 77, 3) := by decide +kernel
theorem dX4_takeOne_36 : decode cX4_takeOne 36 = .ok (.ireturn, 1) := by decide +kernel
theorem dX4_takeOne_37 : decode cX4_takeOne 37 = .ok (.aload_n 0, 1) := by decide +kernel
theorem dX4_takeOne_38 : decode cX4_takeOne 38 = .ok (.getfield 20, 3) := by decide +kernel
theorem dX4_takeOne_41 : decode cX4_takeOne 41 = .ok (.getfield 48, 3) := by decide +kernel
theorem dX4_takeOne_44 : decode cX4_takeOne 44 = .ok (.ldc2_w 170, 3) := by decide +kernel
theorem dX4_takeOne_47 : decode cX4_takeOne 47 = .ok (.lcmp, 1) := by decide +kernel
theorem dX4_takeOne_48 : decode cX4_takeOne 48 = .ok (.ifCond .eq 12, 3) := by decide +kernel
theorem dX4_takeOne_51 : decode cX4_takeOne 51 = .ok (.aload_n 0, 1) := by decide +kernel
theorem dX4_takeOne_52 : decode cX4_takeOne 52 = .ok (.invokevirtual 153, 3) := by decide +kernel
theorem dX4_takeOne_55 : decode cX4_takeOne 55 = .ok (.ifCond .ne 5, 3) := by decide +kernel
theorem dX4_takeOne_58 : decode cX4_takeOne 58 = .ok (.iconst (-1), 1) := by decide +kernel
theorem dX4_takeOne_59 : decode cX4_takeOne 59 = .ok (.ireturn, 1) := by decide +kernel
theorem dX4_takeOne_60 : decode cX4_takeOne 60 = .ok (.aload_n 0, 1) := by decide +kernel
theorem dX4_takeOne_61 : decode cX4_takeOne 61 = .ok (.getfield 20, 3) := by decide +kernel
theorem dX4_takeOne_64 : decode cX4_takeOne 64 = .ok (.getfield 45, 3) := by decide +kernel
theorem dX4_takeOne_67 : decode cX4_takeOne 67 = .ok (.iconst 4, 1) := by decide +kernel
theorem dX4_takeOne_68 : decode cX4_takeOne 68 = .ok (.if_icmp .ne 8, 3) := by decide +kernel
theorem dX4_takeOne_71 : decode cX4_takeOne 71 = .ok (.aload_n 0, 1) := by decide +kernel
theorem dX4_takeOne_72 : decode cX4_takeOne 72 = .ok (.invokevirtual 172, 3) := by decide +kernel
theorem dX4_takeOne_75 : decode cX4_takeOne 75 = .ok (.ireturn, 1) := by decide +kernel
theorem dX4_takeOne_76 : decode cX4_takeOne 76 = .ok (.aload_n 0, 1) := by decide +kernel
theorem dX4_takeOne_77 : decode cX4_takeOne 77 = .ok (.getfield 20, 3) := by decide +kernel
theorem dX4_takeOne_80 : decode cX4_takeOne 80 = .ok (.getfield 70, 3) := by decide +kernel
theorem dX4_takeOne_83 : decode cX4_takeOne 83 = .ok (.istore_n 2, 1) := by decide +kernel
theorem dX4_takeOne_84 : decode cX4_takeOne 84 = .ok (.aload_n 0, 1) := by decide +kernel
theorem dX4_takeOne_85 : decode cX4_takeOne 85 = .ok (.getfield 20, 3) := by decide +kernel
theorem dX4_takeOne_88 : decode cX4_takeOne 88 = .ok (.getfield 48, 3) := by decide +kernel
theorem dX4_takeOne_91 : decode cX4_takeOne 91 = .ok (.lstore_n 3, 1) := by decide +kernel
theorem dX4_takeOne_92 : decode cX4_takeOne 92 = .ok (.aload_n 0, 1) := by decide +kernel
theorem dX4_takeOne_93 : decode cX4_takeOne 93 = .ok (.getfield 20, 3) := by decide +kernel
theorem dX4_takeOne_96 : decode cX4_takeOne 96 = .ok (.invokevirtual 87, 3) := by decide +kernel
theorem dX4_takeOne_99 : decode cX4_takeOne 99 = .ok (.lload_n 3, 1) := by decide +kernel
theorem dX4_takeOne_100 : decode cX4_takeOne 100 = .ok (.ldc2_w 170, 3) := by decide +kernel
theorem dX4_takeOne_103 : decode cX4_takeOne 103 = .ok (.lcmp, 1) := by decide +kernel
theorem dX4_takeOne_104 : decode cX4_takeOne 104 = .ok (.ifCond .ne 11, 3) := by decide +kernel
theorem dX4_takeOne_107 : decode cX4_takeOne 107 = .ok (.aload_n 0, 1) := by decide +kernel
theorem dX4_takeOne_108 : decode cX4_takeOne 108 = .ok (.iload_n 1, 1) := by decide +kernel
theorem dX4_takeOne_109 : decode cX4_takeOne 109 = .ok (.iconst 1, 1) := by decide +kernel
theorem dX4_takeOne_110 : decode cX4_takeOne 110 = .ok (.iadd, 1) := by decide +kernel
theorem dX4_takeOne_111 : decode cX4_takeOne 111 = .ok (.invokevirtual 175, 3) := by decide +kernel
theorem dX4_takeOne_114 : decode cX4_takeOne 114 = .ok (.ireturn, 1) := by decide +kernel
theorem dX4_takeOne_115 : decode cX4_takeOne 115 = .ok (.lload_n 3, 1) := by decide +kernel
theorem dX4_takeOne_116 : decode cX4_takeOne 116 = .ok (.ldc2_w 178, 3) := by decide +kernel
theorem dX4_takeOne_119 : decode cX4_takeOne 119 = .ok (.lcmp, 1) := by decide +kernel
theorem dX4_takeOne_120 : decode cX4_takeOne 120 = .ok (.ifCond .ne 14, 3) := by decide +kernel
theorem dX4_takeOne_123 : decode cX4_takeOne 123 = .ok (.aload_n 0, 1) := by decide +kernel
theorem dX4_takeOne_124 : decode cX4_takeOne 124 = .ok (.getfield 34, 3) := by decide +kernel
theorem dX4_takeOne_127 : decode cX4_takeOne 127 = .ok (.iconst 1, 1) := by decide +kernel
theorem dX4_takeOne_128 : decode cX4_takeOne 128 = .ok (.iconst 0, 1) := by decide +kernel
theorem dX4_takeOne_129 : decode cX4_takeOne 129 = .ok (.iconst 0, 1) := by decide +kernel
theorem dX4_takeOne_130 : decode cX4_takeOne 130 = .ok (.invokevirtual 156, 3) := by decide +kernel
theorem dX4_takeOne_133 : decode cX4_takeOne 133 = .ok (.ireturn, 1) := by decide +kernel
theorem dX4_takeOne_134 : decode cX4_takeOne 134 = .ok (.lload_n 3, 1) := by decide +kernel
theorem dX4_takeOne_135 : decode cX4_takeOne 135 = .ok (.ldc2_w 180, 3) := by decide +kernel
theorem dX4_takeOne_138 : decode cX4_takeOne 138 = .ok (.lcmp, 1) := by decide +kernel
theorem dX4_takeOne_139 : decode cX4_takeOne 139 = .ok (.ifCond .ne 14, 3) := by decide +kernel
theorem dX4_takeOne_142 : decode cX4_takeOne 142 = .ok (.aload_n 0, 1) := by decide +kernel
theorem dX4_takeOne_143 : decode cX4_takeOne 143 = .ok (.getfield 34, 3) := by decide +kernel
theorem dX4_takeOne_146 : decode cX4_takeOne 146 = .ok (.iconst 2, 1) := by decide +kernel
theorem dX4_takeOne_147 : decode cX4_takeOne 147 = .ok (.iconst 0, 1) := by decide +kernel
theorem dX4_takeOne_148 : decode cX4_takeOne 148 = .ok (.iconst 0, 1) := by decide +kernel
theorem dX4_takeOne_149 : decode cX4_takeOne 149 = .ok (.invokevirtual 156, 3) := by decide +kernel
theorem dX4_takeOne_152 : decode cX4_takeOne 152 = .ok (.ireturn, 1) := by decide +kernel
theorem dX4_takeOne_153 : decode cX4_takeOne 153 = .ok (.lload_n 3, 1) := by decide +kernel
theorem dX4_takeOne_154 : decode cX4_takeOne 154 = .ok (.ldc2_w 182, 3) := by decide +kernel
theorem dX4_takeOne_157 : decode cX4_takeOne 157 = .ok (.lcmp, 1) := by decide +kernel
theorem dX4_takeOne_158 : decode cX4_takeOne 158 = .ok (.ifCond .ne 34, 3) := by decide +kernel
theorem dX4_takeOne_161 : decode cX4_takeOne 161 = .ok (.aload_n 0, 1) := by decide +kernel
theorem dX4_takeOne_162 : decode cX4_takeOne 162 = .ok (.iload_n 1, 1) := by decide +kernel
theorem dX4_takeOne_163 : decode cX4_takeOne 163 = .ok (.iconst 1, 1) := by decide +kernel
theorem dX4_takeOne_164 : decode cX4_takeOne 164 = .ok (.iadd, 1) := by decide +kernel
theorem dX4_takeOne_165 : decode cX4_takeOne 165 = .ok (.invokevirtual 162, 3) := by decide +kernel
theorem dX4_takeOne_168 : decode cX4_takeOne 168 = .ok (.istore 5, 2) := by decide +kernel
theorem dX4_takeOne_170 : decode cX4_takeOne 170 = .ok (.iload 5, 2) := by decide +kernel
theorem dX4_takeOne_172 : decode cX4_takeOne 172 = .ok (.iconst (-1), 1) := by decide +kernel
theorem dX4_takeOne_173 : decode cX4_takeOne 173 = .ok (.if_icmp .ne 7, 3) := by decide +kernel
theorem dX4_takeOne_176 : decode cX4_takeOne 176 = .ok (.iconst (-1), 1) := by decide +kernel
theorem dX4_takeOne_177 : decode cX4_takeOne 177 = .ok (.goto 14, 3) := by decide +kernel
theorem dX4_takeOne_180 : decode cX4_takeOne 180 = .ok (.aload_n 0, 1) := by decide +kernel
theorem dX4_takeOne_181 : decode cX4_takeOne 181 = .ok (.getfield 34, 3) := by decide +kernel
theorem dX4_takeOne_184 : decode cX4_takeOne 184 = .ok (.iconst 3, 1) := by decide +kernel
theorem dX4_takeOne_185 : decode cX4_takeOne 185 = .ok (.iload 5, 2) := by decide +kernel
theorem dX4_takeOne_187 : decode cX4_takeOne 187 = .ok (.iconst 0, 1) := by decide +kernel
theorem dX4_takeOne_188 : decode cX4_takeOne 188 = .ok (.invokevirtual 156, 3) := by decide +kernel
theorem dX4_takeOne_191 : decode cX4_takeOne 191 = .ok (.ireturn, 1) := by decide +kernel
theorem dX4_takeOne_192 : decode cX4_takeOne 192 = .ok (.aload_n 0, 1) := by decide +kernel
theorem dX4_takeOne_193 : decode cX4_takeOne 193 = .ok (.lload_n 3, 1) := by decide +kernel
theorem dX4_takeOne_194 : decode cX4_takeOne 194 = .ok (.ldc2_w 184, 3) := by decide +kernel
theorem dX4_takeOne_197 : decode cX4_takeOne 197 = .ok (.lcmp, 1) := by decide +kernel
theorem dX4_takeOne_198 : decode cX4_takeOne 198 = .ok (.ifCond .ne 7, 3) := by decide +kernel
theorem dX4_takeOne_201 : decode cX4_takeOne 201 = .ok (.iconst 4, 1) := by decide +kernel
theorem dX4_takeOne_202 : decode cX4_takeOne 202 = .ok (.goto 4, 3) := by decide +kernel
theorem dX4_takeOne_205 : decode cX4_takeOne 205 = .ok (.iconst 5, 1) := by decide +kernel
theorem dX4_takeOne_206 : decode cX4_takeOne 206 = .ok (.iload_n 2, 1) := by decide +kernel
theorem dX4_takeOne_207 : decode cX4_takeOne 207 = .ok (.iload_n 1, 1) := by decide +kernel
theorem dX4_takeOne_208 : decode cX4_takeOne 208 = .ok (.iconst 1, 1) := by decide +kernel
theorem dX4_takeOne_209 : decode cX4_takeOne 209 = .ok (.iadd, 1) := by decide +kernel
theorem dX4_takeOne_210 : decode cX4_takeOne 210 = .ok (.invokevirtual 186, 3) := by decide +kernel
theorem dX4_takeOne_213 : decode cX4_takeOne 213 = .ok (.ireturn, 1) := by decide +kernel
theorem dX4_takeBracketed_0 : decode cX4_takeBracketed 0 = .ok (.aload_n 0, 1) := by decide +kernel
theorem dX4_takeBracketed_1 : decode cX4_takeBracketed 1 = .ok (.iload_n 1, 1) := by decide +kernel
theorem dX4_takeBracketed_2 : decode cX4_takeBracketed 2 = .ok (.invokevirtual 97, 3) := by decide +kernel
theorem dX4_takeBracketed_5 : decode cX4_takeBracketed 5 = .ok (.istore_n 2, 1) := by decide +kernel
theorem dX4_takeBracketed_6 : decode cX4_takeBracketed 6 = .ok (.iload_n 2, 1) := by decide +kernel
theorem dX4_takeBracketed_7 : decode cX4_takeBracketed 7 = .ok (.iconst (-1), 1) := by decide +kernel
theorem dX4_takeBracketed_8 : decode cX4_takeBracketed 8 = .ok (.if_icmp .ne 5, 3) := by decide +kernel
theorem dX4_takeBracketed_11 : decode cX4_takeBracketed 11 = .ok (.iconst (-1), 1) := by decide +kernel
theorem dX4_takeBracketed_12 : decode cX4_takeBracketed 12 = .ok (.ireturn, 1) := by decide +kernel
theorem dX4_takeBracketed_13 : decode cX4_takeBracketed 13 = .ok (.aload_n 0, 1) := by decide +kernel
theorem dX4_takeBracketed_14 : decode cX4_takeBracketed 14 = .ok (.getfield 20, 3) := by decide +kernel
theorem dX4_takeBracketed_17 : decode cX4_takeBracketed 17 = .ok (.getfield 48, 3) := by decide +kernel
theorem dX4_takeBracketed_20 : decode cX4_takeBracketed 20 = .ok (.ldc2_w 189, 3) := by decide +kernel
theorem dX4_takeBracketed_23 : decode cX4_takeBracketed 23 = .ok (.lcmp, 1) := by decide +kernel
theorem dX4_takeBracketed_24 : decode cX4_takeBracketed 24 = .ok (.ifCond .eq 8, 3) := by decide +kernel
theorem dX4_takeBracketed_27 : decode cX4_takeBracketed 27 = .ok (.aload_n 0, 1) := by decide +kernel
theorem dX4_takeBracketed_28 : decode cX4_takeBracketed 28 = .ok (.invokevirtual 83, 3) := by decide +kernel
theorem dX4_takeBracketed_31 : decode cX4_takeBracketed 31 = .ok (.ireturn, 1) := by decide +kernel
theorem dX4_takeBracketed_32 : decode cX4_takeBracketed 32 = .ok (.aload_n 0, 1) := by decide +kernel
theorem dX4_takeBracketed_33 : decode cX4_takeBracketed 33 = .ok (.getfield 20, 3) := by decide +kernel
theorem dX4_takeBracketed_36 : decode cX4_takeBracketed 36 = .ok (.invokevirtual 87, 3) := by decide +kernel
theorem dX4_takeBracketed_39 : decode cX4_takeBracketed 39 = .ok (.iload_n 2, 1) := by decide +kernel
theorem dX4_takeBracketed_40 : decode cX4_takeBracketed 40 = .ok (.ireturn, 1) := by decide +kernel
theorem dX4_takeQuantified_0 : decode cX4_takeQuantified 0 = .ok (.aload_n 0, 1) := by decide +kernel
theorem dX4_takeQuantified_1 : decode cX4_takeQuantified 1 = .ok (.invokevirtual 117, 3) := by decide +kernel
theorem dX4_takeQuantified_4 : decode cX4_takeQuantified 4 = .ok (.istore 4, 2) := by decide +kernel
theorem dX4_takeQuantified_6 : decode cX4_takeQuantified 6 = .ok (.iload 4, 2) := by decide +kernel
theorem dX4_takeQuantified_8 : decode cX4_takeQuantified 8 = .ok (.iconst (-1), 1) := by decide +kernel
theorem dX4_takeQuantified_9 : decode cX4_takeQuantified 9 = .ok (.if_icmp .ne 5, 3) := by decide +kernel
theorem dX4_takeQuantified_12 : decode cX4_takeQuantified 12 = .ok (.iconst (-1), 1) := by decide +kernel
theorem dX4_takeQuantified_13 : decode cX4_takeQuantified 13 = .ok (.ireturn, 1) := by decide +kernel
theorem dX4_takeQuantified_14 : decode cX4_takeQuantified 14 = .ok (.aload_n 0, 1) := by decide +kernel
theorem dX4_takeQuantified_15 : decode cX4_takeQuantified 15 = .ok (.iload_n 3, 1) := by decide +kernel
theorem dX4_takeQuantified_16 : decode cX4_takeQuantified 16 = .ok (.invokevirtual 162, 3) := by decide +kernel
theorem dX4_takeQuantified_19 : decode cX4_takeQuantified 19 = .ok (.istore 5, 2) := by decide +kernel
theorem dX4_takeQuantified_21 : decode cX4_takeQuantified 21 = .ok (.iload 5, 2) := by decide +kernel
theorem dX4_takeQuantified_23 : decode cX4_takeQuantified 23 = .ok (.iconst (-1), 1) := by decide +kernel
theorem dX4_takeQuantified_24 : decode cX4_takeQuantified 24 = .ok (.if_icmp .ne 5, 3) := by decide +kernel
theorem dX4_takeQuantified_27 : decode cX4_takeQuantified 27 = .ok (.iconst (-1), 1) := by decide +kernel
theorem dX4_takeQuantified_28 : decode cX4_takeQuantified 28 = .ok (.ireturn, 1) := by decide +kernel
theorem dX4_takeQuantified_29 : decode cX4_takeQuantified 29 = .ok (.aload_n 0, 1) := by decide +kernel
theorem dX4_takeQuantified_30 : decode cX4_takeQuantified 30 = .ok (.getfield 34, 3) := by decide +kernel
theorem dX4_takeQuantified_33 : decode cX4_takeQuantified 33 = .ok (.iload_n 1, 1) := by decide +kernel
theorem dX4_takeQuantified_34 : decode cX4_takeQuantified 34 = .ok (.iload 5, 2) := by decide +kernel
theorem dX4_takeQuantified_36 : decode cX4_takeQuantified 36 = .ok (.iload 4, 2) := by decide +kernel
theorem dX4_takeQuantified_38 : decode cX4_takeQuantified 38 = .ok (.invokevirtual 156, 3) := by decide +kernel
theorem dX4_takeQuantified_41 : decode cX4_takeQuantified 41 = .ok (.istore 6, 2) := by decide +kernel
theorem dX4_takeQuantified_43 : decode cX4_takeQuantified 43 = .ok (.iload 6, 2) := by decide +kernel
theorem dX4_takeQuantified_45 : decode cX4_takeQuantified 45 = .ok (.iconst (-1), 1) := by decide +kernel
theorem dX4_takeQuantified_46 : decode cX4_takeQuantified 46 = .ok (.if_icmp .ne 12, 3) := by decide +kernel
theorem dX4_takeQuantified_49 : decode cX4_takeQuantified 49 = .ok (.aload_n 0, 1) := by decide +kernel
theorem dX4_takeQuantified_50 : decode cX4_takeQuantified 50 = .ok (.iconst 5, 1) := by decide +kernel
theorem dX4_takeQuantified_51 : decode cX4_takeQuantified 51 = .ok (.iload_n 2, 1) := by decide +kernel
theorem dX4_takeQuantified_52 : decode cX4_takeQuantified 52 = .ok (.invokevirtual 73, 3) := by decide +kernel
theorem dX4_takeQuantified_55 : decode cX4_takeQuantified 55 = .ok (.goto 5, 3) := by decide +kernel
theorem dX4_takeQuantified_58 : decode cX4_takeQuantified 58 = .ok (.iload 6, 2) := by decide +kernel
theorem dX4_takeQuantified_60 : decode cX4_takeQuantified 60 = .ok (.ireturn, 1) := by decide +kernel
theorem dX4_takeName_0 : decode cX4_takeName 0 = .ok (.aload_n 0, 1) := by decide +kernel
theorem dX4_takeName_1 : decode cX4_takeName 1 = .ok (.getfield 24, 3) := by decide +kernel
theorem dX4_takeName_4 : decode cX4_takeName 4 = .ok (.aload_n 0, 1) := by decide +kernel
theorem dX4_takeName_5 : decode cX4_takeName 5 = .ok (.getfield 20, 3) := by decide +kernel
theorem dX4_takeName_8 : decode cX4_takeName 8 = .ok (.getfield 48, 3) := by decide +kernel
theorem dX4_takeName_11 : decode cX4_takeName 11 = .ok (.invokevirtual 142, 3) := by decide +kernel
theorem dX4_takeName_14 : decode cX4_takeName 14 = .ok (.istore_n 1, 1) := by decide +kernel
theorem dX4_takeName_15 : decode cX4_takeName 15 = .ok (.iload_n 1, 1) := by decide +kernel
theorem dX4_takeName_16 : decode cX4_takeName 16 = .ok (.iconst (-1), 1) := by decide +kernel
theorem dX4_takeName_17 : decode cX4_takeName 17 = .ok (.if_icmp .ne 27, 3) := by decide +kernel
theorem dX4_takeName_20 : decode cX4_takeName 20 = .ok (.aload_n 0, 1) := by decide +kernel
theorem dX4_takeName_21 : decode cX4_takeName 21 = .ok (.getfield 24, 3) := by decide +kernel
theorem dX4_takeName_24 : decode cX4_takeName 24 = .ok (.aload_n 0, 1) := by decide +kernel
theorem dX4_takeName_25 : decode cX4_takeName 25 = .ok (.getfield 20, 3) := by decide +kernel
theorem dX4_takeName_28 : decode cX4_takeName 28 = .ok (.getfield 48, 3) := by decide +kernel
theorem dX4_takeName_31 : decode cX4_takeName 31 = .ok (.invokevirtual 138, 3) := by decide +kernel
theorem dX4_takeName_34 : decode cX4_takeName 34 = .ok (.iconst (-1), 1) := by decide +kernel
theorem dX4_takeName_35 : decode cX4_takeName 35 = .ok (.if_icmp .eq 9, 3) := by decide +kernel
theorem dX4_takeName_38 : decode cX4_takeName 38 = .ok (.aload_n 0, 1) := by decide +kernel
theorem dX4_takeName_39 : decode cX4_takeName 39 = .ok (.iconst 4, 1) := by decide +kernel
theorem dX4_takeName_40 : decode cX4_takeName 40 = .ok (.invokevirtual 77, 3) := by decide +kernel
theorem dX4_takeName_43 : decode cX4_takeName 43 = .ok (.ireturn, 1) := by decide +kernel
theorem dX4_takeName_44 : decode cX4_takeName 44 = .ok (.iload_n 1, 1) := by decide +kernel
theorem dX4_takeName_45 : decode cX4_takeName 45 = .ok (.iconst (-1), 1) := by decide +kernel
theorem dX4_takeName_46 : decode cX4_takeName 46 = .ok (.if_icmp .ne 18, 3) := by decide +kernel
theorem dX4_takeName_49 : decode cX4_takeName 49 = .ok (.aload_n 0, 1) := by decide +kernel
theorem dX4_takeName_50 : decode cX4_takeName 50 = .ok (.getfield 24, 3) := by decide +kernel
theorem dX4_takeName_53 : decode cX4_takeName 53 = .ok (.aload_n 0, 1) := by decide +kernel
theorem dX4_takeName_54 : decode cX4_takeName 54 = .ok (.getfield 20, 3) := by decide +kernel
theorem dX4_takeName_57 : decode cX4_takeName 57 = .ok (.getfield 48, 3) := by decide +kernel
theorem dX4_takeName_60 : decode cX4_takeName 60 = .ok (.invokevirtual 191, 3) := by decide +kernel
theorem dX4_takeName_63 : decode cX4_takeName 63 = .ok (.istore_n 1, 1) := by decide +kernel
theorem dX4_takeName_64 : decode cX4_takeName 64 = .ok (.iload_n 1, 1) := by decide +kernel
theorem dX4_takeName_65 : decode cX4_takeName 65 = .ok (.iconst (-1), 1) := by decide +kernel
theorem dX4_takeName_66 : decode cX4_takeName 66 = .ok (.if_icmp .ne 9, 3) := by decide +kernel
theorem dX4_takeName_69 : decode cX4_takeName 69 = .ok (.aload_n 0, 1) := by decide +kernel
theorem dX4_takeName_70 : decode cX4_takeName 70 = .ok (.iconst 3, 1) := by decide +kernel
theorem dX4_takeName_71 : decode cX4_takeName 71 = .ok (.invokevirtual 77, 3) := by decide +kernel
theorem dX4_takeName_74 : decode cX4_takeName 74 = .ok (.ireturn, 1) := by decide +kernel
theorem dX4_takeName_75 : decode cX4_takeName 75 = .ok (.aload_n 0, 1) := by decide +kernel
theorem dX4_takeName_76 : decode cX4_takeName 76 = .ok (.getfield 34, 3) := by decide +kernel
theorem dX4_takeName_79 : decode cX4_takeName 79 = .ok (.iconst 0, 1) := by decide +kernel
theorem dX4_takeName_80 : decode cX4_takeName 80 = .ok (.iload_n 1, 1) := by decide +kernel
theorem dX4_takeName_81 : decode cX4_takeName 81 = .ok (.iconst 0, 1) := by decide +kernel
theorem dX4_takeName_82 : decode cX4_takeName 82 = .ok (.invokevirtual 156, 3) := by decide +kernel
theorem dX4_takeName_85 : decode cX4_takeName 85 = .ok (.istore_n 2, 1) := by decide +kernel
theorem dX4_takeName_86 : decode cX4_takeName 86 = .ok (.iload_n 2, 1) := by decide +kernel
theorem dX4_takeName_87 : decode cX4_takeName 87 = .ok (.iconst (-1), 1) := by decide +kernel
theorem dX4_takeName_88 : decode cX4_takeName 88 = .ok (.if_icmp .ne 9, 3) := by decide +kernel
theorem dX4_takeName_91 : decode cX4_takeName 91 = .ok (.aload_n 0, 1) := by decide +kernel
theorem dX4_takeName_92 : decode cX4_takeName 92 = .ok (.iconst 5, 1) := by decide +kernel
theorem dX4_takeName_93 : decode cX4_takeName 93 = .ok (.invokevirtual 77, 3) := by decide +kernel
theorem dX4_takeName_96 : decode cX4_takeName 96 = .ok (.ireturn, 1) := by decide +kernel
theorem dX4_takeName_97 : decode cX4_takeName 97 = .ok (.aload_n 0, 1) := by decide +kernel
theorem dX4_takeName_98 : decode cX4_takeName 98 = .ok (.getfield 20, 3) := by decide +kernel
theorem dX4_takeName_101 : decode cX4_takeName 101 = .ok (.invokevirtual 87, 3) := by decide +kernel
theorem dX4_takeName_104 : decode cX4_takeName 104 = .ok (.iload_n 2, 1) := by decide +kernel
theorem dX4_takeName_105 : decode cX4_takeName 105 = .ok (.ireturn, 1) := by decide +kernel
theorem dX4_countConcept_0 : decode cX4_countConcept 0 = .ok (.aload_n 0, 1) := by decide +kernel
theorem dX4_countConcept_1 : decode cX4_countConcept 1 = .ok (.getfield 24, 3) := by decide +kernel
theorem dX4_countConcept_4 : decode cX4_countConcept 4 = .ok (.getfield 194, 3) := by decide +kernel
theorem dX4_countConcept_7 : decode cX4_countConcept 7 = .ok (.sipush 200, 3) := by decide +kernel
theorem dX4_countConcept_10 : decode cX4_countConcept 10 = .ok (.if_icmp .lt 11, 3) := by decide +kernel
theorem dX4_countConcept_13 : decode cX4_countConcept 13 = .ok (.aload_n 0, 1) := by decide +kernel
theorem dX4_countConcept_14 : decode cX4_countConcept 14 = .ok (.iconst 3, 1) := by decide +kernel
theorem dX4_countConcept_15 : decode cX4_countConcept 15 = .ok (.invokevirtual 77, 3) := by decide +kernel
theorem dX4_countConcept_18 : decode cX4_countConcept 18 = .ok (.pop, 1) := by decide +kernel
theorem dX4_countConcept_19 : decode cX4_countConcept 19 = .ok (.iconst 0, 1) := by decide +kernel
theorem dX4_countConcept_20 : decode cX4_countConcept 20 = .ok (.ireturn, 1) := by decide +kernel
theorem dX4_countConcept_21 : decode cX4_countConcept 21 = .ok (.aload_n 0, 1) := by decide +kernel
theorem dX4_countConcept_22 : decode cX4_countConcept 22 = .ok (.getfield 24, 3) := by decide +kernel
theorem dX4_countConcept_25 : decode cX4_countConcept 25 = .ok (.dup, 1) := by decide +kernel
theorem dX4_countConcept_26 : decode cX4_countConcept 26 = .ok (.getfield 194, 3) := by decide +kernel
theorem dX4_countConcept_29 : decode cX4_countConcept 29 = .ok (.iconst 1, 1) := by decide +kernel
theorem dX4_countConcept_30 : decode cX4_countConcept 30 = .ok (.iadd, 1) := by decide +kernel
theorem dX4_countConcept_31 : decode cX4_countConcept 31 = .ok (.putfield 194, 3) := by decide +kernel
theorem dX4_countConcept_34 : decode cX4_countConcept 34 = .ok (.iconst 1, 1) := by decide +kernel
theorem dX4_countConcept_35 : decode cX4_countConcept 35 = .ok (.ireturn, 1) := by decide +kernel
theorem dX5_init_0 : decode cX5_init 0 = .ok (.aload_n 0, 1) := by decide +kernel
theorem dX5_init_1 : decode cX5_init 1 = .ok (.invokespecial 3, 3) := by decide +kernel
theorem dX5_init_4 : decode cX5_init 4 = .ok (.aload_n 0, 1) := by decide +kernel
theorem dX5_init_5 : decode cX5_init 5 = .ok (.aload_n 1, 1) := by decide +kernel
theorem dX5_init_6 : decode cX5_init 6 = .ok (.putfield 9, 3) := by decide +kernel
theorem dX5_init_9 : decode cX5_init 9 = .ok (.return_, 1) := by decide +kernel
theorem dX5_start_0 : decode cX5_start 0 = .ok (.aload_n 0, 1) := by decide +kernel
theorem dX5_start_1 : decode cX5_start 1 = .ok (.iload_n 1, 1) := by decide +kernel
theorem dX5_start_2 : decode cX5_start 2 = .ok (.aload_n 0, 1) := by decide +kernel
theorem dX5_start_3 : decode cX5_start 3 = .ok (.getfield 9, 3) := by decide +kernel
theorem dX5_start_6 : decode cX5_start 6 = .ok (.arraylength, 1) := by decide +kernel
theorem dX5_start_7 : decode cX5_start 7 = .ok (.invokestatic 15, 3) := by decide +kernel
theorem dX5_start_10 : decode cX5_start 10 = .ok (.putfield 21, 3) := by decide +kernel
theorem dX5_start_13 : decode cX5_start 13 = .ok (.aload_n 0, 1) := by decide +kernel
theorem dX5_start_14 : decode cX5_start 14 = .ok (.iconst 0, 1) := by decide +kernel
theorem dX5_start_15 : decode cX5_start 15 = .ok (.putfield 25, 3) := by decide +kernel
theorem dX5_start_18 : decode cX5_start 18 = .ok (.aload_n 0, 1) := by decide +kernel
theorem dX5_start_19 : decode cX5_start 19 = .ok (.invokevirtual 28, 3) := by decide +kernel
theorem dX5_start_22 : decode cX5_start 22 = .ok (.return_, 1) := by decide +kernel
theorem dX5_step_0 : decode cX5_step 0 = .ok (.aload_n 0, 1) := by decide +kernel
theorem dX5_step_1 : decode cX5_step 1 = .ok (.invokevirtual 31, 3) := by decide +kernel
theorem dX5_step_4 : decode cX5_step 4 = .ok (.aload_n 0, 1) := by decide +kernel
theorem dX5_step_5 : decode cX5_step 5 = .ok (.aload_n 0, 1) := by decide +kernel
theorem dX5_step_6 : decode cX5_step 6 = .ok (.getfield 25, 3) := by decide +kernel
theorem dX5_step_9 : decode cX5_step 9 = .ok (.putfield 34, 3) := by decide +kernel
theorem dX5_step_12 : decode cX5_step 12 = .ok (.aload_n 0, 1) := by decide +kernel
theorem dX5_step_13 : decode cX5_step 13 = .ok (.lconst 0, 1) := by decide +kernel
theorem dX5_step_14 : decode cX5_step 14 = .ok (.putfield 37, 3) := by decide +kernel
theorem dX5_step_17 : decode cX5_step 17 = .ok (.aload_n 0, 1) := by decide +kernel
theorem dX5_step_18 : decode cX5_step 18 = .ok (.getfield 25, 3) := by decide +kernel
theorem dX5_step_21 : decode cX5_step 21 = .ok (.aload_n 0, 1) := by decide +kernel
theorem dX5_step_22 : decode cX5_step 22 = .ok (.getfield 21, 3) := by decide +kernel
theorem dX5_step_25 : decode cX5_step 25 = .ok (.if_icmp .lt 11, 3) := by decide +kernel
theorem dX5_step_28 : decode cX5_step 28 = .ok (.aload_n 0, 1) := by decide +kernel
theorem dX5_step_29 : decode cX5_step 29 = .ok (.iconst 1, 1) := by decide +kernel
theorem dX5_step_30 : decode cX5_step 30 = .ok (.putfield 41, 3) := by decide +kernel
theorem dX5_step_33 : decode cX5_step 33 = .ok (.goto 44, 3) := by decide +kernel
theorem dX5_step_36 : decode cX5_step 36 = .ok (.aload_n 0, 1) := by decide +kernel
theorem dX5_step_37 : decode cX5_step 37 = .ok (.getfield 9, 3) := by decide +kernel
theorem dX5_step_40 : decode cX5_step 40 = .ok (.aload_n 0, 1) := by decide +kernel
theorem dX5_step_41 : decode cX5_step 41 = .ok (.getfield 25, 3) := by decide +kernel
theorem dX5_step_44 : decode cX5_step 44 = .ok (.baload, 1) := by decide +kernel
theorem dX5_step_45 : decode cX5_step 45 = .ok (.invokestatic 44, 3) := by decide +kernel
theorem dX5_step_48 : decode cX5_step 48 = .ok (.ifCond .ne 18, 3) := by decide +kernel
theorem dX5_step_51 : decode cX5_step 51 = .ok (.aload_n 0, 1) := by decide +kernel
theorem dX5_step_52 : decode cX5_step 52 = .ok (.getfield 9, 3) := by decide +kernel
theorem dX5_step_55 : decode cX5_step 55 = .ok (.aload_n 0, 1) := by decide +kernel
theorem dX5_step_56 : decode cX5_step 56 = .ok (.getfield 25, 3) := by decide +kernel
theorem dX5_step_59 : decode cX5_step 59 = .ok (.baload, 1) := by decide +kernel
theorem dX5_step_60 : decode cX5_step 60 = .ok (.invokestatic 48, 3) := by decide +kernel
theorem dX5_step_63 : decode cX5_step 63 = .ok (.ifCond .eq 10, 3) := by decide +kernel
theorem dX5_step_66 : decode cX5_step 66 = .ok (.aload_n 0, 1) := by decide +kernel
theorem dX5_step_67 : decode cX5_step 67 = .ok (.invokevirtual 51, 3) := by decide +kernel
theorem dX5_step_70 : decode cX5_step 70 = .ok (.goto 7, 3) := by decide +kernel
theorem dX5_step_73 : decode cX5_step 73 = .ok (.aload_n 0, 1) := by decide +kernel
theorem dX5_step_74 : decode cX5_step 74 = .ok (.invokevirtual 54, 3) := by decide +kernel
theorem dX5_step_77 : decode cX5_step 77 = .ok (.return_, 1) := by decide +kernel
theorem dX5_skipBlanks_0 : decode cX5_skipBlanks 0 = .ok (.aload_n 0, 1) := by decide +kernel
theorem dX5_skipBlanks_1 : decode cX5_skipBlanks 1 = .ok (.getfield 25, 3) := by decide +kernel
theorem dX5_skipBlanks_4 : decode cX5_skipBlanks 4 = .ok (.aload_n 0, 1) := by decide +kernel
theorem dX5_skipBlanks_5 : decode cX5_skipBlanks 5 = .ok (.getfield 21, 3) := by decide +kernel
theorem dX5_skipBlanks_8 : decode cX5_skipBlanks 8 = .ok (.if_icmp .ge 44, 3) := by decide +kernel
theorem dX5_skipBlanks_11 : decode cX5_skipBlanks 11 = .ok (.aload_n 0, 1) := by decide +kernel
theorem dX5_skipBlanks_12 : decode cX5_skipBlanks 12 = .ok (.getfield 9, 3) := by decide +kernel
theorem dX5_skipBlanks_15 : decode cX5_skipBlanks 15 = .ok (.aload_n 0, 1) := by decide +kernel
theorem dX5_skipBlanks_16 : decode cX5_skipBlanks 16 = .ok (.getfield 25, 3) := by decide +kernel
theorem dX5_skipBlanks_19 : decode cX5_skipBlanks 19 = .ok (.baload, 1) := by decide +kernel
theorem dX5_skipBlanks_20 : decode cX5_skipBlanks 20 = .ok (.bipush 10, 2) := by decide +kernel
theorem dX5_skipBlanks_22 : decode cX5_skipBlanks 22 = .ok (.if_icmp .eq 17, 3) := by decide +kernel
theorem dX5_skipBlanks_25 : decode cX5_skipBlanks 25 = .ok (.aload_n 0, 1) := by decide +kernel
theorem dX5_skipBlanks_26 : decode cX5_skipBlanks 26 = .ok (.getfield 9, 3) := by decide +kernel
theorem dX5_skipBlanks_29 : decode cX5_skipBlanks 29 = .ok (.aload_n 0, 1) := by decide +kernel
theorem dX5_skipBlanks_30 : decode cX5_skipBlanks 30 = .ok (.getfield 25, 3) := by decide +kernel
theorem dX5_skipBlanks_33 : decode cX5_skipBlanks 33 = .ok (.baload, 1) := by decide +kernel
theorem dX5_skipBlanks_34 : decode cX5_skipBlanks 34 = .ok (.bipush 32, 2) := by decide +kernel
theorem dX5_skipBlanks_36 : decode cX5_skipBlanks 36 = .ok (.if_icmp .ne 16, 3) := by decide +kernel
theorem dX5_skipBlanks_39 : decode cX5_skipBlanks 39 = .ok (.aload_n 0, 1) := by decide +kernel
theorem dX5_skipBlanks_40 : decode cX5_skipBlanks 40 = .ok (.dup, 1) := by decide +kernel
theorem dX5_skipBlanks_41 : decode cX5_skipBlanks 41 = .ok (.getfield 25, 3) := by decide +kernel
theorem dX5_skipBlanks_44 : decode cX5_skipBlanks 44 = .ok (.iconst 1, 1) := by decide +kernel
theorem dX5_skipBlanks_45 : decode cX5_skipBlanks 45 = .ok (.iadd, 1) := by decide +kernel
theorem dX5_skipBlanks_46 : decode cX5_skipBlanks 46 = .ok (.putfield 25, 3) := by decide +kernel
theorem dX5_skipBlanks_49 : decode cX5_skipBlanks 49 = .ok (.goto (-49), 3) := by decide +kernel
theorem dX5_skipBlanks_52 : decode cX5_skipBlanks 52 = .ok (.return_, 1) := by decide +kernel
theorem dX5_takeRow_0 : decode cX5_takeRow 0 = .ok (.aload_n 0, 1) := by decide +kernel
theorem dX5_takeRow_1 : decode cX5_takeRow 1 = .ok (.getfield 9, 3) := by decide +kernel
theorem dX5_takeRow_4 : decode cX5_takeRow 4 = .ok (.aload_n 0, 1) := by decide +kernel
theorem dX5_takeRow_5 : decode cX5_takeRow 5 = .ok (.getfield 34, 3) := by decide +kernel
theorem dX5_takeRow_8 : decode cX5_takeRow 8 = .ok (.baload, 1) := by decide +kernel
theorem dX5_takeRow_9 : decode cX5_takeRow 9 = .ok (.invokestatic 44, 3) := by decide +kernel
theorem dX5_takeRow_12 : decode cX5_takeRow 12 = .ok (.istore_n 1, 1) := by decide +kernel
theorem dX5_takeRow_13 : decode cX5_takeRow 13 = .ok (.aload_n 0, 1) := by decide +kernel
theorem dX5_takeRow_14 : decode cX5_takeRow 14 = .ok (.getfield 25, 3) := by decide +kernel
theorem dX5_takeRow_17 : decode cX5_takeRow 17 = .ok (.aload_n 0, 1) := by decide +kernel
theorem dX5_takeRow_18 : decode cX5_takeRow 18 = .ok (.getfield 21, 3) := by decide +kernel
theorem dX5_takeRow_21 : decode cX5_takeRow 21 = .ok (.if_icmp .ge 68, 3) := by decide +kernel
theorem dX5_takeRow_24 : decode cX5_takeRow 24 = .ok (.aload_n 0, 1) := by decide +kernel
theorem dX5_takeRow_25 : decode cX5_takeRow 25 = .ok (.getfield 9, 3) := by decide +kernel
theorem dX5_takeRow_28 : decode cX5_takeRow 28 = .ok (.aload_n 0, 1) := by decide +kernel
theorem dX5_takeRow_29 : decode cX5_takeRow 29 = .ok (.getfield 25, 3) := by decide +kernel
theorem dX5_takeRow_32 : decode cX5_takeRow 32 = .ok (.baload, 1) := by decide +kernel
theorem dX5_takeRow_33 : decode cX5_takeRow 33 = .ok (.invokestatic 44, 3) := by decide +kernel
theorem dX5_takeRow_36 : decode cX5_takeRow 36 = .ok (.ifCond .ne 18, 3) := by decide +kernel
theorem dX5_takeRow_39 : decode cX5_takeRow 39 = .ok (.aload_n 0, 1) := by decide +kernel
theorem dX5_takeRow_40 : decode cX5_takeRow 40 = .ok (.getfield 9, 3) := by decide +kernel
theorem dX5_takeRow_43 : decode cX5_takeRow 43 = .ok (.aload_n 0, 1) := by decide +kernel
theorem dX5_takeRow_44 : decode cX5_takeRow 44 = .ok (.getfield 25, 3) := by decide +kernel
theorem dX5_takeRow_47 : decode cX5_takeRow 47 = .ok (.baload, 1) := by decide +kernel
theorem dX5_takeRow_48 : decode cX5_takeRow 48 = .ok (.invokestatic 48, 3) := by decide +kernel
theorem dX5_takeRow_51 : decode cX5_takeRow 51 = .ok (.ifCond .eq 38, 3) := by decide +kernel
theorem dX5_takeRow_54 : decode cX5_takeRow 54 = .ok (.aload_n 0, 1) := by decide +kernel
theorem dX5_takeRow_55 : decode cX5_takeRow 55 = .ok (.aload_n 0, 1) := by decide +kernel
theorem dX5_takeRow_56 : decode cX5_takeRow 56 = .ok (.getfield 37, 3) := by decide +kernel
theorem dX5_takeRow_59 : decode cX5_takeRow 59 = .ok (.bipush 8, 2) := by decide +kernel
theorem dX5_takeRow_61 : decode cX5_takeRow 61 = .ok (.lshl, 1) := by decide +kernel
theorem dX5_takeRow_62 : decode cX5_takeRow 62 = .ok (.aload_n 0, 1) := by decide +kernel
theorem dX5_takeRow_63 : decode cX5_takeRow 63 = .ok (.getfield 9, 3) := by decide +kernel
theorem dX5_takeRow_66 : decode cX5_takeRow 66 = .ok (.aload_n 0, 1) := by decide +kernel
theorem dX5_takeRow_67 : decode cX5_takeRow 67 = .ok (.getfield 25, 3) := by decide +kernel
theorem dX5_takeRow_70 : decode cX5_takeRow 70 = .ok (.baload, 1) := by decide +kernel
theorem dX5_takeRow_71 : decode cX5_takeRow 71 = .ok (.i2l, 1) := by decide +kernel
theorem dX5_takeRow_72 : decode cX5_takeRow 72 = .ok (.lor, 1) := by decide +kernel
theorem dX5_takeRow_73 : decode cX5_takeRow 73 = .ok (.putfield 37, 3) := by decide +kernel
theorem dX5_takeRow_76 : decode cX5_takeRow 76 = .ok (.aload_n 0, 1) := by decide +kernel
theorem dX5_takeRow_77 : decode cX5_takeRow 77 = .ok (.dup, 1) := by decide +kernel
theorem dX5_takeRow_78 : decode cX5_takeRow 78 = .ok (.getfield 25, 3) := by decide +kernel
theorem dX5_takeRow_81 : decode cX5_takeRow 81 = .ok (.iconst 1, 1) := by decide +kernel
theorem dX5_takeRow_82 : decode cX5_takeRow 82 = .ok (.iadd, 1) := by decide +kernel
theorem dX5_takeRow_83 : decode cX5_takeRow 83 = .ok (.putfield 25, 3) := by decide +kernel
theorem dX5_takeRow_86 : decode cX5_takeRow 86 = .ok (.goto (-73), 3) := by decide +kernel
theorem dX5_takeRow_89 : decode cX5_takeRow 89 = .ok (.iload_n 1, 1) := by decide +kernel
theorem dX5_takeRow_90 : decode cX5_takeRow 90 = .ok (.ifCond .eq 17, 3) := by decide +kernel
theorem dX5_takeRow_93 : decode cX5_takeRow 93 = .ok (.aload_n 0, 1) := by decide +kernel
theorem dX5_takeRow_94 : decode cX5_takeRow 94 = .ok (.getfield 25, 3) := by decide +kernel
theorem dX5_takeRow_97 : decode cX5_takeRow 97 = .ok (.aload_n 0, 1) := by decide +kernel
theorem dX5_takeRow_98 : decode cX5_takeRow 98 = .ok (.getfield 34, 3) := by decide +kernel
theorem dX5_takeRow_101 : decode cX5_takeRow 101 = .ok (.isub, 1) := by decide +kernel
theorem dX5_takeRow_102 : decode cX5_takeRow 102 = .ok (.bipush 8, 2) := by decide +kernel
theorem dX5_takeRow_104 : decode cX5_takeRow 104 = .ok (.if_icmp .le 16, 3) := by decide +kernel
theorem dX5_takeRow_107 : decode cX5_takeRow 107 = .ok (.aload_n 0, 1) := by decide +kernel
theorem dX5_takeRow_108 : decode cX5_takeRow 108 = .ok (.lconst 0, 1) := by decide +kernel
theorem dX5_takeRow_109 : decode cX5_takeRow 109 = .ok (.putfield 37, 3) := by decide +kernel
theorem dX5_takeRow_112 : decode cX5_takeRow 112 = .ok (.aload_n 0, 1) := by decide +kernel
theorem dX5_takeRow_113 : decode cX5_takeRow 113 = .ok (.iconst 0, 1) := by decide +kernel
theorem dX5_takeRow_114 : decode cX5_takeRow 114 = .ok (.putfield 41, 3) := by decide +kernel
theorem dX5_takeRow_117 : decode cX5_takeRow 117 = .ok (.goto 22, 3) := by decide +kernel
theorem dX5_takeRow_120 : decode cX5_takeRow 120 = .ok (.aload_n 0, 1) := by decide +kernel
theorem dX5_takeRow_121 : decode cX5_takeRow 121 = .ok (.aload_n 0, 1) := by decide +kernel
theorem dX5_takeRow_122 : decode cX5_takeRow 122 = .ok (.getfield 37, 3) := by decide +kernel
theorem dX5_takeRow_125 : decode cX5_takeRow 125 = .ok (.invokestatic 57, 3) := by decide +kernel
theorem dX5_takeRow_128 : decode cX5_takeRow 128 = .ok (.ifCond .eq 7, 3) := by decide +kernel
theorem dX5_takeRow_131 : decode cX5_takeRow 131 = .ok (.iconst 3, 1) := by decide +kernel
theorem dX5_takeRow_132 : decode cX5_takeRow 132 = .ok (.goto 4, 3) := by decide +kernel
theorem dX5_takeRow_135 : decode cX5_takeRow 135 = .ok (.iconst 4, 1) := by decide +kernel
theorem dX5_takeRow_136 : decode cX5_takeRow 136 = .ok (.putfield 41, 3) := by decide +kernel
theorem dX5_takeRow_139 : decode cX5_takeRow 139 = .ok (.return_, 1) := by decide +kernel
theorem dX5_takeSign_0 : decode cX5_takeSign 0 = .ok (.aload_n 0, 1) := by decide +kernel
theorem dX5_takeSign_1 : decode cX5_takeSign 1 = .ok (.getfield 9, 3) := by decide +kernel
theorem dX5_takeSign_4 : decode cX5_takeSign 4 = .ok (.aload_n 0, 1) := by decide +kernel
theorem dX5_takeSign_5 : decode cX5_takeSign 5 = .ok (.getfield 25, 3) := by decide +kernel
theorem dX5_takeSign_8 : decode cX5_takeSign 8 = .ok (.baload, 1) := by decide +kernel
theorem dX5_takeSign_9 : decode cX5_takeSign 9 = .ok (.istore_n 1, 1) := by decide +kernel
theorem dX5_takeSign_10 : decode cX5_takeSign 10 = .ok (.aload_n 0, 1) := by decide +kernel
theorem dX5_takeSign_11 : decode cX5_takeSign 11 = .ok (.dup, 1) := by decide +kernel
theorem dX5_takeSign_12 : decode cX5_takeSign 12 = .ok (.getfield 25, 3) := by decide +kernel
theorem dX5_takeSign_15 : decode cX5_takeSign 15 = .ok (.iconst 1, 1) := by decide +kernel
theorem dX5_takeSign_16 : decode cX5_takeSign 16 = .ok (.iadd, 1) := by decide +kernel
theorem dX5_takeSign_17 : decode cX5_takeSign 17 = .ok (.putfield 25, 3) := by decide +kernel
theorem dX5_takeSign_20 : decode cX5_takeSign 20 = .ok (.iload_n 1, 1) := by decide +kernel
theorem dX5_takeSign_21 : decode cX5_takeSign 21 = .ok (.i2l, 1) := by decide +kernel
theorem dX5_takeSign_22 : decode cX5_takeSign 22 = .ok (.ldc2_w 61, 3) := by decide +kernel
theorem dX5_takeSign_25 : decode cX5_takeSign 25 = .ok (.lcmp, 1) := by decide +kernel
theorem dX5_takeSign_26 : decode cX5_takeSign 26 = .ok (.ifCond .eq 39, 3) := by decide +kernel
theorem dX5_takeSign_29 : decode cX5_takeSign 29 = .ok (.iload_n 1, 1) := by decide +kernel
theorem dX5_takeSign_30 : decode cX5_takeSign 30 = .ok (.i2l, 1) := by decide +kernel
theorem dX5_takeSign_31 : decode cX5_takeSign 31 = .ok (.ldc2_w 63, 3) := by decide +kernel
theorem dX5_takeSign_34 : decode cX5_takeSign 34 = .ok (.lcmp, 1) := by decide +kernel
theorem dX5_takeSign_35 : decode cX5_takeSign 35 = .ok (.ifCond .eq 30, 3) := by decide +kernel
theorem dX5_takeSign_38 : decode cX5_takeSign 38 = .ok (.iload_n 1, 1) := by decide +kernel
theorem dX5_takeSign_39 : decode cX5_takeSign 39 = .ok (.i2l, 1) := by decide +kernel
theorem dX5_takeSign_40 : decode cX5_takeSign 40 = .ok (.ldc2_w 65, 3) := by decide +kernel
theorem dX5_takeSign_43 : decode cX5_takeSign 43 = .ok (.lcmp, 1) := by decide +kernel
theorem dX5_takeSign_44 : decode cX5_takeSign 44 = .ok (.ifCond .eq 21, 3) := by decide +kernel
theorem dX5_takeSign_47 : decode cX5_takeSign 47 = .ok (.iload_n 1, 1) := by decide +kernel
theorem dX5_takeSign_48 : decode cX5_takeSign 48 = .ok (.i2l, 1) := by decide +kernel
theorem dX5_takeSign_49 : decode cX5_takeSign 49 = .ok (.ldc2_w 67, 3) := by decide +kernel
theorem dX5_takeSign_52 : decode cX5_takeSign 52 = .ok (.lcmp, 1) := by decide +kernel
theorem dX5_takeSign_53 : decode cX5_takeSign 53 = .ok (.ifCond .eq 12, 3) := by decide +kernel
theorem dX5_takeSign_56 : decode cX5_takeSign 56 = .ok (.iload_n 1, 1) := by decide +kernel
theorem dX5_takeSign_57 : decode cX5_takeSign 57 = .ok (.i2l, 1) := by decide +kernel
theorem dX5_takeSign_58 : decode cX5_takeSign 58 = .ok (.ldc2_w 69, 3) := by decide +kernel
theorem dX5_takeSign_61 : decode cX5_takeSign 61 = .ok (.lcmp, 1) := by decide +kernel
theorem dX5_takeSign_62 : decode cX5_takeSign 62 = .ok (.ifCond .ne 17, 3) := by decide +kernel
theorem dX5_takeSign_65 : decode cX5_takeSign 65 = .ok (.aload_n 0, 1) := by decide +kernel
theorem dX5_takeSign_66 : decode cX5_takeSign 66 = .ok (.iload_n 1, 1) := by decide +kernel
theorem dX5_takeSign_67 : decode cX5_takeSign 67 = .ok (.i2l, 1) := by decide +kernel
theorem dX5_takeSign_68 : decode cX5_takeSign 68 = .ok (.putfield 37, 3) := by decide +kernel
theorem dX5_takeSign_71 : decode cX5_takeSign 71 = .ok (.aload_n 0, 1) := by decide +kernel
theorem dX5_takeSign_72 : decode cX5_takeSign 72 = .ok (.iconst 2, 1) := by decide +kernel
theorem dX5_takeSign_73 : decode cX5_takeSign 73 = .ok (.putfield 41, 3) := by decide +kernel
theorem dX5_takeSign_76 : decode cX5_takeSign 76 = .ok (.goto 8, 3) := by decide +kernel
theorem dX5_takeSign_79 : decode cX5_takeSign 79 = .ok (.aload_n 0, 1) := by decide +kernel
theorem dX5_takeSign_80 : decode cX5_takeSign 80 = .ok (.iconst 0, 1) := by decide +kernel
theorem dX5_takeSign_81 : decode cX5_takeSign 81 = .ok (.putfield 41, 3) := by decide +kernel
theorem dX5_takeSign_84 : decode cX5_takeSign 84 = .ok (.return_, 1) := by decide +kernel
theorem dX5_isLetter_0 : decode cX5_isLetter 0 = .ok (.iload_n 0, 1) := by decide +kernel
theorem dX5_isLetter_1 : decode cX5_isLetter 1 = .ok (.bipush 97, 2) := by decide +kernel
theorem dX5_isLetter_3 : decode cX5_isLetter 3 = .ok (.if_icmp .lt 13, 3) := by decide +kernel
theorem dX5_isLetter_6 : decode cX5_isLetter 6 = .ok (.iload_n 0, 1) := by decide +kernel
theorem dX5_isLetter_7 : decode cX5_isLetter 7 = .ok (.bipush 122, 2) := by decide +kernel
theorem dX5_isLetter_9 : decode cX5_isLetter 9 = .ok (.if_icmp .gt 7, 3) := by decide +kernel
theorem dX5_isLetter_12 : decode cX5_isLetter 12 = .ok (.iconst 1, 1) := by decide +kernel
theorem dX5_isLetter_13 : decode cX5_isLetter 13 = .ok (.goto 4, 3) := by decide +kernel
theorem dX5_isLetter_16 : decode cX5_isLetter 16 = .ok (.iconst 0, 1) := by decide +kernel
theorem dX5_isLetter_17 : decode cX5_isLetter 17 = .ok (.ireturn, 1) := by decide +kernel
theorem dX5_isDigit_0 : decode cX5_isDigit 0 = .ok (.iload_n 0, 1) := by decide +kernel
theorem dX5_isDigit_1 : decode cX5_isDigit 1 = .ok (.bipush 48, 2) := by decide +kernel
theorem dX5_isDigit_3 : decode cX5_isDigit 3 = .ok (.if_icmp .lt 13, 3) := by decide +kernel
theorem dX5_isDigit_6 : decode cX5_isDigit 6 = .ok (.iload_n 0, 1) := by decide +kernel
theorem dX5_isDigit_7 : decode cX5_isDigit 7 = .ok (.bipush 57, 2) := by decide +kernel
theorem dX5_isDigit_9 : decode cX5_isDigit 9 = .ok (.if_icmp .gt 7, 3) := by decide +kernel
theorem dX5_isDigit_12 : decode cX5_isDigit 12 = .ok (.iconst 1, 1) := by decide +kernel
theorem dX5_isDigit_13 : decode cX5_isDigit 13 = .ok (.goto 4, 3) := by decide +kernel
theorem dX5_isDigit_16 : decode cX5_isDigit 16 = .ok (.iconst 0, 1) := by decide +kernel
theorem dX5_isDigit_17 : decode cX5_isDigit 17 = .ok (.ireturn, 1) := by decide +kernel
theorem dX5_isKeyword_0 : decode cX5_isKeyword 0 = .ok (.lload_n 0, 1) := by decide +kernel
theorem dX5_isKeyword_1 : decode cX5_isKeyword 1 = .ok (.ldc2_w 71, 3) := by decide +kernel
theorem dX5_isKeyword_4 : decode cX5_isKeyword 4 = .ok (.lcmp, 1) := by decide +kernel
theorem dX5_isKeyword_5 : decode cX5_isKeyword 5 = .ok (.ifCond .eq 75, 3) := by decide +kernel
theorem dX5_isKeyword_8 : decode cX5_isKeyword 8 = .ok (.lload_n 0, 1) := by decide +kernel
theorem dX5_isKeyword_9 : decode cX5_isKeyword 9 = .ok (.ldc2_w 73, 3) := by decide +kernel
theorem dX5_isKeyword_12 : decode cX5_isKeyword 12 = .ok (.lcmp, 1) := by decide +kernel
theorem dX5_isKeyword_13 : decode cX5_isKeyword 13 = .ok (.ifCond .eq 67, 3) := by decide +kernel
theorem dX5_isKeyword_16 : decode cX5_isKeyword 16 = .ok (.lload_n 0, 1) := by decide +kernel
theorem dX5_isKeyword_17 : decode cX5_isKeyword 17 = .ok (.ldc2_w 75, 3) := by decide +kernel
theorem dX5_isKeyword_20 : decode cX5_isKeyword 20 = .ok (.lcmp, 1) := by decide +kernel
theorem dX5_isKeyword_21 : decode cX5_isKeyword 21 = .ok (.ifCond .eq 59, 3) := by decide +kernel
theorem dX5_isKeyword_24 : decode cX5_isKeyword 24 = .ok (.lload_n 0, 1) := by decide +kernel
theorem dX5_isKeyword_25 : decode cX5_isKeyword 25 = .ok (.ldc2_w 77, 3) := by decide +kernel
theorem dX5_isKeyword_28 : decode cX5_isKeyword 28 = .ok (.lcmp, 1) := by decide +kernel
theorem dX5_isKeyword_29 : decode cX5_isKeyword 29 = .ok (.ifCond .eq 51, 3) := by decide +kernel
theorem dX5_isKeyword_32 : decode cX5_isKeyword 32 = .ok (.lload_n 0, 1) := by decide +kernel
theorem dX5_isKeyword_33 : decode cX5_isKeyword 33 = .ok (.ldc2_w 79, 3) := by decide +kernel
theorem dX5_isKeyword_36 : decode cX5_isKeyword 36 = .ok (.lcmp, 1) := by decide +kernel
theorem dX5_isKeyword_37 : decode cX5_isKeyword 37 = .ok (.ifCond .eq 43, 3) := by decide +kernel
theorem dX5_isKeyword_40 : decode cX5_isKeyword 40 = .ok (.lload_n 0, 1) := by decide +kernel
theorem dX5_isKeyword_41 : decode cX5_isKeyword 41 = .ok (.ldc2_w 81, 3) := by decide +kernel
theorem dX5_isKeyword_44 : decode cX5_isKeyword 44 = .ok (.lcmp, 1) := by decide +kernel
theorem dX5_isKeyword_45 : decode cX5_isKeyword 45 = .ok (.ifCond .eq 35, 3) := by decide +kernel
theorem dX5_isKeyword_48 : decode cX5_isKeyword 48 = .ok (.lload_n 0, 1) := by decide +kernel
theorem dX5_isKeyword_49 : decode cX5_isKeyword 49 = .ok (.ldc2_w 83, 3) := by decide +kernel
theorem dX5_isKeyword_52 : decode cX5_isKeyword 52 = .ok (.lcmp, 1) := by decide +kernel
theorem dX5_isKeyword_53 : decode cX5_isKeyword 53 = .ok (.ifCond .eq 27, 3) := by decide +kernel
theorem dX5_isKeyword_56 : decode cX5_isKeyword 56 = .ok (.lload_n 0, 1) := by decide +kernel
theorem dX5_isKeyword_57 : decode cX5_isKeyword 57 = .ok (.ldc2_w 85, 3) := by decide +kernel
theorem dX5_isKeyword_60 : decode cX5_isKeyword 60 = .ok (.lcmp, 1) := by decide +kernel
theorem dX5_isKeyword_61 : decode cX5_isKeyword 61 = .ok (.ifCond .eq 19, 3) := by decide +kernel
theorem dX5_isKeyword_64 : decode cX5_isKeyword 64 = .ok (.lload_n 0, 1) := by decide +kernel
theorem dX5_isKeyword_65 : decode cX5_isKeyword 65 = .ok (.ldc2_w 87, 3) := by decide +kernel
theorem dX5_isKeyword_68 : decode cX5_isKeyword 68 = .ok (.lcmp, 1) := by decide +kernel
theorem dX5_isKeyword_69 : decode cX5_isKeyword 69 = .ok (.ifCond .eq 11, 3) := by decide +kernel
theorem dX5_isKeyword_72 : decode cX5_isKeyword 72 = .ok (.lload_n 0, 1) := by decide +kernel
theorem dX5_isKeyword_73 : decode cX5_isKeyword 73 = .ok (.ldc2_w 89, 3) := by decide +kernel
theorem dX5_isKeyword_76 : decode cX5_isKeyword 76 = .ok (.lcmp, 1) := by decide +kernel
theorem dX5_isKeyword_77 : decode cX5_isKeyword 77 = .ok (.ifCond .ne 7, 3) := by decide +kernel
theorem dX5_isKeyword_80 : decode cX5_isKeyword 80 = .ok (.iconst 1, 1) := by decide +kernel
theorem dX5_isKeyword_81 : decode cX5_isKeyword 81 = .ok (.goto 4, 3) := by decide +kernel
theorem dX5_isKeyword_84 : decode cX5_isKeyword 84 = .ok (.iconst 0, 1) := by decide +kernel
theorem dX5_isKeyword_85 : decode cX5_isKeyword 85 = .ok (.ireturn, 1) := by decide +kernel
theorem dX5_beginsConcept_0 : decode cX5_beginsConcept 0 = .ok (.aload_n 0, 1) := by decide +kernel
theorem dX5_beginsConcept_1 : decode cX5_beginsConcept 1 = .ok (.getfield 41, 3) := by decide +kernel
theorem dX5_beginsConcept_4 : decode cX5_beginsConcept 4 = .ok (.iconst 4, 1) := by decide +kernel
theorem dX5_beginsConcept_5 : decode cX5_beginsConcept 5 = .ok (.if_icmp .eq 32, 3) := by decide +kernel
theorem dX5_beginsConcept_8 : decode cX5_beginsConcept 8 = .ok (.aload_n 0, 1) := by decide +kernel
theorem dX5_beginsConcept_9 : decode cX5_beginsConcept 9 = .ok (.getfield 37, 3) := by decide +kernel
theorem dX5_beginsConcept_12 : decode cX5_beginsConcept 12 = .ok (.ldc2_w 87, 3) := by decide +kernel
theorem dX5_beginsConcept_15 : decode cX5_beginsConcept 15 = .ok (.lcmp, 1) := by decide +kernel
theorem dX5_beginsConcept_16 : decode cX5_beginsConcept 16 = .ok (.ifCond .eq 21, 3) := by decide +kernel
theorem dX5_beginsConcept_19 : decode cX5_beginsConcept 19 = .ok (.aload_n 0, 1) := by decide +kernel
theorem dX5_beginsConcept_20 : decode cX5_beginsConcept 20 = .ok (.getfield 37, 3) := by decide +kernel
theorem dX5_beginsConcept_23 : decode cX5_beginsConcept 23 = .ok (.ldc2_w 89, 3) := by decide +kernel
theorem dX5_beginsConcept_26 : decode cX5_beginsConcept 26 = .ok (.lcmp, 1) := by decide +kernel
theorem dX5_beginsConcept_27 : decode cX5_beginsConcept 27 = .ok (.ifCond .eq 10, 3) := by decide +kernel
theorem dX5_beginsConcept_30 : decode cX5_beginsConcept 30 = .ok (.aload_n 0, 1) := by decide +kernel
theorem dX5_beginsConcept_31 : decode cX5_beginsConcept 31 = .ok (.invokevirtual 91, 3) := by decide +kernel
theorem dX5_beginsConcept_34 : decode cX5_beginsConcept 34 = .ok (.ifCond .eq 7, 3) := by decide +kernel
theorem dX5_beginsConcept_37 : decode cX5_beginsConcept 37 = .ok (.iconst 1, 1) := by decide +kernel
theorem dX5_beginsConcept_38 : decode cX5_beginsConcept 38 = .ok (.goto 4, 3) := by decide +kernel
theorem dX5_beginsConcept_41 : decode cX5_beginsConcept 41 = .ok (.iconst 0, 1) := by decide +kernel
theorem dX5_beginsConcept_42 : decode cX5_beginsConcept 42 = .ok (.ireturn, 1) := by decide +kernel
theorem dX5_holdsConcept_0 : decode cX5_holdsConcept 0 = .ok (.aload_n 0, 1) := by decide +kernel
theorem dX5_holdsConcept_1 : decode cX5_holdsConcept 1 = .ok (.getfield 37, 3) := by decide +kernel
theorem dX5_holdsConcept_4 : decode cX5_holdsConcept 4 = .ok (.ldc2_w 81, 3) := by decide +kernel
theorem dX5_holdsConcept_7 : decode cX5_holdsConcept 7 = .ok (.lcmp, 1) := by decide +kernel
theorem dX5_holdsConcept_8 : decode cX5_holdsConcept 8 = .ok (.ifCond .eq 36, 3) := by decide +kernel
theorem dX5_holdsConcept_11 : decode cX5_holdsConcept 11 = .ok (.aload_n 0, 1) := by decide +kernel
theorem dX5_holdsConcept_12 : decode cX5_holdsConcept 12 = .ok (.getfield 37, 3) := by decide +kernel
theorem dX5_holdsConcept_15 : decode cX5_holdsConcept 15 = .ok (.ldc2_w 83, 3) := by decide +kernel
theorem dX5_holdsConcept_18 : decode cX5_holdsConcept 18 = .ok (.lcmp, 1) := by decide +kernel
theorem dX5_holdsConcept_19 : decode cX5_holdsConcept 19 = .ok (.ifCond .eq 25, 3) := by decide +kernel
theorem dX5_holdsConcept_22 : decode cX5_holdsConcept 22 = .ok (.aload_n 0, 1) := by decide +kernel
theorem dX5_holdsConcept_23 : decode cX5_holdsConcept 23 = .ok (.getfield 37, 3) := by decide +kernel
theorem dX5_holdsConcept_26 : decode cX5_holdsConcept 26 = .ok (.ldc2_w 85, 3) := by decide +kernel
theorem dX5_holdsConcept_29 : decode cX5_holdsConcept 29 = .ok (.lcmp, 1) := by decide +kernel
theorem dX5_holdsConcept_30 : decode cX5_holdsConcept 30 = .ok (.ifCond .eq 14, 3) := by decide +kernel
theorem dX5_holdsConcept_33 : decode cX5_holdsConcept 33 = .ok (.aload_n 0, 1) := by decide +kernel
theorem dX5_holdsConcept_34 : decode cX5_holdsConcept 34 = .ok (.getfield 37, 3) := by decide +kernel
theorem dX5_holdsConcept_37 : decode cX5_holdsConcept 37 = .ok (.ldc2_w 67, 3) := by decide +kernel
theorem dX5_holdsConcept_40 : decode cX5_holdsConcept 40 = .ok (.lcmp, 1) := by decide +kernel
theorem dX5_holdsConcept_41 : decode cX5_holdsConcept 41 = .ok (.ifCond .ne 7, 3) := by decide +kernel
theorem dX5_holdsConcept_44 : decode cX5_holdsConcept 44 = .ok (.iconst 1, 1) := by decide +kernel
theorem dX5_holdsConcept_45 : decode cX5_holdsConcept 45 = .ok (.goto 4, 3) := by decide +kernel
theorem dX5_holdsConcept_48 : decode cX5_holdsConcept 48 = .ok (.iconst 0, 1) := by decide +kernel
theorem dX5_holdsConcept_49 : decode cX5_holdsConcept 49 = .ok (.ireturn, 1) := by decide +kernel
theorem dX6_init_0 : decode cX6_init 0 = .ok (.aload_n 0, 1) := by decide +kernel
theorem dX6_init_1 : decode cX6_init 1 = .ok (.invokespecial 3, 3) := by decide +kernel
theorem dX6_init_4 : decode cX6_init 4 = .ok (.aload_n 0, 1) := by decide +kernel
theorem dX6_init_5 : decode cX6_init 5 = .ok (.sipush 512, 3) := by decide +kernel
theorem dX6_init_8 : decode cX6_init 8 = .ok (.newarray .short, 2) := by decide +kernel
theorem dX6_init_10 : decode cX6_init 10 = .ok (.putfield 9, 3) := by decide +kernel
theorem dX6_init_13 : decode cX6_init 13 = .ok (.aload_n 0, 1) := by decide +kernel
theorem dX6_init_14 : decode cX6_init 14 = .ok (.sipush 512, 3) := by decide +kernel
theorem dX6_init_17 : decode cX6_init 17 = .ok (.newarray .short, 2) := by decide +kernel
theorem dX6_init_19 : decode cX6_init 19 = .ok (.putfield 15, 3) := by decide +kernel
theorem dX6_init_22 : decode cX6_init 22 = .ok (.aload_n 0, 1) := by decide +kernel
theorem dX6_init_23 : decode cX6_init 23 = .ok (.sipush 2304, 3) := by decide +kernel
theorem dX6_init_26 : decode cX6_init 26 = .ok (.newarray .int, 2) := by decide +kernel
theorem dX6_init_28 : decode cX6_init 28 = .ok (.putfield 18, 3) := by decide +kernel
theorem dX6_init_31 : decode cX6_init 31 = .ok (.return_, 1) := by decide +kernel
theorem dX6_clear_0 : decode cX6_clear 0 = .ok (.aload_n 0, 1) := by decide +kernel
theorem dX6_clear_1 : decode cX6_clear 1 = .ok (.iconst 0, 1) := by decide +kernel
theorem dX6_clear_2 : decode cX6_clear 2 = .ok (.putfield 22, 3) := by decide +kernel
theorem dX6_clear_5 : decode cX6_clear 5 = .ok (.aload_n 0, 1) := by decide +kernel
theorem dX6_clear_6 : decode cX6_clear 6 = .ok (.iconst 0, 1) := by decide +kernel
theorem dX6_clear_7 : decode cX6_clear 7 = .ok (.putfield 26, 3) := by decide +kernel
theorem dX6_clear_10 : decode cX6_clear 10 = .ok (.iconst 0, 1) := by decide +kernel
theorem dX6_clear_11 : decode cX6_clear 11 = .ok (.istore_n 1, 1) := by decide +kernel
theorem dX6_clear_12 : decode cX6_clear 12 = .ok (.iload_n 1, 1) := by decide +kernel
theorem dX6_clear_13 : decode cX6_clear 13 = .ok (.sipush 512, 3) := by decide +kernel
theorem dX6_clear_16 : decode cX6_clear 16 = .ok (.if_icmp .ge 16, 3) := by decide +kernel
theorem dX6_clear_19 : decode cX6_clear 19 = .ok (.aload_n 0, 1) := by decide +kernel
theorem dX6_clear_20 : decode cX6_clear 20 = .ok (.getfield 15, 3) := by decide +kernel
theorem dX6_clear_23 : decode cX6_clear 23 = .ok (.iload_n 1, 1) := by decide +kernel
theorem dX6_clear_24 : decode cX6_clear 24 = .ok (.iconst (-1), 1) := by decide +kernel
theorem dX6_clear_25 : decode cX6_clear 25 = .ok (.sastore, 1) := by decide +kernel
theorem dX6_clear_26 : decode cX6_clear 26 = .ok (.iinc 1 1, 3) := by decide +kernel
theorem dX6_clear_29 : decode cX6_clear 29 = .ok (.goto (-17), 3) := by decide +kernel
theorem dX6_clear_32 : decode cX6_clear 32 = .ok (.return_, 1) := by decide +kernel
theorem dX6_build_0 : decode cX6_build 0 = .ok (.aload_n 0, 1) := by decide +kernel
theorem dX6_build_1 : decode cX6_build 1 = .ok (.invokevirtual 29, 3) := by decide +kernel
theorem dX6_build_4 : decode cX6_build 4 = .ok (.aload_n 1, 1) := by decide +kernel
theorem dX6_build_5 : decode cX6_build 5 = .ok (.iload_n 2, 1) := by decide +kernel
theorem dX6_build_6 : decode cX6_build 6 = .ok (.aload_n 1, 1) := by decide +kernel
theorem dX6_build_7 : decode cX6_build 7 = .ok (.getfield 32, 3) := by decide +kernel
theorem dX6_build_10 : decode cX6_build 10 = .ok (.invokevirtual 38, 3) := by decide +kernel
theorem dX6_build_13 : decode cX6_build 13 = .ok (.istore_n 3, 1) := by decide +kernel
theorem dX6_build_14 : decode cX6_build 14 = .ok (.iload_n 3, 1) := by decide +kernel
theorem dX6_build_15 : decode cX6_build 15 = .ok (.iconst (-1), 1) := by decide +kernel
theorem dX6_build_16 : decode cX6_build 16 = .ok (.if_icmp .ne 4, 3) := by decide +kernel
theorem dX6_build_19 : decode cX6_build 19 = .ok (.return_, 1) := by decide +kernel
theorem dX6_build_20 : decode cX6_build 20 = .ok (.aload_n 0, 1) := by decide +kernel
theorem dX6_build_21 : decode cX6_build 21 = .ok (.iload_n 3, 1) := by decide +kernel
theorem dX6_build_22 : decode cX6_build 22 = .ok (.invokevirtual 42, 3) := by decide +kernel
theorem dX6_build_25 : decode cX6_build 25 = .ok (.pop, 1) := by decide +kernel
theorem dX6_build_26 : decode cX6_build 26 = .ok (.iconst 0, 1) := by decide +kernel
theorem dX6_build_27 : decode cX6_build 27 = .ok (.istore 4, 2) := by decide +kernel
theorem dX6_build_29 : decode cX6_build 29 = .ok (.iload 4, 2) := by decide +kernel
theorem dX6_build_31 : decode cX6_build 31 = .ok (.aload_n 0, 1) := by decide +kernel
theorem dX6_build_32 : decode cX6_build 32 = .ok (.getfield 22, 3) := by decide +kernel
theorem dX6_build_35 : decode cX6_build 35 = .ok (.if_icmp .ge 24, 3) := by decide +kernel
theorem dX6_build_38 : decode cX6_build 38 = .ok (.iload 4, 2) := by decide +kernel
theorem dX6_build_40 : decode cX6_build 40 = .ok (.sipush 512, 3) := by decide +kernel
theorem dX6_build_43 : decode cX6_build 43 = .ok (.if_icmp .ge 16, 3) := by decide +kernel
theorem dX6_build_46 : decode cX6_build 46 = .ok (.aload_n 0, 1) := by decide +kernel
theorem dX6_build_47 : decode cX6_build 47 = .ok (.aload_n 1, 1) := by decide +kernel
theorem dX6_build_48 : decode cX6_build 48 = .ok (.iload 4, 2) := by decide +kernel
theorem dX6_build_50 : decode cX6_build 50 = .ok (.invokevirtual 46, 3) := by decide +kernel
theorem dX6_build_53 : decode cX6_build 53 = .ok (.iinc 4 1, 3) := by decide +kernel
theorem dX6_build_56 : decode cX6_build 56 = .ok (.goto (-27), 3) := by decide +kernel
theorem dX6_build_59 : decode cX6_build 59 = .ok (.return_, 1) := by decide +kernel
theorem dX6_addEdges_0 : decode cX6_addEdges 0 = .ok (.aload_n 0, 1) := by decide +kernel
theorem dX6_addEdges_1 : decode cX6_addEdges 1 = .ok (.getfield 9, 3) := by decide +kernel
theorem dX6_addEdges_4 : decode cX6_addEdges 4 = .ok (.iload_n 2, 1) := by decide +kernel
theorem dX6_addEdges_5 : decode cX6_addEdges 5 = .ok (.saload, 1) := by decide +kernel
theorem dX6_addEdges_6 : decode cX6_addEdges 6 = .ok (.istore_n 3, 1) := by decide +kernel
theorem dX6_addEdges_7 : decode cX6_addEdges 7 = .ok (.iconst 0, 1) := by decide +kernel
theorem dX6_addEdges_8 : decode cX6_addEdges 8 = .ok (.istore 4, 2) := by decide +kernel
theorem dX6_addEdges_10 : decode cX6_addEdges 10 = .ok (.iload 4, 2) := by decide +kernel
theorem dX6_addEdges_12 : decode cX6_addEdges 12 = .ok (.bipush 9, 2) := by decide +kernel
theorem dX6_addEdges_14 : decode cX6_addEdges 14 = .ok (.if_icmp .ge 105, 3) := by decide +kernel
theorem dX6_addEdges_17 : decode cX6_addEdges 17 = .ok (.iload_n 3, 1) := by decide +kernel
theorem dX6_addEdges_18 : decode cX6_addEdges 18 = .ok (.iload 4, 2) := by decide +kernel
theorem dX6_addEdges_20 : decode cX6_addEdges 20 = .ok (.ishr, 1) := by decide +kernel
theorem dX6_addEdges_21 : decode cX6_addEdges 21 = .ok (.iconst 1, 1) := by decide +kernel
theorem dX6_addEdges_22 : decode cX6_addEdges 22 = .ok (.iand, 1) := by decide +kernel
theorem dX6_addEdges_23 : decode cX6_addEdges 23 = .ok (.iconst 1, 1) := by decide +kernel
theorem dX6_addEdges_24 : decode cX6_addEdges 24 = .ok (.if_icmp .ne 89, 3) := by decide +kernel
theorem dX6_addEdges_27 : decode cX6_addEdges 27 = .ok (.aload_n 1, 1) := by decide +kernel
theorem dX6_addEdges_28 : decode cX6_addEdges 28 = .ok (.iload_n 3, 1) := by decide +kernel
theorem dX6_addEdges_29 : decode cX6_addEdges 29 = .ok (.iload 4, 2) := by decide +kernel
theorem dX6_addEdges_31 : decode cX6_addEdges 31 = .ok (.invokevirtual 50, 3) := by decide +kernel
theorem dX6_addEdges_34 : decode cX6_addEdges 34 = .ok (.ifCond .ne 79, 3) := by decide +kernel
theorem dX6_addEdges_37 : decode cX6_addEdges 37 = .ok (.aload_n 1, 1) := by decide +kernel
theorem dX6_addEdges_38 : decode cX6_addEdges 38 = .ok (.iload_n 3, 1) := by decide +kernel
theorem dX6_addEdges_39 : decode cX6_addEdges 39 = .ok (.iload 4, 2) := by decide +kernel
theorem dX6_addEdges_41 : decode cX6_addEdges 41 = .ok (.aload_n 1, 1) := by decide +kernel
theorem dX6_addEdges_42 : decode cX6_addEdges 42 = .ok (.getfield 32, 3) := by decide +kernel
theorem dX6_addEdges_45 : decode cX6_addEdges 45 = .ok (.invokevirtual 54, 3) := by decide +kernel
theorem dX6_addEdges_48 : decode cX6_addEdges 48 = .ok (.istore 5, 2) := by decide +kernel
theorem dX6_addEdges_50 : decode cX6_addEdges 50 = .ok (.iload 5, 2) := by decide +kernel
theorem dX6_addEdges_52 : decode cX6_addEdges 52 = .ok (.iconst (-1), 1) := by decide +kernel
theorem dX6_addEdges_53 : decode cX6_addEdges 53 = .ok (.if_icmp .eq 60, 3) := by decide +kernel
theorem dX6_addEdges_56 : decode cX6_addEdges 56 = .ok (.aload_n 0, 1) := by decide +kernel
theorem dX6_addEdges_57 : decode cX6_addEdges 57 = .ok (.getfield 26, 3) := by decide +kernel
theorem dX6_addEdges_60 : decode cX6_addEdges 60 = .ok (.sipush 2304, 3) := by decide +kernel
theorem dX6_addEdges_63 : decode cX6_addEdges 63 = .ok (.if_icmp .ge 50, 3) := by decide +kernel
theorem dX6_addEdges_66 : decode cX6_addEdges 66 = .ok (.aload_n 1, 1) := by decide +kernel
theorem dX6_addEdges_67 : decode cX6_addEdges 67 = .ok (.getfield 58, 3) := by decide +kernel
theorem dX6_addEdges_70 : decode cX6_addEdges 70 = .ok (.iload 4, 2) := by decide +kernel
theorem dX6_addEdges_72 : decode cX6_addEdges 72 = .ok (.invokevirtual 62, 3) := by decide +kernel
theorem dX6_addEdges_75 : decode cX6_addEdges 75 = .ok (.istore 6, 2) := by decide +kernel
theorem dX6_addEdges_77 : decode cX6_addEdges 77 = .ok (.aload_n 0, 1) := by decide +kernel
theorem dX6_addEdges_78 : decode cX6_addEdges 78 = .ok (.getfield 18, 3) := by decide +kernel
theorem dX6_addEdges_81 : decode cX6_addEdges 81 = .ok (.aload_n 0, 1) := by decide +kernel
theorem dX6_addEdges_82 : decode cX6_addEdges 82 = .ok (.getfield 26, 3) := by decide +kernel
theorem dX6_addEdges_85 : decode cX6_addEdges 85 = .ok (.iload_n 2, 1) := by decide +kernel
theorem dX6_addEdges_86 : decode cX6_addEdges 86 = .ok (.aload_n 0, 1) := by decide +kernel
theorem dX6_addEdges_87 : decode cX6_addEdges 87 = .ok (.iload 5, 2) := by decide +kernel
theorem dX6_addEdges_89 : decode cX6_addEdges 89 = .ok (.invokevirtual 42, 3) := by decide +kernel
theorem dX6_addEdges_92 : decode cX6_addEdges 92 = .ok (.bipush 10, 2) := by decide +kernel
theorem dX6_addEdges_94 : decode cX6_addEdges 94 = .ok (.ishl, 1) := by decide +kernel
theorem dX6_addEdges_95 : decode cX6_addEdges 95 = .ok (.ior, 1) := by decide +kernel
theorem dX6_addEdges_96 : decode cX6_addEdges 96 = .ok (.iload 6, 2) := by decide +kernel
theorem dX6_addEdges_98 : decode cX6_addEdges 98 = .ok (.bipush 20, 2) := by decide +kernel
theorem dX6_addEdges_100 : decode cX6_addEdges 100 = .ok (.ishl, 1) := by decide +kernel
theorem dX6_addEdges_101 : decode cX6_addEdges 101 = .ok (.ior, 1) := by decide +kernel
theorem dX6_addEdges_102 : decode cX6_addEdges 102 = .ok (.iastore, 1) := by decide +kernel
theorem dX6_addEdges_103 : decode cX6_addEdges 103 = .ok (.aload_n 0, 1) := by decide +kernel
theorem dX6_addEdges_104 : decode cX6_addEdges 104 = .ok (.dup, 1) := by decide +kernel
theorem dX6_addEdges_105 : decode cX6_addEdges 105 = .ok (.getfield 26, 3) := by decide +kernel
theorem dX6_addEdges_108 : decode cX6_addEdges 108 = .ok (.iconst 1, 1) := by decide +kernel
theorem dX6_addEdges_109 : decode cX6_addEdges 109 = .ok (.iadd, 1) := by decide +kernel
theorem dX6_addEdges_110 : decode cX6_addEdges 110 = .ok (.putfield 26, 3) := by decide +kernel
theorem dX6_addEdges_113 : decode cX6_addEdges 113 = .ok (.iinc 4 1, 3) := by decide +kernel
theorem dX6_addEdges_116 : decode cX6_addEdges 116 = .ok (.goto (-106), 3) := by decide +kernel
theorem dX6_addEdges_119 : decode cX6_addEdges 119 = .ok (.return_, 1) := by decide +kernel
theorem dX6_thingFor_0 : decode cX6_thingFor 0 = .ok (.iload_n 1, 1) := by decide +kernel
theorem dX6_thingFor_1 : decode cX6_thingFor 1 = .ok (.ifCond .lt 10, 3) := by decide +kernel
theorem dX6_thingFor_4 : decode cX6_thingFor 4 = .ok (.iload_n 1, 1) := by decide +kernel
theorem dX6_thingFor_5 : decode cX6_thingFor 5 = .ok (.sipush 512, 3) := by decide +kernel
theorem dX6_thingFor_8 : decode cX6_thingFor 8 = .ok (.if_icmp .lt 5, 3) := by decide +kernel
theorem dX6_thingFor_11 : decode cX6_thingFor 11 = .ok (.iconst 0, 1) := by decide +kernel
theorem dX6_thingFor_12 : decode cX6_thingFor 12 = .ok (.ireturn, 1) := by decide +kernel
theorem dX6_thingFor_13 : decode cX6_thingFor 13 = .ok (.aload_n 0, 1) := by decide +kernel
theorem dX6_thingFor_14 : decode cX6_thingFor 14 = .ok (.getfield 15, 3) := by decide +kernel
theorem dX6_thingFor_17 : decode cX6_thingFor 17 = .ok (.iload_n 1, 1) := by decide +kernel
theorem dX6_thingFor_18 : decode cX6_thingFor 18 = .ok (.saload, 1) := by decide +kernel
theorem dX6_thingFor_19 : decode cX6_thingFor 19 = .ok (.iconst (-1), 1) := by decide +kernel
theorem dX6_thingFor_20 : decode cX6_thingFor 20 = .ok (.if_icmp .ne 45, 3) := by decide +kernel
theorem dX6_thingFor_23 : decode cX6_thingFor 23 = .ok (.aload_n 0, 1) := by decide +kernel
theorem dX6_thingFor_24 : decode cX6_thingFor 24 = .ok (.getfield 22, 3) := by decide +kernel
theorem dX6_thingFor_27 : decode cX6_thingFor 27 = .ok (.sipush 512, 3) := by decide +kernel
theorem dX6_thingFor_30 : decode cX6_thingFor 30 = .ok (.if_icmp .ge 35, 3) := by decide +kernel
theorem dX6_thingFor_33 : decode cX6_thingFor 33 = .ok (.aload_n 0, 1) := by decide +kernel
theorem dX6_thingFor_34 : decode cX6_thingFor 34 = .ok (.getfield 15, 3) := by decide +kernel
theorem dX6_thingFor_37 : decode cX6_thingFor 37 = .ok (.iload_n 1, 1) := by decide +kernel
theorem dX6_thingFor_38 : decode cX6_thingFor 38 = .ok (.aload_n 0, 1) := by decide +kernel
theorem dX6_thingFor_39 : decode cX6_thingFor 39 = .ok (.getfield 22, 3) := by decide +kernel
theorem dX6_thingFor_42 : decode cX6_thingFor 42 = .ok (.i2s, 1) := by decide +kernel
theorem dX6_thingFor_43 : decode cX6_thingFor 43 = .ok (.sastore, 1) := by decide +kernel
theorem dX6_thingFor_44 : decode cX6_thingFor 44 = .ok (.aload_n 0, 1) := by decide +kernel
theorem dX6_thingFor_45 : decode cX6_thingFor 45 = .ok (.getfield 9, 3) := by decide +kernel
theorem dX6_thingFor_48 : decode cX6_thingFor 48 = .ok (.aload_n 0, 1) := by decide +kernel
theorem dX6_thingFor_49 : decode cX6_thingFor 49 = .ok (.getfield 22, 3) := by decide +kernel
theorem dX6_thingFor_52 : decode cX6_thingFor 52 = .ok (.iload_n 1, 1) := by decide +kernel
theorem dX6_thingFor_53 : decode cX6_thingFor 53 = .ok (.i2s, 1) := by decide +kernel
theorem dX6_thingFor_54 : decode cX6_thingFor 54 = .ok (.sastore, 1) := by decide +kernel
theorem dX6_thingFor_55 : decode cX6_thingFor 55 = .ok (.aload_n 0, 1) := by decide +kernel
theorem dX6_thingFor_56 : decode cX6_thingFor 56 = .ok (.dup, 1) := by decide +kernel
theorem dX6_thingFor_57 : decode cX6_thingFor 57 = .ok (.getfield 22, 3) := by decide +kernel
theorem dX6_thingFor_60 : decode cX6_thingFor 60 = .ok (.iconst 1, 1) := by decide +kernel
theorem dX6_thingFor_61 : decode cX6_thingFor 61 = .ok (.iadd, 1) := by decide +kernel
theorem dX6_thingFor_62 : decode cX6_thingFor 62 = .ok (.putfield 22, 3) := by decide +kernel
theorem dX6_thingFor_65 : decode cX6_thingFor 65 = .ok (.aload_n 0, 1) := by decide +kernel
theorem dX6_thingFor_66 : decode cX6_thingFor 66 = .ok (.getfield 15, 3) := by decide +kernel
theorem dX6_thingFor_69 : decode cX6_thingFor 69 = .ok (.iload_n 1, 1) := by decide +kernel
theorem dX6_thingFor_70 : decode cX6_thingFor 70 = .ok (.saload, 1) := by decide +kernel
theorem dX6_thingFor_71 : decode cX6_thingFor 71 = .ok (.ireturn, 1) := by decide +kernel
theorem dX6_edgeAt_0 : decode cX6_edgeAt 0 = .ok (.iload_n 1, 1) := by decide +kernel
theorem dX6_edgeAt_1 : decode cX6_edgeAt 1 = .ok (.ifCond .lt 20, 3) := by decide +kernel
theorem dX6_edgeAt_4 : decode cX6_edgeAt 4 = .ok (.iload_n 1, 1) := by decide +kernel
theorem dX6_edgeAt_5 : decode cX6_edgeAt 5 = .ok (.aload_n 0, 1) := by decide +kernel
theorem dX6_edgeAt_6 : decode cX6_edgeAt 6 = .ok (.getfield 26, 3) := by decide +kernel
theorem dX6_edgeAt_9 : decode cX6_edgeAt 9 = .ok (.if_icmp .ge 12, 3) := by decide +kernel
theorem dX6_edgeAt_12 : decode cX6_edgeAt 12 = .ok (.aload_n 0, 1) := by decide +kernel
theorem dX6_edgeAt_13 : decode cX6_edgeAt 13 = .ok (.getfield 18, 3) := by decide +kernel
theorem dX6_edgeAt_16 : decode cX6_edgeAt 16 = .ok (.iload_n 1, 1) := by decide +kernel
theorem dX6_edgeAt_17 : decode cX6_edgeAt 17 = .ok (.iaload, 1) := by decide +kernel
theorem dX6_edgeAt_18 : decode cX6_edgeAt 18 = .ok (.goto 4, 3) := by decide +kernel
theorem dX6_edgeAt_21 : decode cX6_edgeAt 21 = .ok (.iconst 0, 1) := by decide +kernel
theorem dX6_edgeAt_22 : decode cX6_edgeAt 22 = .ok (.ireturn, 1) := by decide +kernel
theorem dX6_from_0 : decode cX6_from 0 = .ok (.aload_n 0, 1) := by decide +kernel
theorem dX6_from_1 : decode cX6_from 1 = .ok (.iload_n 1, 1) := by decide +kernel
theorem dX6_from_2 : decode cX6_from 2 = .ok (.invokevirtual 67, 3) := by decide +kernel
theorem dX6_from_5 : decode cX6_from 5 = .ok (.sipush 1023, 3) := by decide +kernel
theorem dX6_from_8 : decode cX6_from 8 = .ok (.iand, 1) := by decide +kernel
theorem dX6_from_9 : decode cX6_from 9 = .ok (.ireturn, 1) := by decide +kernel
theorem dX6_to_0 : decode cX6_to 0 = .ok (.aload_n 0, 1) := by decide +kernel
theorem dX6_to_1 : decode cX6_to 1 = .ok (.iload_n 1, 1) := by decide +kernel
theorem dX6_to_2 : decode cX6_to 2 = .ok (.invokevirtual 67, 3) := by decide +kernel
theorem dX6_to_5 : decode cX6_to 5 = .ok (.bipush 10, 2) := by decide +kernel
theorem dX6_to_7 : decode cX6_to 7 = .ok (.ishr, 1) := by decide +kernel
theorem dX6_to_8 : decode cX6_to 8 = .ok (.sipush 1023, 3) := by decide +kernel
theorem dX6_to_11 : decode cX6_to 11 = .ok (.iand, 1) := by decide +kernel
theorem dX6_to_12 : decode cX6_to 12 = .ok (.ireturn, 1) := by decide +kernel
theorem dX6_role_0 : decode cX6_role 0 = .ok (.aload_n 0, 1) := by decide +kernel
theorem dX6_role_1 : decode cX6_role 1 = .ok (.iload_n 1, 1) := by decide +kernel
theorem dX6_role_2 : decode cX6_role 2 = .ok (.invokevirtual 67, 3) := by decide +kernel
theorem dX6_role_5 : decode cX6_role 5 = .ok (.bipush 20, 2) := by decide +kernel
theorem dX6_role_7 : decode cX6_role 7 = .ok (.ishr, 1) := by decide +kernel
theorem dX6_role_8 : decode cX6_role 8 = .ok (.ireturn, 1) := by decide +kernel
theorem dX7_init_0 : decode cX7_init 0 = .ok (.aload_n 0, 1) := by decide +kernel
theorem dX7_init_1 : decode cX7_init 1 = .ok (.invokespecial 3, 3) := by decide +kernel
theorem dX7_init_4 : decode cX7_init 4 = .ok (.aload_n 0, 1) := by decide +kernel
theorem dX7_init_5 : decode cX7_init 5 = .ok (.sipush 2000, 3) := by decide +kernel
theorem dX7_init_8 : decode cX7_init 8 = .ok (.newarray .byte, 2) := by decide +kernel
theorem dX7_init_10 : decode cX7_init 10 = .ok (.putfield 9, 3) := by decide +kernel
theorem dX7_init_13 : decode cX7_init 13 = .ok (.aload_n 0, 1) := by decide +kernel
theorem dX7_init_14 : decode cX7_init 14 = .ok (.new 13, 3) := by decide +kernel
theorem dX7_init_17 : decode cX7_init 17 = .ok (.dup, 1) := by decide +kernel
theorem dX7_init_18 : decode cX7_init 18 = .ok (.invokespecial 15, 3) := by decide +kernel
theorem dX7_init_21 : decode cX7_init 21 = .ok (.putfield 16, 3) := by decide +kernel
theorem dX7_init_24 : decode cX7_init 24 = .ok (.aload_n 0, 1) := by decide +kernel
theorem dX7_init_25 : decode cX7_init 25 = .ok (.new 13, 3) := by decide +kernel
theorem dX7_init_28 : decode cX7_init 28 = .ok (.dup, 1) := by decide +kernel
theorem dX7_init_29 : decode cX7_init 29 = .ok (.invokespecial 15, 3) := by decide +kernel
theorem dX7_init_32 : decode cX7_init 32 = .ok (.putfield 20, 3) := by decide +kernel
theorem dX7_init_35 : decode cX7_init 35 = .ok (.aload_n 0, 1) := by decide +kernel
theorem dX7_init_36 : decode cX7_init 36 = .ok (.new 23, 3) := by decide +kernel
theorem dX7_init_39 : decode cX7_init 39 = .ok (.dup, 1) := by decide +kernel
theorem dX7_init_40 : decode cX7_init 40 = .ok (.aload_n 0, 1) := by decide +kernel
theorem dX7_init_41 : decode cX7_init 41 = .ok (.getfield 9, 3) := by decide +kernel
theorem dX7_init_44 : decode cX7_init 44 = .ok (.aload_n 0, 1) := by decide +kernel
theorem dX7_init_45 : decode cX7_init 45 = .ok (.getfield 20, 3) := by decide +kernel
theorem dX7_init_48 : decode cX7_init 48 = .ok (.invokespecial 25, 3) := by decide +kernel
theorem dX7_init_51 : decode cX7_init 51 = .ok (.putfield 28, 3) := by decide +kernel
theorem dX7_init_54 : decode cX7_init 54 = .ok (.aload_n 0, 1) := by decide +kernel
theorem dX7_init_55 : decode cX7_init 55 = .ok (.new 32, 3) := by decide +kernel
theorem dX7_init_58 : decode cX7_init 58 = .ok (.dup, 1) := by decide +kernel
theorem dX7_init_59 : decode cX7_init 59 = .ok (.aload_n 0, 1) := by decide +kernel
theorem dX7_init_60 : decode cX7_init 60 = .ok (.getfield 16, 3) := by decide +kernel
theorem dX7_init_63 : decode cX7_init 63 = .ok (.invokespecial 34, 3) := by decide +kernel
theorem dX7_init_66 : decode cX7_init 66 = .ok (.putfield 37, 3) := by decide +kernel
theorem dX7_init_69 : decode cX7_init 69 = .ok (.aload_n 0, 1) := by decide +kernel
theorem dX7_init_70 : decode cX7_init 70 = .ok (.new 41, 3) := by decide +kernel
theorem dX7_init_73 : decode cX7_init 73 = .ok (.dup, 1) := by decide +kernel
theorem dX7_init_74 : decode cX7_init 74 = .ok (.invokespecial 43, 3) := by decide +kernel
theorem dX7_init_77 : decode cX7_init 77 = .ok (.putfield 44, 3) := by decide +kernel
theorem dX7_init_80 : decode cX7_init 80 = .ok (.aload_n 0, 1) := by decide +kernel
theorem dX7_init_81 : decode cX7_init 81 = .ok (.new 48, 3) := by decide +kernel
theorem dX7_init_84 : decode cX7_init 84 = .ok (.dup, 1) := by decide +kernel
theorem dX7_init_85 : decode cX7_init 85 = .ok (.aload_n 0, 1) := by decide +kernel
theorem dX7_init_86 : decode cX7_init 86 = .ok (.getfield 16, 3) := by decide +kernel
theorem dX7_init_89 : decode cX7_init 89 = .ok (.invokespecial 50, 3) := by decide +kernel
theorem dX7_init_92 : decode cX7_init 92 = .ok (.putfield 51, 3) := by decide +kernel
theorem dX7_init_95 : decode cX7_init 95 = .ok (.return_, 1) := by decide +kernel
theorem dX7_feed_0 : decode cX7_feed 0 = .ok (.aload_n 0, 1) := by decide +kernel
theorem dX7_feed_1 : decode cX7_feed 1 = .ok (.getfield 55, 3) := by decide +kernel
theorem dX7_feed_4 : decode cX7_feed 4 = .ok (.sipush 1980, 3) := by decide +kernel
theorem dX7_feed_7 : decode cX7_feed 7 = .ok (.if_icmp .le 6, 3) := by decide +kernel
theorem dX7_feed_10 : decode cX7_feed 10 = .ok (.bipush (-104), 2) := by decide +kernel
theorem dX7_feed_12 : decode cX7_feed 12 = .ok (.ireturn, 1) := by decide +kernel
theorem dX7_feed_13 : decode cX7_feed 13 = .ok (.aload_n 0, 1) := by decide +kernel
theorem dX7_feed_14 : decode cX7_feed 14 = .ok (.iload_n 1, 1) := by decide +kernel
theorem dX7_feed_15 : decode cX7_feed 15 = .ok (.invokevirtual 59, 3) := by decide +kernel
theorem dX7_feed_18 : decode cX7_feed 18 = .ok (.aload_n 0, 1) := by decide +kernel
theorem dX7_feed_19 : decode cX7_feed 19 = .ok (.iload_n 2, 1) := by decide +kernel
theorem dX7_feed_20 : decode cX7_feed 20 = .ok (.invokevirtual 59, 3) := by decide +kernel
theorem dX7_feed_23 : decode cX7_feed 23 = .ok (.aload_n 0, 1) := by decide +kernel
theorem dX7_feed_24 : decode cX7_feed 24 = .ok (.iload_n 3, 1) := by decide +kernel
theorem dX7_feed_25 : decode cX7_feed 25 = .ok (.invokevirtual 59, 3) := by decide +kernel
theorem dX7_feed_28 : decode cX7_feed 28 = .ok (.aload_n 0, 1) := by decide +kernel
theorem dX7_feed_29 : decode cX7_feed 29 = .ok (.iload 4, 2) := by decide +kernel
theorem dX7_feed_31 : decode cX7_feed 31 = .ok (.invokevirtual 59, 3) := by decide +kernel
theorem dX7_feed_34 : decode cX7_feed 34 = .ok (.aload_n 0, 1) := by decide +kernel
theorem dX7_feed_35 : decode cX7_feed 35 = .ok (.iload 5, 2) := by decide +kernel
theorem dX7_feed_37 : decode cX7_feed 37 = .ok (.invokevirtual 59, 3) := by decide +kernel
theorem dX7_feed_40 : decode cX7_feed 40 = .ok (.aload_n 0, 1) := by decide +kernel
theorem dX7_feed_41 : decode cX7_feed 41 = .ok (.getfield 55, 3) := by decide +kernel
theorem dX7_feed_44 : decode cX7_feed 44 = .ok (.ireturn, 1) := by decide +kernel
theorem dX7_feedOne_0 : decode cX7_feedOne 0 = .ok (.bipush 24, 2) := by decide +kernel
theorem dX7_feedOne_2 : decode cX7_feedOne 2 = .ok (.istore_n 2, 1) := by decide +kernel
theorem dX7_feedOne_3 : decode cX7_feedOne 3 = .ok (.iload_n 2, 1) := by decide +kernel
theorem dX7_feedOne_4 : decode cX7_feedOne 4 = .ok (.ifCond .lt 51, 3) := by decide +kernel
theorem dX7_feedOne_7 : decode cX7_feedOne 7 = .ok (.aload_n 0, 1) := by decide +kernel
theorem dX7_feedOne_8 : decode cX7_feedOne 8 = .ok (.getfield 55, 3) := by decide +kernel
theorem dX7_feedOne_11 : decode cX7_feedOne 11 = .ok (.ifCond .lt 38, 3) := by decide +kernel
theorem dX7_feedOne_14 : decode cX7_feedOne 14 = .ok (.aload_n 0, 1) := by decide +kernel
theorem dX7_feedOne_15 : decode cX7_feedOne 15 = .ok (.getfield 55, 3) := by decide +kernel
theorem dX7_feedOne_18 : decode cX7_feedOne 18 = .ok (.aload_n 0, 1) := by decide +kernel
theorem dX7_feedOne_19 : decode cX7_feedOne 19 = .ok (.getfield 9, 3) := by decide +kernel
theorem dX7_feedOne_22 : decode cX7_feedOne 22 = .ok (.arraylength, 1) := by decide +kernel
theorem dX7_feedOne_23 : decode cX7_feedOne 23 = .ok (.if_icmp .ge 26, 3) := by decide +kernel
theorem dX7_feedOne_26 : decode cX7_feedOne 26 = .ok (.aload_n 0, 1) := by decide +kernel
theorem dX7_feedOne_27 : decode cX7_feedOne 27 = .ok (.getfield 9, 3) := by decide +kernel
theorem dX7_feedOne_30 : decode cX7_feedOne 30 = .ok (.aload_n 0, 1) := by decide +kernel
theorem dX7_feedOne_31 : decode cX7_feedOne 31 = .ok (.getfield 55, 3) := by decide +kernel
theorem dX7_feedOne_34 : decode cX7_feedOne 34 = .ok (.iload_n 1, 1) := by decide +kernel
theorem dX7_feedOne_35 : decode cX7_feedOne 35 = .ok (.iload_n 2, 1) := by decide +kernel
theorem dX7_feedOne_36 : decode cX7_feedOne 36 = .ok (.ishr, 1) := by decide +kernel
theorem dX7_feedOne_37 : decode cX7_feedOne 37 = .ok (.i2b, 1) := by decide +kernel
theorem dX7_feedOne_38 : decode cX7_feedOne 38 = .ok (.bastore, 1) := by decide +kernel
theorem dX7_feedOne_39 : decode cX7_feedOne 39 = .ok (.aload_n 0, 1) := by decide +kernel
theorem dX7_feedOne_40 : decode cX7_feedOne 40 = .ok (.dup, 1) := by decide +kernel
theorem dX7_feedOne_41 : decode cX7_feedOne 41 = .ok (.getfield 55, 3) := by decide +kernel
theorem dX7_feedOne_44 : decode cX7_feedOne 44 = .ok (.iconst 1, 1) := by decide +kernel
theorem dX7_feedOne_45 : decode cX7_feedOne 45 = .ok (.iadd, 1) := by decide +kernel
theorem dX7_feedOne_46 : decode cX7_feedOne 46 = .ok (.putfield 55, 3) := by decide +kernel
theorem dX7_feedOne_49 : decode cX7_feedOne 49 = .ok (.iinc 2 (-8), 3) := by decide +kernel
theorem dX7_feedOne_52 : decode cX7_feedOne 52 = .ok (.goto (-49), 3) := by decide +kernel
theorem dX7_feedOne_55 : decode cX7_feedOne 55 = .ok (.return_, 1) := by decide +kernel
theorem dX7_cut_0 : decode cX7_cut 0 = .ok (.iload_n 1, 1) := by decide +kernel
theorem dX7_cut_1 : decode cX7_cut 1 = .ok (.ifCond .lt 11, 3) := by decide +kernel
theorem dX7_cut_4 : decode cX7_cut 4 = .ok (.iload_n 1, 1) := by decide +kernel
theorem dX7_cut_5 : decode cX7_cut 5 = .ok (.aload_n 0, 1) := by decide +kernel
theorem dX7_cut_6 : decode cX7_cut 6 = .ok (.getfield 55, 3) := by decide +kernel
theorem dX7_cut_9 : decode cX7_cut 9 = .ok (.if_icmp .le 6, 3) := by decide +kernel
theorem dX7_cut_12 : decode cX7_cut 12 = .ok (.bipush (-103), 2) := by decide +kernel
theorem dX7_cut_14 : decode cX7_cut 14 = .ok (.ireturn, 1) := by decide +kernel
theorem dX7_cut_15 : decode cX7_cut 15 = .ok (.aload_n 0, 1) := by decide +kernel
theorem dX7_cut_16 : decode cX7_cut 16 = .ok (.getfield 55, 3) := by decide +kernel
theorem dX7_cut_19 : decode cX7_cut 19 = .ok (.iload_n 1, 1) := by decide +kernel
theorem dX7_cut_20 : decode cX7_cut 20 = .ok (.isub, 1) := by decide +kernel
theorem dX7_cut_21 : decode cX7_cut 21 = .ok (.istore_n 2, 1) := by decide +kernel
theorem dX7_cut_22 : decode cX7_cut 22 = .ok (.aload_n 0, 1) := by decide +kernel
theorem dX7_cut_23 : decode cX7_cut 23 = .ok (.iload_n 1, 1) := by decide +kernel
theorem dX7_cut_24 : decode cX7_cut 24 = .ok (.putfield 55, 3) := by decide +kernel
theorem dX7_cut_27 : decode cX7_cut 27 = .ok (.iload_n 2, 1) := by decide +kernel
theorem dX7_cut_28 : decode cX7_cut 28 = .ok (.ireturn, 1) := by decide +kernel
theorem dX7_read_0 : decode cX7_read 0 = .ok (.aload_n 0, 1) := by decide +kernel
theorem dX7_read_1 : decode cX7_read 1 = .ok (.getfield 28, 3) := by decide +kernel
theorem dX7_read_4 : decode cX7_read 4 = .ok (.aload_n 0, 1) := by decide +kernel
theorem dX7_read_5 : decode cX7_read 5 = .ok (.getfield 55, 3) := by decide +kernel
theorem dX7_read_8 : decode cX7_read 8 = .ok (.aload_n 0, 1) := by decide +kernel
theorem dX7_read_9 : decode cX7_read 9 = .ok (.getfield 20, 3) := by decide +kernel
theorem dX7_read_12 : decode cX7_read 12 = .ok (.invokevirtual 63, 3) := by decide +kernel
theorem dX7_read_15 : decode cX7_read 15 = .ok (.istore_n 1, 1) := by decide +kernel
theorem dX7_read_16 : decode cX7_read 16 = .ok (.aload_n 0, 1) := by decide +kernel
theorem dX7_read_17 : decode cX7_read 17 = .ok (.iconst 0, 1) := by decide +kernel
theorem dX7_read_18 : decode cX7_read 18 = .ok (.putfield 55, 3) := by decide +kernel
theorem dX7_read_21 : decode cX7_read 21 = .ok (.iload_n 1, 1) := by decide +kernel
theorem dX7_read_22 : decode cX7_read 22 = .ok (.ifCond .ne 12, 3) := by decide +kernel
theorem dX7_read_25 : decode cX7_read 25 = .ok (.aload_n 0, 1) := by decide +kernel
theorem dX7_read_26 : decode cX7_read 26 = .ok (.getfield 28, 3) := by decide +kernel
theorem dX7_read_29 : decode cX7_read 29 = .ok (.getfield 67, 3) := by decide +kernel
theorem dX7_read_32 : decode cX7_read 32 = .ok (.ineg, 1) := by decide +kernel
theorem dX7_read_33 : decode cX7_read 33 = .ok (.ireturn, 1) := by decide +kernel
