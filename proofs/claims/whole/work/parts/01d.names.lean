theorem dX2_takeFair_81 : decode cX2_takeFair 81 = .ok (.iload 7, 2) := by decide +kernel
theorem dX2_takeFair_83 : decode cX2_takeFair 83 = .ok (.invokevirtual 154, 3) := by decide +kernel
theorem dX2_takeFair_86 : decode cX2_takeFair 86 = .ok (.iload_n 3, 1) := by decide +kernel
theorem dX2_takeFair_87 : decode cX2_takeFair 87 = .ok (.invokevirtual 157, 3) := by decide +kernel
theorem dX2_takeFair_90 : decode cX2_takeFair 90 = .ok (.ldc2_w 88, 3) := by decide +kernel
theorem dX2_takeFair_93 : decode cX2_takeFair 93 = .ok (.lxor, 1) := by decide +kernel
theorem dX2_takeFair_94 : decode cX2_takeFair 94 = .ok (.land, 1) := by decide +kernel
theorem dX2_takeFair_95 : decode cX2_takeFair 95 = .ok (.lstore 5, 2) := by decide +kernel
theorem dX2_takeFair_97 : decode cX2_takeFair 97 = .ok (.iinc 7 1, 3) := by decide +kernel
theorem dX2_takeFair_100 : decode cX2_takeFair 100 = .ok (.goto (-48), 3) := by decide +kernel
theorem dX2_takeFair_103 : decode cX2_takeFair 103 = .ok (.aload_n 2, 1) := by decide +kernel
theorem dX2_takeFair_104 : decode cX2_takeFair 104 = .ok (.iload_n 3, 1) := by decide +kernel
theorem dX2_takeFair_105 : decode cX2_takeFair 105 = .ok (.lload 5, 2) := by decide +kernel
theorem dX2_takeFair_107 : decode cX2_takeFair 107 = .ok (.lastore, 1) := by decide +kernel
theorem dX2_takeFair_108 : decode cX2_takeFair 108 = .ok (.iinc 3 1, 3) := by decide +kernel
theorem dX2_takeFair_111 : decode cX2_takeFair 111 = .ok (.goto (-109), 3) := by decide +kernel
theorem dX2_takeFair_114 : decode cX2_takeFair 114 = .ok (.return_, 1) := by decide +kernel
set_option maxRecDepth 20000 in
theorem ggX2_broken_X0_leftOf : GoodIn wsX2_broken wsX0_leftOf := goodIn_r _ [5] (by decide +kernel) (by decide +kernel)
set_option maxRecDepth 20000 in
theorem gX2_broken_X0_leftOf : GoodIn wsX2_broken (va_wsS RX2 160 yX0_leftOf wsX0_leftOf) := goodIn_app (goodIn_of _ (by decide +kernel)) ggX2_broken_X0_leftOf
set_option maxRecDepth 20000 in
theorem ggX2_broken_X2_truthOf : GoodIn wsX2_broken wsX2_truthOf := goodIn_r _ [10, 11, 18, 19, 20, 21, 22, 23, 24, 25, 26, 27, 28, 29, 30, 31, 32] (by decide +kernel) (by decide +kernel)
set_option maxRecDepth 20000 in
theorem gX2_broken_X2_truthOf : GoodIn wsX2_broken (wsV RX2 81 RX2 yX2_truthOf wsX2_truthOf) := goodIn_app (goodIn_of _ (by decide +kernel)) ggX2_broken_X2_truthOf
set_option maxRecDepth 20000 in
theorem ggX2_broken_X0_rightOf : GoodIn wsX2_broken wsX0_rightOf := goodIn_r _ [14] (by decide +kernel) (by decide +kernel)
set_option maxRecDepth 20000 in
theorem gX2_broken_X0_rightOf : GoodIn wsX2_broken (va_wsS RX2 161 yX0_rightOf wsX0_rightOf) := goodIn_app (goodIn_of _ (by decide +kernel)) ggX2_broken_X0_rightOf
set_option maxRecDepth 20000 in
theorem ggX2_broken_X0_sortOf : GoodIn wsX2_broken wsX0_sortOf := goodIn_r _ [17] (by decide +kernel) (by decide +kernel)
set_option maxRecDepth 20000 in
theorem gX2_broken_X0_sortOf : GoodIn wsX2_broken (va_wsS RX2 162 yX0_sortOf wsX0_sortOf) := goodIn_app (goodIn_of _ (by decide +kernel)) ggX2_broken_X0_sortOf
theorem dX2_broken_0 : decode cX2_broken 0 = .ok (.aload_n 0, 1) := by decide +kernel
theorem dX2_broken_1 : decode cX2_broken 1 = .ok (.iload_n 1, 1) := by decide +kernel
theorem dX2_broken_2 : decode cX2_broken 2 = .ok (.invokestatic 160, 3) := by decide +kernel
theorem dX2_broken_5 : decode cX2_broken 5 = .ok (.iload_n 2, 1) := by decide +kernel
theorem dX2_broken_6 : decode cX2_broken 6 = .ok (.invokevirtual 81, 3) := by decide +kernel
theorem dX2_broken_9 : decode cX2_broken 9 = .ok (.lstore_n 3, 1) := by decide +kernel
theorem dX2_broken_10 : decode cX2_broken 10 = .ok (.aload_n 0, 1) := by decide +kernel
theorem dX2_broken_11 : decode cX2_broken 11 = .ok (.iload_n 1, 1) := by decide +kernel
theorem dX2_broken_12 : decode cX2_broken 12 = .ok (.invokestatic 161, 3) := by decide +kernel
theorem dX2_broken_15 : decode cX2_broken 15 = .ok (.iload_n 2, 1) := by decide +kernel
theorem dX2_broken_16 : decode cX2_broken 16 = .ok (.invokevirtual 81, 3) := by decide +kernel
theorem dX2_broken_19 : decode cX2_broken 19 = .ok (.lstore 5, 2) := by decide +kernel
theorem dX2_broken_21 : decode cX2_broken 21 = .ok (.iload_n 1, 1) := by decide +kernel
theorem dX2_broken_22 : decode cX2_broken 22 = .ok (.invokestatic 162, 3) := by decide +kernel
theorem dX2_broken_25 : decode cX2_broken 25 = .ok (.iconst 1, 1) := by decide +kernel
theorem dX2_broken_26 : decode cX2_broken 26 = .ok (.if_icmp .ne 10, 3) := by decide +kernel
theorem dX2_broken_29 : decode cX2_broken 29 = .ok (.lload_n 3, 1) := by decide +kernel
theorem dX2_broken_30 : decode cX2_broken 30 = .ok (.lload 5, 2) := by decide +kernel
theorem dX2_broken_32 : decode cX2_broken 32 = .ok (.lxor, 1) := by decide +kernel
theorem dX2_broken_33 : decode cX2_broken 33 = .ok (.goto 11, 3) := by decide +kernel
theorem dX2_broken_36 : decode cX2_broken 36 = .ok (.lload_n 3, 1) := by decide +kernel
theorem dX2_broken_37 : decode cX2_broken 37 = .ok (.lload 5, 2) := by decide +kernel
theorem dX2_broken_39 : decode cX2_broken 39 = .ok (.ldc2_w 88, 3) := by decide +kernel
theorem dX2_broken_42 : decode cX2_broken 42 = .ok (.lxor, 1) := by decide +kernel
theorem dX2_broken_43 : decode cX2_broken 43 = .ok (.land, 1) := by decide +kernel
theorem dX2_broken_44 : decode cX2_broken 44 = .ok (.lreturn, 1) := by decide +kernel
set_option maxRecDepth 20000 in
theorem ggX2_settle_X2_goRound : GoodIn wsX2_settle wsX2_goRound := goodIn_r _ [5, 6, 7, 8, 9, 10, 11, 12, 13, 14, 15, 16, 17, 4, 18, 19, 20, 21, 22, 23, 24, 25, 26, 27, 28, 29, 30, 31, 32, 33, 34, 35, 36, 37, 38, 39, 40, 41, 42, 43, 44, 45, 46, 47, 48, 49, 50, 51, 52, 53, 54, 55, 56, 57, 58, 59, 60, 61, 62, 63, 64, 65, 66, 67, 68, 69, 70, 71, 72, 73, 74, 75, 76, 77, 78, 79, 80, 81, 82, 83, 84, 85, 86, 87, 88, 89, 90, 91, 92, 93, 94, 95, 96, 97, 98] (by decide +kernel) (by decide +kernel)
set_option maxRecDepth 20000 in
theorem gX2_settle_X2_goRound : GoodIn wsX2_settle (wsV RX2 163 RX2 yX2_goRound wsX2_goRound) := goodIn_app (goodIn_of _ (by decide +kernel)) ggX2_settle_X2_goRound
theorem dX2_settle_0 : decode cX2_settle 0 = .ok (.iconst 1, 1) := by decide +kernel
theorem dX2_settle_1 : decode cX2_settle 1 = .ok (.istore_n 3, 1) := by decide +kernel
theorem dX2_settle_2 : decode cX2_settle 2 = .ok (.iload_n 3, 1) := by decide +kernel
theorem dX2_settle_3 : decode cX2_settle 3 = .ok (.sipush 512, 3) := by decide +kernel
theorem dX2_settle_6 : decode cX2_settle 6 = .ok (.if_icmp .gt 30, 3) := by decide +kernel
theorem dX2_settle_9 : decode cX2_settle 9 = .ok (.aload_n 0, 1) := by decide +kernel
theorem dX2_settle_10 : decode cX2_settle 10 = .ok (.aload_n 1, 1) := by decide +kernel
theorem dX2_settle_11 : decode cX2_settle 11 = .ok (.iload_n 2, 1) := by decide +kernel
theorem dX2_settle_12 : decode cX2_settle 12 = .ok (.ifCond .eq 7, 3) := by decide +kernel
theorem dX2_settle_15 : decode cX2_settle 15 = .ok (.iload_n 3, 1) := by decide +kernel
theorem dX2_settle_16 : decode cX2_settle 16 = .ok (.goto 4, 3) := by decide +kernel
theorem dX2_settle_19 : decode cX2_settle 19 = .ok (.iconst 0, 1) := by decide +kernel
theorem dX2_settle_20 : decode cX2_settle 20 = .ok (.invokevirtual 163, 3) := by decide +kernel
theorem dX2_settle_23 : decode cX2_settle 23 = .ok (.ifCond .ne 7, 3) := by decide +kernel
theorem dX2_settle_26 : decode cX2_settle 26 = .ok (.iload_n 3, 1) := by decide +kernel
theorem dX2_settle_27 : decode cX2_settle 27 = .ok (.iconst 1, 1) := by decide +kernel
theorem dX2_settle_28 : decode cX2_settle 28 = .ok (.isub, 1) := by decide +kernel
theorem dX2_settle_29 : decode cX2_settle 29 = .ok (.ireturn, 1) := by decide +kernel
theorem dX2_settle_30 : decode cX2_settle 30 = .ok (.iinc 3 1, 3) := by decide +kernel
theorem dX2_settle_33 : decode cX2_settle 33 = .ok (.goto (-31), 3) := by decide +kernel
theorem dX2_settle_36 : decode cX2_settle 36 = .ok (.sipush 512, 3) := by decide +kernel
theorem dX2_settle_39 : decode cX2_settle 39 = .ok (.ireturn, 1) := by decide +kernel
set_option maxRecDepth 20000 in
theorem ggX2_goRound_X2_isMet : GoodIn wsX2_goRound wsX2_isMet := goodIn_r _ [14, 15, 16, 1, 17, 18, 19, 20, 21, 22, 23, 24, 25, 26, 13, 27, 28, 29, 30, 31, 32, 33, 34, 35, 36, 37, 38, 39, 40, 41, 42, 43, 44, 45, 46, 47, 48, 55, 56, 57, 58, 59, 60, 61, 62, 63, 64, 65, 66, 67, 68, 69, 70, 71, 72, 73, 74, 75, 76, 77, 78, 79, 80, 81, 82, 83, 84, 85, 86, 87, 88, 89, 90, 91, 92, 93, 94] (by decide +kernel) (by decide +kernel)
set_option maxRecDepth 20000 in
theorem gX2_goRound_X2_isMet : GoodIn wsX2_goRound (wsV RX2 166 RX2 yX2_isMet wsX2_isMet) := goodIn_app (goodIn_of _ (by decide +kernel)) ggX2_goRound_X2_isMet
set_option maxRecDepth 20000 in
theorem ggX2_goRound_X2_put : GoodIn wsX2_goRound wsX2_put := goodIn_r _ [51, 32] (by decide +kernel) (by decide +kernel)
set_option maxRecDepth 20000 in
theorem gX2_goRound_X2_put : GoodIn wsX2_goRound (va_wsS RX2 169 yX2_put wsX2_put) := goodIn_app (goodIn_of _ (by decide +kernel)) ggX2_goRound_X2_put
set_option maxRecDepth 20000 in
theorem ggX2_goRound_X2_has : GoodIn wsX2_goRound wsX2_has := goodIn_r _ [54] (by decide +kernel) (by decide +kernel)
set_option maxRecDepth 20000 in
theorem gX2_goRound_X2_has : GoodIn wsX2_goRound (va_wsS RX2 106 yX2_has wsX2_has) := goodIn_app (goodIn_of _ (by decide +kernel)) ggX2_goRound_X2_has
theorem dX2_goRound_0 : decode cX2_goRound 0 = .ok (.aload_n 1, 1) := by decide +kernel
theorem dX2_goRound_1 : decode cX2_goRound 1 = .ok (.iconst 0, 1) := by decide +kernel
theorem dX2_goRound_2 : decode cX2_goRound 2 = .ok (.aload_n 0, 1) := by decide +kernel
theorem dX2_goRound_3 : decode cX2_goRound 3 = .ok (.getfield 34, 3) := by decide +kernel
theorem dX2_goRound_6 : decode cX2_goRound 6 = .ok (.iconst 0, 1) := by decide +kernel
theorem dX2_goRound_7 : decode cX2_goRound 7 = .ok (.bipush 8, 2) := by decide +kernel
theorem dX2_goRound_9 : decode cX2_goRound 9 = .ok (.invokestatic 100, 3) := by decide +kernel
theorem dX2_goRound_12 : decode cX2_goRound 12 = .ok (.iconst 0, 1) := by decide +kernel
theorem dX2_goRound_13 : decode cX2_goRound 13 = .ok (.istore_n 3, 1) := by decide +kernel
theorem dX2_goRound_14 : decode cX2_goRound 14 = .ok (.iconst 0, 1) := by decide +kernel
theorem dX2_goRound_15 : decode cX2_goRound 15 = .ok (.istore 4, 2) := by decide +kernel
theorem dX2_goRound_17 : decode cX2_goRound 17 = .ok (.iload 4, 2) := by decide +kernel
theorem dX2_goRound_19 : decode cX2_goRound 19 = .ok (.aload_n 0, 1) := by decide +kernel
theorem dX2_goRound_20 : decode cX2_goRound 20 = .ok (.getfield 67, 3) := by decide +kernel
theorem dX2_goRound_23 : decode cX2_goRound 23 = .ok (.if_icmp .ge 94, 3) := by decide +kernel
theorem dX2_goRound_26 : decode cX2_goRound 26 = .ok (.iload 4, 2) := by decide +kernel
theorem dX2_goRound_28 : decode cX2_goRound 28 = .ok (.sipush 512, 3) := by decide +kernel
theorem dX2_goRound_31 : decode cX2_goRound 31 = .ok (.if_icmp .ge 86, 3) := by decide +kernel
theorem dX2_goRound_34 : decode cX2_goRound 34 = .ok (.iload 4, 2) := by decide +kernel
theorem dX2_goRound_36 : decode cX2_goRound 36 = .ok (.aload_n 0, 1) := by decide +kernel
theorem dX2_goRound_37 : decode cX2_goRound 37 = .ok (.getfield 144, 3) := by decide +kernel
theorem dX2_goRound_40 : decode cX2_goRound 40 = .ok (.iand, 1) := by decide +kernel
theorem dX2_goRound_41 : decode cX2_goRound 41 = .ok (.istore 5, 2) := by decide +kernel
theorem dX2_goRound_43 : decode cX2_goRound 43 = .ok (.iload 5, 2) := by decide +kernel
theorem dX2_goRound_45 : decode cX2_goRound 45 = .ok (.iload 4, 2) := by decide +kernel
theorem dX2_goRound_47 : decode cX2_goRound 47 = .ok (.if_icmp .ne 18, 3) := by decide +kernel
theorem dX2_goRound_50 : decode cX2_goRound 50 = .ok (.aload_n 0, 1) := by decide +kernel
theorem dX2_goRound_51 : decode cX2_goRound 51 = .ok (.getfield 37, 3) := by decide +kernel
theorem dX2_goRound_54 : decode cX2_goRound 54 = .ok (.iload 4, 2) := by decide +kernel
theorem dX2_goRound_56 : decode cX2_goRound 56 = .ok (.aload_n 0, 1) := by decide +kernel
theorem dX2_goRound_57 : decode cX2_goRound 57 = .ok (.iload 4, 2) := by decide +kernel
theorem dX2_goRound_59 : decode cX2_goRound 59 = .ok (.invokevirtual 166, 3) := by decide +kernel
theorem dX2_goRound_62 : decode cX2_goRound 62 = .ok (.invokestatic 169, 3) := by decide +kernel
theorem dX2_goRound_65 : decode cX2_goRound 65 = .ok (.aload_n 0, 1) := by decide +kernel
theorem dX2_goRound_66 : decode cX2_goRound 66 = .ok (.getfield 34, 3) := by decide +kernel
theorem dX2_goRound_69 : decode cX2_goRound 69 = .ok (.iload 4, 2) := by decide +kernel
theorem dX2_goRound_71 : decode cX2_goRound 71 = .ok (.invokestatic 106, 3) := by decide +kernel
theorem dX2_goRound_74 : decode cX2_goRound 74 = .ok (.ifCond .eq 37, 3) := by decide +kernel
theorem dX2_goRound_77 : decode cX2_goRound 77 = .ok (.aload_n 0, 1) := by decide +kernel
theorem dX2_goRound_78 : decode cX2_goRound 78 = .ok (.getfield 37, 3) := by decide +kernel
theorem dX2_goRound_81 : decode cX2_goRound 81 = .ok (.iload 5, 2) := by decide +kernel
theorem dX2_goRound_83 : decode cX2_goRound 83 = .ok (.invokestatic 106, 3) := by decide +kernel
theorem dX2_goRound_86 : decode cX2_goRound 86 = .ok (.ifCond .ne 25, 3) := by decide +kernel
theorem dX2_goRound_89 : decode cX2_goRound 89 = .ok (.aload_n 1, 1) := by decide +kernel
theorem dX2_goRound_90 : decode cX2_goRound 90 = .ok (.iload 4, 2) := by decide +kernel
theorem dX2_goRound_92 : decode cX2_goRound 92 = .ok (.iconst 0, 1) := by decide +kernel
theorem dX2_goRound_93 : decode cX2_goRound 93 = .ok (.invokestatic 169, 3) := by decide +kernel
theorem dX2_goRound_96 : decode cX2_goRound 96 = .ok (.iconst 1, 1) := by decide +kernel
theorem dX2_goRound_97 : decode cX2_goRound 97 = .ok (.istore_n 3, 1) := by decide +kernel
theorem dX2_goRound_98 : decode cX2_goRound 98 = .ok (.iload_n 2, 1) := by decide +kernel
theorem dX2_goRound_99 : decode cX2_goRound 99 = .ok (.ifCond .le 12, 3) := by decide +kernel
theorem dX2_goRound_102 : decode cX2_goRound 102 = .ok (.aload_n 0, 1) := by decide +kernel
theorem dX2_goRound_103 : decode cX2_goRound 103 = .ok (.getfield 40, 3) := by decide +kernel
theorem dX2_goRound_106 : decode cX2_goRound 106 = .ok (.iload 4, 2) := by decide +kernel
theorem dX2_goRound_108 : decode cX2_goRound 108 = .ok (.iload_n 2, 1) := by decide +kernel
theorem dX2_goRound_109 : decode cX2_goRound 109 = .ok (.i2s, 1) := by decide +kernel
theorem dX2_goRound_110 : decode cX2_goRound 110 = .ok (.sastore, 1) := by decide +kernel
theorem dX2_goRound_111 : decode cX2_goRound 111 = .ok (.iinc 4 1, 3) := by decide +kernel
theorem dX2_goRound_114 : decode cX2_goRound 114 = .ok (.goto (-97), 3) := by decide +kernel
theorem dX2_goRound_117 : decode cX2_goRound 117 = .ok (.iload_n 3, 1) := by decide +kernel
theorem dX2_goRound_118 : decode cX2_goRound 118 = .ok (.ireturn, 1) := by decide +kernel
set_option maxRecDepth 20000 in
theorem ggX2_isMet_X1_roleOfAtom : GoodIn wsX2_isMet wsX1_roleOfAtom := goodIn_r _ [8, 9, 10, 52, 53, 54, 55, 56, 57, 58, 59, 60, 61] (by decide +kernel) (by decide +kernel)
set_option maxRecDepth 20000 in
theorem gX2_isMet_X1_roleOfAtom : GoodIn wsX2_isMet (wsV RX2 147 RX1 yX1_roleOfAtom wsX1_roleOfAtom) := goodIn_app (goodIn_of _ (by decide +kernel)) ggX2_isMet_X1_roleOfAtom
set_option maxRecDepth 20000 in
theorem ggX2_isMet_X2_leastMeeting : GoodIn wsX2_isMet wsX2_leastMeeting := goodIn_r _ [15, 1, 16, 17, 18, 19, 20, 4, 5, 6, 7, 8, 9, 10, 21, 22, 23, 24, 25, 26, 27, 28, 14, 29, 30, 31, 32, 33, 34, 35, 36, 37, 38, 39, 40, 41, 42, 43, 44, 45, 46, 47, 48, 49, 50, 51, 52, 53, 54, 55, 56, 57, 58, 59, 60, 61, 62, 63, 64, 65, 66, 67, 68, 69, 70, 71, 72, 73, 74, 75, 76] (by decide +kernel) (by decide +kernel)
set_option maxRecDepth 20000 in
theorem gX2_isMet_X2_leastMeeting : GoodIn wsX2_isMet (wsV RX2 173 RX2 yX2_leastMeeting wsX2_leastMeeting) := goodIn_app (goodIn_of _ (by decide +kernel)) ggX2_isMet_X2_leastMeeting
theorem dX2_isMet_0 : decode cX2_isMet 0 = .ok (.iconst 0, 1) := by decide +kernel
theorem dX2_isMet_1 : decode cX2_isMet 1 = .ok (.istore_n 2, 1) := by decide +kernel
theorem dX2_isMet_2 : decode cX2_isMet 2 = .ok (.iload_n 2, 1) := by decide +kernel
theorem dX2_isMet_3 : decode cX2_isMet 3 = .ok (.aload_n 0, 1) := by decide +kernel
theorem dX2_isMet_4 : decode cX2_isMet 4 = .ok (.getfield 54, 3) := by decide +kernel
theorem dX2_isMet_7 : decode cX2_isMet 7 = .ok (.getfield 55, 3) := by decide +kernel
theorem dX2_isMet_10 : decode cX2_isMet 10 = .ok (.if_icmp .ge 56, 3) := by decide +kernel
theorem dX2_isMet_13 : decode cX2_isMet 13 = .ok (.iload_n 1, 1) := by decide +kernel
theorem dX2_isMet_14 : decode cX2_isMet 14 = .ok (.iload_n 2, 1) := by decide +kernel
theorem dX2_isMet_15 : decode cX2_isMet 15 = .ok (.ishr, 1) := by decide +kernel
theorem dX2_isMet_16 : decode cX2_isMet 16 = .ok (.iconst 1, 1) := by decide +kernel
theorem dX2_isMet_17 : decode cX2_isMet 17 = .ok (.iand, 1) := by decide +kernel
theorem dX2_isMet_18 : decode cX2_isMet 18 = .ok (.iconst 1, 1) := by decide +kernel
theorem dX2_isMet_19 : decode cX2_isMet 19 = .ok (.if_icmp .ne 19, 3) := by decide +kernel
theorem dX2_isMet_22 : decode cX2_isMet 22 = .ok (.aload_n 0, 1) := by decide +kernel
theorem dX2_isMet_23 : decode cX2_isMet 23 = .ok (.getfield 54, 3) := by decide +kernel
theorem dX2_isMet_26 : decode cX2_isMet 26 = .ok (.iload_n 2, 1) := by decide +kernel
theorem dX2_isMet_27 : decode cX2_isMet 27 = .ok (.invokevirtual 147, 3) := by decide +kernel
theorem dX2_isMet_30 : decode cX2_isMet 30 = .ok (.iconst (-1), 1) := by decide +kernel
theorem dX2_isMet_31 : decode cX2_isMet 31 = .ok (.if_icmp .eq 7, 3) := by decide +kernel
theorem dX2_isMet_34 : decode cX2_isMet 34 = .ok (.iconst 1, 1) := by decide +kernel
theorem dX2_isMet_35 : decode cX2_isMet 35 = .ok (.goto 4, 3) := by decide +kernel
theorem dX2_isMet_38 : decode cX2_isMet 38 = .ok (.iconst 0, 1) := by decide +kernel
theorem dX2_isMet_39 : decode cX2_isMet 39 = .ok (.istore_n 3, 1) := by decide +kernel
theorem dX2_isMet_40 : decode cX2_isMet 40 = .ok (.iload_n 3, 1) := by decide +kernel
theorem dX2_isMet_41 : decode cX2_isMet 41 = .ok (.ifCond .eq 19, 3) := by decide +kernel
theorem dX2_isMet_44 : decode cX2_isMet 44 = .ok (.aload_n 0, 1) := by decide +kernel
theorem dX2_isMet_45 : decode cX2_isMet 45 = .ok (.iload_n 1, 1) := by decide +kernel
theorem dX2_isMet_46 : decode cX2_isMet 46 = .ok (.iload_n 2, 1) := by decide +kernel
theorem dX2_isMet_47 : decode cX2_isMet 47 = .ok (.aload_n 0, 1) := by decide +kernel
theorem dX2_isMet_48 : decode cX2_isMet 48 = .ok (.getfield 34, 3) := by decide +kernel
theorem dX2_isMet_51 : decode cX2_isMet 51 = .ok (.invokevirtual 173, 3) := by decide +kernel
theorem dX2_isMet_54 : decode cX2_isMet 54 = .ok (.iconst (-1), 1) := by decide +kernel
theorem dX2_isMet_55 : decode cX2_isMet 55 = .ok (.if_icmp .ne 5, 3) := by decide +kernel
theorem dX2_isMet_58 : decode cX2_isMet 58 = .ok (.iconst 0, 1) := by decide +kernel
theorem dX2_isMet_59 : decode cX2_isMet 59 = .ok (.ireturn, 1) := by decide +kernel
theorem dX2_isMet_60 : decode cX2_isMet 60 = .ok (.iinc 2 1, 3) := by decide +kernel
theorem dX2_isMet_63 : decode cX2_isMet 63 = .ok (.goto (-61), 3) := by decide +kernel
theorem dX2_isMet_66 : decode cX2_isMet 66 = .ok (.iconst 1, 1) := by decide +kernel
theorem dX2_isMet_67 : decode cX2_isMet 67 = .ok (.ireturn, 1) := by decide +kernel
set_option maxRecDepth 20000 in
theorem ggX2_leastMeeting_X1_roleOfAtom : GoodIn wsX2_leastMeeting wsX1_roleOfAtom := goodIn_r _ [11, 12, 13, 46, 47, 48, 49, 50, 51, 52, 53, 54, 55] (by decide +kernel) (by decide +kernel)
set_option maxRecDepth 20000 in
theorem gX2_leastMeeting_X1_roleOfAtom : GoodIn wsX2_leastMeeting (wsV RX2 147 RX1 yX1_roleOfAtom wsX1_roleOfAtom) := goodIn_app (goodIn_of _ (by decide +kernel)) ggX2_leastMeeting_X1_roleOfAtom
set_option maxRecDepth 20000 in
theorem ggX2_leastMeeting_X0_isSingle : GoodIn wsX2_leastMeeting wsX0_isSingle := goodIn_r _ [18, 19, 56, 57, 58, 59, 60, 61, 62, 63, 64, 65, 66, 67, 68, 69, 70] (by decide +kernel) (by decide +kernel)
set_option maxRecDepth 20000 in
theorem gX2_leastMeeting_X0_isSingle : GoodIn wsX2_leastMeeting (wsV RX2 177 RX0 yX0_isSingle wsX0_isSingle) := goodIn_app (goodIn_of _ (by decide +kernel)) ggX2_leastMeeting_X0_isSingle
set_option maxRecDepth 20000 in
theorem ggX2_leastMeeting_X2_lowestBit : GoodIn wsX2_leastMeeting wsX2_lowestBit := goodIn_r _ [23, 24, 25, 26, 27, 28, 29, 30] (by decide +kernel) (by decide +kernel)
set_option maxRecDepth 20000 in
theorem gX2_leastMeeting_X2_lowestBit : GoodIn wsX2_leastMeeting (va_wsS RX2 180 yX2_lowestBit wsX2_lowestBit) := goodIn_app (goodIn_of _ (by decide +kernel)) ggX2_leastMeeting_X2_lowestBit
theorem dX2_leastMeeting_0 : decode cX2_leastMeeting 0 = .ok (.aload_n 0, 1) := by decide +kernel
theorem dX2_leastMeeting_1 : decode cX2_leastMeeting 1 = .ok (.getfield 54, 3) := by decide +kernel
theorem dX2_leastMeeting_4 : decode cX2_leastMeeting 4 = .ok (.iload_n 2, 1) := by decide +kernel
theorem dX2_leastMeeting_5 : decode cX2_leastMeeting 5 = .ok (.invokevirtual 147, 3) := by decide +kernel
theorem dX2_leastMeeting_8 : decode cX2_leastMeeting 8 = .ok (.istore 4, 2) := by decide +kernel
theorem dX2_leastMeeting_10 : decode cX2_leastMeeting 10 = .ok (.iload 4, 2) := by decide +kernel
theorem dX2_leastMeeting_12 : decode cX2_leastMeeting 12 = .ok (.ifCond .lt 9, 3) := by decide +kernel
theorem dX2_leastMeeting_15 : decode cX2_leastMeeting 15 = .ok (.iload 4, 2) := by decide +kernel
theorem dX2_leastMeeting_17 : decode cX2_leastMeeting 17 = .ok (.iconst 3, 1) := by decide +kernel
theorem dX2_leastMeeting_18 : decode cX2_leastMeeting 18 = .ok (.if_icmp .lt 5, 3) := by decide +kernel
theorem dX2_leastMeeting_21 : decode cX2_leastMeeting 21 = .ok (.iconst (-1), 1) := by decide +kernel
theorem dX2_leastMeeting_22 : decode cX2_leastMeeting 22 = .ok (.ireturn, 1) := by decide +kernel
theorem dX2_leastMeeting_23 : decode cX2_leastMeeting 23 = .ok (.aload_n 0, 1) := by decide +kernel
theorem dX2_leastMeeting_24 : decode cX2_leastMeeting 24 = .ok (.getfield 44, 3) := by decide +kernel
theorem dX2_leastMeeting_27 : decode cX2_leastMeeting 27 = .ok (.iload 4, 2) := by decide +kernel
theorem dX2_leastMeeting_29 : decode cX2_leastMeeting 29 = .ok (.invokevirtual 177, 3) := by decide +kernel
theorem dX2_leastMeeting_32 : decode cX2_leastMeeting 32 = .ok (.ifCond .eq 15, 3) := by decide +kernel
theorem dX2_leastMeeting_35 : decode cX2_leastMeeting 35 = .ok (.aload_n 0, 1) := by decide +kernel
theorem dX2_leastMeeting_36 : decode cX2_leastMeeting 36 = .ok (.getfield 18, 3) := by decide +kernel
theorem dX2_leastMeeting_39 : decode cX2_leastMeeting 39 = .ok (.iload 4, 2) := by decide +kernel
theorem dX2_leastMeeting_41 : decode cX2_leastMeeting 41 = .ok (.iaload, 1) := by decide +kernel
theorem dX2_leastMeeting_42 : decode cX2_leastMeeting 42 = .ok (.iload_n 1, 1) := by decide +kernel
theorem dX2_leastMeeting_43 : decode cX2_leastMeeting 43 = .ok (.iand, 1) := by decide +kernel
theorem dX2_leastMeeting_44 : decode cX2_leastMeeting 44 = .ok (.goto 6, 3) := by decide +kernel
theorem dX2_leastMeeting_47 : decode cX2_leastMeeting 47 = .ok (.iconst 1, 1) := by decide +kernel
theorem dX2_leastMeeting_48 : decode cX2_leastMeeting 48 = .ok (.iload_n 2, 1) := by decide +kernel
theorem dX2_leastMeeting_49 : decode cX2_leastMeeting 49 = .ok (.ishl, 1) := by decide +kernel
theorem dX2_leastMeeting_50 : decode cX2_leastMeeting 50 = .ok (.istore 5, 2) := by decide +kernel
theorem dX2_leastMeeting_52 : decode cX2_leastMeeting 52 = .ok (.aload_n 0, 1) := by decide +kernel
theorem dX2_leastMeeting_53 : decode cX2_leastMeeting 53 = .ok (.getfield 22, 3) := by decide +kernel
theorem dX2_leastMeeting_56 : decode cX2_leastMeeting 56 = .ok (.iload 4, 2) := by decide +kernel
theorem dX2_leastMeeting_58 : decode cX2_leastMeeting 58 = .ok (.iaload, 1) := by decide +kernel
theorem dX2_leastMeeting_59 : decode cX2_leastMeeting 59 = .ok (.iload_n 1, 1) := by decide +kernel
theorem dX2_leastMeeting_60 : decode cX2_leastMeeting 60 = .ok (.iconst (-1), 1) := by decide +kernel
theorem dX2_leastMeeting_61 : decode cX2_leastMeeting 61 = .ok (.ixor, 1) := by decide +kernel
theorem dX2_leastMeeting_62 : decode cX2_leastMeeting 62 = .ok (.iand, 1) := by decide +kernel
theorem dX2_leastMeeting_63 : decode cX2_leastMeeting 63 = .ok (.istore 6, 2) := by decide +kernel
theorem dX2_leastMeeting_65 : decode cX2_leastMeeting 65 = .ok (.iconst 0, 1) := by decide +kernel
theorem dX2_leastMeeting_66 : decode cX2_leastMeeting 66 = .ok (.istore 7, 2) := by decide +kernel
theorem dX2_leastMeeting_68 : decode cX2_leastMeeting 68 = .ok (.iload 7, 2) := by decide +kernel
theorem dX2_leastMeeting_70 : decode cX2_leastMeeting 70 = .ok (.bipush 8, 2) := by decide +kernel
theorem dX2_leastMeeting_72 : decode cX2_leastMeeting 72 = .ok (.if_icmp .ge 129, 3) := by decide +kernel
theorem dX2_leastMeeting_75 : decode cX2_leastMeeting 75 = .ok (.iload 7, 2) := by decide +kernel
theorem dX2_leastMeeting_77 : decode cX2_leastMeeting 77 = .ok (.aload_n 3, 1) := by decide +kernel
theorem dX2_leastMeeting_78 : decode cX2_leastMeeting 78 = .ok (.arraylength, 1) := by decide +kernel
theorem dX2_leastMeeting_79 : decode cX2_leastMeeting 79 = .ok (.if_icmp .ge 122, 3) := by decide +kernel
theorem dX2_leastMeeting_82 : decode cX2_leastMeeting 82 = .ok (.aload_n 3, 1) := by decide +kernel
theorem dX2_leastMeeting_83 : decode cX2_leastMeeting 83 = .ok (.iload 7, 2) := by decide +kernel
theorem dX2_leastMeeting_85 : decode cX2_leastMeeting 85 = .ok (.laload, 1) := by decide +kernel
theorem dX2_leastMeeting_86 : decode cX2_leastMeeting 86 = .ok (.lstore 8, 2) := by decide +kernel
theorem dX2_leastMeeting_88 : decode cX2_leastMeeting 88 = .ok (.iconst 0, 1) := by decide +kernel
theorem dX2_leastMeeting_89 : decode cX2_leastMeeting 89 = .ok (.istore 10, 2) := by decide +kernel
theorem dX2_leastMeeting_91 : decode cX2_leastMeeting 91 = .ok (.iload 10, 2) := by decide +kernel
theorem dX2_leastMeeting_93 : decode cX2_leastMeeting 93 = .ok (.bipush 9, 2) := by decide +kernel
theorem dX2_leastMeeting_95 : decode cX2_leastMeeting 95 = .ok (.if_icmp .ge 81, 3) := by decide +kernel
theorem dX2_leastMeeting_98 : decode cX2_leastMeeting 98 = .ok (.lload 8, 2) := by decide +kernel
theorem dX2_leastMeeting_100 : decode cX2_leastMeeting 100 = .ok (.lconst 0, 1) := by decide +kernel
theorem dX2_leastMeeting_101 : decode cX2_leastMeeting 101 = .ok (.lcmp, 1) := by decide +kernel
theorem dX2_leastMeeting_102 : decode cX2_leastMeeting 102 = .ok (.ifCond .eq 74, 3) := by decide +kernel
theorem dX2_leastMeeting_105 : decode cX2_leastMeeting 105 = .ok (.iload 5, 2) := by decide +kernel
theorem dX2_leastMeeting_107 : decode cX2_leastMeeting 107 = .ok (.iload 10, 2) := by decide +kernel
theorem dX2_leastMeeting_109 : decode cX2_leastMeeting 109 = .ok (.ishr, 1) := by decide +kernel
theorem dX2_leastMeeting_110 : decode cX2_leastMeeting 110 = .ok (.iconst 1, 1) := by decide +kernel
theorem dX2_leastMeeting_111 : decode cX2_leastMeeting 111 = .ok (.iand, 1) := by decide +kernel
theorem dX2_leastMeeting_112 : decode cX2_leastMeeting 112 = .ok (.iconst 1, 1) := by decide +kernel
theorem dX2_leastMeeting_113 : decode cX2_leastMeeting 113 = .ok (.if_icmp .ne 24, 3) := by decide +kernel
theorem dX2_leastMeeting_116 : decode cX2_leastMeeting 116 = .ok (.lload 8, 2) := by decide +kernel
theorem dX2_leastMeeting_118 : decode cX2_leastMeeting 118 = .ok (.aload_n 0, 1) := by decide +kernel
theorem dX2_leastMeeting_119 : decode cX2_leastMeeting 119 = .ok (.getfield 15, 3) := by decide +kernel
theorem dX2_leastMeeting_122 : decode cX2_leastMeeting 122 = .ok (.iload 10, 2) := by decide +kernel
theorem dX2_leastMeeting_124 : decode cX2_leastMeeting 124 = .ok (.bipush 8, 2) := by decide +kernel
theorem dX2_leastMeeting_126 : decode cX2_leastMeeting 126 = .ok (.imul, 1) := by decide +kernel
theorem dX2_leastMeeting_127 : decode cX2_leastMeeting 127 = .ok (.iload 7, 2) := by decide +kernel
theorem dX2_leastMeeting_129 : decode cX2_leastMeeting 129 = .ok (.iadd, 1) := by decide +kernel
theorem dX2_leastMeeting_130 : decode cX2_leastMeeting 130 = .ok (.laload, 1) := by decide +kernel
theorem dX2_leastMeeting_131 : decode cX2_leastMeeting 131 = .ok (.land, 1) := by decide +kernel
theorem dX2_leastMeeting_132 : decode cX2_leastMeeting 132 = .ok (.lstore 8, 2) := by decide +kernel
theorem dX2_leastMeeting_134 : decode cX2_leastMeeting 134 = .ok (.goto 36, 3) := by decide +kernel
theorem dX2_leastMeeting_137 : decode cX2_leastMeeting 137 = .ok (.iload 6, 2) := by decide +kernel
theorem dX2_leastMeeting_139 : decode cX2_leastMeeting 139 = .ok (.iload 10, 2) := by decide +kernel
theorem dX2_leastMeeting_141 : decode cX2_leastMeeting 141 = .ok (.ishr, 1) := by decide +kernel
theorem dX2_leastMeeting_142 : decode cX2_leastMeeting 142 = .ok (.iconst 1, 1) := by decide +kernel
theorem dX2_leastMeeting_143 : decode cX2_leastMeeting 143 = .ok (.iand, 1) := by decide +kernel
theorem dX2_leastMeeting_144 : decode cX2_leastMeeting 144 = .ok (.iconst 1, 1) := by decide +kernel
theorem dX2_leastMeeting_145 : decode cX2_leastMeeting 145 = .ok (.if_icmp .ne 25, 3) := by decide +kernel
theorem dX2_leastMeeting_148 : decode cX2_leastMeeting 148 = .ok (.lload 8, 2) := by decide +kernel
theorem dX2_leastMeeting_150 : decode cX2_leastMeeting 150 = .ok (.aload_n 0, 1) := by decide +kernel
theorem dX2_leastMeeting_151 : decode cX2_leastMeeting 151 = .ok (.getfield 15, 3) := by decide +kernel
theorem dX2_leastMeeting_154 : decode cX2_leastMeeting 154 = .ok (.iload 10, 2) := by decide +kernel
theorem dX2_leastMeeting_156 : decode cX2_leastMeeting 156 = .ok (.bipush 8, 2) := by decide +kernel
theorem dX2_leastMeeting_158 : decode cX2_leastMeeting 158 = .ok (.imul, 1) := by decide +kernel
theorem dX2_leastMeeting_159 : decode cX2_leastMeeting 159 = .ok (.iload 7, 2) := by decide +kernel
theorem dX2_leastMeeting_161 : decode cX2_leastMeeting 161 = .ok (.iadd, 1) := by decide +kernel
theorem dX2_leastMeeting_162 : decode cX2_leastMeeting 162 = .ok (.laload, 1) := by decide +kernel
theorem dX2_leastMeeting_163 : decode cX2_leastMeeting 163 = .ok (.ldc2_w 88, 3) := by decide +kernel
theorem dX2_leastMeeting_166 : decode cX2_leastMeeting 166 = .ok (.lxor, 1) := by decide +kernel
theorem dX2_leastMeeting_167 : decode cX2_leastMeeting 167 = .ok (.land, 1) := by decide +kernel
theorem dX2_leastMeeting_168 : decode cX2_leastMeeting 168 = .ok (.lstore 8, 2) := by decide +kernel
theorem dX2_leastMeeting_170 : decode cX2_leastMeeting 170 = .ok (.iinc 10 1, 3) := by decide +kernel
theorem dX2_leastMeeting_173 : decode cX2_leastMeeting 173 = .ok (.goto (-82), 3) := by decide +kernel
theorem dX2_leastMeeting_176 : decode cX2_leastMeeting 176 = .ok (.lload 8, 2) := by decide +kernel
theorem dX2_leastMeeting_178 : decode cX2_leastMeeting 178 = .ok (.lconst 0, 1) := by decide +kernel
theorem dX2_leastMeeting_179 : decode cX2_leastMeeting 179 = .ok (.lcmp, 1) := by decide +kernel
theorem dX2_leastMeeting_180 : decode cX2_leastMeeting 180 = .ok (.ifCond .eq 15, 3) := by decide +kernel
theorem dX2_leastMeeting_183 : decode cX2_leastMeeting 183 = .ok (.bipush 64, 2) := by decide +kernel
theorem dX2_leastMeeting_185 : decode cX2_leastMeeting 185 = .ok (.iload 7, 2) := by decide +kernel
theorem dX2_leastMeeting_187 : decode cX2_leastMeeting 187 = .ok (.imul, 1) := by decide +kernel
theorem dX2_leastMeeting_188 : decode cX2_leastMeeting 188 = .ok (.lload 8, 2) := by decide +kernel
theorem dX2_leastMeeting_190 : decode cX2_leastMeeting 190 = .ok (.invokestatic 180, 3) := by decide +kernel
theorem dX2_leastMeeting_193 : decode cX2_leastMeeting 193 = .ok (.iadd, 1) := by decide +kernel
theorem dX2_leastMeeting_194 : decode cX2_leastMeeting 194 = .ok (.ireturn, 1) := by decide +kernel
theorem dX2_leastMeeting_195 : decode cX2_leastMeeting 195 = .ok (.iinc 7 1, 3) := by decide +kernel
theorem dX2_leastMeeting_198 : decode cX2_leastMeeting 198 = .ok (.goto (-130), 3) := by decide +kernel
theorem dX2_leastMeeting_201 : decode cX2_leastMeeting 201 = .ok (.iconst (-1), 1) := by decide +kernel
theorem dX2_leastMeeting_202 : decode cX2_leastMeeting 202 = .ok (.ireturn, 1) := by decide +kernel
set_option maxRecDepth 20000 in
theorem ggX2_isServed_X1_roleOfAtom : GoodIn wsX2_isServed wsX1_roleOfAtom := goodIn_r _ [8, 9, 10, 32, 33, 34, 35, 36, 37, 38, 39, 40, 41] (by decide +kernel) (by decide +kernel)
set_option maxRecDepth 20000 in
theorem gX2_isServed_X1_roleOfAtom : GoodIn wsX2_isServed (wsV RX2 147 RX1 yX1_roleOfAtom wsX1_roleOfAtom) := goodIn_app (goodIn_of _ (by decide +kernel)) ggX2_isServed_X1_roleOfAtom
set_option maxRecDepth 20000 in
theorem ggX2_isServed_X0_isSingle : GoodIn wsX2_isServed wsX0_isSingle := goodIn_r _ [15, 16, 42, 43, 44, 45, 46, 47, 48, 49, 50, 51, 52, 53, 54, 55, 56] (by decide +kernel) (by decide +kernel)
set_option maxRecDepth 20000 in
theorem gX2_isServed_X0_isSingle : GoodIn wsX2_isServed (wsV RX2 177 RX0 yX0_isSingle wsX0_isSingle) := goodIn_app (goodIn_of _ (by decide +kernel)) ggX2_isServed_X0_isSingle
theorem dX2_isServed_0 : decode cX2_isServed 0 = .ok (.aload_n 0, 1) := by decide +kernel
theorem dX2_isServed_1 : decode cX2_isServed 1 = .ok (.getfield 54, 3) := by decide +kernel
theorem dX2_isServed_4 : decode cX2_isServed 4 = .ok (.iload_n 2, 1) := by decide +kernel
theorem dX2_isServed_5 : decode cX2_isServed 5 = .ok (.invokevirtual 147, 3) := by decide +kernel
theorem dX2_isServed_8 : decode cX2_isServed 8 = .ok (.istore_n 3, 1) := by decide +kernel
theorem dX2_isServed_9 : decode cX2_isServed 9 = .ok (.iload_n 3, 1) := by decide +kernel
theorem dX2_isServed_10 : decode cX2_isServed 10 = .ok (.ifCond .lt 19, 3) := by decide +kernel
theorem dX2_isServed_13 : decode cX2_isServed 13 = .ok (.iload_n 3, 1) := by decide +kernel
theorem dX2_isServed_14 : decode cX2_isServed 14 = .ok (.iconst 3, 1) := by decide +kernel
theorem dX2_isServed_15 : decode cX2_isServed 15 = .ok (.if_icmp .ge 14, 3) := by decide +kernel
theorem dX2_isServed_18 : decode cX2_isServed 18 = .ok (.aload_n 0, 1) := by decide +kernel
theorem dX2_isServed_19 : decode cX2_isServed 19 = .ok (.getfield 44, 3) := by decide +kernel
theorem dX2_isServed_22 : decode cX2_isServed 22 = .ok (.iload_n 3, 1) := by decide +kernel
theorem dX2_isServed_23 : decode cX2_isServed 23 = .ok (.invokevirtual 177, 3) := by decide +kernel
theorem dX2_isServed_26 : decode cX2_isServed 26 = .ok (.ifCond .ne 5, 3) := by decide +kernel
theorem dX2_isServed_29 : decode cX2_isServed 29 = .ok (.iconst 0, 1) := by decide +kernel
theorem dX2_isServed_30 : decode cX2_isServed 30 = .ok (.ireturn, 1) := by decide +kernel
theorem dX2_isServed_31 : decode cX2_isServed 31 = .ok (.aload_n 0, 1) := by decide +kernel
theorem dX2_isServed_32 : decode cX2_isServed 32 = .ok (.getfield 18, 3) := by decide +kernel
theorem dX2_isServed_35 : decode cX2_isServed 35 = .ok (.iload_n 3, 1) := by decide +kernel
theorem dX2_isServed_36 : decode cX2_isServed 36 = .ok (.iaload, 1) := by decide +kernel
theorem dX2_isServed_37 : decode cX2_isServed 37 = .ok (.iload_n 1, 1) := by decide +kernel
theorem dX2_isServed_38 : decode cX2_isServed 38 = .ok (.iand, 1) := by decide +kernel
theorem dX2_isServed_39 : decode cX2_isServed 39 = .ok (.iconst 1, 1) := by decide +kernel
theorem dX2_isServed_40 : decode cX2_isServed 40 = .ok (.iload_n 2, 1) := by decide +kernel
theorem dX2_isServed_41 : decode cX2_isServed 41 = .ok (.ishl, 1) := by decide +kernel
theorem dX2_isServed_42 : decode cX2_isServed 42 = .ok (.iconst 1, 1) := by decide +kernel
theorem dX2_isServed_43 : decode cX2_isServed 43 = .ok (.isub, 1) := by decide +kernel
theorem dX2_isServed_44 : decode cX2_isServed 44 = .ok (.iand, 1) := by decide +kernel
theorem dX2_isServed_45 : decode cX2_isServed 45 = .ok (.ifCond .eq 7, 3) := by decide +kernel
theorem dX2_isServed_48 : decode cX2_isServed 48 = .ok (.iconst 1, 1) := by decide +kernel
theorem dX2_isServed_49 : decode cX2_isServed 49 = .ok (.goto 4, 3) := by decide +kernel
theorem dX2_isServed_52 : decode cX2_isServed 52 = .ok (.iconst 0, 1) := by decide +kernel
theorem dX2_isServed_53 : decode cX2_isServed 53 = .ok (.ireturn, 1) := by decide +kernel
theorem dX2_leads_0 : decode cX2_leads 0 = .ok (.iload_n 2, 1) := by decide +kernel
theorem dX2_leads_1 : decode cX2_leads 1 = .ok (.ifCond .lt 8, 3) := by decide +kernel
theorem dX2_leads_4 : decode cX2_leads 4 = .ok (.iload_n 2, 1) := by decide +kernel
theorem dX2_leads_5 : decode cX2_leads 5 = .ok (.iconst 3, 1) := by decide +kernel
theorem dX2_leads_6 : decode cX2_leads 6 = .ok (.if_icmp .lt 5, 3) := by decide +kernel
theorem dX2_leads_9 : decode cX2_leads 9 = .ok (.iconst 0, 1) := by decide +kernel
theorem dX2_leads_10 : decode cX2_leads 10 = .ok (.ireturn, 1) := by decide +kernel
theorem dX2_leads_11 : decode cX2_leads 11 = .ok (.aload_n 0, 1) := by decide +kernel
theorem dX2_leads_12 : decode cX2_leads 12 = .ok (.getfield 22, 3) := by decide +kernel
theorem dX2_leads_15 : decode cX2_leads 15 = .ok (.iload_n 2, 1) := by decide +kernel
theorem dX2_leads_16 : decode cX2_leads 16 = .ok (.iaload, 1) := by decide +kernel
theorem dX2_leads_17 : decode cX2_leads 17 = .ok (.iload_n 1, 1) := by decide +kernel
theorem dX2_leads_18 : decode cX2_leads 18 = .ok (.iconst (-1), 1) := by decide +kernel
theorem dX2_leads_19 : decode cX2_leads 19 = .ok (.ixor, 1) := by decide +kernel
theorem dX2_leads_20 : decode cX2_leads 20 = .ok (.iand, 1) := by decide +kernel
theorem dX2_leads_21 : decode cX2_leads 21 = .ok (.istore 4, 2) := by decide +kernel
theorem dX2_leads_23 : decode cX2_leads 23 = .ok (.iconst 0, 1) := by decide +kernel
theorem dX2_leads_24 : decode cX2_leads 24 = .ok (.istore 5, 2) := by decide +kernel
theorem dX2_leads_26 : decode cX2_leads 26 = .ok (.iload 5, 2) := by decide +kernel
theorem dX2_leads_28 : decode cX2_leads 28 = .ok (.bipush 9, 2) := by decide +kernel
theorem dX2_leads_30 : decode cX2_leads 30 = .ok (.if_icmp .ge 49, 3) := by decide +kernel
theorem dX2_leads_33 : decode cX2_leads 33 = .ok (.iload 4, 2) := by decide +kernel
theorem dX2_leads_35 : decode cX2_leads 35 = .ok (.iload 5, 2) := by decide +kernel
theorem dX2_leads_37 : decode cX2_leads 37 = .ok (.ishr, 1) := by decide +kernel
theorem dX2_leads_38 : decode cX2_leads 38 = .ok (.iconst 1, 1) := by decide +kernel
theorem dX2_leads_39 : decode cX2_leads 39 = .ok (.iand, 1) := by decide +kernel
theorem dX2_leads_40 : decode cX2_leads 40 = .ok (.iconst 1, 1) := by decide +kernel
theorem dX2_leads_41 : decode cX2_leads 41 = .ok (.if_icmp .ne 32, 3) := by decide +kernel
theorem dX2_leads_44 : decode cX2_leads 44 = .ok (.aload_n 0, 1) := by decide +kernel
theorem dX2_leads_45 : decode cX2_leads 45 = .ok (.getfield 15, 3) := by decide +kernel
theorem dX2_leads_48 : decode cX2_leads 48 = .ok (.iload 5, 2) := by decide +kernel
theorem dX2_leads_50 : decode cX2_leads 50 = .ok (.bipush 8, 2) := by decide +kernel
theorem dX2_leads_52 : decode cX2_leads 52 = .ok (.imul, 1) := by decide +kernel
theorem dX2_leads_53 : decode cX2_leads 53 = .ok (.iload_n 3, 1) := by decide +kernel
theorem dX2_leads_54 : decode cX2_leads 54 = .ok (.bipush 6, 2) := by decide +kernel
theorem dX2_leads_56 : decode cX2_leads 56 = .ok (.ishr, 1) := by decide +kernel
theorem dX2_leads_57 : decode cX2_leads 57 = .ok (.bipush 7, 2) := by decide +kernel
theorem dX2_leads_59 : decode cX2_leads 59 = .ok (.iand, 1) := by decide +kernel
theorem dX2_leads_60 : decode cX2_leads 60 = .ok (.iadd, 1) := by decide +kernel
theorem dX2_leads_61 : decode cX2_leads 61 = .ok (.laload, 1) := by decide +kernel
theorem dX2_leads_62 : decode cX2_leads 62 = .ok (.iload_n 3, 1) := by decide +kernel
theorem dX2_leads_63 : decode cX2_leads 63 = .ok (.lshr, 1) := by decide +kernel
theorem dX2_leads_64 : decode cX2_leads 64 = .ok (.lconst 1, 1) := by decide +kernel
theorem dX2_leads_65 : decode cX2_leads 65 = .ok (.land, 1) := by decide +kernel
theorem dX2_leads_66 : decode cX2_leads 66 = .ok (.lconst 1, 1) := by decide +kernel
theorem dX2_leads_67 : decode cX2_leads 67 = .ok (.lcmp, 1) := by decide +kernel
theorem dX2_leads_68 : decode cX2_leads 68 = .ok (.ifCond .ne 5, 3) := by decide +kernel
theorem dX2_leads_71 : decode cX2_leads 71 = .ok (.iconst 0, 1) := by decide +kernel
theorem dX2_leads_72 : decode cX2_leads 72 = .ok (.ireturn, 1) := by decide +kernel
theorem dX2_leads_73 : decode cX2_leads 73 = .ok (.iinc 5 1, 3) := by decide +kernel
theorem dX2_leads_76 : decode cX2_leads 76 = .ok (.goto (-50), 3) := by decide +kernel
theorem dX2_leads_79 : decode cX2_leads 79 = .ok (.iconst 1, 1) := by decide +kernel
theorem dX2_leads_80 : decode cX2_leads 80 = .ok (.ireturn, 1) := by decide +kernel
set_option maxRecDepth 20000 in
theorem ggX2_leastWhere_X2_truthOf : GoodIn wsX2_leastWhere wsX2_truthOf := goodIn_r _ [5, 6, 17, 18, 19, 20, 21, 22, 23, 24, 25, 26, 27, 28, 29, 30, 31] (by decide +kernel) (by decide +kernel)
set_option maxRecDepth 20000 in
theorem gX2_leastWhere_X2_truthOf : GoodIn wsX2_leastWhere (wsV RX2 81 RX2 yX2_truthOf wsX2_truthOf) := goodIn_app (goodIn_of _ (by decide +kernel)) ggX2_leastWhere_X2_truthOf
set_option maxRecDepth 20000 in
theorem ggX2_leastWhere_X2_lowestBit : GoodIn wsX2_leastWhere wsX2_lowestBit := goodIn_r _ [9, 10, 11, 12, 13, 14, 15, 16] (by decide +kernel) (by decide +kernel)
set_option maxRecDepth 20000 in
theorem gX2_leastWhere_X2_lowestBit : GoodIn wsX2_leastWhere (va_wsS RX2 180 yX2_lowestBit wsX2_lowestBit) := goodIn_app (goodIn_of _ (by decide +kernel)) ggX2_leastWhere_X2_lowestBit
theorem dX2_leastWhere_0 : decode cX2_leastWhere 0 = .ok (.iconst 0, 1) := by decide +kernel
theorem dX2_leastWhere_1 : decode cX2_leastWhere 1 = .ok (.istore_n 3, 1) := by decide +kernel
theorem dX2_leastWhere_2 : decode cX2_leastWhere 2 = .ok (.iload_n 3, 1) := by decide +kernel
theorem dX2_leastWhere_3 : decode cX2_leastWhere 3 = .ok (.bipush 8, 2) := by decide +kernel
theorem dX2_leastWhere_5 : decode cX2_leastWhere 5 = .ok (.if_icmp .ge 45, 3) := by decide +kernel
theorem dX2_leastWhere_8 : decode cX2_leastWhere 8 = .ok (.iload_n 3, 1) := by decide +kernel
theorem dX2_leastWhere_9 : decode cX2_leastWhere 9 = .ok (.aload_n 2, 1) := by decide +kernel
theorem dX2_leastWhere_10 : decode cX2_leastWhere 10 = .ok (.arraylength, 1) := by decide +kernel
theorem dX2_leastWhere_11 : decode cX2_leastWhere 11 = .ok (.if_icmp .ge 39, 3) := by decide +kernel
theorem dX2_leastWhere_14 : decode cX2_leastWhere 14 = .ok (.aload_n 2, 1) := by decide +kernel
theorem dX2_leastWhere_15 : decode cX2_leastWhere 15 = .ok (.iload_n 3, 1) := by decide +kernel
theorem dX2_leastWhere_16 : decode cX2_leastWhere 16 = .ok (.laload, 1) := by decide +kernel
theorem dX2_leastWhere_17 : decode cX2_leastWhere 17 = .ok (.aload_n 0, 1) := by decide +kernel
theorem dX2_leastWhere_18 : decode cX2_leastWhere 18 = .ok (.iload_n 1, 1) := by decide +kernel
theorem dX2_leastWhere_19 : decode cX2_leastWhere 19 = .ok (.iload_n 3, 1) := by decide +kernel
theorem dX2_leastWhere_20 : decode cX2_leastWhere 20 = .ok (.invokevirtual 81, 3) := by decide +kernel
theorem dX2_leastWhere_23 : decode cX2_leastWhere 23 = .ok (.land, 1) := by decide +kernel
theorem dX2_leastWhere_24 : decode cX2_leastWhere 24 = .ok (.lstore 4, 2) := by decide +kernel
theorem dX2_leastWhere_26 : decode cX2_leastWhere 26 = .ok (.lload 4, 2) := by decide +kernel
theorem dX2_leastWhere_28 : decode cX2_leastWhere 28 = .ok (.lconst 0, 1) := by decide +kernel
theorem dX2_leastWhere_29 : decode cX2_leastWhere 29 = .ok (.lcmp, 1) := by decide +kernel
theorem dX2_leastWhere_30 : decode cX2_leastWhere 30 = .ok (.ifCond .eq 14, 3) := by decide +kernel
theorem dX2_leastWhere_33 : decode cX2_leastWhere 33 = .ok (.bipush 64, 2) := by decide +kernel
theorem dX2_leastWhere_35 : decode cX2_leastWhere 35 = .ok (.iload_n 3, 1) := by decide +kernel
theorem dX2_leastWhere_36 : decode cX2_leastWhere 36 = .ok (.imul, 1) := by decide +kernel
theorem dX2_leastWhere_37 : decode cX2_leastWhere 37 = .ok (.lload 4, 2) := by decide +kernel
theorem dX2_leastWhere_39 : decode cX2_leastWhere 39 = .ok (.invokestatic 180, 3) := by decide +kernel
theorem dX2_leastWhere_42 : decode cX2_leastWhere 42 = .ok (.iadd, 1) := by decide +kernel
theorem dX2_leastWhere_43 : decode cX2_leastWhere 43 = .ok (.ireturn, 1) := by decide +kernel
theorem dX2_leastWhere_44 : decode cX2_leastWhere 44 = .ok (.iinc 3 1, 3) := by decide +kernel
theorem dX2_leastWhere_47 : decode cX2_leastWhere 47 = .ok (.goto (-45), 3) := by decide +kernel
theorem dX2_leastWhere_50 : decode cX2_leastWhere 50 = .ok (.iconst (-1), 1) := by decide +kernel
theorem dX2_leastWhere_51 : decode cX2_leastWhere 51 = .ok (.ireturn, 1) := by decide +kernel
set_option maxRecDepth 20000 in
theorem ggX2_rulesThatForbid_X2_leastWhere : GoodIn wsX2_rulesThatForbid wsX2_leastWhere := goodIn_r _ [9, 10, 11, 12, 8, 13, 14, 15, 16, 17, 18, 19, 20, 21, 22, 23, 24, 98, 99, 100, 101, 102, 103, 104, 105, 106, 107, 108, 109, 110, 111, 112] (by decide +kernel) (by decide +kernel)
set_option maxRecDepth 20000 in
theorem gX2_rulesThatForbid_X2_leastWhere : GoodIn wsX2_rulesThatForbid (wsV RX2 184 RX2 yX2_leastWhere wsX2_leastWhere) := goodIn_app (goodIn_of _ (by decide +kernel)) ggX2_rulesThatForbid_X2_leastWhere
set_option maxRecDepth 20000 in
theorem ggX2_rulesThatForbid_X2_takeFair : GoodIn wsX2_rulesThatForbid wsX2_takeFair := goodIn_r _ [28, 29, 30, 2, 3, 31, 32, 33, 34, 35, 36, 37, 38, 39, 40, 8, 41, 42, 43, 44, 10, 11, 12, 13, 14, 45, 46, 47, 48, 49, 50, 98, 99, 100, 101, 102, 103, 104, 105, 106, 107, 108, 109, 110, 111, 112, 113, 114, 115, 116, 117, 118, 119, 120, 121, 122, 123, 124, 125, 126, 127] (by decide +kernel) (by decide +kernel)
set_option maxRecDepth 20000 in
theorem gX2_rulesThatForbid_X2_takeFair : GoodIn wsX2_rulesThatForbid (wsV RX2 96 RX2 yX2_takeFair wsX2_takeFair) := goodIn_app (goodIn_of _ (by decide +kernel)) ggX2_rulesThatForbid_X2_takeFair
set_option maxRecDepth 20000 in
theorem ggX2_rulesThatForbid_X2_settle : GoodIn wsX2_rulesThatForbid wsX2_settle := goodIn_r _ [54, 55, 56, 57, 8, 58, 59, 60, 61, 62, 63, 29, 64, 65, 66, 67, 68, 69, 70, 71, 72, 73, 74, 75, 76, 77, 78, 79, 80, 81, 82, 83, 2, 84, 85, 86, 30, 87, 88, 89, 34, 90, 91, 15, 16, 17, 18, 19, 20, 21, 22, 23, 24, 92, 93, 94, 95, 96, 97, 98, 99, 100, 101, 102, 103, 104, 105, 106, 107, 108, 109, 110, 111, 112, 128, 129, 130, 131, 132, 133, 134, 135, 136, 137, 113, 114, 115, 116, 117, 118, 119, 120, 121, 122, 123, 124, 125, 126, 127] (by decide +kernel) (by decide +kernel)
set_option maxRecDepth 20000 in
theorem gX2_rulesThatForbid_X2_settle : GoodIn wsX2_rulesThatForbid (wsV RX2 110 RX2 yX2_settle wsX2_settle) := goodIn_app (goodIn_of _ (by decide +kernel)) ggX2_rulesThatForbid_X2_settle
theorem dX2_rulesThatForbid_0 : decode cX2_rulesThatForbid 0 = .ok (.aload_n 0, 1) := by decide +kernel
theorem dX2_rulesThatForbid_1 : decode cX2_rulesThatForbid 1 = .ok (.iload_n 1, 1) := by decide +kernel
theorem dX2_rulesThatForbid_2 : decode cX2_rulesThatForbid 2 = .ok (.aload_n 0, 1) := by decide +kernel
theorem dX2_rulesThatForbid_3 : decode cX2_rulesThatForbid 3 = .ok (.getfield 28, 3) := by decide +kernel
theorem dX2_rulesThatForbid_6 : decode cX2_rulesThatForbid 6 = .ok (.invokevirtual 184, 3) := by decide +kernel
theorem dX2_rulesThatForbid_9 : decode cX2_rulesThatForbid 9 = .ok (.iconst (-1), 1) := by decide +kernel
theorem dX2_rulesThatForbid_10 : decode cX2_rulesThatForbid 10 = .ok (.if_icmp .eq 5, 3) := by decide +kernel
theorem dX2_rulesThatForbid_13 : decode cX2_rulesThatForbid 13 = .ok (.iconst (-1), 1) := by decide +kernel
theorem dX2_rulesThatForbid_14 : decode cX2_rulesThatForbid 14 = .ok (.ireturn, 1) := by decide +kernel
theorem dX2_rulesThatForbid_15 : decode cX2_rulesThatForbid 15 = .ok (.iconst 1, 1) := by decide +kernel
theorem dX2_rulesThatForbid_16 : decode cX2_rulesThatForbid 16 = .ok (.aload_n 0, 1) := by decide +kernel
theorem dX2_rulesThatForbid_17 : decode cX2_rulesThatForbid 17 = .ok (.getfield 44, 3) := by decide +kernel
theorem dX2_rulesThatForbid_20 : decode cX2_rulesThatForbid 20 = .ok (.getfield 93, 3) := by decide +kernel
theorem dX2_rulesThatForbid_23 : decode cX2_rulesThatForbid 23 = .ok (.ishl, 1) := by decide +kernel
theorem dX2_rulesThatForbid_24 : decode cX2_rulesThatForbid 24 = .ok (.iconst 1, 1) := by decide +kernel
theorem dX2_rulesThatForbid_25 : decode cX2_rulesThatForbid 25 = .ok (.isub, 1) := by decide +kernel
theorem dX2_rulesThatForbid_26 : decode cX2_rulesThatForbid 26 = .ok (.istore_n 2, 1) := by decide +kernel
theorem dX2_rulesThatForbid_27 : decode cX2_rulesThatForbid 27 = .ok (.iconst 0, 1) := by decide +kernel
theorem dX2_rulesThatForbid_28 : decode cX2_rulesThatForbid 28 = .ok (.istore_n 3, 1) := by decide +kernel
theorem dX2_rulesThatForbid_29 : decode cX2_rulesThatForbid 29 = .ok (.iload_n 3, 1) := by decide +kernel
theorem dX2_rulesThatForbid_30 : decode cX2_rulesThatForbid 30 = .ok (.aload_n 0, 1) := by decide +kernel
theorem dX2_rulesThatForbid_31 : decode cX2_rulesThatForbid 31 = .ok (.getfield 44, 3) := by decide +kernel
theorem dX2_rulesThatForbid_34 : decode cX2_rulesThatForbid 34 = .ok (.getfield 93, 3) := by decide +kernel
theorem dX2_rulesThatForbid_37 : decode cX2_rulesThatForbid 37 = .ok (.if_icmp .ge 54, 3) := by decide +kernel
theorem dX2_rulesThatForbid_40 : decode cX2_rulesThatForbid 40 = .ok (.iload_n 2, 1) := by decide +kernel
theorem dX2_rulesThatForbid_41 : decode cX2_rulesThatForbid 41 = .ok (.iconst 1, 1) := by decide +kernel
theorem dX2_rulesThatForbid_42 : decode cX2_rulesThatForbid 42 = .ok (.iload_n 3, 1) := by decide +kernel
theorem dX2_rulesThatForbid_43 : decode cX2_rulesThatForbid 43 = .ok (.ishl, 1) := by decide +kernel
theorem dX2_rulesThatForbid_44 : decode cX2_rulesThatForbid 44 = .ok (.iconst (-1), 1) := by decide +kernel
theorem dX2_rulesThatForbid_45 : decode cX2_rulesThatForbid 45 = .ok (.ixor, 1) := by decide +kernel
theorem dX2_rulesThatForbid_46 : decode cX2_rulesThatForbid 46 = .ok (.iand, 1) := by decide +kernel
theorem dX2_rulesThatForbid_47 : decode cX2_rulesThatForbid 47 = .ok (.istore 4, 2) := by decide +kernel
theorem dX2_rulesThatForbid_49 : decode cX2_rulesThatForbid 49 = .ok (.aload_n 0, 1) := by decide +kernel
theorem dX2_rulesThatForbid_50 : decode cX2_rulesThatForbid 50 = .ok (.iload 4, 2) := by decide +kernel
theorem dX2_rulesThatForbid_52 : decode cX2_rulesThatForbid 52 = .ok (.aload_n 0, 1) := by decide +kernel
theorem dX2_rulesThatForbid_53 : decode cX2_rulesThatForbid 53 = .ok (.getfield 31, 3) := by decide +kernel
theorem dX2_rulesThatForbid_56 : decode cX2_rulesThatForbid 56 = .ok (.invokevirtual 96, 3) := by decide +kernel
theorem dX2_rulesThatForbid_59 : decode cX2_rulesThatForbid 59 = .ok (.aload_n 0, 1) := by decide +kernel
theorem dX2_rulesThatForbid_60 : decode cX2_rulesThatForbid 60 = .ok (.aload_n 0, 1) := by decide +kernel
theorem dX2_rulesThatForbid_61 : decode cX2_rulesThatForbid 61 = .ok (.getfield 31, 3) := by decide +kernel
theorem dX2_rulesThatForbid_64 : decode cX2_rulesThatForbid 64 = .ok (.iconst 0, 1) := by decide +kernel
theorem dX2_rulesThatForbid_65 : decode cX2_rulesThatForbid 65 = .ok (.invokevirtual 110, 3) := by decide +kernel
theorem dX2_rulesThatForbid_68 : decode cX2_rulesThatForbid 68 = .ok (.pop, 1) := by decide +kernel
theorem dX2_rulesThatForbid_69 : decode cX2_rulesThatForbid 69 = .ok (.aload_n 0, 1) := by decide +kernel
theorem dX2_rulesThatForbid_70 : decode cX2_rulesThatForbid 70 = .ok (.iload_n 1, 1) := by decide +kernel
theorem dX2_rulesThatForbid_71 : decode cX2_rulesThatForbid 71 = .ok (.aload_n 0, 1) := by decide +kernel
theorem dX2_rulesThatForbid_72 : decode cX2_rulesThatForbid 72 = .ok (.getfield 31, 3) := by decide +kernel
theorem dX2_rulesThatForbid_75 : decode cX2_rulesThatForbid 75 = .ok (.invokevirtual 184, 3) := by decide +kernel
theorem dX2_rulesThatForbid_78 : decode cX2_rulesThatForbid 78 = .ok (.iconst (-1), 1) := by decide +kernel
theorem dX2_rulesThatForbid_79 : decode cX2_rulesThatForbid 79 = .ok (.if_icmp .ne 6, 3) := by decide +kernel
theorem dX2_rulesThatForbid_82 : decode cX2_rulesThatForbid 82 = .ok (.iload 4, 2) := by decide +kernel
theorem dX2_rulesThatForbid_84 : decode cX2_rulesThatForbid 84 = .ok (.istore_n 2, 1) := by decide +kernel
theorem dX2_rulesThatForbid_85 : decode cX2_rulesThatForbid 85 = .ok (.iinc 3 1, 3) := by decide +kernel
theorem dX2_rulesThatForbid_88 : decode cX2_rulesThatForbid 88 = .ok (.goto (-59), 3) := by decide +kernel
theorem dX2_rulesThatForbid_91 : decode cX2_rulesThatForbid 91 = .ok (.iload_n 2, 1) := by decide +kernel
theorem dX2_rulesThatForbid_92 : decode cX2_rulesThatForbid 92 = .ok (.ireturn, 1) := by decide +kernel
set_option maxRecDepth 20000 in
theorem ggX2_implies_X2_truthOf : GoodIn wsX2_implies wsX2_truthOf := goodIn_r _ [7, 8, 9, 10, 11, 12, 13, 14, 15, 16, 17, 18, 19, 20, 21, 22, 23] (by decide +kernel) (by decide +kernel)
set_option maxRecDepth 20000 in
theorem gX2_implies_X2_truthOf : GoodIn wsX2_implies (wsV RX2 81 RX2 yX2_truthOf wsX2_truthOf) := goodIn_app (goodIn_of _ (by decide +kernel)) ggX2_implies_X2_truthOf
theorem dX2_implies_0 : decode cX2_implies 0 = .ok (.iconst 0, 1) := by decide +kernel
theorem dX2_implies_1 : decode cX2_implies 1 = .ok (.istore_n 3, 1) := by decide +kernel
theorem dX2_implies_2 : decode cX2_implies 2 = .ok (.iload_n 3, 1) := by decide +kernel
theorem dX2_implies_3 : decode cX2_implies 3 = .ok (.bipush 8, 2) := by decide +kernel
theorem dX2_implies_5 : decode cX2_implies 5 = .ok (.if_icmp .ge 40, 3) := by decide +kernel
theorem dX2_implies_8 : decode cX2_implies 8 = .ok (.aload_n 0, 1) := by decide +kernel
theorem dX2_implies_9 : decode cX2_implies 9 = .ok (.getfield 28, 3) := by decide +kernel
theorem dX2_implies_12 : decode cX2_implies 12 = .ok (.iload_n 3, 1) := by decide +kernel
theorem dX2_implies_13 : decode cX2_implies 13 = .ok (.laload, 1) := by decide +kernel
theorem dX2_implies_14 : decode cX2_implies 14 = .ok (.aload_n 0, 1) := by decide +kernel
theorem dX2_implies_15 : decode cX2_implies 15 = .ok (.iload_n 1, 1) := by decide +kernel
theorem dX2_implies_16 : decode cX2_implies 16 = .ok (.iload_n 3, 1) := by decide +kernel
theorem dX2_implies_17 : decode cX2_implies 17 = .ok (.invokevirtual 81, 3) := by decide +kernel
theorem dX2_implies_20 : decode cX2_implies 20 = .ok (.land, 1) := by decide +kernel
theorem dX2_implies_21 : decode cX2_implies 21 = .ok (.aload_n 0, 1) := by decide +kernel
theorem dX2_implies_22 : decode cX2_implies 22 = .ok (.iload_n 2, 1) := by decide +kernel
theorem dX2_implies_23 : decode cX2_implies 23 = .ok (.iload_n 3, 1) := by decide +kernel
theorem dX2_implies_24 : decode cX2_implies 24 = .ok (.invokevirtual 81, 3) := by decide +kernel
theorem dX2_implies_27 : decode cX2_implies 27 = .ok (.ldc2_w 88, 3) := by decide +kernel
theorem dX2_implies_30 : decode cX2_implies 30 = .ok (.lxor, 1) := by decide +kernel
theorem dX2_implies_31 : decode cX2_implies 31 = .ok (.land, 1) := by decide +kernel
theorem dX2_implies_32 : decode cX2_implies 32 = .ok (.lconst 0, 1) := by decide +kernel
theorem dX2_implies_33 : decode cX2_implies 33 = .ok (.lcmp, 1) := by decide +kernel
theorem dX2_implies_34 : decode cX2_implies 34 = .ok (.ifCond .eq 5, 3) := by decide +kernel
theorem dX2_implies_37 : decode cX2_implies 37 = .ok (.iconst 0, 1) := by decide +kernel
theorem dX2_implies_38 : decode cX2_implies 38 = .ok (.ireturn, 1) := by decide +kernel
theorem dX2_implies_39 : decode cX2_implies 39 = .ok (.iinc 3 1, 3) := by decide +kernel
theorem dX2_implies_42 : decode cX2_implies 42 = .ok (.goto (-40), 3) := by decide +kernel
theorem dX2_implies_45 : decode cX2_implies 45 = .ok (.iconst 1, 1) := by decide +kernel
theorem dX2_implies_46 : decode cX2_implies 46 = .ok (.ireturn, 1) := by decide +kernel
set_option maxRecDepth 20000 in
theorem ggX2_agree_X2_implies : GoodIn wsX2_agree wsX2_implies := goodIn_r _ [5, 6, 7, 8, 9, 10, 4, 11, 12, 13, 14, 15, 16, 17, 18, 19, 20, 21, 22, 23, 24, 25, 26, 27] (by decide +kernel) (by decide +kernel)
set_option maxRecDepth 20000 in
theorem gX2_agree_X2_implies : GoodIn wsX2_agree (wsV RX2 188 RX2 yX2_implies wsX2_implies) := goodIn_app (goodIn_of _ (by decide +kernel)) ggX2_agree_X2_implies
theorem dX2_agree_0 : decode cX2_agree 0 = .ok (.aload_n 0, 1) := by decide +kernel
theorem dX2_agree_1 : decode cX2_agree 1 = .ok (.iload_n 1, 1) := by decide +kernel
theorem dX2_agree_2 : decode cX2_agree 2 = .ok (.iload_n 2, 1) := by decide +kernel
theorem dX2_agree_3 : decode cX2_agree 3 = .ok (.invokevirtual 188, 3) := by decide +kernel
theorem dX2_agree_6 : decode cX2_agree 6 = .ok (.ifCond .eq 16, 3) := by decide +kernel
theorem dX2_agree_9 : decode cX2_agree 9 = .ok (.aload_n 0, 1) := by decide +kernel
theorem dX2_agree_10 : decode cX2_agree 10 = .ok (.iload_n 2, 1) := by decide +kernel
theorem dX2_agree_11 : decode cX2_agree 11 = .ok (.iload_n 1, 1) := by decide +kernel
theorem dX2_agree_12 : decode cX2_agree 12 = .ok (.invokevirtual 188, 3) := by decide +kernel
theorem dX2_agree_15 : decode cX2_agree 15 = .ok (.ifCond .eq 7, 3) := by decide +kernel
theorem dX2_agree_18 : decode cX2_agree 18 = .ok (.iconst 1, 1) := by decide +kernel
theorem dX2_agree_19 : decode cX2_agree 19 = .ok (.goto 4, 3) := by decide +kernel
theorem dX2_agree_22 : decode cX2_agree 22 = .ok (.iconst 0, 1) := by decide +kernel
theorem dX2_agree_23 : decode cX2_agree 23 = .ok (.ireturn, 1) := by decide +kernel
set_option maxRecDepth 20000 in
theorem ggX2_isAt_X2_truthOf : GoodIn wsX2_isAt wsX2_truthOf := goodIn_r _ [5, 6, 7, 8, 9, 10, 11, 12, 13, 14, 15, 16, 17, 18, 19, 20, 21] (by decide +kernel) (by decide +kernel)
set_option maxRecDepth 20000 in
theorem gX2_isAt_X2_truthOf : GoodIn wsX2_isAt (wsV RX2 81 RX2 yX2_truthOf wsX2_truthOf) := goodIn_app (goodIn_of _ (by decide +kernel)) ggX2_isAt_X2_truthOf
theorem dX2_isAt_0 : decode cX2_isAt 0 = .ok (.aload_n 0, 1) := by decide +kernel
theorem dX2_isAt_1 : decode cX2_isAt 1 = .ok (.iload_n 1, 1) := by decide +kernel
theorem dX2_isAt_2 : decode cX2_isAt 2 = .ok (.iload_n 2, 1) := by decide +kernel
theorem dX2_isAt_3 : decode cX2_isAt 3 = .ok (.bipush 6, 2) := by decide +kernel
theorem dX2_isAt_5 : decode cX2_isAt 5 = .ok (.ishr, 1) := by decide +kernel
theorem dX2_isAt_6 : decode cX2_isAt 6 = .ok (.invokevirtual 81, 3) := by decide +kernel
theorem dX2_isAt_9 : decode cX2_isAt 9 = .ok (.iload_n 2, 1) := by decide +kernel
theorem dX2_isAt_10 : decode cX2_isAt 10 = .ok (.lshr, 1) := by decide +kernel
theorem dX2_isAt_11 : decode cX2_isAt 11 = .ok (.lconst 1, 1) := by decide +kernel
theorem dX2_isAt_12 : decode cX2_isAt 12 = .ok (.land, 1) := by decide +kernel
theorem dX2_isAt_13 : decode cX2_isAt 13 = .ok (.lconst 1, 1) := by decide +kernel
theorem dX2_isAt_14 : decode cX2_isAt 14 = .ok (.lcmp, 1) := by decide +kernel
theorem dX2_isAt_15 : decode cX2_isAt 15 = .ok (.ifCond .ne 7, 3) := by decide +kernel
theorem dX2_isAt_18 : decode cX2_isAt 18 = .ok (.iconst 1, 1) := by decide +kernel
theorem dX2_isAt_19 : decode cX2_isAt 19 = .ok (.goto 4, 3) := by decide +kernel
theorem dX2_isAt_22 : decode cX2_isAt 22 = .ok (.iconst 0, 1) := by decide +kernel
theorem dX2_isAt_23 : decode cX2_isAt 23 = .ok (.ireturn, 1) := by decide +kernel
theorem dX2_isType_0 : decode cX2_isType 0 = .ok (.iload_n 1, 1) := by decide +kernel
theorem dX2_isType_1 : decode cX2_isType 1 = .ok (.ifCond .lt 15, 3) := by decide +kernel
theorem dX2_isType_4 : decode cX2_isType 4 = .ok (.iload_n 1, 1) := by decide +kernel
theorem dX2_isType_5 : decode cX2_isType 5 = .ok (.aload_n 0, 1) := by decide +kernel
theorem dX2_isType_6 : decode cX2_isType 6 = .ok (.getfield 67, 3) := by decide +kernel
theorem dX2_isType_9 : decode cX2_isType 9 = .ok (.if_icmp .ge 7, 3) := by decide +kernel
theorem dX2_isType_12 : decode cX2_isType 12 = .ok (.iconst 1, 1) := by decide +kernel
theorem dX2_isType_13 : decode cX2_isType 13 = .ok (.goto 4, 3) := by decide +kernel
theorem dX2_isType_16 : decode cX2_isType 16 = .ok (.iconst 0, 1) := by decide +kernel
theorem dX2_isType_17 : decode cX2_isType 17 = .ok (.ireturn, 1) := by decide +kernel
theorem dX2_rankOf_0 : decode cX2_rankOf 0 = .ok (.iload_n 1, 1) := by decide +kernel
theorem dX2_rankOf_1 : decode cX2_rankOf 1 = .ok (.ifCond .lt 19, 3) := by decide +kernel
theorem dX2_rankOf_4 : decode cX2_rankOf 4 = .ok (.iload_n 1, 1) := by decide +kernel
theorem dX2_rankOf_5 : decode cX2_rankOf 5 = .ok (.sipush 512, 3) := by decide +kernel
theorem dX2_rankOf_8 : decode cX2_rankOf 8 = .ok (.if_icmp .ge 12, 3) := by decide +kernel
theorem dX2_rankOf_11 : decode cX2_rankOf 11 = .ok (.aload_n 0, 1) := by decide +kernel
theorem dX2_rankOf_12 : decode cX2_rankOf 12 = .ok (.getfield 40, 3) := by decide +kernel
theorem dX2_rankOf_15 : decode cX2_rankOf 15 = .ok (.iload_n 1, 1) := by decide +kernel
theorem dX2_rankOf_16 : decode cX2_rankOf 16 = .ok (.saload, 1) := by decide +kernel
theorem dX2_rankOf_17 : decode cX2_rankOf 17 = .ok (.goto 4, 3) := by decide +kernel
theorem dX2_rankOf_20 : decode cX2_rankOf 20 = .ok (.iconst (-1), 1) := by decide +kernel
theorem dX2_rankOf_21 : decode cX2_rankOf 21 = .ok (.ireturn, 1) := by decide +kernel
set_option maxRecDepth 20000 in
theorem ggX2_sizeOf_J13_bitCount_95d88 : GoodIn wsX2_sizeOf wsJ13_bitCount_95d88 := goodIn_r _ [4, 5, 6, 7] (by decide +kernel) (by decide +kernel)
set_option maxRecDepth 20000 in
theorem gX2_sizeOf_J13_bitCount_95d88 : GoodIn wsX2_sizeOf (va_wsS RX2 191 yJ13_bitCount_95d88 wsJ13_bitCount_95d88) := goodIn_app (goodIn_of _ (by decide +kernel)) ggX2_sizeOf_J13_bitCount_95d88
theorem dX2_sizeOf_0 : decode cX2_sizeOf 0 = .ok (.iconst 0, 1) := by decide +kernel
theorem dX2_sizeOf_1 : decode cX2_sizeOf 1 = .ok (.istore_n 2, 1) := by decide +kernel
theorem dX2_sizeOf_2 : decode cX2_sizeOf 2 = .ok (.aload_n 1, 1) := by decide +kernel
theorem dX2_sizeOf_3 : decode cX2_sizeOf 3 = .ok (.astore_n 3, 1) := by decide +kernel
theorem dX2_sizeOf_4 : decode cX2_sizeOf 4 = .ok (.aload_n 3, 1) := by decide +kernel
theorem dX2_sizeOf_5 : decode cX2_sizeOf 5 = .ok (.arraylength, 1) := by decide +kernel
theorem dX2_sizeOf_6 : decode cX2_sizeOf 6 = .ok (.istore 4, 2) := by decide +kernel
theorem dX2_sizeOf_8 : decode cX2_sizeOf 8 = .ok (.iconst 0, 1) := by decide +kernel
theorem dX2_sizeOf_9 : decode cX2_sizeOf 9 = .ok (.istore 5, 2) := by decide +kernel
theorem dX2_sizeOf_11 : decode cX2_sizeOf 11 = .ok (.iload 5, 2) := by decide +kernel
theorem dX2_sizeOf_13 : decode cX2_sizeOf 13 = .ok (.iload 4, 2) := by decide +kernel
theorem dX2_sizeOf_15 : decode cX2_sizeOf 15 = .ok (.if_icmp .ge 23, 3) := by decide +kernel
theorem dX2_sizeOf_18 : decode cX2_sizeOf 18 = .ok (.aload_n 3, 1) := by decide +kernel
theorem dX2_sizeOf_19 : decode cX2_sizeOf 19 = .ok (.iload 5, 2) := by decide +kernel
theorem dX2_sizeOf_21 : decode cX2_sizeOf 21 = .ok (.laload, 1) := by decide +kernel
theorem dX2_sizeOf_22 : decode cX2_sizeOf 22 = .ok (.lstore 6, 2) := by decide +kernel
theorem dX2_sizeOf_24 : decode cX2_sizeOf 24 = .ok (.iload_n 2, 1) := by decide +kernel
theorem dX2_sizeOf_25 : decode cX2_sizeOf 25 = .ok (.lload 6, 2) := by decide +kernel
theorem dX2_sizeOf_27 : decode cX2_sizeOf 27 = .ok (.invokestatic 191, 3) := by decide +kernel
theorem dX2_sizeOf_30 : decode cX2_sizeOf 30 = .ok (.iadd, 1) := by decide +kernel
theorem dX2_sizeOf_31 : decode cX2_sizeOf 31 = .ok (.istore_n 2, 1) := by decide +kernel
theorem dX2_sizeOf_32 : decode cX2_sizeOf 32 = .ok (.iinc 5 1, 3) := by decide +kernel
theorem dX2_sizeOf_35 : decode cX2_sizeOf 35 = .ok (.goto (-24), 3) := by decide +kernel
theorem dX2_sizeOf_38 : decode cX2_sizeOf 38 = .ok (.iload_n 2, 1) := by decide +kernel
theorem dX2_sizeOf_39 : decode cX2_sizeOf 39 = .ok (.ireturn, 1) := by decide +kernel
theorem dX2_has_0 : decode cX2_has 0 = .ok (.iload_n 1, 1) := by decide +kernel
theorem dX2_has_1 : decode cX2_has 1 = .ok (.bipush 6, 2) := by decide +kernel
theorem dX2_has_3 : decode cX2_has 3 = .ok (.ishr, 1) := by decide +kernel
theorem dX2_has_4 : decode cX2_has 4 = .ok (.istore_n 2, 1) := by decide +kernel
theorem dX2_has_5 : decode cX2_has 5 = .ok (.iload_n 2, 1) := by decide +kernel
theorem dX2_has_6 : decode cX2_has 6 = .ok (.ifCond .lt 25, 3) := by decide +kernel
theorem dX2_has_9 : decode cX2_has 9 = .ok (.iload_n 2, 1) := by decide +kernel
theorem dX2_has_10 : decode cX2_has 10 = .ok (.aload_n 0, 1) := by decide +kernel
theorem dX2_has_11 : decode cX2_has 11 = .ok (.arraylength, 1) := by decide +kernel
theorem dX2_has_12 : decode cX2_has 12 = .ok (.if_icmp .ge 19, 3) := by decide +kernel
theorem dX2_has_15 : decode cX2_has 15 = .ok (.aload_n 0, 1) := by decide +kernel
theorem dX2_has_16 : decode cX2_has 16 = .ok (.iload_n 2, 1) := by decide +kernel
theorem dX2_has_17 : decode cX2_has 17 = .ok (.laload, 1) := by decide +kernel
theorem dX2_has_18 : decode cX2_has 18 = .ok (.iload_n 1, 1) := by decide +kernel
theorem dX2_has_19 : decode cX2_has 19 = .ok (.lshr, 1) := by decide +kernel
theorem dX2_has_20 : decode cX2_has 20 = .ok (.lconst 1, 1) := by decide +kernel
theorem dX2_has_21 : decode cX2_has 21 = .ok (.land, 1) := by decide +kernel
theorem dX2_has_22 : decode cX2_has 22 = .ok (.lconst 1, 1) := by decide +kernel
theorem dX2_has_23 : decode cX2_has 23 = .ok (.lcmp, 1) := by decide +kernel
theorem dX2_has_24 : decode cX2_has 24 = .ok (.ifCond .ne 7, 3) := by decide +kernel
theorem dX2_has_27 : decode cX2_has 27 = .ok (.iconst 1, 1) := by decide +kernel
theorem dX2_has_28 : decode cX2_has 28 = .ok (.goto 4, 3) := by decide +kernel
theorem dX2_has_31 : decode cX2_has 31 = .ok (.iconst 0, 1) := by decide +kernel
theorem dX2_has_32 : decode cX2_has 32 = .ok (.ireturn, 1) := by decide +kernel
theorem dX2_put_0 : decode cX2_put 0 = .ok (.iload_n 1, 1) := by decide +kernel
theorem dX2_put_1 : decode cX2_put 1 = .ok (.bipush 6, 2) := by decide +kernel
theorem dX2_put_3 : decode cX2_put 3 = .ok (.ishr, 1) := by decide +kernel
theorem dX2_put_4 : decode cX2_put 4 = .ok (.istore_n 3, 1) := by decide +kernel
theorem dX2_put_5 : decode cX2_put 5 = .ok (.iload_n 3, 1) := by decide +kernel
theorem dX2_put_6 : decode cX2_put 6 = .ok (.ifCond .lt 40, 3) := by decide +kernel
theorem dX2_put_9 : decode cX2_put 9 = .ok (.iload_n 3, 1) := by decide +kernel
theorem dX2_put_10 : decode cX2_put 10 = .ok (.aload_n 0, 1) := by decide +kernel
theorem dX2_put_11 : decode cX2_put 11 = .ok (.arraylength, 1) := by decide +kernel
theorem dX2_put_12 : decode cX2_put 12 = .ok (.if_icmp .ge 34, 3) := by decide +kernel
theorem dX2_put_15 : decode cX2_put 15 = .ok (.lconst 1, 1) := by decide +kernel
theorem dX2_put_16 : decode cX2_put 16 = .ok (.iload_n 1, 1) := by decide +kernel
theorem dX2_put_17 : decode cX2_put 17 = .ok (.lshl, 1) := by decide +kernel
theorem dX2_put_18 : decode cX2_put 18 = .ok (.lstore 4, 2) := by decide +kernel
theorem dX2_put_20 : decode cX2_put 20 = .ok (.aload_n 0, 1) := by decide +kernel
theorem dX2_put_21 : decode cX2_put 21 = .ok (.iload_n 3, 1) := by decide +kernel
theorem dX2_put_22 : decode cX2_put 22 = .ok (.iload_n 2, 1) := by decide +kernel
theorem dX2_put_23 : decode cX2_put 23 = .ok (.ifCond .eq 12, 3) := by decide +kernel
theorem dX2_put_26 : decode cX2_put 26 = .ok (.aload_n 0, 1) := by decide +kernel
theorem dX2_put_27 : decode cX2_put 27 = .ok (.iload_n 3, 1) := by decide +kernel
theorem dX2_put_28 : decode cX2_put 28 = .ok (.laload, 1) := by decide +kernel
theorem dX2_put_29 : decode cX2_put 29 = .ok (.lload 4, 2) := by decide +kernel
theorem dX2_put_31 : decode cX2_put 31 = .ok (.lor, 1) := by decide +kernel
theorem dX2_put_32 : decode cX2_put 32 = .ok (.goto 13, 3) := by decide +kernel
theorem dX2_put_35 : decode cX2_put 35 = .ok (.aload_n 0, 1) := by decide +kernel
theorem dX2_put_36 : decode cX2_put 36 = .ok (.iload_n 3, 1) := by decide +kernel
theorem dX2_put_37 : decode cX2_put 37 = .ok (.laload, 1) := by decide +kernel
theorem dX2_put_38 : decode cX2_put 38 = .ok (.lload 4, 2) := by decide +kernel
theorem dX2_put_40 : decode cX2_put 40 = .ok (.ldc2_w 88, 3) := by decide +kernel
theorem dX2_put_43 : decode cX2_put 43 = .ok (.lxor, 1) := by decide +kernel
theorem dX2_put_44 : decode cX2_put 44 = .ok (.land, 1) := by decide +kernel
theorem dX2_put_45 : decode cX2_put 45 = .ok (.lastore, 1) := by decide +kernel
theorem dX2_put_46 : decode cX2_put 46 = .ok (.return_, 1) := by decide +kernel
set_option maxRecDepth 20000 in
theorem ggX2_lowestBit_J13_bitCount_95d88 : GoodIn wsX2_lowestBit wsJ13_bitCount_95d88 := goodIn_r _ [4, 5, 6, 7] (by decide +kernel) (by decide +kernel)
set_option maxRecDepth 20000 in
theorem gX2_lowestBit_J13_bitCount_95d88 : GoodIn wsX2_lowestBit (va_wsS RX2 191 yJ13_bitCount_95d88 wsJ13_bitCount_95d88) := goodIn_app (goodIn_of _ (by decide +kernel)) ggX2_lowestBit_J13_bitCount_95d88
theorem dX2_lowestBit_0 : decode cX2_lowestBit 0 = .ok (.lload_n 0, 1) := by decide +kernel
theorem dX2_lowestBit_1 : decode cX2_lowestBit 1 = .ok (.lload_n 0, 1) := by decide +kernel
theorem dX2_lowestBit_2 : decode cX2_lowestBit 2 = .ok (.lneg, 1) := by decide +kernel
theorem dX2_lowestBit_3 : decode cX2_lowestBit 3 = .ok (.land, 1) := by decide +kernel
theorem dX2_lowestBit_4 : decode cX2_lowestBit 4 = .ok (.lconst 1, 1) := by decide +kernel
theorem dX2_lowestBit_5 : decode cX2_lowestBit 5 = .ok (.lsub, 1) := by decide +kernel
theorem dX2_lowestBit_6 : decode cX2_lowestBit 6 = .ok (.invokestatic 191, 3) := by decide +kernel
theorem dX2_lowestBit_9 : decode cX2_lowestBit 9 = .ok (.ireturn, 1) := by decide +kernel
theorem dX3_init_0 : decode cX3_init 0 = .ok (.aload_n 0, 1) := by decide +kernel
theorem dX3_init_1 : decode cX3_init 1 = .ok (.invokespecial 3, 3) := by decide +kernel
theorem dX3_init_4 : decode cX3_init 4 = .ok (.aload_n 0, 1) := by decide +kernel
theorem dX3_init_5 : decode cX3_init 5 = .ok (.sipush 2670, 3) := by decide +kernel
theorem dX3_init_8 : decode cX3_init 8 = .ok (.newarray .byte, 2) := by decide +kernel
theorem dX3_init_10 : decode cX3_init 10 = .ok (.putfield 9, 3) := by decide +kernel
theorem dX3_init_13 : decode cX3_init 13 = .ok (.aload_n 0, 1) := by decide +kernel
theorem dX3_init_14 : decode cX3_init 14 = .ok (.sipush 500, 3) := by decide +kernel
theorem dX3_init_17 : decode cX3_init 17 = .ok (.newarray .int, 2) := by decide +kernel
theorem dX3_init_19 : decode cX3_init 19 = .ok (.putfield 15, 3) := by decide +kernel
theorem dX3_init_22 : decode cX3_init 22 = .ok (.aload_n 0, 1) := by decide +kernel
theorem dX3_init_23 : decode cX3_init 23 = .ok (.aload_n 1, 1) := by decide +kernel
theorem dX3_init_24 : decode cX3_init 24 = .ok (.putfield 19, 3) := by decide +kernel
theorem dX3_init_27 : decode cX3_init 27 = .ok (.return_, 1) := by decide +kernel
set_option maxRecDepth 20000 in
theorem ggX3_printBook_X0_statement : GoodIn wsX3_printBook wsX0_statement := goodIn_r _ [10, 11, 12, 109, 110, 111, 112, 113, 114, 115, 116, 117, 118, 119, 120, 121, 122, 123] (by decide +kernel) (by decide +kernel)
set_option maxRecDepth 20000 in
theorem gX3_printBook_X0_statement : GoodIn wsX3_printBook (wsV RX3 32 RX0 yX0_statement wsX0_statement) := goodIn_app (goodIn_of _ (by decide +kernel)) ggX3_printBook_X0_statement
set_option maxRecDepth 20000 in
theorem ggX3_printBook_X3_printStatement : GoodIn wsX3_printBook wsX3_printStatement := goodIn_r _ [17, 18, 19, 20, 21, 22, 1, 23, 24, 25, 9, 26, 27, 28, 29, 30, 31, 32, 33, 34, 35, 16, 36, 37, 38, 39, 40, 41, 42, 43, 44, 45, 46, 47, 48, 49, 50, 51, 2, 52, 53, 54, 55, 56, 57, 58, 59, 60, 61, 62, 63, 64, 65, 66, 67, 68, 69, 70, 71, 72, 73, 74, 75, 76, 77, 78, 79, 80, 81, 82, 83, 84, 85, 86, 87, 88, 89, 90, 91, 92, 93, 94, 95, 96, 97, 98, 99, 100, 101, 102, 103, 104, 105, 106, 107, 108, 109, 110, 111, 112, 113, 114, 115, 116, 117, 118, 119, 120, 121, 122, 123, 124, 125, 126, 127, 128, 129, 130, 131, 132, 133] (by decide +kernel) (by decide +kernel)
set_option maxRecDepth 20000 in
theorem gX3_printBook_X3_printStatement : GoodIn wsX3_printBook (wsV RX3 36 RX3 yX3_printStatement wsX3_printStatement) := goodIn_app (goodIn_of _ (by decide +kernel)) ggX3_printBook_X3_printStatement
set_option maxRecDepth 20000 in
theorem ggX3_printBook_X3_putWord : GoodIn wsX3_printBook wsX3_putWord := goodIn_r _ [50, 51, 2, 52, 104, 105, 106, 107, 108] (by decide +kernel) (by decide +kernel)
set_option maxRecDepth 20000 in
theorem gX3_printBook_X3_putWord : GoodIn wsX3_printBook (wsV RX3 42 RX3 yX3_putWord wsX3_putWord) := goodIn_app (goodIn_of _ (by decide +kernel)) ggX3_printBook_X3_putWord
theorem dX3_printBook_0 : decode cX3_printBook 0 = .ok (.aload_n 0, 1) := by decide +kernel
theorem dX3_printBook_1 : decode cX3_printBook 1 = .ok (.aload_n 1, 1) := by decide +kernel
theorem dX3_printBook_2 : decode cX3_printBook 2 = .ok (.putfield 19, 3) := by decide +kernel
theorem dX3_printBook_5 : decode cX3_printBook 5 = .ok (.aload_n 0, 1) := by decide +kernel
theorem dX3_printBook_6 : decode cX3_printBook 6 = .ok (.iconst 0, 1) := by decide +kernel
theorem dX3_printBook_7 : decode cX3_printBook 7 = .ok (.putfield 23, 3) := by decide +kernel
theorem dX3_printBook_10 : decode cX3_printBook 10 = .ok (.iconst 0, 1) := by decide +kernel
theorem dX3_printBook_11 : decode cX3_printBook 11 = .ok (.istore_n 2, 1) := by decide +kernel
theorem dX3_printBook_12 : decode cX3_printBook 12 = .ok (.iload_n 2, 1) := by decide +kernel
theorem dX3_printBook_13 : decode cX3_printBook 13 = .ok (.aload_n 0, 1) := by decide +kernel
theorem dX3_printBook_14 : decode cX3_printBook 14 = .ok (.getfield 19, 3) := by decide +kernel
theorem dX3_printBook_17 : decode cX3_printBook 17 = .ok (.getfield 27, 3) := by decide +kernel
theorem dX3_printBook_20 : decode cX3_printBook 20 = .ok (.if_icmp .ge 35, 3) := by decide +kernel
theorem dX3_printBook_23 : decode cX3_printBook 23 = .ok (.aload_n 0, 1) := by decide +kernel
theorem dX3_printBook_24 : decode cX3_printBook 24 = .ok (.aload_n 0, 1) := by decide +kernel
theorem dX3_printBook_25 : decode cX3_printBook 25 = .ok (.getfield 19, 3) := by decide +kernel
theorem dX3_printBook_28 : decode cX3_printBook 28 = .ok (.iload_n 2, 1) := by decide +kernel
theorem dX3_printBook_29 : decode cX3_printBook 29 = .ok (.invokevirtual 32, 3) := by decide +kernel
theorem dX3_printBook_32 : decode cX3_printBook 32 = .ok (.invokevirtual 36, 3) := by decide +kernel
theorem dX3_printBook_35 : decode cX3_printBook 35 = .ok (.aload_n 0, 1) := by decide +kernel
theorem dX3_printBook_36 : decode cX3_printBook 36 = .ok (.ldc2_w 40, 3) := by decide +kernel
theorem dX3_printBook_39 : decode cX3_printBook 39 = .ok (.invokevirtual 42, 3) := by decide +kernel
theorem dX3_printBook_42 : decode cX3_printBook 42 = .ok (.aload_n 0, 1) := by decide +kernel
theorem dX3_printBook_43 : decode cX3_printBook 43 = .ok (.ldc2_w 46, 3) := by decide +kernel
theorem dX3_printBook_46 : decode cX3_printBook 46 = .ok (.invokevirtual 42, 3) := by decide +kernel
theorem dX3_printBook_49 : decode cX3_printBook 49 = .ok (.iinc 2 1, 3) := by decide +kernel
theorem dX3_printBook_52 : decode cX3_printBook 52 = .ok (.goto (-40), 3) := by decide +kernel
theorem dX3_printBook_55 : decode cX3_printBook 55 = .ok (.return_, 1) := by decide +kernel
set_option maxRecDepth 20000 in
theorem ggX3_printStatement_X0_leftOf : GoodIn wsX3_printStatement wsX0_leftOf := goodIn_r _ [11] (by decide +kernel) (by decide +kernel)
set_option maxRecDepth 20000 in
theorem gX3_printStatement_X0_leftOf : GoodIn wsX3_printStatement (va_wsS RX3 48 yX0_leftOf wsX0_leftOf) := goodIn_app (goodIn_of _ (by decide +kernel)) ggX3_printStatement_X0_leftOf
set_option maxRecDepth 20000 in
theorem ggX3_printStatement_X0_rightOf : GoodIn wsX3_printStatement wsX0_rightOf := goodIn_r _ [14] (by decide +kernel) (by decide +kernel)
set_option maxRecDepth 20000 in
theorem gX3_printStatement_X0_rightOf : GoodIn wsX3_printStatement (va_wsS RX3 51 yX0_rightOf wsX0_rightOf) := goodIn_app (goodIn_of _ (by decide +kernel)) ggX3_printStatement_X0_rightOf
set_option maxRecDepth 20000 in
theorem ggX3_printStatement_X0_sortOf : GoodIn wsX3_printStatement wsX0_sortOf := goodIn_r _ [17] (by decide +kernel) (by decide +kernel)
set_option maxRecDepth 20000 in
theorem gX3_printStatement_X0_sortOf : GoodIn wsX3_printStatement (va_wsS RX3 54 yX0_sortOf wsX0_sortOf) := goodIn_app (goodIn_of _ (by decide +kernel)) ggX3_printStatement_X0_sortOf
set_option maxRecDepth 20000 in
theorem ggX3_printStatement_X3_printConcept : GoodIn wsX3_printStatement wsX3_printConcept := goodIn_r _ [22, 23, 24, 25, 26, 27, 28, 29, 30, 31, 21, 32, 33, 34, 35, 36, 37, 38, 39, 40, 41, 42, 43, 1, 44, 45, 46, 47, 48, 49, 50, 51, 6, 52, 53, 54, 55, 56, 57, 58, 59, 60, 61, 62, 63, 64, 65, 66, 67, 68, 69, 70, 71, 72, 73, 74, 75, 76, 77, 10, 78, 79, 80, 81, 82, 83, 84, 85, 86, 87, 88, 89, 90, 91, 92, 93, 94, 95, 96, 97, 98, 99, 100, 101, 102, 103, 104, 105, 106, 107, 108, 109, 110, 111, 112, 113, 114, 115, 116, 117, 118, 119, 120] (by decide +kernel) (by decide +kernel)
set_option maxRecDepth 20000 in
theorem gX3_printStatement_X3_printConcept : GoodIn wsX3_printStatement (wsV RX3 57 RX3 yX3_printConcept wsX3_printConcept) := goodIn_app (goodIn_of _ (by decide +kernel)) ggX3_printStatement_X3_printConcept
set_option maxRecDepth 20000 in
theorem ggX3_printStatement_X3_putWord : GoodIn wsX3_printStatement wsX3_putWord := goodIn_r _ [36, 37, 38, 39, 91, 92, 93, 94, 95] (by decide +kernel) (by decide +kernel)
set_option maxRecDepth 20000 in
theorem gX3_printStatement_X3_putWord : GoodIn wsX3_printStatement (wsV RX3 42 RX3 yX3_putWord wsX3_putWord) := goodIn_app (goodIn_of _ (by decide +kernel)) ggX3_printStatement_X3_putWord
set_option maxRecDepth 20000 in
theorem ggX3_printStatement_X3_putBehind : GoodIn wsX3_printStatement wsX3_putBehind := goodIn_r _ [47, 1, 33, 34, 35, 21, 36, 37, 38, 39, 91, 92, 93, 94, 95] (by decide +kernel) (by decide +kernel)
set_option maxRecDepth 20000 in
theorem gX3_printStatement_X3_putBehind : GoodIn wsX3_printStatement (wsV RX3 66 RX3 yX3_putBehind wsX3_putBehind) := goodIn_app (goodIn_of _ (by decide +kernel)) ggX3_printStatement_X3_putBehind
set_option maxRecDepth 20000 in
theorem ggX3_printStatement_X0_roleWord : GoodIn wsX3_printStatement wsX0_roleWord := goodIn_r _ [88, 89, 90, 96, 97, 98, 99, 100, 101, 102, 103, 104, 105, 106, 107, 108, 109, 110] (by decide +kernel) (by decide +kernel)
set_option maxRecDepth 20000 in
theorem gX3_printStatement_X0_roleWord : GoodIn wsX3_printStatement (wsV RX3 73 RX0 yX0_roleWord wsX0_roleWord) := goodIn_app (goodIn_of _ (by decide +kernel)) ggX3_printStatement_X0_roleWord
theorem dX3_printStatement_0 : decode cX3_printStatement 0 = .ok (.iload_n 1, 1) := by decide +kernel
theorem dX3_printStatement_1 : decode cX3_printStatement 1 = .ok (.invokestatic 48, 3) := by decide +kernel
theorem dX3_printStatement_4 : decode cX3_printStatement 4 = .ok (.istore_n 2, 1) := by decide +kernel
theorem dX3_printStatement_5 : decode cX3_printStatement 5 = .ok (.iload_n 1, 1) := by decide +kernel
theorem dX3_printStatement_6 : decode cX3_printStatement 6 = .ok (.invokestatic 51, 3) := by decide +kernel
theorem dX3_printStatement_9 : decode cX3_printStatement 9 = .ok (.istore_n 3, 1) := by decide +kernel
theorem dX3_printStatement_10 : decode cX3_printStatement 10 = .ok (.iload_n 1, 1) := by decide +kernel
theorem dX3_printStatement_11 : decode cX3_printStatement 11 = .ok (.invokestatic 54, 3) := by decide +kernel
theorem dX3_printStatement_14 : decode cX3_printStatement 14 = .ok (.istore 4, 2) := by decide +kernel
theorem dX3_printStatement_16 : decode cX3_printStatement 16 = .ok (.iload 4, 2) := by decide +kernel
theorem dX3_printStatement_18 : decode cX3_printStatement 18 = .ok (.tableswitch 117 0 3 #[30, 30, 68, 83], 30) := by decide +kernel
theorem dX3_printStatement_48 : decode cX3_printStatement 48 = .ok (.aload_n 0, 1) := by decide +kernel
theorem dX3_printStatement_49 : decode cX3_printStatement 49 = .ok (.iload_n 2, 1) := by decide +kernel
theorem dX3_printStatement_50 : decode cX3_printStatement 50 = .ok (.invokevirtual 57, 3) := by decide +kernel
theorem dX3_printStatement_53 : decode cX3_printStatement 53 = .ok (.aload_n 0, 1) := by decide +kernel
theorem dX3_printStatement_54 : decode cX3_printStatement 54 = .ok (.ldc2_w 60, 3) := by decide +kernel
theorem dX3_printStatement_57 : decode cX3_printStatement 57 = .ok (.invokevirtual 42, 3) := by decide +kernel
theorem dX3_printStatement_60 : decode cX3_printStatement 60 = .ok (.aload_n 0, 1) := by decide +kernel
theorem dX3_printStatement_61 : decode cX3_printStatement 61 = .ok (.iload 4, 2) := by decide +kernel
theorem dX3_printStatement_63 : decode cX3_printStatement 63 = .ok (.ifCond .ne 9, 3) := by decide +kernel
theorem dX3_printStatement_66 : decode cX3_printStatement 66 = .ok (.ldc2_w 62, 3) := by decide +kernel
theorem dX3_printStatement_69 : decode cX3_printStatement 69 = .ok (.goto 6, 3) := by decide +kernel
theorem dX3_printStatement_72 : decode cX3_printStatement 72 = .ok (.ldc2_w 64, 3) := by decide +kernel
theorem dX3_printStatement_75 : decode cX3_printStatement 75 = .ok (.invokevirtual 66, 3) := by decide +kernel
theorem dX3_printStatement_78 : decode cX3_printStatement 78 = .ok (.aload_n 0, 1) := by decide +kernel
theorem dX3_printStatement_79 : decode cX3_printStatement 79 = .ok (.iload_n 3, 1) := by decide +kernel
theorem dX3_printStatement_80 : decode cX3_printStatement 80 = .ok (.invokevirtual 57, 3) := by decide +kernel
theorem dX3_printStatement_83 : decode cX3_printStatement 83 = .ok (.goto 71, 3) := by decide +kernel
theorem dX3_printStatement_86 : decode cX3_printStatement 86 = .ok (.aload_n 0, 1) := by decide +kernel
theorem dX3_printStatement_87 : decode cX3_printStatement 87 = .ok (.ldc2_w 69, 3) := by decide +kernel
theorem dX3_printStatement_90 : decode cX3_printStatement 90 = .ok (.invokevirtual 66, 3) := by decide +kernel
theorem dX3_printStatement_93 : decode cX3_printStatement 93 = .ok (.aload_n 0, 1) := by decide +kernel
theorem dX3_printStatement_94 : decode cX3_printStatement 94 = .ok (.iload_n 2, 1) := by decide +kernel
theorem dX3_printStatement_95 : decode cX3_printStatement 95 = .ok (.invokevirtual 57, 3) := by decide +kernel
theorem dX3_printStatement_98 : decode cX3_printStatement 98 = .ok (.goto 56, 3) := by decide +kernel
theorem dX3_printStatement_101 : decode cX3_printStatement 101 = .ok (.aload_n 0, 1) := by decide +kernel
theorem dX3_printStatement_102 : decode cX3_printStatement 102 = .ok (.ldc2_w 71, 3) := by decide +kernel
theorem dX3_printStatement_105 : decode cX3_printStatement 105 = .ok (.invokevirtual 66, 3) := by decide +kernel
theorem dX3_printStatement_108 : decode cX3_printStatement 108 = .ok (.aload_n 0, 1) := by decide +kernel
theorem dX3_printStatement_109 : decode cX3_printStatement 109 = .ok (.aload_n 0, 1) := by decide +kernel
theorem dX3_printStatement_110 : decode cX3_printStatement 110 = .ok (.getfield 19, 3) := by decide +kernel
theorem dX3_printStatement_113 : decode cX3_printStatement 113 = .ok (.iload_n 2, 1) := by decide +kernel
theorem dX3_printStatement_114 : decode cX3_printStatement 114 = .ok (.invokevirtual 73, 3) := by decide +kernel
theorem dX3_printStatement_117 : decode cX3_printStatement 117 = .ok (.invokevirtual 66, 3) := by decide +kernel
theorem dX3_printStatement_120 : decode cX3_printStatement 120 = .ok (.aload_n 0, 1) := by decide +kernel
theorem dX3_printStatement_121 : decode cX3_printStatement 121 = .ok (.aload_n 0, 1) := by decide +kernel
theorem dX3_printStatement_122 : decode cX3_printStatement 122 = .ok (.getfield 19, 3) := by decide +kernel
theorem dX3_printStatement_125 : decode cX3_printStatement 125 = .ok (.iload_n 3, 1) := by decide +kernel
theorem dX3_printStatement_126 : decode cX3_printStatement 126 = .ok (.invokevirtual 73, 3) := by decide +kernel
theorem dX3_printStatement_129 : decode cX3_printStatement 129 = .ok (.invokevirtual 42, 3) := by decide +kernel
theorem dX3_printStatement_132 : decode cX3_printStatement 132 = .ok (.goto 22, 3) := by decide +kernel
theorem dX3_printStatement_135 : decode cX3_printStatement 135 = .ok (.aload_n 0, 1) := by decide +kernel
theorem dX3_printStatement_136 : decode cX3_printStatement 136 = .ok (.ldc2_w 77, 3) := by decide +kernel
theorem dX3_printStatement_139 : decode cX3_printStatement 139 = .ok (.invokevirtual 66, 3) := by decide +kernel
theorem dX3_printStatement_142 : decode cX3_printStatement 142 = .ok (.aload_n 0, 1) := by decide +kernel
theorem dX3_printStatement_143 : decode cX3_printStatement 143 = .ok (.aload_n 0, 1) := by decide +kernel
theorem dX3_printStatement_144 : decode cX3_printStatement 144 = .ok (.getfield 19, 3) := by decide +kernel
theorem dX3_printStatement_147 : decode cX3_printStatement 147 = .ok (.iload_n 2, 1) := by decide +kernel
theorem dX3_printStatement_148 : decode cX3_printStatement 148 = .ok (.invokevirtual 73, 3) := by decide +kernel
theorem dX3_printStatement_151 : decode cX3_printStatement 151 = .ok (.invokevirtual 42, 3) := by decide +kernel
theorem dX3_printStatement_154 : decode cX3_printStatement 154 = .ok (.return_, 1) := by decide +kernel
set_option maxRecDepth 20000 in
theorem ggX3_printConcept_X3_await : GoodIn wsX3_printConcept wsX3_await := goodIn_r _ [11, 1, 2, 73, 74, 75, 76, 77] (by decide +kernel) (by decide +kernel)
set_option maxRecDepth 20000 in
theorem gX3_printConcept_X3_await : GoodIn wsX3_printConcept (wsV RX3 82 RX3 yX3_await wsX3_await) := goodIn_app (goodIn_of _ (by decide +kernel)) ggX3_printConcept_X3_await
set_option maxRecDepth 20000 in
theorem ggX3_printConcept_X3_putWord : GoodIn wsX3_printConcept wsX3_putWord := goodIn_r _ [15, 16, 17, 18, 73, 74, 75, 76, 77] (by decide +kernel) (by decide +kernel)
set_option maxRecDepth 20000 in
theorem gX3_printConcept_X3_putWord : GoodIn wsX3_printConcept (wsV RX3 42 RX3 yX3_putWord wsX3_putWord) := goodIn_app (goodIn_of _ (by decide +kernel)) ggX3_printConcept_X3_putWord
set_option maxRecDepth 20000 in
theorem ggX3_printConcept_X3_putJoint : GoodIn wsX3_printConcept wsX3_putJoint := goodIn_r _ [22, 23, 12, 13, 14, 10, 15, 16, 17, 18, 24, 25, 26, 27, 73, 74, 75, 76, 77] (by decide +kernel) (by decide +kernel)
set_option maxRecDepth 20000 in
theorem gX3_printConcept_X3_putJoint : GoodIn wsX3_printConcept (wsV RX3 91 RX3 yX3_putJoint wsX3_putJoint) := goodIn_app (goodIn_of _ (by decide +kernel)) ggX3_printConcept_X3_putJoint
set_option maxRecDepth 20000 in
theorem ggX3_printConcept_X3_printNode : GoodIn wsX3_printConcept wsX3_printNode := goodIn_r _ [31, 32, 33, 34, 35, 36, 37, 38, 39, 40, 41, 42, 43, 44, 45, 46, 47, 48, 49, 50, 51, 52, 53, 54, 55, 56, 57, 58, 59, 60, 61, 62, 12, 13, 14, 10, 15, 16, 17, 18, 63, 64, 65, 66, 7, 8, 9, 11, 1, 2, 24, 25, 26, 27, 23, 67, 68, 69, 70, 71, 72, 73, 74, 75, 76, 77, 78, 79, 80, 81, 82, 83, 84, 85, 86, 87, 88, 89, 90, 91, 92, 93, 94, 95, 96, 97, 98, 99, 100, 101, 102] (by decide +kernel) (by decide +kernel)
set_option maxRecDepth 20000 in
theorem gX3_printConcept_X3_printNode : GoodIn wsX3_printConcept (wsV RX3 96 RX3 yX3_printNode wsX3_printNode) := goodIn_app (goodIn_of _ (by decide +kernel)) ggX3_printConcept_X3_printNode
theorem dX3_printConcept_0 : decode cX3_printConcept 0 = .ok (.aload_n 0, 1) := by decide +kernel
theorem dX3_printConcept_1 : decode cX3_printConcept 1 = .ok (.iconst 0, 1) := by decide +kernel
theorem dX3_printConcept_2 : decode cX3_printConcept 2 = .ok (.putfield 79, 3) := by decide +kernel
theorem dX3_printConcept_5 : decode cX3_printConcept 5 = .ok (.aload_n 0, 1) := by decide +kernel
theorem dX3_printConcept_6 : decode cX3_printConcept 6 = .ok (.iload_n 1, 1) := by decide +kernel
theorem dX3_printConcept_7 : decode cX3_printConcept 7 = .ok (.invokevirtual 82, 3) := by decide +kernel
theorem dX3_printConcept_10 : decode cX3_printConcept 10 = .ok (.iconst 0, 1) := by decide +kernel
theorem dX3_printConcept_11 : decode cX3_printConcept 11 = .ok (.istore_n 2, 1) := by decide +kernel
theorem dX3_printConcept_12 : decode cX3_printConcept 12 = .ok (.iload_n 2, 1) := by decide +kernel
theorem dX3_printConcept_13 : decode cX3_printConcept 13 = .ok (.sipush 800, 3) := by decide +kernel
theorem dX3_printConcept_16 : decode cX3_printConcept 16 = .ok (.if_icmp .ge 111, 3) := by decide +kernel
theorem dX3_printConcept_19 : decode cX3_printConcept 19 = .ok (.aload_n 0, 1) := by decide +kernel
theorem dX3_printConcept_20 : decode cX3_printConcept 20 = .ok (.getfield 79, 3) := by decide +kernel
theorem dX3_printConcept_23 : decode cX3_printConcept 23 = .ok (.ifCond .le 104, 3) := by decide +kernel
theorem dX3_printConcept_26 : decode cX3_printConcept 26 = .ok (.aload_n 0, 1) := by decide +kernel
theorem dX3_printConcept_27 : decode cX3_printConcept 27 = .ok (.dup, 1) := by decide +kernel
theorem dX3_printConcept_28 : decode cX3_printConcept 28 = .ok (.getfield 79, 3) := by decide +kernel
theorem dX3_printConcept_31 : decode cX3_printConcept 31 = .ok (.iconst 1, 1) := by decide +kernel
theorem dX3_printConcept_32 : decode cX3_printConcept 32 = .ok (.isub, 1) := by decide +kernel
theorem dX3_printConcept_33 : decode cX3_printConcept 33 = .ok (.putfield 79, 3) := by decide +kernel
theorem dX3_printConcept_36 : decode cX3_printConcept 36 = .ok (.aload_n 0, 1) := by decide +kernel
theorem dX3_printConcept_37 : decode cX3_printConcept 37 = .ok (.getfield 15, 3) := by decide +kernel
theorem dX3_printConcept_40 : decode cX3_printConcept 40 = .ok (.aload_n 0, 1) := by decide +kernel
theorem dX3_printConcept_41 : decode cX3_printConcept 41 = .ok (.getfield 79, 3) := by decide +kernel
theorem dX3_printConcept_44 : decode cX3_printConcept 44 = .ok (.iaload, 1) := by decide +kernel
theorem dX3_printConcept_45 : decode cX3_printConcept 45 = .ok (.istore_n 3, 1) := by decide +kernel
theorem dX3_printConcept_46 : decode cX3_printConcept 46 = .ok (.iload_n 3, 1) := by decide +kernel
theorem dX3_printConcept_47 : decode cX3_printConcept 47 = .ok (.tableswitch 69 (-4) (-1) #[59, 49, 39, 29], 29) := by decide +kernel
theorem dX3_printConcept_76 : decode cX3_printConcept 76 = .ok (.aload_n 0, 1) := by decide +kernel
theorem dX3_printConcept_77 : decode cX3_printConcept 77 = .ok (.ldc2_w 85, 3) := by decide +kernel
theorem dX3_printConcept_80 : decode cX3_printConcept 80 = .ok (.invokevirtual 42, 3) := by decide +kernel
theorem dX3_printConcept_83 : decode cX3_printConcept 83 = .ok (.goto 38, 3) := by decide +kernel
theorem dX3_printConcept_86 : decode cX3_printConcept 86 = .ok (.aload_n 0, 1) := by decide +kernel
theorem dX3_printConcept_87 : decode cX3_printConcept 87 = .ok (.ldc2_w 87, 3) := by decide +kernel
theorem dX3_printConcept_90 : decode cX3_printConcept 90 = .ok (.invokevirtual 42, 3) := by decide +kernel
theorem dX3_printConcept_93 : decode cX3_printConcept 93 = .ok (.goto 28, 3) := by decide +kernel
theorem dX3_printConcept_96 : decode cX3_printConcept 96 = .ok (.aload_n 0, 1) := by decide +kernel
theorem dX3_printConcept_97 : decode cX3_printConcept 97 = .ok (.ldc2_w 89, 3) := by decide +kernel
theorem dX3_printConcept_100 : decode cX3_printConcept 100 = .ok (.invokevirtual 91, 3) := by decide +kernel
theorem dX3_printConcept_103 : decode cX3_printConcept 103 = .ok (.goto 18, 3) := by decide +kernel
theorem dX3_printConcept_106 : decode cX3_printConcept 106 = .ok (.aload_n 0, 1) := by decide +kernel
theorem dX3_printConcept_107 : decode cX3_printConcept 107 = .ok (.ldc2_w 94, 3) := by decide +kernel
theorem dX3_printConcept_110 : decode cX3_printConcept 110 = .ok (.invokevirtual 91, 3) := by decide +kernel
theorem dX3_printConcept_113 : decode cX3_printConcept 113 = .ok (.goto 8, 3) := by decide +kernel
theorem dX3_printConcept_116 : decode cX3_printConcept 116 = .ok (.aload_n 0, 1) := by decide +kernel
theorem dX3_printConcept_117 : decode cX3_printConcept 117 = .ok (.iload_n 3, 1) := by decide +kernel
theorem dX3_printConcept_118 : decode cX3_printConcept 118 = .ok (.invokevirtual 96, 3) := by decide +kernel
theorem dX3_printConcept_121 : decode cX3_printConcept 121 = .ok (.iinc 2 1, 3) := by decide +kernel
theorem dX3_printConcept_124 : decode cX3_printConcept 124 = .ok (.goto (-112), 3) := by decide +kernel
theorem dX3_printConcept_127 : decode cX3_printConcept 127 = .ok (.return_, 1) := by decide +kernel
set_option maxRecDepth 20000 in
theorem ggX3_printNode_X1_sortOf : GoodIn wsX3_printNode wsX1_sortOf := goodIn_r _ [12, 13, 14, 81, 82, 83, 84, 85, 86, 87, 88, 89, 90] (by decide +kernel) (by decide +kernel)
set_option maxRecDepth 20000 in
theorem gX3_printNode_X1_sortOf : GoodIn wsX3_printNode (wsV RX3 103 RX1 yX1_sortOf wsX1_sortOf) := goodIn_app (goodIn_of _ (by decide +kernel)) ggX3_printNode_X1_sortOf
set_option maxRecDepth 20000 in
theorem ggX3_printNode_X1_leftOf : GoodIn wsX3_printNode wsX1_leftOf := goodIn_r _ [18, 13, 19, 81, 82, 83, 84, 85, 86, 87, 88, 89, 90] (by decide +kernel) (by decide +kernel)
set_option maxRecDepth 20000 in
theorem gX3_printNode_X1_leftOf : GoodIn wsX3_printNode (wsV RX3 106 RX1 yX1_leftOf wsX1_leftOf) := goodIn_app (goodIn_of _ (by decide +kernel)) ggX3_printNode_X1_leftOf
set_option maxRecDepth 20000 in
theorem ggX3_printNode_X1_rightOf : GoodIn wsX3_printNode wsX1_rightOf := goodIn_r _ [23, 13, 24, 81, 82, 83, 84, 85, 86, 87, 88, 89, 90] (by decide +kernel) (by decide +kernel)
set_option maxRecDepth 20000 in
theorem gX3_printNode_X1_rightOf : GoodIn wsX3_printNode (wsV RX3 107 RX1 yX1_rightOf wsX1_rightOf) := goodIn_app (goodIn_of _ (by decide +kernel)) ggX3_printNode_X1_rightOf
set_option maxRecDepth 20000 in
theorem ggX3_printNode_X0_nameWord : GoodIn wsX3_printNode wsX0_nameWord := goodIn_r _ [29, 30, 31, 66, 67, 68, 69, 70, 71, 72, 73, 74, 75, 76, 77, 78, 79, 80] (by decide +kernel) (by decide +kernel)
set_option maxRecDepth 20000 in
theorem gX3_printNode_X0_nameWord : GoodIn wsX3_printNode (wsV RX3 108 RX0 yX0_nameWord wsX0_nameWord) := goodIn_app (goodIn_of _ (by decide +kernel)) ggX3_printNode_X0_nameWord
set_option maxRecDepth 20000 in
theorem ggX3_printNode_X3_putWord : GoodIn wsX3_printNode wsX3_putWord := goodIn_r _ [36, 37, 38, 39, 61, 62, 63, 64, 65] (by decide +kernel) (by decide +kernel)
set_option maxRecDepth 20000 in
theorem gX3_printNode_X3_putWord : GoodIn wsX3_printNode (wsV RX3 42 RX3 yX3_putWord wsX3_putWord) := goodIn_app (goodIn_of _ (by decide +kernel)) ggX3_printNode_X3_putWord
set_option maxRecDepth 20000 in
theorem ggX3_printNode_X3_awaitPart : GoodIn wsX3_printNode wsX3_awaitPart := goodIn_r _ [43, 44, 45, 46, 35, 47, 48, 49, 61, 62, 63, 64, 65] (by decide +kernel) (by decide +kernel)
set_option maxRecDepth 20000 in
theorem gX3_printNode_X3_awaitPart : GoodIn wsX3_printNode (wsV RX3 115 RX3 yX3_awaitPart wsX3_awaitPart) := goodIn_app (goodIn_of _ (by decide +kernel)) ggX3_printNode_X3_awaitPart
set_option maxRecDepth 20000 in
theorem ggX3_printNode_X3_await : GoodIn wsX3_printNode wsX3_await := goodIn_r _ [47, 48, 49, 61, 62, 63, 64, 65] (by decide +kernel) (by decide +kernel)
set_option maxRecDepth 20000 in
theorem gX3_printNode_X3_await : GoodIn wsX3_printNode (wsV RX3 82 RX3 yX3_await wsX3_await) := goodIn_app (goodIn_of _ (by decide +kernel)) ggX3_printNode_X3_await
set_option maxRecDepth 20000 in
theorem ggX3_printNode_X3_putBehind : GoodIn wsX3_printNode wsX3_putBehind := goodIn_r _ [53, 54, 32, 33, 34, 35, 36, 37, 38, 39, 61, 62, 63, 64, 65] (by decide +kernel) (by decide +kernel)
set_option maxRecDepth 20000 in
theorem gX3_printNode_X3_putBehind : GoodIn wsX3_printNode (wsV RX3 66 RX3 yX3_putBehind wsX3_putBehind) := goodIn_app (goodIn_of _ (by decide +kernel)) ggX3_printNode_X3_putBehind
set_option maxRecDepth 20000 in
theorem ggX3_printNode_X0_roleWord : GoodIn wsX3_printNode wsX0_roleWord := goodIn_r _ [58, 59, 60, 66, 67, 68, 69, 70, 71, 72, 73, 74, 75, 76, 77, 78, 79, 80] (by decide +kernel) (by decide +kernel)
set_option maxRecDepth 20000 in
theorem gX3_printNode_X0_roleWord : GoodIn wsX3_printNode (wsV RX3 73 RX0 yX0_roleWord wsX0_roleWord) := goodIn_app (goodIn_of _ (by decide +kernel)) ggX3_printNode_X0_roleWord
theorem dX3_printNode_0 : decode cX3_printNode 0 = .ok (.aload_n 0, 1) := by decide +kernel
theorem dX3_printNode_1 : decode cX3_printNode 1 = .ok (.getfield 19, 3) := by decide +kernel
theorem dX3_printNode_4 : decode cX3_printNode 4 = .ok (.getfield 99, 3) := by decide +kernel
theorem dX3_printNode_7 : decode cX3_printNode 7 = .ok (.astore_n 2, 1) := by decide +kernel
theorem dX3_printNode_8 : decode cX3_printNode 8 = .ok (.aload_n 2, 1) := by decide +kernel
theorem dX3_printNode_9 : decode cX3_printNode 9 = .ok (.iload_n 1, 1) := by decide +kernel
theorem dX3_printNode_10 : decode cX3_printNode 10 = .ok (.invokevirtual 103, 3) := by decide +kernel
theorem dX3_printNode_13 : decode cX3_printNode 13 = .ok (.istore_n 3, 1) := by decide +kernel
theorem dX3_printNode_14 : decode cX3_printNode 14 = .ok (.aload_n 2, 1) := by decide +kernel
theorem dX3_printNode_15 : decode cX3_printNode 15 = .ok (.iload_n 1, 1) := by decide +kernel
theorem dX3_printNode_16 : decode cX3_printNode 16 = .ok (.invokevirtual 106, 3) := by decide +kernel
theorem dX3_printNode_19 : decode cX3_printNode 19 = .ok (.istore 4, 2) := by decide +kernel
theorem dX3_printNode_21 : decode cX3_printNode 21 = .ok (.aload_n 2, 1) := by decide +kernel
theorem dX3_printNode_22 : decode cX3_printNode 22 = .ok (.iload_n 1, 1) := by decide +kernel
theorem dX3_printNode_23 : decode cX3_printNode 23 = .ok (.invokevirtual 107, 3) := by decide +kernel
theorem dX3_printNode_26 : decode cX3_printNode 26 = .ok (.istore 5, 2) := by decide +kernel
theorem dX3_printNode_28 : decode cX3_printNode 28 = .ok (.iload_n 3, 1) := by decide +kernel
theorem dX3_printNode_29 : decode cX3_printNode 29 = .ok (.tableswitch 177 0 7 #[47, 63, 73, 145, 177, 177, 83, 83], 47) := by decide +kernel
theorem dX3_printNode_76 : decode cX3_printNode 76 = .ok (.aload_n 0, 1) := by decide +kernel
theorem dX3_printNode_77 : decode cX3_printNode 77 = .ok (.aload_n 0, 1) := by decide +kernel
theorem dX3_printNode_78 : decode cX3_printNode 78 = .ok (.getfield 19, 3) := by decide +kernel
theorem dX3_printNode_81 : decode cX3_printNode 81 = .ok (.iload 4, 2) := by decide +kernel
theorem dX3_printNode_83 : decode cX3_printNode 83 = .ok (.invokevirtual 108, 3) := by decide +kernel
theorem dX3_printNode_86 : decode cX3_printNode 86 = .ok (.invokevirtual 42, 3) := by decide +kernel
theorem dX3_printNode_89 : decode cX3_printNode 89 = .ok (.goto 170, 3) := by decide +kernel
theorem dX3_printNode_92 : decode cX3_printNode 92 = .ok (.aload_n 0, 1) := by decide +kernel
theorem dX3_printNode_93 : decode cX3_printNode 93 = .ok (.ldc2_w 111, 3) := by decide +kernel
theorem dX3_printNode_96 : decode cX3_printNode 96 = .ok (.invokevirtual 42, 3) := by decide +kernel
theorem dX3_printNode_99 : decode cX3_printNode 99 = .ok (.goto 160, 3) := by decide +kernel
theorem dX3_printNode_102 : decode cX3_printNode 102 = .ok (.aload_n 0, 1) := by decide +kernel
theorem dX3_printNode_103 : decode cX3_printNode 103 = .ok (.ldc2_w 113, 3) := by decide +kernel
theorem dX3_printNode_106 : decode cX3_printNode 106 = .ok (.invokevirtual 42, 3) := by decide +kernel
theorem dX3_printNode_109 : decode cX3_printNode 109 = .ok (.goto 150, 3) := by decide +kernel
theorem dX3_printNode_112 : decode cX3_printNode 112 = .ok (.aload_n 0, 1) := by decide +kernel
theorem dX3_printNode_113 : decode cX3_printNode 113 = .ok (.iload 5, 2) := by decide +kernel
theorem dX3_printNode_115 : decode cX3_printNode 115 = .ok (.aload_n 2, 1) := by decide +kernel
theorem dX3_printNode_116 : decode cX3_printNode 116 = .ok (.iload 5, 2) := by decide +kernel
theorem dX3_printNode_118 : decode cX3_printNode 118 = .ok (.invokevirtual 103, 3) := by decide +kernel
theorem dX3_printNode_121 : decode cX3_printNode 121 = .ok (.iload_n 3, 1) := by decide +kernel
theorem dX3_printNode_122 : decode cX3_printNode 122 = .ok (.if_icmp .lt 7, 3) := by decide +kernel
theorem dX3_printNode_125 : decode cX3_printNode 125 = .ok (.iconst 1, 1) := by decide +kernel
theorem dX3_printNode_126 : decode cX3_printNode 126 = .ok (.goto 4, 3) := by decide +kernel
theorem dX3_printNode_129 : decode cX3_printNode 129 = .ok (.iconst 0, 1) := by decide +kernel
theorem dX3_printNode_130 : decode cX3_printNode 130 = .ok (.invokevirtual 115, 3) := by decide +kernel
theorem dX3_printNode_133 : decode cX3_printNode 133 = .ok (.aload_n 0, 1) := by decide +kernel
theorem dX3_printNode_134 : decode cX3_printNode 134 = .ok (.iload_n 3, 1) := by decide +kernel
theorem dX3_printNode_135 : decode cX3_printNode 135 = .ok (.bipush 6, 2) := by decide +kernel
theorem dX3_printNode_137 : decode cX3_printNode 137 = .ok (.if_icmp .ne 8, 3) := by decide +kernel
theorem dX3_printNode_140 : decode cX3_printNode 140 = .ok (.bipush (-3), 2) := by decide +kernel
theorem dX3_printNode_142 : decode cX3_printNode 142 = .ok (.goto 5, 3) := by decide +kernel
theorem dX3_printNode_145 : decode cX3_printNode 145 = .ok (.bipush (-4), 2) := by decide +kernel
theorem dX3_printNode_147 : decode cX3_printNode 147 = .ok (.invokevirtual 82, 3) := by decide +kernel
theorem dX3_printNode_150 : decode cX3_printNode 150 = .ok (.aload_n 0, 1) := by decide +kernel
theorem dX3_printNode_151 : decode cX3_printNode 151 = .ok (.iload 4, 2) := by decide +kernel
theorem dX3_printNode_153 : decode cX3_printNode 153 = .ok (.aload_n 2, 1) := by decide +kernel
theorem dX3_printNode_154 : decode cX3_printNode 154 = .ok (.iload 4, 2) := by decide +kernel
theorem dX3_printNode_156 : decode cX3_printNode 156 = .ok (.invokevirtual 103, 3) := by decide +kernel
theorem dX3_printNode_159 : decode cX3_printNode 159 = .ok (.iload_n 3, 1) := by decide +kernel
theorem dX3_printNode_160 : decode cX3_printNode 160 = .ok (.if_icmp .le 7, 3) := by decide +kernel
theorem dX3_printNode_163 : decode cX3_printNode 163 = .ok (.iconst 1, 1) := by decide +kernel
theorem dX3_printNode_164 : decode cX3_printNode 164 = .ok (.goto 4, 3) := by decide +kernel
theorem dX3_printNode_167 : decode cX3_printNode 167 = .ok (.iconst 0, 1) := by decide +kernel
theorem dX3_printNode_168 : decode cX3_printNode 168 = .ok (.invokevirtual 115, 3) := by decide +kernel
theorem dX3_printNode_171 : decode cX3_printNode 171 = .ok (.goto 88, 3) := by decide +kernel
theorem dX3_printNode_174 : decode cX3_printNode 174 = .ok (.aload_n 0, 1) := by decide +kernel
theorem dX3_printNode_175 : decode cX3_printNode 175 = .ok (.ldc2_w 119, 3) := by decide +kernel
theorem dX3_printNode_178 : decode cX3_printNode 178 = .ok (.invokevirtual 66, 3) := by decide +kernel
theorem dX3_printNode_181 : decode cX3_printNode 181 = .ok (.aload_n 0, 1) := by decide +kernel
theorem dX3_printNode_182 : decode cX3_printNode 182 = .ok (.iload 4, 2) := by decide +kernel
theorem dX3_printNode_184 : decode cX3_printNode 184 = .ok (.aload_n 2, 1) := by decide +kernel
theorem dX3_printNode_185 : decode cX3_printNode 185 = .ok (.iload 4, 2) := by decide +kernel
theorem dX3_printNode_187 : decode cX3_printNode 187 = .ok (.invokevirtual 103, 3) := by decide +kernel
theorem dX3_printNode_190 : decode cX3_printNode 190 = .ok (.bipush 6, 2) := by decide +kernel
theorem dX3_printNode_192 : decode cX3_printNode 192 = .ok (.if_icmp .lt 7, 3) := by decide +kernel
theorem dX3_printNode_195 : decode cX3_printNode 195 = .ok (.iconst 1, 1) := by decide +kernel
theorem dX3_printNode_196 : decode cX3_printNode 196 = .ok (.goto 4, 3) := by decide +kernel
theorem dX3_printNode_199 : decode cX3_printNode 199 = .ok (.iconst 0, 1) := by decide +kernel
theorem dX3_printNode_200 : decode cX3_printNode 200 = .ok (.invokevirtual 115, 3) := by decide +kernel
theorem dX3_printNode_203 : decode cX3_printNode 203 = .ok (.goto 56, 3) := by decide +kernel
theorem dX3_printNode_206 : decode cX3_printNode 206 = .ok (.aload_n 0, 1) := by decide +kernel
theorem dX3_printNode_207 : decode cX3_printNode 207 = .ok (.iload_n 3, 1) := by decide +kernel
theorem dX3_printNode_208 : decode cX3_printNode 208 = .ok (.iconst 4, 1) := by decide +kernel
theorem dX3_printNode_209 : decode cX3_printNode 209 = .ok (.if_icmp .ne 9, 3) := by decide +kernel
theorem dX3_printNode_212 : decode cX3_printNode 212 = .ok (.ldc2_w 121, 3) := by decide +kernel
theorem dX3_printNode_215 : decode cX3_printNode 215 = .ok (.goto 6, 3) := by decide +kernel
theorem dX3_printNode_218 : decode cX3_printNode 218 = .ok (.ldc2_w 123, 3) := by decide +kernel
theorem dX3_printNode_221 : decode cX3_printNode 221 = .ok (.invokevirtual 66, 3) := by decide +kernel
theorem dX3_printNode_224 : decode cX3_printNode 224 = .ok (.aload_n 0, 1) := by decide +kernel
theorem dX3_printNode_225 : decode cX3_printNode 225 = .ok (.aload_n 0, 1) := by decide +kernel
theorem dX3_printNode_226 : decode cX3_printNode 226 = .ok (.getfield 19, 3) := by decide +kernel
theorem dX3_printNode_229 : decode cX3_printNode 229 = .ok (.iload 5, 2) := by decide +kernel
theorem dX3_printNode_231 : decode cX3_printNode 231 = .ok (.invokevirtual 73, 3) := by decide +kernel
theorem dX3_printNode_234 : decode cX3_printNode 234 = .ok (.invokevirtual 66, 3) := by decide +kernel
theorem dX3_printNode_237 : decode cX3_printNode 237 = .ok (.aload_n 0, 1) := by decide +kernel
theorem dX3_printNode_238 : decode cX3_printNode 238 = .ok (.iload 4, 2) := by decide +kernel
theorem dX3_printNode_240 : decode cX3_printNode 240 = .ok (.aload_n 2, 1) := by decide +kernel
theorem dX3_printNode_241 : decode cX3_printNode 241 = .ok (.iload 4, 2) := by decide +kernel
theorem dX3_printNode_243 : decode cX3_printNode 243 = .ok (.invokevirtual 103, 3) := by decide +kernel
theorem dX3_printNode_246 : decode cX3_printNode 246 = .ok (.bipush 6, 2) := by decide +kernel
theorem dX3_printNode_248 : decode cX3_printNode 248 = .ok (.if_icmp .lt 7, 3) := by decide +kernel
theorem dX3_printNode_251 : decode cX3_printNode 251 = .ok (.iconst 1, 1) := by decide +kernel
theorem dX3_printNode_252 : decode cX3_printNode 252 = .ok (.goto 4, 3) := by decide +kernel
theorem dX3_printNode_255 : decode cX3_printNode 255 = .ok (.iconst 0, 1) := by decide +kernel
theorem dX3_printNode_256 : decode cX3_printNode 256 = .ok (.invokevirtual 115, 3) := by decide +kernel
theorem dX3_printNode_259 : decode cX3_printNode 259 = .ok (.return_, 1) := by decide +kernel
set_option maxRecDepth 20000 in
theorem ggX3_awaitPart_X3_await : GoodIn wsX3_awaitPart wsX3_await := goodIn_r _ [5, 6, 7, 8, 9, 10, 11, 12] (by decide +kernel) (by decide +kernel)
set_option maxRecDepth 20000 in
theorem gX3_awaitPart_X3_await : GoodIn wsX3_awaitPart (wsV RX3 82 RX3 yX3_await wsX3_await) := goodIn_app (goodIn_of _ (by decide +kernel)) ggX3_awaitPart_X3_await
theorem dX3_awaitPart_0 : decode cX3_awaitPart 0 = .ok (.iload_n 2, 1) := by decide +kernel
theorem dX3_awaitPart_1 : decode cX3_awaitPart 1 = .ok (.ifCond .eq 9, 3) := by decide +kernel
theorem dX3_awaitPart_4 : decode cX3_awaitPart 4 = .ok (.aload_n 0, 1) := by decide +kernel
theorem dX3_awaitPart_5 : decode cX3_awaitPart 5 = .ok (.bipush (-2), 2) := by decide +kernel
theorem dX3_awaitPart_7 : decode cX3_awaitPart 7 = .ok (.invokevirtual 82, 3) := by decide +kernel
theorem dX3_awaitPart_10 : decode cX3_awaitPart 10 = .ok (.aload_n 0, 1) := by decide +kernel
theorem dX3_awaitPart_11 : decode cX3_awaitPart 11 = .ok (.iload_n 1, 1) := by decide +kernel
theorem dX3_awaitPart_12 : decode cX3_awaitPart 12 = .ok (.invokevirtual 82, 3) := by decide +kernel
theorem dX3_awaitPart_15 : decode cX3_awaitPart 15 = .ok (.iload_n 2, 1) := by decide +kernel
theorem dX3_awaitPart_16 : decode cX3_awaitPart 16 = .ok (.ifCond .eq 8, 3) := by decide +kernel
theorem dX3_awaitPart_19 : decode cX3_awaitPart 19 = .ok (.aload_n 0, 1) := by decide +kernel
theorem dX3_awaitPart_20 : decode cX3_awaitPart 20 = .ok (.iconst (-1), 1) := by decide +kernel
theorem dX3_awaitPart_21 : decode cX3_awaitPart 21 = .ok (.invokevirtual 82, 3) := by decide +kernel
theorem dX3_awaitPart_24 : decode cX3_awaitPart 24 = .ok (.return_, 1) := by decide +kernel
theorem dX3_await_0 : decode cX3_await 0 = .ok (.aload_n 0, 1) := by decide +kernel
theorem dX3_await_1 : decode cX3_await 1 = .ok (.getfield 79, 3) := by decide +kernel
theorem dX3_await_4 : decode cX3_await 4 = .ok (.ifCond .lt 33, 3) := by decide +kernel
theorem dX3_await_7 : decode cX3_await 7 = .ok (.aload_n 0, 1) := by decide +kernel
theorem dX3_await_8 : decode cX3_await 8 = .ok (.getfield 79, 3) := by decide +kernel
theorem dX3_await_11 : decode cX3_await 11 = .ok (.sipush 500, 3) := by decide +kernel
theorem dX3_await_14 : decode cX3_await 14 = .ok (.if_icmp .ge 23, 3) := by decide +kernel
theorem dX3_await_17 : decode cX3_await 17 = .ok (.aload_n 0, 1) := by decide +kernel
theorem dX3_await_18 : decode cX3_await 18 = .ok (.getfield 15, 3) := by decide +kernel
theorem dX3_await_21 : decode cX3_await 21 = .ok (.aload_n 0, 1) := by decide +kernel
theorem dX3_await_22 : decode cX3_await 22 = .ok (.getfield 79, 3) := by decide +kernel
theorem dX3_await_25 : decode cX3_await 25 = .ok (.iload_n 1, 1) := by decide +kernel
theorem dX3_await_26 : decode cX3_await 26 = .ok (.iastore, 1) := by decide +kernel
theorem dX3_await_27 : decode cX3_await 27 = .ok (.aload_n 0, 1) := by decide +kernel
theorem dX3_await_28 : decode cX3_await 28 = .ok (.dup, 1) := by decide +kernel
theorem dX3_await_29 : decode cX3_await 29 = .ok (.getfield 79, 3) := by decide +kernel
theorem dX3_await_32 : decode cX3_await 32 = .ok (.iconst 1, 1) := by decide +kernel
theorem dX3_await_33 : decode cX3_await 33 = .ok (.iadd, 1) := by decide +kernel
theorem dX3_await_34 : decode cX3_await 34 = .ok (.putfield 79, 3) := by decide +kernel
theorem dX3_await_37 : decode cX3_await 37 = .ok (.return_, 1) := by decide +kernel
set_option maxRecDepth 20000 in
theorem ggX3_putJoint_X3_putWord : GoodIn wsX3_putJoint wsX3_putWord := goodIn_r _ [6, 7, 8, 9, 14, 15, 16, 17, 18] (by decide +kernel) (by decide +kernel)
set_option maxRecDepth 20000 in
theorem gX3_putJoint_X3_putWord : GoodIn wsX3_putJoint (wsV RX3 42 RX3 yX3_putWord wsX3_putWord) := goodIn_app (goodIn_of _ (by decide +kernel)) ggX3_putJoint_X3_putWord
set_option maxRecDepth 20000 in
theorem ggX3_putJoint_X3_putBehind : GoodIn wsX3_putJoint wsX3_putBehind := goodIn_r _ [13, 1, 2, 3, 4, 5, 6, 7, 8, 9, 14, 15, 16, 17, 18] (by decide +kernel) (by decide +kernel)
set_option maxRecDepth 20000 in
theorem gX3_putJoint_X3_putBehind : GoodIn wsX3_putJoint (wsV RX3 66 RX3 yX3_putBehind wsX3_putBehind) := goodIn_app (goodIn_of _ (by decide +kernel)) ggX3_putJoint_X3_putBehind
theorem dX3_putJoint_0 : decode cX3_putJoint 0 = .ok (.aload_n 0, 1) := by decide +kernel
theorem dX3_putJoint_1 : decode cX3_putJoint 1 = .ok (.ldc2_w 60, 3) := by decide +kernel
theorem dX3_putJoint_4 : decode cX3_putJoint 4 = .ok (.invokevirtual 42, 3) := by decide +kernel
theorem dX3_putJoint_7 : decode cX3_putJoint 7 = .ok (.aload_n 0, 1) := by decide +kernel
theorem dX3_putJoint_8 : decode cX3_putJoint 8 = .ok (.lload_n 1, 1) := by decide +kernel
theorem dX3_putJoint_9 : decode cX3_putJoint 9 = .ok (.invokevirtual 66, 3) := by decide +kernel
theorem dX3_putJoint_12 : decode cX3_putJoint 12 = .ok (.return_, 1) := by decide +kernel
set_option maxRecDepth 20000 in
theorem ggX3_putBehind_X3_putWord : GoodIn wsX3_putBehind wsX3_putWord := goodIn_r _ [6, 7, 8, 9, 10, 11, 12, 13, 14] (by decide +kernel) (by decide +kernel)
set_option maxRecDepth 20000 in
theorem gX3_putBehind_X3_putWord : GoodIn wsX3_putBehind (wsV RX3 42 RX3 yX3_putWord wsX3_putWord) := goodIn_app (goodIn_of _ (by decide +kernel)) ggX3_putBehind_X3_putWord
theorem dX3_putBehind_0 : decode cX3_putBehind 0 = .ok (.aload_n 0, 1) := by decide +kernel
theorem dX3_putBehind_1 : decode cX3_putBehind 1 = .ok (.lload_n 1, 1) := by decide +kernel
theorem dX3_putBehind_2 : decode cX3_putBehind 2 = .ok (.invokevirtual 42, 3) := by decide +kernel
theorem dX3_putBehind_5 : decode cX3_putBehind 5 = .ok (.aload_n 0, 1) := by decide +kernel
theorem dX3_putBehind_6 : decode cX3_putBehind 6 = .ok (.ldc2_w 60, 3) := by decide +kernel
theorem dX3_putBehind_9 : decode cX3_putBehind 9 = .ok (.invokevirtual 42, 3) := by decide +kernel
theorem dX3_putBehind_12 : decode cX3_putBehind 12 = .ok (.return_, 1) := by decide +kernel
theorem dX3_putWord_0 : decode cX3_putWord 0 = .ok (.bipush 56, 2) := by decide +kernel
theorem dX3_putWord_2 : decode cX3_putWord 2 = .ok (.istore_n 3, 1) := by decide +kernel
theorem dX3_putWord_3 : decode cX3_putWord 3 = .ok (.iload_n 3, 1) := by decide +kernel
theorem dX3_putWord_4 : decode cX3_putWord 4 = .ok (.ifCond .lt 58, 3) := by decide +kernel
theorem dX3_putWord_7 : decode cX3_putWord 7 = .ok (.lload_n 1, 1) := by decide +kernel
theorem dX3_putWord_8 : decode cX3_putWord 8 = .ok (.iload_n 3, 1) := by decide +kernel
theorem dX3_putWord_9 : decode cX3_putWord 9 = .ok (.lshr, 1) := by decide +kernel
theorem dX3_putWord_10 : decode cX3_putWord 10 = .ok (.ldc2_w 125, 3) := by decide +kernel
theorem dX3_putWord_13 : decode cX3_putWord 13 = .ok (.land, 1) := by decide +kernel
theorem dX3_putWord_14 : decode cX3_putWord 14 = .ok (.lstore 4, 2) := by decide +kernel
theorem dX3_putWord_16 : decode cX3_putWord 16 = .ok (.lload 4, 2) := by decide +kernel
theorem dX3_putWord_18 : decode cX3_putWord 18 = .ok (.lconst 0, 1) := by decide +kernel
theorem dX3_putWord_19 : decode cX3_putWord 19 = .ok (.lcmp, 1) := by decide +kernel
theorem dX3_putWord_20 : decode cX3_putWord 20 = .ok (.ifCond .eq 36, 3) := by decide +kernel
theorem dX3_putWord_23 : decode cX3_putWord 23 = .ok (.aload_n 0, 1) := by decide +kernel
theorem dX3_putWord_24 : decode cX3_putWord 24 = .ok (.getfield 23, 3) := by decide +kernel
theorem dX3_putWord_27 : decode cX3_putWord 27 = .ok (.sipush 2670, 3) := by decide +kernel
theorem dX3_putWord_30 : decode cX3_putWord 30 = .ok (.if_icmp .ge 26, 3) := by decide +kernel
theorem dX3_putWord_33 : decode cX3_putWord 33 = .ok (.aload_n 0, 1) := by decide +kernel
theorem dX3_putWord_34 : decode cX3_putWord 34 = .ok (.getfield 9, 3) := by decide +kernel
theorem dX3_putWord_37 : decode cX3_putWord 37 = .ok (.aload_n 0, 1) := by decide +kernel
theorem dX3_putWord_38 : decode cX3_putWord 38 = .ok (.getfield 23, 3) := by decide +kernel
theorem dX3_putWord_41 : decode cX3_putWord 41 = .ok (.lload 4, 2) := by decide +kernel
theorem dX3_putWord_43 : decode cX3_putWord 43 = .ok (.l2i, 1) := by decide +kernel
theorem dX3_putWord_44 : decode cX3_putWord 44 = .ok (.i2b, 1) := by decide +kernel
theorem dX3_putWord_45 : decode cX3_putWord 45 = .ok (.bastore, 1) := by decide +kernel
theorem dX3_putWord_46 : decode cX3_putWord 46 = .ok (.aload_n 0, 1) := by decide +kernel
theorem dX3_putWord_47 : decode cX3_putWord 47 = .ok (.dup, 1) := by decide +kernel
theorem dX3_putWord_48 : decode cX3_putWord 48 = .ok (.getfield 23, 3) := by decide +kernel
theorem dX3_putWord_51 : decode cX3_putWord 51 = .ok (.iconst 1, 1) := by decide +kernel
theorem dX3_putWord_52 : decode cX3_putWord 52 = .ok (.iadd, 1) := by decide +kernel
theorem dX3_putWord_53 : decode cX3_putWord 53 = .ok (.putfield 23, 3) := by decide +kernel
theorem dX3_putWord_56 : decode cX3_putWord 56 = .ok (.iinc 3 (-8), 3) := by decide +kernel
theorem dX3_putWord_59 : decode cX3_putWord 59 = .ok (.goto (-56), 3) := by decide +kernel
theorem dX3_putWord_62 : decode cX3_putWord 62 = .ok (.return_, 1) := by decide +kernel
set_option maxRecDepth 20000 in
theorem ggX4_init_X5_init : GoodIn wsX4_init wsX5_init := goodIn_r _ [14, 15, 2, 3, 16, 22, 23, 24, 25, 26, 27] (by decide +kernel) (by decide +kernel)
set_option maxRecDepth 20000 in
theorem gX4_init_X5_init : GoodIn wsX4_init (wsX5_init) := ggX4_init_X5_init
theorem dX4_init_0 : decode cX4_init 0 = .ok (.aload_n 0, 1) := by decide +kernel
theorem dX4_init_1 : decode cX4_init 1 = .ok (.invokespecial 3, 3) := by decide +kernel
theorem dX4_init_4 : decode cX4_init 4 = .ok (.aload_n 0, 1) := by decide +kernel
theorem dX4_init_5 : decode cX4_init 5 = .ok (.iconst (-1), 1) := by decide +kernel
theorem dX4_init_6 : decode cX4_init 6 = .ok (.putfield 9, 3) := by decide +kernel
theorem dX4_init_9 : decode cX4_init 9 = .ok (.aload_n 0, 1) := by decide +kernel
theorem dX4_init_10 : decode cX4_init 10 = .ok (.new 15, 3) := by decide +kernel
theorem dX4_init_13 : decode cX4_init 13 = .ok (.dup, 1) := by decide +kernel
theorem dX4_init_14 : decode cX4_init 14 = .ok (.aload_n 1, 1) := by decide +kernel
theorem dX4_init_15 : decode cX4_init 15 = .ok (.invokespecial 17, 3) := by decide +kernel
theorem dX4_init_18 : decode cX4_init 18 = .ok (.putfield 20, 3) := by decide +kernel
theorem dX4_init_21 : decode cX4_init 21 = .ok (.aload_n 0, 1) := by decide +kernel
theorem dX4_init_22 : decode cX4_init 22 = .ok (.aload_n 2, 1) := by decide +kernel
theorem dX4_init_23 : decode cX4_init 23 = .ok (.putfield 24, 3) := by decide +kernel
theorem dX4_init_26 : decode cX4_init 26 = .ok (.aload_n 0, 1) := by decide +kernel
theorem dX4_init_27 : decode cX4_init 27 = .ok (.aload_n 2, 1) := by decide +kernel
theorem dX4_init_28 : decode cX4_init 28 = .ok (.getfield 28, 3) := by decide +kernel
theorem dX4_init_31 : decode cX4_init 31 = .ok (.putfield 34, 3) := by decide +kernel
theorem dX4_init_34 : decode cX4_init 34 = .ok (.return_, 1) := by decide +kernel
set_option maxRecDepth 20000 in
theorem ggX4_takeIn_X0_clear : GoodIn wsX4_takeIn wsX0_clear := goodIn_r _ [16, 17, 18, 19, 20, 21, 22, 23, 24, 25, 26, 27, 28, 29, 30, 31, 32, 33, 277, 278, 279, 280, 281, 282, 283, 284, 285, 286, 287, 288, 289, 290, 291, 298, 299, 300, 301, 302, 303, 304, 305, 306, 307] (by decide +kernel) (by decide +kernel)
set_option maxRecDepth 20000 in
theorem gX4_takeIn_X0_clear : GoodIn wsX4_takeIn (wsV RX4 35 RX0 yX0_clear wsX0_clear) := goodIn_app (goodIn_of _ (by decide +kernel)) ggX4_takeIn_X0_clear
set_option maxRecDepth 20000 in
theorem ggX4_takeIn_X5_start : GoodIn wsX4_takeIn wsX5_start := goodIn_r _ [38, 39, 40, 41, 42, 43, 44, 45, 46, 47, 48, 37, 49, 50, 51, 52, 53, 54, 55, 56, 57, 58, 59, 60, 61, 62, 63, 64, 65, 66, 67, 68, 69, 70, 71, 72, 73, 74, 75, 76, 77, 78, 79, 80, 81, 82, 83, 84, 85, 86, 87, 88, 292, 293, 294, 295, 296, 297] (by decide +kernel) (by decide +kernel)
set_option maxRecDepth 20000 in
theorem gX4_takeIn_X5_start : GoodIn wsX4_takeIn (wsV RX4 41 RX5 yX5_start wsX5_start) := goodIn_app (goodIn_of _ (by decide +kernel)) ggX4_takeIn_X5_start
set_option maxRecDepth 20000 in
theorem ggX4_takeIn_X4_takeQuestion : GoodIn wsX4_takeIn wsX4_takeQuestion := goodIn_r _ [93, 1, 94, 6, 95, 96, 97, 92, 98, 99, 100, 101, 102, 103, 4, 5, 104, 47, 48, 37, 49, 45, 50, 51, 44, 52, 39, 53, 54, 55, 56, 57, 58, 59, 60, 61, 62, 63, 64, 65, 66, 67, 68, 69, 70, 71, 72, 73, 74, 75, 76, 77, 78, 79, 80, 81, 82, 83, 84, 85, 86, 87, 88, 105, 106, 107, 108, 8, 109, 3, 110, 111, 112, 113, 114, 115, 116, 117, 118, 119, 120, 30, 121, 32, 122, 123, 124, 125, 126, 127, 128, 129, 130, 131, 132, 133, 33, 134, 135, 136, 137, 138, 139, 140, 141, 142, 143, 144, 145, 146, 147, 148, 149, 150, 151, 152, 153, 154, 155, 156, 157, 158, 159, 160, 7, 161, 162, 163, 164, 165, 166, 167, 168, 169, 170, 171, 172, 173, 174, 175, 176, 177, 178, 179, 180, 181, 182, 15, 183, 184, 19, 185, 186, 187, 188, 189, 190, 191, 192, 20, 193, 194, 195, 196, 197, 198, 199, 200, 201, 202, 203, 204, 205, 206, 207, 208, 209, 210, 211, 212, 213, 214, 215, 216, 217, 218, 219, 220, 23, 221, 222, 223, 224, 225, 21, 226, 272, 273, 274, 275, 276, 277, 278, 279, 280, 281, 282, 283, 284, 285, 286, 287, 288, 289, 290, 291, 292, 293, 294, 295, 296, 297, 298, 299, 300, 301, 302, 303, 304, 305, 306, 307] (by decide +kernel) (by decide +kernel)
set_option maxRecDepth 20000 in
theorem gX4_takeIn_X4_takeQuestion : GoodIn wsX4_takeIn (wsV RX4 54 RX4 yX4_takeQuestion wsX4_takeQuestion) := goodIn_app (goodIn_of _ (by decide +kernel)) ggX4_takeIn_X4_takeQuestion
set_option maxRecDepth 20000 in
theorem ggX4_takeIn_X4_takeOrder : GoodIn wsX4_takeIn wsX4_takeOrder := goodIn_r _ [230, 6, 99, 1, 104, 47, 48, 37, 49, 45, 50, 51, 44, 52, 39, 53, 54, 55, 56, 57, 58, 59, 60, 61, 62, 63, 64, 65, 66, 67, 68, 69, 70, 71, 72, 73, 74, 75, 76, 77, 78, 79, 80, 81, 82, 83, 84, 85, 86, 87, 88, 204, 205, 206, 92, 207, 7, 8, 157, 158, 159, 160, 95, 96, 97, 98, 100, 101, 102, 103, 4, 5, 188, 189, 190, 15, 191, 192, 20, 185, 186, 187, 180, 181, 182, 183, 184, 19, 208, 209, 210, 211, 231, 232, 233, 234, 25, 235, 236, 237, 238, 239, 240, 241, 242, 24, 212, 213, 214, 215, 216, 243, 244, 245, 246, 26, 222, 223, 224, 225, 21, 226, 247, 272, 273, 274, 275, 276, 292, 293, 294, 295, 296, 297, 277, 278, 279, 280, 281, 282, 283, 284, 285, 286, 287, 288, 289, 290, 291] (by decide +kernel) (by decide +kernel)
set_option maxRecDepth 20000 in
theorem gX4_takeIn_X4_takeOrder : GoodIn wsX4_takeIn (wsV RX4 59 RX4 yX4_takeOrder wsX4_takeOrder) := goodIn_app (goodIn_of _ (by decide +kernel)) ggX4_takeIn_X4_takeOrder
set_option maxRecDepth 20000 in
theorem ggX4_takeIn_X4_takeSingle : GoodIn wsX4_takeIn wsX4_takeSingle := goodIn_r _ [251, 6, 99, 1, 104, 47, 48, 37, 49, 45, 50, 51, 44, 52, 39, 53, 54, 55, 56, 57, 58, 59, 60, 61, 62, 63, 64, 65, 66, 67, 68, 69, 70, 71, 72, 73, 74, 75, 76, 77, 78, 79, 80, 81, 82, 83, 84, 85, 86, 87, 88, 204, 205, 206, 92, 207, 7, 8, 157, 158, 159, 160, 95, 96, 97, 98, 100, 101, 102, 103, 4, 5, 188, 189, 190, 15, 191, 192, 20, 185, 186, 187, 180, 181, 182, 183, 184, 19, 208, 209, 210, 211, 252, 253, 254, 255, 26, 212, 213, 214, 215, 216, 256, 257, 258, 259, 25, 222, 223, 224, 225, 21, 226, 272, 273, 274, 275, 276, 292, 293, 294, 295, 296, 297, 277, 278, 279, 280, 281, 282, 283, 284, 285, 286, 287, 288, 289, 290, 291] (by decide +kernel) (by decide +kernel)
set_option maxRecDepth 20000 in
theorem gX4_takeIn_X4_takeSingle : GoodIn wsX4_takeIn (wsV RX4 64 RX4 yX4_takeSingle wsX4_takeSingle) := goodIn_app (goodIn_of _ (by decide +kernel)) ggX4_takeIn_X4_takeSingle
set_option maxRecDepth 20000 in
theorem ggX4_takeIn_X4_takeRule : GoodIn wsX4_takeIn wsX4_takeRule := goodIn_r _ [263, 6, 1, 264, 8, 265, 266, 167, 168, 169, 37, 170, 52, 51, 78, 79, 171, 172, 173, 174, 75, 76, 77, 87, 157, 158, 159, 92, 160, 7, 95, 96, 97, 98, 99, 100, 101, 102, 103, 4, 5, 105, 106, 107, 108, 109, 3, 110, 111, 112, 113, 114, 115, 116, 117, 104, 47, 48, 49, 45, 50, 44, 39, 53, 54, 55, 56, 57, 58, 59, 60, 61, 62, 63, 64, 65, 66, 67, 68, 69, 70, 71, 72, 73, 74, 80, 81, 82, 83, 84, 85, 86, 88, 118, 119, 120, 30, 121, 32, 122, 123, 124, 125, 126, 127, 128, 129, 130, 131, 132, 133, 33, 134, 135, 136, 137, 138, 139, 140, 141, 142, 143, 144, 145, 146, 147, 148, 149, 150, 151, 152, 153, 154, 155, 156, 161, 162, 163, 164, 165, 166, 175, 176, 177, 178, 179, 180, 181, 182, 15, 183, 184, 19, 185, 186, 187, 188, 189, 190, 191, 192, 20, 193, 194, 195, 196, 197, 198, 199, 200, 201, 202, 203, 204, 205, 206, 207, 208, 209, 210, 211, 212, 213, 214, 215, 216, 267, 268, 269, 270, 22, 271, 222, 223, 224, 225, 21, 226, 272, 273, 274, 275, 276, 277, 278, 279, 280, 281, 282, 283, 284, 285, 286, 287, 288, 289, 290, 291, 292, 293, 294, 295, 296, 297, 298, 299, 300, 301, 302, 303, 304, 305, 306, 307] (by decide +kernel) (by decide +kernel)
set_option maxRecDepth 20000 in
theorem gX4_takeIn_X4_takeRule : GoodIn wsX4_takeIn (wsV RX4 67 RX4 yX4_takeRule wsX4_takeRule) := goodIn_app (goodIn_of _ (by decide +kernel)) ggX4_takeIn_X4_takeRule
theorem dX4_takeIn_0 : decode cX4_takeIn 0 = .ok (.aload_n 0, 1) := by decide +kernel
theorem dX4_takeIn_1 : decode cX4_takeIn 1 = .ok (.aload_n 2, 1) := by decide +kernel
theorem dX4_takeIn_2 : decode cX4_takeIn 2 = .ok (.putfield 24, 3) := by decide +kernel
theorem dX4_takeIn_5 : decode cX4_takeIn 5 = .ok (.aload_n 0, 1) := by decide +kernel
theorem dX4_takeIn_6 : decode cX4_takeIn 6 = .ok (.aload_n 2, 1) := by decide +kernel
theorem dX4_takeIn_7 : decode cX4_takeIn 7 = .ok (.getfield 28, 3) := by decide +kernel
theorem dX4_takeIn_10 : decode cX4_takeIn 10 = .ok (.putfield 34, 3) := by decide +kernel
theorem dX4_takeIn_13 : decode cX4_takeIn 13 = .ok (.aload_n 0, 1) := by decide +kernel
theorem dX4_takeIn_14 : decode cX4_takeIn 14 = .ok (.getfield 24, 3) := by decide +kernel
theorem dX4_takeIn_17 : decode cX4_takeIn 17 = .ok (.invokevirtual 35, 3) := by decide +kernel
theorem dX4_takeIn_20 : decode cX4_takeIn 20 = .ok (.aload_n 0, 1) := by decide +kernel
theorem dX4_takeIn_21 : decode cX4_takeIn 21 = .ok (.iconst 0, 1) := by decide +kernel
theorem dX4_takeIn_22 : decode cX4_takeIn 22 = .ok (.putfield 38, 3) := by decide +kernel
theorem dX4_takeIn_25 : decode cX4_takeIn 25 = .ok (.aload_n 0, 1) := by decide +kernel
theorem dX4_takeIn_26 : decode cX4_takeIn 26 = .ok (.iconst (-1), 1) := by decide +kernel
theorem dX4_takeIn_27 : decode cX4_takeIn 27 = .ok (.putfield 9, 3) := by decide +kernel
theorem dX4_takeIn_30 : decode cX4_takeIn 30 = .ok (.aload_n 0, 1) := by decide +kernel
theorem dX4_takeIn_31 : decode cX4_takeIn 31 = .ok (.getfield 20, 3) := by decide +kernel
theorem dX4_takeIn_34 : decode cX4_takeIn 34 = .ok (.iload_n 1, 1) := by decide +kernel
theorem dX4_takeIn_35 : decode cX4_takeIn 35 = .ok (.invokevirtual 41, 3) := by decide +kernel
theorem dX4_takeIn_38 : decode cX4_takeIn 38 = .ok (.iconst 0, 1) := by decide +kernel
theorem dX4_takeIn_39 : decode cX4_takeIn 39 = .ok (.istore_n 3, 1) := by decide +kernel
theorem dX4_takeIn_40 : decode cX4_takeIn 40 = .ok (.iload_n 3, 1) := by decide +kernel
theorem dX4_takeIn_41 : decode cX4_takeIn 41 = .ok (.iload_n 1, 1) := by decide +kernel
theorem dX4_takeIn_42 : decode cX4_takeIn 42 = .ok (.if_icmp .gt 94, 3) := by decide +kernel
theorem dX4_takeIn_45 : decode cX4_takeIn 45 = .ok (.aload_n 0, 1) := by decide +kernel
theorem dX4_takeIn_46 : decode cX4_takeIn 46 = .ok (.getfield 38, 3) := by decide +kernel
theorem dX4_takeIn_49 : decode cX4_takeIn 49 = .ok (.ifCond .ne 87, 3) := by decide +kernel
theorem dX4_takeIn_52 : decode cX4_takeIn 52 = .ok (.aload_n 0, 1) := by decide +kernel
theorem dX4_takeIn_53 : decode cX4_takeIn 53 = .ok (.getfield 20, 3) := by decide +kernel
theorem dX4_takeIn_56 : decode cX4_takeIn 56 = .ok (.getfield 45, 3) := by decide +kernel
theorem dX4_takeIn_59 : decode cX4_takeIn 59 = .ok (.iconst 1, 1) := by decide +kernel
theorem dX4_takeIn_60 : decode cX4_takeIn 60 = .ok (.if_icmp .eq 76, 3) := by decide +kernel
theorem dX4_takeIn_63 : decode cX4_takeIn 63 = .ok (.aload_n 0, 1) := by decide +kernel
theorem dX4_takeIn_64 : decode cX4_takeIn 64 = .ok (.getfield 20, 3) := by decide +kernel
theorem dX4_takeIn_67 : decode cX4_takeIn 67 = .ok (.getfield 48, 3) := by decide +kernel
theorem dX4_takeIn_70 : decode cX4_takeIn 70 = .ok (.ldc2_w 52, 3) := by decide +kernel
theorem dX4_takeIn_73 : decode cX4_takeIn 73 = .ok (.lcmp, 1) := by decide +kernel
theorem dX4_takeIn_74 : decode cX4_takeIn 74 = .ok (.ifCond .ne 10, 3) := by decide +kernel
theorem dX4_takeIn_77 : decode cX4_takeIn 77 = .ok (.aload_n 0, 1) := by decide +kernel
theorem dX4_takeIn_78 : decode cX4_takeIn 78 = .ok (.invokevirtual 54, 3) := by decide +kernel
theorem dX4_takeIn_81 : decode cX4_takeIn 81 = .ok (.goto 49, 3) := by decide +kernel
theorem dX4_takeIn_84 : decode cX4_takeIn 84 = .ok (.aload_n 0, 1) := by decide +kernel
theorem dX4_takeIn_85 : decode cX4_takeIn 85 = .ok (.getfield 20, 3) := by decide +kernel
theorem dX4_takeIn_88 : decode cX4_takeIn 88 = .ok (.getfield 48, 3) := by decide +kernel
theorem dX4_takeIn_91 : decode cX4_takeIn 91 = .ok (.ldc2_w 57, 3) := by decide +kernel
theorem dX4_takeIn_94 : decode cX4_takeIn 94 = .ok (.lcmp, 1) := by decide +kernel
theorem dX4_takeIn_95 : decode cX4_takeIn 95 = .ok (.ifCond .ne 10, 3) := by decide +kernel
theorem dX4_takeIn_98 : decode cX4_takeIn 98 = .ok (.aload_n 0, 1) := by decide +kernel
theorem dX4_takeIn_99 : decode cX4_takeIn 99 = .ok (.invokevirtual 59, 3) := by decide +kernel
theorem dX4_takeIn_102 : decode cX4_takeIn 102 = .ok (.goto 28, 3) := by decide +kernel
theorem dX4_takeIn_105 : decode cX4_takeIn 105 = .ok (.aload_n 0, 1) := by decide +kernel
theorem dX4_takeIn_106 : decode cX4_takeIn 106 = .ok (.getfield 20, 3) := by decide +kernel
theorem dX4_takeIn_109 : decode cX4_takeIn 109 = .ok (.getfield 48, 3) := by decide +kernel
theorem dX4_takeIn_112 : decode cX4_takeIn 112 = .ok (.ldc2_w 62, 3) := by decide +kernel
theorem dX4_takeIn_115 : decode cX4_takeIn 115 = .ok (.lcmp, 1) := by decide +kernel
theorem dX4_takeIn_116 : decode cX4_takeIn 116 = .ok (.ifCond .ne 10, 3) := by decide +kernel
theorem dX4_takeIn_119 : decode cX4_takeIn 119 = .ok (.aload_n 0, 1) := by decide +kernel
theorem dX4_takeIn_120 : decode cX4_takeIn 120 = .ok (.invokevirtual 64, 3) := by decide +kernel
theorem dX4_takeIn_123 : decode cX4_takeIn 123 = .ok (.goto 7, 3) := by decide +kernel
theorem dX4_takeIn_126 : decode cX4_takeIn 126 = .ok (.aload_n 0, 1) := by decide +kernel
theorem dX4_takeIn_127 : decode cX4_takeIn 127 = .ok (.invokevirtual 67, 3) := by decide +kernel
theorem dX4_takeIn_130 : decode cX4_takeIn 130 = .ok (.iinc 3 1, 3) := by decide +kernel
theorem dX4_takeIn_133 : decode cX4_takeIn 133 = .ok (.goto (-93), 3) := by decide +kernel
theorem dX4_takeIn_136 : decode cX4_takeIn 136 = .ok (.aload_n 0, 1) := by decide +kernel
theorem dX4_takeIn_137 : decode cX4_takeIn 137 = .ok (.getfield 38, 3) := by decide +kernel
theorem dX4_takeIn_140 : decode cX4_takeIn 140 = .ok (.ifCond .ne 7, 3) := by decide +kernel
theorem dX4_takeIn_143 : decode cX4_takeIn 143 = .ok (.iconst 1, 1) := by decide +kernel
theorem dX4_takeIn_144 : decode cX4_takeIn 144 = .ok (.goto 4, 3) := by decide +kernel
theorem dX4_takeIn_147 : decode cX4_takeIn 147 = .ok (.iconst 0, 1) := by decide +kernel
theorem dX4_takeIn_148 : decode cX4_takeIn 148 = .ok (.ireturn, 1) := by decide +kernel
theorem dX4_fail_0 : decode cX4_fail 0 = .ok (.aload_n 0, 1) := by decide +kernel
theorem dX4_fail_1 : decode cX4_fail 1 = .ok (.iload_n 1, 1) := by decide +kernel
theorem dX4_fail_2 : decode cX4_fail 2 = .ok (.putfield 38, 3) := by decide +kernel
theorem dX4_fail_5 : decode cX4_fail 5 = .ok (.aload_n 0, 1) := by decide +kernel
theorem dX4_fail_6 : decode cX4_fail 6 = .ok (.iload_n 2, 1) := by decide +kernel
theorem dX4_fail_7 : decode cX4_fail 7 = .ok (.putfield 9, 3) := by decide +kernel
theorem dX4_fail_10 : decode cX4_fail 10 = .ok (.iconst (-1), 1) := by decide +kernel
theorem dX4_fail_11 : decode cX4_fail 11 = .ok (.ireturn, 1) := by decide +kernel
set_option maxRecDepth 20000 in
theorem ggX4_failHere_X4_fail : GoodIn wsX4_failHere wsX4_fail := goodIn_r _ [7, 8, 9, 10, 11, 12, 13, 14] (by decide +kernel) (by decide +kernel)
set_option maxRecDepth 20000 in
theorem gX4_failHere_X4_fail : GoodIn wsX4_failHere (wsV RX4 73 RX4 yX4_fail wsX4_fail) := goodIn_app (goodIn_of _ (by decide +kernel)) ggX4_failHere_X4_fail
theorem dX4_failHere_0 : decode cX4_failHere 0 = .ok (.aload_n 0, 1) := by decide +kernel
theorem dX4_failHere_1 : decode cX4_failHere 1 = .ok (.iload_n 1, 1) := by decide +kernel
theorem dX4_failHere_2 : decode cX4_failHere 2 = .ok (.aload_n 0, 1) := by decide +kernel
theorem dX4_failHere_3 : decode cX4_failHere 3 = .ok (.getfield 20, 3) := by decide +kernel
theorem dX4_failHere_6 : decode cX4_failHere 6 = .ok (.getfield 70, 3) := by decide +kernel
theorem dX4_failHere_9 : decode cX4_failHere 9 = .ok (.invokevirtual 73, 3) := by decide +kernel
theorem dX4_failHere_12 : decode cX4_failHere 12 = .ok (.ireturn, 1) := by decide +kernel
set_option maxRecDepth 20000 in
theorem ggX4_misplaced_X4_failHere : GoodIn wsX4_misplaced wsX4_failHere := goodIn_r _ [7, 1, 8, 9, 10, 11, 6, 12, 13, 14, 15, 16, 17, 18, 19, 20, 21, 22, 23, 24, 25] (by decide +kernel) (by decide +kernel)
set_option maxRecDepth 20000 in
theorem gX4_misplaced_X4_failHere : GoodIn wsX4_misplaced (wsV RX4 77 RX4 yX4_failHere wsX4_failHere) := goodIn_app (goodIn_of _ (by decide +kernel)) ggX4_misplaced_X4_failHere
theorem dX4_misplaced_0 : decode cX4_misplaced 0 = .ok (.aload_n 0, 1) := by decide +kernel
theorem dX4_misplaced_1 : decode cX4_misplaced 1 = .ok (.aload_n 0, 1) := by decide +kernel
theorem dX4_misplaced_2 : decode cX4_misplaced 2 = .ok (.getfield 20, 3) := by decide +kernel
theorem dX4_misplaced_5 : decode cX4_misplaced 5 = .ok (.getfield 45, 3) := by decide +kernel
theorem dX4_misplaced_8 : decode cX4_misplaced 8 = .ok (.ifCond .ne 7, 3) := by decide +kernel
theorem dX4_misplaced_11 : decode cX4_misplaced 11 = .ok (.iconst 1, 1) := by decide +kernel
theorem dX4_misplaced_12 : decode cX4_misplaced 12 = .ok (.goto 4, 3) := by decide +kernel
theorem dX4_misplaced_15 : decode cX4_misplaced 15 = .ok (.iconst 2, 1) := by decide +kernel
theorem dX4_misplaced_16 : decode cX4_misplaced 16 = .ok (.invokevirtual 77, 3) := by decide +kernel
theorem dX4_misplaced_19 : decode cX4_misplaced 19 = .ok (.ireturn, 1) := by decide +kernel
set_option maxRecDepth 20000 in
theorem ggX4_takeEnd_X4_misplaced : GoodIn wsX4_takeEnd wsX4_misplaced := goodIn_r _ [8, 1, 9, 10, 11, 12, 7, 13, 14, 15, 16, 17, 18, 19, 20, 68, 69, 70, 71, 72, 73, 74, 75, 76, 77, 78] (by decide +kernel) (by decide +kernel)
set_option maxRecDepth 20000 in
theorem gX4_takeEnd_X4_misplaced : GoodIn wsX4_takeEnd (wsV RX4 83 RX4 yX4_misplaced wsX4_misplaced) := goodIn_app (goodIn_of _ (by decide +kernel)) ggX4_takeEnd_X4_misplaced
set_option maxRecDepth 20000 in
theorem ggX4_takeEnd_X5_step : GoodIn wsX4_takeEnd wsX5_step := goodIn_r _ [25, 26, 27, 28, 29, 30, 31, 32, 33, 34, 24, 35, 36, 37, 38, 39, 40, 41, 42, 43, 44, 45, 46, 47, 48, 49, 50, 51, 52, 53, 54, 55, 56, 57, 58, 59, 60, 61, 62, 63, 64, 65, 66, 67, 73, 74, 75, 76, 77, 78] (by decide +kernel) (by decide +kernel)
set_option maxRecDepth 20000 in
theorem gX4_takeEnd_X5_step : GoodIn wsX4_takeEnd (wsV RX4 87 RX5 yX5_step wsX5_step) := goodIn_app (goodIn_of _ (by decide +kernel)) ggX4_takeEnd_X5_step
theorem dX4_takeEnd_0 : decode cX4_takeEnd 0 = .ok (.aload_n 0, 1) := by decide +kernel
theorem dX4_takeEnd_1 : decode cX4_takeEnd 1 = .ok (.getfield 20, 3) := by decide +kernel
theorem dX4_takeEnd_4 : decode cX4_takeEnd 4 = .ok (.getfield 48, 3) := by decide +kernel
theorem dX4_takeEnd_7 : decode cX4_takeEnd 7 = .ok (.ldc2_w 81, 3) := by decide +kernel
theorem dX4_takeEnd_10 : decode cX4_takeEnd 10 = .ok (.lcmp, 1) := by decide +kernel
theorem dX4_takeEnd_11 : decode cX4_takeEnd 11 = .ok (.ifCond .eq 10, 3) := by decide +kernel
theorem dX4_takeEnd_14 : decode cX4_takeEnd 14 = .ok (.aload_n 0, 1) := by decide +kernel
theorem dX4_takeEnd_15 : decode cX4_takeEnd 15 = .ok (.invokevirtual 83, 3) := by decide +kernel
theorem dX4_takeEnd_18 : decode cX4_takeEnd 18 = .ok (.pop, 1) := by decide +kernel
theorem dX4_takeEnd_19 : decode cX4_takeEnd 19 = .ok (.iconst 0, 1) := by decide +kernel
theorem dX4_takeEnd_20 : decode cX4_takeEnd 20 = .ok (.ireturn, 1) := by decide +kernel
theorem dX4_takeEnd_21 : decode cX4_takeEnd 21 = .ok (.aload_n 0, 1) := by decide +kernel
theorem dX4_takeEnd_22 : decode cX4_takeEnd 22 = .ok (.getfield 20, 3) := by decide +kernel
theorem dX4_takeEnd_25 : decode cX4_takeEnd 25 = .ok (.invokevirtual 87, 3) := by decide +kernel
theorem dX4_takeEnd_28 : decode cX4_takeEnd 28 = .ok (.iconst 1, 1) := by decide +kernel
theorem dX4_takeEnd_29 : decode cX4_takeEnd 29 = .ok (.ireturn, 1) := by decide +kernel
set_option maxRecDepth 20000 in
theorem ggX4_takeRule_X5_beginsConcept : GoodIn wsX4_takeRule wsX5_beginsConcept := goodIn_r _ [11, 12, 13, 14, 15, 16, 17, 18, 10, 19, 20, 21, 22, 23, 218, 219, 220, 221, 222, 223] (by decide +kernel) (by decide +kernel)
set_option maxRecDepth 20000 in
theorem gX4_takeRule_X5_beginsConcept : GoodIn wsX4_takeRule (wsV RX4 90 RX5 yX5_beginsConcept wsX5_beginsConcept) := goodIn_app (goodIn_of _ (by decide +kernel)) ggX4_takeRule_X5_beginsConcept
set_option maxRecDepth 20000 in
theorem ggX4_takeRule_X4_misplaced : GoodIn wsX4_takeRule wsX4_misplaced := goodIn_r _ [28, 1, 29, 30, 31, 32, 27, 33, 34, 35, 36, 37, 38, 39, 40, 198, 199, 200, 201, 202, 218, 219, 220, 221, 222, 223] (by decide +kernel) (by decide +kernel)
set_option maxRecDepth 20000 in
theorem gX4_takeRule_X4_misplaced : GoodIn wsX4_takeRule (wsV RX4 83 RX4 yX4_misplaced wsX4_misplaced) := goodIn_app (goodIn_of _ (by decide +kernel)) ggX4_takeRule_X4_misplaced
set_option maxRecDepth 20000 in
theorem ggX4_takeRule_X4_failHere : GoodIn wsX4_takeRule wsX4_failHere := goodIn_r _ [33, 1, 34, 35, 36, 37, 27, 38, 39, 40, 198, 199, 200, 201, 202, 218, 219, 220, 221, 222, 223] (by decide +kernel) (by decide +kernel)
set_option maxRecDepth 20000 in
theorem gX4_takeRule_X4_failHere : GoodIn wsX4_takeRule (wsV RX4 77 RX4 yX4_failHere wsX4_failHere) := goodIn_app (goodIn_of _ (by decide +kernel)) ggX4_takeRule_X4_failHere
set_option maxRecDepth 20000 in
theorem ggX4_takeRule_X4_takeConcept : GoodIn wsX4_takeRule wsX4_takeConcept := goodIn_r _ [44, 1, 4, 45, 46, 47, 48, 49, 27, 50, 51, 52, 53, 2, 54, 30, 31, 32, 33, 34, 35, 36, 37, 38, 39, 40, 55, 56, 57, 10, 58, 59, 60, 13, 61, 12, 62, 63, 64, 65, 66, 67, 68, 69, 70, 71, 72, 73, 74, 75, 76, 77, 78, 79, 80, 81, 82, 83, 84, 20, 21, 22, 14, 15, 85, 86, 87, 88, 89, 90, 91, 23, 92, 93, 94, 95, 96, 97, 98, 99, 100, 101, 102, 103, 104, 105, 106, 107, 108, 109, 110, 111, 112, 113, 114, 115, 116, 117, 118, 119, 120, 121, 122, 123, 124, 125, 126, 127, 128, 129, 130, 131, 132, 133, 134, 41, 42, 43, 24, 25, 26, 28, 29, 135, 136, 137, 138, 139, 140, 7, 8, 9, 11, 16, 17, 18, 19, 141, 142, 143, 144, 145, 146, 147, 148, 149, 150, 151, 152, 153, 154, 155, 156, 157, 158, 159, 160, 161, 162, 163, 164, 165, 166, 167, 168, 169, 170, 171, 172, 173, 174, 175, 176, 177, 178, 179, 180, 198, 199, 200, 201, 202, 218, 219, 220, 221, 222, 223, 203, 204, 205, 206, 207, 208, 209, 210, 211, 212, 213, 214, 215, 216, 217, 224, 225, 226, 227, 228, 229, 230, 231, 232, 233] (by decide +kernel) (by decide +kernel)
set_option maxRecDepth 20000 in
theorem gX4_takeRule_X4_takeConcept : GoodIn wsX4_takeRule (wsV RX4 97 RX4 yX4_takeConcept wsX4_takeConcept) := goodIn_app (goodIn_of _ (by decide +kernel)) ggX4_takeRule_X4_takeConcept
set_option maxRecDepth 20000 in
theorem ggX4_takeRule_X5_step : GoodIn wsX4_takeRule wsX5_step := goodIn_r _ [58, 59, 60, 13, 61, 12, 62, 63, 64, 65, 10, 66, 67, 68, 69, 70, 71, 72, 73, 74, 75, 76, 77, 78, 79, 80, 81, 82, 83, 84, 20, 21, 22, 14, 15, 85, 86, 87, 88, 89, 90, 91, 23, 92, 218, 219, 220, 221, 222, 223] (by decide +kernel) (by decide +kernel)
set_option maxRecDepth 20000 in
theorem gX4_takeRule_X5_step : GoodIn wsX4_takeRule (wsV RX4 87 RX5 yX5_step wsX5_step) := goodIn_app (goodIn_of _ (by decide +kernel)) ggX4_takeRule_X5_step
set_option maxRecDepth 20000 in
theorem ggX4_takeRule_X4_takeEnd : GoodIn wsX4_takeRule wsX4_takeEnd := goodIn_r _ [184, 1, 4, 185, 24, 25, 26, 27, 28, 29, 30, 31, 32, 33, 34, 35, 36, 37, 38, 39, 40, 55, 56, 57, 10, 58, 59, 60, 13, 61, 12, 62, 63, 64, 65, 66, 67, 68, 69, 70, 71, 72, 73, 74, 75, 76, 77, 78, 79, 80, 81, 82, 83, 84, 20, 21, 22, 14, 15, 85, 86, 87, 88, 89, 90, 91, 23, 92, 198, 199, 200, 201, 202, 218, 219, 220, 221, 222, 223] (by decide +kernel) (by decide +kernel)
set_option maxRecDepth 20000 in
theorem gX4_takeRule_X4_takeEnd : GoodIn wsX4_takeRule (wsV RX4 104 RX4 yX4_takeEnd wsX4_takeEnd) := goodIn_app (goodIn_of _ (by decide +kernel)) ggX4_takeRule_X4_takeEnd
set_option maxRecDepth 20000 in
theorem ggX4_takeRule_X0_addRule : GoodIn wsX4_takeRule wsX0_addRule := goodIn_r _ [189, 190, 191, 192, 193, 194, 149, 195, 196, 197, 203, 204, 205, 206, 207, 208, 209, 210, 211, 212, 213, 214, 215, 216, 217] (by decide +kernel) (by decide +kernel)
set_option maxRecDepth 20000 in
theorem gX4_takeRule_X0_addRule : GoodIn wsX4_takeRule (wsV RX4 107 RX0 yX0_addRule wsX0_addRule) := goodIn_app (goodIn_of _ (by decide +kernel)) ggX4_takeRule_X0_addRule
theorem dX4_takeRule_0 : decode cX4_takeRule 0 = .ok (.aload_n 0, 1) := by decide +kernel
theorem dX4_takeRule_1 : decode cX4_takeRule 1 = .ok (.getfield 20, 3) := by decide +kernel
theorem dX4_takeRule_4 : decode cX4_takeRule 4 = .ok (.invokevirtual 90, 3) := by decide +kernel
theorem dX4_takeRule_7 : decode cX4_takeRule 7 = .ok (.ifCond .ne 9, 3) := by decide +kernel
theorem dX4_takeRule_10 : decode cX4_takeRule 10 = .ok (.aload_n 0, 1) := by decide +kernel
theorem dX4_takeRule_11 : decode cX4_takeRule 11 = .ok (.invokevirtual 83, 3) := by decide +kernel
theorem dX4_takeRule_14 : decode cX4_takeRule 14 = .ok (.pop, 1) := by decide +kernel
theorem dX4_takeRule_15 : decode cX4_takeRule 15 = .ok (.return_, 1) := by decide +kernel
theorem dX4_takeRule_16 : decode cX4_takeRule 16 = .ok (.aload_n 0, 1) := by decide +kernel
theorem dX4_takeRule_17 : decode cX4_takeRule 17 = .ok (.getfield 24, 3) := by decide +kernel
theorem dX4_takeRule_20 : decode cX4_takeRule 20 = .ok (.getfield 94, 3) := by decide +kernel
theorem dX4_takeRule_23 : decode cX4_takeRule 23 = .ok (.bipush 12, 2) := by decide +kernel
theorem dX4_takeRule_25 : decode cX4_takeRule 25 = .ok (.if_icmp .lt 10, 3) := by decide +kernel
theorem dX4_takeRule_28 : decode cX4_takeRule 28 = .ok (.aload_n 0, 1) := by decide +kernel
theorem dX4_takeRule_29 : decode cX4_takeRule 29 = .ok (.iconst 3, 1) := by decide +kernel
theorem dX4_takeRule_30 : decode cX4_takeRule 30 = .ok (.invokevirtual 77, 3) := by decide +kernel
theorem dX4_takeRule_33 : decode cX4_takeRule 33 = .ok (.pop, 1) := by decide +kernel
theorem dX4_takeRule_34 : decode cX4_takeRule 34 = .ok (.return_, 1) := by decide +kernel
theorem dX4_takeRule_35 : decode cX4_takeRule 35 = .ok (.aload_n 0, 1) := by decide +kernel
theorem dX4_takeRule_36 : decode cX4_takeRule 36 = .ok (.iconst 0, 1) := by decide +kernel
theorem dX4_takeRule_37 : decode cX4_takeRule 37 = .ok (.invokevirtual 97, 3) := by decide +kernel
theorem dX4_takeRule_40 : decode cX4_takeRule 40 = .ok (.istore_n 1, 1) := by decide +kernel
theorem dX4_takeRule_41 : decode cX4_takeRule 41 = .ok (.iload_n 1, 1) := by decide +kernel
theorem dX4_takeRule_42 : decode cX4_takeRule 42 = .ok (.iconst (-1), 1) := by decide +kernel
theorem dX4_takeRule_43 : decode cX4_takeRule 43 = .ok (.if_icmp .ne 4, 3) := by decide +kernel
theorem dX4_takeRule_46 : decode cX4_takeRule 46 = .ok (.return_, 1) := by decide +kernel
theorem dX4_takeRule_47 : decode cX4_takeRule 47 = .ok (.aload_n 0, 1) := by decide +kernel
theorem dX4_takeRule_48 : decode cX4_takeRule 48 = .ok (.getfield 20, 3) := by decide +kernel
theorem dX4_takeRule_51 : decode cX4_takeRule 51 = .ok (.getfield 48, 3) := by decide +kernel
theorem dX4_takeRule_54 : decode cX4_takeRule 54 = .ok (.ldc2_w 100, 3) := by decide +kernel
theorem dX4_takeRule_57 : decode cX4_takeRule 57 = .ok (.lcmp, 1) := by decide +kernel
theorem dX4_takeRule_58 : decode cX4_takeRule 58 = .ok (.ifCond .eq 23, 3) := by decide +kernel
theorem dX4_takeRule_61 : decode cX4_takeRule 61 = .ok (.aload_n 0, 1) := by decide +kernel
theorem dX4_takeRule_62 : decode cX4_takeRule 62 = .ok (.getfield 20, 3) := by decide +kernel
theorem dX4_takeRule_65 : decode cX4_takeRule 65 = .ok (.getfield 48, 3) := by decide +kernel
theorem dX4_takeRule_68 : decode cX4_takeRule 68 = .ok (.ldc2_w 102, 3) := by decide +kernel
theorem dX4_takeRule_71 : decode cX4_takeRule 71 = .ok (.lcmp, 1) := by decide +kernel
theorem dX4_takeRule_72 : decode cX4_takeRule 72 = .ok (.ifCond .eq 9, 3) := by decide +kernel
theorem dX4_takeRule_75 : decode cX4_takeRule 75 = .ok (.aload_n 0, 1) := by decide +kernel
theorem dX4_takeRule_76 : decode cX4_takeRule 76 = .ok (.invokevirtual 83, 3) := by decide +kernel
theorem dX4_takeRule_79 : decode cX4_takeRule 79 = .ok (.pop, 1) := by decide +kernel
theorem dX4_takeRule_80 : decode cX4_takeRule 80 = .ok (.return_, 1) := by decide +kernel
theorem dX4_takeRule_81 : decode cX4_takeRule 81 = .ok (.aload_n 0, 1) := by decide +kernel
theorem dX4_takeRule_82 : decode cX4_takeRule 82 = .ok (.getfield 20, 3) := by decide +kernel
theorem dX4_takeRule_85 : decode cX4_takeRule 85 = .ok (.getfield 48, 3) := by decide +kernel
theorem dX4_takeRule_88 : decode cX4_takeRule 88 = .ok (.ldc2_w 100, 3) := by decide +kernel
theorem dX4_takeRule_91 : decode cX4_takeRule 91 = .ok (.lcmp, 1) := by decide +kernel
theorem dX4_takeRule_92 : decode cX4_takeRule 92 = .ok (.ifCond .ne 7, 3) := by decide +kernel
theorem dX4_takeRule_95 : decode cX4_takeRule 95 = .ok (.iconst 0, 1) := by decide +kernel
theorem dX4_takeRule_96 : decode cX4_takeRule 96 = .ok (.goto 4, 3) := by decide +kernel
theorem dX4_takeRule_99 : decode cX4_takeRule 99 = .ok (.iconst 1, 1) := by decide +kernel
theorem dX4_takeRule_100 : decode cX4_takeRule 100 = .ok (.istore_n 2, 1) := by decide +kernel
theorem dX4_takeRule_101 : decode cX4_takeRule 101 = .ok (.aload_n 0, 1) := by decide +kernel
theorem dX4_takeRule_102 : decode cX4_takeRule 102 = .ok (.getfield 20, 3) := by decide +kernel
theorem dX4_takeRule_105 : decode cX4_takeRule 105 = .ok (.invokevirtual 87, 3) := by decide +kernel
theorem dX4_takeRule_108 : decode cX4_takeRule 108 = .ok (.aload_n 0, 1) := by decide +kernel
theorem dX4_takeRule_109 : decode cX4_takeRule 109 = .ok (.iconst 0, 1) := by decide +kernel
theorem dX4_takeRule_110 : decode cX4_takeRule 110 = .ok (.invokevirtual 97, 3) := by decide +kernel
theorem dX4_takeRule_113 : decode cX4_takeRule 113 = .ok (.istore_n 3, 1) := by decide +kernel
theorem dX4_takeRule_114 : decode cX4_takeRule 114 = .ok (.iload_n 3, 1) := by decide +kernel
theorem dX4_takeRule_115 : decode cX4_takeRule 115 = .ok (.iconst (-1), 1) := by decide +kernel
theorem dX4_takeRule_116 : decode cX4_takeRule 116 = .ok (.if_icmp .eq 20, 3) := by decide +kernel
theorem dX4_takeRule_119 : decode cX4_takeRule 119 = .ok (.aload_n 0, 1) := by decide +kernel
theorem dX4_takeRule_120 : decode cX4_takeRule 120 = .ok (.invokevirtual 104, 3) := by decide +kernel
theorem dX4_takeRule_123 : decode cX4_takeRule 123 = .ok (.ifCond .eq 13, 3) := by decide +kernel
theorem dX4_takeRule_126 : decode cX4_takeRule 126 = .ok (.aload_n 0, 1) := by decide +kernel
theorem dX4_takeRule_127 : decode cX4_takeRule 127 = .ok (.getfield 24, 3) := by decide +kernel
theorem dX4_takeRule_130 : decode cX4_takeRule 130 = .ok (.iload_n 2, 1) := by decide +kernel
theorem dX4_takeRule_131 : decode cX4_takeRule 131 = .ok (.iload_n 1, 1) := by decide +kernel
theorem dX4_takeRule_132 : decode cX4_takeRule 132 = .ok (.iload_n 3, 1) := by decide +kernel
theorem dX4_takeRule_133 : decode cX4_takeRule 133 = .ok (.invokevirtual 107, 3) := by decide +kernel
theorem dX4_takeRule_136 : decode cX4_takeRule 136 = .ok (.return_, 1) := by decide +kernel
set_option maxRecDepth 20000 in
theorem ggX4_takeQuestion_X4_failHere : GoodIn wsX4_takeQuestion wsX4_failHere := goodIn_r _ [8, 3, 9, 10, 11, 12, 7, 13, 14, 15, 196, 197, 198, 199, 200, 216, 217, 218, 219, 220, 221] (by decide +kernel) (by decide +kernel)
set_option maxRecDepth 20000 in
theorem gX4_takeQuestion_X4_failHere : GoodIn wsX4_takeQuestion (wsV RX4 77 RX4 yX4_failHere wsX4_failHere) := goodIn_app (goodIn_of _ (by decide +kernel)) ggX4_takeQuestion_X4_failHere
set_option maxRecDepth 20000 in
theorem ggX4_takeQuestion_X5_step : GoodIn wsX4_takeQuestion wsX5_step := goodIn_r _ [20, 21, 22, 23, 24, 25, 26, 27, 28, 29, 19, 30, 31, 32, 33, 34, 35, 36, 37, 38, 39, 40, 41, 42, 43, 44, 45, 46, 47, 48, 49, 50, 51, 52, 53, 54, 55, 56, 57, 58, 59, 60, 61, 62, 216, 217, 218, 219, 220, 221] (by decide +kernel) (by decide +kernel)
set_option maxRecDepth 20000 in
theorem gX4_takeQuestion_X5_step : GoodIn wsX4_takeQuestion (wsV RX4 87 RX5 yX5_step wsX5_step) := goodIn_app (goodIn_of _ (by decide +kernel)) ggX4_takeQuestion_X5_step
set_option maxRecDepth 20000 in
theorem ggX4_takeQuestion_X4_takeConcept : GoodIn wsX4_takeQuestion wsX4_takeConcept := goodIn_r _ [66, 3, 67, 68, 69, 70, 71, 72, 7, 73, 74, 75, 76, 1, 77, 4, 5, 6, 8, 9, 10, 11, 12, 13, 14, 15, 16, 17, 18, 19, 20, 21, 22, 23, 24, 25, 26, 27, 28, 29, 30, 31, 32, 33, 34, 35, 36, 37, 38, 39, 40, 41, 42, 43, 44, 45, 46, 47, 48, 49, 50, 51, 52, 53, 54, 55, 56, 57, 58, 59, 60, 61, 62, 78, 79, 80, 81, 82, 83, 84, 85, 86, 87, 88, 89, 90, 91, 92, 93, 94, 95, 96, 97, 98, 99, 100, 101, 102, 103, 104, 105, 106, 107, 108, 109, 110, 111, 112, 113, 114, 115, 116, 117, 118, 119, 63, 64, 65, 120, 121, 122, 123, 124, 125, 126, 127, 128, 129, 130, 131, 132, 133, 134, 135, 136, 137, 138, 139, 140, 141, 142, 143, 144, 145, 146, 147, 148, 149, 150, 151, 152, 153, 154, 155, 156, 157, 158, 159, 160, 161, 162, 163, 164, 165, 166, 167, 168, 169, 170, 171, 172, 173, 174, 175, 176, 177, 178, 196, 197, 198, 199, 200, 216, 217, 218, 219, 220, 221, 201, 202, 203, 204, 205, 206, 207, 208, 209, 210, 211, 212, 213, 214, 215, 222, 223, 224, 225, 226, 227, 228, 229, 230, 231] (by decide +kernel) (by decide +kernel)
set_option maxRecDepth 20000 in
theorem gX4_takeQuestion_X4_takeConcept : GoodIn wsX4_takeQuestion (wsV RX4 97 RX4 yX4_takeConcept wsX4_takeConcept) := goodIn_app (goodIn_of _ (by decide +kernel)) ggX4_takeQuestion_X4_takeConcept
set_option maxRecDepth 20000 in
theorem ggX4_takeQuestion_X4_takeEnd : GoodIn wsX4_takeQuestion wsX4_takeEnd := goodIn_r _ [182, 3, 67, 183, 120, 121, 122, 7, 123, 124, 4, 5, 6, 8, 9, 10, 11, 12, 13, 14, 15, 16, 17, 18, 19, 20, 21, 22, 23, 24, 25, 26, 27, 28, 29, 30, 31, 32, 33, 34, 35, 36, 37, 38, 39, 40, 41, 42, 43, 44, 45, 46, 47, 48, 49, 50, 51, 52, 53, 54, 55, 56, 57, 58, 59, 60, 61, 62, 196, 197, 198, 199, 200, 216, 217, 218, 219, 220, 221] (by decide +kernel) (by decide +kernel)
set_option maxRecDepth 20000 in
theorem gX4_takeQuestion_X4_takeEnd : GoodIn wsX4_takeQuestion (wsV RX4 104 RX4 yX4_takeEnd wsX4_takeEnd) := goodIn_app (goodIn_of _ (by decide +kernel)) ggX4_takeQuestion_X4_takeEnd
set_option maxRecDepth 20000 in
theorem ggX4_takeQuestion_X0_addQuestion : GoodIn wsX4_takeQuestion wsX0_addQuestion := goodIn_r _ [187, 188, 189, 190, 191, 192, 147, 193, 194, 195, 201, 202, 203, 204, 205, 206, 207, 208, 209, 210, 211, 212, 213, 214, 215] (by decide +kernel) (by decide +kernel)
set_option maxRecDepth 20000 in
theorem gX4_takeQuestion_X0_addQuestion : GoodIn wsX4_takeQuestion (wsV RX4 114 RX0 yX0_addQuestion wsX0_addQuestion) := goodIn_app (goodIn_of _ (by decide +kernel)) ggX4_takeQuestion_X0_addQuestion
theorem dX4_takeQuestion_0 : decode cX4_takeQuestion 0 = .ok (.aload_n 0, 1) := by decide +kernel
theorem dX4_takeQuestion_1 : decode cX4_takeQuestion 1 = .ok (.getfield 24, 3) := by decide +kernel
theorem dX4_takeQuestion_4 : decode cX4_takeQuestion 4 = .ok (.getfield 111, 3) := by decide +kernel
theorem dX4_takeQuestion_7 : decode cX4_takeQuestion 7 = .ok (.bipush 12, 2) := by decide +kernel
theorem dX4_takeQuestion_9 : decode cX4_takeQuestion 9 = .ok (.if_icmp .lt 10, 3) := by decide +kernel
theorem dX4_takeQuestion_12 : decode cX4_takeQuestion 12 = .ok (.aload_n 0, 1) := by decide +kernel
theorem dX4_takeQuestion_13 : decode cX4_takeQuestion 13 = .ok (.iconst 3, 1) := by decide +kernel
theorem dX4_takeQuestion_14 : decode cX4_takeQuestion 14 = .ok (.invokevirtual 77, 3) := by decide +kernel
theorem dX4_takeQuestion_17 : decode cX4_takeQuestion 17 = .ok (.pop, 1) := by decide +kernel
theorem dX4_takeQuestion_18 : decode cX4_takeQuestion 18 = .ok (.return_, 1) := by decide +kernel
theorem dX4_takeQuestion_19 : decode cX4_takeQuestion 19 = .ok (.aload_n 0, 1) := by decide +kernel
theorem dX4_takeQuestion_20 : decode cX4_takeQuestion 20 = .ok (.getfield 20, 3) := by decide +kernel
theorem dX4_takeQuestion_23 : decode cX4_takeQuestion 23 = .ok (.invokevirtual 87, 3) := by decide +kernel
theorem dX4_takeQuestion_26 : decode cX4_takeQuestion 26 = .ok (.aload_n 0, 1) := by decide +kernel
theorem dX4_takeQuestion_27 : decode cX4_takeQuestion 27 = .ok (.iconst 0, 1) := by decide +kernel
theorem dX4_takeQuestion_28 : decode cX4_takeQuestion 28 = .ok (.invokevirtual 97, 3) := by decide +kernel
theorem dX4_takeQuestion_31 : decode cX4_takeQuestion 31 = .ok (.istore_n 1, 1) := by decide +kernel
theorem dX4_takeQuestion_32 : decode cX4_takeQuestion 32 = .ok (.iload_n 1, 1) := by decide +kernel
theorem dX4_takeQuestion_33 : decode cX4_takeQuestion 33 = .ok (.iconst (-1), 1) := by decide +kernel
theorem dX4_takeQuestion_34 : decode cX4_takeQuestion 34 = .ok (.if_icmp .eq 18, 3) := by decide +kernel
theorem dX4_takeQuestion_37 : decode cX4_takeQuestion 37 = .ok (.aload_n 0, 1) := by decide +kernel
theorem dX4_takeQuestion_38 : decode cX4_takeQuestion 38 = .ok (.invokevirtual 104, 3) := by decide +kernel
theorem dX4_takeQuestion_41 : decode cX4_takeQuestion 41 = .ok (.ifCond .eq 11, 3) := by decide +kernel
theorem dX4_takeQuestion_44 : decode cX4_takeQuestion 44 = .ok (.aload_n 0, 1) := by decide +kernel
theorem dX4_takeQuestion_45 : decode cX4_takeQuestion 45 = .ok (.getfield 24, 3) := by decide +kernel
theorem dX4_takeQuestion_48 : decode cX4_takeQuestion 48 = .ok (.iload_n 1, 1) := by decide +kernel
theorem dX4_takeQuestion_49 : decode cX4_takeQuestion 49 = .ok (.invokevirtual 114, 3) := by decide +kernel
theorem dX4_takeQuestion_52 : decode cX4_takeQuestion 52 = .ok (.return_, 1) := by decide +kernel
set_option maxRecDepth 20000 in
theorem ggX4_takeOrder_X5_step : GoodIn wsX4_takeOrder wsX5_step := goodIn_r _ [8, 9, 10, 11, 12, 13, 14, 15, 16, 17, 7, 18, 19, 20, 21, 22, 23, 24, 25, 26, 27, 28, 29, 30, 31, 32, 33, 34, 35, 36, 37, 38, 39, 40, 41, 42, 43, 44, 45, 46, 47, 48, 49, 50, 128, 129, 130, 131, 132, 133] (by decide +kernel) (by decide +kernel)
set_option maxRecDepth 20000 in
theorem gX4_takeOrder_X5_step : GoodIn wsX4_takeOrder (wsV RX4 87 RX5 yX5_step wsX5_step) := goodIn_app (goodIn_of _ (by decide +kernel)) ggX4_takeOrder_X5_step
set_option maxRecDepth 20000 in
theorem ggX4_takeOrder_X4_takeRole : GoodIn wsX4_takeOrder wsX4_takeRole := goodIn_r _ [55, 1, 56, 3, 57, 58, 59, 60, 54, 61, 62, 63, 64, 65, 2, 66, 67, 68, 69, 70, 71, 72, 73, 74, 75, 76, 77, 78, 79, 80, 81, 82, 83, 84, 85, 86, 87, 88, 89, 90, 91, 4, 5, 6, 7, 8, 9, 10, 11, 12, 13, 14, 15, 16, 17, 18, 19, 20, 21, 22, 23, 24, 25, 26, 27, 28, 29, 30, 31, 32, 33, 34, 35, 36, 37, 38, 39, 40, 41, 42, 43, 44, 45, 46, 47, 48, 49, 50, 123, 124, 125, 126, 127, 128, 129, 130, 131, 132, 133, 134, 135, 136, 137, 138, 139, 140, 141, 142, 143, 144, 145, 146, 147, 148] (by decide +kernel) (by decide +kernel)
set_option maxRecDepth 20000 in
theorem gX4_takeOrder_X4_takeRole : GoodIn wsX4_takeOrder (wsV RX4 117 RX4 yX4_takeRole wsX4_takeRole) := goodIn_app (goodIn_of _ (by decide +kernel)) ggX4_takeOrder_X4_takeRole
set_option maxRecDepth 20000 in
theorem ggX4_takeOrder_X0_isSingle : GoodIn wsX4_takeOrder wsX0_isSingle := goodIn_r _ [95, 96, 134, 135, 136, 137, 138, 139, 140, 141, 142, 143, 144, 145, 146, 147, 148] (by decide +kernel) (by decide +kernel)
set_option maxRecDepth 20000 in
theorem gX4_takeOrder_X0_isSingle : GoodIn wsX4_takeOrder (wsV RX4 120 RX0 yX0_isSingle wsX0_isSingle) := goodIn_app (goodIn_of _ (by decide +kernel)) ggX4_takeOrder_X0_isSingle
set_option maxRecDepth 20000 in
theorem ggX4_takeOrder_X4_fail : GoodIn wsX4_takeOrder wsX4_fail := goodIn_r _ [69, 70, 71, 123, 124, 125, 126, 127] (by decide +kernel) (by decide +kernel)
set_option maxRecDepth 20000 in
theorem gX4_takeOrder_X4_fail : GoodIn wsX4_takeOrder (wsV RX4 73 RX4 yX4_fail wsX4_fail) := goodIn_app (goodIn_of _ (by decide +kernel)) ggX4_takeOrder_X4_fail
set_option maxRecDepth 20000 in
theorem ggX4_takeOrder_X0_isRoleUnder : GoodIn wsX4_takeOrder wsX0_isRoleUnder := goodIn_r _ [100, 101, 102, 103, 75, 104, 105, 134, 135, 136, 137, 138, 139, 140, 141, 142, 143, 144, 145, 146, 147, 148] (by decide +kernel) (by decide +kernel)
set_option maxRecDepth 20000 in
theorem gX4_takeOrder_X0_isRoleUnder : GoodIn wsX4_takeOrder (wsV RX4 124 RX0 yX0_isRoleUnder wsX0_isRoleUnder) := goodIn_app (goodIn_of _ (by decide +kernel)) ggX4_takeOrder_X0_isRoleUnder
set_option maxRecDepth 20000 in
theorem ggX4_takeOrder_X4_takeEnd : GoodIn wsX4_takeOrder wsX4_takeEnd := goodIn_r _ [109, 1, 57, 110, 58, 59, 60, 54, 61, 56, 62, 63, 64, 65, 2, 66, 67, 68, 69, 70, 71, 4, 5, 6, 7, 8, 9, 10, 11, 12, 13, 14, 15, 16, 17, 18, 19, 20, 21, 22, 23, 24, 25, 26, 27, 28, 29, 30, 31, 32, 33, 34, 35, 36, 37, 38, 39, 40, 41, 42, 43, 44, 45, 46, 47, 48, 49, 50, 123, 124, 125, 126, 127, 128, 129, 130, 131, 132, 133] (by decide +kernel) (by decide +kernel)
set_option maxRecDepth 20000 in
theorem gX4_takeOrder_X4_takeEnd : GoodIn wsX4_takeOrder (wsV RX4 104 RX4 yX4_takeEnd wsX4_takeEnd) := goodIn_app (goodIn_of _ (by decide +kernel)) ggX4_takeOrder_X4_takeEnd
set_option maxRecDepth 20000 in
theorem ggX4_takeOrder_X0_addOrder : GoodIn wsX4_takeOrder wsX0_addOrder := goodIn_r _ [114, 115, 105, 116, 117, 118, 75, 119, 120, 121, 101, 102, 103, 104, 122, 98, 99, 100, 134, 135, 136, 137, 138, 139, 140, 141, 142, 143, 144, 145, 146, 147, 148] (by decide +kernel) (by decide +kernel)
set_option maxRecDepth 20000 in
theorem gX4_takeOrder_X0_addOrder : GoodIn wsX4_takeOrder (wsV RX4 128 RX0 yX0_addOrder wsX0_addOrder) := goodIn_app (goodIn_of _ (by decide +kernel)) ggX4_takeOrder_X0_addOrder
theorem dX4_takeOrder_0 : decode cX4_takeOrder 0 = .ok (.aload_n 0, 1) := by decide +kernel
theorem dX4_takeOrder_1 : decode cX4_takeOrder 1 = .ok (.getfield 20, 3) := by decide +kernel
theorem dX4_takeOrder_4 : decode cX4_takeOrder 4 = .ok (.invokevirtual 87, 3) := by decide +kernel
theorem dX4_takeOrder_7 : decode cX4_takeOrder 7 = .ok (.aload_n 0, 1) := by decide +kernel
theorem dX4_takeOrder_8 : decode cX4_takeOrder 8 = .ok (.getfield 20, 3) := by decide +kernel
theorem dX4_takeOrder_11 : decode cX4_takeOrder 11 = .ok (.getfield 70, 3) := by decide +kernel
theorem dX4_takeOrder_14 : decode cX4_takeOrder 14 = .ok (.istore_n 1, 1) := by decide +kernel
theorem dX4_takeOrder_15 : decode cX4_takeOrder 15 = .ok (.aload_n 0, 1) := by decide +kernel
theorem dX4_takeOrder_16 : decode cX4_takeOrder 16 = .ok (.invokevirtual 117, 3) := by decide +kernel
theorem dX4_takeOrder_19 : decode cX4_takeOrder 19 = .ok (.istore_n 2, 1) := by decide +kernel
theorem dX4_takeOrder_20 : decode cX4_takeOrder 20 = .ok (.iload_n 2, 1) := by decide +kernel
theorem dX4_takeOrder_21 : decode cX4_takeOrder 21 = .ok (.iconst (-1), 1) := by decide +kernel
theorem dX4_takeOrder_22 : decode cX4_takeOrder 22 = .ok (.if_icmp .ne 4, 3) := by decide +kernel
theorem dX4_takeOrder_25 : decode cX4_takeOrder 25 = .ok (.return_, 1) := by decide +kernel
theorem dX4_takeOrder_26 : decode cX4_takeOrder 26 = .ok (.aload_n 0, 1) := by decide +kernel
theorem dX4_takeOrder_27 : decode cX4_takeOrder 27 = .ok (.getfield 24, 3) := by decide +kernel
theorem dX4_takeOrder_30 : decode cX4_takeOrder 30 = .ok (.iload_n 2, 1) := by decide +kernel
theorem dX4_takeOrder_31 : decode cX4_takeOrder 31 = .ok (.invokevirtual 120, 3) := by decide +kernel
theorem dX4_takeOrder_34 : decode cX4_takeOrder 34 = .ok (.ifCond .eq 12, 3) := by decide +kernel
theorem dX4_takeOrder_37 : decode cX4_takeOrder 37 = .ok (.aload_n 0, 1) := by decide +kernel
theorem dX4_takeOrder_38 : decode cX4_takeOrder 38 = .ok (.bipush 6, 2) := by decide +kernel
theorem dX4_takeOrder_40 : decode cX4_takeOrder 40 = .ok (.iload_n 1, 1) := by decide +kernel
theorem dX4_takeOrder_41 : decode cX4_takeOrder 41 = .ok (.invokevirtual 73, 3) := by decide +kernel
theorem dX4_takeOrder_44 : decode cX4_takeOrder 44 = .ok (.pop, 1) := by decide +kernel
theorem dX4_takeOrder_45 : decode cX4_takeOrder 45 = .ok (.return_, 1) := by decide +kernel
theorem dX4_takeOrder_46 : decode cX4_takeOrder 46 = .ok (.aload_n 0, 1) := by decide +kernel
theorem dX4_takeOrder_47 : decode cX4_takeOrder 47 = .ok (.getfield 20, 3) := by decide +kernel
theorem dX4_takeOrder_50 : decode cX4_takeOrder 50 = .ok (.getfield 70, 3) := by decide +kernel
theorem dX4_takeOrder_53 : decode cX4_takeOrder 53 = .ok (.istore_n 1, 1) := by decide +kernel
theorem dX4_takeOrder_54 : decode cX4_takeOrder 54 = .ok (.aload_n 0, 1) := by decide +kernel
theorem dX4_takeOrder_55 : decode cX4_takeOrder 55 = .ok (.invokevirtual 117, 3) := by decide +kernel
theorem dX4_takeOrder_58 : decode cX4_takeOrder 58 = .ok (.istore_n 3, 1) := by decide +kernel
theorem dX4_takeOrder_59 : decode cX4_takeOrder 59 = .ok (.iload_n 3, 1) := by decide +kernel
theorem dX4_takeOrder_60 : decode cX4_takeOrder 60 = .ok (.iconst (-1), 1) := by decide +kernel
theorem dX4_takeOrder_61 : decode cX4_takeOrder 61 = .ok (.if_icmp .ne 4, 3) := by decide +kernel
theorem dX4_takeOrder_64 : decode cX4_takeOrder 64 = .ok (.return_, 1) := by decide +kernel
theorem dX4_takeOrder_65 : decode cX4_takeOrder 65 = .ok (.iload_n 3, 1) := by decide +kernel
theorem dX4_takeOrder_66 : decode cX4_takeOrder 66 = .ok (.iload_n 2, 1) := by decide +kernel
theorem dX4_takeOrder_67 : decode cX4_takeOrder 67 = .ok (.if_icmp .eq 26, 3) := by decide +kernel
theorem dX4_takeOrder_70 : decode cX4_takeOrder 70 = .ok (.aload_n 0, 1) := by decide +kernel
theorem dX4_takeOrder_71 : decode cX4_takeOrder 71 = .ok (.getfield 24, 3) := by decide +kernel
theorem dX4_takeOrder_74 : decode cX4_takeOrder 74 = .ok (.iload_n 3, 1) := by decide +kernel
theorem dX4_takeOrder_75 : decode cX4_takeOrder 75 = .ok (.invokevirtual 120, 3) := by decide +kernel
theorem dX4_takeOrder_78 : decode cX4_takeOrder 78 = .ok (.ifCond .ne 15, 3) := by decide +kernel
theorem dX4_takeOrder_81 : decode cX4_takeOrder 81 = .ok (.aload_n 0, 1) := by decide +kernel
theorem dX4_takeOrder_82 : decode cX4_takeOrder 82 = .ok (.getfield 24, 3) := by decide +kernel
theorem dX4_takeOrder_85 : decode cX4_takeOrder 85 = .ok (.iload_n 3, 1) := by decide +kernel
theorem dX4_takeOrder_86 : decode cX4_takeOrder 86 = .ok (.iload_n 2, 1) := by decide +kernel
theorem dX4_takeOrder_87 : decode cX4_takeOrder 87 = .ok (.invokevirtual 124, 3) := by decide +kernel
theorem dX4_takeOrder_90 : decode cX4_takeOrder 90 = .ok (.ifCond .eq 14, 3) := by decide +kernel
theorem dX4_takeOrder_93 : decode cX4_takeOrder 93 = .ok (.aload_n 0, 1) := by decide +kernel
theorem dX4_takeOrder_94 : decode cX4_takeOrder 94 = .ok (.bipush 6, 2) := by decide +kernel
theorem dX4_takeOrder_96 : decode cX4_takeOrder 96 = .ok (.iload_n 1, 1) := by decide +kernel
theorem dX4_takeOrder_97 : decode cX4_takeOrder 97 = .ok (.invokevirtual 73, 3) := by decide +kernel
theorem dX4_takeOrder_100 : decode cX4_takeOrder 100 = .ok (.pop, 1) := by decide +kernel
theorem dX4_takeOrder_101 : decode cX4_takeOrder 101 = .ok (.goto 19, 3) := by decide +kernel
theorem dX4_takeOrder_104 : decode cX4_takeOrder 104 = .ok (.aload_n 0, 1) := by decide +kernel
theorem dX4_takeOrder_105 : decode cX4_takeOrder 105 = .ok (.invokevirtual 104, 3) := by decide +kernel
theorem dX4_takeOrder_108 : decode cX4_takeOrder 108 = .ok (.ifCond .eq 12, 3) := by decide +kernel
theorem dX4_takeOrder_111 : decode cX4_takeOrder 111 = .ok (.aload_n 0, 1) := by decide +kernel
theorem dX4_takeOrder_112 : decode cX4_takeOrder 112 = .ok (.getfield 24, 3) := by decide +kernel
theorem dX4_takeOrder_115 : decode cX4_takeOrder 115 = .ok (.iload_n 2, 1) := by decide +kernel
theorem dX4_takeOrder_116 : decode cX4_takeOrder 116 = .ok (.iload_n 3, 1) := by decide +kernel
theorem dX4_takeOrder_117 : decode cX4_takeOrder 117 = .ok (.invokevirtual 128, 3) := by decide +kernel
theorem dX4_takeOrder_120 : decode cX4_takeOrder 120 = .ok (.return_, 1) := by decide +kernel
set_option maxRecDepth 20000 in
theorem ggX4_takeSingle_X5_step : GoodIn wsX4_takeSingle wsX5_step := goodIn_r _ [8, 9, 10, 11, 12, 13, 14, 15, 16, 17, 7, 18, 19, 20, 21, 22, 23, 24, 25, 26, 27, 28, 29, 30, 31, 32, 33, 34, 35, 36, 37, 38, 39, 40, 41, 42, 43, 44, 45, 46, 47, 48, 49, 50, 118, 119, 120, 121, 122, 123] (by decide +kernel) (by decide +kernel)
set_option maxRecDepth 20000 in
theorem gX4_takeSingle_X5_step : GoodIn wsX4_takeSingle (wsV RX4 87 RX5 yX5_step wsX5_step) := goodIn_app (goodIn_of _ (by decide +kernel)) ggX4_takeSingle_X5_step
set_option maxRecDepth 20000 in
theorem ggX4_takeSingle_X4_takeRole : GoodIn wsX4_takeSingle wsX4_takeRole := goodIn_r _ [55, 1, 56, 3, 57, 58, 59, 60, 54, 61, 62, 63, 64, 65, 2, 66, 67, 68, 69, 70, 71, 72, 73, 74, 75, 76, 77, 78, 79, 80, 81, 82, 83, 84, 85, 86, 87, 88, 89, 90, 91, 4, 5, 6, 7, 8, 9, 10, 11, 12, 13, 14, 15, 16, 17, 18, 19, 20, 21, 22, 23, 24, 25, 26, 27, 28, 29, 30, 31, 32, 33, 34, 35, 36, 37, 38, 39, 40, 41, 42, 43, 44, 45, 46, 47, 48, 49, 50, 113, 114, 115, 116, 117, 118, 119, 120, 121, 122, 123, 124, 125, 126, 127, 128, 129, 130, 131, 132, 133, 134, 135, 136, 137, 138] (by decide +kernel) (by decide +kernel)
set_option maxRecDepth 20000 in
theorem gX4_takeSingle_X4_takeRole : GoodIn wsX4_takeSingle (wsV RX4 117 RX4 yX4_takeRole wsX4_takeRole) := goodIn_app (goodIn_of _ (by decide +kernel)) ggX4_takeSingle_X4_takeRole
set_option maxRecDepth 20000 in
theorem ggX4_takeSingle_X0_isOrdered : GoodIn wsX4_takeSingle wsX0_isOrdered := goodIn_r _ [95, 96, 124, 125, 126, 127, 128, 129, 130, 131, 132, 133, 134, 135, 136, 137, 138] (by decide +kernel) (by decide +kernel)
set_option maxRecDepth 20000 in
theorem gX4_takeSingle_X0_isOrdered : GoodIn wsX4_takeSingle (wsV RX4 132 RX0 yX0_isOrdered wsX0_isOrdered) := goodIn_app (goodIn_of _ (by decide +kernel)) ggX4_takeSingle_X0_isOrdered
set_option maxRecDepth 20000 in
theorem ggX4_takeSingle_X4_fail : GoodIn wsX4_takeSingle wsX4_fail := goodIn_r _ [69, 70, 71, 113, 114, 115, 116, 117] (by decide +kernel) (by decide +kernel)
set_option maxRecDepth 20000 in
theorem gX4_takeSingle_X4_fail : GoodIn wsX4_takeSingle (wsV RX4 73 RX4 yX4_fail wsX4_fail) := goodIn_app (goodIn_of _ (by decide +kernel)) ggX4_takeSingle_X4_fail
set_option maxRecDepth 20000 in
theorem ggX4_takeSingle_X4_takeEnd : GoodIn wsX4_takeSingle wsX4_takeEnd := goodIn_r _ [100, 1, 57, 101, 58, 59, 60, 54, 61, 56, 62, 63, 64, 65, 2, 66, 67, 68, 69, 70, 71, 4, 5, 6, 7, 8, 9, 10, 11, 12, 13, 14, 15, 16, 17, 18, 19, 20, 21, 22, 23, 24, 25, 26, 27, 28, 29, 30, 31, 32, 33, 34, 35, 36, 37, 38, 39, 40, 41, 42, 43, 44, 45, 46, 47, 48, 49, 50, 113, 114, 115, 116, 117, 118, 119, 120, 121, 122, 123] (by decide +kernel) (by decide +kernel)
set_option maxRecDepth 20000 in
theorem gX4_takeSingle_X4_takeEnd : GoodIn wsX4_takeSingle (wsV RX4 104 RX4 yX4_takeEnd wsX4_takeEnd) := goodIn_app (goodIn_of _ (by decide +kernel)) ggX4_takeSingle_X4_takeEnd
set_option maxRecDepth 20000 in
theorem ggX4_takeSingle_X0_addSingle : GoodIn wsX4_takeSingle wsX0_addSingle := goodIn_r _ [105, 106, 107, 108, 109, 75, 110, 111, 112, 124, 125, 126, 127, 128, 129, 130, 131, 132, 133, 134, 135, 136, 137, 138] (by decide +kernel) (by decide +kernel)
set_option maxRecDepth 20000 in
theorem gX4_takeSingle_X0_addSingle : GoodIn wsX4_takeSingle (wsV RX4 135 RX0 yX0_addSingle wsX0_addSingle) := goodIn_app (goodIn_of _ (by decide +kernel)) ggX4_takeSingle_X0_addSingle
theorem dX4_takeSingle_0 : decode cX4_takeSingle 0 = .ok (.aload_n 0, 1) := by decide +kernel
theorem dX4_takeSingle_1 : decode cX4_takeSingle 1 = .ok (.getfield 20, 3) := by decide +kernel
theorem dX4_takeSingle_4 : decode cX4_takeSingle 4 = .ok (.invokevirtual 87, 3) := by decide +kernel
theorem dX4_takeSingle_7 : decode cX4_takeSingle 7 = .ok (.aload_n 0, 1) := by decide +kernel
theorem dX4_takeSingle_8 : decode cX4_takeSingle 8 = .ok (.getfield 20, 3) := by decide +kernel
theorem dX4_takeSingle_11 : decode cX4_takeSingle 11 = .ok (.getfield 70, 3) := by decide +kernel
theorem dX4_takeSingle_14 : decode cX4_takeSingle 14 = .ok (.istore_n 1, 1) := by decide +kernel
theorem dX4_takeSingle_15 : decode cX4_takeSingle 15 = .ok (.aload_n 0, 1) := by decide +kernel
theorem dX4_takeSingle_16 : decode cX4_takeSingle 16 = .ok (.invokevirtual 117, 3) := by decide +kernel
theorem dX4_takeSingle_19 : decode cX4_takeSingle 19 = .ok (.istore_n 2, 1) := by decide +kernel
theorem dX4_takeSingle_20 : decode cX4_takeSingle 20 = .ok (.iload_n 2, 1) := by decide +kernel
theorem dX4_takeSingle_21 : decode cX4_takeSingle 21 = .ok (.iconst (-1), 1) := by decide +kernel
theorem dX4_takeSingle_22 : decode cX4_takeSingle 22 = .ok (.if_icmp .ne 4, 3) := by decide +kernel
theorem dX4_takeSingle_25 : decode cX4_takeSingle 25 = .ok (.return_, 1) := by decide +kernel
theorem dX4_takeSingle_26 : decode cX4_takeSingle 26 = .ok (.aload_n 0, 1) := by decide +kernel
theorem dX4_takeSingle_27 : decode cX4_takeSingle 27 = .ok (.getfield 24, 3) := by decide +kernel
theorem dX4_takeSingle_30 : decode cX4_takeSingle 30 = .ok (.iload_n 2, 1) := by decide +kernel
theorem dX4_takeSingle_31 : decode cX4_takeSingle 31 = .ok (.invokevirtual 132, 3) := by decide +kernel
theorem dX4_takeSingle_34 : decode cX4_takeSingle 34 = .ok (.ifCond .eq 14, 3) := by decide +kernel
theorem dX4_takeSingle_37 : decode cX4_takeSingle 37 = .ok (.aload_n 0, 1) := by decide +kernel
theorem dX4_takeSingle_38 : decode cX4_takeSingle 38 = .ok (.bipush 6, 2) := by decide +kernel
theorem dX4_takeSingle_40 : decode cX4_takeSingle 40 = .ok (.iload_n 1, 1) := by decide +kernel
theorem dX4_takeSingle_41 : decode cX4_takeSingle 41 = .ok (.invokevirtual 73, 3) := by decide +kernel
theorem dX4_takeSingle_44 : decode cX4_takeSingle 44 = .ok (.pop, 1) := by decide +kernel
theorem dX4_takeSingle_45 : decode cX4_takeSingle 45 = .ok (.goto 18, 3) := by decide +kernel
theorem dX4_takeSingle_48 : decode cX4_takeSingle 48 = .ok (.aload_n 0, 1) := by decide +kernel
theorem dX4_takeSingle_49 : decode cX4_takeSingle 49 = .ok (.invokevirtual 104, 3) := by decide +kernel
theorem dX4_takeSingle_52 : decode cX4_takeSingle 52 = .ok (.ifCond .eq 11, 3) := by decide +kernel
theorem dX4_takeSingle_55 : decode cX4_takeSingle 55 = .ok (.aload_n 0, 1) := by decide +kernel
theorem dX4_takeSingle_56 : decode cX4_takeSingle 56 = .ok (.getfield 24, 3) := by decide +kernel
theorem dX4_takeSingle_59 : decode cX4_takeSingle 59 = .ok (.iload_n 2, 1) := by decide +kernel
theorem dX4_takeSingle_60 : decode cX4_takeSingle 60 = .ok (.invokevirtual 135, 3) := by decide +kernel
theorem dX4_takeSingle_63 : decode cX4_takeSingle 63 = .ok (.return_, 1) := by decide +kernel
set_option maxRecDepth 20000 in
theorem ggX4_takeRole_X4_misplaced : GoodIn wsX4_takeRole wsX4_misplaced := goodIn_r _ [9, 1, 2, 10, 11, 12, 8, 13, 14, 15, 16, 17, 18, 19, 20, 88, 89, 90, 91, 92, 93, 94, 95, 96, 97, 98] (by decide +kernel) (by decide +kernel)
set_option maxRecDepth 20000 in
theorem gX4_takeRole_X4_misplaced : GoodIn wsX4_takeRole (wsV RX4 83 RX4 yX4_misplaced wsX4_misplaced) := goodIn_app (goodIn_of _ (by decide +kernel)) ggX4_takeRole_X4_misplaced
set_option maxRecDepth 20000 in
theorem ggX4_takeRole_X0_findRole : GoodIn wsX4_takeRole wsX0_findRole := goodIn_r _ [25, 26, 27, 28, 29, 24, 30, 99, 100, 101, 102, 103, 104, 105, 106, 107, 108, 109, 110, 111, 112, 113] (by decide +kernel) (by decide +kernel)
set_option maxRecDepth 20000 in
theorem gX4_takeRole_X0_findRole : GoodIn wsX4_takeRole (wsV RX4 138 RX0 yX0_findRole wsX0_findRole) := goodIn_app (goodIn_of _ (by decide +kernel)) ggX4_takeRole_X0_findRole
set_option maxRecDepth 20000 in
theorem ggX4_takeRole_X0_findName : GoodIn wsX4_takeRole wsX0_findName := goodIn_r _ [34, 35, 36, 28, 29, 24, 30, 99, 100, 101, 102, 103, 104, 105, 106, 107, 108, 109, 110, 111, 112, 113] (by decide +kernel) (by decide +kernel)
set_option maxRecDepth 20000 in
theorem gX4_takeRole_X0_findName : GoodIn wsX4_takeRole (wsV RX4 142 RX0 yX0_findName wsX0_findName) := goodIn_app (goodIn_of _ (by decide +kernel)) ggX4_takeRole_X0_findName
set_option maxRecDepth 20000 in
theorem ggX4_takeRole_X4_failHere : GoodIn wsX4_takeRole wsX4_failHere := goodIn_r _ [13, 1, 14, 15, 16, 17, 8, 18, 19, 20, 88, 89, 90, 91, 92, 93, 94, 95, 96, 97, 98] (by decide +kernel) (by decide +kernel)
set_option maxRecDepth 20000 in
theorem gX4_takeRole_X4_failHere : GoodIn wsX4_takeRole (wsV RX4 77 RX4 yX4_failHere wsX4_failHere) := goodIn_app (goodIn_of _ (by decide +kernel)) ggX4_takeRole_X4_failHere
set_option maxRecDepth 20000 in
theorem ggX4_takeRole_X0_addRole : GoodIn wsX4_takeRole wsX0_addRole := goodIn_r _ [40, 27, 26, 99, 100, 101, 102, 103, 104, 105, 106, 107, 108, 109, 110, 111, 112, 113] (by decide +kernel) (by decide +kernel)
set_option maxRecDepth 20000 in
theorem gX4_takeRole_X0_addRole : GoodIn wsX4_takeRole (wsV RX4 145 RX0 yX0_addRole wsX0_addRole) := goodIn_app (goodIn_of _ (by decide +kernel)) ggX4_takeRole_X0_addRole
set_option maxRecDepth 20000 in
theorem ggX4_takeRole_X5_step : GoodIn wsX4_takeRole wsX5_step := goodIn_r _ [45, 46, 47, 48, 49, 50, 51, 52, 53, 54, 44, 55, 56, 57, 58, 59, 60, 61, 62, 63, 64, 65, 66, 67, 68, 69, 70, 71, 72, 73, 74, 75, 76, 77, 78, 79, 80, 81, 82, 83, 84, 85, 86, 87, 93, 94, 95, 96, 97, 98] (by decide +kernel) (by decide +kernel)
set_option maxRecDepth 20000 in
theorem gX4_takeRole_X5_step : GoodIn wsX4_takeRole (wsV RX4 87 RX5 yX5_step wsX5_step) := goodIn_app (goodIn_of _ (by decide +kernel)) ggX4_takeRole_X5_step
theorem dX4_takeRole_0 : decode cX4_takeRole 0 = .ok (.aload_n 0, 1) := by decide +kernel
theorem dX4_takeRole_1 : decode cX4_takeRole 1 = .ok (.getfield 20, 3) := by decide +kernel
theorem dX4_takeRole_4 : decode cX4_takeRole 4 = .ok (.getfield 45, 3) := by decide +kernel
theorem dX4_takeRole_7 : decode cX4_takeRole 7 = .ok (.iconst 4, 1) := by decide +kernel
theorem dX4_takeRole_8 : decode cX4_takeRole 8 = .ok (.if_icmp .eq 8, 3) := by decide +kernel
theorem dX4_takeRole_11 : decode cX4_takeRole 11 = .ok (.aload_n 0, 1) := by decide +kernel
theorem dX4_takeRole_12 : decode cX4_takeRole 12 = .ok (.invokevirtual 83, 3) := by decide +kernel
theorem dX4_takeRole_15 : decode cX4_takeRole 15 = .ok (.ireturn, 1) := by decide +kernel
theorem dX4_takeRole_16 : decode cX4_takeRole 16 = .ok (.aload_n 0, 1) := by decide +kernel
theorem dX4_takeRole_17 : decode cX4_takeRole 17 = .ok (.getfield 24, 3) := by decide +kernel
theorem dX4_takeRole_20 : decode cX4_takeRole 20 = .ok (.aload_n 0, 1) := by decide +kernel
theorem dX4_takeRole_21 : decode cX4_takeRole 21 = .ok (.getfield 20, 3) := by decide +kernel
theorem dX4_takeRole_24 : decode cX4_takeRole 24 = .ok (.getfield 48, 3) := by decide +kernel
theorem dX4_takeRole_27 : decode cX4_takeRole 27 = .ok (.invokevirtual 138, 3) := by decide +kernel
theorem dX4_takeRole_30 : decode cX4_takeRole 30 = .ok (.istore_n 1, 1) := by decide +kernel
theorem dX4_takeRole_31 : decode cX4_takeRole 31 = .ok (.iload_n 1, 1) := by decide +kernel
theorem dX4_takeRole_32 : decode cX4_takeRole 32 = .ok (.iconst (-1), 1) := by decide +kernel
theorem dX4_takeRole_33 : decode cX4_takeRole 33 = .ok (.if_icmp .ne 27, 3) := by decide +kernel
theorem dX4_takeRole_36 : decode cX4_takeRole 36 = .ok (.aload_n 0, 1) := by decide +kernel
theorem dX4_takeRole_37 : decode cX4_takeRole 37 = .ok (.getfield 24, 3) := by decide +kernel
theorem dX4_takeRole_40 : decode cX4_takeRole 40 = .ok (.aload_n 0, 1) := by decide +kernel
theorem dX4_takeRole_41 : decode cX4_takeRole 41 = .ok (.getfield 20, 3) := by decide +kernel
theorem dX4_takeRole_44 : decode cX4_takeRole 44 = .ok (.getfield 48, 3) := by decide +kernel
theorem dX4_takeRole_47 : decode cX4_takeRole 47 = .ok (.invokevirtual 142, 3) := by decide +kernel
theorem dX4_takeRole_50 : decode cX4_takeRole 50 = .ok (.iconst (-1), 1) := by decide +kernel
theorem dX4_takeRole_51 : decode cX4_takeRole 51 = .ok (.if_icmp .eq 9, 3) := by decide +kernel
theorem dX4_takeRole_54 : decode cX4_takeRole 54 = .ok (.aload_n 0, 1) := by decide +kernel
theorem dX4_takeRole_55 : decode cX4_takeRole 55 = .ok (.iconst 4, 1) := by decide +kernel
theorem dX4_takeRole_56 : decode cX4_takeRole 56 = .ok (.invokevirtual 77, 3) := by decide +kernel
theorem dX4_takeRole_59 : decode cX4_takeRole 59 = .ok (.ireturn, 1) := by decide +kernel
theorem dX4_takeRole_60 : decode cX4_takeRole 60 = .ok (.iload_n 1, 1) := by decide +kernel
theorem dX4_takeRole_61 : decode cX4_takeRole 61 = .ok (.iconst (-1), 1) := by decide +kernel
theorem dX4_takeRole_62 : decode cX4_takeRole 62 = .ok (.if_icmp .ne 18, 3) := by decide +kernel
theorem dX4_takeRole_65 : decode cX4_takeRole 65 = .ok (.aload_n 0, 1) := by decide +kernel
theorem dX4_takeRole_66 : decode cX4_takeRole 66 = .ok (.getfield 24, 3) := by decide +kernel
theorem dX4_takeRole_69 : decode cX4_takeRole 69 = .ok (.aload_n 0, 1) := by decide +kernel
theorem dX4_takeRole_70 : decode cX4_takeRole 70 = .ok (.getfield 20, 3) := by decide +kernel
theorem dX4_takeRole_73 : decode cX4_takeRole 73 = .ok (.getfield 48, 3) := by decide +kernel
theorem dX4_takeRole_76 : decode cX4_takeRole 76 = .ok (.invokevirtual 145, 3) := by decide +kernel
theorem dX4_takeRole_79 : decode cX4_takeRole 79 = .ok (.istore_n 1, 1) := by decide +kernel
theorem dX4_takeRole_80 : decode cX4_takeRole 80 = .ok (.iload_n 1, 1) := by decide +kernel
theorem dX4_takeRole_81 : decode cX4_takeRole 81 = .ok (.iconst (-1), 1) := by decide +kernel
theorem dX4_takeRole_82 : decode cX4_takeRole 82 = .ok (.if_icmp .ne 9, 3) := by decide +kernel
theorem dX4_takeRole_85 : decode cX4_takeRole 85 = .ok (.aload_n 0, 1) := by decide +kernel
theorem dX4_takeRole_86 : decode cX4_takeRole 86 = .ok (.iconst 3, 1) := by decide +kernel
theorem dX4_takeRole_87 : decode cX4_takeRole 87 = .ok (.invokevirtual 77, 3) := by decide +kernel
theorem dX4_takeRole_90 : decode cX4_takeRole 90 = .ok (.ireturn, 1) := by decide +kernel
theorem dX4_takeRole_91 : decode cX4_takeRole 91 = .ok (.aload_n 0, 1) := by decide +kernel
theorem dX4_takeRole_92 : decode cX4_takeRole 92 = .ok (.getfield 20, 3) := by decide +kernel
theorem dX4_takeRole_95 : decode cX4_takeRole 95 = .ok (.invokevirtual 87, 3) := by decide +kernel
theorem dX4_takeRole_98 : decode cX4_takeRole 98 = .ok (.iload_n 1, 1) := by decide +kernel
theorem dX4_takeRole_99 : decode cX4_takeRole 99 = .ok (.ireturn, 1) := by decide +kernel
set_option maxRecDepth 20000 in
theorem ggX4_takeConcept_X4_takeAll : GoodIn wsX4_takeConcept wsX4_takeAll := goodIn_r _ [108, 1, 2, 109, 4, 110, 111, 112, 8, 9, 10, 11, 12, 13, 14, 15, 16, 17, 18, 19, 20, 21, 22, 23, 24, 25, 26, 27, 28, 29, 30, 31, 32, 33, 34, 35, 36, 37, 38, 39, 40, 41, 42, 43, 44, 45, 46, 47, 48, 49, 50, 51, 52, 53, 54, 55, 56, 57, 58, 59, 60, 61, 62, 63, 64, 65, 66, 67, 68, 69, 70, 71, 72, 73, 74, 75, 76, 77, 78, 79, 80, 81, 82, 83, 84, 85, 86, 87, 88, 89, 90, 91, 92, 93, 94, 95, 96, 97, 98, 99, 100, 101, 102, 103, 104, 105, 106, 107, 113, 114, 115, 116, 117, 118, 119, 120, 121, 122, 0, 3, 5, 6, 7, 123, 124, 125, 126, 127, 128, 129, 130, 131, 132, 133, 134, 135, 136, 137, 138, 139, 140, 141, 142, 143, 144, 145, 146, 147, 148, 149, 150, 151, 152, 153, 154, 155, 156, 157, 158, 159, 160, 161, 162, 163, 164, 165, 166, 167, 168, 169, 170, 171, 172, 173, 174, 175, 176, 177, 178, 179, 180, 181, 182, 183, 184, 185, 186, 187, 188, 189, 190, 191, 192, 193, 194, 195, 196, 197, 198, 199, 200, 201, 202, 203, 204, 205, 206, 207, 208, 209, 210, 211, 212] (by decide +kernel) (by decide +kernel)
set_option maxRecDepth 20000 in
theorem gX4_takeConcept_X4_takeAll : GoodIn wsX4_takeConcept (wsV RX4 148 RX4 yX4_takeAll wsX4_takeAll) := goodIn_app (goodIn_of _ (by decide +kernel)) ggX4_takeConcept_X4_takeAll
set_option maxRecDepth 20000 in
theorem ggX4_takeConcept_X4_countConcept : GoodIn wsX4_takeConcept wsX4_countConcept := goodIn_r _ [12, 13, 14, 15, 16, 17, 8, 18, 1, 19, 20, 21, 22, 23, 24, 25, 177, 178, 179, 180, 181, 188, 189, 190, 191, 192, 193, 194, 195, 196, 197, 198, 199, 200, 201, 202, 182, 183, 184, 185, 186, 187] (by decide +kernel) (by decide +kernel)
set_option maxRecDepth 20000 in
theorem gX4_takeConcept_X4_countConcept : GoodIn wsX4_takeConcept (wsV RX4 153 RX4 yX4_countConcept wsX4_countConcept) := goodIn_app (goodIn_of _ (by decide +kernel)) ggX4_takeConcept_X4_countConcept
set_option maxRecDepth 20000 in
theorem ggX4_takeConcept_X5_step : GoodIn wsX4_takeConcept wsX5_step := goodIn_r _ [30, 31, 32, 33, 34, 35, 36, 37, 38, 39, 29, 40, 41, 42, 43, 44, 45, 46, 47, 48, 49, 50, 51, 52, 53, 54, 55, 56, 57, 58, 59, 60, 61, 62, 63, 64, 65, 66, 67, 68, 69, 70, 71, 72, 182, 183, 184, 185, 186, 187] (by decide +kernel) (by decide +kernel)
set_option maxRecDepth 20000 in
theorem gX4_takeConcept_X5_step : GoodIn wsX4_takeConcept (wsV RX4 87 RX5 yX5_step wsX5_step) := goodIn_app (goodIn_of _ (by decide +kernel)) ggX4_takeConcept_X5_step
set_option maxRecDepth 20000 in
theorem ggX4_takeConcept_X1_make : GoodIn wsX4_takeConcept wsX1_make := goodIn_r _ [77, 78, 79, 80, 81, 82, 83, 84, 85, 76, 86, 87, 88, 89, 90, 91, 92, 93, 94, 95, 96, 97, 98, 99, 100, 101, 102, 103, 104, 105, 106, 107, 203, 204, 205, 206, 207, 208, 209, 210, 211, 212] (by decide +kernel) (by decide +kernel)
set_option maxRecDepth 20000 in
theorem gX4_takeConcept_X1_make : GoodIn wsX4_takeConcept (wsV RX4 156 RX1 yX1_make wsX1_make) := goodIn_app (goodIn_of _ (by decide +kernel)) ggX4_takeConcept_X1_make
theorem dX4_takeConcept_0 : decode cX4_takeConcept 0 = .ok (.aload_n 0, 1) := by decide +kernel
theorem dX4_takeConcept_1 : decode cX4_takeConcept 1 = .ok (.iload_n 1, 1) := by decide +kernel
theorem dX4_takeConcept_2 : decode cX4_takeConcept 2 = .ok (.invokevirtual 148, 3) := by decide +kernel
theorem dX4_takeConcept_5 : decode cX4_takeConcept 5 = .ok (.istore_n 2, 1) := by decide +kernel
theorem dX4_takeConcept_6 : decode cX4_takeConcept 6 = .ok (.iconst 0, 1) := by decide +kernel
theorem dX4_takeConcept_7 : decode cX4_takeConcept 7 = .ok (.istore_n 3, 1) := by decide +kernel
theorem dX4_takeConcept_8 : decode cX4_takeConcept 8 = .ok (.iload_n 3, 1) := by decide +kernel
theorem dX4_takeConcept_9 : decode cX4_takeConcept 9 = .ok (.sipush 200, 3) := by decide +kernel
theorem dX4_takeConcept_12 : decode cX4_takeConcept 12 = .ok (.if_icmp .gt 74, 3) := by decide +kernel
theorem dX4_takeConcept_15 : decode cX4_takeConcept 15 = .ok (.iload_n 2, 1) := by decide +kernel
theorem dX4_takeConcept_16 : decode cX4_takeConcept 16 = .ok (.iconst (-1), 1) := by decide +kernel
theorem dX4_takeConcept_17 : decode cX4_takeConcept 17 = .ok (.if_icmp .eq 69, 3) := by decide +kernel
theorem dX4_takeConcept_20 : decode cX4_takeConcept 20 = .ok (.aload_n 0, 1) := by decide +kernel
theorem dX4_takeConcept_21 : decode cX4_takeConcept 21 = .ok (.getfield 20, 3) := by decide +kernel
theorem dX4_takeConcept_24 : decode cX4_takeConcept 24 = .ok (.getfield 48, 3) := by decide +kernel
theorem dX4_takeConcept_27 : decode cX4_takeConcept 27 = .ok (.ldc2_w 151, 3) := by decide +kernel
theorem dX4_takeConcept_30 : decode cX4_takeConcept 30 = .ok (.lcmp, 1) := by decide +kernel
theorem dX4_takeConcept_31 : decode cX4_takeConcept 31 = .ok (.ifCond .ne 55, 3) := by decide +kernel
theorem dX4_takeConcept_34 : decode cX4_takeConcept 34 = .ok (.aload_n 0, 1) := by decide +kernel
theorem dX4_takeConcept_35 : decode cX4_takeConcept 35 = .ok (.invokevirtual 153, 3) := by decide +kernel
theorem dX4_takeConcept_38 : decode cX4_takeConcept 38 = .ok (.ifCond .ne 5, 3) := by decide +kernel
theorem dX4_takeConcept_41 : decode cX4_takeConcept 41 = .ok (.iconst (-1), 1) := by decide +kernel
theorem dX4_takeConcept_42 : decode cX4_takeConcept 42 = .ok (.ireturn, 1) := by decide +kernel
theorem dX4_takeConcept_43 : decode cX4_takeConcept 43 = .ok (.aload_n 0, 1) := by decide +kernel
theorem dX4_takeConcept_44 : decode cX4_takeConcept 44 = .ok (.getfield 20, 3) := by decide +kernel
theorem dX4_takeConcept_47 : decode cX4_takeConcept 47 = .ok (.invokevirtual 87, 3) := by decide +kernel
theorem dX4_takeConcept_50 : decode cX4_takeConcept 50 = .ok (.aload_n 0, 1) := by decide +kernel
theorem dX4_takeConcept_51 : decode cX4_takeConcept 51 = .ok (.iload_n 1, 1) := by decide +kernel
theorem dX4_takeConcept_52 : decode cX4_takeConcept 52 = .ok (.invokevirtual 148, 3) := by decide +kernel
theorem dX4_takeConcept_55 : decode cX4_takeConcept 55 = .ok (.istore 4, 2) := by decide +kernel
theorem dX4_takeConcept_57 : decode cX4_takeConcept 57 = .ok (.iload 4, 2) := by decide +kernel
theorem dX4_takeConcept_59 : decode cX4_takeConcept 59 = .ok (.iconst (-1), 1) := by decide +kernel
theorem dX4_takeConcept_60 : decode cX4_takeConcept 60 = .ok (.if_icmp .ne 7, 3) := by decide +kernel
theorem dX4_takeConcept_63 : decode cX4_takeConcept 63 = .ok (.iconst (-1), 1) := by decide +kernel
theorem dX4_takeConcept_64 : decode cX4_takeConcept 64 = .ok (.goto 15, 3) := by decide +kernel
theorem dX4_takeConcept_67 : decode cX4_takeConcept 67 = .ok (.aload_n 0, 1) := by decide +kernel
theorem dX4_takeConcept_68 : decode cX4_takeConcept 68 = .ok (.getfield 34, 3) := by decide +kernel
theorem dX4_takeConcept_71 : decode cX4_takeConcept 71 = .ok (.bipush 7, 2) := by decide +kernel
theorem dX4_takeConcept_73 : decode cX4_takeConcept 73 = .ok (.iload_n 2, 1) := by decide +kernel
theorem dX4_takeConcept_74 : decode cX4_takeConcept 74 = .ok (.iload 4, 2) := by decide +kernel
theorem dX4_takeConcept_76 : decode cX4_takeConcept 76 = .ok (.invokevirtual 156, 3) := by decide +kernel
theorem dX4_takeConcept_79 : decode cX4_takeConcept 79 = .ok (.istore_n 2, 1) := by decide +kernel
theorem dX4_takeConcept_80 : decode cX4_takeConcept 80 = .ok (.iinc 3 1, 3) := by decide +kernel
theorem dX4_takeConcept_83 : decode cX4_takeConcept 83 = .ok (.goto (-75), 3) := by decide +kernel
theorem dX4_takeConcept_86 : decode cX4_takeConcept 86 = .ok (.iload_n 2, 1) := by decide +kernel
theorem dX4_takeConcept_87 : decode cX4_takeConcept 87 = .ok (.ireturn, 1) := by decide +kernel
set_option maxRecDepth 20000 in
theorem ggX4_takeAll_X4_takeOne : GoodIn wsX4_takeAll wsX4_takeOne := goodIn_r _ [123, 1, 2, 124, 117, 19, 125, 4, 126, 127, 128, 129, 130, 131, 29, 132, 35, 33, 62, 63, 133, 134, 135, 136, 59, 60, 61, 71, 113, 114, 115, 8, 116, 15, 16, 17, 18, 20, 21, 22, 23, 24, 25, 137, 9, 10, 11, 12, 13, 14, 138, 139, 140, 141, 142, 143, 144, 145, 146, 147, 148, 149, 150, 151, 152, 153, 154, 155, 156, 157, 158, 159, 160, 161, 73, 74, 75, 76, 77, 78, 79, 80, 81, 82, 83, 84, 85, 86, 87, 88, 89, 90, 91, 92, 93, 94, 95, 96, 97, 98, 99, 100, 101, 102, 103, 104, 105, 106, 107, 26, 27, 28, 30, 31, 32, 34, 36, 37, 38, 39, 40, 41, 42, 43, 44, 45, 46, 47, 48, 49, 50, 51, 52, 53, 54, 55, 56, 57, 58, 64, 65, 66, 67, 68, 69, 70, 72, 162, 163, 164, 5, 6, 7, 165, 166, 167, 0, 3, 108, 109, 110, 111, 112, 118, 119, 120, 121, 122, 168, 169, 170, 171, 172, 173, 174, 175, 176, 177, 178, 179, 180, 181, 182, 183, 184, 185, 186, 187, 188, 189, 190, 191, 192, 193, 194, 195, 196, 197, 198, 199, 200, 201, 202, 203, 204, 205, 206, 207, 208, 209, 210, 211, 212] (by decide +kernel) (by decide +kernel)
set_option maxRecDepth 20000 in
theorem gX4_takeAll_X4_takeOne : GoodIn wsX4_takeAll (wsV RX4 162 RX4 yX4_takeOne wsX4_takeOne) := goodIn_app (goodIn_of _ (by decide +kernel)) ggX4_takeAll_X4_takeOne
set_option maxRecDepth 20000 in
theorem ggX4_takeAll_X4_countConcept : GoodIn wsX4_takeAll wsX4_countConcept := goodIn_r _ [12, 13, 14, 15, 16, 17, 8, 18, 1, 19, 20, 21, 22, 23, 24, 25, 177, 178, 179, 180, 181, 188, 189, 190, 191, 192, 193, 194, 195, 196, 197, 198, 199, 200, 201, 202, 182, 183, 184, 185, 186, 187] (by decide +kernel) (by decide +kernel)
set_option maxRecDepth 20000 in
theorem gX4_takeAll_X4_countConcept : GoodIn wsX4_takeAll (wsV RX4 153 RX4 yX4_countConcept wsX4_countConcept) := goodIn_app (goodIn_of _ (by decide +kernel)) ggX4_takeAll_X4_countConcept
set_option maxRecDepth 20000 in
theorem ggX4_takeAll_X5_step : GoodIn wsX4_takeAll wsX5_step := goodIn_r _ [30, 31, 32, 33, 34, 35, 36, 37, 38, 39, 29, 40, 41, 42, 43, 44, 45, 46, 47, 48, 49, 50, 51, 52, 53, 54, 55, 56, 57, 58, 59, 60, 61, 62, 63, 64, 65, 66, 67, 68, 69, 70, 71, 72, 182, 183, 184, 185, 186, 187] (by decide +kernel) (by decide +kernel)
set_option maxRecDepth 20000 in
theorem gX4_takeAll_X5_step : GoodIn wsX4_takeAll (wsV RX4 87 RX5 yX5_step wsX5_step) := goodIn_app (goodIn_of _ (by decide +kernel)) ggX4_takeAll_X5_step
set_option maxRecDepth 20000 in
theorem ggX4_takeAll_X1_make : GoodIn wsX4_takeAll wsX1_make := goodIn_r _ [77, 78, 79, 80, 81, 82, 83, 84, 85, 76, 86, 87, 88, 89, 90, 91, 92, 93, 94, 95, 96, 97, 98, 99, 100, 101, 102, 103, 104, 105, 106, 107, 203, 204, 205, 206, 207, 208, 209, 210, 211, 212] (by decide +kernel) (by decide +kernel)
set_option maxRecDepth 20000 in
theorem gX4_takeAll_X1_make : GoodIn wsX4_takeAll (wsV RX4 156 RX1 yX1_make wsX1_make) := goodIn_app (goodIn_of _ (by decide +kernel)) ggX4_takeAll_X1_make
theorem dX4_takeAll_0 : decode cX4_takeAll 0 = .ok (.aload_n 0, 1) := by decide +kernel
theorem dX4_takeAll_1 : decode cX4_takeAll 1 = .ok (.iload_n 1, 1) := by decide +kernel
theorem dX4_takeAll_2 : decode cX4_takeAll 2 = .ok (.invokevirtual 162, 3) := by decide +kernel
theorem dX4_takeAll_5 : decode cX4_takeAll 5 = .ok (.istore_n 2, 1) := by decide +kernel
theorem dX4_takeAll_6 : decode cX4_takeAll 6 = .ok (.iconst 0, 1) := by decide +kernel
theorem dX4_takeAll_7 : decode cX4_takeAll 7 = .ok (.istore_n 3, 1) := by decide +kernel
theorem dX4_takeAll_8 : decode cX4_takeAll 8 = .ok (.iload_n 3, 1) := by decide +kernel
theorem dX4_takeAll_9 : decode cX4_takeAll 9 = .ok (.sipush 200, 3) := by decide +kernel
theorem dX4_takeAll_12 : decode cX4_takeAll 12 = .ok (.if_icmp .gt 74, 3) := by decide +kernel
theorem dX4_takeAll_15 : decode cX4_takeAll 15 = .ok (.iload_n 2, 1) := by decide +kernel
theorem dX4_takeAll_16 : decode cX4_takeAll 16 = .ok (.iconst (-1), 1) := by decide +kernel
theorem dX4_takeAll_17 : decode cX4_takeAll 17 = .ok (.if_icmp .eq 69, 3) := by decide +kernel
theorem dX4_takeAll_20 : decode cX4_takeAll 20 = .ok (.aload_n 0, 1) := by decide +kernel
theorem dX4_takeAll_21 : decode cX4_takeAll 21 = .ok (.getfield 20, 3) := by decide +kernel
theorem dX4_takeAll_24 : decode cX4_takeAll 24 = .ok (.getfield 48, 3) := by decide +kernel
theorem dX4_takeAll_27 : decode cX4_takeAll 27 = .ok (.ldc2_w 165, 3) := by decide +kernel
theorem dX4_takeAll_30 : decode cX4_takeAll 30 = .ok (.lcmp, 1) := by decide +kernel
theorem dX4_takeAll_31 : decode cX4_takeAll 31 = .ok (.ifCond .ne 55, 3) := by decide +kernel
theorem dX4_takeAll_34 : decode cX4_takeAll 34 = .ok (.aload_n 0, 1) := by decide +kernel
theorem dX4_takeAll_35 : decode cX4_takeAll 35 = .ok (.invokevirtual 153, 3) := by decide +kernel
theorem dX4_takeAll_38 : decode cX4_takeAll 38 = .ok (.ifCond .ne 5, 3) := by decide +kernel
theorem dX4_takeAll_41 : decode cX4_takeAll 41 = .ok (.iconst (-1), 1) := by decide +kernel
theorem dX4_takeAll_42 : decode cX4_takeAll 42 = .ok (.ireturn, 1) := by decide +kernel
theorem dX4_takeAll_43 : decode cX4_takeAll 43 = .ok (.aload_n 0, 1) := by decide +kernel
theorem dX4_takeAll_44 : decode cX4_takeAll 44 = .ok (.getfield 20, 3) := by decide +kernel
theorem dX4_takeAll_47 : decode cX4_takeAll 47 = .ok (.invokevirtual 87, 3) := by decide +kernel
theorem dX4_takeAll_50 : decode cX4_takeAll 50 = .ok (.aload_n 0, 1) := by decide +kernel
theorem dX4_takeAll_51 : decode cX4_takeAll 51 = .ok (.iload_n 1, 1) := by decide +kernel
theorem dX4_takeAll_52 : decode cX4_takeAll 52 = .ok (.invokevirtual 162, 3) := by decide +kernel
theorem dX4_takeAll_55 : decode cX4_takeAll 55 = .ok (.istore 4, 2) := by decide +kernel
theorem dX4_takeAll_57 : decode cX4_takeAll 57 = .ok (.iload 4, 2) := by decide +kernel
theorem dX4_takeAll_59 : decode cX4_takeAll 59 = .ok (.iconst (-1), 1) := by decide +kernel
theorem dX4_takeAll_60 : decode cX4_takeAll 60 = .ok (.if_icmp .ne 7, 3) := by decide +kernel
theorem dX4_takeAll_63 : decode cX4_takeAll 63 = .ok (.iconst (-1), 1) := by decide +kernel
theorem dX4_takeAll_64 : decode cX4_takeAll 64 = .ok (.goto 15, 3) := by decide +kernel
theorem dX4_takeAll_67 : decode cX4_takeAll 67 = .ok (.aload_n 0, 1) := by decide +kernel
theorem dX4_takeAll_68 : decode cX4_takeAll 68 = .ok (.getfield 34, 3) := by decide +kernel
theorem dX4_takeAll_71 : decode cX4_takeAll 71 = .ok (.bipush 6, 2) := by decide +kernel
theorem dX4_takeAll_73 : decode cX4_takeAll 73 = .ok (.iload_n 2, 1) := by decide +kernel
theorem dX4_takeAll_74 : decode cX4_takeAll 74 = .ok (.iload 4, 2) := by decide +kernel
theorem dX4_takeAll_76 : decode cX4_takeAll 76 = .ok (.invokevirtual 156, 3) := by decide +kernel
theorem dX4_takeAll_79 : decode cX4_takeAll 79 = .ok (.istore_n 2, 1) := by decide +kernel
theorem dX4_takeAll_80 : decode cX4_takeAll 80 = .ok (.iinc 3 1, 3) := by decide +kernel
theorem dX4_takeAll_83 : decode cX4_takeAll 83 = .ok (.goto (-75), 3) := by decide +kernel
theorem dX4_takeAll_86 : decode cX4_takeAll 86 = .ok (.iload_n 2, 1) := by decide +kernel
theorem dX4_takeAll_87 : decode cX4_takeAll 87 = .ok (.ireturn, 1) := by decide +kernel
set_option maxRecDepth 20000 in
theorem ggX4_takeOne_X5_beginsConcept : GoodIn wsX4_takeOne wsX5_beginsConcept := goodIn_r _ [15, 16, 17, 18, 19, 20, 21, 22, 14, 23, 24, 25, 26, 27, 182, 183, 184, 185, 186, 187] (by decide +kernel) (by decide +kernel)
set_option maxRecDepth 20000 in
theorem gX4_takeOne_X5_beginsConcept : GoodIn wsX4_takeOne (wsV RX4 90 RX5 yX5_beginsConcept wsX5_beginsConcept) := goodIn_app (goodIn_of _ (by decide +kernel)) ggX4_takeOne_X5_beginsConcept
set_option maxRecDepth 20000 in
theorem ggX4_takeOne_X4_misplaced : GoodIn wsX4_takeOne wsX4_misplaced := goodIn_r _ [32, 1, 4, 33, 34, 35, 31, 36, 5, 37, 38, 39, 40, 41, 42, 177, 178, 179, 180, 181, 182, 183, 184, 185, 186, 187] (by decide +kernel) (by decide +kernel)
set_option maxRecDepth 20000 in
theorem gX4_takeOne_X4_misplaced : GoodIn wsX4_takeOne (wsV RX4 83 RX4 yX4_misplaced wsX4_misplaced) := goodIn_app (goodIn_of _ (by decide +kernel)) ggX4_takeOne_X4_misplaced
set_option maxRecDepth 20000 in
theorem ggX4_takeOne_X5_holdsConcept : GoodIn wsX4_takeOne wsX5_holdsConcept := goodIn_r _ [23, 17, 24, 25, 26, 27, 182, 183, 184, 185, 186, 187] (by decide +kernel) (by decide +kernel)
set_option maxRecDepth 20000 in
theorem gX4_takeOne_X5_holdsConcept : GoodIn wsX4_takeOne (wsV RX4 167 RX5 yX5_holdsConcept wsX5_holdsConcept) := goodIn_app (goodIn_of _ (by decide +kernel)) ggX4_takeOne_X5_holdsConcept
set_option maxRecDepth 20000 in
theorem ggX4_takeOne_X4_failHere : GoodIn wsX4_takeOne wsX4_failHere := goodIn_r _ [36, 1, 5, 37, 38, 39, 31, 40, 41, 42, 177, 178, 179, 180, 181, 182, 183, 184, 185, 186, 187] (by decide +kernel) (by decide +kernel)
set_option maxRecDepth 20000 in
theorem gX4_takeOne_X4_failHere : GoodIn wsX4_takeOne (wsV RX4 77 RX4 yX4_failHere wsX4_failHere) := goodIn_app (goodIn_of _ (by decide +kernel)) ggX4_takeOne_X4_failHere
set_option maxRecDepth 20000 in
theorem ggX4_takeOne_X4_countConcept : GoodIn wsX4_takeOne wsX4_countConcept := goodIn_r _ [47, 48, 49, 33, 34, 35, 31, 36, 1, 5, 37, 38, 39, 40, 41, 42, 177, 178, 179, 180, 181, 188, 189, 190, 191, 192, 193, 194, 195, 196, 197, 198, 199, 200, 201, 202, 182, 183, 184, 185, 186, 187] (by decide +kernel) (by decide +kernel)
set_option maxRecDepth 20000 in
theorem gX4_takeOne_X4_countConcept : GoodIn wsX4_takeOne (wsV RX4 153 RX4 yX4_countConcept wsX4_countConcept) := goodIn_app (goodIn_of _ (by decide +kernel)) ggX4_takeOne_X4_countConcept
set_option maxRecDepth 20000 in
theorem ggX4_takeOne_X4_takeName : GoodIn wsX4_takeOne wsX4_takeName := goodIn_r _ [53, 48, 1, 2, 7, 54, 55, 56, 57, 58, 59, 60, 61, 62, 63, 64, 65, 66, 67, 68, 69, 33, 34, 35, 31, 36, 5, 37, 38, 39, 40, 41, 42, 70, 71, 72, 73, 74, 75, 76, 77, 78, 79, 80, 81, 82, 83, 84, 85, 86, 87, 88, 89, 90, 91, 92, 93, 94, 95, 96, 97, 98, 99, 100, 101, 102, 103, 104, 105, 106, 107, 108, 109, 110, 111, 14, 112, 113, 114, 17, 115, 16, 116, 117, 118, 119, 120, 121, 122, 123, 124, 125, 126, 127, 128, 129, 130, 131, 132, 133, 134, 135, 136, 137, 138, 24, 25, 26, 18, 19, 139, 140, 141, 142, 143, 144, 145, 27, 146, 177, 178, 179, 180, 181, 182, 183, 184, 185, 186, 187, 188, 189, 190, 191, 192, 193, 194, 195, 196, 197, 198, 199, 200, 201, 202, 203, 204, 205, 206, 207, 208, 209, 210, 211, 212] (by decide +kernel) (by decide +kernel)
set_option maxRecDepth 20000 in
theorem gX4_takeOne_X4_takeName : GoodIn wsX4_takeOne (wsV RX4 172 RX4 yX4_takeName wsX4_takeName) := goodIn_app (goodIn_of _ (by decide +kernel)) ggX4_takeOne_X4_takeName
set_option maxRecDepth 20000 in
theorem ggX4_takeOne_X5_step : GoodIn wsX4_takeOne wsX5_step := goodIn_r _ [112, 113, 114, 17, 115, 16, 116, 117, 118, 119, 14, 120, 121, 122, 123, 124, 125, 126, 127, 128, 129, 130, 131, 132, 133, 134, 135, 136, 137, 138, 24, 25, 26, 18, 19, 139, 140, 141, 142, 143, 144, 145, 27, 146, 182, 183, 184, 185, 186, 187] (by decide +kernel) (by decide +kernel)
set_option maxRecDepth 20000 in
theorem gX4_takeOne_X5_step : GoodIn wsX4_takeOne (wsV RX4 87 RX5 yX5_step wsX5_step) := goodIn_app (goodIn_of _ (by decide +kernel)) ggX4_takeOne_X5_step
set_option maxRecDepth 20000 in
theorem ggX4_takeOne_X4_takeBracketed : GoodIn wsX4_takeOne wsX4_takeBracketed := goodIn_r _ [158, 1, 2, 159, 160, 161, 162, 31, 28, 29, 30, 32, 4, 33, 34, 35, 36, 5, 37, 38, 39, 40, 41, 42, 109, 110, 111, 14, 112, 113, 114, 17, 115, 16, 116, 117, 118, 119, 120, 121, 122, 123, 124, 125, 126, 127, 128, 129, 130, 131, 132, 133, 134, 135, 136, 137, 138, 24, 25, 26, 18, 19, 139, 140, 141, 142, 143, 144, 145, 27, 146, 156, 157, 7, 150, 151, 152, 44, 45, 46, 47, 48, 49, 74, 75, 76, 77, 78, 79, 80, 81, 82, 83, 84, 85, 86, 87, 88, 89, 90, 91, 92, 93, 94, 95, 96, 97, 98, 99, 100, 101, 102, 103, 104, 105, 106, 107, 108, 163, 164, 165, 166, 167, 0, 3, 6, 8, 9, 10, 11, 12, 13, 15, 20, 21, 22, 23, 43, 50, 51, 52, 53, 54, 55, 56, 57, 58, 59, 60, 61, 62, 63, 64, 65, 66, 67, 68, 69, 70, 71, 72, 73, 147, 148, 149, 153, 154, 155, 168, 169, 170, 171, 172, 173, 174, 175, 176, 177, 178, 179, 180, 181, 182, 183, 184, 185, 186, 187, 188, 189, 190, 191, 192, 193, 194, 195, 196, 197, 198, 199, 200, 201, 202, 203, 204, 205, 206, 207, 208, 209, 210, 211, 212] (by decide +kernel) (by decide +kernel)
set_option maxRecDepth 20000 in
theorem gX4_takeOne_X4_takeBracketed : GoodIn wsX4_takeOne (wsV RX4 175 RX4 yX4_takeBracketed wsX4_takeBracketed) := goodIn_app (goodIn_of _ (by decide +kernel)) ggX4_takeOne_X4_takeBracketed
set_option maxRecDepth 20000 in
theorem ggX4_takeOne_X1_make : GoodIn wsX4_takeOne wsX1_make := goodIn_r _ [78, 79, 80, 81, 82, 83, 84, 85, 86, 77, 87, 88, 89, 90, 91, 92, 93, 94, 95, 96, 97, 98, 99, 100, 101, 102, 103, 104, 105, 106, 107, 108, 203, 204, 205, 206, 207, 208, 209, 210, 211, 212] (by decide +kernel) (by decide +kernel)
set_option maxRecDepth 20000 in
theorem gX4_takeOne_X1_make : GoodIn wsX4_takeOne (wsV RX4 156 RX1 yX1_make wsX1_make) := goodIn_app (goodIn_of _ (by decide +kernel)) ggX4_takeOne_X1_make
set_option maxRecDepth 20000 in
theorem ggX4_takeOne_X4_takeOne : GoodIn wsX4_takeOne wsX4_takeOne := goodIn_r _ [0, 1, 2, 3, 4, 5, 6, 7, 8, 9, 10, 11, 12, 13, 14, 15, 16, 17, 18, 19, 20, 21, 22, 23, 24, 25, 26, 27, 28, 29, 30, 31, 32, 33, 34, 35, 36, 37, 38, 39, 40, 41, 42, 43, 44, 45, 46, 47, 48, 49, 50, 51, 52, 53, 54, 55, 56, 57, 58, 59, 60, 61, 62, 63, 64, 65, 66, 67, 68, 69, 70, 71, 72, 73, 74, 75, 76, 77, 78, 79, 80, 81, 82, 83, 84, 85, 86, 87, 88, 89, 90, 91, 92, 93, 94, 95, 96, 97, 98, 99, 100, 101, 102, 103, 104, 105, 106, 107, 108, 109, 110, 111, 112, 113, 114, 115, 116, 117, 118, 119, 120, 121, 122, 123, 124, 125, 126, 127, 128, 129, 130, 131, 132, 133, 134, 135, 136, 137, 138, 139, 140, 141, 142, 143, 144, 145, 146, 147, 148, 149, 150, 151, 152, 153, 154, 155, 156, 157, 158, 159, 160, 161, 162, 163, 164, 165, 166, 167, 168, 169, 170, 171, 172, 173, 174, 175, 176, 177, 178, 179, 180, 181, 182, 183, 184, 185, 186, 187, 188, 189, 190, 191, 192, 193, 194, 195, 196, 197, 198, 199, 200, 201, 202, 203, 204, 205, 206, 207, 208, 209, 210, 211, 212] (by decide +kernel) (by decide +kernel)
set_option maxRecDepth 20000 in
theorem gX4_takeOne_X4_takeOne : GoodIn wsX4_takeOne (wsV RX4 162 RX4 yX4_takeOne wsX4_takeOne) := goodIn_app (goodIn_of _ (by decide +kernel)) ggX4_takeOne_X4_takeOne
set_option maxRecDepth 20000 in
theorem ggX4_takeOne_X4_takeQuantified : GoodIn wsX4_takeOne wsX4_takeQuantified := goodIn_r _ [168, 7, 169, 170, 171, 31, 172, 1, 4, 48, 2, 28, 29, 30, 32, 33, 34, 35, 36, 5, 37, 38, 39, 40, 41, 42, 64, 65, 66, 57, 67, 68, 69, 61, 62, 63, 54, 55, 56, 58, 59, 60, 173, 174, 175, 176, 109, 110, 111, 14, 112, 113, 114, 17, 115, 16, 116, 117, 118, 119, 120, 121, 122, 123, 124, 125, 126, 127, 128, 129, 130, 131, 132, 133, 134, 135, 136, 137, 138, 24, 25, 26, 18, 19, 139, 140, 141, 142, 143, 144, 145, 27, 146, 150, 151, 152, 74, 75, 76, 77, 78, 79, 80, 81, 82, 83, 84, 85, 86, 87, 88, 89, 90, 91, 92, 93, 94, 95, 96, 97, 98, 99, 100, 101, 102, 103, 104, 105, 106, 107, 108, 156, 157, 44, 45, 46, 47, 49, 158, 159, 160, 161, 162, 163, 164, 165, 166, 167, 0, 3, 6, 8, 9, 10, 11, 12, 13, 15, 20, 21, 22, 23, 43, 50, 51, 52, 53, 70, 71, 72, 73, 147, 148, 149, 153, 154, 155, 177, 178, 179, 180, 181, 182, 183, 184, 185, 186, 187, 188, 189, 190, 191, 192, 193, 194, 195, 196, 197, 198, 199, 200, 201, 202, 203, 204, 205, 206, 207, 208, 209, 210, 211, 212] (by decide +kernel) (by decide +kernel)
set_option maxRecDepth 20000 in
theorem gX4_takeOne_X4_takeQuantified : GoodIn wsX4_takeOne (wsV RX4 186 RX4 yX4_takeQuantified wsX4_takeQuantified) := goodIn_app (goodIn_of _ (by decide +kernel)) ggX4_takeOne_X4_takeQuantified
theorem dX4_takeOne_0 : decode cX4_takeOne 0 = .ok (.aload_n 0, 1) := by decide +kernel
theorem dX4_takeOne_1 : decode cX4_takeOne 1 = .ok (.getfield 20, 3) := by decide +kernel
theorem dX4_takeOne_4 : decode cX4_takeOne 4 = .ok (.invokevirtual 90, 3) := by decide +kernel
theorem dX4_takeOne_7 : decode cX4_takeOne 7 = .ok (.ifCond .ne 8, 3) := by decide +kernel
theorem dX4_takeOne_10 : decode cX4_takeOne 10 = .ok (.aload_n 0, 1) := by decide +kernel
theorem dX4_takeOne_11 : decode cX4_takeOne 11 = .ok (.invokevirtual 83, 3) := by decide +kernel
theorem dX4_takeOne_14 : decode cX4_takeOne 14 = .ok (.ireturn, 1) := by decide +kernel
theorem dX4_takeOne_15 : decode cX4_takeOne 15 = .ok (.iload_n 1, 1) := by decide +kernel
theorem dX4_takeOne_16 : decode cX4_takeOne 16 = .ok (.bipush 12, 2) := by decide +kernel
theorem dX4_takeOne_18 : decode cX4_takeOne 18 = .ok (.if_icmp .lt 19, 3) := by decide +kernel
theorem dX4_takeOne_21 : decode cX4_takeOne 21 = .ok (.aload_n 0, 1) := by decide +kernel
theorem dX4_takeOne_22 : decode cX4_takeOne 22 = .ok (.getfield 20, 3) := by decide +kernel
theorem dX4_takeOne_25 : decode cX4_takeOne 25 = .ok (.invokevirtual 167, 3) := by decide +kernel
theorem dX4_takeOne_28 : decode cX4_takeOne 28 = .ok (.ifCond .eq 9, 3) := by decide +kernel
theorem dX4_takeOne_31 : decode cX4_takeOne 31 = .ok (.aload_n 0, 1) := by decide +kernel
theorem dX4_takeOne_32 : decode cX4_takeOne 32 = .ok (.iconst 3, 1) := by decide +kernel
theorem dX4_takeOne_33 : decode cX4_takeOne 33 = .ok (.invokevirtual 77, 3) := by decide +kernel
theorem dX4_takeOne_36 : decode cX4_takeOne 36 = .ok (.ireturn, 1) := by decide +kernel
theorem dX4_takeOne_37 : decode cX4_takeOne 37 = .ok (.aload_n 0, 1) := by decide +kernel
theorem dX4_takeOne_38 : decode cX4_takeOne 38 = .ok (.getfield 20, 3) := by decide +kernel
theorem dX4_takeOne_41 : decode cX4_takeOne 41 = .ok (.getfield 48, 3) := by decide +kernel
theorem dX4_takeOne_44 : decode cX4_takeOne 44 = .ok (.ldc2_w 170, 3) := by decide +kernel
theorem dX4_takeOne_47 : decode cX4_takeOne 47 = .ok (.lcmp, 1) := by decide +kernel
theorem dX4_takeOne_48 : decode cX4_takeOne 48 = .ok (.ifCond .eq 12, 3) := by decide +kernel
theorem dX4_takeOne_51 : decode cX4_takeOne 51 = .ok (.aload_n 0, 1) := by decide +kernel
theorem dX4_takeOne_52 : decode cX4_takeOne 52 = .ok (.invokevirtual 153, 3) := by decide +kernel
theorem dX4_takeOne_55 : decode cX4_takeOne 55 = .ok (.ifCond .ne 5, 3) := by decide +kernel
theorem dX4_takeOne_58 : decode cX4_takeOne 58 = .ok (.iconst (-1), 1) := by decide +kernel
theorem dX4_takeOne_59 : decode cX4_takeOne 59 = .ok (.ireturn, 1) := by decide +kernel
theorem dX4_takeOne_60 : decode cX4_takeOne 60 = .ok (.aload_n 0, 1) := by decide +kernel
theorem dX4_takeOne_61 : decode cX4_takeOne 61 = .ok (.getfield 20, 3) := by decide +kernel
theorem dX4_takeOne_64 : decode cX4_takeOne 64 = .ok (.getfield 45, 3) := by decide +kernel
theorem dX4_takeOne_67 : decode cX4_takeOne 67 = .ok (.iconst 4, 1) := by decide +kernel
theorem dX4_takeOne_68 : decode cX4_takeOne 68 = .ok (.if_icmp .ne 8, 3) := by decide +kernel
theorem dX4_takeOne_71 : decode cX4_takeOne 71 = .ok (.aload_n 0, 1) := by decide +kernel
theorem dX4_takeOne_72 : decode cX4_takeOne 72 = .ok (.invokevirtual 172, 3) := by decide +kernel
theorem dX4_takeOne_75 : decode cX4_takeOne 75 = .ok (.ireturn, 1) := by decide +kernel
theorem dX4_takeOne_76 : decode cX4_takeOne 76 = .ok (.aload_n 0, 1) := by decide +kernel
theorem dX4_takeOne_77 : decode cX4_takeOne 77 = .ok (.getfield 20, 3) := by decide +kernel
theorem dX4_takeOne_80 : decode cX4_takeOne 80 = .ok (.getfield 70, 3) := by decide +kernel
theorem dX4_takeOne_83 : decode cX4_takeOne 83 = .ok (.istore_n 2, 1) := by decide +kernel
theorem dX4_takeOne_84 : decode cX4_takeOne 84 = .ok (.aload_n 0, 1) := by decide +kernel
theorem dX4_takeOne_85 : decode cX4_takeOne 85 = .ok (.getfield 20, 3) := by decide +kernel
theorem dX4_takeOne_88 : decode cX4_takeOne 88 = .ok (.getfield 48, 3) := by decide +kernel
theorem dX4_takeOne_91 : decode cX4_takeOne 91 = .ok (.lstore_n 3, 1) := by decide +kernel
theorem dX4_takeOne_92 : decode cX4_takeOne 92 = .ok (.aload_n 0, 1) := by decide +kernel
theorem dX4_takeOne_93 : decode cX4_takeOne 93 = .ok (.getfield 20, 3) := by decide +kernel
theorem dX4_takeOne_96 : decode cX4_takeOne 96 = .ok (.invokevirtual 87, 3) := by decide +kernel
theorem dX4_takeOne_99 : decode cX4_takeOne 99 = .ok (.lload_n 3, 1) := by decide +kernel
theorem dX4_takeOne_100 : decode cX4_takeOne 100 = .ok (.ldc2_w 170, 3) := by decide +kernel
theorem dX4_takeOne_103 : decode cX4_takeOne 103 = .ok (.lcmp, 1) := by decide +kernel
theorem dX4_takeOne_104 : decode cX4_takeOne 104 = .ok (.ifCond .ne 11, 3) := by decide +kernel
theorem dX4_takeOne_107 : decode cX4_takeOne 107 = .ok (.aload_n 0, 1) := by decide +kernel
theorem dX4_takeOne_108 : decode cX4_takeOne 108 = .ok (.iload_n 1, 1) := by decide +kernel
theorem dX4_takeOne_109 : decode cX4_takeOne 109 = .ok (.iconst 1, 1) := by decide +kernel
theorem dX4_takeOne_110 : decode cX4_takeOne 110 = .ok (.iadd, 1) := by decide +kernel
theorem dX4_takeOne_111 : decode cX4_takeOne 111 = .ok (.invokevirtual 175, 3) := by decide +kernel
theorem dX4_takeOne_114 : decode cX4_takeOne 114 = .ok (.ireturn, 1) := by decide +kernel
theorem dX4_takeOne_115 : decode cX4_takeOne 115 = .ok (.lload_n 3, 1) := by decide +kernel
theorem dX4_takeOne_116 : decode cX4_takeOne 116 = .ok (.ldc2_w 178, 3) := by decide +kernel
theorem dX4_takeOne_119 : decode cX4_takeOne 119 = .ok (.lcmp, 1) := by decide +kernel
theorem dX4_takeOne_120 : decode cX4_takeOne 120 = .ok (.ifCond .ne 14, 3) := by decide +kernel
theorem dX4_takeOne_123 : decode cX4_takeOne 123 = .ok (.aload_n 0, 1) := by decide +kernel
theorem dX4_takeOne_124 : decode cX4_takeOne 124 = .ok (.getfield 34, 3) := by decide +kernel
theorem dX4_takeOne_127 : decode cX4_takeOne 127 = .ok (.iconst 1, 1) := by decide +kernel
theorem dX4_takeOne_128 : decode cX4_takeOne 128 = .ok (.iconst 0, 1) := by decide +kernel
theorem dX4_takeOne_129 : decode cX4_takeOne 129 = .ok (.iconst 0, 1) := by decide +kernel
theorem dX4_takeOne_130 : decode cX4_takeOne 130 = .ok (.invokevirtual 156, 3) := by decide +kernel
theorem dX4_takeOne_133 : decode cX4_takeOne 133 = .ok (.ireturn, 1) := by decide +kernel
theorem dX4_takeOne_134 : decode cX4_takeOne 134 = .ok (.lload_n 3, 1) := by decide +kernel
theorem dX4_takeOne_135 : decode cX4_takeOne 135 = .ok (.ldc2_w 180, 3) := by decide +kernel
theorem dX4_takeOne_138 : decode cX4_takeOne 138 = .ok (.lcmp, 1) := by decide +kernel
theorem dX4_takeOne_139 : decode cX4_takeOne 139 = .ok (.ifCond .ne 14, 3) := by decide +kernel
theorem dX4_takeOne_142 : decode cX4_takeOne 142 = .ok (.aload_n 0, 1) := by decide +kernel
theorem dX4_takeOne_143 : decode cX4_takeOne 143 = .ok (.getfield 34, 3) := by decide +kernel
theorem dX4_takeOne_146 : decode cX4_takeOne 146 = .ok (.iconst 2, 1) := by decide +kernel
theorem dX4_takeOne_147 : decode cX4_takeOne 147 = .ok (.iconst 0, 1) := by decide +kernel
theorem dX4_takeOne_148 : decode cX4_takeOne 148 = .ok (.iconst 0, 1) := by decide +kernel
theorem dX4_takeOne_149 : decode cX4_takeOne 149 = .ok (.invokevirtual 156, 3) := by decide +kernel
theorem dX4_takeOne_152 : decode cX4_takeOne 152 = .ok (.ireturn, 1) := by decide +kernel
theorem dX4_takeOne_153 : decode cX4_takeOne 153 = .ok (.lload_n 3, 1) := by decide +kernel
theorem dX4_takeOne_154 : decode cX4_takeOne 154 = .ok (.ldc2_w 182, 3) := by decide +kernel
theorem dX4_takeOne_157 : decode cX4_takeOne 157 = .ok (.lcmp, 1) := by decide +kernel
theorem dX4_takeOne_158 : decode cX4_takeOne 158 = .ok (.ifCond .ne 34, 3) := by decide +kernel
theorem dX4_takeOne_161 : decode cX4_takeOne 161 = .ok (.aload_n 0, 1) := by decide +kernel
theorem dX4_takeOne_162 : decode cX4_takeOne 162 = .ok (.iload_n 1, 1) := by decide +kernel
theorem dX4_takeOne_163 : decode cX4_takeOne 163 = .ok (.iconst 1, 1) := by decide +kernel
theorem dX4_takeOne_164 : decode cX4_takeOne 164 = .ok (.iadd, 1) := by decide +kernel
theorem dX4_takeOne_165 : decode cX4_takeOne 165 = .ok (.invokevirtual 162, 3) := by decide +kernel
theorem dX4_takeOne_168 : decode cX4_takeOne 168 = .ok (.istore 5, 2) := by decide +kernel
theorem dX4_takeOne_170 : decode cX4_takeOne 170 = .ok (.iload 5, 2) := by decide +kernel
theorem dX4_takeOne_172 : decode cX4_takeOne 172 = .ok (.iconst (-1), 1) := by decide +kernel
theorem dX4_takeOne_173 : decode cX4_takeOne 173 = .ok (.if_icmp .ne 7, 3) := by decide +kernel
theorem dX4_takeOne_176 : decode cX4_takeOne 176 = .ok (.iconst (-1), 1) := by decide +kernel
theorem dX4_takeOne_177 : decode cX4_takeOne 177 = .ok (.goto 14, 3) := by decide +kernel
theorem dX4_takeOne_180 : decode cX4_takeOne 180 = .ok (.aload_n 0, 1) := by decide +kernel
theorem dX4_takeOne_181 : decode cX4_takeOne 181 = .ok (.getfield 34, 3) := by decide +kernel
theorem dX4_takeOne_184 : decode cX4_takeOne 184 = .ok (.iconst 3, 1) := by decide +kernel
theorem dX4_takeOne_185 : decode cX4_takeOne 185 = .ok (.iload 5, 2) := by decide +kernel
theorem dX4_takeOne_187 : decode cX4_takeOne 187 = .ok (.iconst 0, 1) := by decide +kernel
theorem dX4_takeOne_188 : decode cX4_takeOne 188 = .ok (.invokevirtual 156, 3) := by decide +kernel
theorem dX4_takeOne_191 : decode cX4_takeOne 191 = .ok (.ireturn, 1) := by decide +kernel
theorem dX4_takeOne_192 : decode cX4_takeOne 192 = .ok (.aload_n 0, 1) := by decide +kernel
theorem dX4_takeOne_193 : decode cX4_takeOne 193 = .ok (.lload_n 3, 1) := by decide +kernel
theorem dX4_takeOne_194 : decode cX4_takeOne 194 = .ok (.ldc2_w 184, 3) := by decide +kernel
theorem dX4_takeOne_197 : decode cX4_takeOne 197 = .ok (.lcmp, 1) := by decide +kernel
theorem dX4_takeOne_198 : decode cX4_takeOne 198 = .ok (.ifCond .ne 7, 3) := by decide +kernel
theorem dX4_takeOne_201 : decode cX4_takeOne 201 = .ok (.iconst 4, 1) := by decide +kernel
theorem dX4_takeOne_202 : decode cX4_takeOne 202 = .ok (.goto 4, 3) := by decide +kernel
theorem dX4_takeOne_205 : decode cX4_takeOne 205 = .ok (.iconst 5, 1) := by decide +kernel
theorem dX4_takeOne_206 : decode cX4_takeOne 206 = .ok (.iload_n 2, 1) := by decide +kernel
theorem dX4_takeOne_207 : decode cX4_takeOne 207 = .ok (.iload_n 1, 1) := by decide +kernel
theorem dX4_takeOne_208 : decode cX4_takeOne 208 = .ok (.iconst 1, 1) := by decide +kernel
theorem dX4_takeOne_209 : decode cX4_takeOne 209 = .ok (.iadd, 1) := by decide +kernel
theorem dX4_takeOne_210 : decode cX4_takeOne 210 = .ok (.invokevirtual 186, 3) := by decide +kernel
theorem dX4_takeOne_213 : decode cX4_takeOne 213 = .ok (.ireturn, 1) := by decide +kernel
set_option maxRecDepth 20000 in
theorem ggX4_takeBracketed_X4_takeConcept : GoodIn wsX4_takeBracketed wsX4_takeConcept := goodIn_r _ [118, 1, 2, 119, 73, 120, 121, 122, 7, 77, 78, 79, 80, 81, 82, 13, 14, 15, 16, 17, 18, 19, 20, 21, 22, 23, 24, 25, 26, 27, 28, 29, 30, 31, 32, 33, 34, 35, 36, 37, 38, 39, 40, 41, 42, 43, 44, 45, 46, 47, 48, 49, 50, 51, 52, 53, 54, 55, 56, 57, 58, 59, 60, 61, 62, 63, 64, 65, 66, 67, 68, 69, 70, 83, 84, 85, 86, 87, 88, 89, 90, 91, 92, 93, 94, 95, 96, 97, 98, 99, 100, 101, 102, 103, 104, 105, 106, 107, 108, 109, 110, 111, 112, 113, 114, 115, 116, 117, 71, 72, 74, 75, 76, 0, 3, 4, 5, 6, 8, 9, 10, 11, 12, 123, 124, 125, 126, 127, 128, 129, 130, 131, 132, 133, 134, 135, 136, 137, 138, 139, 140, 141, 142, 143, 144, 145, 146, 147, 148, 149, 150, 151, 152, 153, 154, 155, 156, 157, 158, 159, 160, 161, 162, 163, 164, 165, 166, 167, 168, 169, 170, 171, 172, 173, 174, 175, 176, 177, 178, 179, 180, 181, 182, 183, 184, 185, 186, 187, 188, 189, 190, 191, 192, 193, 194, 195, 196, 197, 198, 199, 200, 201, 202, 203, 204, 205, 206, 207, 208, 209, 210, 211, 212] (by decide +kernel) (by decide +kernel)
set_option maxRecDepth 20000 in
theorem gX4_takeBracketed_X4_takeConcept : GoodIn wsX4_takeBracketed (wsV RX4 97 RX4 yX4_takeConcept wsX4_takeConcept) := goodIn_app (goodIn_of _ (by decide +kernel)) ggX4_takeBracketed_X4_takeConcept
set_option maxRecDepth 20000 in
theorem ggX4_takeBracketed_X4_misplaced : GoodIn wsX4_takeBracketed wsX4_misplaced := goodIn_r _ [11, 1, 12, 13, 14, 15, 7, 16, 17, 18, 19, 20, 21, 22, 23, 177, 178, 179, 180, 181, 182, 183, 184, 185, 186, 187] (by decide +kernel) (by decide +kernel)
set_option maxRecDepth 20000 in
theorem gX4_takeBracketed_X4_misplaced : GoodIn wsX4_takeBracketed (wsV RX4 83 RX4 yX4_misplaced wsX4_misplaced) := goodIn_app (goodIn_of _ (by decide +kernel)) ggX4_takeBracketed_X4_misplaced
set_option maxRecDepth 20000 in
theorem ggX4_takeBracketed_X5_step : GoodIn wsX4_takeBracketed wsX5_step := goodIn_r _ [28, 29, 30, 31, 32, 33, 34, 35, 36, 37, 27, 38, 39, 40, 41, 42, 43, 44, 45, 46, 47, 48, 49, 50, 51, 52, 53, 54, 55, 56, 57, 58, 59, 60, 61, 62, 63, 64, 65, 66, 67, 68, 69, 70, 182, 183, 184, 185, 186, 187] (by decide +kernel) (by decide +kernel)
set_option maxRecDepth 20000 in
theorem gX4_takeBracketed_X5_step : GoodIn wsX4_takeBracketed (wsV RX4 87 RX5 yX5_step wsX5_step) := goodIn_app (goodIn_of _ (by decide +kernel)) ggX4_takeBracketed_X5_step
theorem dX4_takeBracketed_0 : decode cX4_takeBracketed 0 = .ok (.aload_n 0, 1) := by decide +kernel
theorem dX4_takeBracketed_1 : decode cX4_takeBracketed 1 = .ok (.iload_n 1, 1) := by decide +kernel
theorem dX4_takeBracketed_2 : decode cX4_takeBracketed 2 = .ok (.invokevirtual 97, 3) := by decide +kernel
theorem dX4_takeBracketed_5 : decode cX4_takeBracketed 5 = .ok (.istore_n 2, 1) := by decide +kernel
theorem dX4_takeBracketed_6 : decode cX4_takeBracketed 6 = .ok (.iload_n 2, 1) := by decide +kernel
theorem dX4_takeBracketed_7 : decode cX4_takeBracketed 7 = .ok (.iconst (-1), 1) := by decide +kernel
theorem dX4_takeBracketed_8 : decode cX4_takeBracketed 8 = .ok (.if_icmp .ne 5, 3) := by decide +kernel
theorem dX4_takeBracketed_11 : decode cX4_takeBracketed 11 = .ok (.iconst (-1), 1) := by decide +kernel
theorem dX4_takeBracketed_12 : decode cX4_takeBracketed 12 = .ok (.ireturn, 1) := by decide +kernel
theorem dX4_takeBracketed_13 : decode cX4_takeBracketed 13 = .ok (.aload_n 0, 1) := by decide +kernel
theorem dX4_takeBracketed_14 : decode cX4_takeBracketed 14 = .ok (.getfield 20, 3) := by decide +kernel
theorem dX4_takeBracketed_17 : decode cX4_takeBracketed 17 = .ok (.getfield 48, 3) := by decide +kernel
theorem dX4_takeBracketed_20 : decode cX4_takeBracketed 20 = .ok (.ldc2_w 189, 3) := by decide +kernel
theorem dX4_takeBracketed_23 : decode cX4_takeBracketed 23 = .ok (.lcmp, 1) := by decide +kernel
theorem dX4_takeBracketed_24 : decode cX4_takeBracketed 24 = .ok (.ifCond .eq 8, 3) := by decide +kernel
theorem dX4_takeBracketed_27 : decode cX4_takeBracketed 27 = .ok (.aload_n 0, 1) := by decide +kernel
theorem dX4_takeBracketed_28 : decode cX4_takeBracketed 28 = .ok (.invokevirtual 83, 3) := by decide +kernel
theorem dX4_takeBracketed_31 : decode cX4_takeBracketed 31 = .ok (.ireturn, 1) := by decide +kernel
theorem dX4_takeBracketed_32 : decode cX4_takeBracketed 32 = .ok (.aload_n 0, 1) := by decide +kernel
theorem dX4_takeBracketed_33 : decode cX4_takeBracketed 33 = .ok (.getfield 20, 3) := by decide +kernel
theorem dX4_takeBracketed_36 : decode cX4_takeBracketed 36 = .ok (.invokevirtual 87, 3) := by decide +kernel
theorem dX4_takeBracketed_39 : decode cX4_takeBracketed 39 = .ok (.iload_n 2, 1) := by decide +kernel
theorem dX4_takeBracketed_40 : decode cX4_takeBracketed 40 = .ok (.ireturn, 1) := by decide +kernel
set_option maxRecDepth 20000 in
theorem ggX4_takeQuantified_X4_takeRole : GoodIn wsX4_takeQuantified wsX4_takeRole := goodIn_r _ [6, 7, 8, 9, 10, 11, 12, 13, 5, 14, 15, 16, 17, 18, 19, 20, 21, 22, 23, 24, 25, 26, 27, 28, 29, 30, 31, 32, 33, 34, 35, 36, 37, 38, 39, 40, 41, 42, 43, 44, 45, 46, 47, 48, 49, 50, 51, 52, 53, 54, 55, 56, 57, 58, 59, 60, 61, 62, 63, 64, 65, 66, 67, 68, 69, 70, 71, 72, 73, 74, 75, 76, 77, 78, 79, 80, 81, 82, 83, 84, 85, 86, 87, 88, 89, 90, 91, 92, 177, 178, 179, 180, 181, 182, 183, 184, 185, 186, 187, 188, 189, 190, 191, 192, 193, 194, 195, 196, 197, 198, 199, 200, 201, 202] (by decide +kernel) (by decide +kernel)
set_option maxRecDepth 20000 in
theorem gX4_takeQuantified_X4_takeRole : GoodIn wsX4_takeQuantified (wsV RX4 117 RX4 yX4_takeRole wsX4_takeRole) := goodIn_app (goodIn_of _ (by decide +kernel)) ggX4_takeQuantified_X4_takeRole
set_option maxRecDepth 20000 in
theorem ggX4_takeQuantified_X4_takeOne : GoodIn wsX4_takeQuantified wsX4_takeOne := goodIn_r _ [148, 7, 10, 149, 8, 19, 150, 1, 151, 152, 153, 154, 155, 156, 49, 157, 55, 53, 82, 83, 158, 159, 160, 161, 79, 80, 81, 91, 11, 12, 13, 5, 14, 15, 16, 17, 18, 20, 21, 22, 23, 24, 25, 162, 133, 134, 135, 136, 9, 137, 163, 164, 165, 166, 36, 37, 38, 29, 39, 40, 41, 33, 34, 35, 26, 27, 28, 30, 31, 32, 167, 168, 169, 170, 96, 97, 98, 99, 100, 101, 102, 103, 104, 105, 106, 107, 108, 109, 110, 111, 112, 113, 114, 115, 116, 117, 118, 119, 120, 121, 122, 123, 124, 125, 126, 127, 128, 129, 130, 46, 47, 48, 50, 51, 52, 54, 56, 57, 58, 59, 60, 61, 62, 63, 64, 65, 66, 67, 68, 69, 70, 71, 72, 73, 74, 75, 76, 77, 78, 84, 85, 86, 87, 88, 89, 90, 92, 171, 172, 173, 93, 94, 95, 174, 175, 176, 131, 132, 138, 139, 140, 141, 142, 143, 144, 145, 146, 147, 0, 2, 3, 4, 6, 42, 43, 44, 45, 177, 178, 179, 180, 181, 182, 183, 184, 185, 186, 187, 188, 189, 190, 191, 192, 193, 194, 195, 196, 197, 198, 199, 200, 201, 202, 203, 204, 205, 206, 207, 208, 209, 210, 211, 212] (by decide +kernel) (by decide +kernel)
set_option maxRecDepth 20000 in
theorem gX4_takeQuantified_X4_takeOne : GoodIn wsX4_takeQuantified (wsV RX4 162 RX4 yX4_takeOne wsX4_takeOne) := goodIn_app (goodIn_of _ (by decide +kernel)) ggX4_takeQuantified_X4_takeOne
set_option maxRecDepth 20000 in
theorem ggX4_takeQuantified_X1_make : GoodIn wsX4_takeQuantified wsX1_make := goodIn_r _ [100, 101, 102, 103, 104, 105, 106, 107, 108, 99, 109, 110, 111, 112, 113, 114, 115, 116, 117, 118, 119, 120, 121, 122, 123, 124, 125, 126, 127, 128, 129, 130, 203, 204, 205, 206, 207, 208, 209, 210, 211, 212] (by decide +kernel) (by decide +kernel)
set_option maxRecDepth 20000 in
theorem gX4_takeQuantified_X1_make : GoodIn wsX4_takeQuantified (wsV RX4 156 RX1 yX1_make wsX1_make) := goodIn_app (goodIn_of _ (by decide +kernel)) ggX4_takeQuantified_X1_make
set_option maxRecDepth 20000 in
theorem ggX4_takeQuantified_X4_fail : GoodIn wsX4_takeQuantified wsX4_fail := goodIn_r _ [23, 24, 25, 177, 178, 179, 180, 181] (by decide +kernel) (by decide +kernel)
set_option maxRecDepth 20000 in
theorem gX4_takeQuantified_X4_fail : GoodIn wsX4_takeQuantified (wsV RX4 73 RX4 yX4_fail wsX4_fail) := goodIn_app (goodIn_of _ (by decide +kernel)) ggX4_takeQuantified_X4_fail
theorem dX4_takeQuantified_0 : decode cX4_takeQuantified 0 = .ok (.aload_n 0, 1) := by decide +kernel
theorem dX4_takeQuantified_1 : decode cX4_takeQuantified 1 = .ok (.invokevirtual 117, 3) := by decide +kernel
theorem dX4_takeQuantified_4 : decode cX4_takeQuantified 4 = .ok (.istore 4, 2) := by decide +kernel
theorem dX4_takeQuantified_6 : decode cX4_takeQuantified 6 = .ok (.iload 4, 2) := by decide +kernel
theorem dX4_takeQuantified_8 : decode cX4_takeQuantified 8 = .ok (.iconst (-1), 1) := by decide +kernel
theorem dX4_takeQuantified_9 : decode cX4_takeQuantified 9 = .ok (.if_icmp .ne 5, 3) := by decide +kernel
theorem dX4_takeQuantified_12 : decode cX4_takeQuantified 12 = .ok (.iconst (-1), 1) := by decide +kernel
theorem dX4_takeQuantified_13 : decode cX4_takeQuantified 13 = .ok (.ireturn, 1) := by decide +kernel
theorem dX4_takeQuantified_14 : decode cX4_takeQuantified 14 = .ok (.aload_n 0, 1) := by decide +kernel
theorem dX4_takeQuantified_15 : decode cX4_takeQuantified 15 = .ok (.iload_n 3, 1) := by decide +kernel
theorem dX4_takeQuantified_16 : decode cX4_takeQuantified 16 = .ok (.invokevirtual 162, 3) := by decide +kernel
theorem dX4_takeQuantified_19 : decode cX4_takeQuantified 19 = .ok (.istore 5, 2) := by decide +kernel
theorem dX4_takeQuantified_21 : decode cX4_takeQuantified 21 = .ok (.iload 5, 2) := by decide +kernel
theorem dX4_takeQuantified_23 : decode cX4_takeQuantified 23 = .ok (.iconst (-1), 1) := by decide +kernel
theorem dX4_takeQuantified_24 : decode cX4_takeQuantified 24 = .ok (.if_icmp .ne 5, 3) := by decide +kernel
theorem dX4_takeQuantified_27 : decode cX4_takeQuantified 27 = .ok (.iconst (-1), 1) := by decide +kernel
theorem dX4_takeQuantified_28 : decode cX4_takeQuantified 28 = .ok (.ireturn, 1) := by decide +kernel
theorem dX4_takeQuantified_29 : decode cX4_takeQuantified 29 = .ok (.aload_n 0, 1) := by decide +kernel
theorem dX4_takeQuantified_30 : decode cX4_takeQuantified 30 = .ok (.getfield 34, 3) := by decide +kernel
theorem dX4_takeQuantified_33 : decode cX4_takeQuantified 33 = .ok (.iload_n 1, 1) := by decide +kernel
theorem dX4_takeQuantified_34 : decode cX4_takeQuantified 34 = .ok (.iload 5, 2) := by decide +kernel
theorem dX4_takeQuantified_36 : decode cX4_takeQuantified 36 = .ok (.iload 4, 2) := by decide +kernel
theorem dX4_takeQuantified_38 : decode cX4_takeQuantified 38 = .ok (.invokevirtual 156, 3) := by decide +kernel
theorem dX4_takeQuantified_41 : decode cX4_takeQuantified 41 = .ok (.istore 6, 2) := by decide +kernel
theorem dX4_takeQuantified_43 : decode cX4_takeQuantified 43 = .ok (.iload 6, 2) := by decide +kernel
theorem dX4_takeQuantified_45 : decode cX4_takeQuantified 45 = .ok (.iconst (-1), 1) := by decide +kernel
theorem dX4_takeQuantified_46 : decode cX4_takeQuantified 46 = .ok (.if_icmp .ne 12, 3) := by decide +kernel
theorem dX4_takeQuantified_49 : decode cX4_takeQuantified 49 = .ok (.aload_n 0, 1) := by decide +kernel
theorem dX4_takeQuantified_50 : decode cX4_takeQuantified 50 = .ok (.iconst 5, 1) := by decide +kernel
theorem dX4_takeQuantified_51 : decode cX4_takeQuantified 51 = .ok (.iload_n 2, 1) := by decide +kernel
theorem dX4_takeQuantified_52 : decode cX4_takeQuantified 52 = .ok (.invokevirtual 73, 3) := by decide +kernel
theorem dX4_takeQuantified_55 : decode cX4_takeQuantified 55 = .ok (.goto 5, 3) := by decide +kernel
theorem dX4_takeQuantified_58 : decode cX4_takeQuantified 58 = .ok (.iload 6, 2) := by decide +kernel
theorem dX4_takeQuantified_60 : decode cX4_takeQuantified 60 = .ok (.ireturn, 1) := by decide +kernel
set_option maxRecDepth 20000 in
theorem ggX4_takeName_X0_findName : GoodIn wsX4_takeName wsX0_findName := goodIn_r _ [9, 10, 11, 12, 13, 8, 14, 130, 131, 132, 133, 134, 135, 136, 137, 138, 139, 140, 141, 142, 143, 144] (by decide +kernel) (by decide +kernel)
set_option maxRecDepth 20000 in
theorem gX4_takeName_X0_findName : GoodIn wsX4_takeName (wsV RX4 142 RX0 yX0_findName wsX0_findName) := goodIn_app (goodIn_of _ (by decide +kernel)) ggX4_takeName_X0_findName
set_option maxRecDepth 20000 in
theorem ggX4_takeName_X0_findRole : GoodIn wsX4_takeName wsX0_findRole := goodIn_r _ [18, 19, 20, 12, 13, 8, 14, 130, 131, 132, 133, 134, 135, 136, 137, 138, 139, 140, 141, 142, 143, 144] (by decide +kernel) (by decide +kernel)
set_option maxRecDepth 20000 in
theorem gX4_takeName_X0_findRole : GoodIn wsX4_takeName (wsV RX4 138 RX0 yX0_findRole wsX0_findRole) := goodIn_app (goodIn_of _ (by decide +kernel)) ggX4_takeName_X0_findRole
set_option maxRecDepth 20000 in
theorem ggX4_takeName_X4_failHere : GoodIn wsX4_takeName wsX4_failHere := goodIn_r _ [25, 2, 26, 27, 28, 29, 24, 30, 31, 32, 119, 120, 121, 122, 123, 124, 125, 126, 127, 128, 129] (by decide +kernel) (by decide +kernel)
set_option maxRecDepth 20000 in
theorem gX4_takeName_X4_failHere : GoodIn wsX4_takeName (wsV RX4 77 RX4 yX4_failHere wsX4_failHere) := goodIn_app (goodIn_of _ (by decide +kernel)) ggX4_takeName_X4_failHere
set_option maxRecDepth 20000 in
theorem ggX4_takeName_X0_addName : GoodIn wsX4_takeName wsX0_addName := goodIn_r _ [36, 11, 10, 130, 131, 132, 133, 134, 135, 136, 137, 138, 139, 140, 141, 142, 143, 144] (by decide +kernel) (by decide +kernel)
set_option maxRecDepth 20000 in
theorem gX4_takeName_X0_addName : GoodIn wsX4_takeName (wsV RX4 191 RX0 yX0_addName wsX0_addName) := goodIn_app (goodIn_of _ (by decide +kernel)) ggX4_takeName_X0_addName
set_option maxRecDepth 20000 in
theorem ggX4_takeName_X1_make : GoodIn wsX4_takeName wsX1_make := goodIn_r _ [41, 42, 43, 44, 45, 46, 47, 48, 49, 40, 50, 51, 52, 53, 54, 55, 56, 57, 58, 59, 60, 61, 62, 63, 64, 65, 66, 67, 68, 69, 70, 71, 145, 146, 147, 148, 149, 150, 151, 152, 153, 154] (by decide +kernel) (by decide +kernel)
set_option maxRecDepth 20000 in
theorem gX4_takeName_X1_make : GoodIn wsX4_takeName (wsV RX4 156 RX1 yX1_make wsX1_make) := goodIn_app (goodIn_of _ (by decide +kernel)) ggX4_takeName_X1_make
set_option maxRecDepth 20000 in
theorem ggX4_takeName_X5_step : GoodIn wsX4_takeName wsX5_step := goodIn_r _ [76, 77, 78, 79, 80, 81, 82, 83, 84, 85, 75, 86, 87, 88, 89, 90, 91, 92, 93, 94, 95, 96, 97, 98, 99, 100, 101, 102, 103, 104, 105, 106, 107, 108, 109, 110, 111, 112, 113, 114, 115, 116, 117, 118, 124, 125, 126, 127, 128, 129] (by decide +kernel) (by decide +kernel)
set_option maxRecDepth 20000 in
theorem gX4_takeName_X5_step : GoodIn wsX4_takeName (wsV RX4 87 RX5 yX5_step wsX5_step) := goodIn_app (goodIn_of _ (by decide +kernel)) ggX4_takeName_X5_step
theorem dX4_takeName_0 : decode cX4_takeName 0 = .ok (.aload_n 0, 1) := by decide +kernel
theorem dX4_takeName_1 : decode cX4_takeName 1 = .ok (.getfield 24, 3) := by decide +kernel
theorem dX4_takeName_4 : decode cX4_takeName 4 = .ok (.aload_n 0, 1) := by decide +kernel
theorem dX4_takeName_5 : decode cX4_takeName 5 = .ok (.getfield 20, 3) := by decide +kernel
theorem dX4_takeName_8 : decode cX4_takeName 8 = .ok (.getfield 48, 3) := by decide +kernel
theorem dX4_takeName_11 : decode cX4_takeName 11 = .ok (.invokevirtual 142, 3) := by decide +kernel
theorem dX4_takeName_14 : decode cX4_takeName 14 = .ok (.istore_n 1, 1) := by decide +kernel
theorem dX4_takeName_15 : decode cX4_takeName 15 = .ok (.iload_n 1, 1) := by decide +kernel
theorem dX4_takeName_16 : decode cX4_takeName 16 = .ok (.iconst (-1), 1) := by decide +kernel
theorem dX4_takeName_17 : decode cX4_takeName 17 = .ok (.if_icmp .ne 27, 3) := by decide +kernel
theorem dX4_takeName_20 : decode cX4_takeName 20 = .ok (.aload_n 0, 1) := by decide +kernel
theorem dX4_takeName_21 : decode cX4_takeName 21 = .ok (.getfield 24, 3) := by decide +kernel
theorem dX4_takeName_24 : decode cX4_takeName 24 = .ok (.aload_n 0, 1) := by decide +kernel
theorem dX4_takeName_25 : decode cX4_takeName 25 = .ok (.getfield 20, 3) := by decide +kernel
theorem dX4_takeName_28 : decode cX4_takeName 28 = .ok (.getfield 48, 3) := by decide +kernel
theorem dX4_takeName_31 : decode cX4_takeName 31 = .ok (.invokevirtual 138, 3) := by decide +kernel
theorem dX4_takeName_34 : decode cX4_takeName 34 = .ok (.iconst (-1), 1) := by decide +kernel
theorem dX4_takeName_35 : decode cX4_takeName 35 = .ok (.if_icmp .eq 9, 3) := by decide +kernel
theorem dX4_takeName_38 : decode cX4_takeName 38 = .ok (.aload_n 0, 1) := by decide +kernel
theorem dX4_takeName_39 : decode cX4_takeName 39 = .ok (.iconst 4, 1) := by decide +kernel
theorem dX4_takeName_40 : decode cX4_takeName 40 = .ok (.invokevirtual 77, 3) := by decide +kernel
theorem dX4_takeName_43 : decode cX4_takeName 43 = .ok (.ireturn, 1) := by decide +kernel
theorem dX4_takeName_44 : decode cX4_takeName 44 = .ok (.iload_n 1, 1) := by decide +kernel
theorem dX4_takeName_45 : decode cX4_takeName 45 = .ok (.iconst (-1), 1) := by decide +kernel
theorem dX4_takeName_46 : decode cX4_takeName 46 = .ok (.if_icmp .ne 18, 3) := by decide +kernel
theorem dX4_takeName_49 : decode cX4_takeName 49 = .ok (.aload_n 0, 1) := by decide +kernel
theorem dX4_takeName_50 : decode cX4_takeName 50 = .ok (.getfield 24, 3) := by decide +kernel
theorem dX4_takeName_53 : decode cX4_takeName 53 = .ok (.aload_n 0, 1) := by decide +kernel
theorem dX4_takeName_54 : decode cX4_takeName 54 = .ok (.getfield 20, 3) := by decide +kernel
theorem dX4_takeName_57 : decode cX4_takeName 57 = .ok (.getfield 48, 3) := by decide +kernel
theorem dX4_takeName_60 : decode cX4_takeName 60 = .ok (.invokevirtual 191, 3) := by decide +kernel
theorem dX4_takeName_63 : decode cX4_takeName 63 = .ok (.istore_n 1, 1) := by decide +kernel
theorem dX4_takeName_64 : decode cX4_takeName 64 = .ok (.iload_n 1, 1) := by decide +kernel
theorem dX4_takeName_65 : decode cX4_takeName 65 = .ok (.iconst (-1), 1) := by decide +kernel
theorem dX4_takeName_66 : decode cX4_takeName 66 = .ok (.if_icmp .ne 9, 3) := by decide +kernel
theorem dX4_takeName_69 : decode cX4_takeName 69 = .ok (.aload_n 0, 1) := by decide +kernel
theorem dX4_takeName_70 : decode cX4_takeName 70 = .ok (.iconst 3, 1) := by decide +kernel
theorem dX4_takeName_71 : decode cX4_takeName 71 = .ok (.invokevirtual 77, 3) := by decide +kernel
theorem dX4_takeName_74 : decode cX4_takeName 74 = .ok (.ireturn, 1) := by decide +kernel
theorem dX4_takeName_75 : decode cX4_takeName 75 = .ok (.aload_n 0, 1) := by decide +kernel
theorem dX4_takeName_76 : decode cX4_takeName 76 = .ok (.getfield 34, 3) := by decide +kernel
theorem dX4_takeName_79 : decode cX4_takeName 79 = .ok (.iconst 0, 1) := by decide +kernel
theorem dX4_takeName_80 : decode cX4_takeName 80 = .ok (.iload_n 1, 1) := by decide +kernel
theorem dX4_takeName_81 : decode cX4_takeName 81 = .ok (.iconst 0, 1) := by decide +kernel
theorem dX4_takeName_82 : decode cX4_takeName 82 = .ok (.invokevirtual 156, 3) := by decide +kernel
theorem dX4_takeName_85 : decode cX4_takeName 85 = .ok (.istore_n 2, 1) := by decide +kernel
theorem dX4_takeName_86 : decode cX4_takeName 86 = .ok (.iload_n 2, 1) := by decide +kernel
theorem dX4_takeName_87 : decode cX4_takeName 87 = .ok (.iconst (-1), 1) := by decide +kernel
theorem dX4_takeName_88 : decode cX4_takeName 88 = .ok (.if_icmp .ne 9, 3) := by decide +kernel
theorem dX4_takeName_91 : decode cX4_takeName 91 = .ok (.aload_n 0, 1) := by decide +kernel
theorem dX4_takeName_92 : decode cX4_takeName 92 = .ok (.iconst 5, 1) := by decide +kernel
theorem dX4_takeName_93 : decode cX4_takeName 93 = .ok (.invokevirtual 77, 3) := by decide +kernel
theorem dX4_takeName_96 : decode cX4_takeName 96 = .ok (.ireturn, 1) := by decide +kernel
theorem dX4_takeName_97 : decode cX4_takeName 97 = .ok (.aload_n 0, 1) := by decide +kernel
theorem dX4_takeName_98 : decode cX4_takeName 98 = .ok (.getfield 20, 3) := by decide +kernel
theorem dX4_takeName_101 : decode cX4_takeName 101 = .ok (.invokevirtual 87, 3) := by decide +kernel
theorem dX4_takeName_104 : decode cX4_takeName 104 = .ok (.iload_n 2, 1) := by decide +kernel
theorem dX4_takeName_105 : decode cX4_takeName 105 = .ok (.ireturn, 1) := by decide +kernel
set_option maxRecDepth 20000 in
theorem ggX4_countConcept_X4_failHere : GoodIn wsX4_countConcept wsX4_failHere := goodIn_r _ [7, 8, 9, 10, 11, 12, 6, 13, 14, 15, 16, 17, 18, 19, 20, 36, 37, 38, 39, 40, 41] (by decide +kernel) (by decide +kernel)
set_option maxRecDepth 20000 in
theorem gX4_countConcept_X4_failHere : GoodIn wsX4_countConcept (wsV RX4 77 RX4 yX4_failHere wsX4_failHere) := goodIn_app (goodIn_of _ (by decide +kernel)) ggX4_countConcept_X4_failHere
theorem dX4_countConcept_0 : decode cX4_countConcept 0 = .ok (.aload_n 0, 1) := by decide +kernel
theorem dX4_countConcept_1 : decode cX4_countConcept 1 = .ok (.getfield 24, 3) := by decide +kernel
theorem dX4_countConcept_4 : decode cX4_countConcept 4 = .ok (.getfield 194, 3) := by decide +kernel
theorem dX4_countConcept_7 : decode cX4_countConcept 7 = .ok (.sipush 200, 3) := by decide +kernel
theorem dX4_countConcept_10 : decode cX4_countConcept 10 = .ok (.if_icmp .lt 11, 3) := by decide +kernel
theorem dX4_countConcept_13 : decode cX4_countConcept 13 = .ok (.aload_n 0, 1) := by decide +kernel
theorem dX4_countConcept_14 : decode cX4_countConcept 14 = .ok (.iconst 3, 1) := by decide +kernel
theorem dX4_countConcept_15 : decode cX4_countConcept 15 = .ok (.invokevirtual 77, 3) := by decide +kernel
theorem dX4_countConcept_18 : decode cX4_countConcept 18 = .ok (.pop, 1) := by decide +kernel
theorem dX4_countConcept_19 : decode cX4_countConcept 19 = .ok (.iconst 0, 1) := by decide +kernel
theorem dX4_countConcept_20 : decode cX4_countConcept 20 = .ok (.ireturn, 1) := by decide +kernel
theorem dX4_countConcept_21 : decode cX4_countConcept 21 = .ok (.aload_n 0, 1) := by decide +kernel
theorem dX4_countConcept_22 : decode cX4_countConcept 22 = .ok (.getfield 24, 3) := by decide +kernel
theorem dX4_countConcept_25 : decode cX4_countConcept 25 = .ok (.dup, 1) := by decide +kernel
theorem dX4_countConcept_26 : decode cX4_countConcept 26 = .ok (.getfield 194, 3) := by decide +kernel
theorem dX4_countConcept_29 : decode cX4_countConcept 29 = .ok (.iconst 1, 1) := by decide +kernel
theorem dX4_countConcept_30 : decode cX4_countConcept 30 = .ok (.iadd, 1) := by decide +kernel
theorem dX4_countConcept_31 : decode cX4_countConcept 31 = .ok (.putfield 194, 3) := by decide +kernel
theorem dX4_countConcept_34 : decode cX4_countConcept 34 = .ok (.iconst 1, 1) := by decide +kernel
theorem dX4_countConcept_35 : decode cX4_countConcept 35 = .ok (.ireturn, 1) := by decide +kernel
theorem dX5_init_0 : decode cX5_init 0 = .ok (.aload_n 0, 1) := by decide +kernel
theorem dX5_init_1 : decode cX5_init 1 = .ok (.invokespecial 3, 3) := by decide +kernel
theorem dX5_init_4 : decode cX5_init 4 = .ok (.aload_n 0, 1) := by decide +kernel
theorem dX5_init_5 : decode cX5_init 5 = .ok (.aload_n 1, 1) := by decide +kernel
theorem dX5_init_6 : decode cX5_init 6 = .ok (.putfield 9, 3) := by decide +kernel
theorem dX5_init_9 : decode cX5_init 9 = .ok (.return_, 1) := by decide +kernel
set_option maxRecDepth 20000 in
theorem ggX5_start_X5_step : GoodIn wsX5_start wsX5_step := goodIn_r _ [12, 7, 13, 14, 6, 15, 1, 16, 17, 18, 11, 19, 20, 21, 22, 23, 24, 25, 26, 27, 28, 29, 30, 31, 32, 33, 34, 35, 36, 37, 38, 39, 40, 41, 42, 43, 44, 45, 46, 47, 48, 49, 50, 51, 52, 53, 54, 55, 56, 57] (by decide +kernel) (by decide +kernel)
set_option maxRecDepth 20000 in
theorem gX5_start_X5_step : GoodIn wsX5_start (wsV RX5 28 RX5 yX5_step wsX5_step) := goodIn_app (goodIn_of _ (by decide +kernel)) ggX5_start_X5_step
theorem dX5_start_0 : decode cX5_start 0 = .ok (.aload_n 0, 1) := by decide +kernel
theorem dX5_start_1 : decode cX5_start 1 = .ok (.iload_n 1, 1) := by decide +kernel
theorem dX5_start_2 : decode cX5_start 2 = .ok (.aload_n 0, 1) := by decide +kernel
theorem dX5_start_3 : decode cX5_start 3 = .ok (.getfield 9, 3) := by decide +kernel
theorem dX5_start_6 : decode cX5_start 6 = .ok (.arraylength, 1) := by decide +kernel
theorem dX5_start_7 : decode cX5_start 7 = .ok (.invokestatic 15, 3) := by decide +kernel
theorem dX5_start_10 : decode cX5_start 10 = .ok (.putfield 21, 3) := by decide +kernel
theorem dX5_start_13 : decode cX5_start 13 = .ok (.aload_n 0, 1) := by decide +kernel
theorem dX5_start_14 : decode cX5_start 14 = .ok (.iconst 0, 1) := by decide +kernel
theorem dX5_start_15 : decode cX5_start 15 = .ok (.putfield 25, 3) := by decide +kernel
theorem dX5_start_18 : decode cX5_start 18 = .ok (.aload_n 0, 1) := by decide +kernel
theorem dX5_start_19 : decode cX5_start 19 = .ok (.invokevirtual 28, 3) := by decide +kernel
theorem dX5_start_22 : decode cX5_start 22 = .ok (.return_, 1) := by decide +kernel
set_option maxRecDepth 20000 in
theorem ggX5_step_X5_skipBlanks : GoodIn wsX5_step wsX5_skipBlanks := goodIn_r _ [11, 1, 4, 6, 44, 45, 46, 47, 48, 49] (by decide +kernel) (by decide +kernel)
set_option maxRecDepth 20000 in
theorem gX5_step_X5_skipBlanks : GoodIn wsX5_step (wsV RX5 31 RX5 yX5_skipBlanks wsX5_skipBlanks) := goodIn_app (goodIn_of _ (by decide +kernel)) ggX5_step_X5_skipBlanks
set_option maxRecDepth 20000 in
theorem ggX5_step_X5_isLetter : GoodIn wsX5_step wsX5_isLetter := goodIn_r _ [14] (by decide +kernel) (by decide +kernel)
set_option maxRecDepth 20000 in
theorem gX5_step_X5_isLetter : GoodIn wsX5_step (va_wsS RX5 44 yX5_isLetter wsX5_isLetter) := goodIn_app (goodIn_of _ (by decide +kernel)) ggX5_step_X5_isLetter
set_option maxRecDepth 20000 in
theorem ggX5_step_X5_isDigit : GoodIn wsX5_step wsX5_isDigit := goodIn_r _ [17] (by decide +kernel) (by decide +kernel)
set_option maxRecDepth 20000 in
theorem gX5_step_X5_isDigit : GoodIn wsX5_step (va_wsS RX5 48 yX5_isDigit wsX5_isDigit) := goodIn_app (goodIn_of _ (by decide +kernel)) ggX5_step_X5_isDigit
set_option maxRecDepth 20000 in
theorem ggX5_step_X5_takeRow : GoodIn wsX5_step wsX5_takeRow := goodIn_r _ [21, 6, 2, 1, 4, 3, 5, 12, 13, 10, 14, 15, 16, 17, 22, 23, 24, 25, 26, 27, 28, 29, 30, 31, 32, 33, 34, 44, 45, 46, 47, 48, 49] (by decide +kernel) (by decide +kernel)
set_option maxRecDepth 20000 in
theorem gX5_step_X5_takeRow : GoodIn wsX5_step (wsV RX5 51 RX5 yX5_takeRow wsX5_takeRow) := goodIn_app (goodIn_of _ (by decide +kernel)) ggX5_step_X5_takeRow
set_option maxRecDepth 20000 in
theorem ggX5_step_X5_takeSign : GoodIn wsX5_step wsX5_takeSign := goodIn_r _ [38, 6, 1, 39, 40, 41, 42, 43, 3, 5, 44, 45, 46, 47, 48, 49] (by decide +kernel) (by decide +kernel)
set_option maxRecDepth 20000 in
theorem gX5_step_X5_takeSign : GoodIn wsX5_step (wsV RX5 54 RX5 yX5_takeSign wsX5_takeSign) := goodIn_app (goodIn_of _ (by decide +kernel)) ggX5_step_X5_takeSign
theorem dX5_step_0 : decode cX5_step 0 = .ok (.aload_n 0, 1) := by decide +kernel
theorem dX5_step_1 : decode cX5_step 1 = .ok (.invokevirtual 31, 3) := by decide +kernel
theorem dX5_step_4 : decode cX5_step 4 = .ok (.aload_n 0, 1) := by decide +kernel
theorem dX5_step_5 : decode cX5_step 5 = .ok (.aload_n 0, 1) := by decide +kernel
theorem dX5_step_6 : decode cX5_step 6 = .ok (.getfield 25, 3) := by decide +kernel
theorem dX5_step_9 : decode cX5_step 9 = .ok (.putfield 34, 3) := by decide +kernel
theorem dX5_step_12 : decode cX5_step 12 = .ok (.aload_n 0, 1) := by decide +kernel
theorem dX5_step_13 : decode cX5_step 13 = .ok (.lconst 0, 1) := by decide +kernel
theorem dX5_step_14 : decode cX5_step 14 = .ok (.putfield 37, 3) := by decide +kernel
theorem dX5_step_17 : decode cX5_step 17 = .ok (.aload_n 0, 1) := by decide +kernel
theorem dX5_step_18 : decode cX5_step 18 = .ok (.getfield 25, 3) := by decide +kernel
theorem dX5_step_21 : decode cX5_step 21 = .ok (.aload_n 0, 1) := by decide +kernel
theorem dX5_step_22 : decode cX5_step 22 = .ok (.getfield 21, 3) := by decide +kernel
theorem dX5_step_25 : decode cX5_step 25 = .ok (.if_icmp .lt 11, 3) := by decide +kernel
theorem dX5_step_28 : decode cX5_step 28 = .ok (.aload_n 0, 1) := by decide +kernel
theorem dX5_step_29 : decode cX5_step 29 = .ok (.iconst 1, 1) := by decide +kernel
theorem dX5_step_30 : decode cX5_step 30 = .ok (.putfield 41, 3) := by decide +kernel
theorem dX5_step_33 : decode cX5_step 33 = .ok (.goto 44, 3) := by decide +kernel
theorem dX5_step_36 : decode cX5_step 36 = .ok (.aload_n 0, 1) := by decide +kernel
theorem dX5_step_37 : decode cX5_step 37 = .ok (.getfield 9, 3) := by decide +kernel
theorem dX5_step_40 : decode cX5_step 40 = .ok (.aload_n 0, 1) := by decide +kernel
theorem dX5_step_41 : decode cX5_step 41 = .ok (.getfield 25, 3) := by decide +kernel
theorem dX5_step_44 : decode cX5_step 44 = .ok (.baload, 1) := by decide +kernel
theorem dX5_step_45 : decode cX5_step 45 = .ok (.invokestatic 44, 3) := by decide +kernel
theorem dX5_step_48 : decode cX5_step 48 = .ok (.ifCond .ne 18, 3) := by decide +kernel
theorem dX5_step_51 : decode cX5_step 51 = .ok (.aload_n 0, 1) := by decide +kernel
theorem dX5_step_52 : decode cX5_step 52 = .ok (.getfield 9, 3) := by decide +kernel
theorem dX5_step_55 : decode cX5_step 55 = .ok (.aload_n 0, 1) := by decide +kernel
theorem dX5_step_56 : decode cX5_step 56 = .ok (.getfield 25, 3) := by decide +kernel
theorem dX5_step_59 : decode cX5_step 59 = .ok (.baload, 1) := by decide +kernel
theorem dX5_step_60 : decode cX5_step 60 = .ok (.invokestatic 48, 3) := by decide +kernel
theorem dX5_step_63 : decode cX5_step 63 = .ok (.ifCond .eq 10, 3) := by decide +kernel
theorem dX5_step_66 : decode cX5_step 66 = .ok (.aload_n 0, 1) := by decide +kernel
theorem dX5_step_67 : decode cX5_step 67 = .ok (.invokevirtual 51, 3) := by decide +kernel
theorem dX5_step_70 : decode cX5_step 70 = .ok (.goto 7, 3) := by decide +kernel
theorem dX5_step_73 : decode cX5_step 73 = .ok (.aload_n 0, 1) := by decide +kernel
theorem dX5_step_74 : decode cX5_step 74 = .ok (.invokevirtual 54, 3) := by decide +kernel
theorem dX5_step_77 : decode cX5_step 77 = .ok (.return_, 1) := by decide +kernel
theorem dX5_skipBlanks_0 : decode cX5_skipBlanks 0 = .ok (.aload_n 0, 1) := by decide +kernel
theorem dX5_skipBlanks_1 : decode cX5_skipBlanks 1 = .ok (.getfield 25, 3) := by decide +kernel
theorem dX5_skipBlanks_4 : decode cX5_skipBlanks 4 = .ok (.aload_n 0, 1) := by decide +kernel
theorem dX5_skipBlanks_5 : decode cX5_skipBlanks 5 = .ok (.getfield 21, 3) := by decide +kernel
theorem dX5_skipBlanks_8 : decode cX5_skipBlanks 8 = .ok (.if_icmp .ge 44, 3) := by decide +kernel
theorem dX5_skipBlanks_11 : decode cX5_skipBlanks 11 = .ok (.aload_n 0, 1) := by decide +kernel
theorem dX5_skipBlanks_12 : decode cX5_skipBlanks 12 = .ok (.getfield 9, 3) := by decide +kernel
theorem dX5_skipBlanks_15 : decode cX5_skipBlanks 15 = .ok (.aload_n 0, 1) := by decide +kernel
theorem dX5_skipBlanks_16 : decode cX5_skipBlanks 16 = .ok (.getfield 25, 3) := by decide +kernel
theorem dX5_skipBlanks_19 : decode cX5_skipBlanks 19 = .ok (.baload, 1) := by decide +kernel
theorem dX5_skipBlanks_20 : decode cX5_skipBlanks 20 = .ok (.bipush 10, 2) := by decide +kernel
theorem dX5_skipBlanks_22 : decode cX5_skipBlanks 22 = .ok (.if_icmp .eq 17, 3) := by decide +kernel
theorem dX5_skipBlanks_25 : decode cX5_skipBlanks 25 = .ok (.aload_n 0, 1) := by decide +kernel
theorem dX5_skipBlanks_26 : decode cX5_skipBlanks 26 = .ok (.getfield 9, 3) := by decide +kernel
theorem dX5_skipBlanks_29 : decode cX5_skipBlanks 29 = .ok (.aload_n 0, 1) := by decide +kernel
theorem dX5_skipBlanks_30 : decode cX5_skipBlanks 30 = .ok (.getfield 25, 3) := by decide +kernel
theorem dX5_skipBlanks_33 : decode cX5_skipBlanks 33 = .ok (.baload, 1) := by decide +kernel
theorem dX5_skipBlanks_34 : decode cX5_skipBlanks 34 = .ok (.bipush 32, 2) := by decide +kernel
theorem dX5_skipBlanks_36 : decode cX5_skipBlanks 36 = .ok (.if_icmp .ne 16, 3) := by decide +kernel
theorem dX5_skipBlanks_39 : decode cX5_skipBlanks 39 = .ok (.aload_n 0, 1) := by decide +kernel
theorem dX5_skipBlanks_40 : decode cX5_skipBlanks 40 = .ok (.dup, 1) := by decide +kernel
theorem dX5_skipBlanks_41 : decode cX5_skipBlanks 41 = .ok (.getfield 25, 3) := by decide +kernel
theorem dX5_skipBlanks_44 : decode cX5_skipBlanks 44 = .ok (.iconst 1, 1) := by decide +kernel
theorem dX5_skipBlanks_45 : decode cX5_skipBlanks 45 = .ok (.iadd, 1) := by decide +kernel
theorem dX5_skipBlanks_46 : decode cX5_skipBlanks 46 = .ok (.putfield 25, 3) := by decide +kernel
theorem dX5_skipBlanks_49 : decode cX5_skipBlanks 49 = .ok (.goto (-49), 3) := by decide +kernel
theorem dX5_skipBlanks_52 : decode cX5_skipBlanks 52 = .ok (.return_, 1) := by decide +kernel
set_option maxRecDepth 20000 in
theorem ggX5_takeRow_X5_isLetter : GoodIn wsX5_takeRow wsX5_isLetter := goodIn_r _ [10] (by decide +kernel) (by decide +kernel)
set_option maxRecDepth 20000 in
theorem gX5_takeRow_X5_isLetter : GoodIn wsX5_takeRow (va_wsS RX5 44 yX5_isLetter wsX5_isLetter) := goodIn_app (goodIn_of _ (by decide +kernel)) ggX5_takeRow_X5_isLetter
set_option maxRecDepth 20000 in
theorem ggX5_takeRow_X5_isDigit : GoodIn wsX5_takeRow wsX5_isDigit := goodIn_r _ [13] (by decide +kernel) (by decide +kernel)
set_option maxRecDepth 20000 in
theorem gX5_takeRow_X5_isDigit : GoodIn wsX5_takeRow (va_wsS RX5 48 yX5_isDigit wsX5_isDigit) := goodIn_app (goodIn_of _ (by decide +kernel)) ggX5_takeRow_X5_isDigit
set_option maxRecDepth 20000 in
theorem ggX5_takeRow_X5_isKeyword : GoodIn wsX5_takeRow wsX5_isKeyword := goodIn_r _ [16, 17, 18, 19, 20, 21, 22, 23, 24, 25, 26] (by decide +kernel) (by decide +kernel)
set_option maxRecDepth 20000 in
theorem gX5_takeRow_X5_isKeyword : GoodIn wsX5_takeRow (va_wsS RX5 57 yX5_isKeyword wsX5_isKeyword) := goodIn_app (goodIn_of _ (by decide +kernel)) ggX5_takeRow_X5_isKeyword
theorem dX5_takeRow_0 : decode cX5_takeRow 0 = .ok (.aload_n 0, 1) := by decide +kernel
theorem dX5_takeRow_1 : decode cX5_takeRow 1 = .ok (.getfield 9, 3) := by decide +kernel
theorem dX5_takeRow_4 : decode cX5_takeRow 4 = .ok (.aload_n 0, 1) := by decide +kernel
theorem dX5_takeRow_5 : decode cX5_takeRow 5 = .ok (.getfield 34, 3) := by decide +kernel
theorem dX5_takeRow_8 : decode cX5_takeRow 8 = .ok (.baload, 1) := by decide +kernel
theorem dX5_takeRow_9 : decode cX5_takeRow 9 = .ok (.invokestatic 44, 3) := by decide +kernel
theorem dX5_takeRow_12 : decode cX5_takeRow 12 = .ok (.istore_n 1, 1) := by decide +kernel
theorem dX5_takeRow_13 : decode cX5_takeRow 13 = .ok (.aload_n 0, 1) := by decide +kernel
theorem dX5_takeRow_14 : decode cX5_takeRow 14 = .ok (.getfield 25, 3) := by decide +kernel
theorem dX5_takeRow_17 : decode cX5_takeRow 17 = .ok (.aload_n 0, 1) := by decide +kernel
theorem dX5_takeRow_18 : decode cX5_takeRow 18 = .ok (.getfield 21, 3) := by decide +kernel
theorem dX5_takeRow_21 : decode cX5_takeRow 21 = .ok (.if_icmp .ge 68, 3) := by decide +kernel
theorem dX5_takeRow_24 : decode cX5_takeRow 24 = .ok (.aload_n 0, 1) := by decide +kernel
theorem dX5_takeRow_25 : decode cX5_takeRow 25 = .ok (.getfield 9, 3) := by decide +kernel
theorem dX5_takeRow_28 : decode cX5_takeRow 28 = .ok (.aload_n 0, 1) := by decide +kernel
theorem dX5_takeRow_29 : decode cX5_takeRow 29 = .ok (.getfield 25, 3) := by decide +kernel
theorem dX5_takeRow_32 : decode cX5_takeRow 32 = .ok (.baload, 1) := by decide +kernel
theorem dX5_takeRow_33 : decode cX5_takeRow 33 = .ok (.invokestatic 44, 3) := by decide +kernel
theorem dX5_takeRow_36 : decode cX5_takeRow 36 = .ok (.ifCond .ne 18, 3) := by decide +kernel
theorem dX5_takeRow_39 : decode cX5_takeRow 39 = .ok (.aload_n 0, 1) := by decide +kernel
theorem dX5_takeRow_40 : decode cX5_takeRow 40 = .ok (.getfield 9, 3) := by decide +kernel
theorem dX5_takeRow_43 : decode cX5_takeRow 43 = .ok (.aload_n 0, 1) := by decide +kernel
theorem dX5_takeRow_44 : decode cX5_takeRow 44 = .ok (.getfield 25, 3) := by decide +kernel
theorem dX5_takeRow_47 : decode cX5_takeRow 47 = .ok (.baload, 1) := by decide +kernel
theorem dX5_takeRow_48 : decode cX5_takeRow 48 = .ok (.invokestatic 48, 3) := by decide +kernel
theorem dX5_takeRow_51 : decode cX5_takeRow 51 = .ok (.ifCond .eq 38, 3) := by decide +kernel
theorem dX5_takeRow_54 : decode cX5_takeRow 54 = .ok (.aload_n 0, 1) := by decide +kernel
theorem dX5_takeRow_55 : decode cX5_takeRow 55 = .ok (.aload_n 0, 1) := by decide +kernel
theorem dX5_takeRow_56 : decode cX5_takeRow 56 = .ok (.getfield 37, 3) := by decide +kernel
theorem dX5_takeRow_59 : decode cX5_takeRow 59 = .ok (.bipush 8, 2) := by decide +kernel
theorem dX5_takeRow_61 : decode cX5_takeRow 61 = .ok (.lshl, 1) := by decide +kernel
theorem dX5_takeRow_62 : decode cX5_takeRow 62 = .ok (.aload_n 0, 1) := by decide +kernel
theorem dX5_takeRow_63 : decode cX5_takeRow 63 = .ok (.getfield 9, 3) := by decide +kernel
theorem dX5_takeRow_66 : decode cX5_takeRow 66 = .ok (.aload_n 0, 1) := by decide +kernel
theorem dX5_takeRow_67 : decode cX5_takeRow 67 = .ok (.getfield 25, 3) := by decide +kernel
theorem dX5_takeRow_70 : decode cX5_takeRow 70 = .ok (.baload, 1) := by decide +kernel
theorem dX5_takeRow_71 : decode cX5_takeRow 71 = .ok (.i2l, 1) := by decide +kernel
theorem dX5_takeRow_72 : decode cX5_takeRow 72 = .ok (.lor, 1) := by decide +kernel
theorem dX5_takeRow_73 : decode cX5_takeRow 73 = .ok (.putfield 37, 3) := by decide +kernel
theorem dX5_takeRow_76 : decode cX5_takeRow 76 = .ok (.aload_n 0, 1) := by decide +kernel
theorem dX5_takeRow_77 : decode cX5_takeRow 77 = .ok (.dup, 1) := by decide +kernel
theorem dX5_takeRow_78 : decode cX5_takeRow 78 = .ok (.getfield 25, 3) := by decide +kernel
theorem dX5_takeRow_81 : decode cX5_takeRow 81 = .ok (.iconst 1, 1) := by decide +kernel
theorem dX5_takeRow_82 : decode cX5_takeRow 82 = .ok (.iadd, 1) := by decide +kernel
theorem dX5_takeRow_83 : decode cX5_takeRow 83 = .ok (.putfield 25, 3) := by decide +kernel
theorem dX5_takeRow_86 : decode cX5_takeRow 86 = .ok (.goto (-73), 3) := by decide +kernel
theorem dX5_takeRow_89 : decode cX5_takeRow 89 = .ok (.iload_n 1, 1) := by decide +kernel
theorem dX5_takeRow_90 : decode cX5_takeRow 90 = .ok (.ifCond .eq 17, 3) := by decide +kernel
theorem dX5_takeRow_93 : decode cX5_takeRow 93 = .ok (.aload_n 0, 1) := by decide +kernel
theorem dX5_takeRow_94 : decode cX5_takeRow 94 = .ok (.getfield 25, 3) := by decide +kernel
theorem dX5_takeRow_97 : decode cX5_takeRow 97 = .ok (.aload_n 0, 1) := by decide +kernel
theorem dX5_takeRow_98 : decode cX5_takeRow 98 = .ok (.getfield 34, 3) := by decide +kernel
theorem dX5_takeRow_101 : decode cX5_takeRow 101 = .ok (.isub, 1) := by decide +kernel
theorem dX5_takeRow_102 : decode cX5_takeRow 102 = .ok (.bipush 8, 2) := by decide +kernel
theorem dX5_takeRow_104 : decode cX5_takeRow 104 = .ok (.if_icmp .le 16, 3) := by decide +kernel
theorem dX5_takeRow_107 : decode cX5_takeRow 107 = .ok (.aload_n 0, 1) := by decide +kernel
theorem dX5_takeRow_108 : decode cX5_takeRow 108 = .ok (.lconst 0, 1) := by decide +kernel
theorem dX5_takeRow_109 : decode cX5_takeRow 109 = .ok (.putfield 37, 3) := by decide +kernel
theorem dX5_takeRow_112 : decode cX5_takeRow 112 = .ok (.aload_n 0, 1) := by decide +kernel
theorem dX5_takeRow_113 : decode cX5_takeRow 113 = .ok (.iconst 0, 1) := by decide +kernel
theorem dX5_takeRow_114 : decode cX5_takeRow 114 = .ok (.putfield 41, 3) := by decide +kernel
theorem dX5_takeRow_117 : decode cX5_takeRow 117 = .ok (.goto 22, 3) := by decide +kernel
theorem dX5_takeRow_120 : decode cX5_takeRow 120 = .ok (.aload_n 0, 1) := by decide +kernel
theorem dX5_takeRow_121 : decode cX5_takeRow 121 = .ok (.aload_n 0, 1) := by decide +kernel
theorem dX5_takeRow_122 : decode cX5_takeRow 122 = .ok (.getfield 37, 3) := by decide +kernel
theorem dX5_takeRow_125 : decode cX5_takeRow 125 = .ok (.invokestatic 57, 3) := by decide +kernel
theorem dX5_takeRow_128 : decode cX5_takeRow 128 = .ok (.ifCond .eq 7, 3) := by decide +kernel
theorem dX5_takeRow_131 : decode cX5_takeRow 131 = .ok (.iconst 3, 1) := by decide +kernel
theorem dX5_takeRow_132 : decode cX5_takeRow 132 = .ok (.goto 4, 3) := by decide +kernel
theorem dX5_takeRow_135 : decode cX5_takeRow 135 = .ok (.iconst 4, 1) := by decide +kernel
theorem dX5_takeRow_136 : decode cX5_takeRow 136 = .ok (.putfield 41, 3) := by decide +kernel
theorem dX5_takeRow_139 : decode cX5_takeRow 139 = .ok (.return_, 1) := by decide +kernel
theorem dX5_takeSign_0 : decode cX5_takeSign 0 = .ok (.aload_n 0, 1) := by decide +kernel
theorem dX5_takeSign_1 : decode cX5_takeSign 1 = .ok (.getfield 9, 3) := by decide +kernel
theorem dX5_takeSign_4 : decode cX5_takeSign 4 = .ok (.aload_n 0, 1) := by decide +kernel
theorem dX5_takeSign_5 : decode cX5_takeSign 5 = .ok (.getfield 25, 3) := by decide +kernel
theorem dX5_takeSign_8 : decode cX5_takeSign 8 = .ok (.baload, 1) := by decide +kernel
theorem dX5_takeSign_9 : decode cX5_takeSign 9 = .ok (.istore_n 1, 1) := by decide +kernel
theorem dX5_takeSign_10 : decode cX5_takeSign 10 = .ok (.aload_n 0, 1) := by decide +kernel
theorem dX5_takeSign_11 : decode cX5_takeSign 11 = .ok (.dup, 1) := by decide +kernel
theorem dX5_takeSign_12 : decode cX5_takeSign 12 = .ok (.getfield 25, 3) := by decide +kernel
theorem dX5_takeSign_15 : decode cX5_takeSign 15 = .ok (.iconst 1, 1) := by decide +kernel
theorem dX5_takeSign_16 : decode cX5_takeSign 16 = .ok (.iadd, 1) := by decide +kernel
theorem dX5_takeSign_17 : decode cX5_takeSign 17 = .ok (.putfield 25, 3) := by decide +kernel
theorem dX5_takeSign_20 : decode cX5_takeSign 20 = .ok (.iload_n 1, 1) := by decide +kernel
theorem dX5_takeSign_21 : decode cX5_takeSign 21 = .ok (.i2l, 1) := by decide +kernel
theorem dX5_takeSign_22 : decode cX5_takeSign 22 = .ok (.ldc2_w 61, 3) := by decide +kernel
theorem dX5_takeSign_25 : decode cX5_takeSign 25 = .ok (.lcmp, 1) := by decide +kernel
theorem dX5_takeSign_26 : decode cX5_takeSign 26 = .ok (.ifCond .eq 39, 3) := by decide +kernel
theorem dX5_takeSign_29 : decode cX5_takeSign 29 = .ok (.iload_n 1, 1) := by decide +kernel
theorem dX5_takeSign_30 : decode cX5_takeSign 30 = .ok (.i2l, 1) := by decide +kernel
theorem dX5_takeSign_31 : decode cX5_takeSign 31 = .ok (.ldc2_w 63, 3) := by decide +kernel
theorem dX5_takeSign_34 : decode cX5_takeSign 34 = .ok (.lcmp, 1) := by decide +kernel
theorem dX5_takeSign_35 : decode cX5_takeSign 35 = .ok (.ifCond .eq 30, 3) := by decide +kernel
theorem dX5_takeSign_38 : decode cX5_takeSign 38 = .ok (.iload_n 1, 1) := by decide +kernel
theorem dX5_takeSign_39 : decode cX5_takeSign 39 = .ok (.i2l, 1) := by decide +kernel
theorem dX5_takeSign_40 : decode cX5_takeSign 40 = .ok (.ldc2_w 65, 3) := by decide +kernel
theorem dX5_takeSign_43 : decode cX5_takeSign 43 = .ok (.lcmp, 1) := by decide +kernel
theorem dX5_takeSign_44 : decode cX5_takeSign 44 = .ok (.ifCond .eq 21, 3) := by decide +kernel
theorem dX5_takeSign_47 : decode cX5_takeSign 47 = .ok (.iload_n 1, 1) := by decide +kernel
theorem dX5_takeSign_48 : decode cX5_takeSign 48 = .ok (.i2l, 1) := by decide +kernel
theorem dX5_takeSign_49 : decode cX5_takeSign 49 = .ok (.ldc2_w 67, 3) := by decide +kernel
theorem dX5_takeSign_52 : decode cX5_takeSign 52 = .ok (.lcmp, 1) := by decide +kernel
theorem dX5_takeSign_53 : decode cX5_takeSign 53 = .ok (.ifCond .eq 12, 3) := by decide +kernel
theorem dX5_takeSign_56 : decode cX5_takeSign 56 = .ok (.iload_n 1, 1) := by decide +kernel
theorem dX5_takeSign_57 : decode cX5_takeSign 57 = .ok (.i2l, 1) := by decide +kernel
theorem dX5_takeSign_58 : decode cX5_takeSign 58 = .ok (.ldc2_w 69, 3) := by decide +kernel
theorem dX5_takeSign_61 : decode cX5_takeSign 61 = .ok (.lcmp, 1) := by decide +kernel
theorem dX5_takeSign_62 : decode cX5_takeSign 62 = .ok (.ifCond .ne 17, 3) := by decide +kernel
theorem dX5_takeSign_65 : decode cX5_takeSign 65 = .ok (.aload_n 0, 1) := by decide +kernel
theorem dX5_takeSign_66 : decode cX5_takeSign 66 = .ok (.iload_n 1, 1) := by decide +kernel
theorem dX5_takeSign_67 : decode cX5_takeSign 67 = .ok (.i2l, 1) := by decide +kernel
theorem dX5_takeSign_68 : decode cX5_takeSign 68 = .ok (.putfield 37, 3) := by decide +kernel
theorem dX5_takeSign_71 : decode cX5_takeSign 71 = .ok (.aload_n 0, 1) := by decide +kernel
theorem dX5_takeSign_72 : decode cX5_takeSign 72 = .ok (.iconst 2, 1) := by decide +kernel
theorem dX5_takeSign_73 : decode cX5_takeSign 73 = .ok (.putfield 41, 3) := by decide +kernel
theorem dX5_takeSign_76 : decode cX5_takeSign 76 = .ok (.goto 8, 3) := by decide +kernel
theorem dX5_takeSign_79 : decode cX5_takeSign 79 = .ok (.aload_n 0, 1) := by decide +kernel
theorem dX5_takeSign_80 : decode cX5_takeSign 80 = .ok (.iconst 0, 1) := by decide +kernel
theorem dX5_takeSign_81 : decode cX5_takeSign 81 = .ok (.putfield 41, 3) := by decide +kernel
theorem dX5_takeSign_84 : decode cX5_takeSign 84 = .ok (.return_, 1) := by decide +kernel
theorem dX5_isLetter_0 : decode cX5_isLetter 0 = .ok (.iload_n 0, 1) := by decide +kernel
theorem dX5_isLetter_1 : decode cX5_isLetter 1 = .ok (.bipush 97, 2) := by decide +kernel
theorem dX5_isLetter_3 : decode cX5_isLetter 3 = .ok (.if_icmp .lt 13, 3) := by decide +kernel
theorem dX5_isLetter_6 : decode cX5_isLetter 6 = .ok (.iload_n 0, 1) := by decide +kernel
theorem dX5_isLetter_7 : decode cX5_isLetter 7 = .ok (.bipush 122, 2) := by decide +kernel
theorem dX5_isLetter_9 : decode cX5_isLetter 9 = .ok (.if_icmp .gt 7, 3) := by decide +kernel
theorem dX5_isLetter_12 : decode cX5_isLetter 12 = .ok (.iconst 1, 1) := by decide +kernel
theorem dX5_isLetter_13 : decode cX5_isLetter 13 = .ok (.goto 4, 3) := by decide +kernel
theorem dX5_isLetter_16 : decode cX5_isLetter 16 = .ok (.iconst 0, 1) := by decide +kernel
theorem dX5_isLetter_17 : decode cX5_isLetter 17 = .ok (.ireturn, 1) := by decide +kernel
theorem dX5_isDigit_0 : decode cX5_isDigit 0 = .ok (.iload_n 0, 1) := by decide +kernel
theorem dX5_isDigit_1 : decode cX5_isDigit 1 = .ok (.bipush 48, 2) := by decide +kernel
theorem dX5_isDigit_3 : decode cX5_isDigit 3 = .ok (.if_icmp .lt 13, 3) := by decide +kernel
theorem dX5_isDigit_6 : decode cX5_isDigit 6 = .ok (.iload_n 0, 1) := by decide +kernel
theorem dX5_isDigit_7 : decode cX5_isDigit 7 = .ok (.bipush 57, 2) := by decide +kernel
theorem dX5_isDigit_9 : decode cX5_isDigit 9 = .ok (.if_icmp .gt 7, 3) := by decide +kernel
theorem dX5_isDigit_12 : decode cX5_isDigit 12 = .ok (.iconst 1, 1) := by decide +kernel
theorem dX5_isDigit_13 : decode cX5_isDigit 13 = .ok (.goto 4, 3) := by decide +kernel
theorem dX5_isDigit_16 : decode cX5_isDigit 16 = .ok (.iconst 0, 1) := by decide +kernel
theorem dX5_isDigit_17 : decode cX5_isDigit 17 = .ok (.ireturn, 1) := by decide +kernel
theorem dX5_isKeyword_0 : decode cX5_isKeyword 0 = .ok (.lload_n 0, 1) := by decide +kernel
theorem dX5_isKeyword_1 : decode cX5_isKeyword 1 = .ok (.ldc2_w 71, 3) := by decide +kernel
theorem dX5_isKeyword_4 : decode cX5_isKeyword 4 = .ok (.lcmp, 1) := by decide +kernel
theorem dX5_isKeyword_5 : decode cX5_isKeyword 5 = .ok (.ifCond .eq 75, 3) := by decide +kernel
theorem dX5_isKeyword_8 : decode cX5_isKeyword 8 = .ok (.lload_n 0, 1) := by decide +kernel
theorem dX5_isKeyword_9 : decode cX5_isKeyword 9 = .ok (.ldc2_w 73, 3) := by decide +kernel
theorem dX5_isKeyword_12 : decode cX5_isKeyword 12 = .ok (.lcmp, 1) := by decide +kernel
theorem dX5_isKeyword_13 : decode cX5_isKeyword 13 = .ok (.ifCond .eq 67, 3) := by decide +kernel
theorem dX5_isKeyword_16 : decode cX5_isKeyword 16 = .ok (.lload_n 0, 1) := by decide +kernel
theorem dX5_isKeyword_17 : decode cX5_isKeyword 17 = .ok (.ldc2_w 75, 3) := by decide +kernel
theorem dX5_isKeyword_20 : decode cX5_isKeyword 20 = .ok (.lcmp, 1) := by decide +kernel
theorem dX5_isKeyword_21 : decode cX5_isKeyword 21 = .ok (.ifCond .eq 59, 3) := by decide +kernel
theorem dX5_isKeyword_24 : decode cX5_isKeyword 24 = .ok (.lload_n 0, 1) := by decide +kernel
theorem dX5_isKeyword_25 : decode cX5_isKeyword 25 = .ok (.ldc2_w 77, 3) := by decide +kernel
theorem dX5_isKeyword_28 : decode cX5_isKeyword 28 = .ok (.lcmp, 1) := by decide +kernel
theorem dX5_isKeyword_29 : decode cX5_isKeyword 29 = .ok (.ifCond .eq 51, 3) := by decide +kernel
theorem dX5_isKeyword_32 : decode cX5_isKeyword 32 = .ok (.lload_n 0, 1) := by decide +kernel
theorem dX5_isKeyword_33 : decode cX5_isKeyword 33 = .ok (.ldc2_w 79, 3) := by decide +kernel
theorem dX5_isKeyword_36 : decode cX5_isKeyword 36 = .ok (.lcmp, 1) := by decide +kernel
theorem dX5_isKeyword_37 : decode cX5_isKeyword 37 = .ok (.ifCond .eq 43, 3) := by decide +kernel
theorem dX5_isKeyword_40 : decode cX5_isKeyword 40 = .ok (.lload_n 0, 1) := by decide +kernel
theorem dX5_isKeyword_41 : decode cX5_isKeyword 41 = .ok (.ldc2_w 81, 3) := by decide +kernel
theorem dX5_isKeyword_44 : decode cX5_isKeyword 44 = .ok (.lcmp, 1) := by decide +kernel
theorem dX5_isKeyword_45 : decode cX5_isKeyword 45 = .ok (.ifCond .eq 35, 3) := by decide +kernel
theorem dX5_isKeyword_48 : decode cX5_isKeyword 48 = .ok (.lload_n 0, 1) := by decide +kernel
theorem dX5_isKeyword_49 : decode cX5_isKeyword 49 = .ok (.ldc2_w 83, 3) := by decide +kernel
theorem dX5_isKeyword_52 : decode cX5_isKeyword 52 = .ok (.lcmp, 1) := by decide +kernel
theorem dX5_isKeyword_53 : decode cX5_isKeyword 53 = .ok (.ifCond .eq 27, 3) := by decide +kernel
theorem dX5_isKeyword_56 : decode cX5_isKeyword 56 = .ok (.lload_n 0, 1) := by decide +kernel
theorem dX5_isKeyword_57 : decode cX5_isKeyword 57 = .ok (.ldc2_w 85, 3) := by decide +kernel
theorem dX5_isKeyword_60 : decode cX5_isKeyword 60 = .ok (.lcmp, 1) := by decide +kernel
theorem dX5_isKeyword_61 : decode cX5_isKeyword 61 = .ok (.ifCond .eq 19, 3) := by decide +kernel
theorem dX5_isKeyword_64 : decode cX5_isKeyword 64 = .ok (.lload_n 0, 1) := by decide +kernel
theorem dX5_isKeyword_65 : decode cX5_isKeyword 65 = .ok (.ldc2_w 87, 3) := by decide +kernel
theorem dX5_isKeyword_68 : decode cX5_isKeyword 68 = .ok (.lcmp, 1) := by decide +kernel
theorem dX5_isKeyword_69 : decode cX5_isKeyword 69 = .ok (.ifCond .eq 11, 3) := by decide +kernel
theorem dX5_isKeyword_72 : decode cX5_isKeyword 72 = .ok (.lload_n 0, 1) := by decide +kernel
theorem dX5_isKeyword_73 : decode cX5_isKeyword 73 = .ok (.ldc2_w 89, 3) := by decide +kernel
theorem dX5_isKeyword_76 : decode cX5_isKeyword 76 = .ok (.lcmp, 1) := by decide +kernel
theorem dX5_isKeyword_77 : decode cX5_isKeyword 77 = .ok (.ifCond .ne 7, 3) := by decide +kernel
theorem dX5_isKeyword_80 : decode cX5_isKeyword 80 = .ok (.iconst 1, 1) := by decide +kernel
theorem dX5_isKeyword_81 : decode cX5_isKeyword 81 = .ok (.goto 4, 3) := by decide +kernel
theorem dX5_isKeyword_84 : decode cX5_isKeyword 84 = .ok (.iconst 0, 1) := by decide +kernel
theorem dX5_isKeyword_85 : decode cX5_isKeyword 85 = .ok (.ireturn, 1) := by decide +kernel
set_option maxRecDepth 20000 in
theorem ggX5_beginsConcept_X5_holdsConcept : GoodIn wsX5_beginsConcept wsX5_holdsConcept := goodIn_r _ [9, 2, 10, 11, 12, 13, 14, 15, 16, 17, 18, 19] (by decide +kernel) (by decide +kernel)
set_option maxRecDepth 20000 in
theorem gX5_beginsConcept_X5_holdsConcept : GoodIn wsX5_beginsConcept (wsV RX5 91 RX5 yX5_holdsConcept wsX5_holdsConcept) := goodIn_app (goodIn_of _ (by decide +kernel)) ggX5_beginsConcept_X5_holdsConcept
theorem dX5_beginsConcept_0 : decode cX5_beginsConcept 0 = .ok (.aload_n 0, 1) := by decide +kernel
theorem dX5_beginsConcept_1 : decode cX5_beginsConcept 1 = .ok (.getfield 41, 3) := by decide +kernel
theorem dX5_beginsConcept_4 : decode cX5_beginsConcept 4 = .ok (.iconst 4, 1) := by decide +kernel
theorem dX5_beginsConcept_5 : decode cX5_beginsConcept 5 = .ok (.if_icmp .eq 32, 3) := by decide +kernel
theorem dX5_beginsConcept_8 : decode cX5_beginsConcept 8 = .ok (.aload_n 0, 1) := by decide +kernel
