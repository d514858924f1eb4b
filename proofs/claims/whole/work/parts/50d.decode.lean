theorem dX0_init_0 : decode cX0_init 0 = .ok (.aload_n 0, 1) := by decide +kernel
theorem dX0_init_1 : decode cX0_init 1 = .ok (.invokespecial 3, 3) := by decide +kernel
theorem dX0_init_4 : decode cX0_init 4 = .ok (.aload_n 0, 1) := by decide +kernel
theorem dX0_init_5 : decode cX0_init 5 = .ok (.new 9, 3) := by decide +kernel
theorem dX0_init_8 : decode cX0_init 8 = .ok (.dup, 1) := by decide +kernel
theorem dX0_init_9 : decode cX0_init 9 = .ok (.invokespecial 11, 3) := by decide +kernel
theorem dX0_init_12 : decode cX0_init 12 = .ok (.putfield 12, 3) := by decide +kernel
theorem dX0_init_15 : decode cX0_init 15 = .ok (.aload_n 0, 1) := by decide +kernel
theorem dX0_init_16 : decode cX0_init 16 = .ok (.iconst 5, 1) := by decide +kernel
theorem dX0_init_17 : decode cX0_init 17 = .ok (.newarray .long, 2) := by decide +kernel
theorem dX0_init_19 : decode cX0_init 19 = .ok (.putfield 18, 3) := by decide +kernel
theorem dX0_init_22 : decode cX0_init 22 = .ok (.aload_n 0, 1) := by decide +kernel
theorem dX0_init_23 : decode cX0_init 23 = .ok (.iconst 3, 1) := by decide +kernel
theorem dX0_init_24 : decode cX0_init 24 = .ok (.newarray .long, 2) := by decide +kernel
theorem dX0_init_26 : decode cX0_init 26 = .ok (.putfield 22, 3) := by decide +kernel
theorem dX0_init_29 : decode cX0_init 29 = .ok (.aload_n 0, 1) := by decide +kernel
theorem dX0_init_30 : decode cX0_init 30 = .ok (.sipush 246, 3) := by decide +kernel
theorem dX0_init_33 : decode cX0_init 33 = .ok (.newarray .int, 2) := by decide +kernel
theorem dX0_init_35 : decode cX0_init 35 = .ok (.putfield 25, 3) := by decide +kernel
theorem dX0_init_38 : decode cX0_init 38 = .ok (.aload_n 0, 1) := by decide +kernel
theorem dX0_init_39 : decode cX0_init 39 = .ok (.bipush 12, 2) := by decide +kernel
theorem dX0_init_41 : decode cX0_init 41 = .ok (.newarray .int, 2) := by decide +kernel
theorem dX0_init_43 : decode cX0_init 43 = .ok (.putfield 29, 3) := by decide +kernel
theorem dX0_init_46 : decode cX0_init 46 = .ok (.aload_n 0, 1) := by decide +kernel
theorem dX0_init_47 : decode cX0_init 47 = .ok (.bipush 12, 2) := by decide +kernel
theorem dX0_init_49 : decode cX0_init 49 = .ok (.newarray .int, 2) := by decide +kernel
theorem dX0_init_51 : decode cX0_init 51 = .ok (.putfield 32, 3) := by decide +kernel
theorem dX0_init_54 : decode cX0_init 54 = .ok (.aload_n 0, 1) := by decide +kernel
theorem dX0_init_55 : decode cX0_init 55 = .ok (.iconst 3, 1) := by decide +kernel
theorem dX0_init_56 : decode cX0_init 56 = .ok (.newarray .int, 2) := by decide +kernel
theorem dX0_init_58 : decode cX0_init 58 = .ok (.putfield 35, 3) := by decide +kernel
theorem dX0_init_61 : decode cX0_init 61 = .ok (.return_, 1) := by decide +kernel
theorem dX0_clear_0 : decode cX0_clear 0 = .ok (.aload_n 0, 1) := by decide +kernel
theorem dX0_clear_1 : decode cX0_clear 1 = .ok (.getfield 12, 3) := by decide +kernel
theorem dX0_clear_4 : decode cX0_clear 4 = .ok (.invokevirtual 38, 3) := by decide +kernel
theorem dX0_clear_7 : decode cX0_clear 7 = .ok (.aload_n 0, 1) := by decide +kernel
theorem dX0_clear_8 : decode cX0_clear 8 = .ok (.iconst 0, 1) := by decide +kernel
theorem dX0_clear_9 : decode cX0_clear 9 = .ok (.putfield 41, 3) := by decide +kernel
theorem dX0_clear_12 : decode cX0_clear 12 = .ok (.aload_n 0, 1) := by decide +kernel
theorem dX0_clear_13 : decode cX0_clear 13 = .ok (.iconst 0, 1) := by decide +kernel
theorem dX0_clear_14 : decode cX0_clear 14 = .ok (.putfield 45, 3) := by decide +kernel
theorem dX0_clear_17 : decode cX0_clear 17 = .ok (.aload_n 0, 1) := by decide +kernel
theorem dX0_clear_18 : decode cX0_clear 18 = .ok (.iconst 0, 1) := by decide +kernel
theorem dX0_clear_19 : decode cX0_clear 19 = .ok (.putfield 48, 3) := by decide +kernel
theorem dX0_clear_22 : decode cX0_clear 22 = .ok (.aload_n 0, 1) := by decide +kernel
theorem dX0_clear_23 : decode cX0_clear 23 = .ok (.iconst 0, 1) := by decide +kernel
theorem dX0_clear_24 : decode cX0_clear 24 = .ok (.putfield 51, 3) := by decide +kernel
theorem dX0_clear_27 : decode cX0_clear 27 = .ok (.aload_n 0, 1) := by decide +kernel
theorem dX0_clear_28 : decode cX0_clear 28 = .ok (.iconst 0, 1) := by decide +kernel
theorem dX0_clear_29 : decode cX0_clear 29 = .ok (.putfield 54, 3) := by decide +kernel
theorem dX0_clear_32 : decode cX0_clear 32 = .ok (.aload_n 0, 1) := by decide +kernel
theorem dX0_clear_33 : decode cX0_clear 33 = .ok (.iconst 0, 1) := by decide +kernel
theorem dX0_clear_34 : decode cX0_clear 34 = .ok (.putfield 57, 3) := by decide +kernel
theorem dX0_clear_37 : decode cX0_clear 37 = .ok (.iconst 0, 1) := by decide +kernel
theorem dX0_clear_38 : decode cX0_clear 38 = .ok (.istore_n 1, 1) := by decide +kernel
theorem dX0_clear_39 : decode cX0_clear 39 = .ok (.iload_n 1, 1) := by decide +kernel
theorem dX0_clear_40 : decode cX0_clear 40 = .ok (.iconst 3, 1) := by decide +kernel
theorem dX0_clear_41 : decode cX0_clear 41 = .ok (.if_icmp .ge 16, 3) := by decide +kernel
theorem dX0_clear_44 : decode cX0_clear 44 = .ok (.aload_n 0, 1) := by decide +kernel
theorem dX0_clear_45 : decode cX0_clear 45 = .ok (.getfield 35, 3) := by decide +kernel
theorem dX0_clear_48 : decode cX0_clear 48 = .ok (.iload_n 1, 1) := by decide +kernel
theorem dX0_clear_49 : decode cX0_clear 49 = .ok (.iconst 0, 1) := by decide +kernel
theorem dX0_clear_50 : decode cX0_clear 50 = .ok (.iastore, 1) := by decide +kernel
theorem dX0_clear_51 : decode cX0_clear 51 = .ok (.iinc 1 1, 3) := by decide +kernel
theorem dX0_clear_54 : decode cX0_clear 54 = .ok (.goto (-15), 3) := by decide +kernel
theorem dX0_clear_57 : decode cX0_clear 57 = .ok (.aload_n 0, 1) := by decide +kernel
theorem dX0_clear_58 : decode cX0_clear 58 = .ok (.iconst 0, 1) := by decide +kernel
theorem dX0_clear_59 : decode cX0_clear 59 = .ok (.putfield 60, 3) := by decide +kernel
theorem dX0_clear_62 : decode cX0_clear 62 = .ok (.aload_n 0, 1) := by decide +kernel
theorem dX0_clear_63 : decode cX0_clear 63 = .ok (.iconst 0, 1) := by decide +kernel
theorem dX0_clear_64 : decode cX0_clear 64 = .ok (.putfield 63, 3) := by decide +kernel
theorem dX0_clear_67 : decode cX0_clear 67 = .ok (.return_, 1) := by decide +kernel
theorem dX0_findName_0 : decode cX0_findName 0 = .ok (.aload_n 0, 1) := by decide +kernel
theorem dX0_findName_1 : decode cX0_findName 1 = .ok (.getfield 18, 3) := by decide +kernel
theorem dX0_findName_4 : decode cX0_findName 4 = .ok (.aload_n 0, 1) := by decide +kernel
theorem dX0_findName_5 : decode cX0_findName 5 = .ok (.getfield 45, 3) := by decide +kernel
theorem dX0_findName_8 : decode cX0_findName 8 = .ok (.lload_n 1, 1) := by decide +kernel
theorem dX0_findName_9 : decode cX0_findName 9 = .ok (.invokestatic 66, 3) := by decide +kernel
theorem dX0_findName_12 : decode cX0_findName 12 = .ok (.ireturn, 1) := by decide +kernel
theorem dX0_findRole_0 : decode cX0_findRole 0 = .ok (.aload_n 0, 1) := by decide +kernel
theorem dX0_findRole_1 : decode cX0_findRole 1 = .ok (.getfield 22, 3) := by decide +kernel
theorem dX0_findRole_4 : decode cX0_findRole 4 = .ok (.aload_n 0, 1) := by decide +kernel
theorem dX0_findRole_5 : decode cX0_findRole 5 = .ok (.getfield 48, 3) := by decide +kernel
theorem dX0_findRole_8 : decode cX0_findRole 8 = .ok (.lload_n 1, 1) := by decide +kernel
theorem dX0_findRole_9 : decode cX0_findRole 9 = .ok (.invokestatic 66, 3) := by decide +kernel
theorem dX0_findRole_12 : decode cX0_findRole 12 = .ok (.ireturn, 1) := by decide +kernel
theorem dX0_find_0 : decode cX0_find 0 = .ok (.iconst 0, 1) := by decide +kernel
theorem dX0_find_1 : decode cX0_find 1 = .ok (.istore 4, 2) := by decide +kernel
theorem dX0_find_3 : decode cX0_find 3 = .ok (.iload 4, 2) := by decide +kernel
theorem dX0_find_5 : decode cX0_find 5 = .ok (.iload_n 1, 1) := by decide +kernel
theorem dX0_find_6 : decode cX0_find 6 = .ok (.if_icmp .ge 28, 3) := by decide +kernel
theorem dX0_find_9 : decode cX0_find 9 = .ok (.iload 4, 2) := by decide +kernel
theorem dX0_find_11 : decode cX0_find 11 = .ok (.aload_n 0, 1) := by decide +kernel
theorem dX0_find_12 : decode cX0_find 12 = .ok (.arraylength, 1) := by decide +kernel
theorem dX0_find_13 : decode cX0_find 13 = .ok (.if_icmp .ge 21, 3) := by decide +kernel
theorem dX0_find_16 : decode cX0_find 16 = .ok (.aload_n 0, 1) := by decide +kernel
theorem dX0_find_17 : decode cX0_find 17 = .ok (.iload 4, 2) := by decide +kernel
theorem dX0_find_19 : decode cX0_find 19 = .ok (.laload, 1) := by decide +kernel
theorem dX0_find_20 : decode cX0_find 20 = .ok (.lload_n 2, 1) := by decide +kernel
theorem dX0_find_21 : decode cX0_find 21 = .ok (.lcmp, 1) := by decide +kernel
theorem dX0_find_22 : decode cX0_find 22 = .ok (.ifCond .ne 6, 3) := by decide +kernel
theorem dX0_find_25 : decode cX0_find 25 = .ok (.iload 4, 2) := by decide +kernel
theorem dX0_find_27 : decode cX0_find 27 = .ok (.ireturn, 1) := by decide +kernel
theorem dX0_find_28 : decode cX0_find 28 = .ok (.iinc 4 1, 3) := by decide +kernel
theorem dX0_find_31 : decode cX0_find 31 = .ok (.goto (-28), 3) := by decide +kernel
theorem dX0_find_34 : decode cX0_find 34 = .ok (.iconst (-1), 1) := by decide +kernel
theorem dX0_find_35 : decode cX0_find 35 = .ok (.ireturn, 1) := by decide +kernel
theorem dX0_addName_0 : decode cX0_addName 0 = .ok (.aload_n 0, 1) := by decide +kernel
theorem dX0_addName_1 : decode cX0_addName 1 = .ok (.getfield 45, 3) := by decide +kernel
theorem dX0_addName_4 : decode cX0_addName 4 = .ok (.iconst 5, 1) := by decide +kernel
theorem dX0_addName_5 : decode cX0_addName 5 = .ok (.if_icmp .lt 5, 3) := by decide +kernel
theorem dX0_addName_8 : decode cX0_addName 8 = .ok (.iconst (-1), 1) := by decide +kernel
theorem dX0_addName_9 : decode cX0_addName 9 = .ok (.ireturn, 1) := by decide +kernel
theorem dX0_addName_10 : decode cX0_addName 10 = .ok (.aload_n 0, 1) := by decide +kernel
theorem dX0_addName_11 : decode cX0_addName 11 = .ok (.getfield 18, 3) := by decide +kernel
theorem dX0_addName_14 : decode cX0_addName 14 = .ok (.aload_n 0, 1) := by decide +kernel
theorem dX0_addName_15 : decode cX0_addName 15 = .ok (.getfield 45, 3) := by decide +kernel
theorem dX0_addName_18 : decode cX0_addName 18 = .ok (.lload_n 1, 1) := by decide +kernel
theorem dX0_addName_19 : decode cX0_addName 19 = .ok (.lastore, 1) := by decide +kernel
theorem dX0_addName_20 : decode cX0_addName 20 = .ok (.aload_n 0, 1) := by decide +kernel
theorem dX0_addName_21 : decode cX0_addName 21 = .ok (.dup, 1) := by decide +kernel
theorem dX0_addName_22 : decode cX0_addName 22 = .ok (.getfield 45, 3) := by decide +kernel
theorem dX0_addName_25 : decode cX0_addName 25 = .ok (.iconst 1, 1) := by decide +kernel
theorem dX0_addName_26 : decode cX0_addName 26 = .ok (.iadd, 1) := by decide +kernel
theorem dX0_addName_27 : decode cX0_addName 27 = .ok (.putfield 45, 3) := by decide +kernel
theorem dX0_addName_30 : decode cX0_addName 30 = .ok (.aload_n 0, 1) := by decide +kernel
theorem dX0_addName_31 : decode cX0_addName 31 = .ok (.getfield 45, 3) := by decide +kernel
theorem dX0_addName_34 : decode cX0_addName 34 = .ok (.iconst 1, 1) := by decide +kernel
theorem dX0_addName_35 : decode cX0_addName 35 = .ok (.isub, 1) := by decide +kernel
theorem dX0_addName_36 : decode cX0_addName 36 = .ok (.ireturn, 1) := by decide +kernel
theorem dX0_addRole_0 : decode cX0_addRole 0 = .ok (.aload_n 0, 1) := by decide +kernel
theorem dX0_addRole_1 : decode cX0_addRole 1 = .ok (.getfield 48, 3) := by decide +kernel
theorem dX0_addRole_4 : decode cX0_addRole 4 = .ok (.iconst 3, 1) := by decide +kernel
theorem dX0_addRole_5 : decode cX0_addRole 5 = .ok (.if_icmp .lt 5, 3) := by decide +kernel
theorem dX0_addRole_8 : decode cX0_addRole 8 = .ok (.iconst (-1), 1) := by decide +kernel
theorem dX0_addRole_9 : decode cX0_addRole 9 = .ok (.ireturn, 1) := by decide +kernel
theorem dX0_addRole_10 : decode cX0_addRole 10 = .ok (.aload_n 0, 1) := by decide +kernel
theorem dX0_addRole_11 : decode cX0_addRole 11 = .ok (.getfield 22, 3) := by decide +kernel
theorem dX0_addRole_14 : decode cX0_addRole 14 = .ok (.aload_n 0, 1) := by decide +kernel
theorem dX0_addRole_15 : decode cX0_addRole 15 = .ok (.getfield 48, 3) := by decide +kernel
theorem dX0_addRole_18 : decode cX0_addRole 18 = .ok (.lload_n 1, 1) := by decide +kernel
theorem dX0_addRole_19 : decode cX0_addRole 19 = .ok (.lastore, 1) := by decide +kernel
theorem dX0_addRole_20 : decode cX0_addRole 20 = .ok (.aload_n 0, 1) := by decide +kernel
theorem dX0_addRole_21 : decode cX0_addRole 21 = .ok (.dup, 1) := by decide +kernel
theorem dX0_addRole_22 : decode cX0_addRole 22 = .ok (.getfield 48, 3) := by decide +kernel
theorem dX0_addRole_25 : decode cX0_addRole 25 = .ok (.iconst 1, 1) := by decide +kernel
theorem dX0_addRole_26 : decode cX0_addRole 26 = .ok (.iadd, 1) := by decide +kernel
theorem dX0_addRole_27 : decode cX0_addRole 27 = .ok (.putfield 48, 3) := by decide +kernel
theorem dX0_addRole_30 : decode cX0_addRole 30 = .ok (.aload_n 0, 1) := by decide +kernel
theorem dX0_addRole_31 : decode cX0_addRole 31 = .ok (.getfield 48, 3) := by decide +kernel
theorem dX0_addRole_34 : decode cX0_addRole 34 = .ok (.iconst 1, 1) := by decide +kernel
theorem dX0_addRole_35 : decode cX0_addRole 35 = .ok (.isub, 1) := by decide +kernel
theorem dX0_addRole_36 : decode cX0_addRole 36 = .ok (.ireturn, 1) := by decide +kernel
theorem dX0_addRule_0 : decode cX0_addRule 0 = .ok (.aload_n 0, 1) := by decide +kernel
theorem dX0_addRule_1 : decode cX0_addRule 1 = .ok (.getfield 54, 3) := by decide +kernel
theorem dX0_addRule_4 : decode cX0_addRule 4 = .ok (.bipush 12, 2) := by decide +kernel
theorem dX0_addRule_6 : decode cX0_addRule 6 = .ok (.if_icmp .ge 29, 3) := by decide +kernel
theorem dX0_addRule_9 : decode cX0_addRule 9 = .ok (.aload_n 0, 1) := by decide +kernel
theorem dX0_addRule_10 : decode cX0_addRule 10 = .ok (.getfield 29, 3) := by decide +kernel
theorem dX0_addRule_13 : decode cX0_addRule 13 = .ok (.aload_n 0, 1) := by decide +kernel
theorem dX0_addRule_14 : decode cX0_addRule 14 = .ok (.getfield 54, 3) := by decide +kernel
theorem dX0_addRule_17 : decode cX0_addRule 17 = .ok (.aload_n 0, 1) := by decide +kernel
theorem dX0_addRule_18 : decode cX0_addRule 18 = .ok (.iload_n 1, 1) := by decide +kernel
theorem dX0_addRule_19 : decode cX0_addRule 19 = .ok (.iload_n 2, 1) := by decide +kernel
theorem dX0_addRule_20 : decode cX0_addRule 20 = .ok (.iload_n 3, 1) := by decide +kernel
theorem dX0_addRule_21 : decode cX0_addRule 21 = .ok (.invokevirtual 70, 3) := by decide +kernel
theorem dX0_addRule_24 : decode cX0_addRule 24 = .ok (.iastore, 1) := by decide +kernel
theorem dX0_addRule_25 : decode cX0_addRule 25 = .ok (.aload_n 0, 1) := by decide +kernel
theorem dX0_addRule_26 : decode cX0_addRule 26 = .ok (.dup, 1) := by decide +kernel
theorem dX0_addRule_27 : decode cX0_addRule 27 = .ok (.getfield 54, 3) := by decide +kernel
theorem dX0_addRule_30 : decode cX0_addRule 30 = .ok (.iconst 1, 1) := by decide +kernel
theorem dX0_addRule_31 : decode cX0_addRule 31 = .ok (.iadd, 1) := by decide +kernel
theorem dX0_addRule_32 : decode cX0_addRule 32 = .ok (.putfield 54, 3) := by decide +kernel
theorem dX0_addRule_35 : decode cX0_addRule 35 = .ok (.return_, 1) := by decide +kernel
theorem dX0_addQuestion_0 : decode cX0_addQuestion 0 = .ok (.aload_n 0, 1) := by decide +kernel
theorem dX0_addQuestion_1 : decode cX0_addQuestion 1 = .ok (.getfield 57, 3) := by decide +kernel
theorem dX0_addQuestion_4 : decode cX0_addQuestion 4 = .ok (.bipush 12, 2) := by decide +kernel
theorem dX0_addQuestion_6 : decode cX0_addQuestion 6 = .ok (.if_icmp .ge 31, 3) := by decide +kernel
theorem dX0_addQuestion_9 : decode cX0_addQuestion 9 = .ok (.aload_n 0, 1) := by decide +kernel
theorem dX0_addQuestion_10 : decode cX0_addQuestion 10 = .ok (.getfield 32, 3) := by decide +kernel
theorem dX0_addQuestion_13 : decode cX0_addQuestion 13 = .ok (.aload_n 0, 1) := by decide +kernel
theorem dX0_addQuestion_14 : decode cX0_addQuestion 14 = .ok (.getfield 57, 3) := by decide +kernel
theorem dX0_addQuestion_17 : decode cX0_addQuestion 17 = .ok (.iload_n 1, 1) := by decide +kernel
theorem dX0_addQuestion_18 : decode cX0_addQuestion 18 = .ok (.iastore, 1) := by decide +kernel
theorem dX0_addQuestion_19 : decode cX0_addQuestion 19 = .ok (.aload_n 0, 1) := by decide +kernel
theorem dX0_addQuestion_20 : decode cX0_addQuestion 20 = .ok (.dup, 1) := by decide +kernel
theorem dX0_addQuestion_21 : decode cX0_addQuestion 21 = .ok (.getfield 57, 3) := by decide +kernel
theorem dX0_addQuestion_24 : decode cX0_addQuestion 24 = .ok (.iconst 1, 1) := by decide +kernel
theorem dX0_addQuestion_25 : decode cX0_addQuestion 25 = .ok (.iadd, 1) := by decide +kernel
theorem dX0_addQuestion_26 : decode cX0_addQuestion 26 = .ok (.putfield 57, 3) := by decide +kernel
theorem dX0_addQuestion_29 : decode cX0_addQuestion 29 = .ok (.aload_n 0, 1) := by decide +kernel
theorem dX0_addQuestion_30 : decode cX0_addQuestion 30 = .ok (.iconst 2, 1) := by decide +kernel
theorem dX0_addQuestion_31 : decode cX0_addQuestion 31 = .ok (.iload_n 1, 1) := by decide +kernel
theorem dX0_addQuestion_32 : decode cX0_addQuestion 32 = .ok (.iconst 0, 1) := by decide +kernel
theorem dX0_addQuestion_33 : decode cX0_addQuestion 33 = .ok (.invokevirtual 70, 3) := by decide +kernel
theorem dX0_addQuestion_36 : decode cX0_addQuestion 36 = .ok (.pop, 1) := by decide +kernel
theorem dX0_addQuestion_37 : decode cX0_addQuestion 37 = .ok (.return_, 1) := by decide +kernel
theorem dX0_addOrder_0 : decode cX0_addOrder 0 = .ok (.aload_n 0, 1) := by decide +kernel
theorem dX0_addOrder_1 : decode cX0_addOrder 1 = .ok (.iconst 3, 1) := by decide +kernel
theorem dX0_addOrder_2 : decode cX0_addOrder 2 = .ok (.iload_n 1, 1) := by decide +kernel
theorem dX0_addOrder_3 : decode cX0_addOrder 3 = .ok (.iload_n 2, 1) := by decide +kernel
theorem dX0_addOrder_4 : decode cX0_addOrder 4 = .ok (.invokevirtual 70, 3) := by decide +kernel
theorem dX0_addOrder_7 : decode cX0_addOrder 7 = .ok (.pop, 1) := by decide +kernel
theorem dX0_addOrder_8 : decode cX0_addOrder 8 = .ok (.aload_n 0, 1) := by decide +kernel
theorem dX0_addOrder_9 : decode cX0_addOrder 9 = .ok (.dup, 1) := by decide +kernel
theorem dX0_addOrder_10 : decode cX0_addOrder 10 = .ok (.getfield 63, 3) := by decide +kernel
theorem dX0_addOrder_13 : decode cX0_addOrder 13 = .ok (.iconst 1, 1) := by decide +kernel
theorem dX0_addOrder_14 : decode cX0_addOrder 14 = .ok (.iload_n 1, 1) := by decide +kernel
theorem dX0_addOrder_15 : decode cX0_addOrder 15 = .ok (.ishl, 1) := by decide +kernel
theorem dX0_addOrder_16 : decode cX0_addOrder 16 = .ok (.iconst 1, 1) := by decide +kernel
theorem dX0_addOrder_17 : decode cX0_addOrder 17 = .ok (.iload_n 2, 1) := by decide +kernel
theorem dX0_addOrder_18 : decode cX0_addOrder 18 = .ok (.ishl, 1) := by decide +kernel
theorem dX0_addOrder_19 : decode cX0_addOrder 19 = .ok (.ior, 1) := by decide +kernel
theorem dX0_addOrder_20 : decode cX0_addOrder 20 = .ok (.ior, 1) := by decide +kernel
theorem dX0_addOrder_21 : decode cX0_addOrder 21 = .ok (.putfield 63, 3) := by decide +kernel
theorem dX0_addOrder_24 : decode cX0_addOrder 24 = .ok (.iconst 1, 1) := by decide +kernel
theorem dX0_addOrder_25 : decode cX0_addOrder 25 = .ok (.iload_n 2, 1) := by decide +kernel
theorem dX0_addOrder_26 : decode cX0_addOrder 26 = .ok (.ishl, 1) := by decide +kernel
theorem dX0_addOrder_27 : decode cX0_addOrder 27 = .ok (.aload_n 0, 1) := by decide +kernel
theorem dX0_addOrder_28 : decode cX0_addOrder 28 = .ok (.iload_n 2, 1) := by decide +kernel
theorem dX0_addOrder_29 : decode cX0_addOrder 29 = .ok (.invokevirtual 74, 3) := by decide +kernel
theorem dX0_addOrder_32 : decode cX0_addOrder 32 = .ok (.ior, 1) := by decide +kernel
theorem dX0_addOrder_33 : decode cX0_addOrder 33 = .ok (.istore_n 3, 1) := by decide +kernel
theorem dX0_addOrder_34 : decode cX0_addOrder 34 = .ok (.iconst 0, 1) := by decide +kernel
theorem dX0_addOrder_35 : decode cX0_addOrder 35 = .ok (.istore 4, 2) := by decide +kernel
theorem dX0_addOrder_37 : decode cX0_addOrder 37 = .ok (.iload 4, 2) := by decide +kernel
theorem dX0_addOrder_39 : decode cX0_addOrder 39 = .ok (.iconst 3, 1) := by decide +kernel
theorem dX0_addOrder_40 : decode cX0_addOrder 40 = .ok (.if_icmp .ge 36, 3) := by decide +kernel
theorem dX0_addOrder_43 : decode cX0_addOrder 43 = .ok (.iload 4, 2) := by decide +kernel
theorem dX0_addOrder_45 : decode cX0_addOrder 45 = .ok (.iload_n 1, 1) := by decide +kernel
theorem dX0_addOrder_46 : decode cX0_addOrder 46 = .ok (.if_icmp .eq 13, 3) := by decide +kernel
theorem dX0_addOrder_49 : decode cX0_addOrder 49 = .ok (.aload_n 0, 1) := by decide +kernel
theorem dX0_addOrder_50 : decode cX0_addOrder 50 = .ok (.iload 4, 2) := by decide +kernel
theorem dX0_addOrder_52 : decode cX0_addOrder 52 = .ok (.iload_n 1, 1) := by decide +kernel
theorem dX0_addOrder_53 : decode cX0_addOrder 53 = .ok (.invokevirtual 78, 3) := by decide +kernel
theorem dX0_addOrder_56 : decode cX0_addOrder 56 = .ok (.ifCond .eq 14, 3) := by decide +kernel
theorem dX0_addOrder_59 : decode cX0_addOrder 59 = .ok (.aload_n 0, 1) := by decide +kernel
theorem dX0_addOrder_60 : decode cX0_addOrder 60 = .ok (.getfield 35, 3) := by decide +kernel
theorem dX0_addOrder_63 : decode cX0_addOrder 63 = .ok (.iload 4, 2) := by decide +kernel
theorem dX0_addOrder_65 : decode cX0_addOrder 65 = .ok (.dup2, 1) := by decide +kernel
theorem dX0_addOrder_66 : decode cX0_addOrder 66 = .ok (.iaload, 1) := by decide +kernel
theorem dX0_addOrder_67 : decode cX0_addOrder 67 = .ok (.iload_n 3, 1) := by decide +kernel
theorem dX0_addOrder_68 : decode cX0_addOrder 68 = .ok (.ior, 1) := by decide +kernel
theorem dX0_addOrder_69 : decode cX0_addOrder 69 = .ok (.iastore, 1) := by decide +kernel
theorem dX0_addOrder_70 : decode cX0_addOrder 70 = .ok (.iinc 4 1, 3) := by decide +kernel
theorem dX0_addOrder_73 : decode cX0_addOrder 73 = .ok (.goto (-36), 3) := by decide +kernel
theorem dX0_addOrder_76 : decode cX0_addOrder 76 = .ok (.return_, 1) := by decide +kernel
theorem dX0_addSingle_0 : decode cX0_addSingle 0 = .ok (.aload_n 0, 1) := by decide +kernel
theorem dX0_addSingle_1 : decode cX0_addSingle 1 = .ok (.iconst 4, 1) := by decide +kernel
theorem dX0_addSingle_2 : decode cX0_addSingle 2 = .ok (.iload_n 1, 1) := by decide +kernel
theorem dX0_addSingle_3 : decode cX0_addSingle 3 = .ok (.iconst 0, 1) := by decide +kernel
theorem dX0_addSingle_4 : decode cX0_addSingle 4 = .ok (.invokevirtual 70, 3) := by decide +kernel
theorem dX0_addSingle_7 : decode cX0_addSingle 7 = .ok (.pop, 1) := by decide +kernel
theorem dX0_addSingle_8 : decode cX0_addSingle 8 = .ok (.aload_n 0, 1) := by decide +kernel
theorem dX0_addSingle_9 : decode cX0_addSingle 9 = .ok (.dup, 1) := by decide +kernel
theorem dX0_addSingle_10 : decode cX0_addSingle 10 = .ok (.getfield 60, 3) := by decide +kernel
theorem dX0_addSingle_13 : decode cX0_addSingle 13 = .ok (.iconst 1, 1) := by decide +kernel
theorem dX0_addSingle_14 : decode cX0_addSingle 14 = .ok (.iload_n 1, 1) := by decide +kernel
theorem dX0_addSingle_15 : decode cX0_addSingle 15 = .ok (.ishl, 1) := by decide +kernel
theorem dX0_addSingle_16 : decode cX0_addSingle 16 = .ok (.ior, 1) := by decide +kernel
theorem dX0_addSingle_17 : decode cX0_addSingle 17 = .ok (.putfield 60, 3) := by decide +kernel
theorem dX0_addSingle_20 : decode cX0_addSingle 20 = .ok (.return_, 1) := by decide +kernel
theorem dX0_addStatement_0 : decode cX0_addStatement 0 = .ok (.iload_n 1, 1) := by decide +kernel
theorem dX0_addStatement_1 : decode cX0_addStatement 1 = .ok (.iload_n 2, 1) := by decide +kernel
theorem dX0_addStatement_2 : decode cX0_addStatement 2 = .ok (.bipush 8, 2) := by decide +kernel
theorem dX0_addStatement_4 : decode cX0_addStatement 4 = .ok (.ishl, 1) := by decide +kernel
theorem dX0_addStatement_5 : decode cX0_addStatement 5 = .ok (.ior, 1) := by decide +kernel
theorem dX0_addStatement_6 : decode cX0_addStatement 6 = .ok (.iload_n 3, 1) := by decide +kernel
theorem dX0_addStatement_7 : decode cX0_addStatement 7 = .ok (.bipush 16, 2) := by decide +kernel
theorem dX0_addStatement_9 : decode cX0_addStatement 9 = .ok (.ishl, 1) := by decide +kernel
theorem dX0_addStatement_10 : decode cX0_addStatement 10 = .ok (.ior, 1) := by decide +kernel
theorem dX0_addStatement_11 : decode cX0_addStatement 11 = .ok (.istore 4, 2) := by decide +kernel
theorem dX0_addStatement_13 : decode cX0_addStatement 13 = .ok (.aload_n 0, 1) := by decide +kernel
theorem dX0_addStatement_14 : decode cX0_addStatement 14 = .ok (.getfield 51, 3) := by decide +kernel
theorem dX0_addStatement_17 : decode cX0_addStatement 17 = .ok (.sipush 246, 3) := by decide +kernel
theorem dX0_addStatement_20 : decode cX0_addStatement 20 = .ok (.if_icmp .ge 24, 3) := by decide +kernel
theorem dX0_addStatement_23 : decode cX0_addStatement 23 = .ok (.aload_n 0, 1) := by decide +kernel
theorem dX0_addStatement_24 : decode cX0_addStatement 24 = .ok (.getfield 25, 3) := by decide +kernel
theorem dX0_addStatement_27 : decode cX0_addStatement 27 = .ok (.aload_n 0, 1) := by decide +kernel
theorem dX0_addStatement_28 : decode cX0_addStatement 28 = .ok (.getfield 51, 3) := by decide +kernel
theorem dX0_addStatement_31 : decode cX0_addStatement 31 = .ok (.iload 4, 2) := by decide +kernel
theorem dX0_addStatement_33 : decode cX0_addStatement 33 = .ok (.iastore, 1) := by decide +kernel
theorem dX0_addStatement_34 : decode cX0_addStatement 34 = .ok (.aload_n 0, 1) := by decide +kernel
theorem dX0_addStatement_35 : decode cX0_addStatement 35 = .ok (.dup, 1) := by decide +kernel
theorem dX0_addStatement_36 : decode cX0_addStatement 36 = .ok (.getfield 51, 3) := by decide +kernel
theorem dX0_addStatement_39 : decode cX0_addStatement 39 = .ok (.iconst 1, 1) := by decide +kernel
theorem dX0_addStatement_40 : decode cX0_addStatement 40 = .ok (.iadd, 1) := by decide +kernel
theorem dX0_addStatement_41 : decode cX0_addStatement 41 = .ok (.putfield 51, 3) := by decide +kernel
theorem dX0_addStatement_44 : decode cX0_addStatement 44 = .ok (.iload 4, 2) := by decide +kernel
theorem dX0_addStatement_46 : decode cX0_addStatement 46 = .ok (.ireturn, 1) := by decide +kernel
theorem dX0_statement_0 : decode cX0_statement 0 = .ok (.iload_n 1, 1) := by decide +kernel
theorem dX0_statement_1 : decode cX0_statement 1 = .ok (.ifCond .lt 20, 3) := by decide +kernel
theorem dX0_statement_4 : decode cX0_statement 4 = .ok (.iload_n 1, 1) := by decide +kernel
theorem dX0_statement_5 : decode cX0_statement 5 = .ok (.aload_n 0, 1) := by decide +kernel
theorem dX0_statement_6 : decode cX0_statement 6 = .ok (.getfield 51, 3) := by decide +kernel
theorem dX0_statement_9 : decode cX0_statement 9 = .ok (.if_icmp .ge 12, 3) := by decide +kernel
theorem dX0_statement_12 : decode cX0_statement 12 = .ok (.aload_n 0, 1) := by decide +kernel
theorem dX0_statement_13 : decode cX0_statement 13 = .ok (.getfield 25, 3) := by decide +kernel
theorem dX0_statement_16 : decode cX0_statement 16 = .ok (.iload_n 1, 1) := by decide +kernel
theorem dX0_statement_17 : decode cX0_statement 17 = .ok (.iaload, 1) := by decide +kernel
theorem dX0_statement_18 : decode cX0_statement 18 = .ok (.goto 4, 3) := by decide +kernel
theorem dX0_statement_21 : decode cX0_statement 21 = .ok (.iconst (-1), 1) := by decide +kernel
theorem dX0_statement_22 : decode cX0_statement 22 = .ok (.ireturn, 1) := by decide +kernel
theorem dX0_ruleStatement_0 : decode cX0_ruleStatement 0 = .ok (.iload_n 1, 1) := by decide +kernel
theorem dX0_ruleStatement_1 : decode cX0_ruleStatement 1 = .ok (.ifCond .lt 20, 3) := by decide +kernel
theorem dX0_ruleStatement_4 : decode cX0_ruleStatement 4 = .ok (.iload_n 1, 1) := by decide +kernel
theorem dX0_ruleStatement_5 : decode cX0_ruleStatement 5 = .ok (.aload_n 0, 1) := by decide +kernel
theorem dX0_ruleStatement_6 : decode cX0_ruleStatement 6 = .ok (.getfield 54, 3) := by decide +kernel
theorem dX0_ruleStatement_9 : decode cX0_ruleStatement 9 = .ok (.if_icmp .ge 12, 3) := by decide +kernel
theorem dX0_ruleStatement_12 : decode cX0_ruleStatement 12 = .ok (.aload_n 0, 1) := by decide +kernel
theorem dX0_ruleStatement_13 : decode cX0_ruleStatement 13 = .ok (.getfield 29, 3) := by decide +kernel
theorem dX0_ruleStatement_16 : decode cX0_ruleStatement 16 = .ok (.iload_n 1, 1) := by decide +kernel
theorem dX0_ruleStatement_17 : decode cX0_ruleStatement 17 = .ok (.iaload, 1) := by decide +kernel
theorem dX0_ruleStatement_18 : decode cX0_ruleStatement 18 = .ok (.goto 4, 3) := by decide +kernel
theorem dX0_ruleStatement_21 : decode cX0_ruleStatement 21 = .ok (.iconst (-1), 1) := by decide +kernel
theorem dX0_ruleStatement_22 : decode cX0_ruleStatement 22 = .ok (.ireturn, 1) := by decide +kernel
theorem dX0_sortOf_0 : decode cX0_sortOf 0 = .ok (.iload_n 0, 1) := by decide +kernel
theorem dX0_sortOf_1 : decode cX0_sortOf 1 = .ok (.sipush 255, 3) := by decide +kernel
theorem dX0_sortOf_4 : decode cX0_sortOf 4 = .ok (.iand, 1) := by decide +kernel
theorem dX0_sortOf_5 : decode cX0_sortOf 5 = .ok (.ireturn, 1) := by decide +kernel
theorem dX0_leftOf_0 : decode cX0_leftOf 0 = .ok (.iload_n 0, 1) := by decide +kernel
theorem dX0_leftOf_1 : decode cX0_leftOf 1 = .ok (.bipush 8, 2) := by decide +kernel
theorem dX0_leftOf_3 : decode cX0_leftOf 3 = .ok (.ishr, 1) := by decide +kernel
theorem dX0_leftOf_4 : decode cX0_leftOf 4 = .ok (.sipush 255, 3) := by decide +kernel
theorem dX0_leftOf_7 : decode cX0_leftOf 7 = .ok (.iand, 1) := by decide +kernel
theorem dX0_leftOf_8 : decode cX0_leftOf 8 = .ok (.ireturn, 1) := by decide +kernel
theorem dX0_rightOf_0 : decode cX0_rightOf 0 = .ok (.iload_n 0, 1) := by decide +kernel
theorem dX0_rightOf_1 : decode cX0_rightOf 1 = .ok (.bipush 16, 2) := by decide +kernel
theorem dX0_rightOf_3 : decode cX0_rightOf 3 = .ok (.ishr, 1) := by decide +kernel
theorem dX0_rightOf_4 : decode cX0_rightOf 4 = .ok (.sipush 255, 3) := by decide +kernel
theorem dX0_rightOf_7 : decode cX0_rightOf 7 = .ok (.iand, 1) := by decide +kernel
theorem dX0_rightOf_8 : decode cX0_rightOf 8 = .ok (.ireturn, 1) := by decide +kernel
theorem dX0_question_0 : decode cX0_question 0 = .ok (.iload_n 1, 1) := by decide +kernel
theorem dX0_question_1 : decode cX0_question 1 = .ok (.ifCond .lt 20, 3) := by decide +kernel
theorem dX0_question_4 : decode cX0_question 4 = .ok (.iload_n 1, 1) := by decide +kernel
theorem dX0_question_5 : decode cX0_question 5 = .ok (.aload_n 0, 1) := by decide +kernel
theorem dX0_question_6 : decode cX0_question 6 = .ok (.getfield 57, 3) := by decide +kernel
theorem dX0_question_9 : decode cX0_question 9 = .ok (.if_icmp .ge 12, 3) := by decide +kernel
theorem dX0_question_12 : decode cX0_question 12 = .ok (.aload_n 0, 1) := by decide +kernel
theorem dX0_question_13 : decode cX0_question 13 = .ok (.getfield 32, 3) := by decide +kernel
theorem dX0_question_16 : decode cX0_question 16 = .ok (.iload_n 1, 1) := by decide +kernel
theorem dX0_question_17 : decode cX0_question 17 = .ok (.iaload, 1) := by decide +kernel
theorem dX0_question_18 : decode cX0_question 18 = .ok (.goto 4, 3) := by decide +kernel
theorem dX0_question_21 : decode cX0_question 21 = .ok (.iconst (-1), 1) := by decide +kernel
theorem dX0_question_22 : decode cX0_question 22 = .ok (.ireturn, 1) := by decide +kernel
theorem dX0_nameWord_0 : decode cX0_nameWord 0 = .ok (.iload_n 1, 1) := by decide +kernel
theorem dX0_nameWord_1 : decode cX0_nameWord 1 = .ok (.ifCond .lt 20, 3) := by decide +kernel
theorem dX0_nameWord_4 : decode cX0_nameWord 4 = .ok (.iload_n 1, 1) := by decide +kernel
theorem dX0_nameWord_5 : decode cX0_nameWord 5 = .ok (.aload_n 0, 1) := by decide +kernel
theorem dX0_nameWord_6 : decode cX0_nameWord 6 = .ok (.getfield 45, 3) := by decide +kernel
theorem dX0_nameWord_9 : decode cX0_nameWord 9 = .ok (.if_icmp .ge 12, 3) := by decide +kernel
theorem dX0_nameWord_12 : decode cX0_nameWord 12 = .ok (.aload_n 0, 1) := by decide +kernel
theorem dX0_nameWord_13 : decode cX0_nameWord 13 = .ok (.getfield 18, 3) := by decide +kernel
theorem dX0_nameWord_16 : decode cX0_nameWord 16 = .ok (.iload_n 1, 1) := by decide +kernel
theorem dX0_nameWord_17 : decode cX0_nameWord 17 = .ok (.laload, 1) := by decide +kernel
theorem dX0_nameWord_18 : decode cX0_nameWord 18 = .ok (.goto 4, 3) := by decide +kernel
theorem dX0_nameWord_21 : decode cX0_nameWord 21 = .ok (.lconst 0, 1) := by decide +kernel
theorem dX0_nameWord_22 : decode cX0_nameWord 22 = .ok (.lreturn, 1) := by decide +kernel
theorem dX0_roleWord_0 : decode cX0_roleWord 0 = .ok (.iload_n 1, 1) := by decide +kernel
theorem dX0_roleWord_1 : decode cX0_roleWord 1 = .ok (.ifCond .lt 20, 3) := by decide +kernel
theorem dX0_roleWord_4 : decode cX0_roleWord 4 = .ok (.iload_n 1, 1) := by decide +kernel
theorem dX0_roleWord_5 : decode cX0_roleWord 5 = .ok (.aload_n 0, 1) := by decide +kernel
theorem dX0_roleWord_6 : decode cX0_roleWord 6 = .ok (.getfield 48, 3) := by decide +kernel
theorem dX0_roleWord_9 : decode cX0_roleWord 9 = .ok (.if_icmp .ge 12, 3) := by decide +kernel
theorem dX0_roleWord_12 : decode cX0_roleWord 12 = .ok (.aload_n 0, 1) := by decide +kernel
theorem dX0_roleWord_13 : decode cX0_roleWord 13 = .ok (.getfield 22, 3) := by decide +kernel
theorem dX0_roleWord_16 : decode cX0_roleWord 16 = .ok (.iload_n 1, 1) := by decide +kernel
theorem dX0_roleWord_17 : decode cX0_roleWord 17 = .ok (.laload, 1) := by decide +kernel
theorem dX0_roleWord_18 : decode cX0_roleWord 18 = .ok (.goto 4, 3) := by decide +kernel
theorem dX0_roleWord_21 : decode cX0_roleWord 21 = .ok (.lconst 0, 1) := by decide +kernel
theorem dX0_roleWord_22 : decode cX0_roleWord 22 = .ok (.lreturn, 1) := by decide +kernel
theorem dX0_rolesAbove_0 : decode cX0_rolesAbove 0 = .ok (.iload_n 1, 1) := by decide +kernel
theorem dX0_rolesAbove_1 : decode cX0_rolesAbove 1 = .ok (.ifCond .lt 17, 3) := by decide +kernel
theorem dX0_rolesAbove_4 : decode cX0_rolesAbove 4 = .ok (.iload_n 1, 1) := by decide +kernel
theorem dX0_rolesAbove_5 : decode cX0_rolesAbove 5 = .ok (.iconst 3, 1) := by decide +kernel
theorem dX0_rolesAbove_6 : decode cX0_rolesAbove 6 = .ok (.if_icmp .ge 12, 3) := by decide +kernel
theorem dX0_rolesAbove_9 : decode cX0_rolesAbove 9 = .ok (.aload_n 0, 1) := by decide +kernel
theorem dX0_rolesAbove_10 : decode cX0_rolesAbove 10 = .ok (.getfield 35, 3) := by decide +kernel
theorem dX0_rolesAbove_13 : decode cX0_rolesAbove 13 = .ok (.iload_n 1, 1) := by decide +kernel
theorem dX0_rolesAbove_14 : decode cX0_rolesAbove 14 = .ok (.iaload, 1) := by decide +kernel
theorem dX0_rolesAbove_15 : decode cX0_rolesAbove 15 = .ok (.goto 4, 3) := by decide +kernel
theorem dX0_rolesAbove_18 : decode cX0_rolesAbove 18 = .ok (.iconst 0, 1) := by decide +kernel
theorem dX0_rolesAbove_19 : decode cX0_rolesAbove 19 = .ok (.ireturn, 1) := by decide +kernel
theorem dX0_isRoleUnder_0 : decode cX0_isRoleUnder 0 = .ok (.aload_n 0, 1) := by decide +kernel
theorem dX0_isRoleUnder_1 : decode cX0_isRoleUnder 1 = .ok (.iload_n 1, 1) := by decide +kernel
theorem dX0_isRoleUnder_2 : decode cX0_isRoleUnder 2 = .ok (.invokevirtual 74, 3) := by decide +kernel
theorem dX0_isRoleUnder_5 : decode cX0_isRoleUnder 5 = .ok (.iload_n 2, 1) := by decide +kernel
theorem dX0_isRoleUnder_6 : decode cX0_isRoleUnder 6 = .ok (.ishr, 1) := by decide +kernel
theorem dX0_isRoleUnder_7 : decode cX0_isRoleUnder 7 = .ok (.iconst 1, 1) := by decide +kernel
theorem dX0_isRoleUnder_8 : decode cX0_isRoleUnder 8 = .ok (.iand, 1) := by decide +kernel
theorem dX0_isRoleUnder_9 : decode cX0_isRoleUnder 9 = .ok (.iconst 1, 1) := by decide +kernel
theorem dX0_isRoleUnder_10 : decode cX0_isRoleUnder 10 = .ok (.if_icmp .ne 7, 3) := by decide +kernel
theorem dX0_isRoleUnder_13 : decode cX0_isRoleUnder 13 = .ok (.iconst 1, 1) := by decide +kernel
theorem dX0_isRoleUnder_14 : decode cX0_isRoleUnder 14 = .ok (.goto 4, 3) := by decide +kernel
theorem dX0_isRoleUnder_17 : decode cX0_isRoleUnder 17 = .ok (.iconst 0, 1) := by decide +kernel
theorem dX0_isRoleUnder_18 : decode cX0_isRoleUnder 18 = .ok (.ireturn, 1) := by decide +kernel
theorem dX0_isSingle_0 : decode cX0_isSingle 0 = .ok (.aload_n 0, 1) := by decide +kernel
theorem dX0_isSingle_1 : decode cX0_isSingle 1 = .ok (.getfield 60, 3) := by decide +kernel
theorem dX0_isSingle_4 : decode cX0_isSingle 4 = .ok (.iload_n 1, 1) := by decide +kernel
theorem dX0_isSingle_5 : decode cX0_isSingle 5 = .ok (.ishr, 1) := by decide +kernel
theorem dX0_isSingle_6 : decode cX0_isSingle 6 = .ok (.iconst 1, 1) := by decide +kernel
theorem dX0_isSingle_7 : decode cX0_isSingle 7 = .ok (.iand, 1) := by decide +kernel
theorem dX0_isSingle_8 : decode cX0_isSingle 8 = .ok (.iconst 1, 1) := by decide +kernel
theorem dX0_isSingle_9 : decode cX0_isSingle 9 = .ok (.if_icmp .ne 7, 3) := by decide +kernel
theorem dX0_isSingle_12 : decode cX0_isSingle 12 = .ok (.iconst 1, 1) := by decide +kernel
theorem dX0_isSingle_13 : decode cX0_isSingle 13 = .ok (.goto 4, 3) := by decide +kernel
theorem dX0_isSingle_16 : decode cX0_isSingle 16 = .ok (.iconst 0, 1) := by decide +kernel
theorem dX0_isSingle_17 : decode cX0_isSingle 17 = .ok (.ireturn, 1) := by decide +kernel
theorem dX0_isOrdered_0 : decode cX0_isOrdered 0 = .ok (.aload_n 0, 1) := by decide +kernel
theorem dX0_isOrdered_1 : decode cX0_isOrdered 1 = .ok (.getfield 63, 3) := by decide +kernel
theorem dX0_isOrdered_4 : decode cX0_isOrdered 4 = .ok (.iload_n 1, 1) := by decide +kernel
theorem dX0_isOrdered_5 : decode cX0_isOrdered 5 = .ok (.ishr, 1) := by decide +kernel
theorem dX0_isOrdered_6 : decode cX0_isOrdered 6 = .ok (.iconst 1, 1) := by decide +kernel
theorem dX0_isOrdered_7 : decode cX0_isOrdered 7 = .ok (.iand, 1) := by decide +kernel
theorem dX0_isOrdered_8 : decode cX0_isOrdered 8 = .ok (.iconst 1, 1) := by decide +kernel
theorem dX0_isOrdered_9 : decode cX0_isOrdered 9 = .ok (.if_icmp .ne 7, 3) := by decide +kernel
theorem dX0_isOrdered_12 : decode cX0_isOrdered 12 = .ok (.iconst 1, 1) := by decide +kernel
theorem dX0_isOrdered_13 : decode cX0_isOrdered 13 = .ok (.goto 4, 3) := by decide +kernel
theorem dX0_isOrdered_16 : decode cX0_isOrdered 16 = .ok (.iconst 0, 1) := by decide +kernel
theorem dX0_isOrdered_17 : decode cX0_isOrdered 17 = .ok (.ireturn, 1) := by decide +kernel
theorem dX1_init_0 : decode cX1_init 0 = .ok (.aload_n 0, 1) := by decide +kernel
theorem dX1_init_1 : decode cX1_init 1 = .ok (.invokespecial 3, 3) := by decide +kernel
theorem dX1_init_4 : decode cX1_init 4 = .ok (.aload_n 0, 1) := by decide +kernel
theorem dX1_init_5 : decode cX1_init 5 = .ok (.sipush 200, 3) := by decide +kernel
theorem dX1_init_8 : decode cX1_init 8 = .ok (.newarray .int, 2) := by decide +kernel
theorem dX1_init_10 : decode cX1_init 10 = .ok (.putfield 9, 3) := by decide +kernel
theorem dX1_init_13 : decode cX1_init 13 = .ok (.aload_n 0, 1) := by decide +kernel
theorem dX1_init_14 : decode cX1_init 14 = .ok (.sipush 200, 3) := by decide +kernel
theorem dX1_init_17 : decode cX1_init 17 = .ok (.newarray .int, 2) := by decide +kernel
theorem dX1_init_19 : decode cX1_init 19 = .ok (.putfield 15, 3) := by decide +kernel
theorem dX1_init_22 : decode cX1_init 22 = .ok (.aload_n 0, 1) := by decide +kernel
theorem dX1_init_23 : decode cX1_init 23 = .ok (.sipush 200, 3) := by decide +kernel
theorem dX1_init_26 : decode cX1_init 26 = .ok (.newarray .int, 2) := by decide +kernel
theorem dX1_init_28 : decode cX1_init 28 = .ok (.putfield 18, 3) := by decide +kernel
theorem dX1_init_31 : decode cX1_init 31 = .ok (.aload_n 0, 1) := by decide +kernel
theorem dX1_init_32 : decode cX1_init 32 = .ok (.sipush 200, 3) := by decide +kernel
theorem dX1_init_35 : decode cX1_init 35 = .ok (.newarray .int, 2) := by decide +kernel
theorem dX1_init_37 : decode cX1_init 37 = .ok (.putfield 21, 3) := by decide +kernel
theorem dX1_init_40 : decode cX1_init 40 = .ok (.aload_n 0, 1) := by decide +kernel
theorem dX1_init_41 : decode cX1_init 41 = .ok (.bipush 9, 2) := by decide +kernel
theorem dX1_init_43 : decode cX1_init 43 = .ok (.newarray .int, 2) := by decide +kernel
theorem dX1_init_45 : decode cX1_init 45 = .ok (.putfield 24, 3) := by decide +kernel
theorem dX1_init_48 : decode cX1_init 48 = .ok (.aload_n 0, 1) := by decide +kernel
theorem dX1_init_49 : decode cX1_init 49 = .ok (.bipush 9, 2) := by decide +kernel
theorem dX1_init_51 : decode cX1_init 51 = .ok (.newarray .int, 2) := by decide +kernel
theorem dX1_init_53 : decode cX1_init 53 = .ok (.putfield 27, 3) := by decide +kernel
theorem dX1_init_56 : decode cX1_init 56 = .ok (.aload_n 0, 1) := by decide +kernel
theorem dX1_init_57 : decode cX1_init 57 = .ok (.bipush 9, 2) := by decide +kernel
theorem dX1_init_59 : decode cX1_init 59 = .ok (.newarray .int, 2) := by decide +kernel
theorem dX1_init_61 : decode cX1_init 61 = .ok (.putfield 30, 3) := by decide +kernel
theorem dX1_init_64 : decode cX1_init 64 = .ok (.aload_n 0, 1) := by decide +kernel
theorem dX1_init_65 : decode cX1_init 65 = .ok (.bipush 9, 2) := by decide +kernel
theorem dX1_init_67 : decode cX1_init 67 = .ok (.newarray .int, 2) := by decide +kernel
theorem dX1_init_69 : decode cX1_init 69 = .ok (.putfield 33, 3) := by decide +kernel
theorem dX1_init_72 : decode cX1_init 72 = .ok (.return_, 1) := by decide +kernel
theorem dX1_clear_0 : decode cX1_clear 0 = .ok (.aload_n 0, 1) := by decide +kernel
theorem dX1_clear_1 : decode cX1_clear 1 = .ok (.iconst 0, 1) := by decide +kernel
theorem dX1_clear_2 : decode cX1_clear 2 = .ok (.putfield 36, 3) := by decide +kernel
theorem dX1_clear_5 : decode cX1_clear 5 = .ok (.aload_n 0, 1) := by decide +kernel
theorem dX1_clear_6 : decode cX1_clear 6 = .ok (.iconst 0, 1) := by decide +kernel
theorem dX1_clear_7 : decode cX1_clear 7 = .ok (.putfield 40, 3) := by decide +kernel
theorem dX1_clear_10 : decode cX1_clear 10 = .ok (.return_, 1) := by decide +kernel
theorem dX1_make_0 : decode cX1_make 0 = .ok (.aload_n 0, 1) := by decide +kernel
theorem dX1_make_1 : decode cX1_make 1 = .ok (.iload_n 1, 1) := by decide +kernel
theorem dX1_make_2 : decode cX1_make 2 = .ok (.iload_n 2, 1) := by decide +kernel
theorem dX1_make_3 : decode cX1_make 3 = .ok (.iload_n 3, 1) := by decide +kernel
theorem dX1_make_4 : decode cX1_make 4 = .ok (.invokevirtual 43, 3) := by decide +kernel
theorem dX1_make_7 : decode cX1_make 7 = .ok (.istore 4, 2) := by decide +kernel
theorem dX1_make_9 : decode cX1_make 9 = .ok (.iload 4, 2) := by decide +kernel
theorem dX1_make_11 : decode cX1_make 11 = .ok (.iconst (-1), 1) := by decide +kernel
theorem dX1_make_12 : decode cX1_make 12 = .ok (.if_icmp .ne 13, 3) := by decide +kernel
theorem dX1_make_15 : decode cX1_make 15 = .ok (.aload_n 0, 1) := by decide +kernel
theorem dX1_make_16 : decode cX1_make 16 = .ok (.getfield 36, 3) := by decide +kernel
theorem dX1_make_19 : decode cX1_make 19 = .ok (.sipush 200, 3) := by decide +kernel
theorem dX1_make_22 : decode cX1_make 22 = .ok (.if_icmp .lt 6, 3) := by decide +kernel
theorem dX1_make_25 : decode cX1_make 25 = .ok (.iload 4, 2) := by decide +kernel
theorem dX1_make_27 : decode cX1_make 27 = .ok (.ireturn, 1) := by decide +kernel
theorem dX1_make_28 : decode cX1_make 28 = .ok (.iconst (-1), 1) := by decide +kernel
theorem dX1_make_29 : decode cX1_make 29 = .ok (.istore 5, 2) := by decide +kernel
theorem dX1_make_31 : decode cX1_make 31 = .ok (.iload_n 1, 1) := by decide +kernel
theorem dX1_make_32 : decode cX1_make 32 = .ok (.ifCond .ne 16, 3) := by decide +kernel
theorem dX1_make_35 : decode cX1_make 35 = .ok (.aload_n 0, 1) := by decide +kernel
theorem dX1_make_36 : decode cX1_make 36 = .ok (.iconst (-1), 1) := by decide +kernel
theorem dX1_make_37 : decode cX1_make 37 = .ok (.iload_n 2, 1) := by decide +kernel
theorem dX1_make_38 : decode cX1_make 38 = .ok (.iconst (-1), 1) := by decide +kernel
theorem dX1_make_39 : decode cX1_make 39 = .ok (.iconst 0, 1) := by decide +kernel
theorem dX1_make_40 : decode cX1_make 40 = .ok (.invokevirtual 47, 3) := by decide +kernel
theorem dX1_make_43 : decode cX1_make 43 = .ok (.istore 5, 2) := by decide +kernel
theorem dX1_make_45 : decode cX1_make 45 = .ok (.goto 69, 3) := by decide +kernel
theorem dX1_make_48 : decode cX1_make 48 = .ok (.iload_n 1, 1) := by decide +kernel
theorem dX1_make_49 : decode cX1_make 49 = .ok (.iconst 4, 1) := by decide +kernel
theorem dX1_make_50 : decode cX1_make 50 = .ok (.if_icmp .ne 15, 3) := by decide +kernel
theorem dX1_make_53 : decode cX1_make 53 = .ok (.aload_n 0, 1) := by decide +kernel
theorem dX1_make_54 : decode cX1_make 54 = .ok (.iload_n 3, 1) := by decide +kernel
theorem dX1_make_55 : decode cX1_make 55 = .ok (.iload_n 2, 1) := by decide +kernel
theorem dX1_make_56 : decode cX1_make 56 = .ok (.iconst 0, 1) := by decide +kernel
theorem dX1_make_57 : decode cX1_make 57 = .ok (.invokevirtual 51, 3) := by decide +kernel
theorem dX1_make_60 : decode cX1_make 60 = .ok (.istore 5, 2) := by decide +kernel
theorem dX1_make_62 : decode cX1_make 62 = .ok (.goto 52, 3) := by decide +kernel
theorem dX1_make_65 : decode cX1_make 65 = .ok (.iload_n 1, 1) := by decide +kernel
theorem dX1_make_66 : decode cX1_make 66 = .ok (.iconst 5, 1) := by decide +kernel
theorem dX1_make_67 : decode cX1_make 67 = .ok (.if_icmp .ne 47, 3) := by decide +kernel
theorem dX1_make_70 : decode cX1_make 70 = .ok (.aload_n 0, 1) := by decide +kernel
theorem dX1_make_71 : decode cX1_make 71 = .ok (.iload_n 2, 1) := by decide +kernel
theorem dX1_make_72 : decode cX1_make 72 = .ok (.invokevirtual 54, 3) := by decide +kernel
theorem dX1_make_75 : decode cX1_make 75 = .ok (.iconst 3, 1) := by decide +kernel
theorem dX1_make_76 : decode cX1_make 76 = .ok (.if_icmp .ne 7, 3) := by decide +kernel
theorem dX1_make_79 : decode cX1_make 79 = .ok (.iconst 1, 1) := by decide +kernel
theorem dX1_make_80 : decode cX1_make 80 = .ok (.goto 4, 3) := by decide +kernel
theorem dX1_make_83 : decode cX1_make 83 = .ok (.iconst 0, 1) := by decide +kernel
theorem dX1_make_84 : decode cX1_make 84 = .ok (.istore 6, 2) := by decide +kernel
theorem dX1_make_86 : decode cX1_make 86 = .ok (.iload 6, 2) := by decide +kernel
theorem dX1_make_88 : decode cX1_make 88 = .ok (.ifCond .eq 17, 3) := by decide +kernel
theorem dX1_make_91 : decode cX1_make 91 = .ok (.aload_n 0, 1) := by decide +kernel
theorem dX1_make_92 : decode cX1_make 92 = .ok (.iload_n 3, 1) := by decide +kernel
theorem dX1_make_93 : decode cX1_make 93 = .ok (.aload_n 0, 1) := by decide +kernel
theorem dX1_make_94 : decode cX1_make 94 = .ok (.iload_n 2, 1) := by decide +kernel
theorem dX1_make_95 : decode cX1_make 95 = .ok (.invokevirtual 58, 3) := by decide +kernel
theorem dX1_make_98 : decode cX1_make 98 = .ok (.iconst 0, 1) := by decide +kernel
theorem dX1_make_99 : decode cX1_make 99 = .ok (.invokevirtual 51, 3) := by decide +kernel
theorem dX1_make_102 : decode cX1_make 102 = .ok (.goto 10, 3) := by decide +kernel
theorem dX1_make_105 : decode cX1_make 105 = .ok (.aload_n 0, 1) := by decide +kernel
theorem dX1_make_106 : decode cX1_make 106 = .ok (.iload_n 3, 1) := by decide +kernel
theorem dX1_make_107 : decode cX1_make 107 = .ok (.iload_n 2, 1) := by decide +kernel
theorem dX1_make_108 : decode cX1_make 108 = .ok (.iconst 1, 1) := by decide +kernel
theorem dX1_make_109 : decode cX1_make 109 = .ok (.invokevirtual 51, 3) := by decide +kernel
theorem dX1_make_112 : decode cX1_make 112 = .ok (.istore 5, 2) := by decide +kernel
theorem dX1_make_114 : decode cX1_make 114 = .ok (.iload 5, 2) := by decide +kernel
theorem dX1_make_116 : decode cX1_make 116 = .ok (.iconst (-1), 1) := by decide +kernel
theorem dX1_make_117 : decode cX1_make 117 = .ok (.if_icmp .ne 19, 3) := by decide +kernel
theorem dX1_make_120 : decode cX1_make 120 = .ok (.iload_n 1, 1) := by decide +kernel
theorem dX1_make_121 : decode cX1_make 121 = .ok (.ifCond .eq 13, 3) := by decide +kernel
theorem dX1_make_124 : decode cX1_make 124 = .ok (.iload_n 1, 1) := by decide +kernel
theorem dX1_make_125 : decode cX1_make 125 = .ok (.iconst 4, 1) := by decide +kernel
theorem dX1_make_126 : decode cX1_make 126 = .ok (.if_icmp .eq 8, 3) := by decide +kernel
theorem dX1_make_129 : decode cX1_make 129 = .ok (.iload_n 1, 1) := by decide +kernel
theorem dX1_make_130 : decode cX1_make 130 = .ok (.iconst 5, 1) := by decide +kernel
theorem dX1_make_131 : decode cX1_make 131 = .ok (.if_icmp .ne 5, 3) := by decide +kernel
theorem dX1_make_134 : decode cX1_make 134 = .ok (.iconst (-1), 1) := by decide +kernel
theorem dX1_make_135 : decode cX1_make 135 = .ok (.ireturn, 1) := by decide +kernel
theorem dX1_make_136 : decode cX1_make 136 = .ok (.aload_n 0, 1) := by decide +kernel
theorem dX1_make_137 : decode cX1_make 137 = .ok (.getfield 9, 3) := by decide +kernel
theorem dX1_make_140 : decode cX1_make 140 = .ok (.aload_n 0, 1) := by decide +kernel
theorem dX1_make_141 : decode cX1_make 141 = .ok (.getfield 36, 3) := by decide +kernel
theorem dX1_make_144 : decode cX1_make 144 = .ok (.iload_n 1, 1) := by decide +kernel
theorem dX1_make_145 : decode cX1_make 145 = .ok (.iastore, 1) := by decide +kernel
theorem dX1_make_146 : decode cX1_make 146 = .ok (.aload_n 0, 1) := by decide +kernel
theorem dX1_make_147 : decode cX1_make 147 = .ok (.getfield 15, 3) := by decide +kernel
theorem dX1_make_150 : decode cX1_make 150 = .ok (.aload_n 0, 1) := by decide +kernel
theorem dX1_make_151 : decode cX1_make 151 = .ok (.getfield 36, 3) := by decide +kernel
theorem dX1_make_154 : decode cX1_make 154 = .ok (.iload_n 2, 1) := by decide +kernel
theorem dX1_make_155 : decode cX1_make 155 = .ok (.iastore, 1) := by decide +kernel
theorem dX1_make_156 : decode cX1_make 156 = .ok (.aload_n 0, 1) := by decide +kernel
theorem dX1_make_157 : decode cX1_make 157 = .ok (.getfield 18, 3) := by decide +kernel
theorem dX1_make_160 : decode cX1_make 160 = .ok (.aload_n 0, 1) := by decide +kernel
theorem dX1_make_161 : decode cX1_make 161 = .ok (.getfield 36, 3) := by decide +kernel
theorem dX1_make_164 : decode cX1_make 164 = .ok (.iload_n 3, 1) := by decide +kernel
theorem dX1_make_165 : decode cX1_make 165 = .ok (.iastore, 1) := by decide +kernel
theorem dX1_make_166 : decode cX1_make 166 = .ok (.aload_n 0, 1) := by decide +kernel
theorem dX1_make_167 : decode cX1_make 167 = .ok (.getfield 21, 3) := by decide +kernel
theorem dX1_make_170 : decode cX1_make 170 = .ok (.aload_n 0, 1) := by decide +kernel
theorem dX1_make_171 : decode cX1_make 171 = .ok (.getfield 36, 3) := by decide +kernel
theorem dX1_make_174 : decode cX1_make 174 = .ok (.iload 5, 2) := by decide +kernel
theorem dX1_make_176 : decode cX1_make 176 = .ok (.iastore, 1) := by decide +kernel
theorem dX1_make_177 : decode cX1_make 177 = .ok (.aload_n 0, 1) := by decide +kernel
theorem dX1_make_178 : decode cX1_make 178 = .ok (.dup, 1) := by decide +kernel
theorem dX1_make_179 : decode cX1_make 179 = .ok (.getfield 36, 3) := by decide +kernel
theorem dX1_make_182 : decode cX1_make 182 = .ok (.iconst 1, 1) := by decide +kernel
theorem dX1_make_183 : decode cX1_make 183 = .ok (.iadd, 1) := by decide +kernel
theorem dX1_make_184 : decode cX1_make 184 = .ok (.putfield 36, 3) := by decide +kernel
theorem dX1_make_187 : decode cX1_make 187 = .ok (.aload_n 0, 1) := by decide +kernel
theorem dX1_make_188 : decode cX1_make 188 = .ok (.getfield 36, 3) := by decide +kernel
theorem dX1_make_191 : decode cX1_make 191 = .ok (.iconst 1, 1) := by decide +kernel
theorem dX1_make_192 : decode cX1_make 192 = .ok (.isub, 1) := by decide +kernel
theorem dX1_make_193 : decode cX1_make 193 = .ok (.ireturn, 1) := by decide +kernel
theorem dX1_find_0 : decode cX1_find 0 = .ok (.iconst 0, 1) := by decide +kernel
theorem dX1_find_1 : decode cX1_find 1 = .ok (.istore 4, 2) := by decide +kernel
theorem dX1_find_3 : decode cX1_find 3 = .ok (.iload 4, 2) := by decide +kernel
theorem dX1_find_5 : decode cX1_find 5 = .ok (.aload_n 0, 1) := by decide +kernel
theorem dX1_find_6 : decode cX1_find 6 = .ok (.getfield 36, 3) := by decide +kernel
theorem dX1_find_9 : decode cX1_find 9 = .ok (.if_icmp .ge 45, 3) := by decide +kernel
theorem dX1_find_12 : decode cX1_find 12 = .ok (.aload_n 0, 1) := by decide +kernel
theorem dX1_find_13 : decode cX1_find 13 = .ok (.getfield 9, 3) := by decide +kernel
theorem dX1_find_16 : decode cX1_find 16 = .ok (.iload 4, 2) := by decide +kernel
theorem dX1_find_18 : decode cX1_find 18 = .ok (.iaload, 1) := by decide +kernel
theorem dX1_find_19 : decode cX1_find 19 = .ok (.iload_n 1, 1) := by decide +kernel
theorem dX1_find_20 : decode cX1_find 20 = .ok (.if_icmp .ne 28, 3) := by decide +kernel
theorem dX1_find_23 : decode cX1_find 23 = .ok (.aload_n 0, 1) := by decide +kernel
theorem dX1_find_24 : decode cX1_find 24 = .ok (.getfield 15, 3) := by decide +kernel
theorem dX1_find_27 : decode cX1_find 27 = .ok (.iload 4, 2) := by decide +kernel
theorem dX1_find_29 : decode cX1_find 29 = .ok (.iaload, 1) := by decide +kernel
theorem dX1_find_30 : decode cX1_find 30 = .ok (.iload_n 2, 1) := by decide +kernel
theorem dX1_find_31 : decode cX1_find 31 = .ok (.if_icmp .ne 17, 3) := by decide +kernel
theorem dX1_find_34 : decode cX1_find 34 = .ok (.aload_n 0, 1) := by decide +kernel
theorem dX1_find_35 : decode cX1_find 35 = .ok (.getfield 18, 3) := by decide +kernel
theorem dX1_find_38 : decode cX1_find 38 = .ok (.iload 4, 2) := by decide +kernel
theorem dX1_find_40 : decode cX1_find 40 = .ok (.iaload, 1) := by decide +kernel
theorem dX1_find_41 : decode cX1_find 41 = .ok (.iload_n 3, 1) := by decide +kernel
theorem dX1_find_42 : decode cX1_find 42 = .ok (.if_icmp .ne 6, 3) := by decide +kernel
theorem dX1_find_45 : decode cX1_find 45 = .ok (.iload 4, 2) := by decide +kernel
theorem dX1_find_47 : decode cX1_find 47 = .ok (.ireturn, 1) := by decide +kernel
theorem dX1_find_48 : decode cX1_find 48 = .ok (.iinc 4 1, 3) := by decide +kernel
theorem dX1_find_51 : decode cX1_find 51 = .ok (.goto (-48), 3) := by decide +kernel
theorem dX1_find_54 : decode cX1_find 54 = .ok (.iconst (-1), 1) := by decide +kernel
theorem dX1_find_55 : decode cX1_find 55 = .ok (.ireturn, 1) := by decide +kernel
theorem dX1_atomOfRole_0 : decode cX1_atomOfRole 0 = .ok (.iload_n 3, 1) := by decide +kernel
theorem dX1_atomOfRole_1 : decode cX1_atomOfRole 1 = .ok (.ifCond .ne 25, 3) := by decide +kernel
theorem dX1_atomOfRole_4 : decode cX1_atomOfRole 4 = .ok (.aload_n 0, 1) := by decide +kernel
theorem dX1_atomOfRole_5 : decode cX1_atomOfRole 5 = .ok (.iload_n 2, 1) := by decide +kernel
theorem dX1_atomOfRole_6 : decode cX1_atomOfRole 6 = .ok (.invokevirtual 54, 3) := by decide +kernel
theorem dX1_atomOfRole_9 : decode cX1_atomOfRole 9 = .ok (.iconst 3, 1) := by decide +kernel
theorem dX1_atomOfRole_10 : decode cX1_atomOfRole 10 = .ok (.if_icmp .ne 16, 3) := by decide +kernel
theorem dX1_atomOfRole_13 : decode cX1_atomOfRole 13 = .ok (.aload_n 0, 1) := by decide +kernel
theorem dX1_atomOfRole_14 : decode cX1_atomOfRole 14 = .ok (.iload_n 1, 1) := by decide +kernel
theorem dX1_atomOfRole_15 : decode cX1_atomOfRole 15 = .ok (.iconst (-1), 1) := by decide +kernel
theorem dX1_atomOfRole_16 : decode cX1_atomOfRole 16 = .ok (.aload_n 0, 1) := by decide +kernel
theorem dX1_atomOfRole_17 : decode cX1_atomOfRole 17 = .ok (.iload_n 2, 1) := by decide +kernel
theorem dX1_atomOfRole_18 : decode cX1_atomOfRole 18 = .ok (.invokevirtual 58, 3) := by decide +kernel
theorem dX1_atomOfRole_21 : decode cX1_atomOfRole 21 = .ok (.iconst 1, 1) := by decide +kernel
theorem dX1_atomOfRole_22 : decode cX1_atomOfRole 22 = .ok (.invokevirtual 47, 3) := by decide +kernel
theorem dX1_atomOfRole_25 : decode cX1_atomOfRole 25 = .ok (.ireturn, 1) := by decide +kernel
theorem dX1_atomOfRole_26 : decode cX1_atomOfRole 26 = .ok (.aload_n 0, 1) := by decide +kernel
theorem dX1_atomOfRole_27 : decode cX1_atomOfRole 27 = .ok (.iload_n 1, 1) := by decide +kernel
theorem dX1_atomOfRole_28 : decode cX1_atomOfRole 28 = .ok (.iconst (-1), 1) := by decide +kernel
theorem dX1_atomOfRole_29 : decode cX1_atomOfRole 29 = .ok (.iload_n 2, 1) := by decide +kernel
theorem dX1_atomOfRole_30 : decode cX1_atomOfRole 30 = .ok (.iload_n 3, 1) := by decide +kernel
theorem dX1_atomOfRole_31 : decode cX1_atomOfRole 31 = .ok (.invokevirtual 47, 3) := by decide +kernel
theorem dX1_atomOfRole_34 : decode cX1_atomOfRole 34 = .ok (.ireturn, 1) := by decide +kernel
theorem dX1_atomFor_0 : decode cX1_atomFor 0 = .ok (.iconst 0, 1) := by decide +kernel
theorem dX1_atomFor_1 : decode cX1_atomFor 1 = .ok (.istore 5, 2) := by decide +kernel
theorem dX1_atomFor_3 : decode cX1_atomFor 3 = .ok (.iload 5, 2) := by decide +kernel
theorem dX1_atomFor_5 : decode cX1_atomFor 5 = .ok (.aload_n 0, 1) := by decide +kernel
theorem dX1_atomFor_6 : decode cX1_atomFor 6 = .ok (.getfield 40, 3) := by decide +kernel
theorem dX1_atomFor_9 : decode cX1_atomFor 9 = .ok (.if_icmp .ge 57, 3) := by decide +kernel
theorem dX1_atomFor_12 : decode cX1_atomFor 12 = .ok (.aload_n 0, 1) := by decide +kernel
theorem dX1_atomFor_13 : decode cX1_atomFor 13 = .ok (.getfield 24, 3) := by decide +kernel
theorem dX1_atomFor_16 : decode cX1_atomFor 16 = .ok (.iload 5, 2) := by decide +kernel
theorem dX1_atomFor_18 : decode cX1_atomFor 18 = .ok (.iaload, 1) := by decide +kernel
theorem dX1_atomFor_19 : decode cX1_atomFor 19 = .ok (.iload_n 1, 1) := by decide +kernel
theorem dX1_atomFor_20 : decode cX1_atomFor 20 = .ok (.if_icmp .ne 40, 3) := by decide +kernel
theorem dX1_atomFor_23 : decode cX1_atomFor 23 = .ok (.aload_n 0, 1) := by decide +kernel
theorem dX1_atomFor_24 : decode cX1_atomFor 24 = .ok (.getfield 27, 3) := by decide +kernel
theorem dX1_atomFor_27 : decode cX1_atomFor 27 = .ok (.iload 5, 2) := by decide +kernel
theorem dX1_atomFor_29 : decode cX1_atomFor 29 = .ok (.iaload, 1) := by decide +kernel
theorem dX1_atomFor_30 : decode cX1_atomFor 30 = .ok (.iload_n 2, 1) := by decide +kernel
theorem dX1_atomFor_31 : decode cX1_atomFor 31 = .ok (.if_icmp .ne 29, 3) := by decide +kernel
theorem dX1_atomFor_34 : decode cX1_atomFor 34 = .ok (.aload_n 0, 1) := by decide +kernel
theorem dX1_atomFor_35 : decode cX1_atomFor 35 = .ok (.getfield 30, 3) := by decide +kernel
theorem dX1_atomFor_38 : decode cX1_atomFor 38 = .ok (.iload 5, 2) := by decide +kernel
theorem dX1_atomFor_40 : decode cX1_atomFor 40 = .ok (.iaload, 1) := by decide +kernel
theorem dX1_atomFor_41 : decode cX1_atomFor 41 = .ok (.iload_n 3, 1) := by decide +kernel
theorem dX1_atomFor_42 : decode cX1_atomFor 42 = .ok (.if_icmp .ne 18, 3) := by decide +kernel
theorem dX1_atomFor_45 : decode cX1_atomFor 45 = .ok (.aload_n 0, 1) := by decide +kernel
theorem dX1_atomFor_46 : decode cX1_atomFor 46 = .ok (.getfield 33, 3) := by decide +kernel
theorem dX1_atomFor_49 : decode cX1_atomFor 49 = .ok (.iload 5, 2) := by decide +kernel
theorem dX1_atomFor_51 : decode cX1_atomFor 51 = .ok (.iaload, 1) := by decide +kernel
theorem dX1_atomFor_52 : decode cX1_atomFor 52 = .ok (.iload 4, 2) := by decide +kernel
theorem dX1_atomFor_54 : decode cX1_atomFor 54 = .ok (.if_icmp .ne 6, 3) := by decide +kernel
theorem dX1_atomFor_57 : decode cX1_atomFor 57 = .ok (.iload 5, 2) := by decide +kernel
theorem dX1_atomFor_59 : decode cX1_atomFor 59 = .ok (.ireturn, 1) := by decide +kernel
theorem dX1_atomFor_60 : decode cX1_atomFor 60 = .ok (.iinc 5 1, 3) := by decide +kernel
theorem dX1_atomFor_63 : decode cX1_atomFor 63 = .ok (.goto (-60), 3) := by decide +kernel
theorem dX1_atomFor_66 : decode cX1_atomFor 66 = .ok (.aload_n 0, 1) := by decide +kernel
theorem dX1_atomFor_67 : decode cX1_atomFor 67 = .ok (.getfield 40, 3) := by decide +kernel
theorem dX1_atomFor_70 : decode cX1_atomFor 70 = .ok (.bipush 9, 2) := by decide +kernel
theorem dX1_atomFor_72 : decode cX1_atomFor 72 = .ok (.if_icmp .lt 5, 3) := by decide +kernel
theorem dX1_atomFor_75 : decode cX1_atomFor 75 = .ok (.iconst (-1), 1) := by decide +kernel
theorem dX1_atomFor_76 : decode cX1_atomFor 76 = .ok (.ireturn, 1) := by decide +kernel
theorem dX1_atomFor_77 : decode cX1_atomFor 77 = .ok (.aload_n 0, 1) := by decide +kernel
theorem dX1_atomFor_78 : decode cX1_atomFor 78 = .ok (.getfield 24, 3) := by decide +kernel
theorem dX1_atomFor_81 : decode cX1_atomFor 81 = .ok (.aload_n 0, 1) := by decide +kernel
theorem dX1_atomFor_82 : decode cX1_atomFor 82 = .ok (.getfield 40, 3) := by decide +kernel
theorem dX1_atomFor_85 : decode cX1_atomFor 85 = .ok (.iload_n 1, 1) := by decide +kernel
theorem dX1_atomFor_86 : decode cX1_atomFor 86 = .ok (.iastore, 1) := by decide +kernel
theorem dX1_atomFor_87 : decode cX1_atomFor 87 = .ok (.aload_n 0, 1) := by decide +kernel
theorem dX1_atomFor_88 : decode cX1_atomFor 88 = .ok (.getfield 27, 3) := by decide +kernel
theorem dX1_atomFor_91 : decode cX1_atomFor 91 = .ok (.aload_n 0, 1) := by decide +kernel
theorem dX1_atomFor_92 : decode cX1_atomFor 92 = .ok (.getfield 40, 3) := by decide +kernel
theorem dX1_atomFor_95 : decode cX1_atomFor 95 = .ok (.iload_n 2, 1) := by decide +kernel
theorem dX1_atomFor_96 : decode cX1_atomFor 96 = .ok (.iastore, 1) := by decide +kernel
theorem dX1_atomFor_97 : decode cX1_atomFor 97 = .ok (.aload_n 0, 1) := by decide +kernel
theorem dX1_atomFor_98 : decode cX1_atomFor 98 = .ok (.getfield 30, 3) := by decide +kernel
theorem dX1_atomFor_101 : decode cX1_atomFor 101 = .ok (.aload_n 0, 1) := by decide +kernel
theorem dX1_atomFor_102 : decode cX1_atomFor 102 = .ok (.getfield 40, 3) := by decide +kernel
theorem dX1_atomFor_105 : decode cX1_atomFor 105 = .ok (.iload_n 3, 1) := by decide +kernel
theorem dX1_atomFor_106 : decode cX1_atomFor 106 = .ok (.iastore, 1) := by decide +kernel
theorem dX1_atomFor_107 : decode cX1_atomFor 107 = .ok (.aload_n 0, 1) := by decide +kernel
theorem dX1_atomFor_108 : decode cX1_atomFor 108 = .ok (.getfield 33, 3) := by decide +kernel
theorem dX1_atomFor_111 : decode cX1_atomFor 111 = .ok (.aload_n 0, 1) := by decide +kernel
theorem dX1_atomFor_112 : decode cX1_atomFor 112 = .ok (.getfield 40, 3) := by decide +kernel
theorem dX1_atomFor_115 : decode cX1_atomFor 115 = .ok (.iload 4, 2) := by decide +kernel
theorem dX1_atomFor_117 : decode cX1_atomFor 117 = .ok (.iastore, 1) := by decide +kernel
theorem dX1_atomFor_118 : decode cX1_atomFor 118 = .ok (.aload_n 0, 1) := by decide +kernel
theorem dX1_atomFor_119 : decode cX1_atomFor 119 = .ok (.dup, 1) := by decide +kernel
theorem dX1_atomFor_120 : decode cX1_atomFor 120 = .ok (.getfield 40, 3) := by decide +kernel
theorem dX1_atomFor_123 : decode cX1_atomFor 123 = .ok (.iconst 1, 1) := by decide +kernel
theorem dX1_atomFor_124 : decode cX1_atomFor 124 = .ok (.iadd, 1) := by decide +kernel
theorem dX1_atomFor_125 : decode cX1_atomFor 125 = .ok (.putfield 40, 3) := by decide +kernel
theorem dX1_atomFor_128 : decode cX1_atomFor 128 = .ok (.aload_n 0, 1) := by decide +kernel
theorem dX1_atomFor_129 : decode cX1_atomFor 129 = .ok (.getfield 40, 3) := by decide +kernel
theorem dX1_atomFor_132 : decode cX1_atomFor 132 = .ok (.iconst 1, 1) := by decide +kernel
theorem dX1_atomFor_133 : decode cX1_atomFor 133 = .ok (.isub, 1) := by decide +kernel
theorem dX1_atomFor_134 : decode cX1_atomFor 134 = .ok (.ireturn, 1) := by decide +kernel
theorem dX1_sortOf_0 : decode cX1_sortOf 0 = .ok (.iload_n 1, 1) := by decide +kernel
theorem dX1_sortOf_1 : decode cX1_sortOf 1 = .ok (.ifCond .lt 20, 3) := by decide +kernel
theorem dX1_sortOf_4 : decode cX1_sortOf 4 = .ok (.iload_n 1, 1) := by decide +kernel
theorem dX1_sortOf_5 : decode cX1_sortOf 5 = .ok (.aload_n 0, 1) := by decide +kernel
theorem dX1_sortOf_6 : decode cX1_sortOf 6 = .ok (.getfield 36, 3) := by decide +kernel
theorem dX1_sortOf_9 : decode cX1_sortOf 9 = .ok (.if_icmp .ge 12, 3) := by decide +kernel
theorem dX1_sortOf_12 : decode cX1_sortOf 12 = .ok (.aload_n 0, 1) := by decide +kernel
theorem dX1_sortOf_13 : decode cX1_sortOf 13 = .ok (.getfield 9, 3) := by decide +kernel
theorem dX1_sortOf_16 : decode cX1_sortOf 16 = .ok (.iload_n 1, 1) := by decide +kernel
theorem dX1_sortOf_17 : decode cX1_sortOf 17 = .ok (.iaload, 1) := by decide +kernel
theorem dX1_sortOf_18 : decode cX1_sortOf 18 = .ok (.goto 4, 3) := by decide +kernel
theorem dX1_sortOf_21 : decode cX1_sortOf 21 = .ok (.iconst (-1), 1) := by decide +kernel
theorem dX1_sortOf_22 : decode cX1_sortOf 22 = .ok (.ireturn, 1) := by decide +kernel
theorem dX1_leftOf_0 : decode cX1_leftOf 0 = .ok (.iload_n 1, 1) := by decide +kernel
theorem dX1_leftOf_1 : decode cX1_leftOf 1 = .ok (.ifCond .lt 20, 3) := by decide +kernel
theorem dX1_leftOf_4 : decode cX1_leftOf 4 = .ok (.iload_n 1, 1) := by decide +kernel
theorem dX1_leftOf_5 : decode cX1_leftOf 5 = .ok (.aload_n 0, 1) := by decide +kernel
theorem dX1_leftOf_6 : decode cX1_leftOf 6 = .ok (.getfield 36, 3) := by decide +kernel
theorem dX1_leftOf_9 : decode cX1_leftOf 9 = .ok (.if_icmp .ge 12, 3) := by decide +kernel
theorem dX1_leftOf_12 : decode cX1_leftOf 12 = .ok (.aload_n 0, 1) := by decide +kernel
theorem dX1_leftOf_13 : decode cX1_leftOf 13 = .ok (.getfield 15, 3) := by decide +kernel
theorem dX1_leftOf_16 : decode cX1_leftOf 16 = .ok (.iload_n 1, 1) := by decide +kernel
theorem dX1_leftOf_17 : decode cX1_leftOf 17 = .ok (.iaload, 1) := by decide +kernel
theorem dX1_leftOf_18 : decode cX1_leftOf 18 = .ok (.goto 4, 3) := by decide +kernel
theorem dX1_leftOf_21 : decode cX1_leftOf 21 = .ok (.iconst (-1), 1) := by decide +kernel
theorem dX1_leftOf_22 : decode cX1_leftOf 22 = .ok (.ireturn, 1) := by decide +kernel
theorem dX1_rightOf_0 : decode cX1_rightOf 0 = .ok (.iload_n 1, 1) := by decide +kernel
theorem dX1_rightOf_1 : decode cX1_rightOf 1 = .ok (.ifCond .lt 20, 3) := by decide +kernel
theorem dX1_rightOf_4 : decode cX1_rightOf 4 = .ok (.iload_n 1, 1) := by decide +kernel
theorem dX1_rightOf_5 : decode cX1_rightOf 5 = .ok (.aload_n 0, 1) := by decide +kernel
theorem dX1_rightOf_6 : decode cX1_rightOf 6 = .ok (.getfield 36, 3) := by decide +kernel
theorem dX1_rightOf_9 : decode cX1_rightOf 9 = .ok (.if_icmp .ge 12, 3) := by decide +kernel
theorem dX1_rightOf_12 : decode cX1_rightOf 12 = .ok (.aload_n 0, 1) := by decide +kernel
theorem dX1_rightOf_13 : decode cX1_rightOf 13 = .ok (.getfield 18, 3) := by decide +kernel
theorem dX1_rightOf_16 : decode cX1_rightOf 16 = .ok (.iload_n 1, 1) := by decide +kernel
theorem dX1_rightOf_17 : decode cX1_rightOf 17 = .ok (.iaload, 1) := by decide +kernel
theorem dX1_rightOf_18 : decode cX1_rightOf 18 = .ok (.goto 4, 3) := by decide +kernel
theorem dX1_rightOf_21 : decode cX1_rightOf 21 = .ok (.iconst (-1), 1) := by decide +kernel
theorem dX1_rightOf_22 : decode cX1_rightOf 22 = .ok (.ireturn, 1) := by decide +kernel
theorem dX1_atomOf_0 : decode cX1_atomOf 0 = .ok (.iload_n 1, 1) := by decide +kernel
theorem dX1_atomOf_1 : decode cX1_atomOf 1 = .ok (.ifCond .lt 20, 3) := by decide +kernel
theorem dX1_atomOf_4 : decode cX1_atomOf 4 = .ok (.iload_n 1, 1) := by decide +kernel
theorem dX1_atomOf_5 : decode cX1_atomOf 5 = .ok (.aload_n 0, 1) := by decide +kernel
theorem dX1_atomOf_6 : decode cX1_atomOf 6 = .ok (.getfield 36, 3) := by decide +kernel
theorem dX1_atomOf_9 : decode cX1_atomOf 9 = .ok (.if_icmp .ge 12, 3) := by decide +kernel
theorem dX1_atomOf_12 : decode cX1_atomOf 12 = .ok (.aload_n 0, 1) := by decide +kernel
theorem dX1_atomOf_13 : decode cX1_atomOf 13 = .ok (.getfield 21, 3) := by decide +kernel
theorem dX1_atomOf_16 : decode cX1_atomOf 16 = .ok (.iload_n 1, 1) := by decide +kernel
theorem dX1_atomOf_17 : decode cX1_atomOf 17 = .ok (.iaload, 1) := by decide +kernel
theorem dX1_atomOf_18 : decode cX1_atomOf 18 = .ok (.goto 4, 3) := by decide +kernel
theorem dX1_atomOf_21 : decode cX1_atomOf 21 = .ok (.iconst (-1), 1) := by decide +kernel
theorem dX1_atomOf_22 : decode cX1_atomOf 22 = .ok (.ireturn, 1) := by decide +kernel
theorem dX1_nodeOfName_0 : decode cX1_nodeOfName 0 = .ok (.aload_n 0, 1) := by decide +kernel
theorem dX1_nodeOfName_1 : decode cX1_nodeOfName 1 = .ok (.iconst 0, 1) := by decide +kernel
theorem dX1_nodeOfName_2 : decode cX1_nodeOfName 2 = .ok (.iload_n 1, 1) := by decide +kernel
theorem dX1_nodeOfName_3 : decode cX1_nodeOfName 3 = .ok (.iconst 0, 1) := by decide +kernel
theorem dX1_nodeOfName_4 : decode cX1_nodeOfName 4 = .ok (.invokevirtual 43, 3) := by decide +kernel
theorem dX1_nodeOfName_7 : decode cX1_nodeOfName 7 = .ok (.ireturn, 1) := by decide +kernel
theorem dX1_roleOfAtom_0 : decode cX1_roleOfAtom 0 = .ok (.iload_n 1, 1) := by decide +kernel
theorem dX1_roleOfAtom_1 : decode cX1_roleOfAtom 1 = .ok (.ifCond .lt 20, 3) := by decide +kernel
theorem dX1_roleOfAtom_4 : decode cX1_roleOfAtom 4 = .ok (.iload_n 1, 1) := by decide +kernel
theorem dX1_roleOfAtom_5 : decode cX1_roleOfAtom 5 = .ok (.aload_n 0, 1) := by decide +kernel
theorem dX1_roleOfAtom_6 : decode cX1_roleOfAtom 6 = .ok (.getfield 40, 3) := by decide +kernel
theorem dX1_roleOfAtom_9 : decode cX1_roleOfAtom 9 = .ok (.if_icmp .ge 12, 3) := by decide +kernel
theorem dX1_roleOfAtom_12 : decode cX1_roleOfAtom 12 = .ok (.aload_n 0, 1) := by decide +kernel
theorem dX1_roleOfAtom_13 : decode cX1_roleOfAtom 13 = .ok (.getfield 24, 3) := by decide +kernel
theorem dX1_roleOfAtom_16 : decode cX1_roleOfAtom 16 = .ok (.iload_n 1, 1) := by decide +kernel
theorem dX1_roleOfAtom_17 : decode cX1_roleOfAtom 17 = .ok (.iaload, 1) := by decide +kernel
theorem dX1_roleOfAtom_18 : decode cX1_roleOfAtom 18 = .ok (.goto 4, 3) := by decide +kernel
theorem dX1_roleOfAtom_21 : decode cX1_roleOfAtom 21 = .ok (.iconst (-1), 1) := by decide +kernel
theorem dX1_roleOfAtom_22 : decode cX1_roleOfAtom 22 = .ok (.ireturn, 1) := by decide +kernel
theorem dX1_nameOfAtom_0 : decode cX1_nameOfAtom 0 = .ok (.iload_n 1, 1) := by decide +kernel
theorem dX1_nameOfAtom_1 : decode cX1_nameOfAtom 1 = .ok (.ifCond .lt 20, 3) := by decide +kernel
theorem dX1_nameOfAtom_4 : decode cX1_nameOfAtom 4 = .ok (.iload_n 1, 1) := by decide +kernel
theorem dX1_nameOfAtom_5 : decode cX1_nameOfAtom 5 = .ok (.aload_n 0, 1) := by decide +kernel
theorem dX1_nameOfAtom_6 : decode cX1_nameOfAtom 6 = .ok (.getfield 40, 3) := by decide +kernel
theorem dX1_nameOfAtom_9 : decode cX1_nameOfAtom 9 = .ok (.if_icmp .ge 12, 3) := by decide +kernel
theorem dX1_nameOfAtom_12 : decode cX1_nameOfAtom 12 = .ok (.aload_n 0, 1) := by decide +kernel
theorem dX1_nameOfAtom_13 : decode cX1_nameOfAtom 13 = .ok (.getfield 27, 3) := by decide +kernel
theorem dX1_nameOfAtom_16 : decode cX1_nameOfAtom 16 = .ok (.iload_n 1, 1) := by decide +kernel
theorem dX1_nameOfAtom_17 : decode cX1_nameOfAtom 17 = .ok (.iaload, 1) := by decide +kernel
theorem dX1_nameOfAtom_18 : decode cX1_nameOfAtom 18 = .ok (.goto 4, 3) := by decide +kernel
theorem dX1_nameOfAtom_21 : decode cX1_nameOfAtom 21 = .ok (.iconst (-1), 1) := by decide +kernel
theorem dX1_nameOfAtom_22 : decode cX1_nameOfAtom 22 = .ok (.ireturn, 1) := by decide +kernel
theorem dX1_partOfAtom_0 : decode cX1_partOfAtom 0 = .ok (.iload_n 1, 1) := by decide +kernel
theorem dX1_partOfAtom_1 : decode cX1_partOfAtom 1 = .ok (.ifCond .lt 20, 3) := by decide +kernel
theorem dX1_partOfAtom_4 : decode cX1_partOfAtom 4 = .ok (.iload_n 1, 1) := by decide +kernel
theorem dX1_partOfAtom_5 : decode cX1_partOfAtom 5 = .ok (.aload_n 0, 1) := by decide +kernel
theorem dX1_partOfAtom_6 : decode cX1_partOfAtom 6 = .ok (.getfield 40, 3) := by decide +kernel
theorem dX1_partOfAtom_9 : decode cX1_partOfAtom 9 = .ok (.if_icmp .ge 12, 3) := by decide +kernel
theorem dX1_partOfAtom_12 : decode cX1_partOfAtom 12 = .ok (.aload_n 0, 1) := by decide +kernel
theorem dX1_partOfAtom_13 : decode cX1_partOfAtom 13 = .ok (.getfield 30, 3) := by decide +kernel
theorem dX1_partOfAtom_16 : decode cX1_partOfAtom 16 = .ok (.iload_n 1, 1) := by decide +kernel
theorem dX1_partOfAtom_17 : decode cX1_partOfAtom 17 = .ok (.iaload, 1) := by decide +kernel
theorem dX1_partOfAtom_18 : decode cX1_partOfAtom 18 = .ok (.goto 4, 3) := by decide +kernel
theorem dX1_partOfAtom_21 : decode cX1_partOfAtom 21 = .ok (.iconst (-1), 1) := by decide +kernel
theorem dX1_partOfAtom_22 : decode cX1_partOfAtom 22 = .ok (.ireturn, 1) := by decide +kernel
theorem dX1_isTurned_0 : decode cX1_isTurned 0 = .ok (.iload_n 1, 1) := by decide +kernel
theorem dX1_isTurned_1 : decode cX1_isTurned 1 = .ok (.ifCond .lt 25, 3) := by decide +kernel
theorem dX1_isTurned_4 : decode cX1_isTurned 4 = .ok (.iload_n 1, 1) := by decide +kernel
theorem dX1_isTurned_5 : decode cX1_isTurned 5 = .ok (.aload_n 0, 1) := by decide +kernel
theorem dX1_isTurned_6 : decode cX1_isTurned 6 = .ok (.getfield 40, 3) := by decide +kernel
theorem dX1_isTurned_9 : decode cX1_isTurned 9 = .ok (.if_icmp .ge 17, 3) := by decide +kernel
theorem dX1_isTurned_12 : decode cX1_isTurned 12 = .ok (.aload_n 0, 1) := by decide +kernel
theorem dX1_isTurned_13 : decode cX1_isTurned 13 = .ok (.getfield 33, 3) := by decide +kernel
theorem dX1_isTurned_16 : decode cX1_isTurned 16 = .ok (.iload_n 1, 1) := by decide +kernel
theorem dX1_isTurned_17 : decode cX1_isTurned 17 = .ok (.iaload, 1) := by decide +kernel
theorem dX1_isTurned_18 : decode cX1_isTurned 18 = .ok (.iconst 1, 1) := by decide +kernel
theorem dX1_isTurned_19 : decode cX1_isTurned 19 = .ok (.if_icmp .ne 7, 3) := by decide +kernel
theorem dX1_isTurned_22 : decode cX1_isTurned 22 = .ok (.iconst 1, 1) := by decide +kernel
theorem dX1_isTurned_23 : decode cX1_isTurned 23 = .ok (.goto 4, 3) := by decide +kernel
theorem dX1_isTurned_26 : decode cX1_isTurned 26 = .ok (.iconst 0, 1) := by decide +kernel
theorem dX1_isTurned_27 : decode cX1_isTurned 27 = .ok (.ireturn, 1) := by decide +kernel
theorem dX2_init_0 : decode cX2_init 0 = .ok (.aload_n 0, 1) := by decide +kernel
theorem dX2_init_1 : decode cX2_init 1 = .ok (.invokespecial 3, 3) := by decide +kernel
theorem dX2_init_4 : decode cX2_init 4 = .ok (.aload_n 0, 1) := by decide +kernel
theorem dX2_init_5 : decode cX2_init 5 = .ok (.sipush 1600, 3) := by decide +kernel
theorem dX2_init_8 : decode cX2_init 8 = .ok (.newarray .long, 2) := by decide +kernel
theorem dX2_init_10 : decode cX2_init 10 = .ok (.putfield 9, 3) := by decide +kernel
theorem dX2_init_13 : decode cX2_init 13 = .ok (.aload_n 0, 1) := by decide +kernel
theorem dX2_init_14 : decode cX2_init 14 = .ok (.bipush 72, 2) := by decide +kernel
theorem dX2_init_16 : decode cX2_init 16 = .ok (.newarray .long, 2) := by decide +kernel
theorem dX2_init_18 : decode cX2_init 18 = .ok (.putfield 15, 3) := by decide +kernel
theorem dX2_init_21 : decode cX2_init 21 = .ok (.aload_n 0, 1) := by decide +kernel
theorem dX2_init_22 : decode cX2_init 22 = .ok (.iconst 3, 1) := by decide +kernel
theorem dX2_init_23 : decode cX2_init 23 = .ok (.newarray .int, 2) := by decide +kernel
theorem dX2_init_25 : decode cX2_init 25 = .ok (.putfield 18, 3) := by decide +kernel
theorem dX2_init_28 : decode cX2_init 28 = .ok (.aload_n 0, 1) := by decide +kernel
theorem dX2_init_29 : decode cX2_init 29 = .ok (.iconst 3, 1) := by decide +kernel
theorem dX2_init_30 : decode cX2_init 30 = .ok (.newarray .int, 2) := by decide +kernel
theorem dX2_init_32 : decode cX2_init 32 = .ok (.putfield 22, 3) := by decide +kernel
theorem dX2_init_35 : decode cX2_init 35 = .ok (.aload_n 0, 1) := by decide +kernel
theorem dX2_init_36 : decode cX2_init 36 = .ok (.bipush 8, 2) := by decide +kernel
theorem dX2_init_38 : decode cX2_init 38 = .ok (.newarray .long, 2) := by decide +kernel
theorem dX2_init_40 : decode cX2_init 40 = .ok (.putfield 25, 3) := by decide +kernel
theorem dX2_init_43 : decode cX2_init 43 = .ok (.aload_n 0, 1) := by decide +kernel
theorem dX2_init_44 : decode cX2_init 44 = .ok (.bipush 8, 2) := by decide +kernel
theorem dX2_init_46 : decode cX2_init 46 = .ok (.newarray .long, 2) := by decide +kernel
theorem dX2_init_48 : decode cX2_init 48 = .ok (.putfield 28, 3) := by decide +kernel
theorem dX2_init_51 : decode cX2_init 51 = .ok (.aload_n 0, 1) := by decide +kernel
theorem dX2_init_52 : decode cX2_init 52 = .ok (.bipush 8, 2) := by decide +kernel
theorem dX2_init_54 : decode cX2_init 54 = .ok (.newarray .long, 2) := by decide +kernel
theorem dX2_init_56 : decode cX2_init 56 = .ok (.putfield 31, 3) := by decide +kernel
theorem dX2_init_59 : decode cX2_init 59 = .ok (.aload_n 0, 1) := by decide +kernel
theorem dX2_init_60 : decode cX2_init 60 = .ok (.bipush 8, 2) := by decide +kernel
theorem dX2_init_62 : decode cX2_init 62 = .ok (.newarray .long, 2) := by decide +kernel
theorem dX2_init_64 : decode cX2_init 64 = .ok (.putfield 34, 3) := by decide +kernel
theorem dX2_init_67 : decode cX2_init 67 = .ok (.aload_n 0, 1) := by decide +kernel
theorem dX2_init_68 : decode cX2_init 68 = .ok (.bipush 8, 2) := by decide +kernel
theorem dX2_init_70 : decode cX2_init 70 = .ok (.newarray .long, 2) := by decide +kernel
theorem dX2_init_72 : decode cX2_init 72 = .ok (.putfield 37, 3) := by decide +kernel
theorem dX2_init_75 : decode cX2_init 75 = .ok (.aload_n 0, 1) := by decide +kernel
theorem dX2_init_76 : decode cX2_init 76 = .ok (.sipush 512, 3) := by decide +kernel
theorem dX2_init_79 : decode cX2_init 79 = .ok (.newarray .short, 2) := by decide +kernel
theorem dX2_init_81 : decode cX2_init 81 = .ok (.putfield 40, 3) := by decide +kernel
theorem dX2_init_84 : decode cX2_init 84 = .ok (.aload_n 0, 1) := by decide +kernel
theorem dX2_init_85 : decode cX2_init 85 = .ok (.aload_n 1, 1) := by decide +kernel
theorem dX2_init_86 : decode cX2_init 86 = .ok (.putfield 44, 3) := by decide +kernel
theorem dX2_init_89 : decode cX2_init 89 = .ok (.aload_n 0, 1) := by decide +kernel
theorem dX2_init_90 : decode cX2_init 90 = .ok (.aload_n 1, 1) := by decide +kernel
theorem dX2_init_91 : decode cX2_init 91 = .ok (.getfield 48, 3) := by decide +kernel
theorem dX2_init_94 : decode cX2_init 94 = .ok (.putfield 54, 3) := by decide +kernel
theorem dX2_init_97 : decode cX2_init 97 = .ok (.return_, 1) := by decide +kernel
theorem dX2_workOut_0 : decode cX2_workOut 0 = .ok (.aload_n 0, 1) := by decide +kernel
theorem dX2_workOut_1 : decode cX2_workOut 1 = .ok (.aload_n 1, 1) := by decide +kernel
theorem dX2_workOut_2 : decode cX2_workOut 2 = .ok (.putfield 44, 3) := by decide +kernel
theorem dX2_workOut_5 : decode cX2_workOut 5 = .ok (.aload_n 0, 1) := by decide +kernel
theorem dX2_workOut_6 : decode cX2_workOut 6 = .ok (.aload_n 1, 1) := by decide +kernel
theorem dX2_workOut_7 : decode cX2_workOut 7 = .ok (.getfield 48, 3) := by decide +kernel
theorem dX2_workOut_10 : decode cX2_workOut 10 = .ok (.putfield 54, 3) := by decide +kernel
theorem dX2_workOut_13 : decode cX2_workOut 13 = .ok (.aload_n 0, 1) := by decide +kernel
theorem dX2_workOut_14 : decode cX2_workOut 14 = .ok (.iconst 1, 1) := by decide +kernel
theorem dX2_workOut_15 : decode cX2_workOut 15 = .ok (.aload_n 0, 1) := by decide +kernel
theorem dX2_workOut_16 : decode cX2_workOut 16 = .ok (.getfield 54, 3) := by decide +kernel
theorem dX2_workOut_19 : decode cX2_workOut 19 = .ok (.getfield 55, 3) := by decide +kernel
theorem dX2_workOut_22 : decode cX2_workOut 22 = .ok (.bipush 9, 2) := by decide +kernel
theorem dX2_workOut_24 : decode cX2_workOut 24 = .ok (.invokestatic 61, 3) := by decide +kernel
theorem dX2_workOut_27 : decode cX2_workOut 27 = .ok (.ishl, 1) := by decide +kernel
theorem dX2_workOut_28 : decode cX2_workOut 28 = .ok (.putfield 67, 3) := by decide +kernel
theorem dX2_workOut_31 : decode cX2_workOut 31 = .ok (.iconst 0, 1) := by decide +kernel
theorem dX2_workOut_32 : decode cX2_workOut 32 = .ok (.istore_n 2, 1) := by decide +kernel
theorem dX2_workOut_33 : decode cX2_workOut 33 = .ok (.iload_n 2, 1) := by decide +kernel
theorem dX2_workOut_34 : decode cX2_workOut 34 = .ok (.aload_n 0, 1) := by decide +kernel
theorem dX2_workOut_35 : decode cX2_workOut 35 = .ok (.getfield 54, 3) := by decide +kernel
theorem dX2_workOut_38 : decode cX2_workOut 38 = .ok (.getfield 70, 3) := by decide +kernel
theorem dX2_workOut_41 : decode cX2_workOut 41 = .ok (.if_icmp .ge 47, 3) := by decide +kernel
theorem dX2_workOut_44 : decode cX2_workOut 44 = .ok (.iload_n 2, 1) := by decide +kernel
theorem dX2_workOut_45 : decode cX2_workOut 45 = .ok (.sipush 200, 3) := by decide +kernel
theorem dX2_workOut_48 : decode cX2_workOut 48 = .ok (.if_icmp .ge 40, 3) := by decide +kernel
theorem dX2_workOut_51 : decode cX2_workOut 51 = .ok (.iconst 0, 1) := by decide +kernel
theorem dX2_workOut_52 : decode cX2_workOut 52 = .ok (.istore_n 3, 1) := by decide +kernel
theorem dX2_workOut_53 : decode cX2_workOut 53 = .ok (.iload_n 3, 1) := by decide +kernel
theorem dX2_workOut_54 : decode cX2_workOut 54 = .ok (.bipush 8, 2) := by decide +kernel
theorem dX2_workOut_56 : decode cX2_workOut 56 = .ok (.if_icmp .ge 26, 3) := by decide +kernel
theorem dX2_workOut_59 : decode cX2_workOut 59 = .ok (.aload_n 0, 1) := by decide +kernel
theorem dX2_workOut_60 : decode cX2_workOut 60 = .ok (.getfield 9, 3) := by decide +kernel
theorem dX2_workOut_63 : decode cX2_workOut 63 = .ok (.iload_n 2, 1) := by decide +kernel
theorem dX2_workOut_64 : decode cX2_workOut 64 = .ok (.bipush 8, 2) := by decide +kernel
theorem dX2_workOut_66 : decode cX2_workOut 66 = .ok (.imul, 1) := by decide +kernel
theorem dX2_workOut_67 : decode cX2_workOut 67 = .ok (.iload_n 3, 1) := by decide +kernel
theorem dX2_workOut_68 : decode cX2_workOut 68 = .ok (.iadd, 1) := by decide +kernel
theorem dX2_workOut_69 : decode cX2_workOut 69 = .ok (.aload_n 0, 1) := by decide +kernel
theorem dX2_workOut_70 : decode cX2_workOut 70 = .ok (.iload_n 2, 1) := by decide +kernel
theorem dX2_workOut_71 : decode cX2_workOut 71 = .ok (.iload_n 3, 1) := by decide +kernel
theorem dX2_workOut_72 : decode cX2_workOut 72 = .ok (.invokevirtual 73, 3) := by decide +kernel
theorem dX2_workOut_75 : decode cX2_workOut 75 = .ok (.lastore, 1) := by decide +kernel
theorem dX2_workOut_76 : decode cX2_workOut 76 = .ok (.iinc 3 1, 3) := by decide +kernel
theorem dX2_workOut_79 : decode cX2_workOut 79 = .ok (.goto (-26), 3) := by decide +kernel
theorem dX2_workOut_82 : decode cX2_workOut 82 = .ok (.iinc 2 1, 3) := by decide +kernel
theorem dX2_workOut_85 : decode cX2_workOut 85 = .ok (.goto (-52), 3) := by decide +kernel
theorem dX2_workOut_88 : decode cX2_workOut 88 = .ok (.iconst 0, 1) := by decide +kernel
theorem dX2_workOut_89 : decode cX2_workOut 89 = .ok (.istore_n 2, 1) := by decide +kernel
theorem dX2_workOut_90 : decode cX2_workOut 90 = .ok (.iload_n 2, 1) := by decide +kernel
theorem dX2_workOut_91 : decode cX2_workOut 91 = .ok (.aload_n 0, 1) := by decide +kernel
theorem dX2_workOut_92 : decode cX2_workOut 92 = .ok (.getfield 54, 3) := by decide +kernel
theorem dX2_workOut_95 : decode cX2_workOut 95 = .ok (.getfield 55, 3) := by decide +kernel
theorem dX2_workOut_98 : decode cX2_workOut 98 = .ok (.if_icmp .ge 77, 3) := by decide +kernel
theorem dX2_workOut_101 : decode cX2_workOut 101 = .ok (.iload_n 2, 1) := by decide +kernel
theorem dX2_workOut_102 : decode cX2_workOut 102 = .ok (.bipush 9, 2) := by decide +kernel
theorem dX2_workOut_104 : decode cX2_workOut 104 = .ok (.if_icmp .ge 71, 3) := by decide +kernel
theorem dX2_workOut_107 : decode cX2_workOut 107 = .ok (.iconst 0, 1) := by decide +kernel
theorem dX2_workOut_108 : decode cX2_workOut 108 = .ok (.istore_n 3, 1) := by decide +kernel
theorem dX2_workOut_109 : decode cX2_workOut 109 = .ok (.iload_n 3, 1) := by decide +kernel
theorem dX2_workOut_110 : decode cX2_workOut 110 = .ok (.bipush 8, 2) := by decide +kernel
theorem dX2_workOut_112 : decode cX2_workOut 112 = .ok (.if_icmp .ge 57, 3) := by decide +kernel
theorem dX2_workOut_115 : decode cX2_workOut 115 = .ok (.aload_n 0, 1) := by decide +kernel
theorem dX2_workOut_116 : decode cX2_workOut 116 = .ok (.aload_n 0, 1) := by decide +kernel
theorem dX2_workOut_117 : decode cX2_workOut 117 = .ok (.getfield 54, 3) := by decide +kernel
theorem dX2_workOut_120 : decode cX2_workOut 120 = .ok (.iload_n 2, 1) := by decide +kernel
theorem dX2_workOut_121 : decode cX2_workOut 121 = .ok (.invokevirtual 77, 3) := by decide +kernel
theorem dX2_workOut_124 : decode cX2_workOut 124 = .ok (.iload_n 3, 1) := by decide +kernel
theorem dX2_workOut_125 : decode cX2_workOut 125 = .ok (.invokevirtual 81, 3) := by decide +kernel
theorem dX2_workOut_128 : decode cX2_workOut 128 = .ok (.lstore 4, 2) := by decide +kernel
theorem dX2_workOut_130 : decode cX2_workOut 130 = .ok (.aload_n 0, 1) := by decide +kernel
theorem dX2_workOut_131 : decode cX2_workOut 131 = .ok (.getfield 15, 3) := by decide +kernel
theorem dX2_workOut_134 : decode cX2_workOut 134 = .ok (.iload_n 2, 1) := by decide +kernel
theorem dX2_workOut_135 : decode cX2_workOut 135 = .ok (.bipush 8, 2) := by decide +kernel
theorem dX2_workOut_137 : decode cX2_workOut 137 = .ok (.imul, 1) := by decide +kernel
theorem dX2_workOut_138 : decode cX2_workOut 138 = .ok (.iload_n 3, 1) := by decide +kernel
theorem dX2_workOut_139 : decode cX2_workOut 139 = .ok (.iadd, 1) := by decide +kernel
theorem dX2_workOut_140 : decode cX2_workOut 140 = .ok (.aload_n 0, 1) := by decide +kernel
theorem dX2_workOut_141 : decode cX2_workOut 141 = .ok (.getfield 54, 3) := by decide +kernel
theorem dX2_workOut_144 : decode cX2_workOut 144 = .ok (.iload_n 2, 1) := by decide +kernel
theorem dX2_workOut_145 : decode cX2_workOut 145 = .ok (.invokevirtual 84, 3) := by decide +kernel
theorem dX2_workOut_148 : decode cX2_workOut 148 = .ok (.ifCond .eq 12, 3) := by decide +kernel
theorem dX2_workOut_151 : decode cX2_workOut 151 = .ok (.lload 4, 2) := by decide +kernel
theorem dX2_workOut_153 : decode cX2_workOut 153 = .ok (.ldc2_w 88, 3) := by decide +kernel
theorem dX2_workOut_156 : decode cX2_workOut 156 = .ok (.lxor, 1) := by decide +kernel
theorem dX2_workOut_157 : decode cX2_workOut 157 = .ok (.goto 5, 3) := by decide +kernel
theorem dX2_workOut_160 : decode cX2_workOut 160 = .ok (.lload 4, 2) := by decide +kernel
theorem dX2_workOut_162 : decode cX2_workOut 162 = .ok (.lastore, 1) := by decide +kernel
theorem dX2_workOut_163 : decode cX2_workOut 163 = .ok (.iinc 3 1, 3) := by decide +kernel
theorem dX2_workOut_166 : decode cX2_workOut 166 = .ok (.goto (-57), 3) := by decide +kernel
theorem dX2_workOut_169 : decode cX2_workOut 169 = .ok (.iinc 2 1, 3) := by decide +kernel
theorem dX2_workOut_172 : decode cX2_workOut 172 = .ok (.goto (-82), 3) := by decide +kernel
theorem dX2_workOut_175 : decode cX2_workOut 175 = .ok (.aload_n 0, 1) := by decide +kernel
theorem dX2_workOut_176 : decode cX2_workOut 176 = .ok (.invokevirtual 90, 3) := by decide +kernel
theorem dX2_workOut_179 : decode cX2_workOut 179 = .ok (.aload_n 0, 1) := by decide +kernel
theorem dX2_workOut_180 : decode cX2_workOut 180 = .ok (.iconst 1, 1) := by decide +kernel
theorem dX2_workOut_181 : decode cX2_workOut 181 = .ok (.aload_n 0, 1) := by decide +kernel
theorem dX2_workOut_182 : decode cX2_workOut 182 = .ok (.getfield 44, 3) := by decide +kernel
theorem dX2_workOut_185 : decode cX2_workOut 185 = .ok (.getfield 93, 3) := by decide +kernel
theorem dX2_workOut_188 : decode cX2_workOut 188 = .ok (.ishl, 1) := by decide +kernel
theorem dX2_workOut_189 : decode cX2_workOut 189 = .ok (.iconst 1, 1) := by decide +kernel
theorem dX2_workOut_190 : decode cX2_workOut 190 = .ok (.isub, 1) := by decide +kernel
theorem dX2_workOut_191 : decode cX2_workOut 191 = .ok (.aload_n 0, 1) := by decide +kernel
theorem dX2_workOut_192 : decode cX2_workOut 192 = .ok (.getfield 25, 3) := by decide +kernel
theorem dX2_workOut_195 : decode cX2_workOut 195 = .ok (.invokevirtual 96, 3) := by decide +kernel
theorem dX2_workOut_198 : decode cX2_workOut 198 = .ok (.aload_n 0, 1) := by decide +kernel
theorem dX2_workOut_199 : decode cX2_workOut 199 = .ok (.getfield 25, 3) := by decide +kernel
theorem dX2_workOut_202 : decode cX2_workOut 202 = .ok (.iconst 0, 1) := by decide +kernel
theorem dX2_workOut_203 : decode cX2_workOut 203 = .ok (.aload_n 0, 1) := by decide +kernel
theorem dX2_workOut_204 : decode cX2_workOut 204 = .ok (.getfield 28, 3) := by decide +kernel
theorem dX2_workOut_207 : decode cX2_workOut 207 = .ok (.iconst 0, 1) := by decide +kernel
theorem dX2_workOut_208 : decode cX2_workOut 208 = .ok (.bipush 8, 2) := by decide +kernel
theorem dX2_workOut_210 : decode cX2_workOut 210 = .ok (.invokestatic 100, 3) := by decide +kernel
theorem dX2_workOut_213 : decode cX2_workOut 213 = .ok (.iconst 0, 1) := by decide +kernel
theorem dX2_workOut_214 : decode cX2_workOut 214 = .ok (.istore_n 2, 1) := by decide +kernel
theorem dX2_workOut_215 : decode cX2_workOut 215 = .ok (.iload_n 2, 1) := by decide +kernel
theorem dX2_workOut_216 : decode cX2_workOut 216 = .ok (.aload_n 0, 1) := by decide +kernel
theorem dX2_workOut_217 : decode cX2_workOut 217 = .ok (.getfield 67, 3) := by decide +kernel
theorem dX2_workOut_220 : decode cX2_workOut 220 = .ok (.if_icmp .ge 39, 3) := by decide +kernel
theorem dX2_workOut_223 : decode cX2_workOut 223 = .ok (.iload_n 2, 1) := by decide +kernel
theorem dX2_workOut_224 : decode cX2_workOut 224 = .ok (.sipush 512, 3) := by decide +kernel
theorem dX2_workOut_227 : decode cX2_workOut 227 = .ok (.if_icmp .ge 32, 3) := by decide +kernel
theorem dX2_workOut_230 : decode cX2_workOut 230 = .ok (.aload_n 0, 1) := by decide +kernel
theorem dX2_workOut_231 : decode cX2_workOut 231 = .ok (.getfield 40, 3) := by decide +kernel
theorem dX2_workOut_234 : decode cX2_workOut 234 = .ok (.iload_n 2, 1) := by decide +kernel
theorem dX2_workOut_235 : decode cX2_workOut 235 = .ok (.aload_n 0, 1) := by decide +kernel
theorem dX2_workOut_236 : decode cX2_workOut 236 = .ok (.getfield 25, 3) := by decide +kernel
theorem dX2_workOut_239 : decode cX2_workOut 239 = .ok (.iload_n 2, 1) := by decide +kernel
theorem dX2_workOut_240 : decode cX2_workOut 240 = .ok (.invokestatic 106, 3) := by decide +kernel
theorem dX2_workOut_243 : decode cX2_workOut 243 = .ok (.ifCond .eq 7, 3) := by decide +kernel
theorem dX2_workOut_246 : decode cX2_workOut 246 = .ok (.iconst (-1), 1) := by decide +kernel
theorem dX2_workOut_247 : decode cX2_workOut 247 = .ok (.goto 4, 3) := by decide +kernel
theorem dX2_workOut_250 : decode cX2_workOut 250 = .ok (.iconst 0, 1) := by decide +kernel
theorem dX2_workOut_251 : decode cX2_workOut 251 = .ok (.i2s, 1) := by decide +kernel
theorem dX2_workOut_252 : decode cX2_workOut 252 = .ok (.sastore, 1) := by decide +kernel
theorem dX2_workOut_253 : decode cX2_workOut 253 = .ok (.iinc 2 1, 3) := by decide +kernel
theorem dX2_workOut_256 : decode cX2_workOut 256 = .ok (.goto (-41), 3) := by decide +kernel
theorem dX2_workOut_259 : decode cX2_workOut 259 = .ok (.aload_n 0, 1) := by decide +kernel
theorem dX2_workOut_260 : decode cX2_workOut 260 = .ok (.aload_n 0, 1) := by decide +kernel
theorem dX2_workOut_261 : decode cX2_workOut 261 = .ok (.aload_n 0, 1) := by decide +kernel
theorem dX2_workOut_262 : decode cX2_workOut 262 = .ok (.getfield 28, 3) := by decide +kernel
theorem dX2_workOut_265 : decode cX2_workOut 265 = .ok (.iconst 1, 1) := by decide +kernel
theorem dX2_workOut_266 : decode cX2_workOut 266 = .ok (.invokevirtual 110, 3) := by decide +kernel
theorem dX2_workOut_269 : decode cX2_workOut 269 = .ok (.putfield 114, 3) := by decide +kernel
theorem dX2_workOut_272 : decode cX2_workOut 272 = .ok (.return_, 1) := by decide +kernel
theorem dX2_truthWord_0 : decode cX2_truthWord 0 = .ok (.aload_n 0, 1) := by decide +kernel
theorem dX2_truthWord_1 : decode cX2_truthWord 1 = .ok (.getfield 54, 3) := by decide +kernel
theorem dX2_truthWord_4 : decode cX2_truthWord 4 = .ok (.iload_n 1, 1) := by decide +kernel
theorem dX2_truthWord_5 : decode cX2_truthWord 5 = .ok (.invokevirtual 117, 3) := by decide +kernel
theorem dX2_truthWord_8 : decode cX2_truthWord 8 = .ok (.istore_n 3, 1) := by decide +kernel
theorem dX2_truthWord_9 : decode cX2_truthWord 9 = .ok (.aload_n 0, 1) := by decide +kernel
theorem dX2_truthWord_10 : decode cX2_truthWord 10 = .ok (.getfield 54, 3) := by decide +kernel
theorem dX2_truthWord_13 : decode cX2_truthWord 13 = .ok (.iload_n 1, 1) := by decide +kernel
theorem dX2_truthWord_14 : decode cX2_truthWord 14 = .ok (.invokevirtual 120, 3) := by decide +kernel
theorem dX2_truthWord_17 : decode cX2_truthWord 17 = .ok (.istore 4, 2) := by decide +kernel
theorem dX2_truthWord_19 : decode cX2_truthWord 19 = .ok (.aload_n 0, 1) := by decide +kernel
theorem dX2_truthWord_20 : decode cX2_truthWord 20 = .ok (.getfield 54, 3) := by decide +kernel
theorem dX2_truthWord_23 : decode cX2_truthWord 23 = .ok (.iload_n 1, 1) := by decide +kernel
theorem dX2_truthWord_24 : decode cX2_truthWord 24 = .ok (.invokevirtual 123, 3) := by decide +kernel
theorem dX2_truthWord_27 : decode cX2_truthWord 27 = .ok (.tableswitch 105 1 7 #[41, 45, 47, 105, 88, 58, 73], 41) := by decide +kernel
theorem dX2_truthWord_68 : decode cX2_truthWord 68 = .ok (.ldc2_w 88, 3) := by decide +kernel
theorem dX2_truthWord_71 : decode cX2_truthWord 71 = .ok (.lreturn, 1) := by decide +kernel
theorem dX2_truthWord_72 : decode cX2_truthWord 72 = .ok (.lconst 0, 1) := by decide +kernel
theorem dX2_truthWord_73 : decode cX2_truthWord 73 = .ok (.lreturn, 1) := by decide +kernel
theorem dX2_truthWord_74 : decode cX2_truthWord 74 = .ok (.aload_n 0, 1) := by decide +kernel
theorem dX2_truthWord_75 : decode cX2_truthWord 75 = .ok (.iload_n 3, 1) := by decide +kernel
theorem dX2_truthWord_76 : decode cX2_truthWord 76 = .ok (.iload_n 2, 1) := by decide +kernel
theorem dX2_truthWord_77 : decode cX2_truthWord 77 = .ok (.invokevirtual 81, 3) := by decide +kernel
theorem dX2_truthWord_80 : decode cX2_truthWord 80 = .ok (.ldc2_w 88, 3) := by decide +kernel
theorem dX2_truthWord_83 : decode cX2_truthWord 83 = .ok (.lxor, 1) := by decide +kernel
theorem dX2_truthWord_84 : decode cX2_truthWord 84 = .ok (.lreturn, 1) := by decide +kernel
theorem dX2_truthWord_85 : decode cX2_truthWord 85 = .ok (.aload_n 0, 1) := by decide +kernel
theorem dX2_truthWord_86 : decode cX2_truthWord 86 = .ok (.iload_n 3, 1) := by decide +kernel
theorem dX2_truthWord_87 : decode cX2_truthWord 87 = .ok (.iload_n 2, 1) := by decide +kernel
theorem dX2_truthWord_88 : decode cX2_truthWord 88 = .ok (.invokevirtual 81, 3) := by decide +kernel
theorem dX2_truthWord_91 : decode cX2_truthWord 91 = .ok (.aload_n 0, 1) := by decide +kernel
theorem dX2_truthWord_92 : decode cX2_truthWord 92 = .ok (.iload 4, 2) := by decide +kernel
theorem dX2_truthWord_94 : decode cX2_truthWord 94 = .ok (.iload_n 2, 1) := by decide +kernel
theorem dX2_truthWord_95 : decode cX2_truthWord 95 = .ok (.invokevirtual 81, 3) := by decide +kernel
theorem dX2_truthWord_98 : decode cX2_truthWord 98 = .ok (.land, 1) := by decide +kernel
theorem dX2_truthWord_99 : decode cX2_truthWord 99 = .ok (.lreturn, 1) := by decide +kernel
theorem dX2_truthWord_100 : decode cX2_truthWord 100 = .ok (.aload_n 0, 1) := by decide +kernel
theorem dX2_truthWord_101 : decode cX2_truthWord 101 = .ok (.iload_n 3, 1) := by decide +kernel
theorem dX2_truthWord_102 : decode cX2_truthWord 102 = .ok (.iload_n 2, 1) := by decide +kernel
theorem dX2_truthWord_103 : decode cX2_truthWord 103 = .ok (.invokevirtual 81, 3) := by decide +kernel
theorem dX2_truthWord_106 : decode cX2_truthWord 106 = .ok (.aload_n 0, 1) := by decide +kernel
theorem dX2_truthWord_107 : decode cX2_truthWord 107 = .ok (.iload 4, 2) := by decide +kernel
theorem dX2_truthWord_109 : decode cX2_truthWord 109 = .ok (.iload_n 2, 1) := by decide +kernel
theorem dX2_truthWord_110 : decode cX2_truthWord 110 = .ok (.invokevirtual 81, 3) := by decide +kernel
theorem dX2_truthWord_113 : decode cX2_truthWord 113 = .ok (.lor, 1) := by decide +kernel
theorem dX2_truthWord_114 : decode cX2_truthWord 114 = .ok (.lreturn, 1) := by decide +kernel
theorem dX2_truthWord_115 : decode cX2_truthWord 115 = .ok (.aload_n 0, 1) := by decide +kernel
theorem dX2_truthWord_116 : decode cX2_truthWord 116 = .ok (.getfield 54, 3) := by decide +kernel
theorem dX2_truthWord_119 : decode cX2_truthWord 119 = .ok (.iload_n 1, 1) := by decide +kernel
theorem dX2_truthWord_120 : decode cX2_truthWord 120 = .ok (.invokevirtual 126, 3) := by decide +kernel
theorem dX2_truthWord_123 : decode cX2_truthWord 123 = .ok (.iload_n 2, 1) := by decide +kernel
theorem dX2_truthWord_124 : decode cX2_truthWord 124 = .ok (.invokestatic 129, 3) := by decide +kernel
theorem dX2_truthWord_127 : decode cX2_truthWord 127 = .ok (.ldc2_w 88, 3) := by decide +kernel
theorem dX2_truthWord_130 : decode cX2_truthWord 130 = .ok (.lxor, 1) := by decide +kernel
theorem dX2_truthWord_131 : decode cX2_truthWord 131 = .ok (.lreturn, 1) := by decide +kernel
theorem dX2_truthWord_132 : decode cX2_truthWord 132 = .ok (.aload_n 0, 1) := by decide +kernel
theorem dX2_truthWord_133 : decode cX2_truthWord 133 = .ok (.getfield 54, 3) := by decide +kernel
theorem dX2_truthWord_136 : decode cX2_truthWord 136 = .ok (.iload_n 1, 1) := by decide +kernel
theorem dX2_truthWord_137 : decode cX2_truthWord 137 = .ok (.invokevirtual 126, 3) := by decide +kernel
theorem dX2_truthWord_140 : decode cX2_truthWord 140 = .ok (.iload_n 2, 1) := by decide +kernel
theorem dX2_truthWord_141 : decode cX2_truthWord 141 = .ok (.invokestatic 129, 3) := by decide +kernel
theorem dX2_truthWord_144 : decode cX2_truthWord 144 = .ok (.lreturn, 1) := by decide +kernel
theorem dX2_truthOf_0 : decode cX2_truthOf 0 = .ok (.iload_n 1, 1) := by decide +kernel
theorem dX2_truthOf_1 : decode cX2_truthOf 1 = .ok (.ifCond .lt 34, 3) := by decide +kernel
theorem dX2_truthOf_4 : decode cX2_truthOf 4 = .ok (.iload_n 1, 1) := by decide +kernel
theorem dX2_truthOf_5 : decode cX2_truthOf 5 = .ok (.sipush 200, 3) := by decide +kernel
theorem dX2_truthOf_8 : decode cX2_truthOf 8 = .ok (.if_icmp .ge 27, 3) := by decide +kernel
theorem dX2_truthOf_11 : decode cX2_truthOf 11 = .ok (.iload_n 2, 1) := by decide +kernel
theorem dX2_truthOf_12 : decode cX2_truthOf 12 = .ok (.ifCond .lt 23, 3) := by decide +kernel
theorem dX2_truthOf_15 : decode cX2_truthOf 15 = .ok (.iload_n 2, 1) := by decide +kernel
theorem dX2_truthOf_16 : decode cX2_truthOf 16 = .ok (.bipush 8, 2) := by decide +kernel
theorem dX2_truthOf_18 : decode cX2_truthOf 18 = .ok (.if_icmp .ge 17, 3) := by decide +kernel
theorem dX2_truthOf_21 : decode cX2_truthOf 21 = .ok (.aload_n 0, 1) := by decide +kernel
theorem dX2_truthOf_22 : decode cX2_truthOf 22 = .ok (.getfield 9, 3) := by decide +kernel
theorem dX2_truthOf_25 : decode cX2_truthOf 25 = .ok (.iload_n 1, 1) := by decide +kernel
theorem dX2_truthOf_26 : decode cX2_truthOf 26 = .ok (.bipush 8, 2) := by decide +kernel
theorem dX2_truthOf_28 : decode cX2_truthOf 28 = .ok (.imul, 1) := by decide +kernel
theorem dX2_truthOf_29 : decode cX2_truthOf 29 = .ok (.iload_n 2, 1) := by decide +kernel
theorem dX2_truthOf_30 : decode cX2_truthOf 30 = .ok (.iadd, 1) := by decide +kernel
theorem dX2_truthOf_31 : decode cX2_truthOf 31 = .ok (.laload, 1) := by decide +kernel
theorem dX2_truthOf_32 : decode cX2_truthOf 32 = .ok (.goto 4, 3) := by decide +kernel
theorem dX2_truthOf_35 : decode cX2_truthOf 35 = .ok (.lconst 0, 1) := by decide +kernel
theorem dX2_truthOf_36 : decode cX2_truthOf 36 = .ok (.lreturn, 1) := by decide +kernel
theorem dX2_bitPattern_0 : decode cX2_bitPattern 0 = .ok (.iload_n 0, 1) := by decide +kernel
theorem dX2_bitPattern_1 : decode cX2_bitPattern 1 = .ok (.tableswitch 63 0 5 #[39, 43, 47, 51, 55, 59], 39) := by decide +kernel
theorem dX2_bitPattern_40 : decode cX2_bitPattern 40 = .ok (.ldc2_w 132, 3) := by decide +kernel
theorem dX2_bitPattern_43 : decode cX2_bitPattern 43 = .ok (.lreturn, 1) := by decide +kernel
theorem dX2_bitPattern_44 : decode cX2_bitPattern 44 = .ok (.ldc2_w 134, 3) := by decide +kernel
theorem dX2_bitPattern_47 : decode cX2_bitPattern 47 = .ok (.lreturn, 1) := by decide +kernel
theorem dX2_bitPattern_48 : decode cX2_bitPattern 48 = .ok (.ldc2_w 136, 3) := by decide +kernel
theorem dX2_bitPattern_51 : decode cX2_bitPattern 51 = .ok (.lreturn, 1) := by decide +kernel
theorem dX2_bitPattern_52 : decode cX2_bitPattern 52 = .ok (.ldc2_w 138, 3) := by decide +kernel
theorem dX2_bitPattern_55 : decode cX2_bitPattern 55 = .ok (.lreturn, 1) := by decide +kernel
theorem dX2_bitPattern_56 : decode cX2_bitPattern 56 = .ok (.ldc2_w 140, 3) := by decide +kernel
theorem dX2_bitPattern_59 : decode cX2_bitPattern 59 = .ok (.lreturn, 1) := by decide +kernel
theorem dX2_bitPattern_60 : decode cX2_bitPattern 60 = .ok (.ldc2_w 142, 3) := by decide +kernel
theorem dX2_bitPattern_63 : decode cX2_bitPattern 63 = .ok (.lreturn, 1) := by decide +kernel
theorem dX2_bitPattern_64 : decode cX2_bitPattern 64 = .ok (.iload_n 0, 1) := by decide +kernel
theorem dX2_bitPattern_65 : decode cX2_bitPattern 65 = .ok (.iconst 5, 1) := by decide +kernel
theorem dX2_bitPattern_66 : decode cX2_bitPattern 66 = .ok (.if_icmp .le 21, 3) := by decide +kernel
theorem dX2_bitPattern_69 : decode cX2_bitPattern 69 = .ok (.iload_n 1, 1) := by decide +kernel
theorem dX2_bitPattern_70 : decode cX2_bitPattern 70 = .ok (.iload_n 0, 1) := by decide +kernel
theorem dX2_bitPattern_71 : decode cX2_bitPattern 71 = .ok (.bipush 6, 2) := by decide +kernel
theorem dX2_bitPattern_73 : decode cX2_bitPattern 73 = .ok (.isub, 1) := by decide +kernel
theorem dX2_bitPattern_74 : decode cX2_bitPattern 74 = .ok (.ishr, 1) := by decide +kernel
theorem dX2_bitPattern_75 : decode cX2_bitPattern 75 = .ok (.iconst 1, 1) := by decide +kernel
theorem dX2_bitPattern_76 : decode cX2_bitPattern 76 = .ok (.iand, 1) := by decide +kernel
theorem dX2_bitPattern_77 : decode cX2_bitPattern 77 = .ok (.iconst 1, 1) := by decide +kernel
theorem dX2_bitPattern_78 : decode cX2_bitPattern 78 = .ok (.if_icmp .ne 9, 3) := by decide +kernel
theorem dX2_bitPattern_81 : decode cX2_bitPattern 81 = .ok (.ldc2_w 88, 3) := by decide +kernel
theorem dX2_bitPattern_84 : decode cX2_bitPattern 84 = .ok (.goto 4, 3) := by decide +kernel
theorem dX2_bitPattern_87 : decode cX2_bitPattern 87 = .ok (.lconst 0, 1) := by decide +kernel
theorem dX2_bitPattern_88 : decode cX2_bitPattern 88 = .ok (.lreturn, 1) := by decide +kernel
theorem dX2_gatherAtoms_0 : decode cX2_gatherAtoms 0 = .ok (.aload_n 0, 1) := by decide +kernel
theorem dX2_gatherAtoms_1 : decode cX2_gatherAtoms 1 = .ok (.iconst 0, 1) := by decide +kernel
theorem dX2_gatherAtoms_2 : decode cX2_gatherAtoms 2 = .ok (.putfield 144, 3) := by decide +kernel
theorem dX2_gatherAtoms_5 : decode cX2_gatherAtoms 5 = .ok (.iconst 0, 1) := by decide +kernel
theorem dX2_gatherAtoms_6 : decode cX2_gatherAtoms 6 = .ok (.istore_n 1, 1) := by decide +kernel
theorem dX2_gatherAtoms_7 : decode cX2_gatherAtoms 7 = .ok (.iload_n 1, 1) := by decide +kernel
theorem dX2_gatherAtoms_8 : decode cX2_gatherAtoms 8 = .ok (.iconst 3, 1) := by decide +kernel
theorem dX2_gatherAtoms_9 : decode cX2_gatherAtoms 9 = .ok (.if_icmp .ge 117, 3) := by decide +kernel
theorem dX2_gatherAtoms_12 : decode cX2_gatherAtoms 12 = .ok (.aload_n 0, 1) := by decide +kernel
theorem dX2_gatherAtoms_13 : decode cX2_gatherAtoms 13 = .ok (.getfield 18, 3) := by decide +kernel
theorem dX2_gatherAtoms_16 : decode cX2_gatherAtoms 16 = .ok (.iload_n 1, 1) := by decide +kernel
theorem dX2_gatherAtoms_17 : decode cX2_gatherAtoms 17 = .ok (.iconst 0, 1) := by decide +kernel
theorem dX2_gatherAtoms_18 : decode cX2_gatherAtoms 18 = .ok (.iastore, 1) := by decide +kernel
theorem dX2_gatherAtoms_19 : decode cX2_gatherAtoms 19 = .ok (.aload_n 0, 1) := by decide +kernel
theorem dX2_gatherAtoms_20 : decode cX2_gatherAtoms 20 = .ok (.getfield 22, 3) := by decide +kernel
theorem dX2_gatherAtoms_23 : decode cX2_gatherAtoms 23 = .ok (.iload_n 1, 1) := by decide +kernel
theorem dX2_gatherAtoms_24 : decode cX2_gatherAtoms 24 = .ok (.iconst 0, 1) := by decide +kernel
theorem dX2_gatherAtoms_25 : decode cX2_gatherAtoms 25 = .ok (.iastore, 1) := by decide +kernel
theorem dX2_gatherAtoms_26 : decode cX2_gatherAtoms 26 = .ok (.iconst 0, 1) := by decide +kernel
theorem dX2_gatherAtoms_27 : decode cX2_gatherAtoms 27 = .ok (.istore_n 2, 1) := by decide +kernel
theorem dX2_gatherAtoms_28 : decode cX2_gatherAtoms 28 = .ok (.iload_n 2, 1) := by decide +kernel
theorem dX2_gatherAtoms_29 : decode cX2_gatherAtoms 29 = .ok (.aload_n 0, 1) := by decide +kernel
theorem dX2_gatherAtoms_30 : decode cX2_gatherAtoms 30 = .ok (.getfield 54, 3) := by decide +kernel
theorem dX2_gatherAtoms_33 : decode cX2_gatherAtoms 33 = .ok (.getfield 55, 3) := by decide +kernel
theorem dX2_gatherAtoms_36 : decode cX2_gatherAtoms 36 = .ok (.if_icmp .ge 69, 3) := by decide +kernel
theorem dX2_gatherAtoms_39 : decode cX2_gatherAtoms 39 = .ok (.aload_n 0, 1) := by decide +kernel
theorem dX2_gatherAtoms_40 : decode cX2_gatherAtoms 40 = .ok (.getfield 54, 3) := by decide +kernel
theorem dX2_gatherAtoms_43 : decode cX2_gatherAtoms 43 = .ok (.iload_n 2, 1) := by decide +kernel
theorem dX2_gatherAtoms_44 : decode cX2_gatherAtoms 44 = .ok (.invokevirtual 147, 3) := by decide +kernel
theorem dX2_gatherAtoms_47 : decode cX2_gatherAtoms 47 = .ok (.istore_n 3, 1) := by decide +kernel
theorem dX2_gatherAtoms_48 : decode cX2_gatherAtoms 48 = .ok (.iload_n 3, 1) := by decide +kernel
theorem dX2_gatherAtoms_49 : decode cX2_gatherAtoms 49 = .ok (.iload_n 1, 1) := by decide +kernel
theorem dX2_gatherAtoms_50 : decode cX2_gatherAtoms 50 = .ok (.if_icmp .ne 15, 3) := by decide +kernel
theorem dX2_gatherAtoms_53 : decode cX2_gatherAtoms 53 = .ok (.aload_n 0, 1) := by decide +kernel
theorem dX2_gatherAtoms_54 : decode cX2_gatherAtoms 54 = .ok (.getfield 18, 3) := by decide +kernel
theorem dX2_gatherAtoms_57 : decode cX2_gatherAtoms 57 = .ok (.iload_n 1, 1) := by decide +kernel
theorem dX2_gatherAtoms_58 : decode cX2_gatherAtoms 58 = .ok (.dup2, 1) := by decide +kernel
theorem dX2_gatherAtoms_59 : decode cX2_gatherAtoms 59 = .ok (.iaload, 1) := by decide +kernel
theorem dX2_gatherAtoms_60 : decode cX2_gatherAtoms 60 = .ok (.iconst 1, 1) := by decide +kernel
theorem dX2_gatherAtoms_61 : decode cX2_gatherAtoms 61 = .ok (.iload_n 2, 1) := by decide +kernel
theorem dX2_gatherAtoms_62 : decode cX2_gatherAtoms 62 = .ok (.ishl, 1) := by decide +kernel
theorem dX2_gatherAtoms_63 : decode cX2_gatherAtoms 63 = .ok (.ior, 1) := by decide +kernel
theorem dX2_gatherAtoms_64 : decode cX2_gatherAtoms 64 = .ok (.iastore, 1) := by decide +kernel
theorem dX2_gatherAtoms_65 : decode cX2_gatherAtoms 65 = .ok (.iload_n 3, 1) := by decide +kernel
theorem dX2_gatherAtoms_66 : decode cX2_gatherAtoms 66 = .ok (.iload_n 1, 1) := by decide +kernel
theorem dX2_gatherAtoms_67 : decode cX2_gatherAtoms 67 = .ok (.if_icmp .eq 20, 3) := by decide +kernel
theorem dX2_gatherAtoms_70 : decode cX2_gatherAtoms 70 = .ok (.iload_n 3, 1) := by decide +kernel
theorem dX2_gatherAtoms_71 : decode cX2_gatherAtoms 71 = .ok (.iconst (-1), 1) := by decide +kernel
theorem dX2_gatherAtoms_72 : decode cX2_gatherAtoms 72 = .ok (.if_icmp .eq 27, 3) := by decide +kernel
theorem dX2_gatherAtoms_75 : decode cX2_gatherAtoms 75 = .ok (.aload_n 0, 1) := by decide +kernel
theorem dX2_gatherAtoms_76 : decode cX2_gatherAtoms 76 = .ok (.getfield 44, 3) := by decide +kernel
theorem dX2_gatherAtoms_79 : decode cX2_gatherAtoms 79 = .ok (.iload_n 1, 1) := by decide +kernel
theorem dX2_gatherAtoms_80 : decode cX2_gatherAtoms 80 = .ok (.iload_n 3, 1) := by decide +kernel
theorem dX2_gatherAtoms_81 : decode cX2_gatherAtoms 81 = .ok (.invokevirtual 150, 3) := by decide +kernel
theorem dX2_gatherAtoms_84 : decode cX2_gatherAtoms 84 = .ok (.ifCond .eq 15, 3) := by decide +kernel
theorem dX2_gatherAtoms_87 : decode cX2_gatherAtoms 87 = .ok (.aload_n 0, 1) := by decide +kernel
theorem dX2_gatherAtoms_88 : decode cX2_gatherAtoms 88 = .ok (.getfield 22, 3) := by decide +kernel
theorem dX2_gatherAtoms_91 : decode cX2_gatherAtoms 91 = .ok (.iload_n 1, 1) := by decide +kernel
theorem dX2_gatherAtoms_92 : decode cX2_gatherAtoms 92 = .ok (.dup2, 1) := by decide +kernel
theorem dX2_gatherAtoms_93 : decode cX2_gatherAtoms 93 = .ok (.iaload, 1) := by decide +kernel
theorem dX2_gatherAtoms_94 : decode cX2_gatherAtoms 94 = .ok (.iconst 1, 1) := by decide +kernel
theorem dX2_gatherAtoms_95 : decode cX2_gatherAtoms 95 = .ok (.iload_n 2, 1) := by decide +kernel
theorem dX2_gatherAtoms_96 : decode cX2_gatherAtoms 96 = .ok (.ishl, 1) := by decide +kernel
theorem dX2_gatherAtoms_97 : decode cX2_gatherAtoms 97 = .ok (.ior, 1) := by decide +kernel
theorem dX2_gatherAtoms_98 : decode cX2_gatherAtoms 98 = .ok (.iastore, 1) := by decide +kernel
theorem dX2_gatherAtoms_99 : decode cX2_gatherAtoms 99 = .ok (.iinc 2 1, 3) := by decide +kernel
theorem dX2_gatherAtoms_102 : decode cX2_gatherAtoms 102 = .ok (.goto (-74), 3) := by decide +kernel
theorem dX2_gatherAtoms_105 : decode cX2_gatherAtoms 105 = .ok (.aload_n 0, 1) := by decide +kernel
theorem dX2_gatherAtoms_106 : decode cX2_gatherAtoms 106 = .ok (.dup, 1) := by decide +kernel
theorem dX2_gatherAtoms_107 : decode cX2_gatherAtoms 107 = .ok (.getfield 144, 3) := by decide +kernel
theorem dX2_gatherAtoms_110 : decode cX2_gatherAtoms 110 = .ok (.aload_n 0, 1) := by decide +kernel
theorem dX2_gatherAtoms_111 : decode cX2_gatherAtoms 111 = .ok (.getfield 18, 3) := by decide +kernel
theorem dX2_gatherAtoms_114 : decode cX2_gatherAtoms 114 = .ok (.iload_n 1, 1) := by decide +kernel
theorem dX2_gatherAtoms_115 : decode cX2_gatherAtoms 115 = .ok (.iaload, 1) := by decide +kernel
theorem dX2_gatherAtoms_116 : decode cX2_gatherAtoms 116 = .ok (.ior, 1) := by decide +kernel
theorem dX2_gatherAtoms_117 : decode cX2_gatherAtoms 117 = .ok (.putfield 144, 3) := by decide +kernel
theorem dX2_gatherAtoms_120 : decode cX2_gatherAtoms 120 = .ok (.iinc 1 1, 3) := by decide +kernel
theorem dX2_gatherAtoms_123 : decode cX2_gatherAtoms 123 = .ok (.goto (-116), 3) := by decide +kernel
theorem dX2_gatherAtoms_126 : decode cX2_gatherAtoms 126 = .ok (.return_, 1) := by decide +kernel
theorem dX2_takeFair_0 : decode cX2_takeFair 0 = .ok (.iconst 0, 1) := by decide +kernel
theorem dX2_takeFair_1 : decode cX2_takeFair 1 = .ok (.istore_n 3, 1) := by decide +kernel
theorem dX2_takeFair_2 : decode cX2_takeFair 2 = .ok (.iload_n 3, 1) := by decide +kernel
theorem dX2_takeFair_3 : decode cX2_takeFair 3 = .ok (.bipush 8, 2) := by decide +kernel
theorem dX2_takeFair_5 : decode cX2_takeFair 5 = .ok (.if_icmp .ge 109, 3) := by decide +kernel
theorem dX2_takeFair_8 : decode cX2_takeFair 8 = .ok (.aload_n 0, 1) := by decide +kernel
theorem dX2_takeFair_9 : decode cX2_takeFair 9 = .ok (.getfield 67, 3) := by decide +kernel
theorem dX2_takeFair_12 : decode cX2_takeFair 12 = .ok (.bipush 64, 2) := by decide +kernel
theorem dX2_takeFair_14 : decode cX2_takeFair 14 = .ok (.iload_n 3, 1) := by decide +kernel
theorem dX2_takeFair_15 : decode cX2_takeFair 15 = .ok (.imul, 1) := by decide +kernel
theorem dX2_takeFair_16 : decode cX2_takeFair 16 = .ok (.isub, 1) := by decide +kernel
theorem dX2_takeFair_17 : decode cX2_takeFair 17 = .ok (.istore 4, 2) := by decide +kernel
theorem dX2_takeFair_19 : decode cX2_takeFair 19 = .ok (.iload 4, 2) := by decide +kernel
theorem dX2_takeFair_21 : decode cX2_takeFair 21 = .ok (.bipush 64, 2) := by decide +kernel
theorem dX2_takeFair_23 : decode cX2_takeFair 23 = .ok (.if_icmp .lt 9, 3) := by decide +kernel
theorem dX2_takeFair_26 : decode cX2_takeFair 26 = .ok (.ldc2_w 88, 3) := by decide +kernel
theorem dX2_takeFair_29 : decode cX2_takeFair 29 = .ok (.goto 18, 3) := by decide +kernel
theorem dX2_takeFair_32 : decode cX2_takeFair 32 = .ok (.iload 4, 2) := by decide +kernel
theorem dX2_takeFair_34 : decode cX2_takeFair 34 = .ok (.ifCond .gt 7, 3) := by decide +kernel
theorem dX2_takeFair_37 : decode cX2_takeFair 37 = .ok (.lconst 0, 1) := by decide +kernel
theorem dX2_takeFair_38 : decode cX2_takeFair 38 = .ok (.goto 9, 3) := by decide +kernel
theorem dX2_takeFair_41 : decode cX2_takeFair 41 = .ok (.lconst 1, 1) := by decide +kernel
theorem dX2_takeFair_42 : decode cX2_takeFair 42 = .ok (.iload 4, 2) := by decide +kernel
theorem dX2_takeFair_44 : decode cX2_takeFair 44 = .ok (.lshl, 1) := by decide +kernel
theorem dX2_takeFair_45 : decode cX2_takeFair 45 = .ok (.lconst 1, 1) := by decide +kernel
theorem dX2_takeFair_46 : decode cX2_takeFair 46 = .ok (.lsub, 1) := by decide +kernel
theorem dX2_takeFair_47 : decode cX2_takeFair 47 = .ok (.lstore 5, 2) := by decide +kernel
theorem dX2_takeFair_49 : decode cX2_takeFair 49 = .ok (.iconst 0, 1) := by decide +kernel
theorem dX2_takeFair_50 : decode cX2_takeFair 50 = .ok (.istore 7, 2) := by decide +kernel
theorem dX2_takeFair_52 : decode cX2_takeFair 52 = .ok (.iload 7, 2) := by decide +kernel
theorem dX2_takeFair_54 : decode cX2_takeFair 54 = .ok (.aload_n 0, 1) := by decide +kernel
theorem dX2_takeFair_55 : decode cX2_takeFair 55 = .ok (.getfield 44, 3) := by decide +kernel
theorem dX2_takeFair_58 : decode cX2_takeFair 58 = .ok (.getfield 93, 3) := by decide +kernel
theorem dX2_takeFair_61 : decode cX2_takeFair 61 = .ok (.if_icmp .ge 42, 3) := by decide +kernel
theorem dX2_takeFair_64 : decode cX2_takeFair 64 = .ok (.iload_n 1, 1) := by decide +kernel
theorem dX2_takeFair_65 : decode cX2_takeFair 65 = .ok (.iload 7, 2) := by decide +kernel
theorem dX2_takeFair_67 : decode cX2_takeFair 67 = .ok (.ishr, 1) := by decide +kernel
theorem dX2_takeFair_68 : decode cX2_takeFair 68 = .ok (.iconst 1, 1) := by decide +kernel
theorem dX2_takeFair_69 : decode cX2_takeFair 69 = .ok (.iand, 1) := by decide +kernel
theorem dX2_takeFair_70 : decode cX2_takeFair 70 = .ok (.iconst 1, 1) := by decide +kernel
theorem dX2_takeFair_71 : decode cX2_takeFair 71 = .ok (.if_icmp .ne 26, 3) := by decide +kernel
theorem dX2_takeFair_74 : decode cX2_takeFair 74 = .ok (.lload 5, 2) := by decide +kernel
theorem dX2_takeFair_76 : decode cX2_takeFair 76 = .ok (.aload_n 0, 1) := by decide +kernel
theorem dX2_takeFair_77 : decode cX2_takeFair 77 = .ok (.aload_n 0, 1) := by decide +kernel
theorem dX2_takeFair_78 : decode cX2_takeFair 78 = .ok (.getfield 44, 3) := by decide +kernel
theorem dX2_takeFair_81 : decode cX2_takeFair 81 = .ok (.iload 7, 2) := by decide +kernel
theorem dX2_takeFair_83 : decode cX2_takeFair 83 = .ok (.invokevirtual 154, 3) := by decide +kernel
theorem dX2_takeFair_86 : decode cX2_takeFair 86 = .ok (.iload_n 3, 1) := by decide +kernel
theorem dX2_takeFair_87 : decode cX2_takeFair 87 = .ok (.invokevirtual 157, 3) := by decide +kernel
theorem dX2_takeFair_90 : decode cX2_takeFair 90 = .ok (.ldc2_w 88, 3) := by decide +kernel
theorem dX2_takeFair_93 : decode cX2_takeFair 93 = .ok (.lxor, 1) := by decide +kernel
theorem dX2_takeFair_94 : decode cX2_takeFair 94 = .ok (.land, 1) := by decide +kernel
theorem dX2_takeFair_95 : decode cX2_takeFair 95 = .ok (.lstore 5, 2) := by decide +kernel
theorem dX2_takeFair_97 : decode cX2_takeFair 97 = .ok (.iinc 7 1, 3) := by decide +kernel
theorem dX2_takeFair_100 : decode cX2_takeFair 100 = .ok (.goto (-48), 3) := by decide +kernel
theorem dX2_takeFair_103 : decode cX2_takeFair 103 = .ok (.aload_n 2, 1) := by decide +kernel
theorem dX2_takeFair_104 : decode cX2_takeFair 104 = .ok (.iload_n 3, 1) := by decide +kernel
theorem dX2_takeFair_105 : decode cX2_takeFair 105 = .ok (.lload 5, 2) := by decide +kernel
theorem dX2_takeFair_107 : decode cX2_takeFair 107 = .ok (.lastore, 1) := by decide +kernel
theorem dX2_takeFair_108 : decode cX2_takeFair 108 = .ok (.iinc 3 1, 3) := by decide +kernel
theorem dX2_takeFair_111 : decode cX2_takeFair 111 = .ok (.goto (-109), 3) := by decide +kernel
theorem dX2_takeFair_114 : decode cX2_takeFair 114 = .ok (.return_, 1) := by decide +kernel
theorem dX2_broken_0 : decode cX2_broken 0 = .ok (.aload_n 0, 1) := by decide +kernel
theorem dX2_broken_1 : decode cX2_broken 1 = .ok (.iload_n 1, 1) := by decide +kernel
theorem dX2_broken_2 : decode cX2_broken 2 = .ok (.invokestatic 160, 3) := by decide +kernel
theorem dX2_broken_5 : decode cX2_broken 5 = .ok (.iload_n 2, 1) := by decide +kernel
theorem dX2_broken_6 : decode cX2_broken 6 = .ok (.invokevirtual 81, 3) := by decide +kernel
theorem dX2_broken_9 : decode cX2_broken 9 = .ok (.lstore_n 3, 1) := by decide +kernel
theorem dX2_broken_10 : decode cX2_broken 10 = .ok (.aload_n 0, 1) := by decide +kernel
theorem dX2_broken_11 : decode cX2_broken 11 = .ok (.iload_n 1, 1) := by decide +kernel
theorem dX2_broken_12 : decode cX2_broken 12 = .ok (.invokestatic 161, 3) := by decide +kernel
theorem dX2_broken_15 : decode cX2_broken 15 = .ok (.iload_n 2, 1) := by decide +kernel
theorem dX2_broken_16 : decode cX2_broken 16 = .ok (.invokevirtual 81, 3) := by decide +kernel
theorem dX2_broken_19 : decode cX2_broken 19 = .ok (.lstore 5, 2) := by decide +kernel
theorem dX2_broken_21 : decode cX2_broken 21 = .ok (.iload_n 1, 1) := by decide +kernel
theorem dX2_broken_22 : decode cX2_broken 22 = .ok (.invokestatic 162, 3) := by decide +kernel
theorem dX2_broken_25 : decode cX2_broken 25 = .ok (.iconst 1, 1) := by decide +kernel
theorem dX2_broken_26 : decode cX2_broken 26 = .ok (.if_icmp .ne 10, 3) := by decide +kernel
theorem dX2_broken_29 : decode cX2_broken 29 = .ok (.lload_n 3, 1) := by decide +kernel
theorem dX2_broken_30 : decode cX2_broken 30 = .ok (.lload 5, 2) := by decide +kernel
theorem dX2_broken_32 : decode cX2_broken 32 = .ok (.lxor, 1) := by decide +kernel
theorem dX2_broken_33 : decode cX2_broken 33 = .ok (.goto 11, 3) := by decide +kernel
theorem dX2_broken_36 : decode cX2_broken 36 = .ok (.lload_n 3, 1) := by decide +kernel
theorem dX2_broken_37 : decode cX2_broken 37 = .ok (.lload 5, 2) := by decide +kernel
theorem dX2_broken_39 : decode cX2_broken 39 = .ok (.ldc2_w 88, 3) := by decide +kernel
theorem dX2_broken_42 : decode cX2_broken 42 = .ok (.lxor, 1) := by decide +kernel
theorem dX2_broken_43 : decode cX2_broken 43 = .ok (.land, 1) := by decide +kernel
theorem dX2_broken_44 : decode cX2_broken 44 = .ok (.lreturn, 1) := by decide +kernel
theorem dX2_settle_0 : decode cX2_settle 0 = .ok (.iconst 1, 1) := by decide +kernel
theorem dX2_settle_1 : decode cX2_settle 1 = .ok (.istore_n 3, 1) := by decide +kernel
theorem dX2_settle_2 : decode cX2_settle 2 = .ok (.iload_n 3, 1) := by decide +kernel
theorem dX2_settle_3 : decode cX2_settle 3 = .ok (.sipush 512, 3) := by decide +kernel
theorem dX2_settle_6 : decode cX2_settle 6 = .ok (.if_icmp .gt 30, 3) := by decide +kernel
theorem dX2_settle_9 : decode cX2_settle 9 = .ok (.aload_n 0, 1) := by decide +kernel
theorem dX2_settle_10 : decode cX2_settle 10 = .ok (.aload_n 1, 1) := by decide +kernel
theorem dX2_settle_11 : decode cX2_settle 11 = .ok (.iload_n 2, 1) := by decide +kernel
theorem dX2_settle_12 : decode cX2_settle 12 = .ok (.ifCond .eq 7, 3) := by decide +kernel
theorem dX2_settle_15 : decode cX2_settle 15 = .ok (.iload_n 3, 1) := by decide +kernel
theorem dX2_settle_16 : decode cX2_settle 16 = .ok (.goto 4, 3) := by decide +kernel
theorem dX2_settle_19 : decode cX2_settle 19 = .ok (.iconst 0, 1) := by decide +kernel
theorem dX2_settle_20 : decode cX2_settle 20 = .ok (.invokevirtual 163, 3) := by decide +kernel
theorem dX2_settle_23 : decode cX2_settle 23 = .ok (.ifCond .ne 7, 3) := by decide +kernel
theorem dX2_settle_26 : decode cX2_settle 26 = .ok (.iload_n 3, 1) := by decide +kernel
theorem dX2_settle_27 : decode cX2_settle 27 = .ok (.iconst 1, 1) := by decide +kernel
theorem dX2_settle_28 : decode cX2_settle 28 = .ok (.isub, 1) := by decide +kernel
theorem dX2_settle_29 : decode cX2_settle 29 = .ok (.ireturn, 1) := by decide +kernel
theorem dX2_settle_30 : decode cX2_settle 30 = .ok (.iinc 3 1, 3) := by decide +kernel
theorem dX2_settle_33 : decode cX2_settle 33 = .ok (.goto (-31), 3) := by decide +kernel
theorem dX2_settle_36 : decode cX2_settle 36 = .ok (.sipush 512, 3) := by decide +kernel
theorem dX2_settle_39 : decode cX2_settle 39 = .ok (.ireturn, 1) := by decide +kernel
theorem dX2_goRound_0 : decode cX2_goRound 0 = .ok (.aload_n 1, 1) := by decide +kernel
theorem dX2_goRound_1 : decode cX2_goRound 1 = .ok (.iconst 0, 1) := by decide +kernel
theorem dX2_goRound_2 : decode cX2_goRound 2 = .ok (.aload_n 0, 1) := by decide +kernel
theorem dX2_goRound_3 : decode cX2_goRound 3 = .ok (.getfield 34, 3) := by decide +kernel
theorem dX2_goRound_6 : decode cX2_goRound 6 = .ok (.iconst 0, 1) := by decide +kernel
theorem dX2_goRound_7 : decode cX2_goRound 7 = .ok (.bipush 8, 2) := by decide +kernel
theorem dX2_goRound_9 : decode cX2_goRound 9 = .ok (.invokestatic 100, 3) := by decide +kernel
theorem dX2_goRound_12 : decode cX2_goRound 12 = .ok (.iconst 0, 1) := by decide +kernel
theorem dX2_goRound_13 : decode cX2_goRound 13 = .ok (.istore_n 3, 1) := by decide +kernel
theorem dX2_goRound_14 : decode cX2_goRound 14 = .ok (.iconst 0, 1) := by decide +kernel
theorem dX2_goRound_15 : decode cX2_goRound 15 = .ok (.istore 4, 2) := by decide +kernel
theorem dX2_goRound_17 : decode cX2_goRound 17 = .ok (.iload 4, 2) := by decide +kernel
theorem dX2_goRound_19 : decode cX2_goRound 19 = .ok (.aload_n 0, 1) := by decide +kernel
theorem dX2_goRound_20 : decode cX2_goRound 20 = .ok (.getfield 67, 3) := by decide +kernel
theorem dX2_goRound_23 : decode cX2_goRound 23 = .ok (.if_icmp .ge 94, 3) := by decide +kernel
theorem dX2_goRound_26 : decode cX2_goRound 26 = .ok (.iload 4, 2) := by decide +kernel
theorem dX2_goRound_28 : decode cX2_goRound 28 = .ok (.sipush 512, 3) := by decide +kernel
theorem dX2_goRound_31 : decode cX2_goRound 31 = .ok (.if_icmp .ge 86, 3) := by decide +kernel
theorem dX2_goRound_34 : decode cX2_goRound 34 = .ok (.iload 4, 2) := by decide +kernel
theorem dX2_goRound_36 : decode cX2_goRound 36 = .ok (.aload_n 0, 1) := by decide +kernel
theorem dX2_goRound_37 : decode cX2_goRound 37 = .ok (.getfield 144, 3) := by decide +kernel
theorem dX2_goRound_40 : decode cX2_goRound 40 = .ok (.iand, 1) := by decide +kernel
theorem dX2_goRound_41 : decode cX2_goRound 41 = .ok (.istore 5, 2) := by decide +kernel
theorem dX2_goRound_43 : decode cX2_goRound 43 = .ok (.iload 5, 2) := by decide +kernel
theorem dX2_goRound_45 : decode cX2_goRound 45 = .ok (.iload 4, 2) := by decide +kernel
theorem dX2_goRound_47 : decode cX2_goRound 47 = .ok (.if_icmp .ne 18, 3) := by decide +kernel
theorem dX2_goRound_50 : decode cX2_goRound 50 = .ok (.aload_n 0, 1) := by decide +kernel
theorem dX2_goRound_51 : decode cX2_goRound 51 = .ok (.getfield 37, 3) := by decide +kernel
theorem dX2_goRound_54 : decode cX2_goRound 54 = .ok (.iload 4, 2) := by decide +kernel
theorem dX2_goRound_56 : decode cX2_goRound 56 = .ok (.aload_n 0, 1) := by decide +kernel
theorem dX2_goRound_57 : decode cX2_goRound 57 = .ok (.iload 4, 2) := by decide +kernel
theorem dX2_goRound_59 : decode cX2_goRound 59 = .ok (.invokevirtual 166, 3) := by decide +kernel
theorem dX2_goRound_62 : decode cX2_goRound 62 = .ok (.invokestatic 169, 3) := by decide +kernel
theorem dX2_goRound_65 : decode cX2_goRound 65 = .ok (.aload_n 0, 1) := by decide +kernel
theorem dX2_goRound_66 : decode cX2_goRound 66 = .ok (.getfield 34, 3) := by decide +kernel
theorem dX2_goRound_69 : decode cX2_goRound 69 = .ok (.iload 4, 2) := by decide +kernel
theorem dX2_goRound_71 : decode cX2_goRound 71 = .ok (.invokestatic 106, 3) := by decide +kernel
theorem dX2_goRound_74 : decode cX2_goRound 74 = .ok (.ifCond .eq 37, 3) := by decide +kernel
theorem dX2_goRound_77 : decode cX2_goRound 77 = .ok (.aload_n 0, 1) := by decide +kernel
theorem dX2_goRound_78 : decode cX2_goRound 78 = .ok (.getfield 37, 3) := by decide +kernel
theorem dX2_goRound_81 : decode cX2_goRound 81 = .ok (.iload 5, 2) := by decide +kernel
theorem dX2_goRound_83 : decode cX2_goRound 83 = .ok (.invokestatic 106, 3) := by decide +kernel
theorem dX2_goRound_86 : decode cX2_goRound 86 = .ok (.ifCond .ne 25, 3) := by decide +kernel
theorem dX2_goRound_89 : decode cX2_goRound 89 = .ok (.aload_n 1, 1) := by decide +kernel
theorem dX2_goRound_90 : decode cX2_goRound 90 = .ok (.iload 4, 2) := by decide +kernel
theorem dX2_goRound_92 : decode cX2_goRound 92 = .ok (.iconst 0, 1) := by decide +kernel
theorem dX2_goRound_93 : decode cX2_goRound 93 = .ok (.invokestatic 169, 3) := by decide +kernel
theorem dX2_goRound_96 : decode cX2_goRound 96 = .ok (.iconst 1, 1) := by decide +kernel
theorem dX2_goRound_97 : decode cX2_goRound 97 = .ok (.istore_n 3, 1) := by decide +kernel
theorem dX2_goRound_98 : decode cX2_goRound 98 = .ok (.iload_n 2, 1) := by decide +kernel
theorem dX2_goRound_99 : decode cX2_goRound 99 = .ok (.ifCond .le 12, 3) := by decide +kernel
theorem dX2_goRound_102 : decode cX2_goRound 102 = .ok (.aload_n 0, 1) := by decide +kernel
theorem dX2_goRound_103 : decode cX2_goRound 103 = .ok (.getfield 40, 3) := by decide +kernel
theorem dX2_goRound_106 : decode cX2_goRound 106 = .ok (.iload 4, 2) := by decide +kernel
theorem dX2_goRound_108 : decode cX2_goRound 108 = .ok (.iload_n 2, 1) := by decide +kernel
theorem dX2_goRound_109 : decode cX2_goRound 109 = .ok (.i2s, 1) := by decide +kernel
theorem dX2_goRound_110 : decode cX2_goRound 110 = .ok (.sastore, 1) := by decide +kernel
theorem dX2_goRound_111 : decode cX2_goRound 111 = .ok (.iinc 4 1, 3) := by decide +kernel
theorem dX2_goRound_114 : decode cX2_goRound 114 = .ok (.goto (-97), 3) := by decide +kernel
theorem dX2_goRound_117 : decode cX2_goRound 117 = .ok (.iload_n 3, 1) := by decide +kernel
theorem dX2_goRound_118 : decode cX2_goRound 118 = .ok (.ireturn, 1) := by decide +kernel
theorem dX2_isMet_0 : decode cX2_isMet 0 = .ok (.iconst 0, 1) := by decide +kernel
theorem dX2_isMet_1 : decode cX2_isMet 1 = .ok (.istore_n 2, 1) := by decide +kernel
theorem dX2_isMet_2 : decode cX2_isMet 2 = .ok (.iload_n 2, 1) := by decide +kernel
theorem dX2_isMet_3 : decode cX2_isMet 3 = .ok (.aload_n 0, 1) := by decide +kernel
theorem dX2_isMet_4 : decode cX2_isMet 4 = .ok (.getfield 54, 3) := by decide +kernel
theorem dX2_isMet_7 : decode cX2_isMet 7 = .ok (.getfield 55, 3) := by decide +kernel
theorem dX2_isMet_10 : decode cX2_isMet 10 = .ok (.if_icmp .ge 56, 3) := by decide +kernel
theorem dX2_isMet_13 : decode cX2_isMet 13 = .ok (.iload_n 1, 1) := by decide +kernel
theorem dX2_isMet_14 : decode cX2_isMet 14 = .ok (.iload_n 2, 1) := by decide +kernel
theorem dX2_isMet_15 : decode cX2_isMet 15 = .ok (.ishr, 1) := by decide +kernel
theorem dX2_isMet_16 : decode cX2_isMet 16 = .ok (.iconst 1, 1) := by decide +kernel
theorem dX2_isMet_17 : decode cX2_isMet 17 = .ok (.iand, 1) := by decide +kernel
theorem dX2_isMet_18 : decode cX2_isMet 18 = .ok (.iconst 1, 1) := by decide +kernel
theorem dX2_isMet_19 : decode cX2_isMet 19 = .ok (.if_icmp .ne 19, 3) := by decide +kernel
theorem dX2_isMet_22 : decode cX2_isMet 22 = .ok (.aload_n 0, 1) := by decide +kernel
theorem dX2_isMet_23 : decode cX2_isMet 23 = .ok (.getfield 54, 3) := by decide +kernel
theorem dX2_isMet_26 : decode cX2_isMet 26 = .ok (.iload_n 2, 1) := by decide +kernel
theorem dX2_isMet_27 : decode cX2_isMet 27 = .ok (.invokevirtual 147, 3) := by decide +kernel
theorem dX2_isMet_30 : decode cX2_isMet 30 = .ok (.iconst (-1), 1) := by decide +kernel
theorem dX2_isMet_31 : decode cX2_isMet 31 = .ok (.if_icmp .eq 7, 3) := by decide +kernel
theorem dX2_isMet_34 : decode cX2_isMet 34 = .ok (.iconst 1, 1) := by decide +kernel
theorem dX2_isMet_35 : decode cX2_isMet 35 = .ok (.goto 4, 3) := by decide +kernel
theorem dX2_isMet_38 : decode cX2_isMet 38 = .ok (.iconst 0, 1) := by decide +kernel
theorem dX2_isMet_39 : decode cX2_isMet 39 = .ok (.istore_n 3, 1) := by decide +kernel
theorem dX2_isMet_40 : decode cX2_isMet 40 = .ok (.iload_n 3, 1) := by decide +kernel
theorem dX2_isMet_41 : decode cX2_isMet 41 = .ok (.ifCond .eq 19, 3) := by decide +kernel
theorem dX2_isMet_44 : decode cX2_isMet 44 = .ok (.aload_n 0, 1) := by decide +kernel
theorem dX2_isMet_45 : decode cX2_isMet 45 = .ok (.iload_n 1, 1) := by decide +kernel
theorem dX2_isMet_46 : decode cX2_isMet 46 = .ok (.iload_n 2, 1) := by decide +kernel
theorem dX2_isMet_47 : decode cX2_isMet 47 = .ok (.aload_n 0, 1) := by decide +kernel
theorem dX2_isMet_48 : decode cX2_isMet 48 = .ok (.getfield 34, 3) := by decide +kernel
theorem dX2_isMet_51 : decode cX2_isMet 51 = .ok (.invokevirtual 173, 3) := by decide +kernel
theorem dX2_isMet_54 : decode cX2_isMet 54 = .ok (.iconst (-1), 1) := by decide +kernel
theorem dX2_isMet_55 : decode cX2_isMet 55 = .ok (.if_icmp .ne 5, 3) := by decide +kernel
theorem dX2_isMet_58 : decode cX2_isMet 58 = .ok (.iconst 0, 1) := by decide +kernel
theorem dX2_isMet_59 : decode cX2_isMet 59 = .ok (.ireturn, 1) := by decide +kernel
theorem dX2_isMet_60 : decode cX2_isMet 60 = .ok (.iinc 2 1, 3) := by decide +kernel
theorem dX2_isMet_63 : decode cX2_isMet 63 = .ok (.goto (-61), 3) := by decide +kernel
theorem dX2_isMet_66 : decode cX2_isMet 66 = .ok (.iconst 1, 1) := by decide +kernel
theorem dX2_isMet_67 : decode cX2_isMet 67 = .ok (.ireturn, 1) := by decide +kernel
theorem dX2_leastMeeting_0 : decode cX2_leastMeeting 0 = .ok (.aload_n 0, 1) := by decide +kernel
theorem dX2_leastMeeting_1 : decode cX2_leastMeeting 1 = .ok (.getfield 54, 3) := by decide +kernel
theorem dX2_leastMeeting_4 : decode cX2_leastMeeting 4 = .ok (.iload_n 2, 1) := by decide +kernel
theorem dX2_leastMeeting_5 : decode cX2_leastMeeting 5 = .ok (.invokevirtual 147, 3) := by decide +kernel
theorem dX2_leastMeeting_8 : decode cX2_leastMeeting 8 = .ok (.istore 4, 2) := by decide +kernel
theorem dX2_leastMeeting_10 : decode cX2_leastMeeting 10 = .ok (.iload 4, 2) := by decide +kernel
theorem dX2_leastMeeting_12 : decode cX2_leastMeeting 12 = .ok (.ifCond .lt 9, 3) := by decide +kernel
theorem dX2_leastMeeting_15 : decode cX2_leastMeeting 15 = .ok (.iload 4, 2) := by decide +kernel
theorem dX2_leastMeeting_17 : decode cX2_leastMeeting 17 = .ok (.iconst 3, 1) := by decide +kernel
theorem dX2_leastMeeting_18 : decode cX2_leastMeeting 18 = .ok (.if_icmp .lt 5, 3) := by decide +kernel
theorem dX2_leastMeeting_21 : decode cX2_leastMeeting 21 = .ok (.iconst (-1), 1) := by decide +kernel
theorem dX2_leastMeeting_22 : decode cX2_leastMeeting 22 = .ok (.ireturn, 1) := by decide +kernel
theorem dX2_leastMeeting_23 : decode cX2_leastMeeting 23 = .ok (.aload_n 0, 1) := by decide +kernel
theorem dX2_leastMeeting_24 : decode cX2_leastMeeting 24 = .ok (.getfield 44, 3) := by decide +kernel
theorem dX2_leastMeeting_27 : decode cX2_leastMeeting 27 = .ok (.iload 4, 2) := by decide +kernel
theorem dX2_leastMeeting_29 : decode cX2_leastMeeting 29 = .ok (.invokevirtual 177, 3) := by decide +kernel
theorem dX2_leastMeeting_32 : decode cX2_leastMeeting 32 = .ok (.ifCond .eq 15, 3) := by decide +kernel
theorem dX2_leastMeeting_35 : decode cX2_leastMeeting 35 = .ok (.aload_n 0, 1) := by decide +kernel
theorem dX2_leastMeeting_36 : decode cX2_leastMeeting 36 = .ok (.getfield 18, 3) := by decide +kernel
theorem dX2_leastMeeting_39 : decode cX2_leastMeeting 39 = .ok (.iload 4, 2) := by decide +kernel
theorem dX2_leastMeeting_41 : decode cX2_leastMeeting 41 = .ok (.iaload, 1) := by decide +kernel
theorem dX2_leastMeeting_42 : decode cX2_leastMeeting 42 = .ok (.iload_n 1, 1) := by decide +kernel
theorem dX2_leastMeeting_43 : decode cX2_leastMeeting 43 = .ok (.iand, 1) := by decide +kernel
theorem dX2_leastMeeting_44 : decode cX2_leastMeeting 44 = .ok (.goto 6, 3) := by decide +kernel
theorem dX2_leastMeeting_47 : decode cX2_leastMeeting 47 = .ok (.iconst 1, 1) := by decide +kernel
theorem dX2_leastMeeting_48 : decode cX2_leastMeeting 48 = .ok (.iload_n 2, 1) := by decide +kernel
theorem dX2_leastMeeting_49 : decode cX2_leastMeeting 49 = .ok (.ishl, 1) := by decide +kernel
theorem dX2_leastMeeting_50 : decode cX2_leastMeeting 50 = .ok (.istore 5, 2) := by decide +kernel
theorem dX2_leastMeeting_52 : decode cX2_leastMeeting 52 = .ok (.aload_n 0, 1) := by decide +kernel
theorem dX2_leastMeeting_53 : decode cX2_leastMeeting 53 = .ok (.getfield 22, 3) := by decide +kernel
theorem dX2_leastMeeting_56 : decode cX2_leastMeeting 56 = .ok (.iload 4, 2) := by decide +kernel
theorem dX2_leastMeeting_58 : decode cX2_leastMeeting 58 = .ok (.iaload, 1) := by decide +kernel
theorem dX2_leastMeeting_59 : decode cX2_leastMeeting 59 = .ok (.iload_n 1, 1) := by decide +kernel
theorem dX2_leastMeeting_60 : decode cX2_leastMeeting 60 = .ok (.iconst (-1), 1) := by decide +kernel
theorem dX2_leastMeeting_61 : decode cX2_leastMeeting 61 = .ok (.ixor, 1) := by decide +kernel
theorem dX2_leastMeeting_62 : decode cX2_leastMeeting 62 = .ok (.iand, 1) := by decide +kernel
theorem dX2_leastMeeting_63 : decode cX2_leastMeeting 63 = .ok (.istore 6, 2) := by decide +kernel
theorem dX2_leastMeeting_65 : decode cX2_leastMeeting 65 = .ok (.iconst 0, 1) := by decide +kernel
theorem dX2_leastMeeting_66 : decode cX2_leastMeeting 66 = .ok (.istore 7, 2) := by decide +kernel
theorem dX2_leastMeeting_68 : decode cX2_leastMeeting 68 = .ok (.iload 7, 2) := by decide +kernel
theorem dX2_leastMeeting_70 : decode cX2_leastMeeting 70 = .ok (.bipush 8, 2) := by decide +kernel
theorem dX2_leastMeeting_72 : decode cX2_leastMeeting 72 = .ok (.if_icmp .ge 129, 3) := by decide +kernel
theorem dX2_leastMeeting_75 : decode cX2_leastMeeting 75 = .ok (.iload 7, 2) := by decide +kernel
theorem dX2_leastMeeting_77 : decode cX2_leastMeeting 77 = .ok (.aload_n 3, 1) := by decide +kernel
theorem dX2_leastMeeting_78 : decode cX2_leastMeeting 78 = .ok (.arraylength, 1) := by decide +kernel
theorem dX2_leastMeeting_79 : decode cX2_leastMeeting 79 = .ok (.if_icmp .ge 122, 3) := by decide +kernel
theorem dX2_leastMeeting_82 : decode cX2_leastMeeting 82 = .ok (.aload_n 3, 1) := by decide +kernel
theorem dX2_leastMeeting_83 : decode cX2_leastMeeting 83 = .ok (.iload 7, 2) := by decide +kernel
theorem dX2_leastMeeting_85 : decode cX2_leastMeeting 85 = .ok (.laload, 1) := by decide +kernel
theorem dX2_leastMeeting_86 : decode cX2_leastMeeting 86 = .ok (.lstore 8, 2) := by decide +kernel
theorem dX2_leastMeeting_88 : decode cX2_leastMeeting 88 = .ok (.iconst 0, 1) := by decide +kernel
theorem dX2_leastMeeting_89 : decode cX2_leastMeeting 89 = .ok (.istore 10, 2) := by decide +kernel
theorem dX2_leastMeeting_91 : decode cX2_leastMeeting 91 = .ok (.iload 10, 2) := by decide +kernel
theorem dX2_leastMeeting_93 : decode cX2_leastMeeting 93 = .ok (.bipush 9, 2) := by decide +kernel
theorem dX2_leastMeeting_95 : decode cX2_leastMeeting 95 = .ok (.if_icmp .ge 81, 3) := by decide +kernel
theorem dX2_leastMeeting_98 : decode cX2_leastMeeting 98 = .ok (.lload 8, 2) := by decide +kernel
theorem dX2_leastMeeting_100 : decode cX2_leastMeeting 100 = .ok (.lconst 0, 1) := by decide +kernel
theorem dX2_leastMeeting_101 : decode cX2_leastMeeting 101 = .ok (.lcmp, 1) := by decide +kernel
theorem dX2_leastMeeting_102 : decode cX2_leastMeeting 102 = .ok (.ifCond .eq 74, 3) := by decide +kernel
theorem dX2_leastMeeting_105 : decode cX2_leastMeeting 105 = .ok (.iload 5, 2) := by decide +kernel
theorem dX2_leastMeeting_107 : decode cX2_leastMeeting 107 = .ok (.iload 10, 2) := by decide +kernel
theorem dX2_leastMeeting_109 : decode cX2_leastMeeting 109 = .ok (.ishr, 1) := by decide +kernel
theorem dX2_leastMeeting_110 : decode cX2_leastMeeting 110 = .ok (.iconst 1, 1) := by decide +kernel
theorem dX2_leastMeeting_111 : decode cX2_leastMeeting 111 = .ok (.iand, 1) := by decide +kernel
theorem dX2_leastMeeting_112 : decode cX2_leastMeeting 112 = .ok (.iconst 1, 1) := by decide +kernel
theorem dX2_leastMeeting_113 : decode cX2_leastMeeting 113 = .ok (.if_icmp .ne 24, 3) := by decide +kernel
theorem dX2_leastMeeting_116 : decode cX2_leastMeeting 116 = .ok (.lload 8, 2) := by decide +kernel
theorem dX2_leastMeeting_118 : decode cX2_leastMeeting 118 = .ok (.aload_n 0, 1) := by decide +kernel
theorem dX2_leastMeeting_119 : decode cX2_leastMeeting 119 = .ok (.getfield 15, 3) := by decide +kernel
theorem dX2_leastMeeting_122 : decode cX2_leastMeeting 122 = .ok (.iload 10, 2) := by decide +kernel
theorem dX2_leastMeeting_124 : decode cX2_leastMeeting 124 = .ok (.bipush 8, 2) := by decide +kernel
theorem dX2_leastMeeting_126 : decode cX2_leastMeeting 126 = .ok (.imul, 1) := by decide +kernel
theorem dX2_leastMeeting_127 : decode cX2_leastMeeting 127 = .ok (.iload 7, 2) := by decide +kernel
theorem dX2_leastMeeting_129 : decode cX2_leastMeeting 129 = .ok (.iadd, 1) := by decide +kernel
theorem dX2_leastMeeting_130 : decode cX2_leastMeeting 130 = .ok (.laload, 1) := by decide +kernel
theorem dX2_leastMeeting_131 : decode cX2_leastMeeting 131 = .ok (.land, 1) := by decide +kernel
theorem dX2_leastMeeting_132 : decode cX2_leastMeeting 132 = .ok (.lstore 8, 2) := by decide +kernel
theorem dX2_leastMeeting_134 : decode cX2_leastMeeting 134 = .ok (.goto 36, 3) := by decide +kernel
theorem dX2_leastMeeting_137 : decode cX2_leastMeeting 137 = .ok (.iload 6, 2) := by decide +kernel
theorem dX2_leastMeeting_139 : decode cX2_leastMeeting 139 = .ok (.iload 10, 2) := by decide +kernel
theorem dX2_leastMeeting_141 : decode cX2_leastMeeting 141 = .ok (.ishr, 1) := by decide +kernel
theorem dX2_leastMeeting_142 : decode cX2_leastMeeting 142 = .ok (.iconst 1, 1) := by decide +kernel
theorem dX2_leastMeeting_143 : decode cX2_leastMeeting 143 = .ok (.iand, 1) := by decide +kernel
theorem dX2_leastMeeting_144 : decode cX2_leastMeeting 144 = .ok (.iconst 1, 1) := by decide +kernel
theorem dX2_leastMeeting_145 : decode cX2_leastMeeting 145 = .ok (.if_icmp .ne 25, 3) := by decide +kernel
theorem dX2_leastMeeting_148 : decode cX2_leastMeeting 148 = .ok (.lload 8, 2) := by decide +kernel
theorem dX2_leastMeeting_150 : decode cX2_leastMeeting 150 = .ok (.aload_n 0, 1) := by decide +kernel
theorem dX2_leastMeeting_151 : decode cX2_leastMeeting 151 = .ok (.getfield 15, 3) := by decide +kernel
theorem dX2_leastMeeting_154 : decode cX2_leastMeeting 154 = .ok (.iload 10, 2) := by decide +kernel
theorem dX2_leastMeeting_156 : decode cX2_leastMeeting 156 = .ok (.bipush 8, 2) := by decide +kernel
theorem dX2_leastMeeting_158 : decode cX2_leastMeeting 158 = .ok (.imul, 1) := by decide +kernel
theorem dX2_leastMeeting_159 : decode cX2_leastMeeting 159 = .ok (.iload 7, 2) := by decide +kernel
theorem dX2_leastMeeting_161 : decode cX2_leastMeeting 161 = .ok (.iadd, 1) := by decide +kernel
theorem dX2_leastMeeting_162 : decode cX2_leastMeeting 162 = .ok (.laload, 1) := by decide +kernel
theorem dX2_leastMeeting_163 : decode cX2_leastMeeting 163 = .ok (.ldc2_w 88, 3) := by decide +kernel
theorem dX2_leastMeeting_166 : decode cX2_leastMeeting 166 = .ok (.lxor, 1) := by decide +kernel
theorem dX2_leastMeeting_167 : decode cX2_leastMeeting 167 = .ok (.land, 1) := by decide +kernel
theorem dX2_leastMeeting_168 : decode cX2_leastMeeting 168 = .ok (.lstore 8, 2) := by decide +kernel
theorem dX2_leastMeeting_170 : decode cX2_leastMeeting 170 = .ok (.iinc 10 1, 3) := by decide +kernel
theorem dX2_leastMeeting_173 : decode cX2_leastMeeting 173 = .ok (.goto (-82), 3) := by decide +kernel
theorem dX2_leastMeeting_176 : decode cX2_leastMeeting 176 = .ok (.lload 8, 2) := by decide +kernel
theorem dX2_leastMeeting_178 : decode cX2_leastMeeting 178 = .ok (.lconst 0, 1) := by decide +kernel
theorem dX2_leastMeeting_179 : decode cX2_leastMeeting 179 = .ok (.lcmp, 1) := by decide +kernel
theorem dX2_leastMeeting_180 : decode cX2_leastMeeting 180 = .ok (.ifCond .eq 15, 3) := by decide +kernel
theorem dX2_leastMeeting_183 : decode cX2_leastMeeting 183 = .ok (.bipush 64, 2) := by decide +kernel
theorem dX2_leastMeeting_185 : decode cX2_leastMeeting 185 = .ok (.iload 7, 2) := by decide +kernel
theorem dX2_leastMeeting_187 : decode cX2_leastMeeting 187 = .ok (.imul, 1) := by decide +kernel
theorem dX2_leastMeeting_188 : decode cX2_leastMeeting 188 = .ok (.lload 8, 2) := by decide +kernel
theorem dX2_leastMeeting_190 : decode cX2_leastMeeting 190 = .ok (.invokestatic 180, 3) := by decide +kernel
theorem dX2_leastMeeting_193 : decode cX2_leastMeeting 193 = .ok (.iadd, 1) := by decide +kernel
theorem dX2_leastMeeting_194 : decode cX2_leastMeeting 194 = .ok (.ireturn, 1) := by decide +kernel
theorem dX2_leastMeeting_195 : decode cX2_leastMeeting 195 = .ok (.iinc 7 1, 3) := by decide +kernel
theorem dX2_leastMeeting_198 : decode cX2_leastMeeting 198 = .ok (.goto (-130), 3) := by decide +kernel
theorem dX2_leastMeeting_201 : decode cX2_leastMeeting 201 = .ok (.iconst (-1), 1) := by decide +kernel
theorem dX2_leastMeeting_202 : decode cX2_leastMeeting 202 = .ok (.ireturn, 1) := by decide +kernel
theorem dX2_isServed_0 : decode cX2_isServed 0 = .ok (.aload_n 0, 1) := by decide +kernel
theorem dX2_isServed_1 : decode cX2_isServed 1 = .ok (.getfield 54, 3) := by decide +kernel
theorem dX2_isServed_4 : decode cX2_isServed 4 = .ok (.iload_n 2, 1) := by decide +kernel
theorem dX2_isServed_5 : decode cX2_isServed 5 = .ok (.invokevirtual 147, 3) := by decide +kernel
theorem dX2_isServed_8 : decode cX2_isServed 8 = .ok (.istore_n 3, 1) := by decide +kernel
theorem dX2_isServed_9 : decode cX2_isServed 9 = .ok (.iload_n 3, 1) := by decide +kernel
theorem dX2_isServed_10 : decode cX2_isServed 10 = .ok (.ifCond .lt 19, 3) := by decide +kernel
theorem dX2_isServed_13 : decode cX2_isServed 13 = .ok (.iload_n 3, 1) := by decide +kernel
theorem dX2_isServed_14 : decode cX2_isServed 14 = .ok (.iconst 3, 1) := by decide +kernel
theorem dX2_isServed_15 : decode cX2_isServed 15 = .ok (.if_icmp .ge 14, 3) := by decide +kernel
theorem dX2_isServed_18 : decode cX2_isServed 18 = .ok (.aload_n 0, 1) := by decide +kernel
theorem dX2_isServed_19 : decode cX2_isServed 19 = .ok (.getfield 44, 3) := by decide +kernel
theorem dX2_isServed_22 : decode cX2_isServed 22 = .ok (.iload_n 3, 1) := by decide +kernel
theorem dX2_isServed_23 : decode cX2_isServed 23 = .ok (.invokevirtual 177, 3) := by decide +kernel
theorem dX2_isServed_26 : decode cX2_isServed 26 = .ok (.ifCond .ne 5, 3) := by decide +kernel
theorem dX2_isServed_29 : decode cX2_isServed 29 = .ok (.iconst 0, 1) := by decide +kernel
theorem dX2_isServed_30 : decode cX2_isServed 30 = .ok (.ireturn, 1) := by decide +kernel
theorem dX2_isServed_31 : decode cX2_isServed 31 = .ok (.aload_n 0, 1) := by decide +kernel
theorem dX2_isServed_32 : decode cX2_isServed 32 = .ok (.getfield 18, 3) := by decide +kernel
theorem dX2_isServed_35 : decode cX2_isServed 35 = .ok (.iload_n 3, 1) := by decide +kernel
theorem dX2_isServed_36 : decode cX2_isServed 36 = .ok (.iaload, 1) := by decide +kernel
theorem dX2_isServed_37 : decode cX2_isServed 37 = .ok (.iload_n 1, 1) := by decide +kernel
theorem dX2_isServed_38 : decode cX2_isServed 38 = .ok (.iand, 1) := by decide +kernel
theorem dX2_isServed_39 : decode cX2_isServed 39 = .ok (.iconst 1, 1) := by decide +kernel
theorem dX2_isServed_40 : decode cX2_isServed 40 = .ok (.iload_n 2, 1) := by decide +kernel
theorem dX2_isServed_41 : decode cX2_isServed 41 = .ok (.ishl, 1) := by decide +kernel
theorem dX2_isServed_42 : decode cX2_isServed 42 = .ok (.iconst 1, 1) := by decide +kernel
theorem dX2_isServed_43 : decode cX2_isServed 43 = .ok (.isub, 1) := by decide +kernel
theorem dX2_isServed_44 : decode cX2_isServed 44 = .ok (.iand, 1) := by decide +kernel
theorem dX2_isServed_45 : decode cX2_isServed 45 = .ok (.ifCond .eq 7, 3) := by decide +kernel
theorem dX2_isServed_48 : decode cX2_isServed 48 = .ok (.iconst 1, 1) := by decide +kernel
theorem dX2_isServed_49 : decode cX2_isServed 49 = .ok (.goto 4, 3) := by decide +kernel
theorem dX2_isServed_52 : decode cX2_isServed 52 = .ok (.iconst 0, 1) := by decide +kernel
theorem dX2_isServed_53 : decode cX2_isServed 53 = .ok (.ireturn, 1) := by decide +kernel
theorem dX2_leads_0 : decode cX2_leads 0 = .ok (.iload_n 2, 1) := by decide +kernel
theorem dX2_leads_1 : decode cX2_leads 1 = .ok (.ifCond .lt 8, 3) := by decide +kernel
theorem dX2_leads_4 : decode cX2_leads 4 = .ok (.iload_n 2, 1) := by decide +kernel
theorem dX2_leads_5 : decode cX2_leads 5 = .ok (.iconst 3, 1) := by decide +kernel
theorem dX2_leads_6 : decode cX2_leads 6 = .ok (.if_icmp .lt 5, 3) := by decide +kernel
theorem dX2_leads_9 : decode cX2_leads 9 = .ok (.iconst 0, 1) := by decide +kernel
theorem dX2_leads_10 : decode cX2_leads 10 = .ok (.ireturn, 1) := by decide +kernel
theorem dX2_leads_11 : decode cX2_leads 11 = .ok (.aload_n 0, 1) := by decide +kernel
theorem dX2_leads_12 : decode cX2_leads 12 = .ok (.getfield 22, 3) := by decide +kernel
theorem dX2_leads_15 : decode cX2_leads 15 = .ok (.iload_n 2, 1) := by decide +kernel
theorem dX2_leads_16 : decode cX2_leads 16 = .ok (.iaload, 1) := by decide +kernel
theorem dX2_leads_17 : decode cX2_leads 17 = .ok (.iload_n 1, 1) := by decide +kernel
theorem dX2_leads_18 : decode cX2_leads 18 = .ok (.iconst (-1), 1) := by decide +kernel
theorem dX2_leads_19 : decode cX2_leads 19 = .ok (.ixor, 1) := by decide +kernel
theorem dX2_leads_20 : decode cX2_leads 20 = .ok (.iand, 1) := by decide +kernel
theorem dX2_leads_21 : decode cX2_leads 21 = .ok (.istore 4, 2) := by decide +kernel
theorem dX2_leads_23 : decode cX2_leads 23 = .ok (.iconst 0, 1) := by decide +kernel
theorem dX2_leads_24 : decode cX2_leads 24 = .ok (.istore 5, 2) := by decide +kernel
theorem dX2_leads_26 : decode cX2_leads 26 = .ok (.iload 5, 2) := by decide +kernel
theorem dX2_leads_28 : decode cX2_leads 28 = .ok (.bipush 9, 2) := by decide +kernel
theorem dX2_leads_30 : decode cX2_leads 30 = .ok (.if_icmp .ge 49, 3) := by decide +kernel
theorem dX2_leads_33 : decode cX2_leads 33 = .ok (.iload 4, 2) := by decide +kernel
theorem dX2_leads_35 : decode cX2_leads 35 = .ok (.iload 5, 2) := by decide +kernel
theorem dX2_leads_37 : decode cX2_leads 37 = .ok (.ishr, 1) := by decide +kernel
theorem dX2_leads_38 : decode cX2_leads 38 = .ok (.iconst 1, 1) := by decide +kernel
theorem dX2_leads_39 : decode cX2_leads 39 = .ok (.iand, 1) := by decide +kernel
theorem dX2_leads_40 : decode cX2_leads 40 = .ok (.iconst 1, 1) := by decide +kernel
theorem dX2_leads_41 : decode cX2_leads 41 = .ok (.if_icmp .ne 32, 3) := by decide +kernel
theorem dX2_leads_44 : decode cX2_leads 44 = .ok (.aload_n 0, 1) := by decide +kernel
theorem dX2_leads_45 : decode cX2_leads 45 = .ok (.getfield 15, 3) := by decide +kernel
theorem dX2_leads_48 : decode cX2_leads 48 = .ok (.iload 5, 2) := by decide +kernel
theorem dX2_leads_50 : decode cX2_leads 50 = .ok (.bipush 8, 2) := by decide +kernel
theorem dX2_leads_52 : decode cX2_leads 52 = .ok (.imul, 1) := by decide +kernel
theorem dX2_leads_53 : decode cX2_leads 53 = .ok (.iload_n 3, 1) := by decide +kernel
theorem dX2_leads_54 : decode cX2_leads 54 = .ok (.bipush 6, 2) := by decide +kernel
theorem dX2_leads_56 : decode cX2_leads 56 = .ok (.ishr, 1) := by decide +kernel
theorem dX2_leads_57 : decode cX2_leads 57 = .ok (.bipush 7, 2) := by decide +kernel
theorem dX2_leads_59 : decode cX2_leads 59 = .ok (.iand, 1) := by decide +kernel
theorem dX2_leads_60 : decode cX2_leads 60 = .ok (.iadd, 1) := by decide +kernel
theorem dX2_leads_61 : decode cX2_leads 61 = .ok (.laload, 1) := by decide +kernel
theorem dX2_leads_62 : decode cX2_leads 62 = .ok (.iload_n 3, 1) := by decide +kernel
theorem dX2_leads_63 : decode cX2_leads 63 = .ok (.lshr, 1) := by decide +kernel
theorem dX2_leads_64 : decode cX2_leads 64 = .ok (.lconst 1, 1) := by decide +kernel
theorem dX2_leads_65 : decode cX2_leads 65 = .ok (.land, 1) := by decide +kernel
theorem dX2_leads_66 : decode cX2_leads 66 = .ok (.lconst 1, 1) := by decide +kernel
theorem dX2_leads_67 : decode cX2_leads 67 = .ok (.lcmp, 1) := by decide +kernel
theorem dX2_leads_68 : decode cX2_leads 68 = .ok (.ifCond .ne 5, 3) := by decide +kernel
theorem dX2_leads_71 : decode cX2_leads 71 = .ok (.iconst 0, 1) := by decide +kernel
theorem dX2_leads_72 : decode cX2_leads 72 = .ok (.ireturn, 1) := by decide +kernel
theorem dX2_leads_73 : decode cX2_leads 73 = .ok (.iinc 5 1, 3) := by decide +kernel
theorem dX2_leads_76 : decode cX2_leads 76 = .ok (.goto (-50), 3) := by decide +kernel
theorem dX2_leads_79 : decode cX2_leads 79 = .ok (.iconst 1, 1) := by decide +kernel
theorem dX2_leads_80 : decode cX2_leads 80 = .ok (.ireturn, 1) := by decide +kernel
theorem dX2_leastWhere_0 : decode cX2_leastWhere 0 = .ok (.iconst 0, 1) := by decide +kernel
theorem dX2_leastWhere_1 : decode cX2_leastWhere 1 = .ok (.istore_n 3, 1) := by decide +kernel
theorem dX2_leastWhere_2 : decode cX2_leastWhere 2 = .ok (.iload_n 3, 1) := by decide +kernel
theorem dX2_leastWhere_3 : decode cX2_leastWhere 3 = .ok (.bipush 8, 2) := by decide +kernel
theorem dX2_leastWhere_5 : decode cX2_leastWhere 5 = .ok (.if_icmp .ge 45, 3) := by decide +kernel
theorem dX2_leastWhere_8 : decode cX2_leastWhere 8 = .ok (.iload_n 3, 1) := by decide +kernel
theorem dX2_leastWhere_9 : decode cX2_leastWhere 9 = .ok (.aload_n 2, 1) := by decide +kernel
theorem dX2_leastWhere_10 : decode cX2_leastWhere 10 = .ok (.arraylength, 1) := by decide +kernel
theorem dX2_leastWhere_11 : decode cX2_leastWhere 11 = .ok (.if_icmp .ge 39, 3) := by decide +kernel
theorem dX2_leastWhere_14 : decode cX2_leastWhere 14 = .ok (.aload_n 2, 1) := by decide +kernel
theorem dX2_leastWhere_15 : decode cX2_leastWhere 15 = .ok (.iload_n 3, 1) := by decide +kernel
theorem dX2_leastWhere_16 : decode cX2_leastWhere 16 = .ok (.laload, 1) := by decide +kernel
theorem dX2_leastWhere_17 : decode cX2_leastWhere 17 = .ok (.aload_n 0, 1) := by decide +kernel
theorem dX2_leastWhere_18 : decode cX2_leastWhere 18 = .ok (.iload_n 1, 1) := by decide +kernel
theorem dX2_leastWhere_19 : decode cX2_leastWhere 19 = .ok (.iload_n 3, 1) := by decide +kernel
theorem dX2_leastWhere_20 : decode cX2_leastWhere 20 = .ok (.invokevirtual 81, 3) := by decide +kernel
theorem dX2_leastWhere_23 : decode cX2_leastWhere 23 = .ok (.land, 1) := by decide +kernel
theorem dX2_leastWhere_24 : decode cX2_leastWhere 24 = .ok (.lstore 4, 2) := by decide +kernel
theorem dX2_leastWhere_26 : decode cX2_leastWhere 26 = .ok (.lload 4, 2) := by decide +kernel
theorem dX2_leastWhere_28 : decode cX2_leastWhere 28 = .ok (.lconst 0, 1) := by decide +kernel
theorem dX2_leastWhere_29 : decode cX2_leastWhere 29 = .ok (.lcmp, 1) := by decide +kernel
theorem dX2_leastWhere_30 : decode cX2_leastWhere 30 = .ok (.ifCond .eq 14, 3) := by decide +kernel
theorem dX2_leastWhere_33 : decode cX2_leastWhere 33 = .ok (.bipush 64, 2) := by decide +kernel
theorem dX2_leastWhere_35 : decode cX2_leastWhere 35 = .ok (.iload_n 3, 1) := by decide +kernel
theorem dX2_leastWhere_36 : decode cX2_leastWhere 36 = .ok (.imul, 1) := by decide +kernel
theorem dX2_leastWhere_37 : decode cX2_leastWhere 37 = .ok (.lload 4, 2) := by decide +kernel
theorem dX2_leastWhere_39 : decode cX2_leastWhere 39 = .ok (.invokestatic 180, 3) := by decide +kernel
theorem dX2_leastWhere_42 : decode cX2_leastWhere 42 = .ok (.iadd, 1) := by decide +kernel
theorem dX2_leastWhere_43 : decode cX2_leastWhere 43 = .ok (.ireturn, 1) := by decide +kernel
theorem dX2_leastWhere_44 : decode cX2_leastWhere 44 = .ok (.iinc 3 1, 3) := by decide +kernel
theorem dX2_leastWhere_47 : decode cX2_leastWhere 47 = .ok (.goto (-45), 3) := by decide +kernel
theorem dX2_leastWhere_50 : decode cX2_leastWhere 50 = .ok (.iconst (-1), 1) := by decide +kernel
theorem dX2_leastWhere_51 : decode cX2_leastWhere 51 = .ok (.ireturn, 1) := by decide +kernel
theorem dX2_rulesThatForbid_0 : decode cX2_rulesThatForbid 0 = .ok (.aload_n 0, 1) := by decide +kernel
theorem dX2_rulesThatForbid_1 : decode cX2_rulesThatForbid 1 = .ok (.iload_n 1, 1) := by decide +kernel
theorem dX2_rulesThatForbid_2 : decode cX2_rulesThatForbid 2 = .ok (.aload_n 0, 1) := by decide +kernel
theorem dX2_rulesThatForbid_3 : decode cX2_rulesThatForbid 3 = .ok (.getfield 28, 3) := by decide +kernel
theorem dX2_rulesThatForbid_6 : decode cX2_rulesThatForbid 6 = .ok (.invokevirtual 184, 3) := by decide +kernel
theorem dX2_rulesThatForbid_9 : decode cX2_rulesThatForbid 9 = .ok (.iconst (-1), 1) := by decide +kernel
theorem dX2_rulesThatForbid_10 : decode cX2_rulesThatForbid 10 = .ok (.if_icmp .eq 5, 3) := by decide +kernel
theorem dX2_rulesThatForbid_13 : decode cX2_rulesThatForbid 13 = .ok (.iconst (-1), 1) := by decide +kernel
theorem dX2_rulesThatForbid_14 : decode cX2_rulesThatForbid 14 = .ok (.ireturn, 1) := by decide +kernel
theorem dX2_rulesThatForbid_15 : decode cX2_rulesThatForbid 15 = .ok (.iconst 1, 1) := by decide +kernel
theorem dX2_rulesThatForbid_16 : decode cX2_rulesThatForbid 16 = .ok (.aload_n 0, 1) := by decide +kernel
theorem dX2_rulesThatForbid_17 : decode cX2_rulesThatForbid 17 = .ok (.getfield 44, 3) := by decide +kernel
theorem dX2_rulesThatForbid_20 : decode cX2_rulesThatForbid 20 = .ok (.getfield 93, 3) := by decide +kernel
theorem dX2_rulesThatForbid_23 : decode cX2_rulesThatForbid 23 = .ok (.ishl, 1) := by decide +kernel
theorem dX2_rulesThatForbid_24 : decode cX2_rulesThatForbid 24 = .ok (.iconst 1, 1) := by decide +kernel
theorem dX2_rulesThatForbid_25 : decode cX2_rulesThatForbid 25 = .ok (.isub, 1) := by decide +kernel
theorem dX2_rulesThatForbid_26 : decode cX2_rulesThatForbid 26 = .ok (.istore_n 2, 1) := by decide +kernel
theorem dX2_rulesThatForbid_27 : decode cX2_rulesThatForbid 27 = .ok (.iconst 0, 1) := by decide +kernel
theorem dX2_rulesThatForbid_28 : decode cX2_rulesThatForbid 28 = .ok (.istore_n 3, 1) := by decide +kernel
theorem dX2_rulesThatForbid_29 : decode cX2_rulesThatForbid 29 = .ok (.iload_n 3, 1) := by decide +kernel
theorem dX2_rulesThatForbid_30 : decode cX2_rulesThatForbid 30 = .ok (.aload_n 0, 1) := by decide +kernel
theorem dX2_rulesThatForbid_31 : decode cX2_rulesThatForbid 31 = .ok (.getfield 44, 3) := by decide +kernel
theorem dX2_rulesThatForbid_34 : decode cX2_rulesThatForbid 34 = .ok (.getfield 93, 3) := by decide +kernel
theorem dX2_rulesThatForbid_37 : decode cX2_rulesThatForbid 37 = .ok (.if_icmp .ge 54, 3) := by decide +kernel
theorem dX2_rulesThatForbid_40 : decode cX2_rulesThatForbid 40 = .ok (.iload_n 2, 1) := by decide +kernel
theorem dX2_rulesThatForbid_41 : decode cX2_rulesThatForbid 41 = .ok (.iconst 1, 1) := by decide +kernel
theorem dX2_rulesThatForbid_42 : decode cX2_rulesThatForbid 42 = .ok (.iload_n 3, 1) := by decide +kernel
theorem dX2_rulesThatForbid_43 : decode cX2_rulesThatForbid 43 = .ok (.ishl, 1) := by decide +kernel
theorem dX2_rulesThatForbid_44 : decode cX2_rulesThatForbid 44 = .ok (.iconst (-1), 1) := by decide +kernel
theorem dX2_rulesThatForbid_45 : decode cX2_rulesThatForbid 45 = .ok (.ixor, 1) := by decide +kernel
theorem dX2_rulesThatForbid_46 : decode cX2_rulesThatForbid 46 = .ok (.iand, 1) := by decide +kernel
theorem dX2_rulesThatForbid_47 : decode cX2_rulesThatForbid 47 = .ok (.istore 4, 2) := by decide +kernel
theorem dX2_rulesThatForbid_49 : decode cX2_rulesThatForbid 49 = .ok (.aload_n 0, 1) := by decide +kernel
theorem dX2_rulesThatForbid_50 : decode cX2_rulesThatForbid 50 = .ok (.iload 4, 2) := by decide +kernel
theorem dX2_rulesThatForbid_52 : decode cX2_rulesThatForbid 52 = .ok (.aload_n 0, 1) := by decide +kernel
theorem dX2_rulesThatForbid_53 : decode cX2_rulesThatForbid 53 = .ok (.getfield 31, 3) := by decide +kernel
theorem dX2_rulesThatForbid_56 : decode cX2_rulesThatForbid 56 = .ok (.invokevirtual 96, 3) := by decide +kernel
theorem dX2_rulesThatForbid_59 : decode cX2_rulesThatForbid 59 = .ok (.aload_n 0, 1) := by decide +kernel
theorem dX2_rulesThatForbid_60 : decode cX2_rulesThatForbid 60 = .ok (.aload_n 0, 1) := by decide +kernel
theorem dX2_rulesThatForbid_61 : decode cX2_rulesThatForbid 61 = .ok (.getfield 31, 3) := by decide +kernel
theorem dX2_rulesThatForbid_64 : decode cX2_rulesThatForbid 64 = .ok (.iconst 0, 1) := by decide +kernel
theorem dX2_rulesThatForbid_65 : decode cX2_rulesThatForbid 65 = .ok (.invokevirtual 110, 3) := by decide +kernel
theorem dX2_rulesThatForbid_68 : decode cX2_rulesThatForbid 68 = .ok (.pop, 1) := by decide +kernel
theorem dX2_rulesThatForbid_69 : decode cX2_rulesThatForbid 69 = .ok (.aload_n 0, 1) := by decide +kernel
theorem dX2_rulesThatForbid_70 : decode cX2_rulesThatForbid 70 = .ok (.iload_n 1, 1) := by decide +kernel
theorem dX2_rulesThatForbid_71 : decode cX2_rulesThatForbid 71 = .ok (.aload_n 0, 1) := by decide +kernel
theorem dX2_rulesThatForbid_72 : decode cX2_rulesThatForbid 72 = .ok (.getfield 31, 3) := by decide +kernel
theorem dX2_rulesThatForbid_75 : decode cX2_rulesThatForbid 75 = .ok (.invokevirtual 184, 3) := by decide +kernel
theorem dX2_rulesThatForbid_78 : decode cX2_rulesThatForbid 78 = .ok (.iconst (-1), 1) := by decide +kernel
theorem dX2_rulesThatForbid_79 : decode cX2_rulesThatForbid 79 = .ok (.if_icmp .ne 6, 3) := by decide +kernel
theorem dX2_rulesThatForbid_82 : decode cX2_rulesThatForbid 82 = .ok (.iload 4, 2) := by decide +kernel
theorem dX2_rulesThatForbid_84 : decode cX2_rulesThatForbid 84 = .ok (.istore_n 2, 1) := by decide +kernel
theorem dX2_rulesThatForbid_85 : decode cX2_rulesThatForbid 85 = .ok (.iinc 3 1, 3) := by decide +kernel
theorem dX2_rulesThatForbid_88 : decode cX2_rulesThatForbid 88 = .ok (.goto (-59), 3) := by decide +kernel
theorem dX2_rulesThatForbid_91 : decode cX2_rulesThatForbid 91 = .ok (.iload_n 2, 1) := by decide +kernel
theorem dX2_rulesThatForbid_92 : decode cX2_rulesThatForbid 92 = .ok (.ireturn, 1) := by decide +kernel
theorem dX2_implies_0 : decode cX2_implies 0 = .ok (.iconst 0, 1) := by decide +kernel
theorem dX2_implies_1 : decode cX2_implies 1 = .ok (.istore_n 3, 1) := by decide +kernel
theorem dX2_implies_2 : decode cX2_implies 2 = .ok (.iload_n 3, 1) := by decide +kernel
theorem dX2_implies_3 : decode cX2_implies 3 = .ok (.bipush 8, 2) := by decide +kernel
theorem dX2_implies_5 : decode cX2_implies 5 = .ok (.if_icmp .ge 40, 3) := by decide +kernel
theorem dX2_implies_8 : decode cX2_implies 8 = .ok (.aload_n 0, 1) := by decide +kernel
theorem dX2_implies_9 : decode cX2_implies 9 = .ok (.getfield 28, 3) := by decide +kernel
theorem dX2_implies_12 : decode cX2_implies 12 = .ok (.iload_n 3, 1) := by decide +kernel
theorem dX2_implies_13 : decode cX2_implies 13 = .ok (.laload, 1) := by decide +kernel
theorem dX2_implies_14 : decode cX2_implies 14 = .ok (.aload_n 0, 1) := by decide +kernel
theorem dX2_implies_15 : decode cX2_implies 15 = .ok (.iload_n 1, 1) := by decide +kernel
theorem dX2_implies_16 : decode cX2_implies 16 = .ok (.iload_n 3, 1) := by decide +kernel
theorem dX2_implies_17 : decode cX2_implies 17 = .ok (.invokevirtual 81, 3) := by decide +kernel
theorem dX2_implies_20 : decode cX2_implies 20 = .ok (.land, 1) := by decide +kernel
theorem dX2_implies_21 : decode cX2_implies 21 = .ok (.aload_n 0, 1) := by decide +kernel
theorem dX2_implies_22 : decode cX2_implies 22 = .ok (.iload_n 2, 1) := by decide +kernel
theorem dX2_implies_23 : decode cX2_implies 23 = .ok (.iload_n 3, 1) := by decide +kernel
theorem dX2_implies_24 : decode cX2_implies 24 = .ok (.invokevirtual 81, 3) := by decide +kernel
theorem dX2_implies_27 : decode cX2_implies 27 = .ok (.ldc2_w 88, 3) := by decide +kernel
theorem dX2_implies_30 : decode cX2_implies 30 = .ok (.lxor, 1) := by decide +kernel
theorem dX2_implies_31 : decode cX2_implies 31 = .ok (.land, 1) := by decide +kernel
theorem dX2_implies_32 : decode cX2_implies 32 = .ok (.lconst 0, 1) := by decide +kernel
theorem dX2_implies_33 : decode cX2_implies 33 = .ok (.lcmp, 1) := by decide +kernel
theorem dX2_implies_34 : decode cX2_implies 34 = .ok (.ifCond .eq 5, 3) := by decide +kernel
theorem dX2_implies_37 : decode cX2_implies 37 = .ok (.iconst 0, 1) := by decide +kernel
theorem dX2_implies_38 : decode cX2_implies 38 = .ok (.ireturn, 1) := by decide +kernel
theorem dX2_implies_39 : decode cX2_implies 39 = .ok (.iinc 3 1, 3) := by decide +kernel
theorem dX2_implies_42 : decode cX2_implies 42 = .ok (.goto (-40), 3) := by decide +kernel
theorem dX2_implies_45 : decode cX2_implies 45 = .ok (.iconst 1, 1) := by decide +kernel
theorem dX2_implies_46 : decode cX2_implies 46 = .ok (.ireturn, 1) := by decide +kernel
theorem dX2_agree_0 : decode cX2_agree 0 = .ok (.aload_n 0, 1) := by decide +kernel
theorem dX2_agree_1 : decode cX2_agree 1 = .ok (.iload_n 1, 1) := by decide +kernel
theorem dX2_agree_2 : decode cX2_agree 2 = .ok (.iload_n 2, 1) := by decide +kernel
theorem dX2_agree_3 : decode cX2_agree 3 = .ok (.invokevirtual 188, 3) := by decide +kernel
theorem dX2_agree_6 : decode cX2_agree 6 = .ok (.ifCond .eq 16, 3) := by decide +kernel
theorem dX2_agree_9 : decode cX2_agree 9 = .ok (.aload_n 0, 1) := by decide +kernel
theorem dX2_agree_10 : decode cX2_agree 10 = .ok (.iload_n 2, 1) := by decide +kernel
theorem dX2_agree_11 : decode cX2_agree 11 = .ok (.iload_n 1, 1) := by decide +kernel
theorem dX2_agree_12 : decode cX2_agree 12 = .ok (.invokevirtual 188, 3) := by decide +kernel
theorem dX2_agree_15 : decode cX2_agree 15 = .ok (.ifCond .eq 7, 3) := by decide +kernel
theorem dX2_agree_18 : decode cX2_agree 18 = .ok (.iconst 1, 1) := by decide +kernel
theorem dX2_agree_19 : decode cX2_agree 19 = .ok (.goto 4, 3) := by decide +kernel
theorem dX2_agree_22 : decode cX2_agree 22 = .ok (.iconst 0, 1) := by decide +kernel
theorem dX2_agree_23 : decode cX2_agree 23 = .ok (.ireturn, 1) := by decide +kernel
theorem dX2_isAt_0 : decode cX2_isAt 0 = .ok (.aload_n 0, 1) := by decide +kernel
theorem dX2_isAt_1 : decode cX2_isAt 1 = .ok (.iload_n 1, 1) := by decide +kernel
theorem dX2_isAt_2 : decode cX2_isAt 2 = .ok (.iload_n 2, 1) := by decide +kernel
theorem dX2_isAt_3 : decode cX2_isAt 3 = .ok (.bipush 6, 2) := by decide +kernel
theorem dX2_isAt_5 : decode cX2_isAt 5 = .ok (.ishr, 1) := by decide +kernel
theorem dX2_isAt_6 : decode cX2_isAt 6 = .ok (.invokevirtual 81, 3) := by decide +kernel
theorem dX2_isAt_9 : decode cX2_isAt 9 = .ok (.iload_n 2, 1) := by decide +kernel
theorem dX2_isAt_10 : decode cX2_isAt 10 = .ok (.lshr, 1) := by decide +kernel
theorem dX2_isAt_11 : decode cX2_isAt 11 = .ok (.lconst 1, 1) := by decide +kernel
theorem dX2_isAt_12 : decode cX2_isAt 12 = .ok (.land, 1) := by decide +kernel
theorem dX2_isAt_13 : decode cX2_isAt 13 = .ok (.lconst 1, 1) := by decide +kernel
theorem dX2_isAt_14 : decode cX2_isAt 14 = .ok (.lcmp, 1) := by decide +kernel
theorem dX2_isAt_15 : decode cX2_isAt 15 = .ok (.ifCond .ne 7, 3) := by decide +kernel
theorem dX2_isAt_18 : decode cX2_isAt 18 = .ok (.iconst 1, 1) := by decide +kernel
theorem dX2_isAt_19 : decode cX2_isAt 19 = .ok (.goto 4, 3) := by decide +kernel
theorem dX2_isAt_22 : decode cX2_isAt 22 = .ok (.iconst 0, 1) := by decide +kernel
theorem dX2_isAt_23 : decode cX2_isAt 23 = .ok (.ireturn, 1) := by decide +kernel
theorem dX2_isType_0 : decode cX2_isType 0 = .ok (.iload_n 1, 1) := by decide +kernel
theorem dX2_isType_1 : decode cX2_isType 1 = .ok (.ifCond .lt 15, 3) := by decide +kernel
theorem dX2_isType_4 : decode cX2_isType 4 = .ok (.iload_n 1, 1) := by decide +kernel
theorem dX2_isType_5 : decode cX2_isType 5 = .ok (.aload_n 0, 1) := by decide +kernel
theorem dX2_isType_6 : decode cX2_isType 6 = .ok (.getfield 67, 3) := by decide +kernel
theorem dX2_isType_9 : decode cX2_isType 9 = .ok (.if_icmp .ge 7, 3) := by decide +kernel
theorem dX2_isType_12 : decode cX2_isType 12 = .ok (.iconst 1, 1) := by decide +kernel
theorem dX2_isType_13 : decode cX2_isType 13 = .ok (.goto 4, 3) := by decide +kernel
theorem dX2_isType_16 : decode cX2_isType 16 = .ok (.iconst 0, 1) := by decide +kernel
theorem dX2_isType_17 : decode cX2_isType 17 = .ok (.ireturn, 1) := by decide +kernel
theorem dX2_rankOf_0 : decode cX2_rankOf 0 = .ok (.iload_n 1, 1) := by decide +kernel
theorem dX2_rankOf_1 : decode cX2_rankOf 1 = .ok (.ifCond .lt 19, 3) := by decide +kernel
theorem dX2_rankOf_4 : decode cX2_rankOf 4 = .ok (.iload_n 1, 1) := by decide +kernel
theorem dX2_rankOf_5 : decode cX2_rankOf 5 = .ok (.sipush 512, 3) := by decide +kernel
theorem dX2_rankOf_8 : decode cX2_rankOf 8 = .ok (.if_icmp .ge 12, 3) := by decide +kernel
theorem dX2_rankOf_11 : decode cX2_rankOf 11 = .ok (.aload_n 0, 1) := by decide +kernel
theorem dX2_rankOf_12 : decode cX2_rankOf 12 = .ok (.getfield 40, 3) := by decide +kernel
theorem dX2_rankOf_15 : decode cX2_rankOf 15 = .ok (.iload_n 1, 1) := by decide +kernel
theorem dX2_rankOf_16 : decode cX2_rankOf 16 = .ok (.saload, 1) := by decide +kernel
theorem dX2_rankOf_17 : decode cX2_rankOf 17 = .ok (.goto 4, 3) := by decide +kernel
theorem dX2_rankOf_20 : decode cX2_rankOf 20 = .ok (.iconst (-1), 1) := by decide +kernel
theorem dX2_rankOf_21 : decode cX2_rankOf 21 = .ok (.ireturn, 1) := by decide +kernel
theorem dX2_sizeOf_0 : decode cX2_sizeOf 0 = .ok (.iconst 0, 1) := by decide +kernel
theorem dX2_sizeOf_1 : decode cX2_sizeOf 1 = .ok (.istore_n 2, 1) := by decide +kernel
theorem dX2_sizeOf_2 : decode cX2_sizeOf 2 = .ok (.aload_n 1, 1) := by decide +kernel
theorem dX2_sizeOf_3 : decode cX2_sizeOf 3 = .ok (.astore_n 3, 1) := by decide +kernel
theorem dX2_sizeOf_4 : decode cX2_sizeOf 4 = .ok (.aload_n 3, 1) := by decide +kernel
theorem dX2_sizeOf_5 : decode cX2_sizeOf 5 = .ok (.arraylength, 1) := by decide +kernel
theorem dX2_sizeOf_6 : decode cX2_sizeOf 6 = .ok (.istore 4, 2) := by decide +kernel
theorem dX2_sizeOf_8 : decode cX2_sizeOf 8 = .ok (.iconst 0, 1) := by decide +kernel
theorem dX2_sizeOf_9 : decode cX2_sizeOf 9 = .ok (.istore 5, 2) := by decide +kernel
theorem dX2_sizeOf_11 : decode cX2_sizeOf 11 = .ok (.iload 5, 2) := by decide +kernel
theorem dX2_sizeOf_13 : decode cX2_sizeOf 13 = .ok (.iload 4, 2) := by decide +kernel
theorem dX2_sizeOf_15 : decode cX2_sizeOf 15 = .ok (.if_icmp .ge 23, 3) := by decide +kernel
