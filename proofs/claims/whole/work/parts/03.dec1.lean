theorem dX0_init_0 : decode cX0_init 0 = .ok (.aload_n 0, 1) := by decide +kernel
theorem dX0_init_1 : decode cX0_init 1 = .ok (.invokespecial 3, 3) := by decide +kernel
theorem dX0_init_4 : decode cX0_init 4 = .ok (.aload_n 0, 1) := by decide +kernel
theorem dX0_init_5 : decode cX0_init 5 = .ok (.bipush 12, 2) := by decide +kernel
theorem dX0_init_7 : decode cX0_init 7 = .ok (.newarray .int, 2) := by decide +kernel
theorem dX0_init_9 : decode cX0_init 9 = .ok (.putfield 9, 3) := by decide +kernel
theorem dX0_init_12 : decode cX0_init 12 = .ok (.aload_n 0, 1) := by decide +kernel
theorem dX0_init_13 : decode cX0_init 13 = .ok (.iconst 0, 1) := by decide +kernel
theorem dX0_init_14 : decode cX0_init 14 = .ok (.putfield 15, 3) := by decide +kernel
theorem dX0_init_17 : decode cX0_init 17 = .ok (.return_, 1) := by decide +kernel
theorem dX0_empty_0 : decode cX0_empty 0 = .ok (.aload_n 0, 1) := by decide +kernel
theorem dX0_empty_1 : decode cX0_empty 1 = .ok (.iconst 0, 1) := by decide +kernel
theorem dX0_empty_2 : decode cX0_empty 2 = .ok (.putfield 15, 3) := by decide +kernel
theorem dX0_empty_5 : decode cX0_empty 5 = .ok (.return_, 1) := by decide +kernel
theorem dX0_copyFrom_0 : decode cX0_copyFrom 0 = .ok (.aload_n 1, 1) := by decide +kernel
theorem dX0_copyFrom_1 : decode cX0_copyFrom 1 = .ok (.getfield 9, 3) := by decide +kernel
theorem dX0_copyFrom_4 : decode cX0_copyFrom 4 = .ok (.iconst 0, 1) := by decide +kernel
theorem dX0_copyFrom_5 : decode cX0_copyFrom 5 = .ok (.aload_n 0, 1) := by decide +kernel
theorem dX0_copyFrom_6 : decode cX0_copyFrom 6 = .ok (.getfield 9, 3) := by decide +kernel
theorem dX0_copyFrom_9 : decode cX0_copyFrom 9 = .ok (.iconst 0, 1) := by decide +kernel
theorem dX0_copyFrom_10 : decode cX0_copyFrom 10 = .ok (.bipush 12, 2) := by decide +kernel
theorem dX0_copyFrom_12 : decode cX0_copyFrom 12 = .ok (.invokestatic 19, 3) := by decide +kernel
theorem dX0_copyFrom_15 : decode cX0_copyFrom 15 = .ok (.aload_n 0, 1) := by decide +kernel
theorem dX0_copyFrom_16 : decode cX0_copyFrom 16 = .ok (.aload_n 1, 1) := by decide +kernel
theorem dX0_copyFrom_17 : decode cX0_copyFrom 17 = .ok (.getfield 15, 3) := by decide +kernel
theorem dX0_copyFrom_20 : decode cX0_copyFrom 20 = .ok (.putfield 15, 3) := by decide +kernel
theorem dX0_copyFrom_23 : decode cX0_copyFrom 23 = .ok (.return_, 1) := by decide +kernel
theorem dX0_take_0 : decode cX0_take 0 = .ok (.aload_n 0, 1) := by decide +kernel
theorem dX0_take_1 : decode cX0_take 1 = .ok (.getfield 15, 3) := by decide +kernel
theorem dX0_take_4 : decode cX0_take 4 = .ok (.bipush 12, 2) := by decide +kernel
theorem dX0_take_6 : decode cX0_take 6 = .ok (.if_icmp .lt 5, 3) := by decide +kernel
theorem dX0_take_9 : decode cX0_take 9 = .ok (.iconst 0, 1) := by decide +kernel
theorem dX0_take_10 : decode cX0_take 10 = .ok (.ireturn, 1) := by decide +kernel
theorem dX0_take_11 : decode cX0_take 11 = .ok (.aload_n 0, 1) := by decide +kernel
theorem dX0_take_12 : decode cX0_take 12 = .ok (.getfield 9, 3) := by decide +kernel
theorem dX0_take_15 : decode cX0_take 15 = .ok (.aload_n 0, 1) := by decide +kernel
theorem dX0_take_16 : decode cX0_take 16 = .ok (.getfield 15, 3) := by decide +kernel
theorem dX0_take_19 : decode cX0_take 19 = .ok (.iload_n 1, 1) := by decide +kernel
theorem dX0_take_20 : decode cX0_take 20 = .ok (.iastore, 1) := by decide +kernel
theorem dX0_take_21 : decode cX0_take 21 = .ok (.aload_n 0, 1) := by decide +kernel
theorem dX0_take_22 : decode cX0_take 22 = .ok (.dup, 1) := by decide +kernel
theorem dX0_take_23 : decode cX0_take 23 = .ok (.getfield 15, 3) := by decide +kernel
theorem dX0_take_26 : decode cX0_take 26 = .ok (.iconst 1, 1) := by decide +kernel
theorem dX0_take_27 : decode cX0_take 27 = .ok (.iadd, 1) := by decide +kernel
theorem dX0_take_28 : decode cX0_take 28 = .ok (.putfield 15, 3) := by decide +kernel
theorem dX0_take_31 : decode cX0_take 31 = .ok (.iconst 1, 1) := by decide +kernel
theorem dX0_take_32 : decode cX0_take 32 = .ok (.ireturn, 1) := by decide +kernel
theorem dX0_likeness_0 : decode cX0_likeness 0 = .ok (.aload_n 1, 1) := by decide +kernel
theorem dX0_likeness_1 : decode cX0_likeness 1 = .ok (.iload_n 2, 1) := by decide +kernel
theorem dX0_likeness_2 : decode cX0_likeness 2 = .ok (.invokevirtual 25, 3) := by decide +kernel
theorem dX0_likeness_5 : decode cX0_likeness 5 = .ok (.aload_n 0, 1) := by decide +kernel
theorem dX0_likeness_6 : decode cX0_likeness 6 = .ok (.getfield 15, 3) := by decide +kernel
theorem dX0_likeness_9 : decode cX0_likeness 9 = .ok (.if_icmp .eq 5, 3) := by decide +kernel
theorem dX0_likeness_12 : decode cX0_likeness 12 = .ok (.lconst 0, 1) := by decide +kernel
theorem dX0_likeness_13 : decode cX0_likeness 13 = .ok (.lreturn, 1) := by decide +kernel
theorem dX0_likeness_14 : decode cX0_likeness 14 = .ok (.lconst 1, 1) := by decide +kernel
theorem dX0_likeness_15 : decode cX0_likeness 15 = .ok (.lstore 4, 2) := by decide +kernel
theorem dX0_likeness_17 : decode cX0_likeness 17 = .ok (.iconst 0, 1) := by decide +kernel
theorem dX0_likeness_18 : decode cX0_likeness 18 = .ok (.istore 6, 2) := by decide +kernel
theorem dX0_likeness_20 : decode cX0_likeness 20 = .ok (.iload 6, 2) := by decide +kernel
theorem dX0_likeness_22 : decode cX0_likeness 22 = .ok (.aload_n 0, 1) := by decide +kernel
theorem dX0_likeness_23 : decode cX0_likeness 23 = .ok (.getfield 15, 3) := by decide +kernel
theorem dX0_likeness_26 : decode cX0_likeness 26 = .ok (.if_icmp .ge 71, 3) := by decide +kernel
theorem dX0_likeness_29 : decode cX0_likeness 29 = .ok (.iload 6, 2) := by decide +kernel
theorem dX0_likeness_31 : decode cX0_likeness 31 = .ok (.bipush 12, 2) := by decide +kernel
theorem dX0_likeness_33 : decode cX0_likeness 33 = .ok (.if_icmp .ge 64, 3) := by decide +kernel
theorem dX0_likeness_36 : decode cX0_likeness 36 = .ok (.aload_n 0, 1) := by decide +kernel
theorem dX0_likeness_37 : decode cX0_likeness 37 = .ok (.getfield 9, 3) := by decide +kernel
theorem dX0_likeness_40 : decode cX0_likeness 40 = .ok (.iload 6, 2) := by decide +kernel
theorem dX0_likeness_42 : decode cX0_likeness 42 = .ok (.iaload, 1) := by decide +kernel
theorem dX0_likeness_43 : decode cX0_likeness 43 = .ok (.bipush 9, 2) := by decide +kernel
theorem dX0_likeness_45 : decode cX0_likeness 45 = .ok (.if_icmp .ne 14, 3) := by decide +kernel
theorem dX0_likeness_48 : decode cX0_likeness 48 = .ok (.lload 4, 2) := by decide +kernel
theorem dX0_likeness_50 : decode cX0_likeness 50 = .ok (.ldc2_w 31, 3) := by decide +kernel
theorem dX0_likeness_53 : decode cX0_likeness 53 = .ok (.lmul, 1) := by decide +kernel
theorem dX0_likeness_54 : decode cX0_likeness 54 = .ok (.lstore 4, 2) := by decide +kernel
theorem dX0_likeness_56 : decode cX0_likeness 56 = .ok (.goto 35, 3) := by decide +kernel
theorem dX0_likeness_59 : decode cX0_likeness 59 = .ok (.lload 4, 2) := by decide +kernel
theorem dX0_likeness_61 : decode cX0_likeness 61 = .ok (.aload_n 0, 1) := by decide +kernel
theorem dX0_likeness_62 : decode cX0_likeness 62 = .ok (.getfield 9, 3) := by decide +kernel
theorem dX0_likeness_65 : decode cX0_likeness 65 = .ok (.iload 6, 2) := by decide +kernel
theorem dX0_likeness_67 : decode cX0_likeness 67 = .ok (.iaload, 1) := by decide +kernel
theorem dX0_likeness_68 : decode cX0_likeness 68 = .ok (.aload_n 1, 1) := by decide +kernel
theorem dX0_likeness_69 : decode cX0_likeness 69 = .ok (.iload_n 2, 1) := by decide +kernel
theorem dX0_likeness_70 : decode cX0_likeness 70 = .ok (.iload 6, 2) := by decide +kernel
theorem dX0_likeness_72 : decode cX0_likeness 72 = .ok (.invokevirtual 33, 3) := by decide +kernel
theorem dX0_likeness_75 : decode cX0_likeness 75 = .ok (.if_icmp .ne 11, 3) := by decide +kernel
theorem dX0_likeness_78 : decode cX0_likeness 78 = .ok (.bipush 10, 2) := by decide +kernel
theorem dX0_likeness_80 : decode cX0_likeness 80 = .ok (.iload_n 3, 1) := by decide +kernel
theorem dX0_likeness_81 : decode cX0_likeness 81 = .ok (.isub, 1) := by decide +kernel
theorem dX0_likeness_82 : decode cX0_likeness 82 = .ok (.i2l, 1) := by decide +kernel
theorem dX0_likeness_83 : decode cX0_likeness 83 = .ok (.goto 5, 3) := by decide +kernel
theorem dX0_likeness_86 : decode cX0_likeness 86 = .ok (.iload_n 3, 1) := by decide +kernel
theorem dX0_likeness_87 : decode cX0_likeness 87 = .ok (.i2l, 1) := by decide +kernel
theorem dX0_likeness_88 : decode cX0_likeness 88 = .ok (.lmul, 1) := by decide +kernel
theorem dX0_likeness_89 : decode cX0_likeness 89 = .ok (.lstore 4, 2) := by decide +kernel
theorem dX0_likeness_91 : decode cX0_likeness 91 = .ok (.iinc 6 1, 3) := by decide +kernel
theorem dX0_likeness_94 : decode cX0_likeness 94 = .ok (.goto (-74), 3) := by decide +kernel
theorem dX0_likeness_97 : decode cX0_likeness 97 = .ok (.lload 4, 2) := by decide +kernel
theorem dX0_likeness_99 : decode cX0_likeness 99 = .ok (.lreturn, 1) := by decide +kernel
theorem dX1_init_0 : decode cX1_init 0 = .ok (.aload_n 0, 1) := by decide +kernel
theorem dX1_init_1 : decode cX1_init 1 = .ok (.invokespecial 3, 3) := by decide +kernel
theorem dX1_init_4 : decode cX1_init 4 = .ok (.aload_n 0, 1) := by decide +kernel
theorem dX1_init_5 : decode cX1_init 5 = .ok (.iconst 0, 1) := by decide +kernel
theorem dX1_init_6 : decode cX1_init 6 = .ok (.putfield 9, 3) := by decide +kernel
theorem dX1_init_9 : decode cX1_init 9 = .ok (.aload_n 0, 1) := by decide +kernel
theorem dX1_init_10 : decode cX1_init 10 = .ok (.iconst 1, 1) := by decide +kernel
theorem dX1_init_11 : decode cX1_init 11 = .ok (.putfield 15, 3) := by decide +kernel
theorem dX1_init_14 : decode cX1_init 14 = .ok (.aload_n 0, 1) := by decide +kernel
theorem dX1_init_15 : decode cX1_init 15 = .ok (.iconst 0, 1) := by decide +kernel
theorem dX1_init_16 : decode cX1_init 16 = .ok (.putfield 18, 3) := by decide +kernel
theorem dX1_init_19 : decode cX1_init 19 = .ok (.aload_n 0, 1) := by decide +kernel
theorem dX1_init_20 : decode cX1_init 20 = .ok (.bipush 8, 2) := by decide +kernel
theorem dX1_init_22 : decode cX1_init 22 = .ok (.newarray .int, 2) := by decide +kernel
theorem dX1_init_24 : decode cX1_init 24 = .ok (.putfield 21, 3) := by decide +kernel
theorem dX1_init_27 : decode cX1_init 27 = .ok (.aload_n 0, 1) := by decide +kernel
theorem dX1_init_28 : decode cX1_init 28 = .ok (.bipush 8, 2) := by decide +kernel
theorem dX1_init_30 : decode cX1_init 30 = .ok (.newarray .int, 2) := by decide +kernel
theorem dX1_init_32 : decode cX1_init 32 = .ok (.putfield 25, 3) := by decide +kernel
theorem dX1_init_35 : decode cX1_init 35 = .ok (.aload_n 0, 1) := by decide +kernel
theorem dX1_init_36 : decode cX1_init 36 = .ok (.bipush 8, 2) := by decide +kernel
theorem dX1_init_38 : decode cX1_init 38 = .ok (.newarray .int, 2) := by decide +kernel
theorem dX1_init_40 : decode cX1_init 40 = .ok (.putfield 28, 3) := by decide +kernel
theorem dX1_init_43 : decode cX1_init 43 = .ok (.aload_n 0, 1) := by decide +kernel
theorem dX1_init_44 : decode cX1_init 44 = .ok (.bipush 8, 2) := by decide +kernel
theorem dX1_init_46 : decode cX1_init 46 = .ok (.newarray .int, 2) := by decide +kernel
theorem dX1_init_48 : decode cX1_init 48 = .ok (.putfield 31, 3) := by decide +kernel
theorem dX1_init_51 : decode cX1_init 51 = .ok (.aload_n 0, 1) := by decide +kernel
theorem dX1_init_52 : decode cX1_init 52 = .ok (.sipush 256, 3) := by decide +kernel
theorem dX1_init_55 : decode cX1_init 55 = .ok (.newarray .int, 2) := by decide +kernel
theorem dX1_init_57 : decode cX1_init 57 = .ok (.putfield 34, 3) := by decide +kernel
theorem dX1_init_60 : decode cX1_init 60 = .ok (.aload_n 0, 1) := by decide +kernel
theorem dX1_init_61 : decode cX1_init 61 = .ok (.sipush 256, 3) := by decide +kernel
theorem dX1_init_64 : decode cX1_init 64 = .ok (.newarray .boolean, 2) := by decide +kernel
theorem dX1_init_66 : decode cX1_init 66 = .ok (.putfield 37, 3) := by decide +kernel
theorem dX1_init_69 : decode cX1_init 69 = .ok (.aload_n 0, 1) := by decide +kernel
theorem dX1_init_70 : decode cX1_init 70 = .ok (.bipush 8, 2) := by decide +kernel
theorem dX1_init_72 : decode cX1_init 72 = .ok (.newarray .int, 2) := by decide +kernel
theorem dX1_init_74 : decode cX1_init 74 = .ok (.putfield 41, 3) := by decide +kernel
theorem dX1_init_77 : decode cX1_init 77 = .ok (.aload_n 0, 1) := by decide +kernel
theorem dX1_init_78 : decode cX1_init 78 = .ok (.sipush 256, 3) := by decide +kernel
theorem dX1_init_81 : decode cX1_init 81 = .ok (.newarray .int, 2) := by decide +kernel
theorem dX1_init_83 : decode cX1_init 83 = .ok (.putfield 44, 3) := by decide +kernel
theorem dX1_init_86 : decode cX1_init 86 = .ok (.aload_n 0, 1) := by decide +kernel
theorem dX1_init_87 : decode cX1_init 87 = .ok (.bipush 8, 2) := by decide +kernel
theorem dX1_init_89 : decode cX1_init 89 = .ok (.newarray .int, 2) := by decide +kernel
theorem dX1_init_91 : decode cX1_init 91 = .ok (.putfield 47, 3) := by decide +kernel
theorem dX1_init_94 : decode cX1_init 94 = .ok (.aload_n 0, 1) := by decide +kernel
theorem dX1_init_95 : decode cX1_init 95 = .ok (.iconst 0, 1) := by decide +kernel
theorem dX1_init_96 : decode cX1_init 96 = .ok (.putfield 50, 3) := by decide +kernel
theorem dX1_init_99 : decode cX1_init 99 = .ok (.return_, 1) := by decide +kernel
theorem dX1_learn_0 : decode cX1_learn 0 = .ok (.aload_n 0, 1) := by decide +kernel
theorem dX1_learn_1 : decode cX1_learn 1 = .ok (.aload_n 2, 1) := by decide +kernel
theorem dX1_learn_2 : decode cX1_learn 2 = .ok (.getfield 53, 3) := by decide +kernel
theorem dX1_learn_5 : decode cX1_learn 5 = .ok (.bipush 8, 2) := by decide +kernel
theorem dX1_learn_7 : decode cX1_learn 7 = .ok (.invokestatic 56, 3) := by decide +kernel
theorem dX1_learn_10 : decode cX1_learn 10 = .ok (.putfield 9, 3) := by decide +kernel
theorem dX1_learn_13 : decode cX1_learn 13 = .ok (.aload_n 0, 1) := by decide +kernel
theorem dX1_learn_14 : decode cX1_learn 14 = .ok (.aload_n 1, 1) := by decide +kernel
theorem dX1_learn_15 : decode cX1_learn 15 = .ok (.getfield 62, 3) := by decide +kernel
theorem dX1_learn_18 : decode cX1_learn 18 = .ok (.putfield 15, 3) := by decide +kernel
theorem dX1_learn_21 : decode cX1_learn 21 = .ok (.aload_n 0, 1) := by decide +kernel
theorem dX1_learn_22 : decode cX1_learn 22 = .ok (.aload_n 1, 1) := by decide +kernel
theorem dX1_learn_23 : decode cX1_learn 23 = .ok (.getfield 65, 3) := by decide +kernel
theorem dX1_learn_26 : decode cX1_learn 26 = .ok (.putfield 18, 3) := by decide +kernel
theorem dX1_learn_29 : decode cX1_learn 29 = .ok (.iconst 0, 1) := by decide +kernel
theorem dX1_learn_30 : decode cX1_learn 30 = .ok (.istore_n 3, 1) := by decide +kernel
theorem dX1_learn_31 : decode cX1_learn 31 = .ok (.iload_n 3, 1) := by decide +kernel
theorem dX1_learn_32 : decode cX1_learn 32 = .ok (.aload_n 0, 1) := by decide +kernel
theorem dX1_learn_33 : decode cX1_learn 33 = .ok (.getfield 9, 3) := by decide +kernel
theorem dX1_learn_36 : decode cX1_learn 36 = .ok (.if_icmp .ge 54, 3) := by decide +kernel
theorem dX1_learn_39 : decode cX1_learn 39 = .ok (.aload_n 0, 1) := by decide +kernel
theorem dX1_learn_40 : decode cX1_learn 40 = .ok (.getfield 21, 3) := by decide +kernel
theorem dX1_learn_43 : decode cX1_learn 43 = .ok (.iload_n 3, 1) := by decide +kernel
theorem dX1_learn_44 : decode cX1_learn 44 = .ok (.aload_n 2, 1) := by decide +kernel
theorem dX1_learn_45 : decode cX1_learn 45 = .ok (.iload_n 3, 1) := by decide +kernel
theorem dX1_learn_46 : decode cX1_learn 46 = .ok (.invokevirtual 66, 3) := by decide +kernel
theorem dX1_learn_49 : decode cX1_learn 49 = .ok (.iastore, 1) := by decide +kernel
theorem dX1_learn_50 : decode cX1_learn 50 = .ok (.aload_n 0, 1) := by decide +kernel
theorem dX1_learn_51 : decode cX1_learn 51 = .ok (.getfield 25, 3) := by decide +kernel
theorem dX1_learn_54 : decode cX1_learn 54 = .ok (.iload_n 3, 1) := by decide +kernel
theorem dX1_learn_55 : decode cX1_learn 55 = .ok (.aload_n 1, 1) := by decide +kernel
theorem dX1_learn_56 : decode cX1_learn 56 = .ok (.aload_n 2, 1) := by decide +kernel
theorem dX1_learn_57 : decode cX1_learn 57 = .ok (.iload_n 3, 1) := by decide +kernel
theorem dX1_learn_58 : decode cX1_learn 58 = .ok (.invokevirtual 70, 3) := by decide +kernel
theorem dX1_learn_61 : decode cX1_learn 61 = .ok (.iastore, 1) := by decide +kernel
theorem dX1_learn_62 : decode cX1_learn 62 = .ok (.aload_n 0, 1) := by decide +kernel
theorem dX1_learn_63 : decode cX1_learn 63 = .ok (.getfield 28, 3) := by decide +kernel
theorem dX1_learn_66 : decode cX1_learn 66 = .ok (.iload_n 3, 1) := by decide +kernel
theorem dX1_learn_67 : decode cX1_learn 67 = .ok (.aload_n 1, 1) := by decide +kernel
theorem dX1_learn_68 : decode cX1_learn 68 = .ok (.iload_n 3, 1) := by decide +kernel
theorem dX1_learn_69 : decode cX1_learn 69 = .ok (.invokevirtual 74, 3) := by decide +kernel
theorem dX1_learn_72 : decode cX1_learn 72 = .ok (.iastore, 1) := by decide +kernel
theorem dX1_learn_73 : decode cX1_learn 73 = .ok (.aload_n 0, 1) := by decide +kernel
theorem dX1_learn_74 : decode cX1_learn 74 = .ok (.getfield 31, 3) := by decide +kernel
theorem dX1_learn_77 : decode cX1_learn 77 = .ok (.iload_n 3, 1) := by decide +kernel
theorem dX1_learn_78 : decode cX1_learn 78 = .ok (.aload_n 1, 1) := by decide +kernel
theorem dX1_learn_79 : decode cX1_learn 79 = .ok (.iload_n 3, 1) := by decide +kernel
theorem dX1_learn_80 : decode cX1_learn 80 = .ok (.invokevirtual 77, 3) := by decide +kernel
theorem dX1_learn_83 : decode cX1_learn 83 = .ok (.iastore, 1) := by decide +kernel
theorem dX1_learn_84 : decode cX1_learn 84 = .ok (.iinc 3 1, 3) := by decide +kernel
theorem dX1_learn_87 : decode cX1_learn 87 = .ok (.goto (-56), 3) := by decide +kernel
theorem dX1_learn_90 : decode cX1_learn 90 = .ok (.return_, 1) := by decide +kernel
theorem dX1_inOrder_0 : decode cX1_inOrder 0 = .ok (.iload_n 1, 1) := by decide +kernel
theorem dX1_inOrder_1 : decode cX1_inOrder 1 = .ok (.iconst 0, 1) := by decide +kernel
theorem dX1_inOrder_2 : decode cX1_inOrder 2 = .ok (.aload_n 0, 1) := by decide +kernel
theorem dX1_inOrder_3 : decode cX1_inOrder 3 = .ok (.getfield 50, 3) := by decide +kernel
theorem dX1_inOrder_6 : decode cX1_inOrder 6 = .ok (.iconst 1, 1) := by decide +kernel
theorem dX1_inOrder_7 : decode cX1_inOrder 7 = .ok (.isub, 1) := by decide +kernel
theorem dX1_inOrder_8 : decode cX1_inOrder 8 = .ok (.invokestatic 80, 3) := by decide +kernel
theorem dX1_inOrder_11 : decode cX1_inOrder 11 = .ok (.ifCond .eq 18, 3) := by decide +kernel
theorem dX1_inOrder_14 : decode cX1_inOrder 14 = .ok (.iload_n 1, 1) := by decide +kernel
theorem dX1_inOrder_15 : decode cX1_inOrder 15 = .ok (.bipush 8, 2) := by decide +kernel
theorem dX1_inOrder_17 : decode cX1_inOrder 17 = .ok (.if_icmp .ge 12, 3) := by decide +kernel
theorem dX1_inOrder_20 : decode cX1_inOrder 20 = .ok (.aload_n 0, 1) := by decide +kernel
theorem dX1_inOrder_21 : decode cX1_inOrder 21 = .ok (.getfield 47, 3) := by decide +kernel
theorem dX1_inOrder_24 : decode cX1_inOrder 24 = .ok (.iload_n 1, 1) := by decide +kernel
theorem dX1_inOrder_25 : decode cX1_inOrder 25 = .ok (.iaload, 1) := by decide +kernel
theorem dX1_inOrder_26 : decode cX1_inOrder 26 = .ok (.goto 5, 3) := by decide +kernel
theorem dX1_inOrder_29 : decode cX1_inOrder 29 = .ok (.bipush (-4), 2) := by decide +kernel
theorem dX1_inOrder_31 : decode cX1_inOrder 31 = .ok (.ireturn, 1) := by decide +kernel
theorem dX1_breathsFor_0 : decode cX1_breathsFor 0 = .ok (.aload_n 0, 1) := by decide +kernel
theorem dX1_breathsFor_1 : decode cX1_breathsFor 1 = .ok (.getfield 15, 3) := by decide +kernel
theorem dX1_breathsFor_4 : decode cX1_breathsFor 4 = .ok (.iconst 1, 1) := by decide +kernel
theorem dX1_breathsFor_5 : decode cX1_breathsFor 5 = .ok (.if_icmp .ge 7, 3) := by decide +kernel
theorem dX1_breathsFor_8 : decode cX1_breathsFor 8 = .ok (.iconst 0, 1) := by decide +kernel
theorem dX1_breathsFor_9 : decode cX1_breathsFor 9 = .ok (.goto 16, 3) := by decide +kernel
theorem dX1_breathsFor_12 : decode cX1_breathsFor 12 = .ok (.iload_n 1, 1) := by decide +kernel
theorem dX1_breathsFor_13 : decode cX1_breathsFor 13 = .ok (.aload_n 0, 1) := by decide +kernel
theorem dX1_breathsFor_14 : decode cX1_breathsFor 14 = .ok (.getfield 15, 3) := by decide +kernel
theorem dX1_breathsFor_17 : decode cX1_breathsFor 17 = .ok (.iadd, 1) := by decide +kernel
theorem dX1_breathsFor_18 : decode cX1_breathsFor 18 = .ok (.iconst 1, 1) := by decide +kernel
theorem dX1_breathsFor_19 : decode cX1_breathsFor 19 = .ok (.isub, 1) := by decide +kernel
theorem dX1_breathsFor_20 : decode cX1_breathsFor 20 = .ok (.aload_n 0, 1) := by decide +kernel
theorem dX1_breathsFor_21 : decode cX1_breathsFor 21 = .ok (.getfield 15, 3) := by decide +kernel
theorem dX1_breathsFor_24 : decode cX1_breathsFor 24 = .ok (.idiv, 1) := by decide +kernel
theorem dX1_breathsFor_25 : decode cX1_breathsFor 25 = .ok (.ireturn, 1) := by decide +kernel
theorem dX1_beatsToCall_0 : decode cX1_beatsToCall 0 = .ok (.iconst 0, 1) := by decide +kernel
theorem dX1_beatsToCall_1 : decode cX1_beatsToCall 1 = .ok (.istore_n 2, 1) := by decide +kernel
theorem dX1_beatsToCall_2 : decode cX1_beatsToCall 2 = .ok (.iconst 0, 1) := by decide +kernel
theorem dX1_beatsToCall_3 : decode cX1_beatsToCall 3 = .ok (.istore_n 3, 1) := by decide +kernel
theorem dX1_beatsToCall_4 : decode cX1_beatsToCall 4 = .ok (.iconst 0, 1) := by decide +kernel
theorem dX1_beatsToCall_5 : decode cX1_beatsToCall 5 = .ok (.istore 4, 2) := by decide +kernel
theorem dX1_beatsToCall_7 : decode cX1_beatsToCall 7 = .ok (.iload 4, 2) := by decide +kernel
theorem dX1_beatsToCall_9 : decode cX1_beatsToCall 9 = .ok (.aload_n 0, 1) := by decide +kernel
theorem dX1_beatsToCall_10 : decode cX1_beatsToCall 10 = .ok (.getfield 9, 3) := by decide +kernel
theorem dX1_beatsToCall_13 : decode cX1_beatsToCall 13 = .ok (.if_icmp .ge 38, 3) := by decide +kernel
theorem dX1_beatsToCall_16 : decode cX1_beatsToCall 16 = .ok (.iload 4, 2) := by decide +kernel
theorem dX1_beatsToCall_18 : decode cX1_beatsToCall 18 = .ok (.iload_n 1, 1) := by decide +kernel
theorem dX1_beatsToCall_19 : decode cX1_beatsToCall 19 = .ok (.invokestatic 84, 3) := by decide +kernel
theorem dX1_beatsToCall_22 : decode cX1_beatsToCall 22 = .ok (.ifCond .eq 23, 3) := by decide +kernel
theorem dX1_beatsToCall_25 : decode cX1_beatsToCall 25 = .ok (.iload_n 2, 1) := by decide +kernel
theorem dX1_beatsToCall_26 : decode cX1_beatsToCall 26 = .ok (.aload_n 0, 1) := by decide +kernel
theorem dX1_beatsToCall_27 : decode cX1_beatsToCall 27 = .ok (.getfield 25, 3) := by decide +kernel
theorem dX1_beatsToCall_30 : decode cX1_beatsToCall 30 = .ok (.iload 4, 2) := by decide +kernel
theorem dX1_beatsToCall_32 : decode cX1_beatsToCall 32 = .ok (.iaload, 1) := by decide +kernel
theorem dX1_beatsToCall_33 : decode cX1_beatsToCall 33 = .ok (.iadd, 1) := by decide +kernel
theorem dX1_beatsToCall_34 : decode cX1_beatsToCall 34 = .ok (.istore_n 2, 1) := by decide +kernel
theorem dX1_beatsToCall_35 : decode cX1_beatsToCall 35 = .ok (.iload_n 3, 1) := by decide +kernel
theorem dX1_beatsToCall_36 : decode cX1_beatsToCall 36 = .ok (.aload_n 0, 1) := by decide +kernel
theorem dX1_beatsToCall_37 : decode cX1_beatsToCall 37 = .ok (.getfield 21, 3) := by decide +kernel
theorem dX1_beatsToCall_40 : decode cX1_beatsToCall 40 = .ok (.iload 4, 2) := by decide +kernel
theorem dX1_beatsToCall_42 : decode cX1_beatsToCall 42 = .ok (.iaload, 1) := by decide +kernel
theorem dX1_beatsToCall_43 : decode cX1_beatsToCall 43 = .ok (.iadd, 1) := by decide +kernel
theorem dX1_beatsToCall_44 : decode cX1_beatsToCall 44 = .ok (.istore_n 3, 1) := by decide +kernel
theorem dX1_beatsToCall_45 : decode cX1_beatsToCall 45 = .ok (.iinc 4 1, 3) := by decide +kernel
theorem dX1_beatsToCall_48 : decode cX1_beatsToCall 48 = .ok (.goto (-41), 3) := by decide +kernel
theorem dX1_beatsToCall_51 : decode cX1_beatsToCall 51 = .ok (.iload_n 3, 1) := by decide +kernel
theorem dX1_beatsToCall_52 : decode cX1_beatsToCall 52 = .ok (.ifCond .ne 7, 3) := by decide +kernel
theorem dX1_beatsToCall_55 : decode cX1_beatsToCall 55 = .ok (.iload_n 2, 1) := by decide +kernel
theorem dX1_beatsToCall_56 : decode cX1_beatsToCall 56 = .ok (.goto 17, 3) := by decide +kernel
theorem dX1_beatsToCall_59 : decode cX1_beatsToCall 59 = .ok (.iload_n 2, 1) := by decide +kernel
theorem dX1_beatsToCall_60 : decode cX1_beatsToCall 60 = .ok (.aload_n 0, 1) := by decide +kernel
theorem dX1_beatsToCall_61 : decode cX1_beatsToCall 61 = .ok (.getfield 18, 3) := by decide +kernel
theorem dX1_beatsToCall_64 : decode cX1_beatsToCall 64 = .ok (.aload_n 0, 1) := by decide +kernel
theorem dX1_beatsToCall_65 : decode cX1_beatsToCall 65 = .ok (.iload_n 3, 1) := by decide +kernel
theorem dX1_beatsToCall_66 : decode cX1_beatsToCall 66 = .ok (.invokevirtual 88, 3) := by decide +kernel
theorem dX1_beatsToCall_69 : decode cX1_beatsToCall 69 = .ok (.iconst 1, 1) := by decide +kernel
theorem dX1_beatsToCall_70 : decode cX1_beatsToCall 70 = .ok (.isub, 1) := by decide +kernel
theorem dX1_beatsToCall_71 : decode cX1_beatsToCall 71 = .ok (.imul, 1) := by decide +kernel
theorem dX1_beatsToCall_72 : decode cX1_beatsToCall 72 = .ok (.iadd, 1) := by decide +kernel
theorem dX1_beatsToCall_73 : decode cX1_beatsToCall 73 = .ok (.ireturn, 1) := by decide +kernel
theorem dX1_mostSaved_0 : decode cX1_mostSaved 0 = .ok (.iconst 0, 1) := by decide +kernel
theorem dX1_mostSaved_1 : decode cX1_mostSaved 1 = .ok (.istore_n 2, 1) := by decide +kernel
theorem dX1_mostSaved_2 : decode cX1_mostSaved 2 = .ok (.aload_n 0, 1) := by decide +kernel
theorem dX1_mostSaved_3 : decode cX1_mostSaved 3 = .ok (.getfield 34, 3) := by decide +kernel
theorem dX1_mostSaved_6 : decode cX1_mostSaved 6 = .ok (.iconst 0, 1) := by decide +kernel
theorem dX1_mostSaved_7 : decode cX1_mostSaved 7 = .ok (.iconst 0, 1) := by decide +kernel
theorem dX1_mostSaved_8 : decode cX1_mostSaved 8 = .ok (.iastore, 1) := by decide +kernel
theorem dX1_mostSaved_9 : decode cX1_mostSaved 9 = .ok (.aload_n 0, 1) := by decide +kernel
theorem dX1_mostSaved_10 : decode cX1_mostSaved 10 = .ok (.getfield 37, 3) := by decide +kernel
theorem dX1_mostSaved_13 : decode cX1_mostSaved 13 = .ok (.iconst 0, 1) := by decide +kernel
theorem dX1_mostSaved_14 : decode cX1_mostSaved 14 = .ok (.iconst 1, 1) := by decide +kernel
theorem dX1_mostSaved_15 : decode cX1_mostSaved 15 = .ok (.bastore, 1) := by decide +kernel
theorem dX1_mostSaved_16 : decode cX1_mostSaved 16 = .ok (.iconst 1, 1) := by decide +kernel
theorem dX1_mostSaved_17 : decode cX1_mostSaved 17 = .ok (.istore_n 3, 1) := by decide +kernel
theorem dX1_mostSaved_18 : decode cX1_mostSaved 18 = .ok (.iload_n 3, 1) := by decide +kernel
theorem dX1_mostSaved_19 : decode cX1_mostSaved 19 = .ok (.iconst 1, 1) := by decide +kernel
theorem dX1_mostSaved_20 : decode cX1_mostSaved 20 = .ok (.aload_n 0, 1) := by decide +kernel
theorem dX1_mostSaved_21 : decode cX1_mostSaved 21 = .ok (.getfield 9, 3) := by decide +kernel
theorem dX1_mostSaved_24 : decode cX1_mostSaved 24 = .ok (.ishl, 1) := by decide +kernel
theorem dX1_mostSaved_25 : decode cX1_mostSaved 25 = .ok (.if_icmp .ge 54, 3) := by decide +kernel
theorem dX1_mostSaved_28 : decode cX1_mostSaved 28 = .ok (.aload_n 0, 1) := by decide +kernel
theorem dX1_mostSaved_29 : decode cX1_mostSaved 29 = .ok (.getfield 34, 3) := by decide +kernel
theorem dX1_mostSaved_32 : decode cX1_mostSaved 32 = .ok (.iload_n 3, 1) := by decide +kernel
theorem dX1_mostSaved_33 : decode cX1_mostSaved 33 = .ok (.aload_n 0, 1) := by decide +kernel
theorem dX1_mostSaved_34 : decode cX1_mostSaved 34 = .ok (.iload_n 3, 1) := by decide +kernel
theorem dX1_mostSaved_35 : decode cX1_mostSaved 35 = .ok (.invokevirtual 91, 3) := by decide +kernel
theorem dX1_mostSaved_38 : decode cX1_mostSaved 38 = .ok (.iastore, 1) := by decide +kernel
theorem dX1_mostSaved_39 : decode cX1_mostSaved 39 = .ok (.aload_n 0, 1) := by decide +kernel
theorem dX1_mostSaved_40 : decode cX1_mostSaved 40 = .ok (.getfield 37, 3) := by decide +kernel
theorem dX1_mostSaved_43 : decode cX1_mostSaved 43 = .ok (.iload_n 3, 1) := by decide +kernel
theorem dX1_mostSaved_44 : decode cX1_mostSaved 44 = .ok (.aload_n 0, 1) := by decide +kernel
theorem dX1_mostSaved_45 : decode cX1_mostSaved 45 = .ok (.iload_n 3, 1) := by decide +kernel
theorem dX1_mostSaved_46 : decode cX1_mostSaved 46 = .ok (.iload_n 1, 1) := by decide +kernel
theorem dX1_mostSaved_47 : decode cX1_mostSaved 47 = .ok (.invokevirtual 94, 3) := by decide +kernel
theorem dX1_mostSaved_50 : decode cX1_mostSaved 50 = .ok (.bastore, 1) := by decide +kernel
theorem dX1_mostSaved_51 : decode cX1_mostSaved 51 = .ok (.aload_n 0, 1) := by decide +kernel
theorem dX1_mostSaved_52 : decode cX1_mostSaved 52 = .ok (.getfield 37, 3) := by decide +kernel
theorem dX1_mostSaved_55 : decode cX1_mostSaved 55 = .ok (.iload_n 3, 1) := by decide +kernel
theorem dX1_mostSaved_56 : decode cX1_mostSaved 56 = .ok (.baload, 1) := by decide +kernel
theorem dX1_mostSaved_57 : decode cX1_mostSaved 57 = .ok (.ifCond .eq 16, 3) := by decide +kernel
theorem dX1_mostSaved_60 : decode cX1_mostSaved 60 = .ok (.iload_n 3, 1) := by decide +kernel
theorem dX1_mostSaved_61 : decode cX1_mostSaved 61 = .ok (.invokestatic 97, 3) := by decide +kernel
theorem dX1_mostSaved_64 : decode cX1_mostSaved 64 = .ok (.iload_n 2, 1) := by decide +kernel
theorem dX1_mostSaved_65 : decode cX1_mostSaved 65 = .ok (.invokestatic 97, 3) := by decide +kernel
theorem dX1_mostSaved_68 : decode cX1_mostSaved 68 = .ok (.if_icmp .le 5, 3) := by decide +kernel
theorem dX1_mostSaved_71 : decode cX1_mostSaved 71 = .ok (.iload_n 3, 1) := by decide +kernel
theorem dX1_mostSaved_72 : decode cX1_mostSaved 72 = .ok (.istore_n 2, 1) := by decide +kernel
theorem dX1_mostSaved_73 : decode cX1_mostSaved 73 = .ok (.iinc 3 1, 3) := by decide +kernel
theorem dX1_mostSaved_76 : decode cX1_mostSaved 76 = .ok (.goto (-58), 3) := by decide +kernel
theorem dX1_mostSaved_79 : decode cX1_mostSaved 79 = .ok (.iload_n 2, 1) := by decide +kernel
theorem dX1_mostSaved_80 : decode cX1_mostSaved 80 = .ok (.ireturn, 1) := by decide +kernel
theorem dX1_someoneCanBeLast_0 : decode cX1_someoneCanBeLast 0 = .ok (.iconst 0, 1) := by decide +kernel
theorem dX1_someoneCanBeLast_1 : decode cX1_someoneCanBeLast 1 = .ok (.istore_n 3, 1) := by decide +kernel
theorem dX1_someoneCanBeLast_2 : decode cX1_someoneCanBeLast 2 = .ok (.iload_n 3, 1) := by decide +kernel
theorem dX1_someoneCanBeLast_3 : decode cX1_someoneCanBeLast 3 = .ok (.aload_n 0, 1) := by decide +kernel
theorem dX1_someoneCanBeLast_4 : decode cX1_someoneCanBeLast 4 = .ok (.getfield 9, 3) := by decide +kernel
theorem dX1_someoneCanBeLast_7 : decode cX1_someoneCanBeLast 7 = .ok (.if_icmp .ge 49, 3) := by decide +kernel
theorem dX1_someoneCanBeLast_10 : decode cX1_someoneCanBeLast 10 = .ok (.iload_n 3, 1) := by decide +kernel
theorem dX1_someoneCanBeLast_11 : decode cX1_someoneCanBeLast 11 = .ok (.iload_n 1, 1) := by decide +kernel
theorem dX1_someoneCanBeLast_12 : decode cX1_someoneCanBeLast 12 = .ok (.invokestatic 84, 3) := by decide +kernel
theorem dX1_someoneCanBeLast_15 : decode cX1_someoneCanBeLast 15 = .ok (.ifCond .eq 35, 3) := by decide +kernel
theorem dX1_someoneCanBeLast_18 : decode cX1_someoneCanBeLast 18 = .ok (.aload_n 0, 1) := by decide +kernel
theorem dX1_someoneCanBeLast_19 : decode cX1_someoneCanBeLast 19 = .ok (.getfield 37, 3) := by decide +kernel
theorem dX1_someoneCanBeLast_22 : decode cX1_someoneCanBeLast 22 = .ok (.iload_n 1, 1) := by decide +kernel
theorem dX1_someoneCanBeLast_23 : decode cX1_someoneCanBeLast 23 = .ok (.iconst 1, 1) := by decide +kernel
theorem dX1_someoneCanBeLast_24 : decode cX1_someoneCanBeLast 24 = .ok (.iload_n 3, 1) := by decide +kernel
theorem dX1_someoneCanBeLast_25 : decode cX1_someoneCanBeLast 25 = .ok (.ishl, 1) := by decide +kernel
theorem dX1_someoneCanBeLast_26 : decode cX1_someoneCanBeLast 26 = .ok (.ixor, 1) := by decide +kernel
theorem dX1_someoneCanBeLast_27 : decode cX1_someoneCanBeLast 27 = .ok (.baload, 1) := by decide +kernel
theorem dX1_someoneCanBeLast_28 : decode cX1_someoneCanBeLast 28 = .ok (.ifCond .eq 22, 3) := by decide +kernel
theorem dX1_someoneCanBeLast_31 : decode cX1_someoneCanBeLast 31 = .ok (.aload_n 0, 1) := by decide +kernel
theorem dX1_someoneCanBeLast_32 : decode cX1_someoneCanBeLast 32 = .ok (.getfield 34, 3) := by decide +kernel
theorem dX1_someoneCanBeLast_35 : decode cX1_someoneCanBeLast 35 = .ok (.iload_n 1, 1) := by decide +kernel
theorem dX1_someoneCanBeLast_36 : decode cX1_someoneCanBeLast 36 = .ok (.iaload, 1) := by decide +kernel
theorem dX1_someoneCanBeLast_37 : decode cX1_someoneCanBeLast 37 = .ok (.aload_n 0, 1) := by decide +kernel
theorem dX1_someoneCanBeLast_38 : decode cX1_someoneCanBeLast 38 = .ok (.getfield 28, 3) := by decide +kernel
theorem dX1_someoneCanBeLast_41 : decode cX1_someoneCanBeLast 41 = .ok (.iload_n 3, 1) := by decide +kernel
theorem dX1_someoneCanBeLast_42 : decode cX1_someoneCanBeLast 42 = .ok (.iaload, 1) := by decide +kernel
theorem dX1_someoneCanBeLast_43 : decode cX1_someoneCanBeLast 43 = .ok (.iadd, 1) := by decide +kernel
theorem dX1_someoneCanBeLast_44 : decode cX1_someoneCanBeLast 44 = .ok (.iload_n 2, 1) := by decide +kernel
theorem dX1_someoneCanBeLast_45 : decode cX1_someoneCanBeLast 45 = .ok (.if_icmp .gt 5, 3) := by decide +kernel
theorem dX1_someoneCanBeLast_48 : decode cX1_someoneCanBeLast 48 = .ok (.iconst 1, 1) := by decide +kernel
theorem dX1_someoneCanBeLast_49 : decode cX1_someoneCanBeLast 49 = .ok (.ireturn, 1) := by decide +kernel
theorem dX1_someoneCanBeLast_50 : decode cX1_someoneCanBeLast 50 = .ok (.iinc 3 1, 3) := by decide +kernel
theorem dX1_someoneCanBeLast_53 : decode cX1_someoneCanBeLast 53 = .ok (.goto (-51), 3) := by decide +kernel
theorem dX1_someoneCanBeLast_56 : decode cX1_someoneCanBeLast 56 = .ok (.iconst 0, 1) := by decide +kernel
theorem dX1_someoneCanBeLast_57 : decode cX1_someoneCanBeLast 57 = .ok (.ireturn, 1) := by decide +kernel
theorem dX1_orderWarning_0 : decode cX1_orderWarning 0 = .ok (.iload_n 1, 1) := by decide +kernel
theorem dX1_orderWarning_1 : decode cX1_orderWarning 1 = .ok (.istore_n 3, 1) := by decide +kernel
theorem dX1_orderWarning_2 : decode cX1_orderWarning 2 = .ok (.iload_n 3, 1) := by decide +kernel
theorem dX1_orderWarning_3 : decode cX1_orderWarning 3 = .ok (.ifCond .lt 56, 3) := by decide +kernel
theorem dX1_orderWarning_6 : decode cX1_orderWarning 6 = .ok (.iload_n 3, 1) := by decide +kernel
theorem dX1_orderWarning_7 : decode cX1_orderWarning 7 = .ok (.iload_n 1, 1) := by decide +kernel
theorem dX1_orderWarning_8 : decode cX1_orderWarning 8 = .ok (.iand, 1) := by decide +kernel
theorem dX1_orderWarning_9 : decode cX1_orderWarning 9 = .ok (.iload_n 3, 1) := by decide +kernel
theorem dX1_orderWarning_10 : decode cX1_orderWarning 10 = .ok (.if_icmp .ne 7, 3) := by decide +kernel
theorem dX1_orderWarning_13 : decode cX1_orderWarning 13 = .ok (.iconst 1, 1) := by decide +kernel
theorem dX1_orderWarning_14 : decode cX1_orderWarning 14 = .ok (.goto 4, 3) := by decide +kernel
theorem dX1_orderWarning_17 : decode cX1_orderWarning 17 = .ok (.iconst 0, 1) := by decide +kernel
theorem dX1_orderWarning_18 : decode cX1_orderWarning 18 = .ok (.istore 4, 2) := by decide +kernel
theorem dX1_orderWarning_20 : decode cX1_orderWarning 20 = .ok (.aload_n 0, 1) := by decide +kernel
theorem dX1_orderWarning_21 : decode cX1_orderWarning 21 = .ok (.getfield 37, 3) := by decide +kernel
theorem dX1_orderWarning_24 : decode cX1_orderWarning 24 = .ok (.iload_n 3, 1) := by decide +kernel
theorem dX1_orderWarning_25 : decode cX1_orderWarning 25 = .ok (.iload 4, 2) := by decide +kernel
theorem dX1_orderWarning_27 : decode cX1_orderWarning 27 = .ok (.ifCond .eq 24, 3) := by decide +kernel
theorem dX1_orderWarning_30 : decode cX1_orderWarning 30 = .ok (.iload_n 3, 1) := by decide +kernel
theorem dX1_orderWarning_31 : decode cX1_orderWarning 31 = .ok (.iload_n 1, 1) := by decide +kernel
theorem dX1_orderWarning_32 : decode cX1_orderWarning 32 = .ok (.if_icmp .eq 15, 3) := by decide +kernel
theorem dX1_orderWarning_35 : decode cX1_orderWarning 35 = .ok (.aload_n 0, 1) := by decide +kernel
theorem dX1_orderWarning_36 : decode cX1_orderWarning 36 = .ok (.iload_n 3, 1) := by decide +kernel
theorem dX1_orderWarning_37 : decode cX1_orderWarning 37 = .ok (.iload_n 1, 1) := by decide +kernel
theorem dX1_orderWarning_38 : decode cX1_orderWarning 38 = .ok (.iload_n 2, 1) := by decide +kernel
theorem dX1_orderWarning_39 : decode cX1_orderWarning 39 = .ok (.invokevirtual 102, 3) := by decide +kernel
theorem dX1_orderWarning_42 : decode cX1_orderWarning 42 = .ok (.bipush (-4), 2) := by decide +kernel
theorem dX1_orderWarning_44 : decode cX1_orderWarning 44 = .ok (.if_icmp .eq 7, 3) := by decide +kernel
theorem dX1_orderWarning_47 : decode cX1_orderWarning 47 = .ok (.iconst 1, 1) := by decide +kernel
theorem dX1_orderWarning_48 : decode cX1_orderWarning 48 = .ok (.goto 4, 3) := by decide +kernel
theorem dX1_orderWarning_51 : decode cX1_orderWarning 51 = .ok (.iconst 0, 1) := by decide +kernel
theorem dX1_orderWarning_52 : decode cX1_orderWarning 52 = .ok (.bastore, 1) := by decide +kernel
theorem dX1_orderWarning_53 : decode cX1_orderWarning 53 = .ok (.iinc 3 (-1), 3) := by decide +kernel
theorem dX1_orderWarning_56 : decode cX1_orderWarning 56 = .ok (.goto (-54), 3) := by decide +kernel
theorem dX1_orderWarning_59 : decode cX1_orderWarning 59 = .ok (.aload_n 0, 1) := by decide +kernel
theorem dX1_orderWarning_60 : decode cX1_orderWarning 60 = .ok (.iconst 0, 1) := by decide +kernel
theorem dX1_orderWarning_61 : decode cX1_orderWarning 61 = .ok (.putfield 50, 3) := by decide +kernel
theorem dX1_orderWarning_64 : decode cX1_orderWarning 64 = .ok (.iconst 0, 1) := by decide +kernel
theorem dX1_orderWarning_65 : decode cX1_orderWarning 65 = .ok (.istore_n 3, 1) := by decide +kernel
theorem dX1_orderWarning_66 : decode cX1_orderWarning 66 = .ok (.iconst 0, 1) := by decide +kernel
theorem dX1_orderWarning_67 : decode cX1_orderWarning 67 = .ok (.istore 4, 2) := by decide +kernel
theorem dX1_orderWarning_69 : decode cX1_orderWarning 69 = .ok (.iload 4, 2) := by decide +kernel
theorem dX1_orderWarning_71 : decode cX1_orderWarning 71 = .ok (.bipush 8, 2) := by decide +kernel
theorem dX1_orderWarning_73 : decode cX1_orderWarning 73 = .ok (.if_icmp .ge 57, 3) := by decide +kernel
theorem dX1_orderWarning_76 : decode cX1_orderWarning 76 = .ok (.iload_n 3, 1) := by decide +kernel
theorem dX1_orderWarning_77 : decode cX1_orderWarning 77 = .ok (.iload_n 1, 1) := by decide +kernel
theorem dX1_orderWarning_78 : decode cX1_orderWarning 78 = .ok (.if_icmp .eq 52, 3) := by decide +kernel
theorem dX1_orderWarning_81 : decode cX1_orderWarning 81 = .ok (.aload_n 0, 1) := by decide +kernel
theorem dX1_orderWarning_82 : decode cX1_orderWarning 82 = .ok (.iload_n 3, 1) := by decide +kernel
theorem dX1_orderWarning_83 : decode cX1_orderWarning 83 = .ok (.iload_n 1, 1) := by decide +kernel
theorem dX1_orderWarning_84 : decode cX1_orderWarning 84 = .ok (.iload_n 2, 1) := by decide +kernel
theorem dX1_orderWarning_85 : decode cX1_orderWarning 85 = .ok (.invokevirtual 102, 3) := by decide +kernel
theorem dX1_orderWarning_88 : decode cX1_orderWarning 88 = .ok (.istore 5, 2) := by decide +kernel
theorem dX1_orderWarning_90 : decode cX1_orderWarning 90 = .ok (.iload 5, 2) := by decide +kernel
theorem dX1_orderWarning_92 : decode cX1_orderWarning 92 = .ok (.bipush (-4), 2) := by decide +kernel
theorem dX1_orderWarning_94 : decode cX1_orderWarning 94 = .ok (.if_icmp .ne 4, 3) := by decide +kernel
theorem dX1_orderWarning_97 : decode cX1_orderWarning 97 = .ok (.return_, 1) := by decide +kernel
theorem dX1_orderWarning_98 : decode cX1_orderWarning 98 = .ok (.aload_n 0, 1) := by decide +kernel
theorem dX1_orderWarning_99 : decode cX1_orderWarning 99 = .ok (.getfield 47, 3) := by decide +kernel
theorem dX1_orderWarning_102 : decode cX1_orderWarning 102 = .ok (.iload 4, 2) := by decide +kernel
theorem dX1_orderWarning_104 : decode cX1_orderWarning 104 = .ok (.iload 5, 2) := by decide +kernel
theorem dX1_orderWarning_106 : decode cX1_orderWarning 106 = .ok (.iastore, 1) := by decide +kernel
theorem dX1_orderWarning_107 : decode cX1_orderWarning 107 = .ok (.aload_n 0, 1) := by decide +kernel
theorem dX1_orderWarning_108 : decode cX1_orderWarning 108 = .ok (.dup, 1) := by decide +kernel
theorem dX1_orderWarning_109 : decode cX1_orderWarning 109 = .ok (.getfield 50, 3) := by decide +kernel
theorem dX1_orderWarning_112 : decode cX1_orderWarning 112 = .ok (.iconst 1, 1) := by decide +kernel
theorem dX1_orderWarning_113 : decode cX1_orderWarning 113 = .ok (.iadd, 1) := by decide +kernel
theorem dX1_orderWarning_114 : decode cX1_orderWarning 114 = .ok (.putfield 50, 3) := by decide +kernel
theorem dX1_orderWarning_117 : decode cX1_orderWarning 117 = .ok (.iload_n 3, 1) := by decide +kernel
theorem dX1_orderWarning_118 : decode cX1_orderWarning 118 = .ok (.iconst 1, 1) := by decide +kernel
theorem dX1_orderWarning_119 : decode cX1_orderWarning 119 = .ok (.iload 5, 2) := by decide +kernel
theorem dX1_orderWarning_121 : decode cX1_orderWarning 121 = .ok (.ishl, 1) := by decide +kernel
theorem dX1_orderWarning_122 : decode cX1_orderWarning 122 = .ok (.ior, 1) := by decide +kernel
theorem dX1_orderWarning_123 : decode cX1_orderWarning 123 = .ok (.istore_n 3, 1) := by decide +kernel
theorem dX1_orderWarning_124 : decode cX1_orderWarning 124 = .ok (.iinc 4 1, 3) := by decide +kernel
theorem dX1_orderWarning_127 : decode cX1_orderWarning 127 = .ok (.goto (-58), 3) := by decide +kernel
theorem dX1_orderWarning_130 : decode cX1_orderWarning 130 = .ok (.return_, 1) := by decide +kernel
theorem dX1_nextSaved_0 : decode cX1_nextSaved 0 = .ok (.iconst 0, 1) := by decide +kernel
theorem dX1_nextSaved_1 : decode cX1_nextSaved 1 = .ok (.istore 4, 2) := by decide +kernel
theorem dX1_nextSaved_3 : decode cX1_nextSaved 3 = .ok (.iload 4, 2) := by decide +kernel
theorem dX1_nextSaved_5 : decode cX1_nextSaved 5 = .ok (.aload_n 0, 1) := by decide +kernel
theorem dX1_nextSaved_6 : decode cX1_nextSaved 6 = .ok (.getfield 9, 3) := by decide +kernel
theorem dX1_nextSaved_9 : decode cX1_nextSaved 9 = .ok (.if_icmp .ge 62, 3) := by decide +kernel
theorem dX1_nextSaved_12 : decode cX1_nextSaved 12 = .ok (.iload_n 1, 1) := by decide +kernel
theorem dX1_nextSaved_13 : decode cX1_nextSaved 13 = .ok (.iconst 1, 1) := by decide +kernel
theorem dX1_nextSaved_14 : decode cX1_nextSaved 14 = .ok (.iload 4, 2) := by decide +kernel
theorem dX1_nextSaved_16 : decode cX1_nextSaved 16 = .ok (.ishl, 1) := by decide +kernel
theorem dX1_nextSaved_17 : decode cX1_nextSaved 17 = .ok (.ior, 1) := by decide +kernel
theorem dX1_nextSaved_18 : decode cX1_nextSaved 18 = .ok (.istore 5, 2) := by decide +kernel
theorem dX1_nextSaved_20 : decode cX1_nextSaved 20 = .ok (.iload 4, 2) := by decide +kernel
theorem dX1_nextSaved_22 : decode cX1_nextSaved 22 = .ok (.iload_n 2, 1) := by decide +kernel
theorem dX1_nextSaved_23 : decode cX1_nextSaved 23 = .ok (.iload_n 1, 1) := by decide +kernel
theorem dX1_nextSaved_24 : decode cX1_nextSaved 24 = .ok (.iconst (-1), 1) := by decide +kernel
theorem dX1_nextSaved_25 : decode cX1_nextSaved 25 = .ok (.ixor, 1) := by decide +kernel
theorem dX1_nextSaved_26 : decode cX1_nextSaved 26 = .ok (.iand, 1) := by decide +kernel
theorem dX1_nextSaved_27 : decode cX1_nextSaved 27 = .ok (.invokestatic 84, 3) := by decide +kernel
theorem dX1_nextSaved_30 : decode cX1_nextSaved 30 = .ok (.ifCond .eq 35, 3) := by decide +kernel
theorem dX1_nextSaved_33 : decode cX1_nextSaved 33 = .ok (.aload_n 0, 1) := by decide +kernel
theorem dX1_nextSaved_34 : decode cX1_nextSaved 34 = .ok (.getfield 37, 3) := by decide +kernel
theorem dX1_nextSaved_37 : decode cX1_nextSaved 37 = .ok (.iload 5, 2) := by decide +kernel
theorem dX1_nextSaved_39 : decode cX1_nextSaved 39 = .ok (.baload, 1) := by decide +kernel
theorem dX1_nextSaved_40 : decode cX1_nextSaved 40 = .ok (.ifCond .eq 25, 3) := by decide +kernel
theorem dX1_nextSaved_43 : decode cX1_nextSaved 43 = .ok (.aload_n 0, 1) := by decide +kernel
theorem dX1_nextSaved_44 : decode cX1_nextSaved 44 = .ok (.getfield 34, 3) := by decide +kernel
theorem dX1_nextSaved_47 : decode cX1_nextSaved 47 = .ok (.iload 5, 2) := by decide +kernel
theorem dX1_nextSaved_49 : decode cX1_nextSaved 49 = .ok (.iaload, 1) := by decide +kernel
theorem dX1_nextSaved_50 : decode cX1_nextSaved 50 = .ok (.aload_n 0, 1) := by decide +kernel
theorem dX1_nextSaved_51 : decode cX1_nextSaved 51 = .ok (.getfield 28, 3) := by decide +kernel
theorem dX1_nextSaved_54 : decode cX1_nextSaved 54 = .ok (.iload 4, 2) := by decide +kernel
theorem dX1_nextSaved_56 : decode cX1_nextSaved 56 = .ok (.iaload, 1) := by decide +kernel
theorem dX1_nextSaved_57 : decode cX1_nextSaved 57 = .ok (.iadd, 1) := by decide +kernel
theorem dX1_nextSaved_58 : decode cX1_nextSaved 58 = .ok (.iload_n 3, 1) := by decide +kernel
theorem dX1_nextSaved_59 : decode cX1_nextSaved 59 = .ok (.if_icmp .gt 6, 3) := by decide +kernel
theorem dX1_nextSaved_62 : decode cX1_nextSaved 62 = .ok (.iload 4, 2) := by decide +kernel
theorem dX1_nextSaved_64 : decode cX1_nextSaved 64 = .ok (.ireturn, 1) := by decide +kernel
theorem dX1_nextSaved_65 : decode cX1_nextSaved 65 = .ok (.iinc 4 1, 3) := by decide +kernel
theorem dX1_nextSaved_68 : decode cX1_nextSaved 68 = .ok (.goto (-65), 3) := by decide +kernel
theorem dX1_nextSaved_71 : decode cX1_nextSaved 71 = .ok (.bipush (-4), 2) := by decide +kernel
theorem dX1_nextSaved_73 : decode cX1_nextSaved 73 = .ok (.ireturn, 1) := by decide +kernel
theorem dX1_fewestBreaths_0 : decode cX1_fewestBreaths 0 = .ok (.aload_n 0, 1) := by decide +kernel
theorem dX1_fewestBreaths_1 : decode cX1_fewestBreaths 1 = .ok (.iload_n 1, 1) := by decide +kernel
theorem dX1_fewestBreaths_2 : decode cX1_fewestBreaths 2 = .ok (.invokevirtual 106, 3) := by decide +kernel
theorem dX1_fewestBreaths_5 : decode cX1_fewestBreaths 5 = .ok (.aload_n 0, 1) := by decide +kernel
theorem dX1_fewestBreaths_6 : decode cX1_fewestBreaths 6 = .ok (.getfield 44, 3) := by decide +kernel
theorem dX1_fewestBreaths_9 : decode cX1_fewestBreaths 9 = .ok (.iconst 0, 1) := by decide +kernel
theorem dX1_fewestBreaths_10 : decode cX1_fewestBreaths 10 = .ok (.aload_n 0, 1) := by decide +kernel
theorem dX1_fewestBreaths_11 : decode cX1_fewestBreaths 11 = .ok (.invokevirtual 110, 3) := by decide +kernel
theorem dX1_fewestBreaths_14 : decode cX1_fewestBreaths 14 = .ok (.iastore, 1) := by decide +kernel
theorem dX1_fewestBreaths_15 : decode cX1_fewestBreaths 15 = .ok (.iconst 1, 1) := by decide +kernel
theorem dX1_fewestBreaths_16 : decode cX1_fewestBreaths 16 = .ok (.istore_n 2, 1) := by decide +kernel
theorem dX1_fewestBreaths_17 : decode cX1_fewestBreaths 17 = .ok (.iload_n 2, 1) := by decide +kernel
theorem dX1_fewestBreaths_18 : decode cX1_fewestBreaths 18 = .ok (.iload_n 1, 1) := by decide +kernel
theorem dX1_fewestBreaths_19 : decode cX1_fewestBreaths 19 = .ok (.if_icmp .gt 32, 3) := by decide +kernel
theorem dX1_fewestBreaths_22 : decode cX1_fewestBreaths 22 = .ok (.aload_n 0, 1) := by decide +kernel
theorem dX1_fewestBreaths_23 : decode cX1_fewestBreaths 23 = .ok (.getfield 44, 3) := by decide +kernel
theorem dX1_fewestBreaths_26 : decode cX1_fewestBreaths 26 = .ok (.iload_n 2, 1) := by decide +kernel
theorem dX1_fewestBreaths_27 : decode cX1_fewestBreaths 27 = .ok (.iload_n 2, 1) := by decide +kernel
theorem dX1_fewestBreaths_28 : decode cX1_fewestBreaths 28 = .ok (.iload_n 1, 1) := by decide +kernel
theorem dX1_fewestBreaths_29 : decode cX1_fewestBreaths 29 = .ok (.iand, 1) := by decide +kernel
theorem dX1_fewestBreaths_30 : decode cX1_fewestBreaths 30 = .ok (.iload_n 2, 1) := by decide +kernel
theorem dX1_fewestBreaths_31 : decode cX1_fewestBreaths 31 = .ok (.if_icmp .ne 11, 3) := by decide +kernel
theorem dX1_fewestBreaths_34 : decode cX1_fewestBreaths 34 = .ok (.aload_n 0, 1) := by decide +kernel
theorem dX1_fewestBreaths_35 : decode cX1_fewestBreaths 35 = .ok (.iload_n 2, 1) := by decide +kernel
theorem dX1_fewestBreaths_36 : decode cX1_fewestBreaths 36 = .ok (.invokevirtual 114, 3) := by decide +kernel
theorem dX1_fewestBreaths_39 : decode cX1_fewestBreaths 39 = .ok (.goto 5, 3) := by decide +kernel
theorem dX1_fewestBreaths_42 : decode cX1_fewestBreaths 42 = .ok (.bipush (-4), 2) := by decide +kernel
theorem dX1_fewestBreaths_44 : decode cX1_fewestBreaths 44 = .ok (.iastore, 1) := by decide +kernel
theorem dX1_fewestBreaths_45 : decode cX1_fewestBreaths 45 = .ok (.iinc 2 1, 3) := by decide +kernel
theorem dX1_fewestBreaths_48 : decode cX1_fewestBreaths 48 = .ok (.goto (-31), 3) := by decide +kernel
theorem dX1_fewestBreaths_51 : decode cX1_fewestBreaths 51 = .ok (.aload_n 0, 1) := by decide +kernel
theorem dX1_fewestBreaths_52 : decode cX1_fewestBreaths 52 = .ok (.getfield 44, 3) := by decide +kernel
theorem dX1_fewestBreaths_55 : decode cX1_fewestBreaths 55 = .ok (.iload_n 1, 1) := by decide +kernel
theorem dX1_fewestBreaths_56 : decode cX1_fewestBreaths 56 = .ok (.iaload, 1) := by decide +kernel
theorem dX1_fewestBreaths_57 : decode cX1_fewestBreaths 57 = .ok (.bipush 16, 2) := by decide +kernel
theorem dX1_fewestBreaths_59 : decode cX1_fewestBreaths 59 = .ok (.idiv, 1) := by decide +kernel
theorem dX1_fewestBreaths_60 : decode cX1_fewestBreaths 60 = .ok (.ireturn, 1) := by decide +kernel
theorem dX1_rankAll_0 : decode cX1_rankAll 0 = .ok (.iconst 0, 1) := by decide +kernel
theorem dX1_rankAll_1 : decode cX1_rankAll 1 = .ok (.istore_n 2, 1) := by decide +kernel
theorem dX1_rankAll_2 : decode cX1_rankAll 2 = .ok (.iload_n 2, 1) := by decide +kernel
theorem dX1_rankAll_3 : decode cX1_rankAll 3 = .ok (.aload_n 0, 1) := by decide +kernel
theorem dX1_rankAll_4 : decode cX1_rankAll 4 = .ok (.getfield 9, 3) := by decide +kernel
theorem dX1_rankAll_7 : decode cX1_rankAll 7 = .ok (.if_icmp .ge 67, 3) := by decide +kernel
theorem dX1_rankAll_10 : decode cX1_rankAll 10 = .ok (.aload_n 0, 1) := by decide +kernel
theorem dX1_rankAll_11 : decode cX1_rankAll 11 = .ok (.getfield 41, 3) := by decide +kernel
theorem dX1_rankAll_14 : decode cX1_rankAll 14 = .ok (.iload_n 2, 1) := by decide +kernel
theorem dX1_rankAll_15 : decode cX1_rankAll 15 = .ok (.iconst 0, 1) := by decide +kernel
theorem dX1_rankAll_16 : decode cX1_rankAll 16 = .ok (.iastore, 1) := by decide +kernel
theorem dX1_rankAll_17 : decode cX1_rankAll 17 = .ok (.iconst 0, 1) := by decide +kernel
theorem dX1_rankAll_18 : decode cX1_rankAll 18 = .ok (.istore_n 3, 1) := by decide +kernel
theorem dX1_rankAll_19 : decode cX1_rankAll 19 = .ok (.iload_n 3, 1) := by decide +kernel
theorem dX1_rankAll_20 : decode cX1_rankAll 20 = .ok (.aload_n 0, 1) := by decide +kernel
theorem dX1_rankAll_21 : decode cX1_rankAll 21 = .ok (.getfield 9, 3) := by decide +kernel
theorem dX1_rankAll_24 : decode cX1_rankAll 24 = .ok (.if_icmp .ge 44, 3) := by decide +kernel
theorem dX1_rankAll_27 : decode cX1_rankAll 27 = .ok (.iload_n 3, 1) := by decide +kernel
theorem dX1_rankAll_28 : decode cX1_rankAll 28 = .ok (.iload_n 1, 1) := by decide +kernel
theorem dX1_rankAll_29 : decode cX1_rankAll 29 = .ok (.invokestatic 84, 3) := by decide +kernel
theorem dX1_rankAll_32 : decode cX1_rankAll 32 = .ok (.ifCond .eq 30, 3) := by decide +kernel
theorem dX1_rankAll_35 : decode cX1_rankAll 35 = .ok (.aload_n 0, 1) := by decide +kernel
theorem dX1_rankAll_36 : decode cX1_rankAll 36 = .ok (.getfield 31, 3) := by decide +kernel
theorem dX1_rankAll_39 : decode cX1_rankAll 39 = .ok (.iload_n 3, 1) := by decide +kernel
theorem dX1_rankAll_40 : decode cX1_rankAll 40 = .ok (.iaload, 1) := by decide +kernel
theorem dX1_rankAll_41 : decode cX1_rankAll 41 = .ok (.aload_n 0, 1) := by decide +kernel
theorem dX1_rankAll_42 : decode cX1_rankAll 42 = .ok (.getfield 31, 3) := by decide +kernel
theorem dX1_rankAll_45 : decode cX1_rankAll 45 = .ok (.iload_n 2, 1) := by decide +kernel
theorem dX1_rankAll_46 : decode cX1_rankAll 46 = .ok (.iaload, 1) := by decide +kernel
theorem dX1_rankAll_47 : decode cX1_rankAll 47 = .ok (.if_icmp .le 15, 3) := by decide +kernel
theorem dX1_rankAll_50 : decode cX1_rankAll 50 = .ok (.aload_n 0, 1) := by decide +kernel
theorem dX1_rankAll_51 : decode cX1_rankAll 51 = .ok (.getfield 41, 3) := by decide +kernel
theorem dX1_rankAll_54 : decode cX1_rankAll 54 = .ok (.iload_n 2, 1) := by decide +kernel
theorem dX1_rankAll_55 : decode cX1_rankAll 55 = .ok (.dup2, 1) := by decide +kernel
theorem dX1_rankAll_56 : decode cX1_rankAll 56 = .ok (.iaload, 1) := by decide +kernel
theorem dX1_rankAll_57 : decode cX1_rankAll 57 = .ok (.iconst 1, 1) := by decide +kernel
theorem dX1_rankAll_58 : decode cX1_rankAll 58 = .ok (.iload_n 3, 1) := by decide +kernel
theorem dX1_rankAll_59 : decode cX1_rankAll 59 = .ok (.ishl, 1) := by decide +kernel
theorem dX1_rankAll_60 : decode cX1_rankAll 60 = .ok (.ior, 1) := by decide +kernel
theorem dX1_rankAll_61 : decode cX1_rankAll 61 = .ok (.iastore, 1) := by decide +kernel
theorem dX1_rankAll_62 : decode cX1_rankAll 62 = .ok (.iinc 3 1, 3) := by decide +kernel
theorem dX1_rankAll_65 : decode cX1_rankAll 65 = .ok (.goto (-46), 3) := by decide +kernel
theorem dX1_rankAll_68 : decode cX1_rankAll 68 = .ok (.iinc 2 1, 3) := by decide +kernel
theorem dX1_rankAll_71 : decode cX1_rankAll 71 = .ok (.goto (-69), 3) := by decide +kernel
theorem dX1_rankAll_74 : decode cX1_rankAll 74 = .ok (.return_, 1) := by decide +kernel
theorem dX1_mayBeFirst_0 : decode cX1_mayBeFirst 0 = .ok (.iload_n 1, 1) := by decide +kernel
theorem dX1_mayBeFirst_1 : decode cX1_mayBeFirst 1 = .ok (.iload_n 2, 1) := by decide +kernel
theorem dX1_mayBeFirst_2 : decode cX1_mayBeFirst 2 = .ok (.invokestatic 84, 3) := by decide +kernel
theorem dX1_mayBeFirst_5 : decode cX1_mayBeFirst 5 = .ok (.ifCond .eq 18, 3) := by decide +kernel
theorem dX1_mayBeFirst_8 : decode cX1_mayBeFirst 8 = .ok (.aload_n 0, 1) := by decide +kernel
theorem dX1_mayBeFirst_9 : decode cX1_mayBeFirst 9 = .ok (.getfield 41, 3) := by decide +kernel
theorem dX1_mayBeFirst_12 : decode cX1_mayBeFirst 12 = .ok (.iload_n 1, 1) := by decide +kernel
theorem dX1_mayBeFirst_13 : decode cX1_mayBeFirst 13 = .ok (.iaload, 1) := by decide +kernel
theorem dX1_mayBeFirst_14 : decode cX1_mayBeFirst 14 = .ok (.iload_n 2, 1) := by decide +kernel
theorem dX1_mayBeFirst_15 : decode cX1_mayBeFirst 15 = .ok (.iand, 1) := by decide +kernel
theorem dX1_mayBeFirst_16 : decode cX1_mayBeFirst 16 = .ok (.ifCond .ne 7, 3) := by decide +kernel
theorem dX1_mayBeFirst_19 : decode cX1_mayBeFirst 19 = .ok (.iconst 1, 1) := by decide +kernel
theorem dX1_mayBeFirst_20 : decode cX1_mayBeFirst 20 = .ok (.goto 4, 3) := by decide +kernel
theorem dX1_mayBeFirst_23 : decode cX1_mayBeFirst 23 = .ok (.iconst 0, 1) := by decide +kernel
theorem dX1_mayBeFirst_24 : decode cX1_mayBeFirst 24 = .ok (.ireturn, 1) := by decide +kernel
theorem dX1_leastPacking_0 : decode cX1_leastPacking 0 = .ok (.bipush (-4), 2) := by decide +kernel
theorem dX1_leastPacking_2 : decode cX1_leastPacking 2 = .ok (.istore_n 2, 1) := by decide +kernel
theorem dX1_leastPacking_3 : decode cX1_leastPacking 3 = .ok (.iconst 0, 1) := by decide +kernel
theorem dX1_leastPacking_4 : decode cX1_leastPacking 4 = .ok (.istore_n 3, 1) := by decide +kernel
theorem dX1_leastPacking_5 : decode cX1_leastPacking 5 = .ok (.iload_n 3, 1) := by decide +kernel
theorem dX1_leastPacking_6 : decode cX1_leastPacking 6 = .ok (.aload_n 0, 1) := by decide +kernel
theorem dX1_leastPacking_7 : decode cX1_leastPacking 7 = .ok (.getfield 9, 3) := by decide +kernel
theorem dX1_leastPacking_10 : decode cX1_leastPacking 10 = .ok (.if_icmp .ge 53, 3) := by decide +kernel
theorem dX1_leastPacking_13 : decode cX1_leastPacking 13 = .ok (.aload_n 0, 1) := by decide +kernel
theorem dX1_leastPacking_14 : decode cX1_leastPacking 14 = .ok (.iload_n 3, 1) := by decide +kernel
theorem dX1_leastPacking_15 : decode cX1_leastPacking 15 = .ok (.iload_n 1, 1) := by decide +kernel
theorem dX1_leastPacking_16 : decode cX1_leastPacking 16 = .ok (.invokevirtual 117, 3) := by decide +kernel
theorem dX1_leastPacking_19 : decode cX1_leastPacking 19 = .ok (.ifCond .eq 38, 3) := by decide +kernel
theorem dX1_leastPacking_22 : decode cX1_leastPacking 22 = .ok (.aload_n 0, 1) := by decide +kernel
theorem dX1_leastPacking_23 : decode cX1_leastPacking 23 = .ok (.aload_n 0, 1) := by decide +kernel
theorem dX1_leastPacking_24 : decode cX1_leastPacking 24 = .ok (.getfield 44, 3) := by decide +kernel
theorem dX1_leastPacking_27 : decode cX1_leastPacking 27 = .ok (.iload_n 1, 1) := by decide +kernel
theorem dX1_leastPacking_28 : decode cX1_leastPacking 28 = .ok (.iconst 1, 1) := by decide +kernel
theorem dX1_leastPacking_29 : decode cX1_leastPacking 29 = .ok (.iload_n 3, 1) := by decide +kernel
theorem dX1_leastPacking_30 : decode cX1_leastPacking 30 = .ok (.ishl, 1) := by decide +kernel
theorem dX1_leastPacking_31 : decode cX1_leastPacking 31 = .ok (.ixor, 1) := by decide +kernel
theorem dX1_leastPacking_32 : decode cX1_leastPacking 32 = .ok (.iaload, 1) := by decide +kernel
theorem dX1_leastPacking_33 : decode cX1_leastPacking 33 = .ok (.iload_n 3, 1) := by decide +kernel
theorem dX1_leastPacking_34 : decode cX1_leastPacking 34 = .ok (.invokevirtual 120, 3) := by decide +kernel
theorem dX1_leastPacking_37 : decode cX1_leastPacking 37 = .ok (.istore 4, 2) := by decide +kernel
theorem dX1_leastPacking_39 : decode cX1_leastPacking 39 = .ok (.iload_n 2, 1) := by decide +kernel
theorem dX1_leastPacking_40 : decode cX1_leastPacking 40 = .ok (.bipush (-4), 2) := by decide +kernel
theorem dX1_leastPacking_42 : decode cX1_leastPacking 42 = .ok (.if_icmp .ne 8, 3) := by decide +kernel
theorem dX1_leastPacking_45 : decode cX1_leastPacking 45 = .ok (.iload 4, 2) := by decide +kernel
theorem dX1_leastPacking_47 : decode cX1_leastPacking 47 = .ok (.goto 9, 3) := by decide +kernel
theorem dX1_leastPacking_50 : decode cX1_leastPacking 50 = .ok (.iload_n 2, 1) := by decide +kernel
theorem dX1_leastPacking_51 : decode cX1_leastPacking 51 = .ok (.iload 4, 2) := by decide +kernel
theorem dX1_leastPacking_53 : decode cX1_leastPacking 53 = .ok (.invokestatic 56, 3) := by decide +kernel
theorem dX1_leastPacking_56 : decode cX1_leastPacking 56 = .ok (.istore_n 2, 1) := by decide +kernel
theorem dX1_leastPacking_57 : decode cX1_leastPacking 57 = .ok (.iinc 3 1, 3) := by decide +kernel
theorem dX1_leastPacking_60 : decode cX1_leastPacking 60 = .ok (.goto (-55), 3) := by decide +kernel
theorem dX1_leastPacking_63 : decode cX1_leastPacking 63 = .ok (.iload_n 2, 1) := by decide +kernel
theorem dX1_leastPacking_64 : decode cX1_leastPacking 64 = .ok (.ireturn, 1) := by decide +kernel
theorem dX1_nothingPacked_0 : decode cX1_nothingPacked 0 = .ok (.aload_n 0, 1) := by decide +kernel
theorem dX1_nothingPacked_1 : decode cX1_nothingPacked 1 = .ok (.getfield 15, 3) := by decide +kernel
theorem dX1_nothingPacked_4 : decode cX1_nothingPacked 4 = .ok (.ireturn, 1) := by decide +kernel
theorem dX1_packed_0 : decode cX1_packed 0 = .ok (.iload_n 1, 1) := by decide +kernel
theorem dX1_packed_1 : decode cX1_packed 1 = .ok (.bipush 16, 2) := by decide +kernel
theorem dX1_packed_3 : decode cX1_packed 3 = .ok (.idiv, 1) := by decide +kernel
theorem dX1_packed_4 : decode cX1_packed 4 = .ok (.istore_n 3, 1) := by decide +kernel
theorem dX1_packed_5 : decode cX1_packed 5 = .ok (.iload_n 1, 1) := by decide +kernel
theorem dX1_packed_6 : decode cX1_packed 6 = .ok (.bipush 16, 2) := by decide +kernel
theorem dX1_packed_8 : decode cX1_packed 8 = .ok (.irem, 1) := by decide +kernel
theorem dX1_packed_9 : decode cX1_packed 9 = .ok (.istore 4, 2) := by decide +kernel
theorem dX1_packed_11 : decode cX1_packed 11 = .ok (.aload_n 0, 1) := by decide +kernel
theorem dX1_packed_12 : decode cX1_packed 12 = .ok (.getfield 21, 3) := by decide +kernel
theorem dX1_packed_15 : decode cX1_packed 15 = .ok (.iload_n 2, 1) := by decide +kernel
theorem dX1_packed_16 : decode cX1_packed 16 = .ok (.iaload, 1) := by decide +kernel
theorem dX1_packed_17 : decode cX1_packed 17 = .ok (.aload_n 0, 1) := by decide +kernel
theorem dX1_packed_18 : decode cX1_packed 18 = .ok (.getfield 15, 3) := by decide +kernel
theorem dX1_packed_21 : decode cX1_packed 21 = .ok (.if_icmp .le 24, 3) := by decide +kernel
theorem dX1_packed_24 : decode cX1_packed 24 = .ok (.iload_n 3, 1) := by decide +kernel
theorem dX1_packed_25 : decode cX1_packed 25 = .ok (.aload_n 0, 1) := by decide +kernel
theorem dX1_packed_26 : decode cX1_packed 26 = .ok (.aload_n 0, 1) := by decide +kernel
theorem dX1_packed_27 : decode cX1_packed 27 = .ok (.getfield 21, 3) := by decide +kernel
theorem dX1_packed_30 : decode cX1_packed 30 = .ok (.iload_n 2, 1) := by decide +kernel
theorem dX1_packed_31 : decode cX1_packed 31 = .ok (.iaload, 1) := by decide +kernel
theorem dX1_packed_32 : decode cX1_packed 32 = .ok (.invokevirtual 88, 3) := by decide +kernel
theorem dX1_packed_35 : decode cX1_packed 35 = .ok (.iadd, 1) := by decide +kernel
theorem dX1_packed_36 : decode cX1_packed 36 = .ok (.bipush 16, 2) := by decide +kernel
theorem dX1_packed_38 : decode cX1_packed 38 = .ok (.imul, 1) := by decide +kernel
theorem dX1_packed_39 : decode cX1_packed 39 = .ok (.aload_n 0, 1) := by decide +kernel
theorem dX1_packed_40 : decode cX1_packed 40 = .ok (.getfield 15, 3) := by decide +kernel
theorem dX1_packed_43 : decode cX1_packed 43 = .ok (.iadd, 1) := by decide +kernel
theorem dX1_packed_44 : decode cX1_packed 44 = .ok (.ireturn, 1) := by decide +kernel
theorem dX1_packed_45 : decode cX1_packed 45 = .ok (.iload 4, 2) := by decide +kernel
theorem dX1_packed_47 : decode cX1_packed 47 = .ok (.aload_n 0, 1) := by decide +kernel
theorem dX1_packed_48 : decode cX1_packed 48 = .ok (.getfield 21, 3) := by decide +kernel
theorem dX1_packed_51 : decode cX1_packed 51 = .ok (.iload_n 2, 1) := by decide +kernel
theorem dX1_packed_52 : decode cX1_packed 52 = .ok (.iaload, 1) := by decide +kernel
theorem dX1_packed_53 : decode cX1_packed 53 = .ok (.iadd, 1) := by decide +kernel
theorem dX1_packed_54 : decode cX1_packed 54 = .ok (.aload_n 0, 1) := by decide +kernel
theorem dX1_packed_55 : decode cX1_packed 55 = .ok (.getfield 15, 3) := by decide +kernel
theorem dX1_packed_58 : decode cX1_packed 58 = .ok (.if_icmp .le 17, 3) := by decide +kernel
theorem dX1_packed_61 : decode cX1_packed 61 = .ok (.iload_n 3, 1) := by decide +kernel
theorem dX1_packed_62 : decode cX1_packed 62 = .ok (.iconst 1, 1) := by decide +kernel
theorem dX1_packed_63 : decode cX1_packed 63 = .ok (.iadd, 1) := by decide +kernel
theorem dX1_packed_64 : decode cX1_packed 64 = .ok (.bipush 16, 2) := by decide +kernel
theorem dX1_packed_66 : decode cX1_packed 66 = .ok (.imul, 1) := by decide +kernel
theorem dX1_packed_67 : decode cX1_packed 67 = .ok (.aload_n 0, 1) := by decide +kernel
theorem dX1_packed_68 : decode cX1_packed 68 = .ok (.getfield 21, 3) := by decide +kernel
theorem dX1_packed_71 : decode cX1_packed 71 = .ok (.iload_n 2, 1) := by decide +kernel
theorem dX1_packed_72 : decode cX1_packed 72 = .ok (.iaload, 1) := by decide +kernel
theorem dX1_packed_73 : decode cX1_packed 73 = .ok (.iadd, 1) := by decide +kernel
theorem dX1_packed_74 : decode cX1_packed 74 = .ok (.ireturn, 1) := by decide +kernel
theorem dX1_packed_75 : decode cX1_packed 75 = .ok (.iload_n 1, 1) := by decide +kernel
theorem dX1_packed_76 : decode cX1_packed 76 = .ok (.aload_n 0, 1) := by decide +kernel
theorem dX1_packed_77 : decode cX1_packed 77 = .ok (.getfield 21, 3) := by decide +kernel
theorem dX1_packed_80 : decode cX1_packed 80 = .ok (.iload_n 2, 1) := by decide +kernel
theorem dX1_packed_81 : decode cX1_packed 81 = .ok (.iaload, 1) := by decide +kernel
theorem dX1_packed_82 : decode cX1_packed 82 = .ok (.iadd, 1) := by decide +kernel
theorem dX1_packed_83 : decode cX1_packed 83 = .ok (.ireturn, 1) := by decide +kernel
theorem dX1_joined_0 : decode cX1_joined 0 = .ok (.iload_n 1, 1) := by decide +kernel
theorem dX1_joined_1 : decode cX1_joined 1 = .ok (.bipush 16, 2) := by decide +kernel
theorem dX1_joined_3 : decode cX1_joined 3 = .ok (.idiv, 1) := by decide +kernel
theorem dX1_joined_4 : decode cX1_joined 4 = .ok (.iload_n 2, 1) := by decide +kernel
theorem dX1_joined_5 : decode cX1_joined 5 = .ok (.bipush 16, 2) := by decide +kernel
theorem dX1_joined_7 : decode cX1_joined 7 = .ok (.idiv, 1) := by decide +kernel
theorem dX1_joined_8 : decode cX1_joined 8 = .ok (.iadd, 1) := by decide +kernel
theorem dX1_joined_9 : decode cX1_joined 9 = .ok (.istore_n 3, 1) := by decide +kernel
theorem dX1_joined_10 : decode cX1_joined 10 = .ok (.iload_n 1, 1) := by decide +kernel
theorem dX1_joined_11 : decode cX1_joined 11 = .ok (.bipush 16, 2) := by decide +kernel
theorem dX1_joined_13 : decode cX1_joined 13 = .ok (.irem, 1) := by decide +kernel
theorem dX1_joined_14 : decode cX1_joined 14 = .ok (.iload_n 2, 1) := by decide +kernel
theorem dX1_joined_15 : decode cX1_joined 15 = .ok (.bipush 16, 2) := by decide +kernel
theorem dX1_joined_17 : decode cX1_joined 17 = .ok (.irem, 1) := by decide +kernel
theorem dX1_joined_18 : decode cX1_joined 18 = .ok (.iadd, 1) := by decide +kernel
theorem dX1_joined_19 : decode cX1_joined 19 = .ok (.aload_n 0, 1) := by decide +kernel
theorem dX1_joined_20 : decode cX1_joined 20 = .ok (.getfield 15, 3) := by decide +kernel
theorem dX1_joined_23 : decode cX1_joined 23 = .ok (.if_icmp .gt 9, 3) := by decide +kernel
theorem dX1_joined_26 : decode cX1_joined 26 = .ok (.iload_n 3, 1) := by decide +kernel
theorem dX1_joined_27 : decode cX1_joined 27 = .ok (.iconst 1, 1) := by decide +kernel
theorem dX1_joined_28 : decode cX1_joined 28 = .ok (.isub, 1) := by decide +kernel
theorem dX1_joined_29 : decode cX1_joined 29 = .ok (.goto 4, 3) := by decide +kernel
theorem dX1_joined_32 : decode cX1_joined 32 = .ok (.iload_n 3, 1) := by decide +kernel
theorem dX1_joined_33 : decode cX1_joined 33 = .ok (.ireturn, 1) := by decide +kernel
theorem dX1_orderCouncil_0 : decode cX1_orderCouncil 0 = .ok (.aload_n 0, 1) := by decide +kernel
theorem dX1_orderCouncil_1 : decode cX1_orderCouncil 1 = .ok (.iconst 0, 1) := by decide +kernel
theorem dX1_orderCouncil_2 : decode cX1_orderCouncil 2 = .ok (.putfield 50, 3) := by decide +kernel
theorem dX1_orderCouncil_5 : decode cX1_orderCouncil 5 = .ok (.iload_n 1, 1) := by decide +kernel
theorem dX1_orderCouncil_6 : decode cX1_orderCouncil 6 = .ok (.istore_n 3, 1) := by decide +kernel
theorem dX1_orderCouncil_7 : decode cX1_orderCouncil 7 = .ok (.aload_n 0, 1) := by decide +kernel
theorem dX1_orderCouncil_8 : decode cX1_orderCouncil 8 = .ok (.invokevirtual 110, 3) := by decide +kernel
theorem dX1_orderCouncil_11 : decode cX1_orderCouncil 11 = .ok (.istore 4, 2) := by decide +kernel
theorem dX1_orderCouncil_13 : decode cX1_orderCouncil 13 = .ok (.iconst 0, 1) := by decide +kernel
theorem dX1_orderCouncil_14 : decode cX1_orderCouncil 14 = .ok (.istore 5, 2) := by decide +kernel
theorem dX1_orderCouncil_16 : decode cX1_orderCouncil 16 = .ok (.iload 5, 2) := by decide +kernel
theorem dX1_orderCouncil_18 : decode cX1_orderCouncil 18 = .ok (.bipush 8, 2) := by decide +kernel
theorem dX1_orderCouncil_20 : decode cX1_orderCouncil 20 = .ok (.if_icmp .ge 67, 3) := by decide +kernel
theorem dX1_orderCouncil_23 : decode cX1_orderCouncil 23 = .ok (.iload_n 3, 1) := by decide +kernel
theorem dX1_orderCouncil_24 : decode cX1_orderCouncil 24 = .ok (.ifCond .eq 63, 3) := by decide +kernel
theorem dX1_orderCouncil_27 : decode cX1_orderCouncil 27 = .ok (.aload_n 0, 1) := by decide +kernel
theorem dX1_orderCouncil_28 : decode cX1_orderCouncil 28 = .ok (.iload_n 3, 1) := by decide +kernel
theorem dX1_orderCouncil_29 : decode cX1_orderCouncil 29 = .ok (.iload 4, 2) := by decide +kernel
theorem dX1_orderCouncil_31 : decode cX1_orderCouncil 31 = .ok (.iload_n 2, 1) := by decide +kernel
theorem dX1_orderCouncil_32 : decode cX1_orderCouncil 32 = .ok (.invokevirtual 123, 3) := by decide +kernel
theorem dX1_orderCouncil_35 : decode cX1_orderCouncil 35 = .ok (.istore 6, 2) := by decide +kernel
theorem dX1_orderCouncil_37 : decode cX1_orderCouncil 37 = .ok (.iload 6, 2) := by decide +kernel
theorem dX1_orderCouncil_39 : decode cX1_orderCouncil 39 = .ok (.bipush (-4), 2) := by decide +kernel
theorem dX1_orderCouncil_41 : decode cX1_orderCouncil 41 = .ok (.if_icmp .ne 4, 3) := by decide +kernel
theorem dX1_orderCouncil_44 : decode cX1_orderCouncil 44 = .ok (.return_, 1) := by decide +kernel
theorem dX1_orderCouncil_45 : decode cX1_orderCouncil 45 = .ok (.aload_n 0, 1) := by decide +kernel
theorem dX1_orderCouncil_46 : decode cX1_orderCouncil 46 = .ok (.getfield 47, 3) := by decide +kernel
theorem dX1_orderCouncil_49 : decode cX1_orderCouncil 49 = .ok (.iload 5, 2) := by decide +kernel
theorem dX1_orderCouncil_51 : decode cX1_orderCouncil 51 = .ok (.iload 6, 2) := by decide +kernel
theorem dX1_orderCouncil_53 : decode cX1_orderCouncil 53 = .ok (.iastore, 1) := by decide +kernel
theorem dX1_orderCouncil_54 : decode cX1_orderCouncil 54 = .ok (.aload_n 0, 1) := by decide +kernel
theorem dX1_orderCouncil_55 : decode cX1_orderCouncil 55 = .ok (.dup, 1) := by decide +kernel
theorem dX1_orderCouncil_56 : decode cX1_orderCouncil 56 = .ok (.getfield 50, 3) := by decide +kernel
theorem dX1_orderCouncil_59 : decode cX1_orderCouncil 59 = .ok (.iconst 1, 1) := by decide +kernel
theorem dX1_orderCouncil_60 : decode cX1_orderCouncil 60 = .ok (.iadd, 1) := by decide +kernel
theorem dX1_orderCouncil_61 : decode cX1_orderCouncil 61 = .ok (.putfield 50, 3) := by decide +kernel
theorem dX1_orderCouncil_64 : decode cX1_orderCouncil 64 = .ok (.aload_n 0, 1) := by decide +kernel
theorem dX1_orderCouncil_65 : decode cX1_orderCouncil 65 = .ok (.iload 4, 2) := by decide +kernel
theorem dX1_orderCouncil_67 : decode cX1_orderCouncil 67 = .ok (.iload 6, 2) := by decide +kernel
theorem dX1_orderCouncil_69 : decode cX1_orderCouncil 69 = .ok (.invokevirtual 120, 3) := by decide +kernel
theorem dX1_orderCouncil_72 : decode cX1_orderCouncil 72 = .ok (.istore 4, 2) := by decide +kernel
theorem dX1_orderCouncil_74 : decode cX1_orderCouncil 74 = .ok (.iload_n 3, 1) := by decide +kernel
theorem dX1_orderCouncil_75 : decode cX1_orderCouncil 75 = .ok (.iconst 1, 1) := by decide +kernel
theorem dX1_orderCouncil_76 : decode cX1_orderCouncil 76 = .ok (.iload 6, 2) := by decide +kernel
theorem dX1_orderCouncil_78 : decode cX1_orderCouncil 78 = .ok (.ishl, 1) := by decide +kernel
theorem dX1_orderCouncil_79 : decode cX1_orderCouncil 79 = .ok (.ixor, 1) := by decide +kernel
theorem dX1_orderCouncil_80 : decode cX1_orderCouncil 80 = .ok (.istore_n 3, 1) := by decide +kernel
theorem dX1_orderCouncil_81 : decode cX1_orderCouncil 81 = .ok (.iinc 5 1, 3) := by decide +kernel
theorem dX1_orderCouncil_84 : decode cX1_orderCouncil 84 = .ok (.goto (-68), 3) := by decide +kernel
theorem dX1_orderCouncil_87 : decode cX1_orderCouncil 87 = .ok (.return_, 1) := by decide +kernel
theorem dX1_nextGreeted_0 : decode cX1_nextGreeted 0 = .ok (.iconst 0, 1) := by decide +kernel
theorem dX1_nextGreeted_1 : decode cX1_nextGreeted 1 = .ok (.istore 4, 2) := by decide +kernel
theorem dX1_nextGreeted_3 : decode cX1_nextGreeted 3 = .ok (.iload 4, 2) := by decide +kernel
theorem dX1_nextGreeted_5 : decode cX1_nextGreeted 5 = .ok (.aload_n 0, 1) := by decide +kernel
theorem dX1_nextGreeted_6 : decode cX1_nextGreeted 6 = .ok (.getfield 9, 3) := by decide +kernel
theorem dX1_nextGreeted_9 : decode cX1_nextGreeted 9 = .ok (.if_icmp .ge 48, 3) := by decide +kernel
theorem dX1_nextGreeted_12 : decode cX1_nextGreeted 12 = .ok (.aload_n 0, 1) := by decide +kernel
theorem dX1_nextGreeted_13 : decode cX1_nextGreeted 13 = .ok (.iload 4, 2) := by decide +kernel
theorem dX1_nextGreeted_15 : decode cX1_nextGreeted 15 = .ok (.iload_n 1, 1) := by decide +kernel
theorem dX1_nextGreeted_16 : decode cX1_nextGreeted 16 = .ok (.invokevirtual 117, 3) := by decide +kernel
theorem dX1_nextGreeted_19 : decode cX1_nextGreeted 19 = .ok (.ifCond .eq 32, 3) := by decide +kernel
theorem dX1_nextGreeted_22 : decode cX1_nextGreeted 22 = .ok (.aload_n 0, 1) := by decide +kernel
theorem dX1_nextGreeted_23 : decode cX1_nextGreeted 23 = .ok (.aload_n 0, 1) := by decide +kernel
theorem dX1_nextGreeted_24 : decode cX1_nextGreeted 24 = .ok (.iload_n 2, 1) := by decide +kernel
theorem dX1_nextGreeted_25 : decode cX1_nextGreeted 25 = .ok (.iload 4, 2) := by decide +kernel
theorem dX1_nextGreeted_27 : decode cX1_nextGreeted 27 = .ok (.invokevirtual 120, 3) := by decide +kernel
theorem dX1_nextGreeted_30 : decode cX1_nextGreeted 30 = .ok (.aload_n 0, 1) := by decide +kernel
theorem dX1_nextGreeted_31 : decode cX1_nextGreeted 31 = .ok (.getfield 44, 3) := by decide +kernel
theorem dX1_nextGreeted_34 : decode cX1_nextGreeted 34 = .ok (.iload_n 1, 1) := by decide +kernel
theorem dX1_nextGreeted_35 : decode cX1_nextGreeted 35 = .ok (.iconst 1, 1) := by decide +kernel
theorem dX1_nextGreeted_36 : decode cX1_nextGreeted 36 = .ok (.iload 4, 2) := by decide +kernel
theorem dX1_nextGreeted_38 : decode cX1_nextGreeted 38 = .ok (.ishl, 1) := by decide +kernel
theorem dX1_nextGreeted_39 : decode cX1_nextGreeted 39 = .ok (.ixor, 1) := by decide +kernel
theorem dX1_nextGreeted_40 : decode cX1_nextGreeted 40 = .ok (.iaload, 1) := by decide +kernel
theorem dX1_nextGreeted_41 : decode cX1_nextGreeted 41 = .ok (.invokevirtual 126, 3) := by decide +kernel
theorem dX1_nextGreeted_44 : decode cX1_nextGreeted 44 = .ok (.iload_n 3, 1) := by decide +kernel
theorem dX1_nextGreeted_45 : decode cX1_nextGreeted 45 = .ok (.if_icmp .ne 6, 3) := by decide +kernel
theorem dX1_nextGreeted_48 : decode cX1_nextGreeted 48 = .ok (.iload 4, 2) := by decide +kernel
theorem dX1_nextGreeted_50 : decode cX1_nextGreeted 50 = .ok (.ireturn, 1) := by decide +kernel
theorem dX1_nextGreeted_51 : decode cX1_nextGreeted 51 = .ok (.iinc 4 1, 3) := by decide +kernel
theorem dX1_nextGreeted_54 : decode cX1_nextGreeted 54 = .ok (.goto (-51), 3) := by decide +kernel
theorem dX1_nextGreeted_57 : decode cX1_nextGreeted 57 = .ok (.bipush (-4), 2) := by decide +kernel
theorem dX1_nextGreeted_59 : decode cX1_nextGreeted 59 = .ok (.ireturn, 1) := by decide +kernel
theorem dX2_init_0 : decode cX2_init 0 = .ok (.aload_n 0, 1) := by decide +kernel
theorem dX2_init_1 : decode cX2_init 1 = .ok (.invokespecial 3, 3) := by decide +kernel
theorem dX2_init_4 : decode cX2_init 4 = .ok (.aload_n 0, 1) := by decide +kernel
theorem dX2_init_5 : decode cX2_init 5 = .ok (.new 9, 3) := by decide +kernel
theorem dX2_init_8 : decode cX2_init 8 = .ok (.dup, 1) := by decide +kernel
theorem dX2_init_9 : decode cX2_init 9 = .ok (.invokespecial 11, 3) := by decide +kernel
theorem dX2_init_12 : decode cX2_init 12 = .ok (.putfield 12, 3) := by decide +kernel
theorem dX2_init_15 : decode cX2_init 15 = .ok (.aload_n 0, 1) := by decide +kernel
theorem dX2_init_16 : decode cX2_init 16 = .ok (.bipush 8, 2) := by decide +kernel
theorem dX2_init_18 : decode cX2_init 18 = .ok (.newarray .int, 2) := by decide +kernel
theorem dX2_init_20 : decode cX2_init 20 = .ok (.putfield 18, 3) := by decide +kernel
theorem dX2_init_23 : decode cX2_init 23 = .ok (.aload_n 0, 1) := by decide +kernel
theorem dX2_init_24 : decode cX2_init 24 = .ok (.bipush 8, 2) := by decide +kernel
theorem dX2_init_26 : decode cX2_init 26 = .ok (.newarray .int, 2) := by decide +kernel
theorem dX2_init_28 : decode cX2_init 28 = .ok (.putfield 22, 3) := by decide +kernel
theorem dX2_init_31 : decode cX2_init 31 = .ok (.aload_n 0, 1) := by decide +kernel
theorem dX2_init_32 : decode cX2_init 32 = .ok (.bipush 6, 2) := by decide +kernel
theorem dX2_init_34 : decode cX2_init 34 = .ok (.newarray .int, 2) := by decide +kernel
theorem dX2_init_36 : decode cX2_init 36 = .ok (.putfield 25, 3) := by decide +kernel
theorem dX2_init_39 : decode cX2_init 39 = .ok (.aload_n 0, 1) := by decide +kernel
theorem dX2_init_40 : decode cX2_init 40 = .ok (.bipush 6, 2) := by decide +kernel
theorem dX2_init_42 : decode cX2_init 42 = .ok (.newarray .boolean, 2) := by decide +kernel
theorem dX2_init_44 : decode cX2_init 44 = .ok (.putfield 28, 3) := by decide +kernel
theorem dX2_init_47 : decode cX2_init 47 = .ok (.aload_n 0, 1) := by decide +kernel
theorem dX2_init_48 : decode cX2_init 48 = .ok (.bipush 6, 2) := by decide +kernel
theorem dX2_init_50 : decode cX2_init 50 = .ok (.newarray .int, 2) := by decide +kernel
theorem dX2_init_52 : decode cX2_init 52 = .ok (.putfield 32, 3) := by decide +kernel
theorem dX2_init_55 : decode cX2_init 55 = .ok (.aload_n 0, 1) := by decide +kernel
theorem dX2_init_56 : decode cX2_init 56 = .ok (.invokevirtual 35, 3) := by decide +kernel
theorem dX2_init_59 : decode cX2_init 59 = .ok (.return_, 1) := by decide +kernel
theorem dX2_empty_0 : decode cX2_empty 0 = .ok (.aload_n 0, 1) := by decide +kernel
theorem dX2_empty_1 : decode cX2_empty 1 = .ok (.getfield 12, 3) := by decide +kernel
theorem dX2_empty_4 : decode cX2_empty 4 = .ok (.iconst 0, 1) := by decide +kernel
theorem dX2_empty_5 : decode cX2_empty 5 = .ok (.putfield 38, 3) := by decide +kernel
theorem dX2_empty_8 : decode cX2_empty 8 = .ok (.iconst 0, 1) := by decide +kernel
theorem dX2_empty_9 : decode cX2_empty 9 = .ok (.istore_n 1, 1) := by decide +kernel
theorem dX2_empty_10 : decode cX2_empty 10 = .ok (.iload_n 1, 1) := by decide +kernel
theorem dX2_empty_11 : decode cX2_empty 11 = .ok (.bipush 6, 2) := by decide +kernel
theorem dX2_empty_13 : decode cX2_empty 13 = .ok (.if_icmp .ge 30, 3) := by decide +kernel
theorem dX2_empty_16 : decode cX2_empty 16 = .ok (.aload_n 0, 1) := by decide +kernel
theorem dX2_empty_17 : decode cX2_empty 17 = .ok (.getfield 25, 3) := by decide +kernel
theorem dX2_empty_20 : decode cX2_empty 20 = .ok (.iload_n 1, 1) := by decide +kernel
theorem dX2_empty_21 : decode cX2_empty 21 = .ok (.iload_n 1, 1) := by decide +kernel
theorem dX2_empty_22 : decode cX2_empty 22 = .ok (.iastore, 1) := by decide +kernel
theorem dX2_empty_23 : decode cX2_empty 23 = .ok (.aload_n 0, 1) := by decide +kernel
theorem dX2_empty_24 : decode cX2_empty 24 = .ok (.getfield 28, 3) := by decide +kernel
theorem dX2_empty_27 : decode cX2_empty 27 = .ok (.iload_n 1, 1) := by decide +kernel
theorem dX2_empty_28 : decode cX2_empty 28 = .ok (.iconst 0, 1) := by decide +kernel
theorem dX2_empty_29 : decode cX2_empty 29 = .ok (.bastore, 1) := by decide +kernel
theorem dX2_empty_30 : decode cX2_empty 30 = .ok (.aload_n 0, 1) := by decide +kernel
theorem dX2_empty_31 : decode cX2_empty 31 = .ok (.getfield 32, 3) := by decide +kernel
theorem dX2_empty_34 : decode cX2_empty 34 = .ok (.iload_n 1, 1) := by decide +kernel
theorem dX2_empty_35 : decode cX2_empty 35 = .ok (.iconst 1, 1) := by decide +kernel
theorem dX2_empty_36 : decode cX2_empty 36 = .ok (.iastore, 1) := by decide +kernel
theorem dX2_empty_37 : decode cX2_empty 37 = .ok (.iinc 1 1, 3) := by decide +kernel
theorem dX2_empty_40 : decode cX2_empty 40 = .ok (.goto (-30), 3) := by decide +kernel
theorem dX2_empty_43 : decode cX2_empty 43 = .ok (.aload_n 0, 1) := by decide +kernel
theorem dX2_empty_44 : decode cX2_empty 44 = .ok (.iconst 4, 1) := by decide +kernel
theorem dX2_empty_45 : decode cX2_empty 45 = .ok (.putfield 42, 3) := by decide +kernel
theorem dX2_empty_48 : decode cX2_empty 48 = .ok (.aload_n 0, 1) := by decide +kernel
theorem dX2_empty_49 : decode cX2_empty 49 = .ok (.iconst 3, 1) := by decide +kernel
theorem dX2_empty_50 : decode cX2_empty 50 = .ok (.putfield 45, 3) := by decide +kernel
theorem dX2_empty_53 : decode cX2_empty 53 = .ok (.aload_n 0, 1) := by decide +kernel
theorem dX2_empty_54 : decode cX2_empty 54 = .ok (.iconst 1, 1) := by decide +kernel
theorem dX2_empty_55 : decode cX2_empty 55 = .ok (.putfield 48, 3) := by decide +kernel
theorem dX2_empty_58 : decode cX2_empty 58 = .ok (.return_, 1) := by decide +kernel
theorem dX2_settle_0 : decode cX2_settle 0 = .ok (.aload_n 0, 1) := by decide +kernel
theorem dX2_settle_1 : decode cX2_settle 1 = .ok (.getfield 12, 3) := by decide +kernel
theorem dX2_settle_4 : decode cX2_settle 4 = .ok (.getfield 38, 3) := by decide +kernel
theorem dX2_settle_7 : decode cX2_settle 7 = .ok (.istore 6, 2) := by decide +kernel
theorem dX2_settle_9 : decode cX2_settle 9 = .ok (.iload 6, 2) := by decide +kernel
theorem dX2_settle_11 : decode cX2_settle 11 = .ok (.iconst 0, 1) := by decide +kernel
theorem dX2_settle_12 : decode cX2_settle 12 = .ok (.bipush 7, 2) := by decide +kernel
theorem dX2_settle_14 : decode cX2_settle 14 = .ok (.invokestatic 51, 3) := by decide +kernel
theorem dX2_settle_17 : decode cX2_settle 17 = .ok (.ifCond .eq 16, 3) := by decide +kernel
theorem dX2_settle_20 : decode cX2_settle 20 = .ok (.aload_n 0, 1) := by decide +kernel
theorem dX2_settle_21 : decode cX2_settle 21 = .ok (.getfield 12, 3) := by decide +kernel
theorem dX2_settle_24 : decode cX2_settle 24 = .ok (.iload_n 1, 1) := by decide +kernel
theorem dX2_settle_25 : decode cX2_settle 25 = .ok (.aload_n 2, 1) := by decide +kernel
theorem dX2_settle_26 : decode cX2_settle 26 = .ok (.iload_n 3, 1) := by decide +kernel
theorem dX2_settle_27 : decode cX2_settle 27 = .ok (.invokevirtual 55, 3) := by decide +kernel
theorem dX2_settle_30 : decode cX2_settle 30 = .ok (.ifCond .ne 5, 3) := by decide +kernel
theorem dX2_settle_33 : decode cX2_settle 33 = .ok (.iconst 0, 1) := by decide +kernel
theorem dX2_settle_34 : decode cX2_settle 34 = .ok (.ireturn, 1) := by decide +kernel
theorem dX2_settle_35 : decode cX2_settle 35 = .ok (.aload_n 0, 1) := by decide +kernel
theorem dX2_settle_36 : decode cX2_settle 36 = .ok (.getfield 18, 3) := by decide +kernel
theorem dX2_settle_39 : decode cX2_settle 39 = .ok (.iload 6, 2) := by decide +kernel
theorem dX2_settle_41 : decode cX2_settle 41 = .ok (.iload 4, 2) := by decide +kernel
theorem dX2_settle_43 : decode cX2_settle 43 = .ok (.iastore, 1) := by decide +kernel
theorem dX2_settle_44 : decode cX2_settle 44 = .ok (.aload_n 0, 1) := by decide +kernel
theorem dX2_settle_45 : decode cX2_settle 45 = .ok (.getfield 22, 3) := by decide +kernel
theorem dX2_settle_48 : decode cX2_settle 48 = .ok (.iload 6, 2) := by decide +kernel
theorem dX2_settle_50 : decode cX2_settle 50 = .ok (.iload 5, 2) := by decide +kernel
theorem dX2_settle_52 : decode cX2_settle 52 = .ok (.iastore, 1) := by decide +kernel
theorem dX2_settle_53 : decode cX2_settle 53 = .ok (.iconst 1, 1) := by decide +kernel
theorem dX2_settle_54 : decode cX2_settle 54 = .ok (.ireturn, 1) := by decide +kernel
theorem dX2_pacesOf_0 : decode cX2_pacesOf 0 = .ok (.aload_n 0, 1) := by decide +kernel
theorem dX2_pacesOf_1 : decode cX2_pacesOf 1 = .ok (.getfield 12, 3) := by decide +kernel
theorem dX2_pacesOf_4 : decode cX2_pacesOf 4 = .ok (.iload_n 1, 1) := by decide +kernel
theorem dX2_pacesOf_5 : decode cX2_pacesOf 5 = .ok (.invokevirtual 59, 3) := by decide +kernel
theorem dX2_pacesOf_8 : decode cX2_pacesOf 8 = .ok (.ifCond .eq 12, 3) := by decide +kernel
theorem dX2_pacesOf_11 : decode cX2_pacesOf 11 = .ok (.aload_n 0, 1) := by decide +kernel
theorem dX2_pacesOf_12 : decode cX2_pacesOf 12 = .ok (.getfield 18, 3) := by decide +kernel
theorem dX2_pacesOf_15 : decode cX2_pacesOf 15 = .ok (.iload_n 1, 1) := by decide +kernel
theorem dX2_pacesOf_16 : decode cX2_pacesOf 16 = .ok (.iaload, 1) := by decide +kernel
theorem dX2_pacesOf_17 : decode cX2_pacesOf 17 = .ok (.goto 4, 3) := by decide +kernel
theorem dX2_pacesOf_20 : decode cX2_pacesOf 20 = .ok (.iconst 0, 1) := by decide +kernel
theorem dX2_pacesOf_21 : decode cX2_pacesOf 21 = .ok (.ireturn, 1) := by decide +kernel
theorem dX2_rankOf_0 : decode cX2_rankOf 0 = .ok (.aload_n 0, 1) := by decide +kernel
theorem dX2_rankOf_1 : decode cX2_rankOf 1 = .ok (.getfield 12, 3) := by decide +kernel
theorem dX2_rankOf_4 : decode cX2_rankOf 4 = .ok (.iload_n 1, 1) := by decide +kernel
theorem dX2_rankOf_5 : decode cX2_rankOf 5 = .ok (.invokevirtual 59, 3) := by decide +kernel
theorem dX2_rankOf_8 : decode cX2_rankOf 8 = .ok (.ifCond .eq 12, 3) := by decide +kernel
theorem dX2_rankOf_11 : decode cX2_rankOf 11 = .ok (.aload_n 0, 1) := by decide +kernel
theorem dX2_rankOf_12 : decode cX2_rankOf 12 = .ok (.getfield 22, 3) := by decide +kernel
theorem dX2_rankOf_15 : decode cX2_rankOf 15 = .ok (.iload_n 1, 1) := by decide +kernel
theorem dX2_rankOf_16 : decode cX2_rankOf 16 = .ok (.iaload, 1) := by decide +kernel
theorem dX2_rankOf_17 : decode cX2_rankOf 17 = .ok (.goto 4, 3) := by decide +kernel
theorem dX2_rankOf_20 : decode cX2_rankOf 20 = .ok (.iconst 0, 1) := by decide +kernel
theorem dX2_rankOf_21 : decode cX2_rankOf 21 = .ok (.ireturn, 1) := by decide +kernel
theorem dX2_beatsOf_0 : decode cX2_beatsOf 0 = .ok (.iconst 0, 1) := by decide +kernel
theorem dX2_beatsOf_1 : decode cX2_beatsOf 1 = .ok (.istore_n 3, 1) := by decide +kernel
theorem dX2_beatsOf_2 : decode cX2_beatsOf 2 = .ok (.aload_n 1, 1) := by decide +kernel
theorem dX2_beatsOf_3 : decode cX2_beatsOf 3 = .ok (.iload_n 2, 1) := by decide +kernel
theorem dX2_beatsOf_4 : decode cX2_beatsOf 4 = .ok (.invokevirtual 63, 3) := by decide +kernel
theorem dX2_beatsOf_7 : decode cX2_beatsOf 7 = .ok (.istore 4, 2) := by decide +kernel
theorem dX2_beatsOf_9 : decode cX2_beatsOf 9 = .ok (.iconst 0, 1) := by decide +kernel
theorem dX2_beatsOf_10 : decode cX2_beatsOf 10 = .ok (.istore 5, 2) := by decide +kernel
theorem dX2_beatsOf_12 : decode cX2_beatsOf 12 = .ok (.iload 5, 2) := by decide +kernel
theorem dX2_beatsOf_14 : decode cX2_beatsOf 14 = .ok (.iload 4, 2) := by decide +kernel
theorem dX2_beatsOf_16 : decode cX2_beatsOf 16 = .ok (.if_icmp .ge 42, 3) := by decide +kernel
theorem dX2_beatsOf_19 : decode cX2_beatsOf 19 = .ok (.aload_n 1, 1) := by decide +kernel
theorem dX2_beatsOf_20 : decode cX2_beatsOf 20 = .ok (.iload_n 2, 1) := by decide +kernel
theorem dX2_beatsOf_21 : decode cX2_beatsOf 21 = .ok (.iload 5, 2) := by decide +kernel
theorem dX2_beatsOf_23 : decode cX2_beatsOf 23 = .ok (.invokevirtual 67, 3) := by decide +kernel
theorem dX2_beatsOf_26 : decode cX2_beatsOf 26 = .ok (.istore 6, 2) := by decide +kernel
theorem dX2_beatsOf_28 : decode cX2_beatsOf 28 = .ok (.iload_n 3, 1) := by decide +kernel
theorem dX2_beatsOf_29 : decode cX2_beatsOf 29 = .ok (.iload 6, 2) := by decide +kernel
theorem dX2_beatsOf_31 : decode cX2_beatsOf 31 = .ok (.iconst 0, 1) := by decide +kernel
theorem dX2_beatsOf_32 : decode cX2_beatsOf 32 = .ok (.iconst 5, 1) := by decide +kernel
theorem dX2_beatsOf_33 : decode cX2_beatsOf 33 = .ok (.invokestatic 51, 3) := by decide +kernel
theorem dX2_beatsOf_36 : decode cX2_beatsOf 36 = .ok (.ifCond .eq 13, 3) := by decide +kernel
theorem dX2_beatsOf_39 : decode cX2_beatsOf 39 = .ok (.aload_n 0, 1) := by decide +kernel
theorem dX2_beatsOf_40 : decode cX2_beatsOf 40 = .ok (.getfield 32, 3) := by decide +kernel
theorem dX2_beatsOf_43 : decode cX2_beatsOf 43 = .ok (.iload 6, 2) := by decide +kernel
theorem dX2_beatsOf_45 : decode cX2_beatsOf 45 = .ok (.iaload, 1) := by decide +kernel
theorem dX2_beatsOf_46 : decode cX2_beatsOf 46 = .ok (.goto 4, 3) := by decide +kernel
theorem dX2_beatsOf_49 : decode cX2_beatsOf 49 = .ok (.iconst 0, 1) := by decide +kernel
theorem dX2_beatsOf_50 : decode cX2_beatsOf 50 = .ok (.iadd, 1) := by decide +kernel
theorem dX2_beatsOf_51 : decode cX2_beatsOf 51 = .ok (.istore_n 3, 1) := by decide +kernel
theorem dX2_beatsOf_52 : decode cX2_beatsOf 52 = .ok (.iinc 5 1, 3) := by decide +kernel
theorem dX2_beatsOf_55 : decode cX2_beatsOf 55 = .ok (.goto (-43), 3) := by decide +kernel
theorem dX2_beatsOf_58 : decode cX2_beatsOf 58 = .ok (.aload_n 1, 1) := by decide +kernel
theorem dX2_beatsOf_59 : decode cX2_beatsOf 59 = .ok (.iload_n 2, 1) := by decide +kernel
theorem dX2_beatsOf_60 : decode cX2_beatsOf 60 = .ok (.invokevirtual 71, 3) := by decide +kernel
theorem dX2_beatsOf_63 : decode cX2_beatsOf 63 = .ok (.iconst 3, 1) := by decide +kernel
theorem dX2_beatsOf_64 : decode cX2_beatsOf 64 = .ok (.if_icmp .ne 9, 3) := by decide +kernel
theorem dX2_beatsOf_67 : decode cX2_beatsOf 67 = .ok (.iconst 2, 1) := by decide +kernel
theorem dX2_beatsOf_68 : decode cX2_beatsOf 68 = .ok (.iload_n 3, 1) := by decide +kernel
theorem dX2_beatsOf_69 : decode cX2_beatsOf 69 = .ok (.imul, 1) := by decide +kernel
theorem dX2_beatsOf_70 : decode cX2_beatsOf 70 = .ok (.goto 4, 3) := by decide +kernel
theorem dX2_beatsOf_73 : decode cX2_beatsOf 73 = .ok (.iload_n 3, 1) := by decide +kernel
theorem dX2_beatsOf_74 : decode cX2_beatsOf 74 = .ok (.ireturn, 1) := by decide +kernel
theorem dX2_doDeed_0 : decode cX2_doDeed 0 = .ok (.iload_n 3, 1) := by decide +kernel
theorem dX2_doDeed_1 : decode cX2_doDeed 1 = .ok (.iconst 0, 1) := by decide +kernel
theorem dX2_doDeed_2 : decode cX2_doDeed 2 = .ok (.iconst 5, 1) := by decide +kernel
theorem dX2_doDeed_3 : decode cX2_doDeed 3 = .ok (.invokestatic 51, 3) := by decide +kernel
theorem dX2_doDeed_6 : decode cX2_doDeed 6 = .ok (.ifCond .ne 5, 3) := by decide +kernel
theorem dX2_doDeed_9 : decode cX2_doDeed 9 = .ok (.iconst 0, 1) := by decide +kernel
theorem dX2_doDeed_10 : decode cX2_doDeed 10 = .ok (.ireturn, 1) := by decide +kernel
theorem dX2_doDeed_11 : decode cX2_doDeed 11 = .ok (.aload_n 0, 1) := by decide +kernel
theorem dX2_doDeed_12 : decode cX2_doDeed 12 = .ok (.getfield 28, 3) := by decide +kernel
theorem dX2_doDeed_15 : decode cX2_doDeed 15 = .ok (.iload_n 3, 1) := by decide +kernel
theorem dX2_doDeed_16 : decode cX2_doDeed 16 = .ok (.baload, 1) := by decide +kernel
theorem dX2_doDeed_17 : decode cX2_doDeed 17 = .ok (.ifCond .eq 10, 3) := by decide +kernel
theorem dX2_doDeed_20 : decode cX2_doDeed 20 = .ok (.aload_n 1, 1) := by decide +kernel
theorem dX2_doDeed_21 : decode cX2_doDeed 21 = .ok (.iload_n 2, 1) := by decide +kernel
theorem dX2_doDeed_22 : decode cX2_doDeed 22 = .ok (.invokevirtual 74, 3) := by decide +kernel
theorem dX2_doDeed_25 : decode cX2_doDeed 25 = .ok (.iconst 1, 1) := by decide +kernel
theorem dX2_doDeed_26 : decode cX2_doDeed 26 = .ok (.ireturn, 1) := by decide +kernel
theorem dX2_doDeed_27 : decode cX2_doDeed 27 = .ok (.aload_n 1, 1) := by decide +kernel
theorem dX2_doDeed_28 : decode cX2_doDeed 28 = .ok (.iload_n 2, 1) := by decide +kernel
theorem dX2_doDeed_29 : decode cX2_doDeed 29 = .ok (.aload_n 0, 1) := by decide +kernel
theorem dX2_doDeed_30 : decode cX2_doDeed 30 = .ok (.getfield 25, 3) := by decide +kernel
theorem dX2_doDeed_33 : decode cX2_doDeed 33 = .ok (.iload_n 3, 1) := by decide +kernel
theorem dX2_doDeed_34 : decode cX2_doDeed 34 = .ok (.iaload, 1) := by decide +kernel
theorem dX2_doDeed_35 : decode cX2_doDeed 35 = .ok (.invokevirtual 78, 3) := by decide +kernel
theorem dX2_doDeed_38 : decode cX2_doDeed 38 = .ok (.ireturn, 1) := by decide +kernel
theorem dX2_liveYears_0 : decode cX2_liveYears 0 = .ok (.aload_n 1, 1) := by decide +kernel
theorem dX2_liveYears_1 : decode cX2_liveYears 1 = .ok (.aload_n 2, 1) := by decide +kernel
theorem dX2_liveYears_2 : decode cX2_liveYears 2 = .ok (.invokevirtual 82, 3) := by decide +kernel
theorem dX2_liveYears_5 : decode cX2_liveYears 5 = .ok (.iconst 0, 1) := by decide +kernel
theorem dX2_liveYears_6 : decode cX2_liveYears 6 = .ok (.istore 5, 2) := by decide +kernel
theorem dX2_liveYears_8 : decode cX2_liveYears 8 = .ok (.iload 5, 2) := by decide +kernel
theorem dX2_liveYears_10 : decode cX2_liveYears 10 = .ok (.iload 4, 2) := by decide +kernel
theorem dX2_liveYears_12 : decode cX2_liveYears 12 = .ok (.if_icmp .ge 50, 3) := by decide +kernel
theorem dX2_liveYears_15 : decode cX2_liveYears 15 = .ok (.iload 5, 2) := by decide +kernel
theorem dX2_liveYears_17 : decode cX2_liveYears 17 = .ok (.bipush 60, 2) := by decide +kernel
theorem dX2_liveYears_19 : decode cX2_liveYears 19 = .ok (.if_icmp .ge 43, 3) := by decide +kernel
theorem dX2_liveYears_22 : decode cX2_liveYears 22 = .ok (.iconst 0, 1) := by decide +kernel
theorem dX2_liveYears_23 : decode cX2_liveYears 23 = .ok (.istore 6, 2) := by decide +kernel
theorem dX2_liveYears_25 : decode cX2_liveYears 25 = .ok (.iload 6, 2) := by decide +kernel
theorem dX2_liveYears_27 : decode cX2_liveYears 27 = .ok (.aload_n 1, 1) := by decide +kernel
theorem dX2_liveYears_28 : decode cX2_liveYears 28 = .ok (.getfield 38, 3) := by decide +kernel
theorem dX2_liveYears_31 : decode cX2_liveYears 31 = .ok (.if_icmp .ge 25, 3) := by decide +kernel
theorem dX2_liveYears_34 : decode cX2_liveYears 34 = .ok (.aload_n 0, 1) := by decide +kernel
theorem dX2_liveYears_35 : decode cX2_liveYears 35 = .ok (.aload_n 1, 1) := by decide +kernel
theorem dX2_liveYears_36 : decode cX2_liveYears 36 = .ok (.iload 6, 2) := by decide +kernel
theorem dX2_liveYears_38 : decode cX2_liveYears 38 = .ok (.iload_n 3, 1) := by decide +kernel
theorem dX2_liveYears_39 : decode cX2_liveYears 39 = .ok (.iload 6, 2) := by decide +kernel
theorem dX2_liveYears_41 : decode cX2_liveYears 41 = .ok (.iload 5, 2) := by decide +kernel
theorem dX2_liveYears_43 : decode cX2_liveYears 43 = .ok (.invokestatic 86, 3) := by decide +kernel
theorem dX2_liveYears_46 : decode cX2_liveYears 46 = .ok (.invokevirtual 90, 3) := by decide +kernel
theorem dX2_liveYears_49 : decode cX2_liveYears 49 = .ok (.pop, 1) := by decide +kernel
theorem dX2_liveYears_50 : decode cX2_liveYears 50 = .ok (.iinc 6 1, 3) := by decide +kernel
theorem dX2_liveYears_53 : decode cX2_liveYears 53 = .ok (.goto (-28), 3) := by decide +kernel
theorem dX2_liveYears_56 : decode cX2_liveYears 56 = .ok (.iinc 5 1, 3) := by decide +kernel
theorem dX2_liveYears_59 : decode cX2_liveYears 59 = .ok (.goto (-51), 3) := by decide +kernel
theorem dX2_liveYears_62 : decode cX2_liveYears 62 = .ok (.return_, 1) := by decide +kernel
theorem dX2_drawnDeed_0 : decode cX2_drawnDeed 0 = .ok (.ldc2_w 94, 3) := by decide +kernel
theorem dX2_drawnDeed_3 : decode cX2_drawnDeed 3 = .ok (.iload_n 0, 1) := by decide +kernel
theorem dX2_drawnDeed_4 : decode cX2_drawnDeed 4 = .ok (.i2l, 1) := by decide +kernel
theorem dX2_drawnDeed_5 : decode cX2_drawnDeed 5 = .ok (.lmul, 1) := by decide +kernel
theorem dX2_drawnDeed_6 : decode cX2_drawnDeed 6 = .ok (.ldc2_w 96, 3) := by decide +kernel
theorem dX2_drawnDeed_9 : decode cX2_drawnDeed 9 = .ok (.iload_n 1, 1) := by decide +kernel
theorem dX2_drawnDeed_10 : decode cX2_drawnDeed 10 = .ok (.i2l, 1) := by decide +kernel
theorem dX2_drawnDeed_11 : decode cX2_drawnDeed 11 = .ok (.lmul, 1) := by decide +kernel
theorem dX2_drawnDeed_12 : decode cX2_drawnDeed 12 = .ok (.ladd, 1) := by decide +kernel
theorem dX2_drawnDeed_13 : decode cX2_drawnDeed 13 = .ok (.ldc2_w 98, 3) := by decide +kernel
theorem dX2_drawnDeed_16 : decode cX2_drawnDeed 16 = .ok (.iload_n 2, 1) := by decide +kernel
theorem dX2_drawnDeed_17 : decode cX2_drawnDeed 17 = .ok (.i2l, 1) := by decide +kernel
theorem dX2_drawnDeed_18 : decode cX2_drawnDeed 18 = .ok (.lmul, 1) := by decide +kernel
theorem dX2_drawnDeed_19 : decode cX2_drawnDeed 19 = .ok (.ladd, 1) := by decide +kernel
theorem dX2_drawnDeed_20 : decode cX2_drawnDeed 20 = .ok (.lconst 1, 1) := by decide +kernel
theorem dX2_drawnDeed_21 : decode cX2_drawnDeed 21 = .ok (.ladd, 1) := by decide +kernel
theorem dX2_drawnDeed_22 : decode cX2_drawnDeed 22 = .ok (.lstore_n 3, 1) := by decide +kernel
theorem dX2_drawnDeed_23 : decode cX2_drawnDeed 23 = .ok (.lload_n 3, 1) := by decide +kernel
theorem dX2_drawnDeed_24 : decode cX2_drawnDeed 24 = .ok (.lload_n 3, 1) := by decide +kernel
theorem dX2_drawnDeed_25 : decode cX2_drawnDeed 25 = .ok (.lmul, 1) := by decide +kernel
theorem dX2_drawnDeed_26 : decode cX2_drawnDeed 26 = .ok (.ldc2_w 100, 3) := by decide +kernel
theorem dX2_drawnDeed_29 : decode cX2_drawnDeed 29 = .ok (.lrem, 1) := by decide +kernel
theorem dX2_drawnDeed_30 : decode cX2_drawnDeed 30 = .ok (.ldc2_w 102, 3) := by decide +kernel
theorem dX2_drawnDeed_33 : decode cX2_drawnDeed 33 = .ok (.lrem, 1) := by decide +kernel
theorem dX2_drawnDeed_34 : decode cX2_drawnDeed 34 = .ok (.l2i, 1) := by decide +kernel
theorem dX2_drawnDeed_35 : decode cX2_drawnDeed 35 = .ok (.ireturn, 1) := by decide +kernel
theorem dX3_init_0 : decode cX3_init 0 = .ok (.aload_n 0, 1) := by decide +kernel
theorem dX3_init_1 : decode cX3_init 1 = .ok (.invokespecial 1, 3) := by decide +kernel
theorem dX3_init_4 : decode cX3_init 4 = .ok (.aload_n 0, 1) := by decide +kernel
theorem dX3_init_5 : decode cX3_init 5 = .ok (.new 7, 3) := by decide +kernel
theorem dX3_init_8 : decode cX3_init 8 = .ok (.dup, 1) := by decide +kernel
theorem dX3_init_9 : decode cX3_init 9 = .ok (.invokespecial 9, 3) := by decide +kernel
theorem dX3_init_12 : decode cX3_init 12 = .ok (.putfield 10, 3) := by decide +kernel
theorem dX3_init_15 : decode cX3_init 15 = .ok (.aload_n 0, 1) := by decide +kernel
theorem dX3_init_16 : decode cX3_init 16 = .ok (.new 16, 3) := by decide +kernel
theorem dX3_init_19 : decode cX3_init 19 = .ok (.dup, 1) := by decide +kernel
theorem dX3_init_20 : decode cX3_init 20 = .ok (.invokespecial 18, 3) := by decide +kernel
theorem dX3_init_23 : decode cX3_init 23 = .ok (.putfield 19, 3) := by decide +kernel
theorem dX3_init_26 : decode cX3_init 26 = .ok (.return_, 1) := by decide +kernel
theorem dX3_copyFrom_0 : decode cX3_copyFrom 0 = .ok (.aload_n 0, 1) := by decide +kernel
theorem dX3_copyFrom_1 : decode cX3_copyFrom 1 = .ok (.getfield 10, 3) := by decide +kernel
theorem dX3_copyFrom_4 : decode cX3_copyFrom 4 = .ok (.aload_n 1, 1) := by decide +kernel
theorem dX3_copyFrom_5 : decode cX3_copyFrom 5 = .ok (.getfield 10, 3) := by decide +kernel
theorem dX3_copyFrom_8 : decode cX3_copyFrom 8 = .ok (.invokevirtual 23, 3) := by decide +kernel
theorem dX3_copyFrom_11 : decode cX3_copyFrom 11 = .ok (.aload_n 0, 1) := by decide +kernel
theorem dX3_copyFrom_12 : decode cX3_copyFrom 12 = .ok (.getfield 19, 3) := by decide +kernel
theorem dX3_copyFrom_15 : decode cX3_copyFrom 15 = .ok (.aload_n 1, 1) := by decide +kernel
theorem dX3_copyFrom_16 : decode cX3_copyFrom 16 = .ok (.getfield 19, 3) := by decide +kernel
theorem dX3_copyFrom_19 : decode cX3_copyFrom 19 = .ok (.invokevirtual 27, 3) := by decide +kernel
theorem dX3_copyFrom_22 : decode cX3_copyFrom 22 = .ok (.return_, 1) := by decide +kernel
theorem dX4_init_0 : decode cX4_init 0 = .ok (.aload_n 0, 1) := by decide +kernel
theorem dX4_init_1 : decode cX4_init 1 = .ok (.invokespecial 3, 3) := by decide +kernel
theorem dX4_init_4 : decode cX4_init 4 = .ok (.aload_n 0, 1) := by decide +kernel
theorem dX4_init_5 : decode cX4_init 5 = .ok (.bipush 8, 2) := by decide +kernel
theorem dX4_init_7 : decode cX4_init 7 = .ok (.newarray .int, 2) := by decide +kernel
theorem dX4_init_9 : decode cX4_init 9 = .ok (.putfield 9, 3) := by decide +kernel
theorem dX4_init_12 : decode cX4_init 12 = .ok (.aload_n 0, 1) := by decide +kernel
theorem dX4_init_13 : decode cX4_init 13 = .ok (.bipush 8, 2) := by decide +kernel
theorem dX4_init_15 : decode cX4_init 15 = .ok (.newarray .int, 2) := by decide +kernel
theorem dX4_init_17 : decode cX4_init 17 = .ok (.putfield 15, 3) := by decide +kernel
theorem dX4_init_20 : decode cX4_init 20 = .ok (.aload_n 0, 1) := by decide +kernel
theorem dX4_init_21 : decode cX4_init 21 = .ok (.bipush 80, 2) := by decide +kernel
theorem dX4_init_23 : decode cX4_init 23 = .ok (.newarray .int, 2) := by decide +kernel
theorem dX4_init_25 : decode cX4_init 25 = .ok (.putfield 18, 3) := by decide +kernel
theorem dX4_init_28 : decode cX4_init 28 = .ok (.aload_n 0, 1) := by decide +kernel
theorem dX4_init_29 : decode cX4_init 29 = .ok (.iconst 0, 1) := by decide +kernel
theorem dX4_init_30 : decode cX4_init 30 = .ok (.putfield 21, 3) := by decide +kernel
theorem dX4_init_33 : decode cX4_init 33 = .ok (.return_, 1) := by decide +kernel
theorem dX4_copyFrom_0 : decode cX4_copyFrom 0 = .ok (.aload_n 1, 1) := by decide +kernel
theorem dX4_copyFrom_1 : decode cX4_copyFrom 1 = .ok (.getfield 9, 3) := by decide +kernel
theorem dX4_copyFrom_4 : decode cX4_copyFrom 4 = .ok (.iconst 0, 1) := by decide +kernel
theorem dX4_copyFrom_5 : decode cX4_copyFrom 5 = .ok (.aload_n 0, 1) := by decide +kernel
theorem dX4_copyFrom_6 : decode cX4_copyFrom 6 = .ok (.getfield 9, 3) := by decide +kernel
theorem dX4_copyFrom_9 : decode cX4_copyFrom 9 = .ok (.iconst 0, 1) := by decide +kernel
theorem dX4_copyFrom_10 : decode cX4_copyFrom 10 = .ok (.bipush 8, 2) := by decide +kernel
theorem dX4_copyFrom_12 : decode cX4_copyFrom 12 = .ok (.invokestatic 25, 3) := by decide +kernel
theorem dX4_copyFrom_15 : decode cX4_copyFrom 15 = .ok (.aload_n 1, 1) := by decide +kernel
theorem dX4_copyFrom_16 : decode cX4_copyFrom 16 = .ok (.getfield 15, 3) := by decide +kernel
theorem dX4_copyFrom_19 : decode cX4_copyFrom 19 = .ok (.iconst 0, 1) := by decide +kernel
theorem dX4_copyFrom_20 : decode cX4_copyFrom 20 = .ok (.aload_n 0, 1) := by decide +kernel
theorem dX4_copyFrom_21 : decode cX4_copyFrom 21 = .ok (.getfield 15, 3) := by decide +kernel
theorem dX4_copyFrom_24 : decode cX4_copyFrom 24 = .ok (.iconst 0, 1) := by decide +kernel
theorem dX4_copyFrom_25 : decode cX4_copyFrom 25 = .ok (.bipush 8, 2) := by decide +kernel
theorem dX4_copyFrom_27 : decode cX4_copyFrom 27 = .ok (.invokestatic 25, 3) := by decide +kernel
theorem dX4_copyFrom_30 : decode cX4_copyFrom 30 = .ok (.aload_n 1, 1) := by decide +kernel
theorem dX4_copyFrom_31 : decode cX4_copyFrom 31 = .ok (.getfield 18, 3) := by decide +kernel
theorem dX4_copyFrom_34 : decode cX4_copyFrom 34 = .ok (.iconst 0, 1) := by decide +kernel
theorem dX4_copyFrom_35 : decode cX4_copyFrom 35 = .ok (.aload_n 0, 1) := by decide +kernel
theorem dX4_copyFrom_36 : decode cX4_copyFrom 36 = .ok (.getfield 18, 3) := by decide +kernel
theorem dX4_copyFrom_39 : decode cX4_copyFrom 39 = .ok (.iconst 0, 1) := by decide +kernel
theorem dX4_copyFrom_40 : decode cX4_copyFrom 40 = .ok (.bipush 80, 2) := by decide +kernel
theorem dX4_copyFrom_42 : decode cX4_copyFrom 42 = .ok (.invokestatic 25, 3) := by decide +kernel
theorem dX4_copyFrom_45 : decode cX4_copyFrom 45 = .ok (.aload_n 0, 1) := by decide +kernel
theorem dX4_copyFrom_46 : decode cX4_copyFrom 46 = .ok (.aload_n 1, 1) := by decide +kernel
theorem dX4_copyFrom_47 : decode cX4_copyFrom 47 = .ok (.getfield 21, 3) := by decide +kernel
theorem dX4_copyFrom_50 : decode cX4_copyFrom 50 = .ok (.putfield 21, 3) := by decide +kernel
theorem dX4_copyFrom_53 : decode cX4_copyFrom 53 = .ok (.return_, 1) := by decide +kernel
theorem dX4_has_0 : decode cX4_has 0 = .ok (.iload_n 1, 1) := by decide +kernel
theorem dX4_has_1 : decode cX4_has 1 = .ok (.ifCond .lt 15, 3) := by decide +kernel
theorem dX4_has_4 : decode cX4_has 4 = .ok (.iload_n 1, 1) := by decide +kernel
theorem dX4_has_5 : decode cX4_has 5 = .ok (.aload_n 0, 1) := by decide +kernel
theorem dX4_has_6 : decode cX4_has 6 = .ok (.getfield 21, 3) := by decide +kernel
theorem dX4_has_9 : decode cX4_has 9 = .ok (.if_icmp .ge 7, 3) := by decide +kernel
theorem dX4_has_12 : decode cX4_has 12 = .ok (.iconst 1, 1) := by decide +kernel
theorem dX4_has_13 : decode cX4_has 13 = .ok (.goto 4, 3) := by decide +kernel
theorem dX4_has_16 : decode cX4_has 16 = .ok (.iconst 0, 1) := by decide +kernel
theorem dX4_has_17 : decode cX4_has 17 = .ok (.ireturn, 1) := by decide +kernel
theorem dX4_enter_0 : decode cX4_enter 0 = .ok (.aload_n 0, 1) := by decide +kernel
theorem dX4_enter_1 : decode cX4_enter 1 = .ok (.getfield 21, 3) := by decide +kernel
theorem dX4_enter_4 : decode cX4_enter 4 = .ok (.bipush 8, 2) := by decide +kernel
theorem dX4_enter_6 : decode cX4_enter 6 = .ok (.if_icmp .lt 5, 3) := by decide +kernel
theorem dX4_enter_9 : decode cX4_enter 9 = .ok (.iconst 0, 1) := by decide +kernel
theorem dX4_enter_10 : decode cX4_enter 10 = .ok (.ireturn, 1) := by decide +kernel
theorem dX4_enter_11 : decode cX4_enter 11 = .ok (.aload_n 0, 1) := by decide +kernel
theorem dX4_enter_12 : decode cX4_enter 12 = .ok (.getfield 21, 3) := by decide +kernel
theorem dX4_enter_15 : decode cX4_enter 15 = .ok (.istore 4, 2) := by decide +kernel
theorem dX4_enter_17 : decode cX4_enter 17 = .ok (.aload_n 0, 1) := by decide +kernel
theorem dX4_enter_18 : decode cX4_enter 18 = .ok (.dup, 1) := by decide +kernel
theorem dX4_enter_19 : decode cX4_enter 19 = .ok (.getfield 21, 3) := by decide +kernel
theorem dX4_enter_22 : decode cX4_enter 22 = .ok (.iconst 1, 1) := by decide +kernel
theorem dX4_enter_23 : decode cX4_enter 23 = .ok (.iadd, 1) := by decide +kernel
theorem dX4_enter_24 : decode cX4_enter 24 = .ok (.putfield 21, 3) := by decide +kernel
theorem dX4_enter_27 : decode cX4_enter 27 = .ok (.aload_n 0, 1) := by decide +kernel
theorem dX4_enter_28 : decode cX4_enter 28 = .ok (.getfield 9, 3) := by decide +kernel
theorem dX4_enter_31 : decode cX4_enter 31 = .ok (.iload 4, 2) := by decide +kernel
theorem dX4_enter_33 : decode cX4_enter 33 = .ok (.iload_n 1, 1) := by decide +kernel
theorem dX4_enter_34 : decode cX4_enter 34 = .ok (.iastore, 1) := by decide +kernel
theorem dX4_enter_35 : decode cX4_enter 35 = .ok (.aload_n 0, 1) := by decide +kernel
theorem dX4_enter_36 : decode cX4_enter 36 = .ok (.getfield 15, 3) := by decide +kernel
theorem dX4_enter_39 : decode cX4_enter 39 = .ok (.iload 4, 2) := by decide +kernel
theorem dX4_enter_41 : decode cX4_enter 41 = .ok (.iconst 0, 1) := by decide +kernel
theorem dX4_enter_42 : decode cX4_enter 42 = .ok (.iastore, 1) := by decide +kernel
theorem dX4_enter_43 : decode cX4_enter 43 = .ok (.iconst 0, 1) := by decide +kernel
theorem dX4_enter_44 : decode cX4_enter 44 = .ok (.istore 5, 2) := by decide +kernel
theorem dX4_enter_46 : decode cX4_enter 46 = .ok (.iload 5, 2) := by decide +kernel
theorem dX4_enter_48 : decode cX4_enter 48 = .ok (.iload_n 3, 1) := by decide +kernel
theorem dX4_enter_49 : decode cX4_enter 49 = .ok (.if_icmp .ge 51, 3) := by decide +kernel
theorem dX4_enter_52 : decode cX4_enter 52 = .ok (.iload 5, 2) := by decide +kernel
theorem dX4_enter_54 : decode cX4_enter 54 = .ok (.aload_n 2, 1) := by decide +kernel
theorem dX4_enter_55 : decode cX4_enter 55 = .ok (.arraylength, 1) := by decide +kernel
theorem dX4_enter_56 : decode cX4_enter 56 = .ok (.if_icmp .ge 44, 3) := by decide +kernel
theorem dX4_enter_59 : decode cX4_enter 59 = .ok (.iload 5, 2) := by decide +kernel
theorem dX4_enter_61 : decode cX4_enter 61 = .ok (.bipush 10, 2) := by decide +kernel
theorem dX4_enter_63 : decode cX4_enter 63 = .ok (.if_icmp .ge 37, 3) := by decide +kernel
theorem dX4_enter_66 : decode cX4_enter 66 = .ok (.aload_n 0, 1) := by decide +kernel
theorem dX4_enter_67 : decode cX4_enter 67 = .ok (.getfield 18, 3) := by decide +kernel
theorem dX4_enter_70 : decode cX4_enter 70 = .ok (.iload 4, 2) := by decide +kernel
theorem dX4_enter_72 : decode cX4_enter 72 = .ok (.bipush 10, 2) := by decide +kernel
theorem dX4_enter_74 : decode cX4_enter 74 = .ok (.imul, 1) := by decide +kernel
theorem dX4_enter_75 : decode cX4_enter 75 = .ok (.iload 5, 2) := by decide +kernel
theorem dX4_enter_77 : decode cX4_enter 77 = .ok (.iadd, 1) := by decide +kernel
theorem dX4_enter_78 : decode cX4_enter 78 = .ok (.aload_n 2, 1) := by decide +kernel
theorem dX4_enter_79 : decode cX4_enter 79 = .ok (.iload 5, 2) := by decide +kernel
theorem dX4_enter_81 : decode cX4_enter 81 = .ok (.iaload, 1) := by decide +kernel
theorem dX4_enter_82 : decode cX4_enter 82 = .ok (.iastore, 1) := by decide +kernel
theorem dX4_enter_83 : decode cX4_enter 83 = .ok (.aload_n 0, 1) := by decide +kernel
theorem dX4_enter_84 : decode cX4_enter 84 = .ok (.getfield 15, 3) := by decide +kernel
theorem dX4_enter_87 : decode cX4_enter 87 = .ok (.iload 4, 2) := by decide +kernel
theorem dX4_enter_89 : decode cX4_enter 89 = .ok (.dup2, 1) := by decide +kernel
theorem dX4_enter_90 : decode cX4_enter 90 = .ok (.iaload, 1) := by decide +kernel
theorem dX4_enter_91 : decode cX4_enter 91 = .ok (.iconst 1, 1) := by decide +kernel
theorem dX4_enter_92 : decode cX4_enter 92 = .ok (.iadd, 1) := by decide +kernel
theorem dX4_enter_93 : decode cX4_enter 93 = .ok (.iastore, 1) := by decide +kernel
theorem dX4_enter_94 : decode cX4_enter 94 = .ok (.iinc 5 1, 3) := by decide +kernel
theorem dX4_enter_97 : decode cX4_enter 97 = .ok (.goto (-51), 3) := by decide +kernel
theorem dX4_enter_100 : decode cX4_enter 100 = .ok (.iconst 1, 1) := by decide +kernel
theorem dX4_enter_101 : decode cX4_enter 101 = .ok (.ireturn, 1) := by decide +kernel
theorem dX4_kindOf_0 : decode cX4_kindOf 0 = .ok (.aload_n 0, 1) := by decide +kernel
theorem dX4_kindOf_1 : decode cX4_kindOf 1 = .ok (.iload_n 1, 1) := by decide +kernel
theorem dX4_kindOf_2 : decode cX4_kindOf 2 = .ok (.invokevirtual 31, 3) := by decide +kernel
theorem dX4_kindOf_5 : decode cX4_kindOf 5 = .ok (.ifCond .eq 12, 3) := by decide +kernel
theorem dX4_kindOf_8 : decode cX4_kindOf 8 = .ok (.aload_n 0, 1) := by decide +kernel
theorem dX4_kindOf_9 : decode cX4_kindOf 9 = .ok (.getfield 9, 3) := by decide +kernel
theorem dX4_kindOf_12 : decode cX4_kindOf 12 = .ok (.iload_n 1, 1) := by decide +kernel
theorem dX4_kindOf_13 : decode cX4_kindOf 13 = .ok (.iaload, 1) := by decide +kernel
theorem dX4_kindOf_14 : decode cX4_kindOf 14 = .ok (.goto 4, 3) := by decide +kernel
theorem dX4_kindOf_17 : decode cX4_kindOf 17 = .ok (.iconst 0, 1) := by decide +kernel
theorem dX4_kindOf_18 : decode cX4_kindOf 18 = .ok (.ireturn, 1) := by decide +kernel
theorem dX4_changeKind_0 : decode cX4_changeKind 0 = .ok (.aload_n 0, 1) := by decide +kernel
theorem dX4_changeKind_1 : decode cX4_changeKind 1 = .ok (.iload_n 1, 1) := by decide +kernel
theorem dX4_changeKind_2 : decode cX4_changeKind 2 = .ok (.invokevirtual 35, 3) := by decide +kernel
theorem dX4_changeKind_5 : decode cX4_changeKind 5 = .ok (.istore_n 3, 1) := by decide +kernel
theorem dX4_changeKind_6 : decode cX4_changeKind 6 = .ok (.aload_n 0, 1) := by decide +kernel
theorem dX4_changeKind_7 : decode cX4_changeKind 7 = .ok (.iload_n 1, 1) := by decide +kernel
theorem dX4_changeKind_8 : decode cX4_changeKind 8 = .ok (.invokevirtual 31, 3) := by decide +kernel
theorem dX4_changeKind_11 : decode cX4_changeKind 11 = .ok (.ifCond .eq 10, 3) := by decide +kernel
theorem dX4_changeKind_14 : decode cX4_changeKind 14 = .ok (.aload_n 0, 1) := by decide +kernel
theorem dX4_changeKind_15 : decode cX4_changeKind 15 = .ok (.getfield 9, 3) := by decide +kernel
theorem dX4_changeKind_18 : decode cX4_changeKind 18 = .ok (.iload_n 1, 1) := by decide +kernel
theorem dX4_changeKind_19 : decode cX4_changeKind 19 = .ok (.iload_n 2, 1) := by decide +kernel
theorem dX4_changeKind_20 : decode cX4_changeKind 20 = .ok (.iastore, 1) := by decide +kernel
theorem dX4_changeKind_21 : decode cX4_changeKind 21 = .ok (.iload_n 3, 1) := by decide +kernel
theorem dX4_changeKind_22 : decode cX4_changeKind 22 = .ok (.ireturn, 1) := by decide +kernel
theorem dX4_sizeOf_0 : decode cX4_sizeOf 0 = .ok (.aload_n 0, 1) := by decide +kernel
theorem dX4_sizeOf_1 : decode cX4_sizeOf 1 = .ok (.iload_n 1, 1) := by decide +kernel
theorem dX4_sizeOf_2 : decode cX4_sizeOf 2 = .ok (.invokevirtual 31, 3) := by decide +kernel
theorem dX4_sizeOf_5 : decode cX4_sizeOf 5 = .ok (.ifCond .eq 12, 3) := by decide +kernel
theorem dX4_sizeOf_8 : decode cX4_sizeOf 8 = .ok (.aload_n 0, 1) := by decide +kernel
theorem dX4_sizeOf_9 : decode cX4_sizeOf 9 = .ok (.getfield 15, 3) := by decide +kernel
theorem dX4_sizeOf_12 : decode cX4_sizeOf 12 = .ok (.iload_n 1, 1) := by decide +kernel
theorem dX4_sizeOf_13 : decode cX4_sizeOf 13 = .ok (.iaload, 1) := by decide +kernel
theorem dX4_sizeOf_14 : decode cX4_sizeOf 14 = .ok (.goto 4, 3) := by decide +kernel
theorem dX4_sizeOf_17 : decode cX4_sizeOf 17 = .ok (.iconst 0, 1) := by decide +kernel
theorem dX4_sizeOf_18 : decode cX4_sizeOf 18 = .ok (.ireturn, 1) := by decide +kernel
theorem dX4_longOf_0 : decode cX4_longOf 0 = .ok (.aload_n 0, 1) := by decide +kernel
theorem dX4_longOf_1 : decode cX4_longOf 1 = .ok (.iload_n 1, 1) := by decide +kernel
theorem dX4_longOf_2 : decode cX4_longOf 2 = .ok (.invokevirtual 31, 3) := by decide +kernel
theorem dX4_longOf_5 : decode cX4_longOf 5 = .ok (.ifCond .ne 5, 3) := by decide +kernel
theorem dX4_longOf_8 : decode cX4_longOf 8 = .ok (.iconst 0, 1) := by decide +kernel
theorem dX4_longOf_9 : decode cX4_longOf 9 = .ok (.ireturn, 1) := by decide +kernel
theorem dX4_longOf_10 : decode cX4_longOf 10 = .ok (.aload_n 0, 1) := by decide +kernel
theorem dX4_longOf_11 : decode cX4_longOf 11 = .ok (.getfield 15, 3) := by decide +kernel
theorem dX4_longOf_14 : decode cX4_longOf 14 = .ok (.iload_n 1, 1) := by decide +kernel
theorem dX4_longOf_15 : decode cX4_longOf 15 = .ok (.iaload, 1) := by decide +kernel
theorem dX4_longOf_16 : decode cX4_longOf 16 = .ok (.istore_n 2, 1) := by decide +kernel
theorem dX4_longOf_17 : decode cX4_longOf 17 = .ok (.aload_n 0, 1) := by decide +kernel
theorem dX4_longOf_18 : decode cX4_longOf 18 = .ok (.getfield 9, 3) := by decide +kernel
theorem dX4_longOf_21 : decode cX4_longOf 21 = .ok (.iload_n 1, 1) := by decide +kernel
theorem dX4_longOf_22 : decode cX4_longOf 22 = .ok (.iaload, 1) := by decide +kernel
theorem dX4_longOf_23 : decode cX4_longOf 23 = .ok (.tableswitch 42 1 3 #[25, 38, 38], 25) := by decide +kernel
theorem dX4_longOf_48 : decode cX4_longOf 48 = .ok (.iload_n 2, 1) := by decide +kernel
theorem dX4_longOf_49 : decode cX4_longOf 49 = .ok (.iconst 2, 1) := by decide +kernel
theorem dX4_longOf_50 : decode cX4_longOf 50 = .ok (.if_icmp .lt 9, 3) := by decide +kernel
theorem dX4_longOf_53 : decode cX4_longOf 53 = .ok (.iload_n 2, 1) := by decide +kernel
theorem dX4_longOf_54 : decode cX4_longOf 54 = .ok (.iconst 1, 1) := by decide +kernel
theorem dX4_longOf_55 : decode cX4_longOf 55 = .ok (.isub, 1) := by decide +kernel
theorem dX4_longOf_56 : decode cX4_longOf 56 = .ok (.goto 4, 3) := by decide +kernel
theorem dX4_longOf_59 : decode cX4_longOf 59 = .ok (.iload_n 2, 1) := by decide +kernel
theorem dX4_longOf_60 : decode cX4_longOf 60 = .ok (.ireturn, 1) := by decide +kernel
theorem dX4_longOf_61 : decode cX4_longOf 61 = .ok (.iconst 2, 1) := by decide +kernel
theorem dX4_longOf_62 : decode cX4_longOf 62 = .ok (.iload_n 2, 1) := by decide +kernel
theorem dX4_longOf_63 : decode cX4_longOf 63 = .ok (.imul, 1) := by decide +kernel
theorem dX4_longOf_64 : decode cX4_longOf 64 = .ok (.ireturn, 1) := by decide +kernel
theorem dX4_longOf_65 : decode cX4_longOf 65 = .ok (.iload_n 2, 1) := by decide +kernel
theorem dX4_longOf_66 : decode cX4_longOf 66 = .ok (.ireturn, 1) := by decide +kernel
theorem dX4_longest_0 : decode cX4_longest 0 = .ok (.iconst 0, 1) := by decide +kernel
theorem dX4_longest_1 : decode cX4_longest 1 = .ok (.istore_n 1, 1) := by decide +kernel
theorem dX4_longest_2 : decode cX4_longest 2 = .ok (.iconst 0, 1) := by decide +kernel
theorem dX4_longest_3 : decode cX4_longest 3 = .ok (.istore_n 2, 1) := by decide +kernel
theorem dX4_longest_4 : decode cX4_longest 4 = .ok (.iload_n 2, 1) := by decide +kernel
theorem dX4_longest_5 : decode cX4_longest 5 = .ok (.aload_n 0, 1) := by decide +kernel
theorem dX4_longest_6 : decode cX4_longest 6 = .ok (.getfield 21, 3) := by decide +kernel
theorem dX4_longest_9 : decode cX4_longest 9 = .ok (.if_icmp .ge 19, 3) := by decide +kernel
theorem dX4_longest_12 : decode cX4_longest 12 = .ok (.iload_n 1, 1) := by decide +kernel
theorem dX4_longest_13 : decode cX4_longest 13 = .ok (.aload_n 0, 1) := by decide +kernel
theorem dX4_longest_14 : decode cX4_longest 14 = .ok (.iload_n 2, 1) := by decide +kernel
theorem dX4_longest_15 : decode cX4_longest 15 = .ok (.invokevirtual 39, 3) := by decide +kernel
theorem dX4_longest_18 : decode cX4_longest 18 = .ok (.invokestatic 42, 3) := by decide +kernel
theorem dX4_longest_21 : decode cX4_longest 21 = .ok (.istore_n 1, 1) := by decide +kernel
theorem dX4_longest_22 : decode cX4_longest 22 = .ok (.iinc 2 1, 3) := by decide +kernel
theorem dX4_longest_25 : decode cX4_longest 25 = .ok (.goto (-21), 3) := by decide +kernel
theorem dX4_longest_28 : decode cX4_longest 28 = .ok (.iload_n 1, 1) := by decide +kernel
theorem dX4_longest_29 : decode cX4_longest 29 = .ok (.ireturn, 1) := by decide +kernel
theorem dX4_syllableAt_0 : decode cX4_syllableAt 0 = .ok (.aload_n 0, 1) := by decide +kernel
theorem dX4_syllableAt_1 : decode cX4_syllableAt 1 = .ok (.iload_n 1, 1) := by decide +kernel
theorem dX4_syllableAt_2 : decode cX4_syllableAt 2 = .ok (.invokevirtual 31, 3) := by decide +kernel
theorem dX4_syllableAt_5 : decode cX4_syllableAt 5 = .ok (.ifCond .eq 33, 3) := by decide +kernel
theorem dX4_syllableAt_8 : decode cX4_syllableAt 8 = .ok (.iload_n 2, 1) := by decide +kernel
theorem dX4_syllableAt_9 : decode cX4_syllableAt 9 = .ok (.iconst 0, 1) := by decide +kernel
theorem dX4_syllableAt_10 : decode cX4_syllableAt 10 = .ok (.aload_n 0, 1) := by decide +kernel
theorem dX4_syllableAt_11 : decode cX4_syllableAt 11 = .ok (.getfield 15, 3) := by decide +kernel
theorem dX4_syllableAt_14 : decode cX4_syllableAt 14 = .ok (.iload_n 1, 1) := by decide +kernel
theorem dX4_syllableAt_15 : decode cX4_syllableAt 15 = .ok (.iaload, 1) := by decide +kernel
theorem dX4_syllableAt_16 : decode cX4_syllableAt 16 = .ok (.iconst 1, 1) := by decide +kernel
theorem dX4_syllableAt_17 : decode cX4_syllableAt 17 = .ok (.isub, 1) := by decide +kernel
theorem dX4_syllableAt_18 : decode cX4_syllableAt 18 = .ok (.invokestatic 48, 3) := by decide +kernel
theorem dX4_syllableAt_21 : decode cX4_syllableAt 21 = .ok (.ifCond .eq 17, 3) := by decide +kernel
theorem dX4_syllableAt_24 : decode cX4_syllableAt 24 = .ok (.aload_n 0, 1) := by decide +kernel
theorem dX4_syllableAt_25 : decode cX4_syllableAt 25 = .ok (.getfield 18, 3) := by decide +kernel
theorem dX4_syllableAt_28 : decode cX4_syllableAt 28 = .ok (.iload_n 1, 1) := by decide +kernel
theorem dX4_syllableAt_29 : decode cX4_syllableAt 29 = .ok (.bipush 10, 2) := by decide +kernel
theorem dX4_syllableAt_31 : decode cX4_syllableAt 31 = .ok (.imul, 1) := by decide +kernel
theorem dX4_syllableAt_32 : decode cX4_syllableAt 32 = .ok (.iload_n 2, 1) := by decide +kernel
theorem dX4_syllableAt_33 : decode cX4_syllableAt 33 = .ok (.iadd, 1) := by decide +kernel
theorem dX4_syllableAt_34 : decode cX4_syllableAt 34 = .ok (.iaload, 1) := by decide +kernel
theorem dX4_syllableAt_35 : decode cX4_syllableAt 35 = .ok (.goto 5, 3) := by decide +kernel
theorem dX4_syllableAt_38 : decode cX4_syllableAt 38 = .ok (.bipush (-4), 2) := by decide +kernel
theorem dX4_syllableAt_40 : decode cX4_syllableAt 40 = .ok (.ireturn, 1) := by decide +kernel
theorem dX4_saidAt_0 : decode cX4_saidAt 0 = .ok (.iload_n 2, 1) := by decide +kernel
theorem dX4_saidAt_1 : decode cX4_saidAt 1 = .ok (.iconst 0, 1) := by decide +kernel
theorem dX4_saidAt_2 : decode cX4_saidAt 2 = .ok (.aload_n 0, 1) := by decide +kernel
theorem dX4_saidAt_3 : decode cX4_saidAt 3 = .ok (.iload_n 1, 1) := by decide +kernel
theorem dX4_saidAt_4 : decode cX4_saidAt 4 = .ok (.invokevirtual 39, 3) := by decide +kernel
theorem dX4_saidAt_7 : decode cX4_saidAt 7 = .ok (.iconst 1, 1) := by decide +kernel
theorem dX4_saidAt_8 : decode cX4_saidAt 8 = .ok (.isub, 1) := by decide +kernel
theorem dX4_saidAt_9 : decode cX4_saidAt 9 = .ok (.invokestatic 48, 3) := by decide +kernel
theorem dX4_saidAt_12 : decode cX4_saidAt 12 = .ok (.ifCond .ne 6, 3) := by decide +kernel
theorem dX4_saidAt_15 : decode cX4_saidAt 15 = .ok (.bipush (-4), 2) := by decide +kernel
theorem dX4_saidAt_17 : decode cX4_saidAt 17 = .ok (.ireturn, 1) := by decide +kernel
theorem dX4_saidAt_18 : decode cX4_saidAt 18 = .ok (.aload_n 0, 1) := by decide +kernel
theorem dX4_saidAt_19 : decode cX4_saidAt 19 = .ok (.iload_n 1, 1) := by decide +kernel
theorem dX4_saidAt_20 : decode cX4_saidAt 20 = .ok (.invokevirtual 52, 3) := by decide +kernel
theorem dX4_saidAt_23 : decode cX4_saidAt 23 = .ok (.istore_n 3, 1) := by decide +kernel
theorem dX4_saidAt_24 : decode cX4_saidAt 24 = .ok (.aload_n 0, 1) := by decide +kernel
theorem dX4_saidAt_25 : decode cX4_saidAt 25 = .ok (.iload_n 1, 1) := by decide +kernel
theorem dX4_saidAt_26 : decode cX4_saidAt 26 = .ok (.iload_n 2, 1) := by decide +kernel
theorem dX4_saidAt_27 : decode cX4_saidAt 27 = .ok (.iload_n 3, 1) := by decide +kernel
theorem dX4_saidAt_28 : decode cX4_saidAt 28 = .ok (.if_icmp .ge 7, 3) := by decide +kernel
theorem dX4_saidAt_31 : decode cX4_saidAt 31 = .ok (.iload_n 2, 1) := by decide +kernel
theorem dX4_saidAt_32 : decode cX4_saidAt 32 = .ok (.goto 6, 3) := by decide +kernel
theorem dX4_saidAt_35 : decode cX4_saidAt 35 = .ok (.iload_n 2, 1) := by decide +kernel
theorem dX4_saidAt_36 : decode cX4_saidAt 36 = .ok (.iload_n 3, 1) := by decide +kernel
theorem dX4_saidAt_37 : decode cX4_saidAt 37 = .ok (.isub, 1) := by decide +kernel
theorem dX4_saidAt_38 : decode cX4_saidAt 38 = .ok (.invokevirtual 55, 3) := by decide +kernel
theorem dX4_saidAt_41 : decode cX4_saidAt 41 = .ok (.ireturn, 1) := by decide +kernel
theorem dX4_gain_0 : decode cX4_gain 0 = .ok (.aload_n 0, 1) := by decide +kernel
theorem dX4_gain_1 : decode cX4_gain 1 = .ok (.iload_n 1, 1) := by decide +kernel
theorem dX4_gain_2 : decode cX4_gain 2 = .ok (.invokevirtual 31, 3) := by decide +kernel
theorem dX4_gain_5 : decode cX4_gain 5 = .ok (.ifCond .eq 14, 3) := by decide +kernel
theorem dX4_gain_8 : decode cX4_gain 8 = .ok (.aload_n 0, 1) := by decide +kernel
theorem dX4_gain_9 : decode cX4_gain 9 = .ok (.getfield 15, 3) := by decide +kernel
theorem dX4_gain_12 : decode cX4_gain 12 = .ok (.iload_n 1, 1) := by decide +kernel
theorem dX4_gain_13 : decode cX4_gain 13 = .ok (.iaload, 1) := by decide +kernel
theorem dX4_gain_14 : decode cX4_gain 14 = .ok (.bipush 10, 2) := by decide +kernel
theorem dX4_gain_16 : decode cX4_gain 16 = .ok (.if_icmp .lt 5, 3) := by decide +kernel
theorem dX4_gain_19 : decode cX4_gain 19 = .ok (.iconst 0, 1) := by decide +kernel
theorem dX4_gain_20 : decode cX4_gain 20 = .ok (.ireturn, 1) := by decide +kernel
theorem dX4_gain_21 : decode cX4_gain 21 = .ok (.aload_n 0, 1) := by decide +kernel
theorem dX4_gain_22 : decode cX4_gain 22 = .ok (.getfield 18, 3) := by decide +kernel
theorem dX4_gain_25 : decode cX4_gain 25 = .ok (.iload_n 1, 1) := by decide +kernel
theorem dX4_gain_26 : decode cX4_gain 26 = .ok (.bipush 10, 2) := by decide +kernel
theorem dX4_gain_28 : decode cX4_gain 28 = .ok (.imul, 1) := by decide +kernel
theorem dX4_gain_29 : decode cX4_gain 29 = .ok (.aload_n 0, 1) := by decide +kernel
theorem dX4_gain_30 : decode cX4_gain 30 = .ok (.getfield 15, 3) := by decide +kernel
theorem dX4_gain_33 : decode cX4_gain 33 = .ok (.iload_n 1, 1) := by decide +kernel
theorem dX4_gain_34 : decode cX4_gain 34 = .ok (.iaload, 1) := by decide +kernel
theorem dX4_gain_35 : decode cX4_gain 35 = .ok (.iadd, 1) := by decide +kernel
theorem dX4_gain_36 : decode cX4_gain 36 = .ok (.iload_n 2, 1) := by decide +kernel
theorem dX4_gain_37 : decode cX4_gain 37 = .ok (.iastore, 1) := by decide +kernel
theorem dX4_gain_38 : decode cX4_gain 38 = .ok (.aload_n 0, 1) := by decide +kernel
theorem dX4_gain_39 : decode cX4_gain 39 = .ok (.getfield 15, 3) := by decide +kernel
theorem dX4_gain_42 : decode cX4_gain 42 = .ok (.iload_n 1, 1) := by decide +kernel
theorem dX4_gain_43 : decode cX4_gain 43 = .ok (.dup2, 1) := by decide +kernel
theorem dX4_gain_44 : decode cX4_gain 44 = .ok (.iaload, 1) := by decide +kernel
theorem dX4_gain_45 : decode cX4_gain 45 = .ok (.iconst 1, 1) := by decide +kernel
theorem dX4_gain_46 : decode cX4_gain 46 = .ok (.iadd, 1) := by decide +kernel
theorem dX4_gain_47 : decode cX4_gain 47 = .ok (.iastore, 1) := by decide +kernel
theorem dX4_gain_48 : decode cX4_gain 48 = .ok (.iconst 1, 1) := by decide +kernel
theorem dX4_gain_49 : decode cX4_gain 49 = .ok (.ireturn, 1) := by decide +kernel
theorem dX4_lose_0 : decode cX4_lose 0 = .ok (.aload_n 0, 1) := by decide +kernel
theorem dX4_lose_1 : decode cX4_lose 1 = .ok (.iload_n 1, 1) := by decide +kernel
theorem dX4_lose_2 : decode cX4_lose 2 = .ok (.invokevirtual 31, 3) := by decide +kernel
theorem dX4_lose_5 : decode cX4_lose 5 = .ok (.ifCond .eq 23, 3) := by decide +kernel
theorem dX4_lose_8 : decode cX4_lose 8 = .ok (.aload_n 0, 1) := by decide +kernel
theorem dX4_lose_9 : decode cX4_lose 9 = .ok (.getfield 15, 3) := by decide +kernel
theorem dX4_lose_12 : decode cX4_lose 12 = .ok (.iload_n 1, 1) := by decide +kernel
theorem dX4_lose_13 : decode cX4_lose 13 = .ok (.iaload, 1) := by decide +kernel
theorem dX4_lose_14 : decode cX4_lose 14 = .ok (.iconst 2, 1) := by decide +kernel
theorem dX4_lose_15 : decode cX4_lose 15 = .ok (.if_icmp .lt 13, 3) := by decide +kernel
theorem dX4_lose_18 : decode cX4_lose 18 = .ok (.aload_n 0, 1) := by decide +kernel
theorem dX4_lose_19 : decode cX4_lose 19 = .ok (.getfield 15, 3) := by decide +kernel
theorem dX4_lose_22 : decode cX4_lose 22 = .ok (.iload_n 1, 1) := by decide +kernel
theorem dX4_lose_23 : decode cX4_lose 23 = .ok (.dup2, 1) := by decide +kernel
theorem dX4_lose_24 : decode cX4_lose 24 = .ok (.iaload, 1) := by decide +kernel
theorem dX4_lose_25 : decode cX4_lose 25 = .ok (.iconst 1, 1) := by decide +kernel
theorem dX4_lose_26 : decode cX4_lose 26 = .ok (.isub, 1) := by decide +kernel
theorem dX4_lose_27 : decode cX4_lose 27 = .ok (.iastore, 1) := by decide +kernel
theorem dX4_lose_28 : decode cX4_lose 28 = .ok (.return_, 1) := by decide +kernel
theorem dX4_alike_0 : decode cX4_alike 0 = .ok (.aload_n 0, 1) := by decide +kernel
theorem dX4_alike_1 : decode cX4_alike 1 = .ok (.iload_n 1, 1) := by decide +kernel
theorem dX4_alike_2 : decode cX4_alike 2 = .ok (.invokevirtual 39, 3) := by decide +kernel
theorem dX4_alike_5 : decode cX4_alike 5 = .ok (.aload_n 0, 1) := by decide +kernel
theorem dX4_alike_6 : decode cX4_alike 6 = .ok (.iload_n 2, 1) := by decide +kernel
theorem dX4_alike_7 : decode cX4_alike 7 = .ok (.invokevirtual 39, 3) := by decide +kernel
theorem dX4_alike_10 : decode cX4_alike 10 = .ok (.invokestatic 58, 3) := by decide +kernel
theorem dX4_alike_13 : decode cX4_alike 13 = .ok (.istore_n 3, 1) := by decide +kernel
theorem dX4_alike_14 : decode cX4_alike 14 = .ok (.iconst 0, 1) := by decide +kernel
theorem dX4_alike_15 : decode cX4_alike 15 = .ok (.istore 4, 2) := by decide +kernel
theorem dX4_alike_17 : decode cX4_alike 17 = .ok (.iload 4, 2) := by decide +kernel
theorem dX4_alike_19 : decode cX4_alike 19 = .ok (.iload_n 3, 1) := by decide +kernel
theorem dX4_alike_20 : decode cX4_alike 20 = .ok (.if_icmp .ge 26, 3) := by decide +kernel
theorem dX4_alike_23 : decode cX4_alike 23 = .ok (.aload_n 0, 1) := by decide +kernel
theorem dX4_alike_24 : decode cX4_alike 24 = .ok (.iload_n 1, 1) := by decide +kernel
theorem dX4_alike_25 : decode cX4_alike 25 = .ok (.iload 4, 2) := by decide +kernel
theorem dX4_alike_27 : decode cX4_alike 27 = .ok (.invokevirtual 61, 3) := by decide +kernel
theorem dX4_alike_30 : decode cX4_alike 30 = .ok (.aload_n 0, 1) := by decide +kernel
theorem dX4_alike_31 : decode cX4_alike 31 = .ok (.iload_n 2, 1) := by decide +kernel
theorem dX4_alike_32 : decode cX4_alike 32 = .ok (.iload 4, 2) := by decide +kernel
theorem dX4_alike_34 : decode cX4_alike 34 = .ok (.invokevirtual 61, 3) := by decide +kernel
theorem dX4_alike_37 : decode cX4_alike 37 = .ok (.if_icmp .ne 9, 3) := by decide +kernel
theorem dX4_alike_40 : decode cX4_alike 40 = .ok (.iinc 4 1, 3) := by decide +kernel
theorem dX4_alike_43 : decode cX4_alike 43 = .ok (.goto (-26), 3) := by decide +kernel
theorem dX4_alike_46 : decode cX4_alike 46 = .ok (.iload 4, 2) := by decide +kernel
theorem dX4_alike_48 : decode cX4_alike 48 = .ok (.ireturn, 1) := by decide +kernel
theorem dX4_shortest_0 : decode cX4_shortest 0 = .ok (.iconst 0, 1) := by decide +kernel
theorem dX4_shortest_1 : decode cX4_shortest 1 = .ok (.istore_n 3, 1) := by decide +kernel
theorem dX4_shortest_2 : decode cX4_shortest 2 = .ok (.iconst 0, 1) := by decide +kernel
theorem dX4_shortest_3 : decode cX4_shortest 3 = .ok (.istore 4, 2) := by decide +kernel
theorem dX4_shortest_5 : decode cX4_shortest 5 = .ok (.iload 4, 2) := by decide +kernel
theorem dX4_shortest_7 : decode cX4_shortest 7 = .ok (.aload_n 0, 1) := by decide +kernel
theorem dX4_shortest_8 : decode cX4_shortest 8 = .ok (.getfield 21, 3) := by decide +kernel
theorem dX4_shortest_11 : decode cX4_shortest 11 = .ok (.if_icmp .ge 36, 3) := by decide +kernel
theorem dX4_shortest_14 : decode cX4_shortest 14 = .ok (.iload 4, 2) := by decide +kernel
theorem dX4_shortest_16 : decode cX4_shortest 16 = .ok (.iload_n 1, 1) := by decide +kernel
theorem dX4_shortest_17 : decode cX4_shortest 17 = .ok (.if_icmp .eq 24, 3) := by decide +kernel
theorem dX4_shortest_20 : decode cX4_shortest 20 = .ok (.iload 4, 2) := by decide +kernel
theorem dX4_shortest_22 : decode cX4_shortest 22 = .ok (.iload_n 2, 1) := by decide +kernel
theorem dX4_shortest_23 : decode cX4_shortest 23 = .ok (.invokestatic 64, 3) := by decide +kernel
theorem dX4_shortest_26 : decode cX4_shortest 26 = .ok (.ifCond .eq 15, 3) := by decide +kernel
theorem dX4_shortest_29 : decode cX4_shortest 29 = .ok (.iload_n 3, 1) := by decide +kernel
theorem dX4_shortest_30 : decode cX4_shortest 30 = .ok (.aload_n 0, 1) := by decide +kernel
theorem dX4_shortest_31 : decode cX4_shortest 31 = .ok (.iload_n 1, 1) := by decide +kernel
theorem dX4_shortest_32 : decode cX4_shortest 32 = .ok (.iload 4, 2) := by decide +kernel
theorem dX4_shortest_34 : decode cX4_shortest 34 = .ok (.invokevirtual 68, 3) := by decide +kernel
theorem dX4_shortest_37 : decode cX4_shortest 37 = .ok (.invokestatic 42, 3) := by decide +kernel
theorem dX4_shortest_40 : decode cX4_shortest 40 = .ok (.istore_n 3, 1) := by decide +kernel
theorem dX4_shortest_41 : decode cX4_shortest 41 = .ok (.iinc 4 1, 3) := by decide +kernel
theorem dX4_shortest_44 : decode cX4_shortest 44 = .ok (.goto (-39), 3) := by decide +kernel
theorem dX4_shortest_47 : decode cX4_shortest 47 = .ok (.aload_n 0, 1) := by decide +kernel
theorem dX4_shortest_48 : decode cX4_shortest 48 = .ok (.iload_n 1, 1) := by decide +kernel
theorem dX4_shortest_49 : decode cX4_shortest 49 = .ok (.invokevirtual 39, 3) := by decide +kernel
theorem dX4_shortest_52 : decode cX4_shortest 52 = .ok (.istore 4, 2) := by decide +kernel
theorem dX4_shortest_54 : decode cX4_shortest 54 = .ok (.iload_n 3, 1) := by decide +kernel
theorem dX4_shortest_55 : decode cX4_shortest 55 = .ok (.iload 4, 2) := by decide +kernel
theorem dX4_shortest_57 : decode cX4_shortest 57 = .ok (.if_icmp .lt 6, 3) := by decide +kernel
theorem dX4_shortest_60 : decode cX4_shortest 60 = .ok (.bipush (-4), 2) := by decide +kernel
theorem dX4_shortest_62 : decode cX4_shortest 62 = .ok (.ireturn, 1) := by decide +kernel
theorem dX4_shortest_63 : decode cX4_shortest 63 = .ok (.aload_n 0, 1) := by decide +kernel
theorem dX4_shortest_64 : decode cX4_shortest 64 = .ok (.iload_n 1, 1) := by decide +kernel
theorem dX4_shortest_65 : decode cX4_shortest 65 = .ok (.invokevirtual 35, 3) := by decide +kernel
theorem dX4_shortest_68 : decode cX4_shortest 68 = .ok (.iconst 3, 1) := by decide +kernel
theorem dX4_shortest_69 : decode cX4_shortest 69 = .ok (.if_icmp .ne 8, 3) := by decide +kernel
theorem dX4_shortest_72 : decode cX4_shortest 72 = .ok (.iload 4, 2) := by decide +kernel
theorem dX4_shortest_74 : decode cX4_shortest 74 = .ok (.goto 6, 3) := by decide +kernel
theorem dX4_shortest_77 : decode cX4_shortest 77 = .ok (.iload_n 3, 1) := by decide +kernel
theorem dX4_shortest_78 : decode cX4_shortest 78 = .ok (.iconst 1, 1) := by decide +kernel
theorem dX4_shortest_79 : decode cX4_shortest 79 = .ok (.iadd, 1) := by decide +kernel
theorem dX4_shortest_80 : decode cX4_shortest 80 = .ok (.ireturn, 1) := by decide +kernel
theorem dX4_sumOfShortest_0 : decode cX4_sumOfShortest 0 = .ok (.iconst 0, 1) := by decide +kernel
theorem dX4_sumOfShortest_1 : decode cX4_sumOfShortest 1 = .ok (.istore_n 2, 1) := by decide +kernel
theorem dX4_sumOfShortest_2 : decode cX4_sumOfShortest 2 = .ok (.iconst 0, 1) := by decide +kernel
theorem dX4_sumOfShortest_3 : decode cX4_sumOfShortest 3 = .ok (.istore_n 3, 1) := by decide +kernel
theorem dX4_sumOfShortest_4 : decode cX4_sumOfShortest 4 = .ok (.iload_n 3, 1) := by decide +kernel
theorem dX4_sumOfShortest_5 : decode cX4_sumOfShortest 5 = .ok (.aload_n 0, 1) := by decide +kernel
theorem dX4_sumOfShortest_6 : decode cX4_sumOfShortest 6 = .ok (.getfield 21, 3) := by decide +kernel
theorem dX4_sumOfShortest_9 : decode cX4_sumOfShortest 9 = .ok (.if_icmp .ge 40, 3) := by decide +kernel
theorem dX4_sumOfShortest_12 : decode cX4_sumOfShortest 12 = .ok (.iload_n 3, 1) := by decide +kernel
theorem dX4_sumOfShortest_13 : decode cX4_sumOfShortest 13 = .ok (.iload_n 1, 1) := by decide +kernel
theorem dX4_sumOfShortest_14 : decode cX4_sumOfShortest 14 = .ok (.invokestatic 64, 3) := by decide +kernel
theorem dX4_sumOfShortest_17 : decode cX4_sumOfShortest 17 = .ok (.ifCond .eq 26, 3) := by decide +kernel
theorem dX4_sumOfShortest_20 : decode cX4_sumOfShortest 20 = .ok (.aload_n 0, 1) := by decide +kernel
theorem dX4_sumOfShortest_21 : decode cX4_sumOfShortest 21 = .ok (.iload_n 3, 1) := by decide +kernel
theorem dX4_sumOfShortest_22 : decode cX4_sumOfShortest 22 = .ok (.iload_n 1, 1) := by decide +kernel
theorem dX4_sumOfShortest_23 : decode cX4_sumOfShortest 23 = .ok (.invokevirtual 71, 3) := by decide +kernel
theorem dX4_sumOfShortest_26 : decode cX4_sumOfShortest 26 = .ok (.istore 4, 2) := by decide +kernel
theorem dX4_sumOfShortest_28 : decode cX4_sumOfShortest 28 = .ok (.iload 4, 2) := by decide +kernel
theorem dX4_sumOfShortest_30 : decode cX4_sumOfShortest 30 = .ok (.bipush (-4), 2) := by decide +kernel
theorem dX4_sumOfShortest_32 : decode cX4_sumOfShortest 32 = .ok (.if_icmp .ne 6, 3) := by decide +kernel
theorem dX4_sumOfShortest_35 : decode cX4_sumOfShortest 35 = .ok (.bipush (-4), 2) := by decide +kernel
theorem dX4_sumOfShortest_37 : decode cX4_sumOfShortest 37 = .ok (.ireturn, 1) := by decide +kernel
theorem dX4_sumOfShortest_38 : decode cX4_sumOfShortest 38 = .ok (.iload_n 2, 1) := by decide +kernel
theorem dX4_sumOfShortest_39 : decode cX4_sumOfShortest 39 = .ok (.iload 4, 2) := by decide +kernel
theorem dX4_sumOfShortest_41 : decode cX4_sumOfShortest 41 = .ok (.iadd, 1) := by decide +kernel
theorem dX4_sumOfShortest_42 : decode cX4_sumOfShortest 42 = .ok (.istore_n 2, 1) := by decide +kernel
theorem dX4_sumOfShortest_43 : decode cX4_sumOfShortest 43 = .ok (.iinc 3 1, 3) := by decide +kernel
theorem dX4_sumOfShortest_46 : decode cX4_sumOfShortest 46 = .ok (.goto (-42), 3) := by decide +kernel
theorem dX4_sumOfShortest_49 : decode cX4_sumOfShortest 49 = .ok (.iload_n 2, 1) := by decide +kernel
theorem dX4_sumOfShortest_50 : decode cX4_sumOfShortest 50 = .ok (.ireturn, 1) := by decide +kernel
theorem dX4_numberOfShort_0 : decode cX4_numberOfShort 0 = .ok (.iconst 0, 1) := by decide +kernel
theorem dX4_numberOfShort_1 : decode cX4_numberOfShort 1 = .ok (.istore_n 2, 1) := by decide +kernel
theorem dX4_numberOfShort_2 : decode cX4_numberOfShort 2 = .ok (.iconst 0, 1) := by decide +kernel
theorem dX4_numberOfShort_3 : decode cX4_numberOfShort 3 = .ok (.istore_n 3, 1) := by decide +kernel
theorem dX4_numberOfShort_4 : decode cX4_numberOfShort 4 = .ok (.iload_n 3, 1) := by decide +kernel
theorem dX4_numberOfShort_5 : decode cX4_numberOfShort 5 = .ok (.aload_n 0, 1) := by decide +kernel
theorem dX4_numberOfShort_6 : decode cX4_numberOfShort 6 = .ok (.getfield 21, 3) := by decide +kernel
theorem dX4_numberOfShort_9 : decode cX4_numberOfShort 9 = .ok (.if_icmp .ge 31, 3) := by decide +kernel
theorem dX4_numberOfShort_12 : decode cX4_numberOfShort 12 = .ok (.iload_n 3, 1) := by decide +kernel
theorem dX4_numberOfShort_13 : decode cX4_numberOfShort 13 = .ok (.iload_n 1, 1) := by decide +kernel
theorem dX4_numberOfShort_14 : decode cX4_numberOfShort 14 = .ok (.invokestatic 64, 3) := by decide +kernel
theorem dX4_numberOfShort_17 : decode cX4_numberOfShort 17 = .ok (.ifCond .eq 17, 3) := by decide +kernel
theorem dX4_numberOfShort_20 : decode cX4_numberOfShort 20 = .ok (.aload_n 0, 1) := by decide +kernel
theorem dX4_numberOfShort_21 : decode cX4_numberOfShort 21 = .ok (.iload_n 3, 1) := by decide +kernel
theorem dX4_numberOfShort_22 : decode cX4_numberOfShort 22 = .ok (.iload_n 1, 1) := by decide +kernel
theorem dX4_numberOfShort_23 : decode cX4_numberOfShort 23 = .ok (.invokevirtual 71, 3) := by decide +kernel
theorem dX4_numberOfShort_26 : decode cX4_numberOfShort 26 = .ok (.bipush (-4), 2) := by decide +kernel
theorem dX4_numberOfShort_28 : decode cX4_numberOfShort 28 = .ok (.if_icmp .eq 6, 3) := by decide +kernel
theorem dX4_numberOfShort_31 : decode cX4_numberOfShort 31 = .ok (.iinc 2 1, 3) := by decide +kernel
theorem dX4_numberOfShort_34 : decode cX4_numberOfShort 34 = .ok (.iinc 3 1, 3) := by decide +kernel
theorem dX4_numberOfShort_37 : decode cX4_numberOfShort 37 = .ok (.goto (-33), 3) := by decide +kernel
theorem dX4_numberOfShort_40 : decode cX4_numberOfShort 40 = .ok (.iload_n 2, 1) := by decide +kernel
theorem dX4_numberOfShort_41 : decode cX4_numberOfShort 41 = .ok (.ireturn, 1) := by decide +kernel
theorem dX5_init_0 : decode cX5_init 0 = .ok (.aload_n 0, 1) := by decide +kernel
theorem dX5_init_1 : decode cX5_init 1 = .ok (.invokespecial 3, 3) := by decide +kernel
theorem dX5_init_4 : decode cX5_init 4 = .ok (.aload_n 0, 1) := by decide +kernel
theorem dX5_init_5 : decode cX5_init 5 = .ok (.sipush 400, 3) := by decide +kernel
theorem dX5_init_8 : decode cX5_init 8 = .ok (.newarray .byte, 2) := by decide +kernel
theorem dX5_init_10 : decode cX5_init 10 = .ok (.putfield 9, 3) := by decide +kernel
theorem dX5_init_13 : decode cX5_init 13 = .ok (.aload_n 0, 1) := by decide +kernel
theorem dX5_init_14 : decode cX5_init 14 = .ok (.iconst 0, 1) := by decide +kernel
theorem dX5_init_15 : decode cX5_init 15 = .ok (.putfield 15, 3) := by decide +kernel
theorem dX5_init_18 : decode cX5_init 18 = .ok (.aload_n 0, 1) := by decide +kernel
theorem dX5_init_19 : decode cX5_init 19 = .ok (.iconst 0, 1) := by decide +kernel
theorem dX5_init_20 : decode cX5_init 20 = .ok (.putfield 19, 3) := by decide +kernel
theorem dX5_init_23 : decode cX5_init 23 = .ok (.aload_n 0, 1) := by decide +kernel
theorem dX5_init_24 : decode cX5_init 24 = .ok (.bipush 6, 2) := by decide +kernel
theorem dX5_init_26 : decode cX5_init 26 = .ok (.newarray .int, 2) := by decide +kernel
theorem dX5_init_28 : decode cX5_init 28 = .ok (.putfield 22, 3) := by decide +kernel
theorem dX5_init_31 : decode cX5_init 31 = .ok (.return_, 1) := by decide +kernel
theorem dX5_hasRoom_0 : decode cX5_hasRoom 0 = .ok (.iload_n 1, 1) := by decide +kernel
theorem dX5_hasRoom_1 : decode cX5_hasRoom 1 = .ok (.sipush 400, 3) := by decide +kernel
theorem dX5_hasRoom_4 : decode cX5_hasRoom 4 = .ok (.aload_n 0, 1) := by decide +kernel
theorem dX5_hasRoom_5 : decode cX5_hasRoom 5 = .ok (.getfield 15, 3) := by decide +kernel
theorem dX5_hasRoom_8 : decode cX5_hasRoom 8 = .ok (.isub, 1) := by decide +kernel
theorem dX5_hasRoom_9 : decode cX5_hasRoom 9 = .ok (.if_icmp .gt 7, 3) := by decide +kernel
theorem dX5_hasRoom_12 : decode cX5_hasRoom 12 = .ok (.iconst 1, 1) := by decide +kernel
theorem dX5_hasRoom_13 : decode cX5_hasRoom 13 = .ok (.goto 4, 3) := by decide +kernel
theorem dX5_hasRoom_16 : decode cX5_hasRoom 16 = .ok (.iconst 0, 1) := by decide +kernel
theorem dX5_hasRoom_17 : decode cX5_hasRoom 17 = .ok (.ireturn, 1) := by decide +kernel
theorem dX5_put_0 : decode cX5_put 0 = .ok (.iload_n 1, 1) := by decide +kernel
theorem dX5_put_1 : decode cX5_put 1 = .ok (.iconst 1, 1) := by decide +kernel
theorem dX5_put_2 : decode cX5_put 2 = .ok (.isub, 1) := by decide +kernel
theorem dX5_put_3 : decode cX5_put 3 = .ok (.istore 4, 2) := by decide +kernel
theorem dX5_put_5 : decode cX5_put 5 = .ok (.iload 4, 2) := by decide +kernel
theorem dX5_put_7 : decode cX5_put 7 = .ok (.ifCond .lt 47, 3) := by decide +kernel
theorem dX5_put_10 : decode cX5_put 10 = .ok (.aload_n 0, 1) := by decide +kernel
theorem dX5_put_11 : decode cX5_put 11 = .ok (.getfield 15, 3) := by decide +kernel
theorem dX5_put_14 : decode cX5_put 14 = .ok (.sipush 400, 3) := by decide +kernel
theorem dX5_put_17 : decode cX5_put 17 = .ok (.if_icmp .ge 37, 3) := by decide +kernel
theorem dX5_put_20 : decode cX5_put 20 = .ok (.aload_n 0, 1) := by decide +kernel
theorem dX5_put_21 : decode cX5_put 21 = .ok (.getfield 9, 3) := by decide +kernel
theorem dX5_put_24 : decode cX5_put 24 = .ok (.aload_n 0, 1) := by decide +kernel
theorem dX5_put_25 : decode cX5_put 25 = .ok (.getfield 15, 3) := by decide +kernel
theorem dX5_put_28 : decode cX5_put 28 = .ok (.lload_n 2, 1) := by decide +kernel
theorem dX5_put_29 : decode cX5_put 29 = .ok (.bipush 8, 2) := by decide +kernel
