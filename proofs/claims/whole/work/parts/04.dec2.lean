theorem dX5_put_31 : decode cX5_put 31 = .ok (.iload 4, 2) := by decide +kernel
theorem dX5_put_33 : decode cX5_put 33 = .ok (.imul, 1) := by decide +kernel
theorem dX5_put_34 : decode cX5_put 34 = .ok (.lushr, 1) := by decide +kernel
theorem dX5_put_35 : decode cX5_put 35 = .ok (.l2i, 1) := by decide +kernel
theorem dX5_put_36 : decode cX5_put 36 = .ok (.i2b, 1) := by decide +kernel
theorem dX5_put_37 : decode cX5_put 37 = .ok (.bastore, 1) := by decide +kernel
theorem dX5_put_38 : decode cX5_put 38 = .ok (.aload_n 0, 1) := by decide +kernel
theorem dX5_put_39 : decode cX5_put 39 = .ok (.dup, 1) := by decide +kernel
theorem dX5_put_40 : decode cX5_put 40 = .ok (.getfield 15, 3) := by decide +kernel
theorem dX5_put_43 : decode cX5_put 43 = .ok (.iconst 1, 1) := by decide +kernel
theorem dX5_put_44 : decode cX5_put 44 = .ok (.iadd, 1) := by decide +kernel
theorem dX5_put_45 : decode cX5_put 45 = .ok (.putfield 15, 3) := by decide +kernel
theorem dX5_put_48 : decode cX5_put 48 = .ok (.iinc 4 (-1), 3) := by decide +kernel
theorem dX5_put_51 : decode cX5_put 51 = .ok (.goto (-46), 3) := by decide +kernel
theorem dX5_put_54 : decode cX5_put 54 = .ok (.return_, 1) := by decide +kernel
theorem dX5_readInto_0 : decode cX5_readInto 0 = .ok (.aload_n 1, 1) := by decide +kernel
theorem dX5_readInto_1 : decode cX5_readInto 1 = .ok (.invokevirtual 26, 3) := by decide +kernel
theorem dX5_readInto_4 : decode cX5_readInto 4 = .ok (.aload_n 0, 1) := by decide +kernel
theorem dX5_readInto_5 : decode cX5_readInto 5 = .ok (.iconst 0, 1) := by decide +kernel
theorem dX5_readInto_6 : decode cX5_readInto 6 = .ok (.putfield 19, 3) := by decide +kernel
theorem dX5_readInto_9 : decode cX5_readInto 9 = .ok (.iconst 0, 1) := by decide +kernel
theorem dX5_readInto_10 : decode cX5_readInto 10 = .ok (.istore_n 2, 1) := by decide +kernel
theorem dX5_readInto_11 : decode cX5_readInto 11 = .ok (.iload_n 2, 1) := by decide +kernel
theorem dX5_readInto_12 : decode cX5_readInto 12 = .ok (.sipush 400, 3) := by decide +kernel
theorem dX5_readInto_15 : decode cX5_readInto 15 = .ok (.if_icmp .ge 35, 3) := by decide +kernel
theorem dX5_readInto_18 : decode cX5_readInto 18 = .ok (.aload_n 0, 1) := by decide +kernel
theorem dX5_readInto_19 : decode cX5_readInto 19 = .ok (.getfield 19, 3) := by decide +kernel
theorem dX5_readInto_22 : decode cX5_readInto 22 = .ok (.aload_n 0, 1) := by decide +kernel
theorem dX5_readInto_23 : decode cX5_readInto 23 = .ok (.getfield 15, 3) := by decide +kernel
theorem dX5_readInto_26 : decode cX5_readInto 26 = .ok (.if_icmp .ge 24, 3) := by decide +kernel
theorem dX5_readInto_29 : decode cX5_readInto 29 = .ok (.aload_n 0, 1) := by decide +kernel
theorem dX5_readInto_30 : decode cX5_readInto 30 = .ok (.getfield 19, 3) := by decide +kernel
theorem dX5_readInto_33 : decode cX5_readInto 33 = .ok (.istore_n 3, 1) := by decide +kernel
theorem dX5_readInto_34 : decode cX5_readInto 34 = .ok (.aload_n 0, 1) := by decide +kernel
theorem dX5_readInto_35 : decode cX5_readInto 35 = .ok (.aload_n 1, 1) := by decide +kernel
theorem dX5_readInto_36 : decode cX5_readInto 36 = .ok (.invokevirtual 31, 3) := by decide +kernel
theorem dX5_readInto_39 : decode cX5_readInto 39 = .ok (.ifCond .ne 5, 3) := by decide +kernel
theorem dX5_readInto_42 : decode cX5_readInto 42 = .ok (.iload_n 3, 1) := by decide +kernel
theorem dX5_readInto_43 : decode cX5_readInto 43 = .ok (.ireturn, 1) := by decide +kernel
theorem dX5_readInto_44 : decode cX5_readInto 44 = .ok (.iinc 2 1, 3) := by decide +kernel
theorem dX5_readInto_47 : decode cX5_readInto 47 = .ok (.goto (-36), 3) := by decide +kernel
theorem dX5_readInto_50 : decode cX5_readInto 50 = .ok (.bipush (-4), 2) := by decide +kernel
theorem dX5_readInto_52 : decode cX5_readInto 52 = .ok (.ireturn, 1) := by decide +kernel
theorem dX5_readItem_0 : decode cX5_readItem 0 = .ok (.aload_n 0, 1) := by decide +kernel
theorem dX5_readItem_1 : decode cX5_readItem 1 = .ok (.invokevirtual 35, 3) := by decide +kernel
theorem dX5_readItem_4 : decode cX5_readItem 4 = .ok (.istore_n 2, 1) := by decide +kernel
theorem dX5_readItem_5 : decode cX5_readItem 5 = .ok (.aload_n 0, 1) := by decide +kernel
theorem dX5_readItem_6 : decode cX5_readItem 6 = .ok (.dup, 1) := by decide +kernel
theorem dX5_readItem_7 : decode cX5_readItem 7 = .ok (.getfield 19, 3) := by decide +kernel
theorem dX5_readItem_10 : decode cX5_readItem 10 = .ok (.iconst 1, 1) := by decide +kernel
theorem dX5_readItem_11 : decode cX5_readItem 11 = .ok (.iadd, 1) := by decide +kernel
theorem dX5_readItem_12 : decode cX5_readItem 12 = .ok (.putfield 19, 3) := by decide +kernel
theorem dX5_readItem_15 : decode cX5_readItem 15 = .ok (.iload_n 2, 1) := by decide +kernel
theorem dX5_readItem_16 : decode cX5_readItem 16 = .ok (.tableswitch 124 98 115 #[112, 124, 124, 124, 124, 124, 124, 124, 124, 100, 94, 118, 88, 124, 124, 124, 124, 106], 88) := by decide +kernel
theorem dX5_readItem_104 : decode cX5_readItem 104 = .ok (.aload_n 0, 1) := by decide +kernel
theorem dX5_readItem_105 : decode cX5_readItem 105 = .ok (.aload_n 1, 1) := by decide +kernel
theorem dX5_readItem_106 : decode cX5_readItem 106 = .ok (.invokevirtual 39, 3) := by decide +kernel
theorem dX5_readItem_109 : decode cX5_readItem 109 = .ok (.ireturn, 1) := by decide +kernel
theorem dX5_readItem_110 : decode cX5_readItem 110 = .ok (.aload_n 0, 1) := by decide +kernel
theorem dX5_readItem_111 : decode cX5_readItem 111 = .ok (.aload_n 1, 1) := by decide +kernel
theorem dX5_readItem_112 : decode cX5_readItem 112 = .ok (.invokevirtual 42, 3) := by decide +kernel
theorem dX5_readItem_115 : decode cX5_readItem 115 = .ok (.ireturn, 1) := by decide +kernel
theorem dX5_readItem_116 : decode cX5_readItem 116 = .ok (.aload_n 0, 1) := by decide +kernel
theorem dX5_readItem_117 : decode cX5_readItem 117 = .ok (.aload_n 1, 1) := by decide +kernel
theorem dX5_readItem_118 : decode cX5_readItem 118 = .ok (.invokevirtual 45, 3) := by decide +kernel
theorem dX5_readItem_121 : decode cX5_readItem 121 = .ok (.ireturn, 1) := by decide +kernel
theorem dX5_readItem_122 : decode cX5_readItem 122 = .ok (.aload_n 0, 1) := by decide +kernel
theorem dX5_readItem_123 : decode cX5_readItem 123 = .ok (.aload_n 1, 1) := by decide +kernel
theorem dX5_readItem_124 : decode cX5_readItem 124 = .ok (.invokevirtual 48, 3) := by decide +kernel
theorem dX5_readItem_127 : decode cX5_readItem 127 = .ok (.ireturn, 1) := by decide +kernel
theorem dX5_readItem_128 : decode cX5_readItem 128 = .ok (.aload_n 0, 1) := by decide +kernel
theorem dX5_readItem_129 : decode cX5_readItem 129 = .ok (.aload_n 1, 1) := by decide +kernel
theorem dX5_readItem_130 : decode cX5_readItem 130 = .ok (.invokevirtual 51, 3) := by decide +kernel
theorem dX5_readItem_133 : decode cX5_readItem 133 = .ok (.ireturn, 1) := by decide +kernel
theorem dX5_readItem_134 : decode cX5_readItem 134 = .ok (.aload_n 0, 1) := by decide +kernel
theorem dX5_readItem_135 : decode cX5_readItem 135 = .ok (.aload_n 1, 1) := by decide +kernel
theorem dX5_readItem_136 : decode cX5_readItem 136 = .ok (.invokevirtual 54, 3) := by decide +kernel
theorem dX5_readItem_139 : decode cX5_readItem 139 = .ok (.ireturn, 1) := by decide +kernel
theorem dX5_readItem_140 : decode cX5_readItem 140 = .ok (.iconst 0, 1) := by decide +kernel
theorem dX5_readItem_141 : decode cX5_readItem 141 = .ok (.ireturn, 1) := by decide +kernel
theorem dX5_readPerson_0 : decode cX5_readPerson 0 = .ok (.aload_n 0, 1) := by decide +kernel
theorem dX5_readPerson_1 : decode cX5_readPerson 1 = .ok (.iconst 0, 1) := by decide +kernel
theorem dX5_readPerson_2 : decode cX5_readPerson 2 = .ok (.iconst 3, 1) := by decide +kernel
theorem dX5_readPerson_3 : decode cX5_readPerson 3 = .ok (.bipush 44, 2) := by decide +kernel
theorem dX5_readPerson_5 : decode cX5_readPerson 5 = .ok (.invokevirtual 57, 3) := by decide +kernel
theorem dX5_readPerson_8 : decode cX5_readPerson 8 = .ok (.istore_n 2, 1) := by decide +kernel
theorem dX5_readPerson_9 : decode cX5_readPerson 9 = .ok (.iload_n 2, 1) := by decide +kernel
theorem dX5_readPerson_10 : decode cX5_readPerson 10 = .ok (.iconst (-1), 1) := by decide +kernel
theorem dX5_readPerson_11 : decode cX5_readPerson 11 = .ok (.if_icmp .ne 5, 3) := by decide +kernel
theorem dX5_readPerson_14 : decode cX5_readPerson 14 = .ok (.iconst 0, 1) := by decide +kernel
theorem dX5_readPerson_15 : decode cX5_readPerson 15 = .ok (.ireturn, 1) := by decide +kernel
theorem dX5_readPerson_16 : decode cX5_readPerson 16 = .ok (.aload_n 0, 1) := by decide +kernel
theorem dX5_readPerson_17 : decode cX5_readPerson 17 = .ok (.invokevirtual 61, 3) := by decide +kernel
theorem dX5_readPerson_20 : decode cX5_readPerson 20 = .ok (.istore_n 3, 1) := by decide +kernel
theorem dX5_readPerson_21 : decode cX5_readPerson 21 = .ok (.iload_n 3, 1) := by decide +kernel
theorem dX5_readPerson_22 : decode cX5_readPerson 22 = .ok (.iconst (-1), 1) := by decide +kernel
theorem dX5_readPerson_23 : decode cX5_readPerson 23 = .ok (.if_icmp .ne 5, 3) := by decide +kernel
theorem dX5_readPerson_26 : decode cX5_readPerson 26 = .ok (.iconst 0, 1) := by decide +kernel
theorem dX5_readPerson_27 : decode cX5_readPerson 27 = .ok (.ireturn, 1) := by decide +kernel
theorem dX5_readPerson_28 : decode cX5_readPerson 28 = .ok (.aload_n 0, 1) := by decide +kernel
theorem dX5_readPerson_29 : decode cX5_readPerson 29 = .ok (.iconst 0, 1) := by decide +kernel
theorem dX5_readPerson_30 : decode cX5_readPerson 30 = .ok (.bipush 99, 2) := by decide +kernel
theorem dX5_readPerson_32 : decode cX5_readPerson 32 = .ok (.bipush 44, 2) := by decide +kernel
theorem dX5_readPerson_34 : decode cX5_readPerson 34 = .ok (.invokevirtual 57, 3) := by decide +kernel
theorem dX5_readPerson_37 : decode cX5_readPerson 37 = .ok (.istore 4, 2) := by decide +kernel
theorem dX5_readPerson_39 : decode cX5_readPerson 39 = .ok (.iload 4, 2) := by decide +kernel
theorem dX5_readPerson_41 : decode cX5_readPerson 41 = .ok (.iconst (-1), 1) := by decide +kernel
theorem dX5_readPerson_42 : decode cX5_readPerson 42 = .ok (.if_icmp .ne 5, 3) := by decide +kernel
theorem dX5_readPerson_45 : decode cX5_readPerson 45 = .ok (.iconst 0, 1) := by decide +kernel
theorem dX5_readPerson_46 : decode cX5_readPerson 46 = .ok (.ireturn, 1) := by decide +kernel
theorem dX5_readPerson_47 : decode cX5_readPerson 47 = .ok (.aload_n 0, 1) := by decide +kernel
theorem dX5_readPerson_48 : decode cX5_readPerson 48 = .ok (.iconst 0, 1) := by decide +kernel
theorem dX5_readPerson_49 : decode cX5_readPerson 49 = .ok (.bipush 9, 2) := by decide +kernel
theorem dX5_readPerson_51 : decode cX5_readPerson 51 = .ok (.bipush 59, 2) := by decide +kernel
theorem dX5_readPerson_53 : decode cX5_readPerson 53 = .ok (.invokevirtual 57, 3) := by decide +kernel
theorem dX5_readPerson_56 : decode cX5_readPerson 56 = .ok (.istore 5, 2) := by decide +kernel
theorem dX5_readPerson_58 : decode cX5_readPerson 58 = .ok (.iload 5, 2) := by decide +kernel
theorem dX5_readPerson_60 : decode cX5_readPerson 60 = .ok (.iconst (-1), 1) := by decide +kernel
theorem dX5_readPerson_61 : decode cX5_readPerson 61 = .ok (.if_icmp .eq 24, 3) := by decide +kernel
theorem dX5_readPerson_64 : decode cX5_readPerson 64 = .ok (.aload_n 1, 1) := by decide +kernel
theorem dX5_readPerson_65 : decode cX5_readPerson 65 = .ok (.iload_n 2, 1) := by decide +kernel
theorem dX5_readPerson_66 : decode cX5_readPerson 66 = .ok (.aload_n 0, 1) := by decide +kernel
theorem dX5_readPerson_67 : decode cX5_readPerson 67 = .ok (.getfield 22, 3) := by decide +kernel
theorem dX5_readPerson_70 : decode cX5_readPerson 70 = .ok (.iload_n 3, 1) := by decide +kernel
theorem dX5_readPerson_71 : decode cX5_readPerson 71 = .ok (.iload 4, 2) := by decide +kernel
theorem dX5_readPerson_73 : decode cX5_readPerson 73 = .ok (.iload 5, 2) := by decide +kernel
theorem dX5_readPerson_75 : decode cX5_readPerson 75 = .ok (.invokevirtual 64, 3) := by decide +kernel
theorem dX5_readPerson_78 : decode cX5_readPerson 78 = .ok (.ifCond .eq 7, 3) := by decide +kernel
theorem dX5_readPerson_81 : decode cX5_readPerson 81 = .ok (.iconst 1, 1) := by decide +kernel
theorem dX5_readPerson_82 : decode cX5_readPerson 82 = .ok (.goto 4, 3) := by decide +kernel
theorem dX5_readPerson_85 : decode cX5_readPerson 85 = .ok (.iconst 0, 1) := by decide +kernel
theorem dX5_readPerson_86 : decode cX5_readPerson 86 = .ok (.ireturn, 1) := by decide +kernel
theorem dX5_readWorth_0 : decode cX5_readWorth 0 = .ok (.aload_n 0, 1) := by decide +kernel
theorem dX5_readWorth_1 : decode cX5_readWorth 1 = .ok (.iconst 0, 1) := by decide +kernel
theorem dX5_readWorth_2 : decode cX5_readWorth 2 = .ok (.iconst 5, 1) := by decide +kernel
theorem dX5_readWorth_3 : decode cX5_readWorth 3 = .ok (.bipush 44, 2) := by decide +kernel
theorem dX5_readWorth_5 : decode cX5_readWorth 5 = .ok (.invokevirtual 57, 3) := by decide +kernel
theorem dX5_readWorth_8 : decode cX5_readWorth 8 = .ok (.istore_n 2, 1) := by decide +kernel
theorem dX5_readWorth_9 : decode cX5_readWorth 9 = .ok (.iload_n 2, 1) := by decide +kernel
theorem dX5_readWorth_10 : decode cX5_readWorth 10 = .ok (.iconst (-1), 1) := by decide +kernel
theorem dX5_readWorth_11 : decode cX5_readWorth 11 = .ok (.if_icmp .ne 5, 3) := by decide +kernel
theorem dX5_readWorth_14 : decode cX5_readWorth 14 = .ok (.iconst 0, 1) := by decide +kernel
theorem dX5_readWorth_15 : decode cX5_readWorth 15 = .ok (.ireturn, 1) := by decide +kernel
theorem dX5_readWorth_16 : decode cX5_readWorth 16 = .ok (.aload_n 0, 1) := by decide +kernel
theorem dX5_readWorth_17 : decode cX5_readWorth 17 = .ok (.iconst 0, 1) := by decide +kernel
theorem dX5_readWorth_18 : decode cX5_readWorth 18 = .ok (.iconst 5, 1) := by decide +kernel
theorem dX5_readWorth_19 : decode cX5_readWorth 19 = .ok (.bipush 59, 2) := by decide +kernel
theorem dX5_readWorth_21 : decode cX5_readWorth 21 = .ok (.invokevirtual 57, 3) := by decide +kernel
theorem dX5_readWorth_24 : decode cX5_readWorth 24 = .ok (.istore_n 3, 1) := by decide +kernel
theorem dX5_readWorth_25 : decode cX5_readWorth 25 = .ok (.iload_n 3, 1) := by decide +kernel
theorem dX5_readWorth_26 : decode cX5_readWorth 26 = .ok (.iconst (-1), 1) := by decide +kernel
theorem dX5_readWorth_27 : decode cX5_readWorth 27 = .ok (.if_icmp .ne 5, 3) := by decide +kernel
theorem dX5_readWorth_30 : decode cX5_readWorth 30 = .ok (.iconst 0, 1) := by decide +kernel
theorem dX5_readWorth_31 : decode cX5_readWorth 31 = .ok (.ireturn, 1) := by decide +kernel
theorem dX5_readWorth_32 : decode cX5_readWorth 32 = .ok (.aload_n 1, 1) := by decide +kernel
theorem dX5_readWorth_33 : decode cX5_readWorth 33 = .ok (.getfield 68, 3) := by decide +kernel
theorem dX5_readWorth_36 : decode cX5_readWorth 36 = .ok (.iload_n 2, 1) := by decide +kernel
theorem dX5_readWorth_37 : decode cX5_readWorth 37 = .ok (.iload_n 3, 1) := by decide +kernel
theorem dX5_readWorth_38 : decode cX5_readWorth 38 = .ok (.iastore, 1) := by decide +kernel
theorem dX5_readWorth_39 : decode cX5_readWorth 39 = .ok (.iconst 1, 1) := by decide +kernel
theorem dX5_readWorth_40 : decode cX5_readWorth 40 = .ok (.ireturn, 1) := by decide +kernel
theorem dX5_readShame_0 : decode cX5_readShame 0 = .ok (.aload_n 0, 1) := by decide +kernel
theorem dX5_readShame_1 : decode cX5_readShame 1 = .ok (.iconst 0, 1) := by decide +kernel
theorem dX5_readShame_2 : decode cX5_readShame 2 = .ok (.iconst 5, 1) := by decide +kernel
theorem dX5_readShame_3 : decode cX5_readShame 3 = .ok (.bipush 59, 2) := by decide +kernel
theorem dX5_readShame_5 : decode cX5_readShame 5 = .ok (.invokevirtual 57, 3) := by decide +kernel
theorem dX5_readShame_8 : decode cX5_readShame 8 = .ok (.istore_n 2, 1) := by decide +kernel
theorem dX5_readShame_9 : decode cX5_readShame 9 = .ok (.iload_n 2, 1) := by decide +kernel
theorem dX5_readShame_10 : decode cX5_readShame 10 = .ok (.iconst (-1), 1) := by decide +kernel
theorem dX5_readShame_11 : decode cX5_readShame 11 = .ok (.if_icmp .ne 5, 3) := by decide +kernel
theorem dX5_readShame_14 : decode cX5_readShame 14 = .ok (.iconst 0, 1) := by decide +kernel
theorem dX5_readShame_15 : decode cX5_readShame 15 = .ok (.ireturn, 1) := by decide +kernel
theorem dX5_readShame_16 : decode cX5_readShame 16 = .ok (.aload_n 1, 1) := by decide +kernel
theorem dX5_readShame_17 : decode cX5_readShame 17 = .ok (.getfield 71, 3) := by decide +kernel
theorem dX5_readShame_20 : decode cX5_readShame 20 = .ok (.iload_n 2, 1) := by decide +kernel
theorem dX5_readShame_21 : decode cX5_readShame 21 = .ok (.iconst 1, 1) := by decide +kernel
theorem dX5_readShame_22 : decode cX5_readShame 22 = .ok (.bastore, 1) := by decide +kernel
theorem dX5_readShame_23 : decode cX5_readShame 23 = .ok (.iconst 1, 1) := by decide +kernel
theorem dX5_readShame_24 : decode cX5_readShame 24 = .ok (.ireturn, 1) := by decide +kernel
theorem dX5_readBeats_0 : decode cX5_readBeats 0 = .ok (.aload_n 0, 1) := by decide +kernel
theorem dX5_readBeats_1 : decode cX5_readBeats 1 = .ok (.iconst 0, 1) := by decide +kernel
theorem dX5_readBeats_2 : decode cX5_readBeats 2 = .ok (.iconst 5, 1) := by decide +kernel
theorem dX5_readBeats_3 : decode cX5_readBeats 3 = .ok (.bipush 44, 2) := by decide +kernel
theorem dX5_readBeats_5 : decode cX5_readBeats 5 = .ok (.invokevirtual 57, 3) := by decide +kernel
theorem dX5_readBeats_8 : decode cX5_readBeats 8 = .ok (.istore_n 2, 1) := by decide +kernel
theorem dX5_readBeats_9 : decode cX5_readBeats 9 = .ok (.iload_n 2, 1) := by decide +kernel
theorem dX5_readBeats_10 : decode cX5_readBeats 10 = .ok (.iconst (-1), 1) := by decide +kernel
theorem dX5_readBeats_11 : decode cX5_readBeats 11 = .ok (.if_icmp .ne 5, 3) := by decide +kernel
theorem dX5_readBeats_14 : decode cX5_readBeats 14 = .ok (.iconst 0, 1) := by decide +kernel
theorem dX5_readBeats_15 : decode cX5_readBeats 15 = .ok (.ireturn, 1) := by decide +kernel
theorem dX5_readBeats_16 : decode cX5_readBeats 16 = .ok (.aload_n 0, 1) := by decide +kernel
theorem dX5_readBeats_17 : decode cX5_readBeats 17 = .ok (.iconst 1, 1) := by decide +kernel
theorem dX5_readBeats_18 : decode cX5_readBeats 18 = .ok (.bipush 9, 2) := by decide +kernel
theorem dX5_readBeats_20 : decode cX5_readBeats 20 = .ok (.bipush 59, 2) := by decide +kernel
theorem dX5_readBeats_22 : decode cX5_readBeats 22 = .ok (.invokevirtual 57, 3) := by decide +kernel
theorem dX5_readBeats_25 : decode cX5_readBeats 25 = .ok (.istore_n 3, 1) := by decide +kernel
theorem dX5_readBeats_26 : decode cX5_readBeats 26 = .ok (.iload_n 3, 1) := by decide +kernel
theorem dX5_readBeats_27 : decode cX5_readBeats 27 = .ok (.iconst (-1), 1) := by decide +kernel
theorem dX5_readBeats_28 : decode cX5_readBeats 28 = .ok (.if_icmp .ne 5, 3) := by decide +kernel
theorem dX5_readBeats_31 : decode cX5_readBeats 31 = .ok (.iconst 0, 1) := by decide +kernel
theorem dX5_readBeats_32 : decode cX5_readBeats 32 = .ok (.ireturn, 1) := by decide +kernel
theorem dX5_readBeats_33 : decode cX5_readBeats 33 = .ok (.aload_n 1, 1) := by decide +kernel
theorem dX5_readBeats_34 : decode cX5_readBeats 34 = .ok (.getfield 75, 3) := by decide +kernel
theorem dX5_readBeats_37 : decode cX5_readBeats 37 = .ok (.iload_n 2, 1) := by decide +kernel
theorem dX5_readBeats_38 : decode cX5_readBeats 38 = .ok (.iload_n 3, 1) := by decide +kernel
theorem dX5_readBeats_39 : decode cX5_readBeats 39 = .ok (.iastore, 1) := by decide +kernel
theorem dX5_readBeats_40 : decode cX5_readBeats 40 = .ok (.iconst 1, 1) := by decide +kernel
theorem dX5_readBeats_41 : decode cX5_readBeats 41 = .ok (.ireturn, 1) := by decide +kernel
theorem dX5_readBreath_0 : decode cX5_readBreath 0 = .ok (.aload_n 0, 1) := by decide +kernel
theorem dX5_readBreath_1 : decode cX5_readBreath 1 = .ok (.iconst 1, 1) := by decide +kernel
theorem dX5_readBreath_2 : decode cX5_readBreath 2 = .ok (.bipush 12, 2) := by decide +kernel
theorem dX5_readBreath_4 : decode cX5_readBreath 4 = .ok (.bipush 44, 2) := by decide +kernel
theorem dX5_readBreath_6 : decode cX5_readBreath 6 = .ok (.invokevirtual 57, 3) := by decide +kernel
theorem dX5_readBreath_9 : decode cX5_readBreath 9 = .ok (.istore_n 2, 1) := by decide +kernel
theorem dX5_readBreath_10 : decode cX5_readBreath 10 = .ok (.iload_n 2, 1) := by decide +kernel
theorem dX5_readBreath_11 : decode cX5_readBreath 11 = .ok (.iconst (-1), 1) := by decide +kernel
theorem dX5_readBreath_12 : decode cX5_readBreath 12 = .ok (.if_icmp .ne 5, 3) := by decide +kernel
theorem dX5_readBreath_15 : decode cX5_readBreath 15 = .ok (.iconst 0, 1) := by decide +kernel
theorem dX5_readBreath_16 : decode cX5_readBreath 16 = .ok (.ireturn, 1) := by decide +kernel
theorem dX5_readBreath_17 : decode cX5_readBreath 17 = .ok (.aload_n 0, 1) := by decide +kernel
theorem dX5_readBreath_18 : decode cX5_readBreath 18 = .ok (.iconst 0, 1) := by decide +kernel
theorem dX5_readBreath_19 : decode cX5_readBreath 19 = .ok (.bipush 20, 2) := by decide +kernel
theorem dX5_readBreath_21 : decode cX5_readBreath 21 = .ok (.bipush 59, 2) := by decide +kernel
theorem dX5_readBreath_23 : decode cX5_readBreath 23 = .ok (.invokevirtual 57, 3) := by decide +kernel
theorem dX5_readBreath_26 : decode cX5_readBreath 26 = .ok (.istore_n 3, 1) := by decide +kernel
theorem dX5_readBreath_27 : decode cX5_readBreath 27 = .ok (.iload_n 3, 1) := by decide +kernel
theorem dX5_readBreath_28 : decode cX5_readBreath 28 = .ok (.iconst (-1), 1) := by decide +kernel
theorem dX5_readBreath_29 : decode cX5_readBreath 29 = .ok (.if_icmp .ne 5, 3) := by decide +kernel
theorem dX5_readBreath_32 : decode cX5_readBreath 32 = .ok (.iconst 0, 1) := by decide +kernel
theorem dX5_readBreath_33 : decode cX5_readBreath 33 = .ok (.ireturn, 1) := by decide +kernel
theorem dX5_readBreath_34 : decode cX5_readBreath 34 = .ok (.aload_n 1, 1) := by decide +kernel
theorem dX5_readBreath_35 : decode cX5_readBreath 35 = .ok (.iload_n 2, 1) := by decide +kernel
theorem dX5_readBreath_36 : decode cX5_readBreath 36 = .ok (.putfield 78, 3) := by decide +kernel
theorem dX5_readBreath_39 : decode cX5_readBreath 39 = .ok (.aload_n 1, 1) := by decide +kernel
theorem dX5_readBreath_40 : decode cX5_readBreath 40 = .ok (.iload_n 3, 1) := by decide +kernel
theorem dX5_readBreath_41 : decode cX5_readBreath 41 = .ok (.putfield 81, 3) := by decide +kernel
theorem dX5_readBreath_44 : decode cX5_readBreath 44 = .ok (.iconst 1, 1) := by decide +kernel
theorem dX5_readBreath_45 : decode cX5_readBreath 45 = .ok (.ireturn, 1) := by decide +kernel
theorem dX5_readMisheard_0 : decode cX5_readMisheard 0 = .ok (.aload_n 0, 1) := by decide +kernel
theorem dX5_readMisheard_1 : decode cX5_readMisheard 1 = .ok (.iconst 0, 1) := by decide +kernel
theorem dX5_readMisheard_2 : decode cX5_readMisheard 2 = .ok (.bipush 9, 2) := by decide +kernel
theorem dX5_readMisheard_4 : decode cX5_readMisheard 4 = .ok (.bipush 59, 2) := by decide +kernel
theorem dX5_readMisheard_6 : decode cX5_readMisheard 6 = .ok (.invokevirtual 57, 3) := by decide +kernel
theorem dX5_readMisheard_9 : decode cX5_readMisheard 9 = .ok (.istore_n 2, 1) := by decide +kernel
theorem dX5_readMisheard_10 : decode cX5_readMisheard 10 = .ok (.iload_n 2, 1) := by decide +kernel
theorem dX5_readMisheard_11 : decode cX5_readMisheard 11 = .ok (.iconst (-1), 1) := by decide +kernel
theorem dX5_readMisheard_12 : decode cX5_readMisheard 12 = .ok (.if_icmp .ne 5, 3) := by decide +kernel
theorem dX5_readMisheard_15 : decode cX5_readMisheard 15 = .ok (.iconst 0, 1) := by decide +kernel
theorem dX5_readMisheard_16 : decode cX5_readMisheard 16 = .ok (.ireturn, 1) := by decide +kernel
theorem dX5_readMisheard_17 : decode cX5_readMisheard 17 = .ok (.aload_n 1, 1) := by decide +kernel
theorem dX5_readMisheard_18 : decode cX5_readMisheard 18 = .ok (.iload_n 2, 1) := by decide +kernel
theorem dX5_readMisheard_19 : decode cX5_readMisheard 19 = .ok (.putfield 84, 3) := by decide +kernel
theorem dX5_readMisheard_22 : decode cX5_readMisheard 22 = .ok (.iconst 1, 1) := by decide +kernel
theorem dX5_readMisheard_23 : decode cX5_readMisheard 23 = .ok (.ireturn, 1) := by decide +kernel
theorem dX5_here_0 : decode cX5_here 0 = .ok (.aload_n 0, 1) := by decide +kernel
theorem dX5_here_1 : decode cX5_here 1 = .ok (.getfield 19, 3) := by decide +kernel
theorem dX5_here_4 : decode cX5_here 4 = .ok (.iconst 0, 1) := by decide +kernel
theorem dX5_here_5 : decode cX5_here 5 = .ok (.aload_n 0, 1) := by decide +kernel
theorem dX5_here_6 : decode cX5_here 6 = .ok (.getfield 15, 3) := by decide +kernel
theorem dX5_here_9 : decode cX5_here 9 = .ok (.iconst 1, 1) := by decide +kernel
theorem dX5_here_10 : decode cX5_here 10 = .ok (.isub, 1) := by decide +kernel
theorem dX5_here_11 : decode cX5_here 11 = .ok (.invokestatic 87, 3) := by decide +kernel
theorem dX5_here_14 : decode cX5_here 14 = .ok (.ifCond .eq 19, 3) := by decide +kernel
theorem dX5_here_17 : decode cX5_here 17 = .ok (.aload_n 0, 1) := by decide +kernel
theorem dX5_here_18 : decode cX5_here 18 = .ok (.getfield 9, 3) := by decide +kernel
theorem dX5_here_21 : decode cX5_here 21 = .ok (.aload_n 0, 1) := by decide +kernel
theorem dX5_here_22 : decode cX5_here 22 = .ok (.getfield 19, 3) := by decide +kernel
theorem dX5_here_25 : decode cX5_here 25 = .ok (.baload, 1) := by decide +kernel
theorem dX5_here_26 : decode cX5_here 26 = .ok (.sipush 255, 3) := by decide +kernel
theorem dX5_here_29 : decode cX5_here 29 = .ok (.iand, 1) := by decide +kernel
theorem dX5_here_30 : decode cX5_here 30 = .ok (.goto 4, 3) := by decide +kernel
theorem dX5_here_33 : decode cX5_here 33 = .ok (.iconst (-1), 1) := by decide +kernel
theorem dX5_here_34 : decode cX5_here 34 = .ok (.ireturn, 1) := by decide +kernel
theorem dX5_number_0 : decode cX5_number 0 = .ok (.iconst 0, 1) := by decide +kernel
theorem dX5_number_1 : decode cX5_number 1 = .ok (.istore 4, 2) := by decide +kernel
theorem dX5_number_3 : decode cX5_number 3 = .ok (.iconst 0, 1) := by decide +kernel
theorem dX5_number_4 : decode cX5_number 4 = .ok (.istore 5, 2) := by decide +kernel
theorem dX5_number_6 : decode cX5_number 6 = .ok (.iload 5, 2) := by decide +kernel
theorem dX5_number_8 : decode cX5_number 8 = .ok (.iconst 3, 1) := by decide +kernel
theorem dX5_number_9 : decode cX5_number 9 = .ok (.if_icmp .ge 48, 3) := by decide +kernel
theorem dX5_number_12 : decode cX5_number 12 = .ok (.aload_n 0, 1) := by decide +kernel
theorem dX5_number_13 : decode cX5_number 13 = .ok (.invokevirtual 35, 3) := by decide +kernel
theorem dX5_number_16 : decode cX5_number 16 = .ok (.bipush 48, 2) := by decide +kernel
theorem dX5_number_18 : decode cX5_number 18 = .ok (.bipush 57, 2) := by decide +kernel
theorem dX5_number_20 : decode cX5_number 20 = .ok (.invokestatic 87, 3) := by decide +kernel
theorem dX5_number_23 : decode cX5_number 23 = .ok (.ifCond .eq 34, 3) := by decide +kernel
theorem dX5_number_26 : decode cX5_number 26 = .ok (.iload 4, 2) := by decide +kernel
theorem dX5_number_28 : decode cX5_number 28 = .ok (.bipush 10, 2) := by decide +kernel
theorem dX5_number_30 : decode cX5_number 30 = .ok (.imul, 1) := by decide +kernel
theorem dX5_number_31 : decode cX5_number 31 = .ok (.aload_n 0, 1) := by decide +kernel
theorem dX5_number_32 : decode cX5_number 32 = .ok (.invokevirtual 35, 3) := by decide +kernel
theorem dX5_number_35 : decode cX5_number 35 = .ok (.iadd, 1) := by decide +kernel
theorem dX5_number_36 : decode cX5_number 36 = .ok (.bipush 48, 2) := by decide +kernel
theorem dX5_number_38 : decode cX5_number 38 = .ok (.isub, 1) := by decide +kernel
theorem dX5_number_39 : decode cX5_number 39 = .ok (.istore 4, 2) := by decide +kernel
theorem dX5_number_41 : decode cX5_number 41 = .ok (.iinc 5 1, 3) := by decide +kernel
theorem dX5_number_44 : decode cX5_number 44 = .ok (.aload_n 0, 1) := by decide +kernel
theorem dX5_number_45 : decode cX5_number 45 = .ok (.dup, 1) := by decide +kernel
theorem dX5_number_46 : decode cX5_number 46 = .ok (.getfield 19, 3) := by decide +kernel
theorem dX5_number_49 : decode cX5_number 49 = .ok (.iconst 1, 1) := by decide +kernel
theorem dX5_number_50 : decode cX5_number 50 = .ok (.iadd, 1) := by decide +kernel
theorem dX5_number_51 : decode cX5_number 51 = .ok (.putfield 19, 3) := by decide +kernel
theorem dX5_number_54 : decode cX5_number 54 = .ok (.goto (-48), 3) := by decide +kernel
theorem dX5_number_57 : decode cX5_number 57 = .ok (.iload 5, 2) := by decide +kernel
theorem dX5_number_59 : decode cX5_number 59 = .ok (.ifCond .eq 21, 3) := by decide +kernel
theorem dX5_number_62 : decode cX5_number 62 = .ok (.aload_n 0, 1) := by decide +kernel
theorem dX5_number_63 : decode cX5_number 63 = .ok (.invokevirtual 35, 3) := by decide +kernel
theorem dX5_number_66 : decode cX5_number 66 = .ok (.iload_n 3, 1) := by decide +kernel
theorem dX5_number_67 : decode cX5_number 67 = .ok (.if_icmp .ne 13, 3) := by decide +kernel
theorem dX5_number_70 : decode cX5_number 70 = .ok (.iload 4, 2) := by decide +kernel
theorem dX5_number_72 : decode cX5_number 72 = .ok (.iload_n 1, 1) := by decide +kernel
theorem dX5_number_73 : decode cX5_number 73 = .ok (.iload_n 2, 1) := by decide +kernel
theorem dX5_number_74 : decode cX5_number 74 = .ok (.invokestatic 87, 3) := by decide +kernel
theorem dX5_number_77 : decode cX5_number 77 = .ok (.ifCond .ne 5, 3) := by decide +kernel
theorem dX5_number_80 : decode cX5_number 80 = .ok (.iconst (-1), 1) := by decide +kernel
theorem dX5_number_81 : decode cX5_number 81 = .ok (.ireturn, 1) := by decide +kernel
theorem dX5_number_82 : decode cX5_number 82 = .ok (.aload_n 0, 1) := by decide +kernel
theorem dX5_number_83 : decode cX5_number 83 = .ok (.dup, 1) := by decide +kernel
theorem dX5_number_84 : decode cX5_number 84 = .ok (.getfield 19, 3) := by decide +kernel
theorem dX5_number_87 : decode cX5_number 87 = .ok (.iconst 1, 1) := by decide +kernel
theorem dX5_number_88 : decode cX5_number 88 = .ok (.iadd, 1) := by decide +kernel
theorem dX5_number_89 : decode cX5_number 89 = .ok (.putfield 19, 3) := by decide +kernel
theorem dX5_number_92 : decode cX5_number 92 = .ok (.iload 4, 2) := by decide +kernel
theorem dX5_number_94 : decode cX5_number 94 = .ok (.ireturn, 1) := by decide +kernel
theorem dX5_readName_0 : decode cX5_readName 0 = .ok (.iconst 0, 1) := by decide +kernel
theorem dX5_readName_1 : decode cX5_readName 1 = .ok (.istore_n 1, 1) := by decide +kernel
theorem dX5_readName_2 : decode cX5_readName 2 = .ok (.iload_n 1, 1) := by decide +kernel
theorem dX5_readName_3 : decode cX5_readName 3 = .ok (.bipush 6, 2) := by decide +kernel
theorem dX5_readName_5 : decode cX5_readName 5 = .ok (.if_icmp .ge 46, 3) := by decide +kernel
theorem dX5_readName_8 : decode cX5_readName 8 = .ok (.aload_n 0, 1) := by decide +kernel
theorem dX5_readName_9 : decode cX5_readName 9 = .ok (.invokevirtual 35, 3) := by decide +kernel
theorem dX5_readName_12 : decode cX5_readName 12 = .ok (.bipush 48, 2) := by decide +kernel
theorem dX5_readName_14 : decode cX5_readName 14 = .ok (.bipush 53, 2) := by decide +kernel
theorem dX5_readName_16 : decode cX5_readName 16 = .ok (.invokestatic 87, 3) := by decide +kernel
theorem dX5_readName_19 : decode cX5_readName 19 = .ok (.ifCond .eq 32, 3) := by decide +kernel
theorem dX5_readName_22 : decode cX5_readName 22 = .ok (.aload_n 0, 1) := by decide +kernel
theorem dX5_readName_23 : decode cX5_readName 23 = .ok (.getfield 22, 3) := by decide +kernel
theorem dX5_readName_26 : decode cX5_readName 26 = .ok (.iload_n 1, 1) := by decide +kernel
theorem dX5_readName_27 : decode cX5_readName 27 = .ok (.aload_n 0, 1) := by decide +kernel
theorem dX5_readName_28 : decode cX5_readName 28 = .ok (.invokevirtual 35, 3) := by decide +kernel
theorem dX5_readName_31 : decode cX5_readName 31 = .ok (.bipush 48, 2) := by decide +kernel
theorem dX5_readName_33 : decode cX5_readName 33 = .ok (.isub, 1) := by decide +kernel
theorem dX5_readName_34 : decode cX5_readName 34 = .ok (.iastore, 1) := by decide +kernel
theorem dX5_readName_35 : decode cX5_readName 35 = .ok (.iinc 1 1, 3) := by decide +kernel
theorem dX5_readName_38 : decode cX5_readName 38 = .ok (.aload_n 0, 1) := by decide +kernel
theorem dX5_readName_39 : decode cX5_readName 39 = .ok (.dup, 1) := by decide +kernel
theorem dX5_readName_40 : decode cX5_readName 40 = .ok (.getfield 19, 3) := by decide +kernel
theorem dX5_readName_43 : decode cX5_readName 43 = .ok (.iconst 1, 1) := by decide +kernel
theorem dX5_readName_44 : decode cX5_readName 44 = .ok (.iadd, 1) := by decide +kernel
theorem dX5_readName_45 : decode cX5_readName 45 = .ok (.putfield 19, 3) := by decide +kernel
theorem dX5_readName_48 : decode cX5_readName 48 = .ok (.goto (-46), 3) := by decide +kernel
theorem dX5_readName_51 : decode cX5_readName 51 = .ok (.iload_n 1, 1) := by decide +kernel
theorem dX5_readName_52 : decode cX5_readName 52 = .ok (.ifCond .eq 12, 3) := by decide +kernel
theorem dX5_readName_55 : decode cX5_readName 55 = .ok (.aload_n 0, 1) := by decide +kernel
theorem dX5_readName_56 : decode cX5_readName 56 = .ok (.invokevirtual 35, 3) := by decide +kernel
theorem dX5_readName_59 : decode cX5_readName 59 = .ok (.bipush 44, 2) := by decide +kernel
theorem dX5_readName_61 : decode cX5_readName 61 = .ok (.if_icmp .eq 5, 3) := by decide +kernel
theorem dX5_readName_64 : decode cX5_readName 64 = .ok (.iconst (-1), 1) := by decide +kernel
theorem dX5_readName_65 : decode cX5_readName 65 = .ok (.ireturn, 1) := by decide +kernel
theorem dX5_readName_66 : decode cX5_readName 66 = .ok (.aload_n 0, 1) := by decide +kernel
theorem dX5_readName_67 : decode cX5_readName 67 = .ok (.dup, 1) := by decide +kernel
theorem dX5_readName_68 : decode cX5_readName 68 = .ok (.getfield 19, 3) := by decide +kernel
theorem dX5_readName_71 : decode cX5_readName 71 = .ok (.iconst 1, 1) := by decide +kernel
theorem dX5_readName_72 : decode cX5_readName 72 = .ok (.iadd, 1) := by decide +kernel
theorem dX5_readName_73 : decode cX5_readName 73 = .ok (.putfield 19, 3) := by decide +kernel
theorem dX5_readName_76 : decode cX5_readName 76 = .ok (.iload_n 1, 1) := by decide +kernel
theorem dX5_readName_77 : decode cX5_readName 77 = .ok (.ireturn, 1) := by decide +kernel
theorem dX6_init_0 : decode cX6_init 0 = .ok (.aload_n 0, 1) := by decide +kernel
theorem dX6_init_1 : decode cX6_init 1 = .ok (.invokespecial 1, 3) := by decide +kernel
theorem dX6_init_4 : decode cX6_init 4 = .ok (.aload_n 0, 1) := by decide +kernel
theorem dX6_init_5 : decode cX6_init 5 = .ok (.new 7, 3) := by decide +kernel
theorem dX6_init_8 : decode cX6_init 8 = .ok (.dup, 1) := by decide +kernel
theorem dX6_init_9 : decode cX6_init 9 = .ok (.invokespecial 9, 3) := by decide +kernel
theorem dX6_init_12 : decode cX6_init 12 = .ok (.putfield 10, 3) := by decide +kernel
theorem dX6_init_15 : decode cX6_init 15 = .ok (.aload_n 0, 1) := by decide +kernel
theorem dX6_init_16 : decode cX6_init 16 = .ok (.new 16, 3) := by decide +kernel
theorem dX6_init_19 : decode cX6_init 19 = .ok (.dup, 1) := by decide +kernel
theorem dX6_init_20 : decode cX6_init 20 = .ok (.invokespecial 18, 3) := by decide +kernel
theorem dX6_init_23 : decode cX6_init 23 = .ok (.putfield 19, 3) := by decide +kernel
theorem dX6_init_26 : decode cX6_init 26 = .ok (.aload_n 0, 1) := by decide +kernel
theorem dX6_init_27 : decode cX6_init 27 = .ok (.new 16, 3) := by decide +kernel
theorem dX6_init_30 : decode cX6_init 30 = .ok (.dup, 1) := by decide +kernel
theorem dX6_init_31 : decode cX6_init 31 = .ok (.invokespecial 18, 3) := by decide +kernel
theorem dX6_init_34 : decode cX6_init 34 = .ok (.putfield 23, 3) := by decide +kernel
theorem dX6_init_37 : decode cX6_init 37 = .ok (.aload_n 0, 1) := by decide +kernel
theorem dX6_init_38 : decode cX6_init 38 = .ok (.new 26, 3) := by decide +kernel
theorem dX6_init_41 : decode cX6_init 41 = .ok (.dup, 1) := by decide +kernel
theorem dX6_init_42 : decode cX6_init 42 = .ok (.invokespecial 28, 3) := by decide +kernel
theorem dX6_init_45 : decode cX6_init 45 = .ok (.putfield 29, 3) := by decide +kernel
theorem dX6_init_48 : decode cX6_init 48 = .ok (.aload_n 0, 1) := by decide +kernel
theorem dX6_init_49 : decode cX6_init 49 = .ok (.new 26, 3) := by decide +kernel
theorem dX6_init_52 : decode cX6_init 52 = .ok (.dup, 1) := by decide +kernel
theorem dX6_init_53 : decode cX6_init 53 = .ok (.invokespecial 28, 3) := by decide +kernel
theorem dX6_init_56 : decode cX6_init 56 = .ok (.putfield 33, 3) := by decide +kernel
theorem dX6_init_59 : decode cX6_init 59 = .ok (.aload_n 0, 1) := by decide +kernel
theorem dX6_init_60 : decode cX6_init 60 = .ok (.new 26, 3) := by decide +kernel
theorem dX6_init_63 : decode cX6_init 63 = .ok (.dup, 1) := by decide +kernel
theorem dX6_init_64 : decode cX6_init 64 = .ok (.invokespecial 28, 3) := by decide +kernel
theorem dX6_init_67 : decode cX6_init 67 = .ok (.putfield 36, 3) := by decide +kernel
theorem dX6_init_70 : decode cX6_init 70 = .ok (.aload_n 0, 1) := by decide +kernel
theorem dX6_init_71 : decode cX6_init 71 = .ok (.iconst 0, 1) := by decide +kernel
theorem dX6_init_72 : decode cX6_init 72 = .ok (.putfield 39, 3) := by decide +kernel
theorem dX6_init_75 : decode cX6_init 75 = .ok (.aload_n 0, 1) := by decide +kernel
theorem dX6_init_76 : decode cX6_init 76 = .ok (.new 43, 3) := by decide +kernel
theorem dX6_init_79 : decode cX6_init 79 = .ok (.dup, 1) := by decide +kernel
theorem dX6_init_80 : decode cX6_init 80 = .ok (.invokespecial 45, 3) := by decide +kernel
theorem dX6_init_83 : decode cX6_init 83 = .ok (.putfield 46, 3) := by decide +kernel
theorem dX6_init_86 : decode cX6_init 86 = .ok (.aload_n 0, 1) := by decide +kernel
theorem dX6_init_87 : decode cX6_init 87 = .ok (.new 50, 3) := by decide +kernel
theorem dX6_init_90 : decode cX6_init 90 = .ok (.dup, 1) := by decide +kernel
theorem dX6_init_91 : decode cX6_init 91 = .ok (.invokespecial 52, 3) := by decide +kernel
theorem dX6_init_94 : decode cX6_init 94 = .ok (.putfield 53, 3) := by decide +kernel
theorem dX6_init_97 : decode cX6_init 97 = .ok (.aload_n 0, 1) := by decide +kernel
theorem dX6_init_98 : decode cX6_init 98 = .ok (.getfield 19, 3) := by decide +kernel
theorem dX6_init_101 : decode cX6_init 101 = .ok (.iconst 0, 1) := by decide +kernel
theorem dX6_init_102 : decode cX6_init 102 = .ok (.getstatic 57, 3) := by decide +kernel
theorem dX6_init_105 : decode cX6_init 105 = .ok (.getstatic 57, 3) := by decide +kernel
theorem dX6_init_108 : decode cX6_init 108 = .ok (.arraylength, 1) := by decide +kernel
theorem dX6_init_109 : decode cX6_init 109 = .ok (.iconst 5, 1) := by decide +kernel
theorem dX6_init_110 : decode cX6_init 110 = .ok (.iconst 0, 1) := by decide +kernel
theorem dX6_init_111 : decode cX6_init 111 = .ok (.invokevirtual 61, 3) := by decide +kernel
theorem dX6_init_114 : decode cX6_init 114 = .ok (.pop, 1) := by decide +kernel
theorem dX6_init_115 : decode cX6_init 115 = .ok (.aload_n 0, 1) := by decide +kernel
theorem dX6_init_116 : decode cX6_init 116 = .ok (.getfield 29, 3) := by decide +kernel
theorem dX6_init_119 : decode cX6_init 119 = .ok (.getfield 65, 3) := by decide +kernel
theorem dX6_init_122 : decode cX6_init 122 = .ok (.aload_n 0, 1) := by decide +kernel
theorem dX6_init_123 : decode cX6_init 123 = .ok (.getfield 19, 3) := by decide +kernel
theorem dX6_init_126 : decode cX6_init 126 = .ok (.getfield 68, 3) := by decide +kernel
theorem dX6_init_129 : decode cX6_init 129 = .ok (.invokevirtual 69, 3) := by decide +kernel
theorem dX6_init_132 : decode cX6_init 132 = .ok (.return_, 1) := by decide +kernel
theorem dX6_write_0 : decode cX6_write 0 = .ok (.iload_n 1, 1) := by decide +kernel
theorem dX6_write_1 : decode cX6_write 1 = .ok (.iconst 1, 1) := by decide +kernel
theorem dX6_write_2 : decode cX6_write 2 = .ok (.bipush 8, 2) := by decide +kernel
theorem dX6_write_4 : decode cX6_write 4 = .ok (.invokestatic 73, 3) := by decide +kernel
theorem dX6_write_7 : decode cX6_write 7 = .ok (.ifCond .ne 5, 3) := by decide +kernel
theorem dX6_write_10 : decode cX6_write 10 = .ok (.iconst (-1), 1) := by decide +kernel
theorem dX6_write_11 : decode cX6_write 11 = .ok (.ireturn, 1) := by decide +kernel
theorem dX6_write_12 : decode cX6_write 12 = .ok (.aload_n 0, 1) := by decide +kernel
theorem dX6_write_13 : decode cX6_write 13 = .ok (.getfield 10, 3) := by decide +kernel
theorem dX6_write_16 : decode cX6_write 16 = .ok (.iload_n 1, 1) := by decide +kernel
theorem dX6_write_17 : decode cX6_write 17 = .ok (.invokevirtual 77, 3) := by decide +kernel
theorem dX6_write_20 : decode cX6_write 20 = .ok (.ifCond .ne 6, 3) := by decide +kernel
theorem dX6_write_23 : decode cX6_write 23 = .ok (.bipush (-3), 2) := by decide +kernel
theorem dX6_write_25 : decode cX6_write 25 = .ok (.ireturn, 1) := by decide +kernel
theorem dX6_write_26 : decode cX6_write 26 = .ok (.aload_n 0, 1) := by decide +kernel
theorem dX6_write_27 : decode cX6_write 27 = .ok (.getfield 10, 3) := by decide +kernel
theorem dX6_write_30 : decode cX6_write 30 = .ok (.iload_n 1, 1) := by decide +kernel
theorem dX6_write_31 : decode cX6_write 31 = .ok (.lload_n 2, 1) := by decide +kernel
theorem dX6_write_32 : decode cX6_write 32 = .ok (.invokevirtual 81, 3) := by decide +kernel
theorem dX6_write_35 : decode cX6_write 35 = .ok (.aload_n 0, 1) := by decide +kernel
theorem dX6_write_36 : decode cX6_write 36 = .ok (.getfield 10, 3) := by decide +kernel
theorem dX6_write_39 : decode cX6_write 39 = .ok (.getfield 85, 3) := by decide +kernel
theorem dX6_write_42 : decode cX6_write 42 = .ok (.ireturn, 1) := by decide +kernel
theorem dX6_wipe_0 : decode cX6_wipe 0 = .ok (.aload_n 0, 1) := by decide +kernel
theorem dX6_wipe_1 : decode cX6_wipe 1 = .ok (.getfield 10, 3) := by decide +kernel
theorem dX6_wipe_4 : decode cX6_wipe 4 = .ok (.getfield 85, 3) := by decide +kernel
theorem dX6_wipe_7 : decode cX6_wipe 7 = .ok (.istore_n 1, 1) := by decide +kernel
theorem dX6_wipe_8 : decode cX6_wipe 8 = .ok (.aload_n 0, 1) := by decide +kernel
theorem dX6_wipe_9 : decode cX6_wipe 9 = .ok (.getfield 10, 3) := by decide +kernel
theorem dX6_wipe_12 : decode cX6_wipe 12 = .ok (.iconst 0, 1) := by decide +kernel
theorem dX6_wipe_13 : decode cX6_wipe 13 = .ok (.putfield 85, 3) := by decide +kernel
theorem dX6_wipe_16 : decode cX6_wipe 16 = .ok (.iload_n 1, 1) := by decide +kernel
theorem dX6_wipe_17 : decode cX6_wipe 17 = .ok (.ireturn, 1) := by decide +kernel
theorem dX6_fault_0 : decode cX6_fault 0 = .ok (.aload_n 0, 1) := by decide +kernel
theorem dX6_fault_1 : decode cX6_fault 1 = .ok (.getfield 10, 3) := by decide +kernel
theorem dX6_fault_4 : decode cX6_fault 4 = .ok (.aload_n 0, 1) := by decide +kernel
theorem dX6_fault_5 : decode cX6_fault 5 = .ok (.getfield 23, 3) := by decide +kernel
theorem dX6_fault_8 : decode cX6_fault 8 = .ok (.invokevirtual 88, 3) := by decide +kernel
theorem dX6_fault_11 : decode cX6_fault 11 = .ok (.ireturn, 1) := by decide +kernel
theorem dX6_lay_0 : decode cX6_lay 0 = .ok (.aload_n 0, 1) := by decide +kernel
theorem dX6_lay_1 : decode cX6_lay 1 = .ok (.getfield 10, 3) := by decide +kernel
theorem dX6_lay_4 : decode cX6_lay 4 = .ok (.aload_n 0, 1) := by decide +kernel
theorem dX6_lay_5 : decode cX6_lay 5 = .ok (.getfield 23, 3) := by decide +kernel
theorem dX6_lay_8 : decode cX6_lay 8 = .ok (.invokevirtual 88, 3) := by decide +kernel
theorem dX6_lay_11 : decode cX6_lay 11 = .ok (.bipush (-4), 2) := by decide +kernel
theorem dX6_lay_13 : decode cX6_lay 13 = .ok (.if_icmp .ne 16, 3) := by decide +kernel
theorem dX6_lay_16 : decode cX6_lay 16 = .ok (.aload_n 0, 1) := by decide +kernel
theorem dX6_lay_17 : decode cX6_lay 17 = .ok (.getfield 23, 3) := by decide +kernel
theorem dX6_lay_20 : decode cX6_lay 20 = .ok (.getfield 68, 3) := by decide +kernel
theorem dX6_lay_23 : decode cX6_lay 23 = .ok (.getfield 92, 3) := by decide +kernel
theorem dX6_lay_26 : decode cX6_lay 26 = .ok (.ifCond .ne 6, 3) := by decide +kernel
theorem dX6_lay_29 : decode cX6_lay 29 = .ok (.bipush (-2), 2) := by decide +kernel
theorem dX6_lay_31 : decode cX6_lay 31 = .ok (.ireturn, 1) := by decide +kernel
theorem dX6_lay_32 : decode cX6_lay 32 = .ok (.aload_n 0, 1) := by decide +kernel
theorem dX6_lay_33 : decode cX6_lay 33 = .ok (.getfield 19, 3) := by decide +kernel
theorem dX6_lay_36 : decode cX6_lay 36 = .ok (.astore_n 1, 1) := by decide +kernel
theorem dX6_lay_37 : decode cX6_lay 37 = .ok (.aload_n 0, 1) := by decide +kernel
theorem dX6_lay_38 : decode cX6_lay 38 = .ok (.aload_n 0, 1) := by decide +kernel
theorem dX6_lay_39 : decode cX6_lay 39 = .ok (.getfield 23, 3) := by decide +kernel
theorem dX6_lay_42 : decode cX6_lay 42 = .ok (.putfield 19, 3) := by decide +kernel
theorem dX6_lay_45 : decode cX6_lay 45 = .ok (.aload_n 0, 1) := by decide +kernel
theorem dX6_lay_46 : decode cX6_lay 46 = .ok (.aload_n 1, 1) := by decide +kernel
theorem dX6_lay_47 : decode cX6_lay 47 = .ok (.putfield 23, 3) := by decide +kernel
theorem dX6_lay_50 : decode cX6_lay 50 = .ok (.aload_n 0, 1) := by decide +kernel
theorem dX6_lay_51 : decode cX6_lay 51 = .ok (.getfield 29, 3) := by decide +kernel
theorem dX6_lay_54 : decode cX6_lay 54 = .ok (.getfield 65, 3) := by decide +kernel
theorem dX6_lay_57 : decode cX6_lay 57 = .ok (.aload_n 0, 1) := by decide +kernel
theorem dX6_lay_58 : decode cX6_lay 58 = .ok (.getfield 19, 3) := by decide +kernel
theorem dX6_lay_61 : decode cX6_lay 61 = .ok (.getfield 68, 3) := by decide +kernel
theorem dX6_lay_64 : decode cX6_lay 64 = .ok (.invokevirtual 69, 3) := by decide +kernel
theorem dX6_lay_67 : decode cX6_lay 67 = .ok (.aload_n 0, 1) := by decide +kernel
theorem dX6_lay_68 : decode cX6_lay 68 = .ok (.getfield 29, 3) := by decide +kernel
theorem dX6_lay_71 : decode cX6_lay 71 = .ok (.getfield 95, 3) := by decide +kernel
theorem dX6_lay_74 : decode cX6_lay 74 = .ok (.invokevirtual 99, 3) := by decide +kernel
theorem dX6_lay_77 : decode cX6_lay 77 = .ok (.aload_n 0, 1) := by decide +kernel
theorem dX6_lay_78 : decode cX6_lay 78 = .ok (.iconst 0, 1) := by decide +kernel
theorem dX6_lay_79 : decode cX6_lay 79 = .ok (.putfield 39, 3) := by decide +kernel
theorem dX6_lay_82 : decode cX6_lay 82 = .ok (.aload_n 0, 1) := by decide +kernel
theorem dX6_lay_83 : decode cX6_lay 83 = .ok (.getfield 29, 3) := by decide +kernel
theorem dX6_lay_86 : decode cX6_lay 86 = .ok (.getfield 65, 3) := by decide +kernel
theorem dX6_lay_89 : decode cX6_lay 89 = .ok (.getfield 92, 3) := by decide +kernel
theorem dX6_lay_92 : decode cX6_lay 92 = .ok (.ireturn, 1) := by decide +kernel
theorem dX6_person_0 : decode cX6_person 0 = .ok (.aload_n 0, 1) := by decide +kernel
theorem dX6_person_1 : decode cX6_person 1 = .ok (.getfield 29, 3) := by decide +kernel
theorem dX6_person_4 : decode cX6_person 4 = .ok (.getfield 65, 3) := by decide +kernel
theorem dX6_person_7 : decode cX6_person 7 = .ok (.iload_n 1, 1) := by decide +kernel
theorem dX6_person_8 : decode cX6_person 8 = .ok (.invokevirtual 104, 3) := by decide +kernel
theorem dX6_person_11 : decode cX6_person 11 = .ok (.ifCond .ne 5, 3) := by decide +kernel
theorem dX6_person_14 : decode cX6_person 14 = .ok (.iconst (-1), 1) := by decide +kernel
theorem dX6_person_15 : decode cX6_person 15 = .ok (.ireturn, 1) := by decide +kernel
theorem dX6_person_16 : decode cX6_person 16 = .ok (.iload_n 2, 1) := by decide +kernel
theorem dX6_person_17 : decode cX6_person 17 = .ok (.tableswitch 109 0 5 #[39, 51, 60, 69, 81, 93], 39) := by decide +kernel
theorem dX6_person_56 : decode cX6_person 56 = .ok (.aload_n 0, 1) := by decide +kernel
theorem dX6_person_57 : decode cX6_person 57 = .ok (.getfield 29, 3) := by decide +kernel
theorem dX6_person_60 : decode cX6_person 60 = .ok (.getfield 65, 3) := by decide +kernel
theorem dX6_person_63 : decode cX6_person 63 = .ok (.iload_n 1, 1) := by decide +kernel
theorem dX6_person_64 : decode cX6_person 64 = .ok (.invokevirtual 107, 3) := by decide +kernel
theorem dX6_person_67 : decode cX6_person 67 = .ok (.ireturn, 1) := by decide +kernel
theorem dX6_person_68 : decode cX6_person 68 = .ok (.aload_n 0, 1) := by decide +kernel
theorem dX6_person_69 : decode cX6_person 69 = .ok (.getfield 19, 3) := by decide +kernel
theorem dX6_person_72 : decode cX6_person 72 = .ok (.iload_n 1, 1) := by decide +kernel
theorem dX6_person_73 : decode cX6_person 73 = .ok (.invokevirtual 111, 3) := by decide +kernel
theorem dX6_person_76 : decode cX6_person 76 = .ok (.ireturn, 1) := by decide +kernel
theorem dX6_person_77 : decode cX6_person 77 = .ok (.aload_n 0, 1) := by decide +kernel
theorem dX6_person_78 : decode cX6_person 78 = .ok (.getfield 19, 3) := by decide +kernel
theorem dX6_person_81 : decode cX6_person 81 = .ok (.iload_n 1, 1) := by decide +kernel
theorem dX6_person_82 : decode cX6_person 82 = .ok (.invokevirtual 114, 3) := by decide +kernel
theorem dX6_person_85 : decode cX6_person 85 = .ok (.ireturn, 1) := by decide +kernel
theorem dX6_person_86 : decode cX6_person 86 = .ok (.aload_n 0, 1) := by decide +kernel
theorem dX6_person_87 : decode cX6_person 87 = .ok (.getfield 29, 3) := by decide +kernel
theorem dX6_person_90 : decode cX6_person 90 = .ok (.getfield 65, 3) := by decide +kernel
theorem dX6_person_93 : decode cX6_person 93 = .ok (.iload_n 1, 1) := by decide +kernel
theorem dX6_person_94 : decode cX6_person 94 = .ok (.invokevirtual 117, 3) := by decide +kernel
theorem dX6_person_97 : decode cX6_person 97 = .ok (.ireturn, 1) := by decide +kernel
theorem dX6_person_98 : decode cX6_person 98 = .ok (.aload_n 0, 1) := by decide +kernel
theorem dX6_person_99 : decode cX6_person 99 = .ok (.getfield 29, 3) := by decide +kernel
theorem dX6_person_102 : decode cX6_person 102 = .ok (.getfield 65, 3) := by decide +kernel
theorem dX6_person_105 : decode cX6_person 105 = .ok (.iload_n 1, 1) := by decide +kernel
theorem dX6_person_106 : decode cX6_person 106 = .ok (.invokevirtual 120, 3) := by decide +kernel
theorem dX6_person_109 : decode cX6_person 109 = .ok (.ireturn, 1) := by decide +kernel
theorem dX6_person_110 : decode cX6_person 110 = .ok (.aload_n 0, 1) := by decide +kernel
theorem dX6_person_111 : decode cX6_person 111 = .ok (.getfield 19, 3) := by decide +kernel
theorem dX6_person_114 : decode cX6_person 114 = .ok (.aload_n 0, 1) := by decide +kernel
theorem dX6_person_115 : decode cX6_person 115 = .ok (.getfield 29, 3) := by decide +kernel
theorem dX6_person_118 : decode cX6_person 118 = .ok (.getfield 65, 3) := by decide +kernel
theorem dX6_person_121 : decode cX6_person 121 = .ok (.iload_n 1, 1) := by decide +kernel
theorem dX6_person_122 : decode cX6_person 122 = .ok (.invokevirtual 123, 3) := by decide +kernel
theorem dX6_person_125 : decode cX6_person 125 = .ok (.ireturn, 1) := by decide +kernel
theorem dX6_person_126 : decode cX6_person 126 = .ok (.iconst (-1), 1) := by decide +kernel
theorem dX6_person_127 : decode cX6_person 127 = .ok (.ireturn, 1) := by decide +kernel
theorem dX6_said_0 : decode cX6_said 0 = .ok (.aload_n 0, 1) := by decide +kernel
theorem dX6_said_1 : decode cX6_said 1 = .ok (.getfield 29, 3) := by decide +kernel
theorem dX6_said_4 : decode cX6_said 4 = .ok (.getfield 65, 3) := by decide +kernel
theorem dX6_said_7 : decode cX6_said 7 = .ok (.iload_n 1, 1) := by decide +kernel
theorem dX6_said_8 : decode cX6_said 8 = .ok (.invokevirtual 104, 3) := by decide +kernel
theorem dX6_said_11 : decode cX6_said 11 = .ok (.ifCond .eq 13, 3) := by decide +kernel
theorem dX6_said_14 : decode cX6_said 14 = .ok (.iload_n 2, 1) := by decide +kernel
theorem dX6_said_15 : decode cX6_said 15 = .ok (.iconst 0, 1) := by decide +kernel
theorem dX6_said_16 : decode cX6_said 16 = .ok (.bipush 19, 2) := by decide +kernel
theorem dX6_said_18 : decode cX6_said 18 = .ok (.invokestatic 73, 3) := by decide +kernel
theorem dX6_said_21 : decode cX6_said 21 = .ok (.ifCond .ne 5, 3) := by decide +kernel
theorem dX6_said_24 : decode cX6_said 24 = .ok (.iconst (-1), 1) := by decide +kernel
theorem dX6_said_25 : decode cX6_said 25 = .ok (.ireturn, 1) := by decide +kernel
theorem dX6_said_26 : decode cX6_said 26 = .ok (.aload_n 0, 1) := by decide +kernel
theorem dX6_said_27 : decode cX6_said 27 = .ok (.getfield 29, 3) := by decide +kernel
theorem dX6_said_30 : decode cX6_said 30 = .ok (.getfield 65, 3) := by decide +kernel
theorem dX6_said_33 : decode cX6_said 33 = .ok (.iload_n 1, 1) := by decide +kernel
theorem dX6_said_34 : decode cX6_said 34 = .ok (.iload_n 2, 1) := by decide +kernel
theorem dX6_said_35 : decode cX6_said 35 = .ok (.invokevirtual 127, 3) := by decide +kernel
theorem dX6_said_38 : decode cX6_said 38 = .ok (.ireturn, 1) := by decide +kernel
theorem dX6_deed_0 : decode cX6_deed 0 = .ok (.aload_n 0, 1) := by decide +kernel
theorem dX6_deed_1 : decode cX6_deed 1 = .ok (.getfield 29, 3) := by decide +kernel
theorem dX6_deed_4 : decode cX6_deed 4 = .ok (.getfield 65, 3) := by decide +kernel
theorem dX6_deed_7 : decode cX6_deed 7 = .ok (.iload_n 1, 1) := by decide +kernel
theorem dX6_deed_8 : decode cX6_deed 8 = .ok (.invokevirtual 104, 3) := by decide +kernel
theorem dX6_deed_11 : decode cX6_deed 11 = .ok (.ifCond .eq 12, 3) := by decide +kernel
theorem dX6_deed_14 : decode cX6_deed 14 = .ok (.iload_n 2, 1) := by decide +kernel
theorem dX6_deed_15 : decode cX6_deed 15 = .ok (.iconst 0, 1) := by decide +kernel
theorem dX6_deed_16 : decode cX6_deed 16 = .ok (.iconst 5, 1) := by decide +kernel
theorem dX6_deed_17 : decode cX6_deed 17 = .ok (.invokestatic 73, 3) := by decide +kernel
theorem dX6_deed_20 : decode cX6_deed 20 = .ok (.ifCond .ne 5, 3) := by decide +kernel
theorem dX6_deed_23 : decode cX6_deed 23 = .ok (.iconst (-1), 1) := by decide +kernel
theorem dX6_deed_24 : decode cX6_deed 24 = .ok (.ireturn, 1) := by decide +kernel
theorem dX6_deed_25 : decode cX6_deed 25 = .ok (.aload_n 0, 1) := by decide +kernel
theorem dX6_deed_26 : decode cX6_deed 26 = .ok (.getfield 19, 3) := by decide +kernel
theorem dX6_deed_29 : decode cX6_deed 29 = .ok (.aload_n 0, 1) := by decide +kernel
theorem dX6_deed_30 : decode cX6_deed 30 = .ok (.getfield 29, 3) := by decide +kernel
theorem dX6_deed_33 : decode cX6_deed 33 = .ok (.getfield 65, 3) := by decide +kernel
theorem dX6_deed_36 : decode cX6_deed 36 = .ok (.iload_n 1, 1) := by decide +kernel
theorem dX6_deed_37 : decode cX6_deed 37 = .ok (.iload_n 2, 1) := by decide +kernel
theorem dX6_deed_38 : decode cX6_deed 38 = .ok (.invokevirtual 131, 3) := by decide +kernel
theorem dX6_deed_41 : decode cX6_deed 41 = .ok (.ifCond .eq 17, 3) := by decide +kernel
theorem dX6_deed_44 : decode cX6_deed 44 = .ok (.aload_n 0, 1) := by decide +kernel
theorem dX6_deed_45 : decode cX6_deed 45 = .ok (.getfield 29, 3) := by decide +kernel
theorem dX6_deed_48 : decode cX6_deed 48 = .ok (.getfield 65, 3) := by decide +kernel
theorem dX6_deed_51 : decode cX6_deed 51 = .ok (.iload_n 1, 1) := by decide +kernel
theorem dX6_deed_52 : decode cX6_deed 52 = .ok (.invokevirtual 117, 3) := by decide +kernel
theorem dX6_deed_55 : decode cX6_deed 55 = .ok (.goto 5, 3) := by decide +kernel
theorem dX6_deed_58 : decode cX6_deed 58 = .ok (.bipush (-3), 2) := by decide +kernel
theorem dX6_deed_60 : decode cX6_deed 60 = .ok (.ireturn, 1) := by decide +kernel
theorem dX6_kind_0 : decode cX6_kind 0 = .ok (.aload_n 0, 1) := by decide +kernel
theorem dX6_kind_1 : decode cX6_kind 1 = .ok (.getfield 29, 3) := by decide +kernel
theorem dX6_kind_4 : decode cX6_kind 4 = .ok (.getfield 65, 3) := by decide +kernel
theorem dX6_kind_7 : decode cX6_kind 7 = .ok (.iload_n 1, 1) := by decide +kernel
theorem dX6_kind_8 : decode cX6_kind 8 = .ok (.invokevirtual 104, 3) := by decide +kernel
theorem dX6_kind_11 : decode cX6_kind 11 = .ok (.ifCond .eq 12, 3) := by decide +kernel
theorem dX6_kind_14 : decode cX6_kind 14 = .ok (.iload_n 2, 1) := by decide +kernel
theorem dX6_kind_15 : decode cX6_kind 15 = .ok (.iconst 0, 1) := by decide +kernel
theorem dX6_kind_16 : decode cX6_kind 16 = .ok (.iconst 3, 1) := by decide +kernel
theorem dX6_kind_17 : decode cX6_kind 17 = .ok (.invokestatic 73, 3) := by decide +kernel
theorem dX6_kind_20 : decode cX6_kind 20 = .ok (.ifCond .ne 5, 3) := by decide +kernel
theorem dX6_kind_23 : decode cX6_kind 23 = .ok (.iconst (-1), 1) := by decide +kernel
theorem dX6_kind_24 : decode cX6_kind 24 = .ok (.ireturn, 1) := by decide +kernel
theorem dX6_kind_25 : decode cX6_kind 25 = .ok (.aload_n 0, 1) := by decide +kernel
theorem dX6_kind_26 : decode cX6_kind 26 = .ok (.getfield 29, 3) := by decide +kernel
theorem dX6_kind_29 : decode cX6_kind 29 = .ok (.getfield 65, 3) := by decide +kernel
theorem dX6_kind_32 : decode cX6_kind 32 = .ok (.iload_n 1, 1) := by decide +kernel
theorem dX6_kind_33 : decode cX6_kind 33 = .ok (.iload_n 2, 1) := by decide +kernel
theorem dX6_kind_34 : decode cX6_kind 34 = .ok (.invokevirtual 135, 3) := by decide +kernel
theorem dX6_kind_37 : decode cX6_kind 37 = .ok (.ireturn, 1) := by decide +kernel
theorem dX6_cry_0 : decode cX6_cry 0 = .ok (.aload_n 0, 1) := by decide +kernel
theorem dX6_cry_1 : decode cX6_cry 1 = .ok (.iload_n 1, 1) := by decide +kernel
theorem dX6_cry_2 : decode cX6_cry 2 = .ok (.invokevirtual 138, 3) := by decide +kernel
theorem dX6_cry_5 : decode cX6_cry 5 = .ok (.ifCond .ne 5, 3) := by decide +kernel
theorem dX6_cry_8 : decode cX6_cry 8 = .ok (.iconst (-1), 1) := by decide +kernel
theorem dX6_cry_9 : decode cX6_cry 9 = .ok (.ireturn, 1) := by decide +kernel
theorem dX6_cry_10 : decode cX6_cry 10 = .ok (.aload_n 0, 1) := by decide +kernel
theorem dX6_cry_11 : decode cX6_cry 11 = .ok (.getfield 46, 3) := by decide +kernel
theorem dX6_cry_14 : decode cX6_cry 14 = .ok (.aload_n 0, 1) := by decide +kernel
theorem dX6_cry_15 : decode cX6_cry 15 = .ok (.getfield 19, 3) := by decide +kernel
theorem dX6_cry_18 : decode cX6_cry 18 = .ok (.aload_n 0, 1) := by decide +kernel
theorem dX6_cry_19 : decode cX6_cry 19 = .ok (.getfield 29, 3) := by decide +kernel
theorem dX6_cry_22 : decode cX6_cry 22 = .ok (.getfield 65, 3) := by decide +kernel
theorem dX6_cry_25 : decode cX6_cry 25 = .ok (.invokevirtual 141, 3) := by decide +kernel
theorem dX6_cry_28 : decode cX6_cry 28 = .ok (.aload_n 0, 1) := by decide +kernel
theorem dX6_cry_29 : decode cX6_cry 29 = .ok (.getfield 46, 3) := by decide +kernel
theorem dX6_cry_32 : decode cX6_cry 32 = .ok (.iload_n 1, 1) := by decide +kernel
theorem dX6_cry_33 : decode cX6_cry 33 = .ok (.invokevirtual 145, 3) := by decide +kernel
theorem dX6_cry_36 : decode cX6_cry 36 = .ok (.ireturn, 1) := by decide +kernel
theorem dX6_warn_0 : decode cX6_warn 0 = .ok (.iload_n 1, 1) := by decide +kernel
theorem dX6_warn_1 : decode cX6_warn 1 = .ok (.iconst 0, 1) := by decide +kernel
theorem dX6_warn_2 : decode cX6_warn 2 = .ok (.sipush 999, 3) := by decide +kernel
theorem dX6_warn_5 : decode cX6_warn 5 = .ok (.invokestatic 73, 3) := by decide +kernel
theorem dX6_warn_8 : decode cX6_warn 8 = .ok (.ifCond .eq 12, 3) := by decide +kernel
theorem dX6_warn_11 : decode cX6_warn 11 = .ok (.iload_n 2, 1) := by decide +kernel
theorem dX6_warn_12 : decode cX6_warn 12 = .ok (.iconst 0, 1) := by decide +kernel
theorem dX6_warn_13 : decode cX6_warn 13 = .ok (.iconst 1, 1) := by decide +kernel
theorem dX6_warn_14 : decode cX6_warn 14 = .ok (.invokestatic 73, 3) := by decide +kernel
theorem dX6_warn_17 : decode cX6_warn 17 = .ok (.ifCond .ne 5, 3) := by decide +kernel
theorem dX6_warn_20 : decode cX6_warn 20 = .ok (.iconst (-1), 1) := by decide +kernel
theorem dX6_warn_21 : decode cX6_warn 21 = .ok (.ireturn, 1) := by decide +kernel
theorem dX6_warn_22 : decode cX6_warn 22 = .ok (.aload_n 0, 1) := by decide +kernel
theorem dX6_warn_23 : decode cX6_warn 23 = .ok (.getfield 46, 3) := by decide +kernel
theorem dX6_warn_26 : decode cX6_warn 26 = .ok (.aload_n 0, 1) := by decide +kernel
theorem dX6_warn_27 : decode cX6_warn 27 = .ok (.getfield 19, 3) := by decide +kernel
theorem dX6_warn_30 : decode cX6_warn 30 = .ok (.aload_n 0, 1) := by decide +kernel
theorem dX6_warn_31 : decode cX6_warn 31 = .ok (.getfield 29, 3) := by decide +kernel
theorem dX6_warn_34 : decode cX6_warn 34 = .ok (.getfield 65, 3) := by decide +kernel
theorem dX6_warn_37 : decode cX6_warn 37 = .ok (.invokevirtual 141, 3) := by decide +kernel
theorem dX6_warn_40 : decode cX6_warn 40 = .ok (.aload_n 0, 1) := by decide +kernel
theorem dX6_warn_41 : decode cX6_warn 41 = .ok (.getfield 46, 3) := by decide +kernel
theorem dX6_warn_44 : decode cX6_warn 44 = .ok (.iload_n 1, 1) := by decide +kernel
theorem dX6_warn_45 : decode cX6_warn 45 = .ok (.invokevirtual 148, 3) := by decide +kernel
theorem dX6_warn_48 : decode cX6_warn 48 = .ok (.istore_n 3, 1) := by decide +kernel
theorem dX6_warn_49 : decode cX6_warn 49 = .ok (.iload_n 2, 1) := by decide +kernel
theorem dX6_warn_50 : decode cX6_warn 50 = .ok (.ifCond .ne 10, 3) := by decide +kernel
theorem dX6_warn_53 : decode cX6_warn 53 = .ok (.iload_n 3, 1) := by decide +kernel
theorem dX6_warn_54 : decode cX6_warn 54 = .ok (.invokestatic 151, 3) := by decide +kernel
theorem dX6_warn_57 : decode cX6_warn 57 = .ok (.goto 4, 3) := by decide +kernel
theorem dX6_warn_60 : decode cX6_warn 60 = .ok (.iload_n 3, 1) := by decide +kernel
theorem dX6_warn_61 : decode cX6_warn 61 = .ok (.ireturn, 1) := by decide +kernel
theorem dX6_called_0 : decode cX6_called 0 = .ok (.iload_n 1, 1) := by decide +kernel
theorem dX6_called_1 : decode cX6_called 1 = .ok (.iconst 0, 1) := by decide +kernel
theorem dX6_called_2 : decode cX6_called 2 = .ok (.sipush 999, 3) := by decide +kernel
theorem dX6_called_5 : decode cX6_called 5 = .ok (.invokestatic 73, 3) := by decide +kernel
theorem dX6_called_8 : decode cX6_called 8 = .ok (.ifCond .eq 13, 3) := by decide +kernel
theorem dX6_called_11 : decode cX6_called 11 = .ok (.iload_n 2, 1) := by decide +kernel
theorem dX6_called_12 : decode cX6_called 12 = .ok (.iconst 0, 1) := by decide +kernel
theorem dX6_called_13 : decode cX6_called 13 = .ok (.bipush 7, 2) := by decide +kernel
theorem dX6_called_15 : decode cX6_called 15 = .ok (.invokestatic 73, 3) := by decide +kernel
theorem dX6_called_18 : decode cX6_called 18 = .ok (.ifCond .ne 5, 3) := by decide +kernel
theorem dX6_called_21 : decode cX6_called 21 = .ok (.iconst (-1), 1) := by decide +kernel
theorem dX6_called_22 : decode cX6_called 22 = .ok (.ireturn, 1) := by decide +kernel
theorem dX6_called_23 : decode cX6_called 23 = .ok (.aload_n 0, 1) := by decide +kernel
theorem dX6_called_24 : decode cX6_called 24 = .ok (.getfield 46, 3) := by decide +kernel
theorem dX6_called_27 : decode cX6_called 27 = .ok (.aload_n 0, 1) := by decide +kernel
theorem dX6_called_28 : decode cX6_called 28 = .ok (.getfield 19, 3) := by decide +kernel
theorem dX6_called_31 : decode cX6_called 31 = .ok (.aload_n 0, 1) := by decide +kernel
theorem dX6_called_32 : decode cX6_called 32 = .ok (.getfield 29, 3) := by decide +kernel
theorem dX6_called_35 : decode cX6_called 35 = .ok (.getfield 65, 3) := by decide +kernel
theorem dX6_called_38 : decode cX6_called 38 = .ok (.invokevirtual 141, 3) := by decide +kernel
theorem dX6_called_41 : decode cX6_called 41 = .ok (.aload_n 0, 1) := by decide +kernel
theorem dX6_called_42 : decode cX6_called 42 = .ok (.getfield 46, 3) := by decide +kernel
theorem dX6_called_45 : decode cX6_called 45 = .ok (.aload_n 0, 1) := by decide +kernel
theorem dX6_called_46 : decode cX6_called 46 = .ok (.getfield 46, 3) := by decide +kernel
theorem dX6_called_49 : decode cX6_called 49 = .ok (.iload_n 1, 1) := by decide +kernel
theorem dX6_called_50 : decode cX6_called 50 = .ok (.invokevirtual 148, 3) := by decide +kernel
theorem dX6_called_53 : decode cX6_called 53 = .ok (.iload_n 1, 1) := by decide +kernel
theorem dX6_called_54 : decode cX6_called 54 = .ok (.invokevirtual 156, 3) := by decide +kernel
theorem dX6_called_57 : decode cX6_called 57 = .ok (.aload_n 0, 1) := by decide +kernel
theorem dX6_called_58 : decode cX6_called 58 = .ok (.getfield 46, 3) := by decide +kernel
theorem dX6_called_61 : decode cX6_called 61 = .ok (.iload_n 2, 1) := by decide +kernel
theorem dX6_called_62 : decode cX6_called 62 = .ok (.invokevirtual 160, 3) := by decide +kernel
theorem dX6_called_65 : decode cX6_called 65 = .ok (.ireturn, 1) := by decide +kernel
theorem dX6_greet_0 : decode cX6_greet 0 = .ok (.aload_n 0, 1) := by decide +kernel
theorem dX6_greet_1 : decode cX6_greet 1 = .ok (.iload_n 1, 1) := by decide +kernel
theorem dX6_greet_2 : decode cX6_greet 2 = .ok (.invokevirtual 138, 3) := by decide +kernel
theorem dX6_greet_5 : decode cX6_greet 5 = .ok (.ifCond .eq 13, 3) := by decide +kernel
theorem dX6_greet_8 : decode cX6_greet 8 = .ok (.iload_n 2, 1) := by decide +kernel
theorem dX6_greet_9 : decode cX6_greet 9 = .ok (.iconst (-1), 1) := by decide +kernel
theorem dX6_greet_10 : decode cX6_greet 10 = .ok (.bipush 7, 2) := by decide +kernel
theorem dX6_greet_12 : decode cX6_greet 12 = .ok (.invokestatic 73, 3) := by decide +kernel
theorem dX6_greet_15 : decode cX6_greet 15 = .ok (.ifCond .ne 5, 3) := by decide +kernel
theorem dX6_greet_18 : decode cX6_greet 18 = .ok (.iconst (-1), 1) := by decide +kernel
theorem dX6_greet_19 : decode cX6_greet 19 = .ok (.ireturn, 1) := by decide +kernel
theorem dX6_greet_20 : decode cX6_greet 20 = .ok (.aload_n 0, 1) := by decide +kernel
theorem dX6_greet_21 : decode cX6_greet 21 = .ok (.getfield 46, 3) := by decide +kernel
theorem dX6_greet_24 : decode cX6_greet 24 = .ok (.aload_n 0, 1) := by decide +kernel
theorem dX6_greet_25 : decode cX6_greet 25 = .ok (.getfield 19, 3) := by decide +kernel
theorem dX6_greet_28 : decode cX6_greet 28 = .ok (.aload_n 0, 1) := by decide +kernel
theorem dX6_greet_29 : decode cX6_greet 29 = .ok (.getfield 29, 3) := by decide +kernel
theorem dX6_greet_32 : decode cX6_greet 32 = .ok (.getfield 65, 3) := by decide +kernel
theorem dX6_greet_35 : decode cX6_greet 35 = .ok (.invokevirtual 141, 3) := by decide +kernel
theorem dX6_greet_38 : decode cX6_greet 38 = .ok (.aload_n 0, 1) := by decide +kernel
theorem dX6_greet_39 : decode cX6_greet 39 = .ok (.getfield 46, 3) := by decide +kernel
theorem dX6_greet_42 : decode cX6_greet 42 = .ok (.iload_n 1, 1) := by decide +kernel
theorem dX6_greet_43 : decode cX6_greet 43 = .ok (.invokevirtual 163, 3) := by decide +kernel
theorem dX6_greet_46 : decode cX6_greet 46 = .ok (.istore_n 3, 1) := by decide +kernel
theorem dX6_greet_47 : decode cX6_greet 47 = .ok (.iload_n 2, 1) := by decide +kernel
theorem dX6_greet_48 : decode cX6_greet 48 = .ok (.iconst (-1), 1) := by decide +kernel
theorem dX6_greet_49 : decode cX6_greet 49 = .ok (.if_icmp .ne 5, 3) := by decide +kernel
theorem dX6_greet_52 : decode cX6_greet 52 = .ok (.iload_n 3, 1) := by decide +kernel
theorem dX6_greet_53 : decode cX6_greet 53 = .ok (.ireturn, 1) := by decide +kernel
theorem dX6_greet_54 : decode cX6_greet 54 = .ok (.aload_n 0, 1) := by decide +kernel
theorem dX6_greet_55 : decode cX6_greet 55 = .ok (.getfield 46, 3) := by decide +kernel
theorem dX6_greet_58 : decode cX6_greet 58 = .ok (.iload_n 1, 1) := by decide +kernel
theorem dX6_greet_59 : decode cX6_greet 59 = .ok (.iload_n 3, 1) := by decide +kernel
theorem dX6_greet_60 : decode cX6_greet 60 = .ok (.invokevirtual 166, 3) := by decide +kernel
theorem dX6_greet_63 : decode cX6_greet 63 = .ok (.aload_n 0, 1) := by decide +kernel
theorem dX6_greet_64 : decode cX6_greet 64 = .ok (.getfield 46, 3) := by decide +kernel
theorem dX6_greet_67 : decode cX6_greet 67 = .ok (.iload_n 2, 1) := by decide +kernel
theorem dX6_greet_68 : decode cX6_greet 68 = .ok (.invokevirtual 160, 3) := by decide +kernel
theorem dX6_greet_71 : decode cX6_greet 71 = .ok (.ireturn, 1) := by decide +kernel
theorem dX6_shortCall_0 : decode cX6_shortCall 0 = .ok (.aload_n 0, 1) := by decide +kernel
theorem dX6_shortCall_1 : decode cX6_shortCall 1 = .ok (.iload_n 2, 1) := by decide +kernel
theorem dX6_shortCall_2 : decode cX6_shortCall 2 = .ok (.invokevirtual 138, 3) := by decide +kernel
theorem dX6_shortCall_5 : decode cX6_shortCall 5 = .ok (.ifCond .eq 11, 3) := by decide +kernel
theorem dX6_shortCall_8 : decode cX6_shortCall 8 = .ok (.iload_n 1, 1) := by decide +kernel
theorem dX6_shortCall_9 : decode cX6_shortCall 9 = .ok (.iload_n 2, 1) := by decide +kernel
theorem dX6_shortCall_10 : decode cX6_shortCall 10 = .ok (.invokestatic 169, 3) := by decide +kernel
theorem dX6_shortCall_13 : decode cX6_shortCall 13 = .ok (.ifCond .ne 5, 3) := by decide +kernel
theorem dX6_shortCall_16 : decode cX6_shortCall 16 = .ok (.iconst (-1), 1) := by decide +kernel
theorem dX6_shortCall_17 : decode cX6_shortCall 17 = .ok (.ireturn, 1) := by decide +kernel
theorem dX6_shortCall_18 : decode cX6_shortCall 18 = .ok (.aload_n 0, 1) := by decide +kernel
theorem dX6_shortCall_19 : decode cX6_shortCall 19 = .ok (.getfield 29, 3) := by decide +kernel
theorem dX6_shortCall_22 : decode cX6_shortCall 22 = .ok (.getfield 65, 3) := by decide +kernel
theorem dX6_shortCall_25 : decode cX6_shortCall 25 = .ok (.iload_n 1, 1) := by decide +kernel
theorem dX6_shortCall_26 : decode cX6_shortCall 26 = .ok (.iload_n 2, 1) := by decide +kernel
theorem dX6_shortCall_27 : decode cX6_shortCall 27 = .ok (.invokevirtual 173, 3) := by decide +kernel
theorem dX6_shortCall_30 : decode cX6_shortCall 30 = .ok (.ireturn, 1) := by decide +kernel
theorem dX6_allShort_0 : decode cX6_allShort 0 = .ok (.aload_n 0, 1) := by decide +kernel
theorem dX6_allShort_1 : decode cX6_allShort 1 = .ok (.iload_n 1, 1) := by decide +kernel
theorem dX6_allShort_2 : decode cX6_allShort 2 = .ok (.invokevirtual 138, 3) := by decide +kernel
theorem dX6_allShort_5 : decode cX6_allShort 5 = .ok (.ifCond .ne 5, 3) := by decide +kernel
theorem dX6_allShort_8 : decode cX6_allShort 8 = .ok (.iconst (-1), 1) := by decide +kernel
theorem dX6_allShort_9 : decode cX6_allShort 9 = .ok (.ireturn, 1) := by decide +kernel
theorem dX6_allShort_10 : decode cX6_allShort 10 = .ok (.aload_n 0, 1) := by decide +kernel
theorem dX6_allShort_11 : decode cX6_allShort 11 = .ok (.getfield 29, 3) := by decide +kernel
theorem dX6_allShort_14 : decode cX6_allShort 14 = .ok (.getfield 65, 3) := by decide +kernel
theorem dX6_allShort_17 : decode cX6_allShort 17 = .ok (.iload_n 1, 1) := by decide +kernel
theorem dX6_allShort_18 : decode cX6_allShort 18 = .ok (.invokevirtual 176, 3) := by decide +kernel
theorem dX6_allShort_21 : decode cX6_allShort 21 = .ok (.ireturn, 1) := by decide +kernel
theorem dX6_apart_0 : decode cX6_apart 0 = .ok (.aload_n 0, 1) := by decide +kernel
theorem dX6_apart_1 : decode cX6_apart 1 = .ok (.iload_n 2, 1) := by decide +kernel
theorem dX6_apart_2 : decode cX6_apart 2 = .ok (.invokevirtual 138, 3) := by decide +kernel
theorem dX6_apart_5 : decode cX6_apart 5 = .ok (.ifCond .eq 20, 3) := by decide +kernel
theorem dX6_apart_8 : decode cX6_apart 8 = .ok (.iload_n 1, 1) := by decide +kernel
theorem dX6_apart_9 : decode cX6_apart 9 = .ok (.iload_n 2, 1) := by decide +kernel
theorem dX6_apart_10 : decode cX6_apart 10 = .ok (.invokestatic 169, 3) := by decide +kernel
theorem dX6_apart_13 : decode cX6_apart 13 = .ok (.ifCond .eq 12, 3) := by decide +kernel
theorem dX6_apart_16 : decode cX6_apart 16 = .ok (.iload_n 3, 1) := by decide +kernel
theorem dX6_apart_17 : decode cX6_apart 17 = .ok (.iconst 0, 1) := by decide +kernel
theorem dX6_apart_18 : decode cX6_apart 18 = .ok (.iconst 1, 1) := by decide +kernel
theorem dX6_apart_19 : decode cX6_apart 19 = .ok (.invokestatic 73, 3) := by decide +kernel
theorem dX6_apart_22 : decode cX6_apart 22 = .ok (.ifCond .ne 5, 3) := by decide +kernel
theorem dX6_apart_25 : decode cX6_apart 25 = .ok (.iconst (-1), 1) := by decide +kernel
theorem dX6_apart_26 : decode cX6_apart 26 = .ok (.ireturn, 1) := by decide +kernel
theorem dX6_apart_27 : decode cX6_apart 27 = .ok (.aload_n 0, 1) := by decide +kernel
theorem dX6_apart_28 : decode cX6_apart 28 = .ok (.getfield 29, 3) := by decide +kernel
theorem dX6_apart_31 : decode cX6_apart 31 = .ok (.getfield 65, 3) := by decide +kernel
theorem dX6_apart_34 : decode cX6_apart 34 = .ok (.iload_n 1, 1) := by decide +kernel
theorem dX6_apart_35 : decode cX6_apart 35 = .ok (.invokevirtual 117, 3) := by decide +kernel
theorem dX6_apart_38 : decode cX6_apart 38 = .ok (.bipush 10, 2) := by decide +kernel
theorem dX6_apart_40 : decode cX6_apart 40 = .ok (.if_icmp .lt 6, 3) := by decide +kernel
theorem dX6_apart_43 : decode cX6_apart 43 = .ok (.bipush (-3), 2) := by decide +kernel
theorem dX6_apart_45 : decode cX6_apart 45 = .ok (.ireturn, 1) := by decide +kernel
theorem dX6_apart_46 : decode cX6_apart 46 = .ok (.bipush (-4), 2) := by decide +kernel
theorem dX6_apart_48 : decode cX6_apart 48 = .ok (.istore 4, 2) := by decide +kernel
theorem dX6_apart_50 : decode cX6_apart 50 = .ok (.bipush (-4), 2) := by decide +kernel
theorem dX6_apart_52 : decode cX6_apart 52 = .ok (.istore 5, 2) := by decide +kernel
theorem dX6_apart_54 : decode cX6_apart 54 = .ok (.aload_n 0, 1) := by decide +kernel
theorem dX6_apart_55 : decode cX6_apart 55 = .ok (.getfield 53, 3) := by decide +kernel
theorem dX6_apart_58 : decode cX6_apart 58 = .ok (.aload_n 0, 1) := by decide +kernel
theorem dX6_apart_59 : decode cX6_apart 59 = .ok (.getfield 29, 3) := by decide +kernel
theorem dX6_apart_62 : decode cX6_apart 62 = .ok (.getfield 65, 3) := by decide +kernel
theorem dX6_apart_65 : decode cX6_apart 65 = .ok (.invokevirtual 69, 3) := by decide +kernel
theorem dX6_apart_68 : decode cX6_apart 68 = .ok (.iconst 0, 1) := by decide +kernel
theorem dX6_apart_69 : decode cX6_apart 69 = .ok (.istore 6, 2) := by decide +kernel
theorem dX6_apart_71 : decode cX6_apart 71 = .ok (.iload 6, 2) := by decide +kernel
theorem dX6_apart_73 : decode cX6_apart 73 = .ok (.bipush 6, 2) := by decide +kernel
theorem dX6_apart_75 : decode cX6_apart 75 = .ok (.if_icmp .ge 67, 3) := by decide +kernel
theorem dX6_apart_78 : decode cX6_apart 78 = .ok (.aload_n 0, 1) := by decide +kernel
theorem dX6_apart_79 : decode cX6_apart 79 = .ok (.getfield 53, 3) := by decide +kernel
theorem dX6_apart_82 : decode cX6_apart 82 = .ok (.iload_n 1, 1) := by decide +kernel
theorem dX6_apart_83 : decode cX6_apart 83 = .ok (.iload 6, 2) := by decide +kernel
theorem dX6_apart_85 : decode cX6_apart 85 = .ok (.invokevirtual 179, 3) := by decide +kernel
theorem dX6_apart_88 : decode cX6_apart 88 = .ok (.pop, 1) := by decide +kernel
theorem dX6_apart_89 : decode cX6_apart 89 = .ok (.aload_n 0, 1) := by decide +kernel
theorem dX6_apart_90 : decode cX6_apart 90 = .ok (.getfield 53, 3) := by decide +kernel
theorem dX6_apart_93 : decode cX6_apart 93 = .ok (.iload_n 2, 1) := by decide +kernel
theorem dX6_apart_94 : decode cX6_apart 94 = .ok (.invokevirtual 176, 3) := by decide +kernel
theorem dX6_apart_97 : decode cX6_apart 97 = .ok (.istore 7, 2) := by decide +kernel
theorem dX6_apart_99 : decode cX6_apart 99 = .ok (.aload_n 0, 1) := by decide +kernel
theorem dX6_apart_100 : decode cX6_apart 100 = .ok (.getfield 53, 3) := by decide +kernel
theorem dX6_apart_103 : decode cX6_apart 103 = .ok (.iload_n 1, 1) := by decide +kernel
theorem dX6_apart_104 : decode cX6_apart 104 = .ok (.invokevirtual 182, 3) := by decide +kernel
theorem dX6_apart_107 : decode cX6_apart 107 = .ok (.iload 7, 2) := by decide +kernel
theorem dX6_apart_109 : decode cX6_apart 109 = .ok (.bipush (-4), 2) := by decide +kernel
theorem dX6_apart_111 : decode cX6_apart 111 = .ok (.if_icmp .eq 25, 3) := by decide +kernel
theorem dX6_apart_114 : decode cX6_apart 114 = .ok (.iload 5, 2) := by decide +kernel
theorem dX6_apart_116 : decode cX6_apart 116 = .ok (.bipush (-4), 2) := by decide +kernel
theorem dX6_apart_118 : decode cX6_apart 118 = .ok (.if_icmp .eq 10, 3) := by decide +kernel
theorem dX6_apart_121 : decode cX6_apart 121 = .ok (.iload 7, 2) := by decide +kernel
theorem dX6_apart_123 : decode cX6_apart 123 = .ok (.iload 5, 2) := by decide +kernel
theorem dX6_apart_125 : decode cX6_apart 125 = .ok (.if_icmp .ge 11, 3) := by decide +kernel
theorem dX6_apart_128 : decode cX6_apart 128 = .ok (.iload 6, 2) := by decide +kernel
theorem dX6_apart_130 : decode cX6_apart 130 = .ok (.istore 4, 2) := by decide +kernel
theorem dX6_apart_132 : decode cX6_apart 132 = .ok (.iload 7, 2) := by decide +kernel
theorem dX6_apart_134 : decode cX6_apart 134 = .ok (.istore 5, 2) := by decide +kernel
theorem dX6_apart_136 : decode cX6_apart 136 = .ok (.iinc 6 1, 3) := by decide +kernel
theorem dX6_apart_139 : decode cX6_apart 139 = .ok (.goto (-68), 3) := by decide +kernel
theorem dX6_apart_142 : decode cX6_apart 142 = .ok (.iload_n 3, 1) := by decide +kernel
theorem dX6_apart_143 : decode cX6_apart 143 = .ok (.ifCond .ne 8, 3) := by decide +kernel
theorem dX6_apart_146 : decode cX6_apart 146 = .ok (.iload 4, 2) := by decide +kernel
theorem dX6_apart_148 : decode cX6_apart 148 = .ok (.goto 5, 3) := by decide +kernel
theorem dX6_apart_151 : decode cX6_apart 151 = .ok (.iload 5, 2) := by decide +kernel
theorem dX6_apart_153 : decode cX6_apart 153 = .ok (.ireturn, 1) := by decide +kernel
theorem dX6_hear_0 : decode cX6_hear 0 = .ok (.iload_n 1, 1) := by decide +kernel
theorem dX6_hear_1 : decode cX6_hear 1 = .ok (.iconst 0, 1) := by decide +kernel
theorem dX6_hear_2 : decode cX6_hear 2 = .ok (.iconst 5, 1) := by decide +kernel
theorem dX6_hear_3 : decode cX6_hear 3 = .ok (.invokestatic 73, 3) := by decide +kernel
theorem dX6_hear_6 : decode cX6_hear 6 = .ok (.ifCond .ne 11, 3) := by decide +kernel
theorem dX6_hear_9 : decode cX6_hear 9 = .ok (.iload_n 1, 1) := by decide +kernel
theorem dX6_hear_10 : decode cX6_hear 10 = .ok (.bipush 9, 2) := by decide +kernel
theorem dX6_hear_12 : decode cX6_hear 12 = .ok (.if_icmp .eq 5, 3) := by decide +kernel
theorem dX6_hear_15 : decode cX6_hear 15 = .ok (.iconst (-1), 1) := by decide +kernel
theorem dX6_hear_16 : decode cX6_hear 16 = .ok (.ireturn, 1) := by decide +kernel
theorem dX6_hear_17 : decode cX6_hear 17 = .ok (.aload_n 0, 1) := by decide +kernel
theorem dX6_hear_18 : decode cX6_hear 18 = .ok (.getfield 29, 3) := by decide +kernel
theorem dX6_hear_21 : decode cX6_hear 21 = .ok (.getfield 95, 3) := by decide +kernel
theorem dX6_hear_24 : decode cX6_hear 24 = .ok (.iload_n 1, 1) := by decide +kernel
theorem dX6_hear_25 : decode cX6_hear 25 = .ok (.invokevirtual 186, 3) := by decide +kernel
theorem dX6_hear_28 : decode cX6_hear 28 = .ok (.ifCond .eq 16, 3) := by decide +kernel
theorem dX6_hear_31 : decode cX6_hear 31 = .ok (.aload_n 0, 1) := by decide +kernel
theorem dX6_hear_32 : decode cX6_hear 32 = .ok (.getfield 29, 3) := by decide +kernel
theorem dX6_hear_35 : decode cX6_hear 35 = .ok (.getfield 95, 3) := by decide +kernel
theorem dX6_hear_38 : decode cX6_hear 38 = .ok (.getfield 189, 3) := by decide +kernel
theorem dX6_hear_41 : decode cX6_hear 41 = .ok (.goto 5, 3) := by decide +kernel
theorem dX6_hear_44 : decode cX6_hear 44 = .ok (.bipush (-3), 2) := by decide +kernel
theorem dX6_hear_46 : decode cX6_hear 46 = .ok (.ireturn, 1) := by decide +kernel
theorem dX6_forget_0 : decode cX6_forget 0 = .ok (.aload_n 0, 1) := by decide +kernel
theorem dX6_forget_1 : decode cX6_forget 1 = .ok (.getfield 29, 3) := by decide +kernel
theorem dX6_forget_4 : decode cX6_forget 4 = .ok (.getfield 95, 3) := by decide +kernel
theorem dX6_forget_7 : decode cX6_forget 7 = .ok (.getfield 189, 3) := by decide +kernel
theorem dX6_forget_10 : decode cX6_forget 10 = .ok (.istore_n 1, 1) := by decide +kernel
theorem dX6_forget_11 : decode cX6_forget 11 = .ok (.aload_n 0, 1) := by decide +kernel
theorem dX6_forget_12 : decode cX6_forget 12 = .ok (.getfield 29, 3) := by decide +kernel
theorem dX6_forget_15 : decode cX6_forget 15 = .ok (.getfield 95, 3) := by decide +kernel
theorem dX6_forget_18 : decode cX6_forget 18 = .ok (.invokevirtual 99, 3) := by decide +kernel
theorem dX6_forget_21 : decode cX6_forget 21 = .ok (.iload_n 1, 1) := by decide +kernel
theorem dX6_forget_22 : decode cX6_forget 22 = .ok (.ireturn, 1) := by decide +kernel
theorem dX6_odds_0 : decode cX6_odds 0 = .ok (.aload_n 0, 1) := by decide +kernel
theorem dX6_odds_1 : decode cX6_odds 1 = .ok (.getfield 29, 3) := by decide +kernel
theorem dX6_odds_4 : decode cX6_odds 4 = .ok (.getfield 65, 3) := by decide +kernel
theorem dX6_odds_7 : decode cX6_odds 7 = .ok (.iload_n 1, 1) := by decide +kernel
theorem dX6_odds_8 : decode cX6_odds 8 = .ok (.invokevirtual 104, 3) := by decide +kernel
theorem dX6_odds_11 : decode cX6_odds 11 = .ok (.ifCond .eq 12, 3) := by decide +kernel
theorem dX6_odds_14 : decode cX6_odds 14 = .ok (.iload_n 2, 1) := by decide +kernel
theorem dX6_odds_15 : decode cX6_odds 15 = .ok (.iconst 0, 1) := by decide +kernel
theorem dX6_odds_16 : decode cX6_odds 16 = .ok (.iconst 1, 1) := by decide +kernel
theorem dX6_odds_17 : decode cX6_odds 17 = .ok (.invokestatic 73, 3) := by decide +kernel
theorem dX6_odds_20 : decode cX6_odds 20 = .ok (.ifCond .ne 7, 3) := by decide +kernel
theorem dX6_odds_23 : decode cX6_odds 23 = .ok (.ldc2_w 192, 3) := by decide +kernel
theorem dX6_odds_26 : decode cX6_odds 26 = .ok (.lreturn, 1) := by decide +kernel
theorem dX6_odds_27 : decode cX6_odds 27 = .ok (.lconst 0, 1) := by decide +kernel
theorem dX6_odds_28 : decode cX6_odds 28 = .ok (.lstore_n 3, 1) := by decide +kernel
theorem dX6_odds_29 : decode cX6_odds 29 = .ok (.iconst 0, 1) := by decide +kernel
theorem dX6_odds_30 : decode cX6_odds 30 = .ok (.istore 5, 2) := by decide +kernel
theorem dX6_odds_32 : decode cX6_odds 32 = .ok (.iload 5, 2) := by decide +kernel
theorem dX6_odds_34 : decode cX6_odds 34 = .ok (.aload_n 0, 1) := by decide +kernel
theorem dX6_odds_35 : decode cX6_odds 35 = .ok (.getfield 29, 3) := by decide +kernel
theorem dX6_odds_38 : decode cX6_odds 38 = .ok (.getfield 65, 3) := by decide +kernel
theorem dX6_odds_41 : decode cX6_odds 41 = .ok (.getfield 92, 3) := by decide +kernel
theorem dX6_odds_44 : decode cX6_odds 44 = .ok (.if_icmp .ge 18, 3) := by decide +kernel
theorem dX6_odds_47 : decode cX6_odds 47 = .ok (.lload_n 3, 1) := by decide +kernel
theorem dX6_odds_48 : decode cX6_odds 48 = .ok (.aload_n 0, 1) := by decide +kernel
theorem dX6_odds_49 : decode cX6_odds 49 = .ok (.iload 5, 2) := by decide +kernel
theorem dX6_odds_51 : decode cX6_odds 51 = .ok (.invokevirtual 194, 3) := by decide +kernel
theorem dX6_odds_54 : decode cX6_odds 54 = .ok (.ladd, 1) := by decide +kernel
theorem dX6_odds_55 : decode cX6_odds 55 = .ok (.lstore_n 3, 1) := by decide +kernel
theorem dX6_odds_56 : decode cX6_odds 56 = .ok (.iinc 5 1, 3) := by decide +kernel
theorem dX6_odds_59 : decode cX6_odds 59 = .ok (.goto (-27), 3) := by decide +kernel
theorem dX6_odds_62 : decode cX6_odds 62 = .ok (.aload_n 0, 1) := by decide +kernel
theorem dX6_odds_63 : decode cX6_odds 63 = .ok (.iload_n 1, 1) := by decide +kernel
theorem dX6_odds_64 : decode cX6_odds 64 = .ok (.invokevirtual 194, 3) := by decide +kernel
theorem dX6_odds_67 : decode cX6_odds 67 = .ok (.lstore 5, 2) := by decide +kernel
theorem dX6_odds_69 : decode cX6_odds 69 = .ok (.lload_n 3, 1) := by decide +kernel
theorem dX6_odds_70 : decode cX6_odds 70 = .ok (.lload 5, 2) := by decide +kernel
theorem dX6_odds_72 : decode cX6_odds 72 = .ok (.invokestatic 198, 3) := by decide +kernel
theorem dX6_odds_75 : decode cX6_odds 75 = .ok (.lstore 7, 2) := by decide +kernel
theorem dX6_odds_77 : decode cX6_odds 77 = .ok (.lload_n 3, 1) := by decide +kernel
theorem dX6_odds_78 : decode cX6_odds 78 = .ok (.lconst 1, 1) := by decide +kernel
theorem dX6_odds_79 : decode cX6_odds 79 = .ok (.lcmp, 1) := by decide +kernel
theorem dX6_odds_80 : decode cX6_odds 80 = .ok (.ifCond .lt 10, 3) := by decide +kernel
theorem dX6_odds_83 : decode cX6_odds 83 = .ok (.lload 7, 2) := by decide +kernel
theorem dX6_odds_85 : decode cX6_odds 85 = .ok (.lconst 1, 1) := by decide +kernel
theorem dX6_odds_86 : decode cX6_odds 86 = .ok (.lcmp, 1) := by decide +kernel
theorem dX6_odds_87 : decode cX6_odds 87 = .ok (.ifCond .ge 7, 3) := by decide +kernel
theorem dX6_odds_90 : decode cX6_odds 90 = .ok (.ldc2_w 202, 3) := by decide +kernel
theorem dX6_odds_93 : decode cX6_odds 93 = .ok (.lreturn, 1) := by decide +kernel
theorem dX6_odds_94 : decode cX6_odds 94 = .ok (.iload_n 2, 1) := by decide +kernel
theorem dX6_odds_95 : decode cX6_odds 95 = .ok (.ifCond .ne 11, 3) := by decide +kernel
theorem dX6_odds_98 : decode cX6_odds 98 = .ok (.lload 5, 2) := by decide +kernel
theorem dX6_odds_100 : decode cX6_odds 100 = .ok (.lload 7, 2) := by decide +kernel
theorem dX6_odds_102 : decode cX6_odds 102 = .ok (.ldiv, 1) := by decide +kernel
theorem dX6_odds_103 : decode cX6_odds 103 = .ok (.goto 7, 3) := by decide +kernel
theorem dX6_odds_106 : decode cX6_odds 106 = .ok (.lload_n 3, 1) := by decide +kernel
theorem dX6_odds_107 : decode cX6_odds 107 = .ok (.lload 7, 2) := by decide +kernel
theorem dX6_odds_109 : decode cX6_odds 109 = .ok (.ldiv, 1) := by decide +kernel
theorem dX6_odds_110 : decode cX6_odds 110 = .ok (.lreturn, 1) := by decide +kernel
theorem dX6_meant_0 : decode cX6_meant 0 = .ok (.bipush (-4), 2) := by decide +kernel
theorem dX6_meant_2 : decode cX6_meant 2 = .ok (.istore_n 1, 1) := by decide +kernel
theorem dX6_meant_3 : decode cX6_meant 3 = .ok (.lconst 0, 1) := by decide +kernel
theorem dX6_meant_4 : decode cX6_meant 4 = .ok (.lstore_n 2, 1) := by decide +kernel
theorem dX6_meant_5 : decode cX6_meant 5 = .ok (.iconst 0, 1) := by decide +kernel
theorem dX6_meant_6 : decode cX6_meant 6 = .ok (.istore 4, 2) := by decide +kernel
theorem dX6_meant_8 : decode cX6_meant 8 = .ok (.iload 4, 2) := by decide +kernel
theorem dX6_meant_10 : decode cX6_meant 10 = .ok (.aload_n 0, 1) := by decide +kernel
theorem dX6_meant_11 : decode cX6_meant 11 = .ok (.getfield 29, 3) := by decide +kernel
theorem dX6_meant_14 : decode cX6_meant 14 = .ok (.getfield 65, 3) := by decide +kernel
theorem dX6_meant_17 : decode cX6_meant 17 = .ok (.getfield 92, 3) := by decide +kernel
theorem dX6_meant_20 : decode cX6_meant 20 = .ok (.if_icmp .ge 30, 3) := by decide +kernel
theorem dX6_meant_23 : decode cX6_meant 23 = .ok (.aload_n 0, 1) := by decide +kernel
theorem dX6_meant_24 : decode cX6_meant 24 = .ok (.iload 4, 2) := by decide +kernel
theorem dX6_meant_26 : decode cX6_meant 26 = .ok (.invokevirtual 194, 3) := by decide +kernel
theorem dX6_meant_29 : decode cX6_meant 29 = .ok (.lstore 5, 2) := by decide +kernel
theorem dX6_meant_31 : decode cX6_meant 31 = .ok (.lload 5, 2) := by decide +kernel
theorem dX6_meant_33 : decode cX6_meant 33 = .ok (.lload_n 2, 1) := by decide +kernel
theorem dX6_meant_34 : decode cX6_meant 34 = .ok (.lcmp, 1) := by decide +kernel
theorem dX6_meant_35 : decode cX6_meant 35 = .ok (.ifCond .le 9, 3) := by decide +kernel
theorem dX6_meant_38 : decode cX6_meant 38 = .ok (.iload 4, 2) := by decide +kernel
theorem dX6_meant_40 : decode cX6_meant 40 = .ok (.istore_n 1, 1) := by decide +kernel
theorem dX6_meant_41 : decode cX6_meant 41 = .ok (.lload 5, 2) := by decide +kernel
theorem dX6_meant_43 : decode cX6_meant 43 = .ok (.lstore_n 2, 1) := by decide +kernel
theorem dX6_meant_44 : decode cX6_meant 44 = .ok (.iinc 4 1, 3) := by decide +kernel
theorem dX6_meant_47 : decode cX6_meant 47 = .ok (.goto (-39), 3) := by decide +kernel
theorem dX6_meant_50 : decode cX6_meant 50 = .ok (.iload_n 1, 1) := by decide +kernel
theorem dX6_meant_51 : decode cX6_meant 51 = .ok (.ireturn, 1) := by decide +kernel
theorem dX6_years_0 : decode cX6_years 0 = .ok (.iload_n 1, 1) := by decide +kernel
theorem dX6_years_1 : decode cX6_years 1 = .ok (.iload_n 2, 1) := by decide +kernel
theorem dX6_years_2 : decode cX6_years 2 = .ok (.invokestatic 204, 3) := by decide +kernel
theorem dX6_years_5 : decode cX6_years 5 = .ok (.ifCond .eq 12, 3) := by decide +kernel
theorem dX6_years_8 : decode cX6_years 8 = .ok (.iload_n 3, 1) := by decide +kernel
theorem dX6_years_9 : decode cX6_years 9 = .ok (.iconst 0, 1) := by decide +kernel
theorem dX6_years_10 : decode cX6_years 10 = .ok (.iconst 2, 1) := by decide +kernel
theorem dX6_years_11 : decode cX6_years 11 = .ok (.invokestatic 73, 3) := by decide +kernel
theorem dX6_years_14 : decode cX6_years 14 = .ok (.ifCond .ne 5, 3) := by decide +kernel
theorem dX6_years_17 : decode cX6_years 17 = .ok (.iconst (-1), 1) := by decide +kernel
theorem dX6_years_18 : decode cX6_years 18 = .ok (.ireturn, 1) := by decide +kernel
theorem dX6_years_19 : decode cX6_years 19 = .ok (.aload_n 0, 1) := by decide +kernel
theorem dX6_years_20 : decode cX6_years 20 = .ok (.getfield 19, 3) := by decide +kernel
theorem dX6_years_23 : decode cX6_years 23 = .ok (.aload_n 0, 1) := by decide +kernel
theorem dX6_years_24 : decode cX6_years 24 = .ok (.getfield 53, 3) := by decide +kernel
theorem dX6_years_27 : decode cX6_years 27 = .ok (.aload_n 0, 1) := by decide +kernel
theorem dX6_years_28 : decode cX6_years 28 = .ok (.getfield 29, 3) := by decide +kernel
theorem dX6_years_31 : decode cX6_years 31 = .ok (.getfield 65, 3) := by decide +kernel
theorem dX6_years_34 : decode cX6_years 34 = .ok (.iload_n 1, 1) := by decide +kernel
theorem dX6_years_35 : decode cX6_years 35 = .ok (.iload_n 2, 1) := by decide +kernel
theorem dX6_years_36 : decode cX6_years 36 = .ok (.invokevirtual 207, 3) := by decide +kernel
theorem dX6_years_39 : decode cX6_years 39 = .ok (.iload_n 3, 1) := by decide +kernel
theorem dX6_years_40 : decode cX6_years 40 = .ok (.lookupswitch 63 #[(0, 28), (1, 55)], 28) := by decide +kernel
theorem dX6_years_68 : decode cX6_years 68 = .ok (.aload_n 0, 1) := by decide +kernel
theorem dX6_years_69 : decode cX6_years 69 = .ok (.getfield 46, 3) := by decide +kernel
theorem dX6_years_72 : decode cX6_years 72 = .ok (.aload_n 0, 1) := by decide +kernel
theorem dX6_years_73 : decode cX6_years 73 = .ok (.getfield 19, 3) := by decide +kernel
theorem dX6_years_76 : decode cX6_years 76 = .ok (.aload_n 0, 1) := by decide +kernel
theorem dX6_years_77 : decode cX6_years 77 = .ok (.getfield 53, 3) := by decide +kernel
theorem dX6_years_80 : decode cX6_years 80 = .ok (.invokevirtual 141, 3) := by decide +kernel
theorem dX6_years_83 : decode cX6_years 83 = .ok (.aload_n 0, 1) := by decide +kernel
theorem dX6_years_84 : decode cX6_years 84 = .ok (.getfield 46, 3) := by decide +kernel
theorem dX6_years_87 : decode cX6_years 87 = .ok (.aload_n 0, 1) := by decide +kernel
theorem dX6_years_88 : decode cX6_years 88 = .ok (.invokevirtual 211, 3) := by decide +kernel
theorem dX6_years_91 : decode cX6_years 91 = .ok (.invokevirtual 145, 3) := by decide +kernel
theorem dX6_years_94 : decode cX6_years 94 = .ok (.ireturn, 1) := by decide +kernel
theorem dX6_years_95 : decode cX6_years 95 = .ok (.aload_n 0, 1) := by decide +kernel
theorem dX6_years_96 : decode cX6_years 96 = .ok (.getfield 53, 3) := by decide +kernel
theorem dX6_years_99 : decode cX6_years 99 = .ok (.invokevirtual 215, 3) := by decide +kernel
theorem dX6_years_102 : decode cX6_years 102 = .ok (.ireturn, 1) := by decide +kernel
theorem dX6_years_103 : decode cX6_years 103 = .ok (.aload_n 0, 1) := by decide +kernel
theorem dX6_years_104 : decode cX6_years 104 = .ok (.getfield 53, 3) := by decide +kernel
theorem dX6_years_107 : decode cX6_years 107 = .ok (.aload_n 0, 1) := by decide +kernel
theorem dX6_years_108 : decode cX6_years 108 = .ok (.invokevirtual 211, 3) := by decide +kernel
theorem dX6_years_111 : decode cX6_years 111 = .ok (.invokevirtual 218, 3) := by decide +kernel
theorem dX6_years_114 : decode cX6_years 114 = .ok (.ireturn, 1) := by decide +kernel
theorem dX6_then_0 : decode cX6_then 0 = .ok (.iload_n 1, 1) := by decide +kernel
theorem dX6_then_1 : decode cX6_then 1 = .ok (.iload_n 2, 1) := by decide +kernel
theorem dX6_then_2 : decode cX6_then 2 = .ok (.invokestatic 204, 3) := by decide +kernel
theorem dX6_then_5 : decode cX6_then 5 = .ok (.ifCond .eq 28, 3) := by decide +kernel
theorem dX6_then_8 : decode cX6_then 8 = .ok (.aload_n 0, 1) := by decide +kernel
theorem dX6_then_9 : decode cX6_then 9 = .ok (.getfield 29, 3) := by decide +kernel
theorem dX6_then_12 : decode cX6_then 12 = .ok (.getfield 65, 3) := by decide +kernel
theorem dX6_then_15 : decode cX6_then 15 = .ok (.iload_n 3, 1) := by decide +kernel
theorem dX6_then_16 : decode cX6_then 16 = .ok (.invokevirtual 104, 3) := by decide +kernel
theorem dX6_then_19 : decode cX6_then 19 = .ok (.ifCond .eq 14, 3) := by decide +kernel
theorem dX6_then_22 : decode cX6_then 22 = .ok (.iload 4, 2) := by decide +kernel
theorem dX6_then_24 : decode cX6_then 24 = .ok (.iconst 0, 1) := by decide +kernel
theorem dX6_then_25 : decode cX6_then 25 = .ok (.bipush 9, 2) := by decide +kernel
theorem dX6_then_27 : decode cX6_then 27 = .ok (.invokestatic 73, 3) := by decide +kernel
theorem dX6_then_30 : decode cX6_then 30 = .ok (.ifCond .ne 5, 3) := by decide +kernel
theorem dX6_then_33 : decode cX6_then 33 = .ok (.iconst (-1), 1) := by decide +kernel
theorem dX6_then_34 : decode cX6_then 34 = .ok (.ireturn, 1) := by decide +kernel
theorem dX6_then_35 : decode cX6_then 35 = .ok (.aload_n 0, 1) := by decide +kernel
theorem dX6_then_36 : decode cX6_then 36 = .ok (.getfield 19, 3) := by decide +kernel
theorem dX6_then_39 : decode cX6_then 39 = .ok (.aload_n 0, 1) := by decide +kernel
theorem dX6_then_40 : decode cX6_then 40 = .ok (.getfield 53, 3) := by decide +kernel
theorem dX6_then_43 : decode cX6_then 43 = .ok (.aload_n 0, 1) := by decide +kernel
theorem dX6_then_44 : decode cX6_then 44 = .ok (.getfield 29, 3) := by decide +kernel
theorem dX6_then_47 : decode cX6_then 47 = .ok (.getfield 65, 3) := by decide +kernel
theorem dX6_then_50 : decode cX6_then 50 = .ok (.iload_n 1, 1) := by decide +kernel
theorem dX6_then_51 : decode cX6_then 51 = .ok (.iload_n 2, 1) := by decide +kernel
theorem dX6_then_52 : decode cX6_then 52 = .ok (.invokevirtual 207, 3) := by decide +kernel
theorem dX6_then_55 : decode cX6_then 55 = .ok (.aload_n 0, 1) := by decide +kernel
theorem dX6_then_56 : decode cX6_then 56 = .ok (.getfield 53, 3) := by decide +kernel
theorem dX6_then_59 : decode cX6_then 59 = .ok (.iload_n 3, 1) := by decide +kernel
theorem dX6_then_60 : decode cX6_then 60 = .ok (.iload 4, 2) := by decide +kernel
theorem dX6_then_62 : decode cX6_then 62 = .ok (.invokevirtual 221, 3) := by decide +kernel
theorem dX6_then_65 : decode cX6_then 65 = .ok (.ireturn, 1) := by decide +kernel
theorem dX6_keep_0 : decode cX6_keep 0 = .ok (.aload_n 0, 1) := by decide +kernel
theorem dX6_keep_1 : decode cX6_keep 1 = .ok (.getfield 39, 3) := by decide +kernel
theorem dX6_keep_4 : decode cX6_keep 4 = .ok (.iconst 2, 1) := by decide +kernel
theorem dX6_keep_5 : decode cX6_keep 5 = .ok (.if_icmp .lt 6, 3) := by decide +kernel
theorem dX6_keep_8 : decode cX6_keep 8 = .ok (.bipush (-3), 2) := by decide +kernel
theorem dX6_keep_10 : decode cX6_keep 10 = .ok (.ireturn, 1) := by decide +kernel
theorem dX6_keep_11 : decode cX6_keep 11 = .ok (.aload_n 0, 1) := by decide +kernel
theorem dX6_keep_12 : decode cX6_keep 12 = .ok (.aload_n 0, 1) := by decide +kernel
theorem dX6_keep_13 : decode cX6_keep 13 = .ok (.getfield 39, 3) := by decide +kernel
theorem dX6_keep_16 : decode cX6_keep 16 = .ok (.invokevirtual 224, 3) := by decide +kernel
theorem dX6_keep_19 : decode cX6_keep 19 = .ok (.aload_n 0, 1) := by decide +kernel
theorem dX6_keep_20 : decode cX6_keep 20 = .ok (.getfield 29, 3) := by decide +kernel
theorem dX6_keep_23 : decode cX6_keep 23 = .ok (.invokevirtual 228, 3) := by decide +kernel
theorem dX6_keep_26 : decode cX6_keep 26 = .ok (.aload_n 0, 1) := by decide +kernel
theorem dX6_keep_27 : decode cX6_keep 27 = .ok (.dup, 1) := by decide +kernel
theorem dX6_keep_28 : decode cX6_keep 28 = .ok (.getfield 39, 3) := by decide +kernel
theorem dX6_keep_31 : decode cX6_keep 31 = .ok (.iconst 1, 1) := by decide +kernel
theorem dX6_keep_32 : decode cX6_keep 32 = .ok (.iadd, 1) := by decide +kernel
theorem dX6_keep_33 : decode cX6_keep 33 = .ok (.putfield 39, 3) := by decide +kernel
theorem dX6_keep_36 : decode cX6_keep 36 = .ok (.aload_n 0, 1) := by decide +kernel
theorem dX6_keep_37 : decode cX6_keep 37 = .ok (.getfield 39, 3) := by decide +kernel
theorem dX6_keep_40 : decode cX6_keep 40 = .ok (.ireturn, 1) := by decide +kernel
theorem dX6_back_0 : decode cX6_back 0 = .ok (.aload_n 0, 1) := by decide +kernel
theorem dX6_back_1 : decode cX6_back 1 = .ok (.getfield 39, 3) := by decide +kernel
theorem dX6_back_4 : decode cX6_back 4 = .ok (.iconst 1, 1) := by decide +kernel
theorem dX6_back_5 : decode cX6_back 5 = .ok (.if_icmp .ge 6, 3) := by decide +kernel
theorem dX6_back_8 : decode cX6_back 8 = .ok (.bipush (-2), 2) := by decide +kernel
theorem dX6_back_10 : decode cX6_back 10 = .ok (.ireturn, 1) := by decide +kernel
theorem dX6_back_11 : decode cX6_back 11 = .ok (.aload_n 0, 1) := by decide +kernel
theorem dX6_back_12 : decode cX6_back 12 = .ok (.dup, 1) := by decide +kernel
theorem dX6_back_13 : decode cX6_back 13 = .ok (.getfield 39, 3) := by decide +kernel
theorem dX6_back_16 : decode cX6_back 16 = .ok (.iconst 1, 1) := by decide +kernel
theorem dX6_back_17 : decode cX6_back 17 = .ok (.isub, 1) := by decide +kernel
theorem dX6_back_18 : decode cX6_back 18 = .ok (.putfield 39, 3) := by decide +kernel
theorem dX6_back_21 : decode cX6_back 21 = .ok (.aload_n 0, 1) := by decide +kernel
theorem dX6_back_22 : decode cX6_back 22 = .ok (.getfield 29, 3) := by decide +kernel
theorem dX6_back_25 : decode cX6_back 25 = .ok (.aload_n 0, 1) := by decide +kernel
theorem dX6_back_26 : decode cX6_back 26 = .ok (.aload_n 0, 1) := by decide +kernel
theorem dX6_back_27 : decode cX6_back 27 = .ok (.getfield 39, 3) := by decide +kernel
theorem dX6_back_30 : decode cX6_back 30 = .ok (.invokevirtual 224, 3) := by decide +kernel
theorem dX6_back_33 : decode cX6_back 33 = .ok (.invokevirtual 228, 3) := by decide +kernel
theorem dX6_back_36 : decode cX6_back 36 = .ok (.aload_n 0, 1) := by decide +kernel
theorem dX6_back_37 : decode cX6_back 37 = .ok (.getfield 39, 3) := by decide +kernel
theorem dX6_back_40 : decode cX6_back 40 = .ok (.ireturn, 1) := by decide +kernel
theorem dX6_count_0 : decode cX6_count 0 = .ok (.iload_n 1, 1) := by decide +kernel
theorem dX6_count_1 : decode cX6_count 1 = .ok (.tableswitch 102 0 6 #[43, 54, 65, 73, 78, 86, 94], 43) := by decide +kernel
theorem dX6_count_44 : decode cX6_count 44 = .ok (.aload_n 0, 1) := by decide +kernel
theorem dX6_count_45 : decode cX6_count 45 = .ok (.getfield 29, 3) := by decide +kernel
theorem dX6_count_48 : decode cX6_count 48 = .ok (.getfield 65, 3) := by decide +kernel
theorem dX6_count_51 : decode cX6_count 51 = .ok (.getfield 92, 3) := by decide +kernel
theorem dX6_count_54 : decode cX6_count 54 = .ok (.ireturn, 1) := by decide +kernel
theorem dX6_count_55 : decode cX6_count 55 = .ok (.aload_n 0, 1) := by decide +kernel
theorem dX6_count_56 : decode cX6_count 56 = .ok (.getfield 29, 3) := by decide +kernel
theorem dX6_count_59 : decode cX6_count 59 = .ok (.getfield 95, 3) := by decide +kernel
theorem dX6_count_62 : decode cX6_count 62 = .ok (.getfield 189, 3) := by decide +kernel
theorem dX6_count_65 : decode cX6_count 65 = .ok (.ireturn, 1) := by decide +kernel
theorem dX6_count_66 : decode cX6_count 66 = .ok (.aload_n 0, 1) := by decide +kernel
theorem dX6_count_67 : decode cX6_count 67 = .ok (.getfield 10, 3) := by decide +kernel
theorem dX6_count_70 : decode cX6_count 70 = .ok (.getfield 85, 3) := by decide +kernel
theorem dX6_count_73 : decode cX6_count 73 = .ok (.ireturn, 1) := by decide +kernel
theorem dX6_count_74 : decode cX6_count 74 = .ok (.aload_n 0, 1) := by decide +kernel
theorem dX6_count_75 : decode cX6_count 75 = .ok (.getfield 39, 3) := by decide +kernel
theorem dX6_count_78 : decode cX6_count 78 = .ok (.ireturn, 1) := by decide +kernel
theorem dX6_count_79 : decode cX6_count 79 = .ok (.aload_n 0, 1) := by decide +kernel
theorem dX6_count_80 : decode cX6_count 80 = .ok (.getfield 19, 3) := by decide +kernel
theorem dX6_count_83 : decode cX6_count 83 = .ok (.getfield 231, 3) := by decide +kernel
theorem dX6_count_86 : decode cX6_count 86 = .ok (.ireturn, 1) := by decide +kernel
theorem dX6_count_87 : decode cX6_count 87 = .ok (.aload_n 0, 1) := by decide +kernel
theorem dX6_count_88 : decode cX6_count 88 = .ok (.getfield 19, 3) := by decide +kernel
theorem dX6_count_91 : decode cX6_count 91 = .ok (.getfield 234, 3) := by decide +kernel
theorem dX6_count_94 : decode cX6_count 94 = .ok (.ireturn, 1) := by decide +kernel
theorem dX6_count_95 : decode cX6_count 95 = .ok (.aload_n 0, 1) := by decide +kernel
theorem dX6_count_96 : decode cX6_count 96 = .ok (.getfield 19, 3) := by decide +kernel
theorem dX6_count_99 : decode cX6_count 99 = .ok (.getfield 237, 3) := by decide +kernel
theorem dX6_count_102 : decode cX6_count 102 = .ok (.ireturn, 1) := by decide +kernel
theorem dX6_count_103 : decode cX6_count 103 = .ok (.iconst (-1), 1) := by decide +kernel
theorem dX6_count_104 : decode cX6_count 104 = .ok (.ireturn, 1) := by decide +kernel
theorem dX6_within_0 : decode cX6_within 0 = .ok (.iload_n 0, 1) := by decide +kernel
theorem dX6_within_1 : decode cX6_within 1 = .ok (.iload_n 1, 1) := by decide +kernel
theorem dX6_within_2 : decode cX6_within 2 = .ok (.if_icmp .lt 12, 3) := by decide +kernel
theorem dX6_within_5 : decode cX6_within 5 = .ok (.iload_n 0, 1) := by decide +kernel
theorem dX6_within_6 : decode cX6_within 6 = .ok (.iload_n 2, 1) := by decide +kernel
theorem dX6_within_7 : decode cX6_within 7 = .ok (.if_icmp .gt 7, 3) := by decide +kernel
theorem dX6_within_10 : decode cX6_within 10 = .ok (.iconst 1, 1) := by decide +kernel
theorem dX6_within_11 : decode cX6_within 11 = .ok (.goto 4, 3) := by decide +kernel
theorem dX6_within_14 : decode cX6_within 14 = .ok (.iconst 0, 1) := by decide +kernel
theorem dX6_within_15 : decode cX6_within 15 = .ok (.ireturn, 1) := by decide +kernel
theorem dX6_isOf_0 : decode cX6_isOf 0 = .ok (.iload_n 0, 1) := by decide +kernel
theorem dX6_isOf_1 : decode cX6_isOf 1 = .ok (.iconst 0, 1) := by decide +kernel
theorem dX6_isOf_2 : decode cX6_isOf 2 = .ok (.bipush 7, 2) := by decide +kernel
theorem dX6_isOf_4 : decode cX6_isOf 4 = .ok (.invokestatic 73, 3) := by decide +kernel
theorem dX6_isOf_7 : decode cX6_isOf 7 = .ok (.ifCond .eq 15, 3) := by decide +kernel
theorem dX6_isOf_10 : decode cX6_isOf 10 = .ok (.iload_n 1, 1) := by decide +kernel
theorem dX6_isOf_11 : decode cX6_isOf 11 = .ok (.iconst 1, 1) := by decide +kernel
theorem dX6_isOf_12 : decode cX6_isOf 12 = .ok (.iload_n 0, 1) := by decide +kernel
theorem dX6_isOf_13 : decode cX6_isOf 13 = .ok (.ishl, 1) := by decide +kernel
theorem dX6_isOf_14 : decode cX6_isOf 14 = .ok (.iand, 1) := by decide +kernel
theorem dX6_isOf_15 : decode cX6_isOf 15 = .ok (.ifCond .eq 7, 3) := by decide +kernel
theorem dX6_isOf_18 : decode cX6_isOf 18 = .ok (.iconst 1, 1) := by decide +kernel
theorem dX6_isOf_19 : decode cX6_isOf 19 = .ok (.goto 4, 3) := by decide +kernel
theorem dX6_isOf_22 : decode cX6_isOf 22 = .ok (.iconst 0, 1) := by decide +kernel
theorem dX6_isOf_23 : decode cX6_isOf 23 = .ok (.ireturn, 1) := by decide +kernel
theorem dX6_isHillTime_0 : decode cX6_isHillTime 0 = .ok (.iload_n 0, 1) := by decide +kernel
theorem dX6_isHillTime_1 : decode cX6_isHillTime 1 = .ok (.iconst 0, 1) := by decide +kernel
theorem dX6_isHillTime_2 : decode cX6_isHillTime 2 = .ok (.sipush 9999, 3) := by decide +kernel
theorem dX6_isHillTime_5 : decode cX6_isHillTime 5 = .ok (.invokestatic 73, 3) := by decide +kernel
theorem dX6_isHillTime_8 : decode cX6_isHillTime 8 = .ok (.ifCond .eq 17, 3) := by decide +kernel
theorem dX6_isHillTime_11 : decode cX6_isHillTime 11 = .ok (.iload_n 1, 1) := by decide +kernel
theorem dX6_isHillTime_12 : decode cX6_isHillTime 12 = .ok (.iconst 0, 1) := by decide +kernel
theorem dX6_isHillTime_13 : decode cX6_isHillTime 13 = .ok (.bipush 60, 2) := by decide +kernel
theorem dX6_isHillTime_15 : decode cX6_isHillTime 15 = .ok (.invokestatic 73, 3) := by decide +kernel
theorem dX6_isHillTime_18 : decode cX6_isHillTime 18 = .ok (.ifCond .eq 7, 3) := by decide +kernel
theorem dX6_isHillTime_21 : decode cX6_isHillTime 21 = .ok (.iconst 1, 1) := by decide +kernel
theorem dX6_isHillTime_22 : decode cX6_isHillTime 22 = .ok (.goto 4, 3) := by decide +kernel
theorem dX6_isHillTime_25 : decode cX6_isHillTime 25 = .ok (.iconst 0, 1) := by decide +kernel
theorem dX6_isHillTime_26 : decode cX6_isHillTime 26 = .ok (.ireturn, 1) := by decide +kernel
theorem dX6_commonDivisor_0 : decode cX6_commonDivisor 0 = .ok (.iconst 0, 1) := by decide +kernel
theorem dX6_commonDivisor_1 : decode cX6_commonDivisor 1 = .ok (.istore 4, 2) := by decide +kernel
theorem dX6_commonDivisor_3 : decode cX6_commonDivisor 3 = .ok (.iload 4, 2) := by decide +kernel
theorem dX6_commonDivisor_5 : decode cX6_commonDivisor 5 = .ok (.bipush 100, 2) := by decide +kernel
theorem dX6_commonDivisor_7 : decode cX6_commonDivisor 7 = .ok (.if_icmp .ge 25, 3) := by decide +kernel
theorem dX6_commonDivisor_10 : decode cX6_commonDivisor 10 = .ok (.lload_n 2, 1) := by decide +kernel
theorem dX6_commonDivisor_11 : decode cX6_commonDivisor 11 = .ok (.lconst 0, 1) := by decide +kernel
theorem dX6_commonDivisor_12 : decode cX6_commonDivisor 12 = .ok (.lcmp, 1) := by decide +kernel
theorem dX6_commonDivisor_13 : decode cX6_commonDivisor 13 = .ok (.ifCond .eq 19, 3) := by decide +kernel
theorem dX6_commonDivisor_16 : decode cX6_commonDivisor 16 = .ok (.lload_n 0, 1) := by decide +kernel
theorem dX6_commonDivisor_17 : decode cX6_commonDivisor 17 = .ok (.lload_n 2, 1) := by decide +kernel
theorem dX6_commonDivisor_18 : decode cX6_commonDivisor 18 = .ok (.lrem, 1) := by decide +kernel
theorem dX6_commonDivisor_19 : decode cX6_commonDivisor 19 = .ok (.lstore 5, 2) := by decide +kernel
theorem dX6_commonDivisor_21 : decode cX6_commonDivisor 21 = .ok (.lload_n 2, 1) := by decide +kernel
theorem dX6_commonDivisor_22 : decode cX6_commonDivisor 22 = .ok (.lstore_n 0, 1) := by decide +kernel
theorem dX6_commonDivisor_23 : decode cX6_commonDivisor 23 = .ok (.lload 5, 2) := by decide +kernel
theorem dX6_commonDivisor_25 : decode cX6_commonDivisor 25 = .ok (.lstore_n 2, 1) := by decide +kernel
theorem dX6_commonDivisor_26 : decode cX6_commonDivisor 26 = .ok (.iinc 4 1, 3) := by decide +kernel
theorem dX6_commonDivisor_29 : decode cX6_commonDivisor 29 = .ok (.goto (-26), 3) := by decide +kernel
theorem dX6_commonDivisor_32 : decode cX6_commonDivisor 32 = .ok (.lload_n 0, 1) := by decide +kernel
theorem dX6_commonDivisor_33 : decode cX6_commonDivisor 33 = .ok (.lreturn, 1) := by decide +kernel
theorem dX6_everyone_0 : decode cX6_everyone 0 = .ok (.iconst 1, 1) := by decide +kernel
theorem dX6_everyone_1 : decode cX6_everyone 1 = .ok (.aload_n 0, 1) := by decide +kernel
theorem dX6_everyone_2 : decode cX6_everyone 2 = .ok (.getfield 29, 3) := by decide +kernel
theorem dX6_everyone_5 : decode cX6_everyone 5 = .ok (.getfield 65, 3) := by decide +kernel
theorem dX6_everyone_8 : decode cX6_everyone 8 = .ok (.getfield 92, 3) := by decide +kernel
theorem dX6_everyone_11 : decode cX6_everyone 11 = .ok (.ishl, 1) := by decide +kernel
theorem dX6_everyone_12 : decode cX6_everyone 12 = .ok (.iconst 1, 1) := by decide +kernel
theorem dX6_everyone_13 : decode cX6_everyone 13 = .ok (.isub, 1) := by decide +kernel
theorem dX6_everyone_14 : decode cX6_everyone 14 = .ok (.ireturn, 1) := by decide +kernel
theorem dX6_isSet_0 : decode cX6_isSet 0 = .ok (.iload_n 1, 1) := by decide +kernel
theorem dX6_isSet_1 : decode cX6_isSet 1 = .ok (.iconst 1, 1) := by decide +kernel
theorem dX6_isSet_2 : decode cX6_isSet 2 = .ok (.aload_n 0, 1) := by decide +kernel
theorem dX6_isSet_3 : decode cX6_isSet 3 = .ok (.invokevirtual 211, 3) := by decide +kernel
theorem dX6_isSet_6 : decode cX6_isSet 6 = .ok (.invokestatic 73, 3) := by decide +kernel
theorem dX6_isSet_9 : decode cX6_isSet 9 = .ok (.ireturn, 1) := by decide +kernel
theorem dX6_weightOf_0 : decode cX6_weightOf 0 = .ok (.aload_n 0, 1) := by decide +kernel
theorem dX6_weightOf_1 : decode cX6_weightOf 1 = .ok (.getfield 29, 3) := by decide +kernel
theorem dX6_weightOf_4 : decode cX6_weightOf 4 = .ok (.getfield 95, 3) := by decide +kernel
theorem dX6_weightOf_7 : decode cX6_weightOf 7 = .ok (.aload_n 0, 1) := by decide +kernel
theorem dX6_weightOf_8 : decode cX6_weightOf 8 = .ok (.getfield 29, 3) := by decide +kernel
theorem dX6_weightOf_11 : decode cX6_weightOf 11 = .ok (.getfield 65, 3) := by decide +kernel
theorem dX6_weightOf_14 : decode cX6_weightOf 14 = .ok (.iload_n 1, 1) := by decide +kernel
theorem dX6_weightOf_15 : decode cX6_weightOf 15 = .ok (.aload_n 0, 1) := by decide +kernel
theorem dX6_weightOf_16 : decode cX6_weightOf 16 = .ok (.getfield 19, 3) := by decide +kernel
theorem dX6_weightOf_19 : decode cX6_weightOf 19 = .ok (.getfield 237, 3) := by decide +kernel
theorem dX6_weightOf_22 : decode cX6_weightOf 22 = .ok (.invokevirtual 240, 3) := by decide +kernel
theorem dX6_weightOf_25 : decode cX6_weightOf 25 = .ok (.aload_n 0, 1) := by decide +kernel
theorem dX6_weightOf_26 : decode cX6_weightOf 26 = .ok (.getfield 19, 3) := by decide +kernel
theorem dX6_weightOf_29 : decode cX6_weightOf 29 = .ok (.iload_n 1, 1) := by decide +kernel
theorem dX6_weightOf_30 : decode cX6_weightOf 30 = .ok (.invokevirtual 114, 3) := by decide +kernel
theorem dX6_weightOf_33 : decode cX6_weightOf 33 = .ok (.iconst 1, 1) := by decide +kernel
theorem dX6_weightOf_34 : decode cX6_weightOf 34 = .ok (.iadd, 1) := by decide +kernel
theorem dX6_weightOf_35 : decode cX6_weightOf 35 = .ok (.i2l, 1) := by decide +kernel
theorem dX6_weightOf_36 : decode cX6_weightOf 36 = .ok (.lmul, 1) := by decide +kernel
theorem dX6_weightOf_37 : decode cX6_weightOf 37 = .ok (.lreturn, 1) := by decide +kernel
theorem dX6_keptPlace_0 : decode cX6_keptPlace 0 = .ok (.iload_n 1, 1) := by decide +kernel
theorem dX6_keptPlace_1 : decode cX6_keptPlace 1 = .ok (.ifCond .ne 10, 3) := by decide +kernel
theorem dX6_keptPlace_4 : decode cX6_keptPlace 4 = .ok (.aload_n 0, 1) := by decide +kernel
theorem dX6_keptPlace_5 : decode cX6_keptPlace 5 = .ok (.getfield 33, 3) := by decide +kernel
theorem dX6_keptPlace_8 : decode cX6_keptPlace 8 = .ok (.goto 7, 3) := by decide +kernel
theorem dX6_keptPlace_11 : decode cX6_keptPlace 11 = .ok (.aload_n 0, 1) := by decide +kernel
theorem dX6_keptPlace_12 : decode cX6_keptPlace 12 = .ok (.getfield 36, 3) := by decide +kernel
theorem dX6_keptPlace_15 : decode cX6_keptPlace 15 = .ok (.areturn, 1) := by decide +kernel
theorem dX7_init_0 : decode cX7_init 0 = .ok (.aload_n 0, 1) := by decide +kernel
theorem dX7_init_1 : decode cX7_init 1 = .ok (.invokespecial 1, 3) := by decide +kernel
theorem dX7_init_4 : decode cX7_init 4 = .ok (.aload_n 0, 1) := by decide +kernel
theorem dX7_init_5 : decode cX7_init 5 = .ok (.sipush 400, 3) := by decide +kernel
theorem dX7_init_8 : decode cX7_init 8 = .ok (.newarray .int, 2) := by decide +kernel
theorem dX7_init_10 : decode cX7_init 10 = .ok (.putfield 7, 3) := by decide +kernel
theorem dX7_init_13 : decode cX7_init 13 = .ok (.aload_n 0, 1) := by decide +kernel
theorem dX7_init_14 : decode cX7_init 14 = .ok (.iconst 2, 1) := by decide +kernel
theorem dX7_init_15 : decode cX7_init 15 = .ok (.newarray .int, 2) := by decide +kernel
theorem dX7_init_17 : decode cX7_init 17 = .ok (.putfield 13, 3) := by decide +kernel
theorem dX7_init_20 : decode cX7_init 20 = .ok (.aload_n 0, 1) := by decide +kernel
theorem dX7_init_21 : decode cX7_init 21 = .ok (.bipush 16, 2) := by decide +kernel
theorem dX7_init_23 : decode cX7_init 23 = .ok (.newarray .int, 2) := by decide +kernel
theorem dX7_init_25 : decode cX7_init 25 = .ok (.putfield 16, 3) := by decide +kernel
theorem dX7_init_28 : decode cX7_init 28 = .ok (.aload_n 0, 1) := by decide +kernel
theorem dX7_init_29 : decode cX7_init 29 = .ok (.bipush 16, 2) := by decide +kernel
theorem dX7_init_31 : decode cX7_init 31 = .ok (.newarray .int, 2) := by decide +kernel
theorem dX7_init_33 : decode cX7_init 33 = .ok (.putfield 19, 3) := by decide +kernel
theorem dX7_init_36 : decode cX7_init 36 = .ok (.aload_n 0, 1) := by decide +kernel
theorem dX7_init_37 : decode cX7_init 37 = .ok (.bipush 96, 2) := by decide +kernel
theorem dX7_init_39 : decode cX7_init 39 = .ok (.newarray .int, 2) := by decide +kernel
theorem dX7_init_41 : decode cX7_init 41 = .ok (.putfield 22, 3) := by decide +kernel
theorem dX7_init_44 : decode cX7_init 44 = .ok (.aload_n 0, 1) := by decide +kernel
theorem dX7_init_45 : decode cX7_init 45 = .ok (.bipush 16, 2) := by decide +kernel
theorem dX7_init_47 : decode cX7_init 47 = .ok (.newarray .int, 2) := by decide +kernel
theorem dX7_init_49 : decode cX7_init 49 = .ok (.putfield 25, 3) := by decide +kernel
theorem dX7_init_52 : decode cX7_init 52 = .ok (.aload_n 0, 1) := by decide +kernel
theorem dX7_init_53 : decode cX7_init 53 = .ok (.bipush 16, 2) := by decide +kernel
theorem dX7_init_55 : decode cX7_init 55 = .ok (.newarray .int, 2) := by decide +kernel
theorem dX7_init_57 : decode cX7_init 57 = .ok (.putfield 28, 3) := by decide +kernel
theorem dX7_init_60 : decode cX7_init 60 = .ok (.aload_n 0, 1) := by decide +kernel
theorem dX7_init_61 : decode cX7_init 61 = .ok (.bipush 12, 2) := by decide +kernel
theorem dX7_init_63 : decode cX7_init 63 = .ok (.newarray .int, 2) := by decide +kernel
theorem dX7_init_65 : decode cX7_init 65 = .ok (.putfield 31, 3) := by decide +kernel
theorem dX7_init_68 : decode cX7_init 68 = .ok (.aload_n 0, 1) := by decide +kernel
theorem dX7_init_69 : decode cX7_init 69 = .ok (.bipush 12, 2) := by decide +kernel
theorem dX7_init_71 : decode cX7_init 71 = .ok (.newarray .int, 2) := by decide +kernel
theorem dX7_init_73 : decode cX7_init 73 = .ok (.putfield 34, 3) := by decide +kernel
theorem dX7_init_76 : decode cX7_init 76 = .ok (.aload_n 0, 1) := by decide +kernel
theorem dX7_init_77 : decode cX7_init 77 = .ok (.bipush 12, 2) := by decide +kernel
theorem dX7_init_79 : decode cX7_init 79 = .ok (.newarray .int, 2) := by decide +kernel
theorem dX7_init_81 : decode cX7_init 81 = .ok (.putfield 37, 3) := by decide +kernel
theorem dX7_init_84 : decode cX7_init 84 = .ok (.aload_n 0, 1) := by decide +kernel
theorem dX7_init_85 : decode cX7_init 85 = .ok (.bipush 6, 2) := by decide +kernel
theorem dX7_init_87 : decode cX7_init 87 = .ok (.newarray .int, 2) := by decide +kernel
theorem dX7_init_89 : decode cX7_init 89 = .ok (.putfield 40, 3) := by decide +kernel
theorem dX7_init_92 : decode cX7_init 92 = .ok (.aload_n 0, 1) := by decide +kernel
theorem dX7_init_93 : decode cX7_init 93 = .ok (.bipush 32, 2) := by decide +kernel
theorem dX7_init_95 : decode cX7_init 95 = .ok (.newarray .int, 2) := by decide +kernel
theorem dX7_init_97 : decode cX7_init 97 = .ok (.putfield 43, 3) := by decide +kernel
theorem dX7_init_100 : decode cX7_init 100 = .ok (.aload_n 0, 1) := by decide +kernel
theorem dX7_init_101 : decode cX7_init 101 = .ok (.bipush 32, 2) := by decide +kernel
theorem dX7_init_103 : decode cX7_init 103 = .ok (.newarray .int, 2) := by decide +kernel
theorem dX7_init_105 : decode cX7_init 105 = .ok (.putfield 46, 3) := by decide +kernel
theorem dX7_init_108 : decode cX7_init 108 = .ok (.aload_n 0, 1) := by decide +kernel
theorem dX7_init_109 : decode cX7_init 109 = .ok (.sipush 320, 3) := by decide +kernel
theorem dX7_init_112 : decode cX7_init 112 = .ok (.newarray .int, 2) := by decide +kernel
theorem dX7_init_114 : decode cX7_init 114 = .ok (.putfield 49, 3) := by decide +kernel
theorem dX7_init_117 : decode cX7_init 117 = .ok (.aload_n 0, 1) := by decide +kernel
theorem dX7_init_118 : decode cX7_init 118 = .ok (.iconst 3, 1) := by decide +kernel
theorem dX7_init_119 : decode cX7_init 119 = .ok (.newarray .int, 2) := by decide +kernel
theorem dX7_init_121 : decode cX7_init 121 = .ok (.putfield 52, 3) := by decide +kernel
theorem dX7_init_124 : decode cX7_init 124 = .ok (.aload_n 0, 1) := by decide +kernel
theorem dX7_init_125 : decode cX7_init 125 = .ok (.bipush 36, 2) := by decide +kernel
theorem dX7_init_127 : decode cX7_init 127 = .ok (.newarray .int, 2) := by decide +kernel
theorem dX7_init_129 : decode cX7_init 129 = .ok (.putfield 55, 3) := by decide +kernel
theorem dX7_init_132 : decode cX7_init 132 = .ok (.aload_n 0, 1) := by decide +kernel
theorem dX7_init_133 : decode cX7_init 133 = .ok (.iconst 2, 1) := by decide +kernel
theorem dX7_init_134 : decode cX7_init 134 = .ok (.newarray .int, 2) := by decide +kernel
theorem dX7_init_136 : decode cX7_init 136 = .ok (.putfield 58, 3) := by decide +kernel
theorem dX7_init_139 : decode cX7_init 139 = .ok (.aload_n 0, 1) := by decide +kernel
theorem dX7_init_140 : decode cX7_init 140 = .ok (.sipush 160, 3) := by decide +kernel
theorem dX7_init_143 : decode cX7_init 143 = .ok (.newarray .int, 2) := by decide +kernel
theorem dX7_init_145 : decode cX7_init 145 = .ok (.putfield 61, 3) := by decide +kernel
theorem dX7_init_148 : decode cX7_init 148 = .ok (.aload_n 0, 1) := by decide +kernel
theorem dX7_init_149 : decode cX7_init 149 = .ok (.bipush 8, 2) := by decide +kernel
theorem dX7_init_151 : decode cX7_init 151 = .ok (.newarray .int, 2) := by decide +kernel
theorem dX7_init_153 : decode cX7_init 153 = .ok (.putfield 64, 3) := by decide +kernel
theorem dX7_init_156 : decode cX7_init 156 = .ok (.aload_n 0, 1) := by decide +kernel
theorem dX7_init_157 : decode cX7_init 157 = .ok (.bipush 8, 2) := by decide +kernel
theorem dX7_init_159 : decode cX7_init 159 = .ok (.newarray .int, 2) := by decide +kernel
theorem dX7_init_161 : decode cX7_init 161 = .ok (.putfield 67, 3) := by decide +kernel
theorem dX7_init_164 : decode cX7_init 164 = .ok (.aload_n 0, 1) := by decide +kernel
theorem dX7_init_165 : decode cX7_init 165 = .ok (.sipush 256, 3) := by decide +kernel
theorem dX7_init_168 : decode cX7_init 168 = .ok (.newarray .int, 2) := by decide +kernel
theorem dX7_init_170 : decode cX7_init 170 = .ok (.putfield 70, 3) := by decide +kernel
theorem dX7_init_173 : decode cX7_init 173 = .ok (.aload_n 0, 1) := by decide +kernel
theorem dX7_init_174 : decode cX7_init 174 = .ok (.sipush 256, 3) := by decide +kernel
theorem dX7_init_177 : decode cX7_init 177 = .ok (.newarray .int, 2) := by decide +kernel
theorem dX7_init_179 : decode cX7_init 179 = .ok (.putfield 73, 3) := by decide +kernel
theorem dX7_init_182 : decode cX7_init 182 = .ok (.aload_n 0, 1) := by decide +kernel
theorem dX7_init_183 : decode cX7_init 183 = .ok (.sipush 3328, 3) := by decide +kernel
theorem dX7_init_186 : decode cX7_init 186 = .ok (.newarray .int, 2) := by decide +kernel
theorem dX7_init_188 : decode cX7_init 188 = .ok (.putfield 76, 3) := by decide +kernel
theorem dX7_init_191 : decode cX7_init 191 = .ok (.aload_n 0, 1) := by decide +kernel
theorem dX7_init_192 : decode cX7_init 192 = .ok (.iconst 0, 1) := by decide +kernel
theorem dX7_init_193 : decode cX7_init 193 = .ok (.invokevirtual 79, 3) := by decide +kernel
theorem dX7_init_196 : decode cX7_init 196 = .ok (.aload_n 0, 1) := by decide +kernel
theorem dX7_init_197 : decode cX7_init 197 = .ok (.getfield 13, 3) := by decide +kernel
theorem dX7_init_200 : decode cX7_init 200 = .ok (.iconst 0, 1) := by decide +kernel
theorem dX7_init_201 : decode cX7_init 201 = .ok (.iconst 1, 1) := by decide +kernel
theorem dX7_init_202 : decode cX7_init 202 = .ok (.iastore, 1) := by decide +kernel
theorem dX7_init_203 : decode cX7_init 203 = .ok (.aload_n 0, 1) := by decide +kernel
theorem dX7_init_204 : decode cX7_init 204 = .ok (.getfield 19, 3) := by decide +kernel
theorem dX7_init_207 : decode cX7_init 207 = .ok (.iconst 0, 1) := by decide +kernel
theorem dX7_init_208 : decode cX7_init 208 = .ok (.iconst 2, 1) := by decide +kernel
theorem dX7_init_209 : decode cX7_init 209 = .ok (.iastore, 1) := by decide +kernel
theorem dX7_init_210 : decode cX7_init 210 = .ok (.aload_n 0, 1) := by decide +kernel
theorem dX7_init_211 : decode cX7_init 211 = .ok (.getfield 22, 3) := by decide +kernel
theorem dX7_init_214 : decode cX7_init 214 = .ok (.iconst 1, 1) := by decide +kernel
theorem dX7_init_215 : decode cX7_init 215 = .ok (.iconst 1, 1) := by decide +kernel
theorem dX7_init_216 : decode cX7_init 216 = .ok (.iastore, 1) := by decide +kernel
theorem dX7_init_217 : decode cX7_init 217 = .ok (.aload_n 0, 1) := by decide +kernel
theorem dX7_init_218 : decode cX7_init 218 = .ok (.getfield 25, 3) := by decide +kernel
theorem dX7_init_221 : decode cX7_init 221 = .ok (.iconst 0, 1) := by decide +kernel
theorem dX7_init_222 : decode cX7_init 222 = .ok (.iconst 5, 1) := by decide +kernel
theorem dX7_init_223 : decode cX7_init 223 = .ok (.iastore, 1) := by decide +kernel
theorem dX7_init_224 : decode cX7_init 224 = .ok (.aload_n 0, 1) := by decide +kernel
theorem dX7_init_225 : decode cX7_init 225 = .ok (.invokevirtual 83, 3) := by decide +kernel
theorem dX7_init_228 : decode cX7_init 228 = .ok (.return_, 1) := by decide +kernel
theorem dX7_in_0 : decode cX7_in 0 = .ok (.lload_n 0, 1) := by decide +kernel
theorem dX7_in_1 : decode cX7_in 1 = .ok (.lload_n 2, 1) := by decide +kernel
theorem dX7_in_2 : decode cX7_in 2 = .ok (.lcmp, 1) := by decide +kernel
theorem dX7_in_3 : decode cX7_in 3 = .ok (.ifCond .lt 14, 3) := by decide +kernel
theorem dX7_in_6 : decode cX7_in 6 = .ok (.lload_n 0, 1) := by decide +kernel
theorem dX7_in_7 : decode cX7_in 7 = .ok (.lload 4, 2) := by decide +kernel
theorem dX7_in_9 : decode cX7_in 9 = .ok (.lcmp, 1) := by decide +kernel
theorem dX7_in_10 : decode cX7_in 10 = .ok (.ifCond .gt 7, 3) := by decide +kernel
theorem dX7_in_13 : decode cX7_in 13 = .ok (.iconst 1, 1) := by decide +kernel
theorem dX7_in_14 : decode cX7_in 14 = .ok (.goto 4, 3) := by decide +kernel
theorem dX7_in_17 : decode cX7_in 17 = .ok (.iconst 0, 1) := by decide +kernel
theorem dX7_in_18 : decode cX7_in 18 = .ok (.ireturn, 1) := by decide +kernel
theorem dX7_has_0 : decode cX7_has 0 = .ok (.iload_n 0, 1) := by decide +kernel
theorem dX7_has_1 : decode cX7_has 1 = .ok (.iload_n 1, 1) := by decide +kernel
theorem dX7_has_2 : decode cX7_has 2 = .ok (.ishr, 1) := by decide +kernel
theorem dX7_has_3 : decode cX7_has 3 = .ok (.iconst 1, 1) := by decide +kernel
theorem dX7_has_4 : decode cX7_has 4 = .ok (.iand, 1) := by decide +kernel
theorem dX7_has_5 : decode cX7_has 5 = .ok (.iconst 1, 1) := by decide +kernel
theorem dX7_has_6 : decode cX7_has 6 = .ok (.if_icmp .ne 7, 3) := by decide +kernel
theorem dX7_has_9 : decode cX7_has 9 = .ok (.iconst 1, 1) := by decide +kernel
theorem dX7_has_10 : decode cX7_has 10 = .ok (.goto 4, 3) := by decide +kernel
theorem dX7_has_13 : decode cX7_has 13 = .ok (.iconst 0, 1) := by decide +kernel
theorem dX7_has_14 : decode cX7_has 14 = .ok (.ireturn, 1) := by decide +kernel
theorem dX7_noHill_0 : decode cX7_noHill 0 = .ok (.aload_n 0, 1) := by decide +kernel
theorem dX7_noHill_1 : decode cX7_noHill 1 = .ok (.getfield 13, 3) := by decide +kernel
theorem dX7_noHill_4 : decode cX7_noHill 4 = .ok (.iload_n 1, 1) := by decide +kernel
theorem dX7_noHill_5 : decode cX7_noHill 5 = .ok (.iconst 0, 1) := by decide +kernel
theorem dX7_noHill_6 : decode cX7_noHill 6 = .ok (.iastore, 1) := by decide +kernel
theorem dX7_noHill_7 : decode cX7_noHill 7 = .ok (.iconst 0, 1) := by decide +kernel
theorem dX7_noHill_8 : decode cX7_noHill 8 = .ok (.istore_n 2, 1) := by decide +kernel
theorem dX7_noHill_9 : decode cX7_noHill 9 = .ok (.iload_n 2, 1) := by decide +kernel
theorem dX7_noHill_10 : decode cX7_noHill 10 = .ok (.bipush 6, 2) := by decide +kernel
theorem dX7_noHill_12 : decode cX7_noHill 12 = .ok (.if_icmp .ge 45, 3) := by decide +kernel
theorem dX7_noHill_15 : decode cX7_noHill 15 = .ok (.aload_n 0, 1) := by decide +kernel
theorem dX7_noHill_16 : decode cX7_noHill 16 = .ok (.getfield 31, 3) := by decide +kernel
theorem dX7_noHill_19 : decode cX7_noHill 19 = .ok (.bipush 6, 2) := by decide +kernel
theorem dX7_noHill_21 : decode cX7_noHill 21 = .ok (.iload_n 1, 1) := by decide +kernel
theorem dX7_noHill_22 : decode cX7_noHill 22 = .ok (.imul, 1) := by decide +kernel
theorem dX7_noHill_23 : decode cX7_noHill 23 = .ok (.iload_n 2, 1) := by decide +kernel
theorem dX7_noHill_24 : decode cX7_noHill 24 = .ok (.iadd, 1) := by decide +kernel
theorem dX7_noHill_25 : decode cX7_noHill 25 = .ok (.iload_n 2, 1) := by decide +kernel
theorem dX7_noHill_26 : decode cX7_noHill 26 = .ok (.iastore, 1) := by decide +kernel
theorem dX7_noHill_27 : decode cX7_noHill 27 = .ok (.aload_n 0, 1) := by decide +kernel
theorem dX7_noHill_28 : decode cX7_noHill 28 = .ok (.getfield 34, 3) := by decide +kernel
theorem dX7_noHill_31 : decode cX7_noHill 31 = .ok (.bipush 6, 2) := by decide +kernel
theorem dX7_noHill_33 : decode cX7_noHill 33 = .ok (.iload_n 1, 1) := by decide +kernel
theorem dX7_noHill_34 : decode cX7_noHill 34 = .ok (.imul, 1) := by decide +kernel
theorem dX7_noHill_35 : decode cX7_noHill 35 = .ok (.iload_n 2, 1) := by decide +kernel
theorem dX7_noHill_36 : decode cX7_noHill 36 = .ok (.iadd, 1) := by decide +kernel
theorem dX7_noHill_37 : decode cX7_noHill 37 = .ok (.iconst 0, 1) := by decide +kernel
theorem dX7_noHill_38 : decode cX7_noHill 38 = .ok (.iastore, 1) := by decide +kernel
theorem dX7_noHill_39 : decode cX7_noHill 39 = .ok (.aload_n 0, 1) := by decide +kernel
theorem dX7_noHill_40 : decode cX7_noHill 40 = .ok (.getfield 37, 3) := by decide +kernel
theorem dX7_noHill_43 : decode cX7_noHill 43 = .ok (.bipush 6, 2) := by decide +kernel
theorem dX7_noHill_45 : decode cX7_noHill 45 = .ok (.iload_n 1, 1) := by decide +kernel
theorem dX7_noHill_46 : decode cX7_noHill 46 = .ok (.imul, 1) := by decide +kernel
theorem dX7_noHill_47 : decode cX7_noHill 47 = .ok (.iload_n 2, 1) := by decide +kernel
theorem dX7_noHill_48 : decode cX7_noHill 48 = .ok (.iadd, 1) := by decide +kernel
theorem dX7_noHill_49 : decode cX7_noHill 49 = .ok (.iconst 1, 1) := by decide +kernel
theorem dX7_noHill_50 : decode cX7_noHill 50 = .ok (.iastore, 1) := by decide +kernel
theorem dX7_noHill_51 : decode cX7_noHill 51 = .ok (.iinc 2 1, 3) := by decide +kernel
theorem dX7_noHill_54 : decode cX7_noHill 54 = .ok (.goto (-45), 3) := by decide +kernel
theorem dX7_noHill_57 : decode cX7_noHill 57 = .ok (.aload_n 0, 1) := by decide +kernel
theorem dX7_noHill_58 : decode cX7_noHill 58 = .ok (.getfield 40, 3) := by decide +kernel
theorem dX7_noHill_61 : decode cX7_noHill 61 = .ok (.iconst 3, 1) := by decide +kernel
theorem dX7_noHill_62 : decode cX7_noHill 62 = .ok (.iload_n 1, 1) := by decide +kernel
theorem dX7_noHill_63 : decode cX7_noHill 63 = .ok (.imul, 1) := by decide +kernel
theorem dX7_noHill_64 : decode cX7_noHill 64 = .ok (.iconst 4, 1) := by decide +kernel
theorem dX7_noHill_65 : decode cX7_noHill 65 = .ok (.iastore, 1) := by decide +kernel
theorem dX7_noHill_66 : decode cX7_noHill 66 = .ok (.aload_n 0, 1) := by decide +kernel
theorem dX7_noHill_67 : decode cX7_noHill 67 = .ok (.getfield 40, 3) := by decide +kernel
theorem dX7_noHill_70 : decode cX7_noHill 70 = .ok (.iconst 3, 1) := by decide +kernel
theorem dX7_noHill_71 : decode cX7_noHill 71 = .ok (.iload_n 1, 1) := by decide +kernel
theorem dX7_noHill_72 : decode cX7_noHill 72 = .ok (.imul, 1) := by decide +kernel
theorem dX7_noHill_73 : decode cX7_noHill 73 = .ok (.iconst 1, 1) := by decide +kernel
theorem dX7_noHill_74 : decode cX7_noHill 74 = .ok (.iadd, 1) := by decide +kernel
theorem dX7_noHill_75 : decode cX7_noHill 75 = .ok (.iconst 3, 1) := by decide +kernel
theorem dX7_noHill_76 : decode cX7_noHill 76 = .ok (.iastore, 1) := by decide +kernel
theorem dX7_noHill_77 : decode cX7_noHill 77 = .ok (.aload_n 0, 1) := by decide +kernel
theorem dX7_noHill_78 : decode cX7_noHill 78 = .ok (.getfield 40, 3) := by decide +kernel
theorem dX7_noHill_81 : decode cX7_noHill 81 = .ok (.iconst 3, 1) := by decide +kernel
theorem dX7_noHill_82 : decode cX7_noHill 82 = .ok (.iload_n 1, 1) := by decide +kernel
theorem dX7_noHill_83 : decode cX7_noHill 83 = .ok (.imul, 1) := by decide +kernel
theorem dX7_noHill_84 : decode cX7_noHill 84 = .ok (.iconst 2, 1) := by decide +kernel
theorem dX7_noHill_85 : decode cX7_noHill 85 = .ok (.iadd, 1) := by decide +kernel
theorem dX7_noHill_86 : decode cX7_noHill 86 = .ok (.iconst 1, 1) := by decide +kernel
theorem dX7_noHill_87 : decode cX7_noHill 87 = .ok (.iastore, 1) := by decide +kernel
theorem dX7_noHill_88 : decode cX7_noHill 88 = .ok (.return_, 1) := by decide +kernel
theorem dX7_write_0 : decode cX7_write 0 = .ok (.iload_n 1, 1) := by decide +kernel
theorem dX7_write_1 : decode cX7_write 1 = .ok (.i2l, 1) := by decide +kernel
theorem dX7_write_2 : decode cX7_write 2 = .ok (.lconst 1, 1) := by decide +kernel
theorem dX7_write_3 : decode cX7_write 3 = .ok (.ldc2_w 86, 3) := by decide +kernel
theorem dX7_write_6 : decode cX7_write 6 = .ok (.invokestatic 88, 3) := by decide +kernel
theorem dX7_write_9 : decode cX7_write 9 = .ok (.ifCond .ne 5, 3) := by decide +kernel
theorem dX7_write_12 : decode cX7_write 12 = .ok (.iconst (-1), 1) := by decide +kernel
theorem dX7_write_13 : decode cX7_write 13 = .ok (.ireturn, 1) := by decide +kernel
theorem dX7_write_14 : decode cX7_write 14 = .ok (.aload_n 0, 1) := by decide +kernel
theorem dX7_write_15 : decode cX7_write 15 = .ok (.getfield 92, 3) := by decide +kernel
theorem dX7_write_18 : decode cX7_write 18 = .ok (.iload_n 1, 1) := by decide +kernel
theorem dX7_write_19 : decode cX7_write 19 = .ok (.iadd, 1) := by decide +kernel
theorem dX7_write_20 : decode cX7_write 20 = .ok (.sipush 400, 3) := by decide +kernel
theorem dX7_write_23 : decode cX7_write 23 = .ok (.if_icmp .le 6, 3) := by decide +kernel
theorem dX7_write_26 : decode cX7_write 26 = .ok (.bipush (-3), 2) := by decide +kernel
theorem dX7_write_28 : decode cX7_write 28 = .ok (.ireturn, 1) := by decide +kernel
theorem dX7_write_29 : decode cX7_write 29 = .ok (.iload_n 1, 1) := by decide +kernel
theorem dX7_write_30 : decode cX7_write 30 = .ok (.iconst 1, 1) := by decide +kernel
theorem dX7_write_31 : decode cX7_write 31 = .ok (.isub, 1) := by decide +kernel
theorem dX7_write_32 : decode cX7_write 32 = .ok (.istore 4, 2) := by decide +kernel
theorem dX7_write_34 : decode cX7_write 34 = .ok (.iload 4, 2) := by decide +kernel
theorem dX7_write_36 : decode cX7_write 36 = .ok (.ifCond .lt 40, 3) := by decide +kernel
theorem dX7_write_39 : decode cX7_write 39 = .ok (.aload_n 0, 1) := by decide +kernel
theorem dX7_write_40 : decode cX7_write 40 = .ok (.getfield 7, 3) := by decide +kernel
theorem dX7_write_43 : decode cX7_write 43 = .ok (.aload_n 0, 1) := by decide +kernel
theorem dX7_write_44 : decode cX7_write 44 = .ok (.getfield 92, 3) := by decide +kernel
theorem dX7_write_47 : decode cX7_write 47 = .ok (.lload_n 2, 1) := by decide +kernel
theorem dX7_write_48 : decode cX7_write 48 = .ok (.bipush 8, 2) := by decide +kernel
theorem dX7_write_50 : decode cX7_write 50 = .ok (.iload 4, 2) := by decide +kernel
theorem dX7_write_52 : decode cX7_write 52 = .ok (.imul, 1) := by decide +kernel
theorem dX7_write_53 : decode cX7_write 53 = .ok (.lshr, 1) := by decide +kernel
theorem dX7_write_54 : decode cX7_write 54 = .ok (.ldc2_w 96, 3) := by decide +kernel
theorem dX7_write_57 : decode cX7_write 57 = .ok (.land, 1) := by decide +kernel
theorem dX7_write_58 : decode cX7_write 58 = .ok (.l2i, 1) := by decide +kernel
theorem dX7_write_59 : decode cX7_write 59 = .ok (.iastore, 1) := by decide +kernel
theorem dX7_write_60 : decode cX7_write 60 = .ok (.aload_n 0, 1) := by decide +kernel
theorem dX7_write_61 : decode cX7_write 61 = .ok (.dup, 1) := by decide +kernel
theorem dX7_write_62 : decode cX7_write 62 = .ok (.getfield 92, 3) := by decide +kernel
theorem dX7_write_65 : decode cX7_write 65 = .ok (.iconst 1, 1) := by decide +kernel
theorem dX7_write_66 : decode cX7_write 66 = .ok (.iadd, 1) := by decide +kernel
theorem dX7_write_67 : decode cX7_write 67 = .ok (.putfield 92, 3) := by decide +kernel
theorem dX7_write_70 : decode cX7_write 70 = .ok (.iinc 4 (-1), 3) := by decide +kernel
theorem dX7_write_73 : decode cX7_write 73 = .ok (.goto (-39), 3) := by decide +kernel
theorem dX7_write_76 : decode cX7_write 76 = .ok (.aload_n 0, 1) := by decide +kernel
theorem dX7_write_77 : decode cX7_write 77 = .ok (.getfield 92, 3) := by decide +kernel
theorem dX7_write_80 : decode cX7_write 80 = .ok (.ireturn, 1) := by decide +kernel
theorem dX7_wipe_0 : decode cX7_wipe 0 = .ok (.aload_n 0, 1) := by decide +kernel
theorem dX7_wipe_1 : decode cX7_wipe 1 = .ok (.getfield 92, 3) := by decide +kernel
theorem dX7_wipe_4 : decode cX7_wipe 4 = .ok (.istore_n 1, 1) := by decide +kernel
theorem dX7_wipe_5 : decode cX7_wipe 5 = .ok (.aload_n 0, 1) := by decide +kernel
theorem dX7_wipe_6 : decode cX7_wipe 6 = .ok (.iconst 0, 1) := by decide +kernel
theorem dX7_wipe_7 : decode cX7_wipe 7 = .ok (.putfield 92, 3) := by decide +kernel
theorem dX7_wipe_10 : decode cX7_wipe 10 = .ok (.iload_n 1, 1) := by decide +kernel
theorem dX7_wipe_11 : decode cX7_wipe 11 = .ok (.ireturn, 1) := by decide +kernel
theorem dX7_byteAt_0 : decode cX7_byteAt 0 = .ok (.iload_n 1, 1) := by decide +kernel
theorem dX7_byteAt_1 : decode cX7_byteAt 1 = .ok (.aload_n 0, 1) := by decide +kernel
theorem dX7_byteAt_2 : decode cX7_byteAt 2 = .ok (.getfield 92, 3) := by decide +kernel
theorem dX7_byteAt_5 : decode cX7_byteAt 5 = .ok (.if_icmp .ge 12, 3) := by decide +kernel
theorem dX7_byteAt_8 : decode cX7_byteAt 8 = .ok (.aload_n 0, 1) := by decide +kernel
theorem dX7_byteAt_9 : decode cX7_byteAt 9 = .ok (.getfield 7, 3) := by decide +kernel
theorem dX7_byteAt_12 : decode cX7_byteAt 12 = .ok (.iload_n 1, 1) := by decide +kernel
theorem dX7_byteAt_13 : decode cX7_byteAt 13 = .ok (.iaload, 1) := by decide +kernel
theorem dX7_byteAt_14 : decode cX7_byteAt 14 = .ok (.goto 4, 3) := by decide +kernel
theorem dX7_byteAt_17 : decode cX7_byteAt 17 = .ok (.iconst 0, 1) := by decide +kernel
theorem dX7_byteAt_18 : decode cX7_byteAt 18 = .ok (.ireturn, 1) := by decide +kernel
theorem dX7_figures_0 : decode cX7_figures 0 = .ok (.iconst 0, 1) := by decide +kernel
theorem dX7_figures_1 : decode cX7_figures 1 = .ok (.istore_n 3, 1) := by decide +kernel
theorem dX7_figures_2 : decode cX7_figures 2 = .ok (.iload_n 3, 1) := by decide +kernel
theorem dX7_figures_3 : decode cX7_figures 3 = .ok (.iload_n 1, 1) := by decide +kernel
theorem dX7_figures_4 : decode cX7_figures 4 = .ok (.if_icmp .ge 134, 3) := by decide +kernel
theorem dX7_figures_7 : decode cX7_figures 7 = .ok (.iconst 0, 1) := by decide +kernel
theorem dX7_figures_8 : decode cX7_figures 8 = .ok (.istore 4, 2) := by decide +kernel
theorem dX7_figures_10 : decode cX7_figures 10 = .ok (.iconst 0, 1) := by decide +kernel
theorem dX7_figures_11 : decode cX7_figures 11 = .ok (.istore 5, 2) := by decide +kernel
theorem dX7_figures_13 : decode cX7_figures 13 = .ok (.aload_n 0, 1) := by decide +kernel
theorem dX7_figures_14 : decode cX7_figures 14 = .ok (.aload_n 0, 1) := by decide +kernel
theorem dX7_figures_15 : decode cX7_figures 15 = .ok (.getfield 98, 3) := by decide +kernel
theorem dX7_figures_18 : decode cX7_figures 18 = .ok (.invokevirtual 101, 3) := by decide +kernel
theorem dX7_figures_21 : decode cX7_figures 21 = .ok (.i2l, 1) := by decide +kernel
theorem dX7_figures_22 : decode cX7_figures 22 = .ok (.ldc2_w 105, 3) := by decide +kernel
theorem dX7_figures_25 : decode cX7_figures 25 = .ok (.ldc2_w 107, 3) := by decide +kernel
theorem dX7_figures_28 : decode cX7_figures 28 = .ok (.invokestatic 88, 3) := by decide +kernel
theorem dX7_figures_31 : decode cX7_figures 31 = .ok (.ifCond .eq 44, 3) := by decide +kernel
theorem dX7_figures_34 : decode cX7_figures 34 = .ok (.iload 4, 2) := by decide +kernel
theorem dX7_figures_36 : decode cX7_figures 36 = .ok (.iconst 4, 1) := by decide +kernel
theorem dX7_figures_37 : decode cX7_figures 37 = .ok (.if_icmp .ge 38, 3) := by decide +kernel
theorem dX7_figures_40 : decode cX7_figures 40 = .ok (.bipush 10, 2) := by decide +kernel
