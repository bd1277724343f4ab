theorem dX7_greet_52 : decode cX7_greet 52 = .ok (.bipush (-4), 2) := by decide +kernel
theorem dX7_greet_54 : decode cX7_greet 54 = .ok (.ireturn, 1) := by decide +kernel
theorem dX7_greet_55 : decode cX7_greet 55 = .ok (.iconst 0, 1) := by decide +kernel
theorem dX7_greet_56 : decode cX7_greet 56 = .ok (.istore_n 3, 1) := by decide +kernel
theorem dX7_greet_57 : decode cX7_greet 57 = .ok (.iconst 0, 1) := by decide +kernel
theorem dX7_greet_58 : decode cX7_greet 58 = .ok (.istore 4, 2) := by decide +kernel
theorem dX7_greet_60 : decode cX7_greet 60 = .ok (.iconst 0, 1) := by decide +kernel
theorem dX7_greet_61 : decode cX7_greet 61 = .ok (.istore 5, 2) := by decide +kernel
theorem dX7_greet_63 : decode cX7_greet 63 = .ok (.iconst 0, 1) := by decide +kernel
theorem dX7_greet_64 : decode cX7_greet 64 = .ok (.istore 6, 2) := by decide +kernel
theorem dX7_greet_66 : decode cX7_greet 66 = .ok (.iload 6, 2) := by decide +kernel
theorem dX7_greet_68 : decode cX7_greet 68 = .ok (.iload_n 2, 1) := by decide +kernel
theorem dX7_greet_69 : decode cX7_greet 69 = .ok (.if_icmp .gt 93, 3) := by decide +kernel
theorem dX7_greet_72 : decode cX7_greet 72 = .ok (.iconst 0, 1) := by decide +kernel
theorem dX7_greet_73 : decode cX7_greet 73 = .ok (.istore 5, 2) := by decide +kernel
theorem dX7_greet_75 : decode cX7_greet 75 = .ok (.aload_n 0, 1) := by decide +kernel
theorem dX7_greet_76 : decode cX7_greet 76 = .ok (.iload_n 1, 1) := by decide +kernel
theorem dX7_greet_77 : decode cX7_greet 77 = .ok (.iload_n 3, 1) := by decide +kernel
theorem dX7_greet_78 : decode cX7_greet 78 = .ok (.iload 5, 2) := by decide +kernel
theorem dX7_greet_80 : decode cX7_greet 80 = .ok (.invokevirtual 180, 3) := by decide +kernel
theorem dX7_greet_83 : decode cX7_greet 83 = .ok (.ifCond .eq 50, 3) := by decide +kernel
theorem dX7_greet_86 : decode cX7_greet 86 = .ok (.aload_n 0, 1) := by decide +kernel
theorem dX7_greet_87 : decode cX7_greet 87 = .ok (.iload 5, 2) := by decide +kernel
theorem dX7_greet_89 : decode cX7_greet 89 = .ok (.iload 4, 2) := by decide +kernel
theorem dX7_greet_91 : decode cX7_greet 91 = .ok (.invokevirtual 183, 3) := by decide +kernel
theorem dX7_greet_94 : decode cX7_greet 94 = .ok (.aload_n 0, 1) := by decide +kernel
theorem dX7_greet_95 : decode cX7_greet 95 = .ok (.getfield 76, 3) := by decide +kernel
theorem dX7_greet_98 : decode cX7_greet 98 = .ok (.bipush 13, 2) := by decide +kernel
theorem dX7_greet_100 : decode cX7_greet 100 = .ok (.iload_n 3, 1) := by decide +kernel
theorem dX7_greet_101 : decode cX7_greet 101 = .ok (.iconst 1, 1) := by decide +kernel
theorem dX7_greet_102 : decode cX7_greet 102 = .ok (.iload 5, 2) := by decide +kernel
theorem dX7_greet_104 : decode cX7_greet 104 = .ok (.ishl, 1) := by decide +kernel
theorem dX7_greet_105 : decode cX7_greet 105 = .ok (.ior, 1) := by decide +kernel
theorem dX7_greet_106 : decode cX7_greet 106 = .ok (.imul, 1) := by decide +kernel
theorem dX7_greet_107 : decode cX7_greet 107 = .ok (.aload_n 0, 1) := by decide +kernel
theorem dX7_greet_108 : decode cX7_greet 108 = .ok (.iload 5, 2) := by decide +kernel
theorem dX7_greet_110 : decode cX7_greet 110 = .ok (.iload 4, 2) := by decide +kernel
theorem dX7_greet_112 : decode cX7_greet 112 = .ok (.invokevirtual 187, 3) := by decide +kernel
theorem dX7_greet_115 : decode cX7_greet 115 = .ok (.iadd, 1) := by decide +kernel
theorem dX7_greet_116 : decode cX7_greet 116 = .ok (.iaload, 1) := by decide +kernel
theorem dX7_greet_117 : decode cX7_greet 117 = .ok (.iadd, 1) := by decide +kernel
theorem dX7_greet_118 : decode cX7_greet 118 = .ok (.aload_n 0, 1) := by decide +kernel
theorem dX7_greet_119 : decode cX7_greet 119 = .ok (.getfield 76, 3) := by decide +kernel
theorem dX7_greet_122 : decode cX7_greet 122 = .ok (.bipush 13, 2) := by decide +kernel
theorem dX7_greet_124 : decode cX7_greet 124 = .ok (.iload_n 3, 1) := by decide +kernel
theorem dX7_greet_125 : decode cX7_greet 125 = .ok (.imul, 1) := by decide +kernel
theorem dX7_greet_126 : decode cX7_greet 126 = .ok (.iload 4, 2) := by decide +kernel
theorem dX7_greet_128 : decode cX7_greet 128 = .ok (.iadd, 1) := by decide +kernel
theorem dX7_greet_129 : decode cX7_greet 129 = .ok (.iaload, 1) := by decide +kernel
theorem dX7_greet_130 : decode cX7_greet 130 = .ok (.if_icmp .eq 9, 3) := by decide +kernel
theorem dX7_greet_133 : decode cX7_greet 133 = .ok (.iinc 5 1, 3) := by decide +kernel
theorem dX7_greet_136 : decode cX7_greet 136 = .ok (.goto (-61), 3) := by decide +kernel
theorem dX7_greet_139 : decode cX7_greet 139 = .ok (.iload_n 3, 1) := by decide +kernel
theorem dX7_greet_140 : decode cX7_greet 140 = .ok (.iconst 1, 1) := by decide +kernel
theorem dX7_greet_141 : decode cX7_greet 141 = .ok (.iload 5, 2) := by decide +kernel
theorem dX7_greet_143 : decode cX7_greet 143 = .ok (.ishl, 1) := by decide +kernel
theorem dX7_greet_144 : decode cX7_greet 144 = .ok (.ior, 1) := by decide +kernel
theorem dX7_greet_145 : decode cX7_greet 145 = .ok (.istore_n 3, 1) := by decide +kernel
theorem dX7_greet_146 : decode cX7_greet 146 = .ok (.aload_n 0, 1) := by decide +kernel
theorem dX7_greet_147 : decode cX7_greet 147 = .ok (.iload 5, 2) := by decide +kernel
theorem dX7_greet_149 : decode cX7_greet 149 = .ok (.iload 4, 2) := by decide +kernel
theorem dX7_greet_151 : decode cX7_greet 151 = .ok (.invokevirtual 187, 3) := by decide +kernel
theorem dX7_greet_154 : decode cX7_greet 154 = .ok (.istore 4, 2) := by decide +kernel
theorem dX7_greet_156 : decode cX7_greet 156 = .ok (.iinc 6 1, 3) := by decide +kernel
theorem dX7_greet_159 : decode cX7_greet 159 = .ok (.goto (-93), 3) := by decide +kernel
theorem dX7_greet_162 : decode cX7_greet 162 = .ok (.iload 5, 2) := by decide +kernel
theorem dX7_greet_164 : decode cX7_greet 164 = .ok (.ireturn, 1) := by decide +kernel
theorem dX7_answers_0 : decode cX7_answers 0 = .ok (.aload_n 0, 1) := by decide +kernel
theorem dX7_answers_1 : decode cX7_answers 1 = .ok (.getfield 64, 3) := by decide +kernel
theorem dX7_answers_4 : decode cX7_answers 4 = .ok (.iload_n 1, 1) := by decide +kernel
theorem dX7_answers_5 : decode cX7_answers 5 = .ok (.iaload, 1) := by decide +kernel
theorem dX7_answers_6 : decode cX7_answers 6 = .ok (.iload_n 3, 1) := by decide +kernel
theorem dX7_answers_7 : decode cX7_answers 7 = .ok (.if_icmp .lt 7, 3) := by decide +kernel
theorem dX7_answers_10 : decode cX7_answers 10 = .ok (.iconst 1, 1) := by decide +kernel
theorem dX7_answers_11 : decode cX7_answers 11 = .ok (.goto 4, 3) := by decide +kernel
theorem dX7_answers_14 : decode cX7_answers 14 = .ok (.iconst 0, 1) := by decide +kernel
theorem dX7_answers_15 : decode cX7_answers 15 = .ok (.istore 4, 2) := by decide +kernel
theorem dX7_answers_17 : decode cX7_answers 17 = .ok (.iconst 0, 1) := by decide +kernel
theorem dX7_answers_18 : decode cX7_answers 18 = .ok (.istore 5, 2) := by decide +kernel
theorem dX7_answers_20 : decode cX7_answers 20 = .ok (.iload 5, 2) := by decide +kernel
theorem dX7_answers_22 : decode cX7_answers 22 = .ok (.iload_n 3, 1) := by decide +kernel
theorem dX7_answers_23 : decode cX7_answers 23 = .ok (.if_icmp .ge 48, 3) := by decide +kernel
theorem dX7_answers_26 : decode cX7_answers 26 = .ok (.iload 4, 2) := by decide +kernel
theorem dX7_answers_28 : decode cX7_answers 28 = .ok (.ifCond .eq 43, 3) := by decide +kernel
theorem dX7_answers_31 : decode cX7_answers 31 = .ok (.aload_n 0, 1) := by decide +kernel
theorem dX7_answers_32 : decode cX7_answers 32 = .ok (.getfield 61, 3) := by decide +kernel
theorem dX7_answers_35 : decode cX7_answers 35 = .ok (.bipush 20, 2) := by decide +kernel
theorem dX7_answers_37 : decode cX7_answers 37 = .ok (.iload_n 1, 1) := by decide +kernel
theorem dX7_answers_38 : decode cX7_answers 38 = .ok (.imul, 1) := by decide +kernel
theorem dX7_answers_39 : decode cX7_answers 39 = .ok (.iload 5, 2) := by decide +kernel
theorem dX7_answers_41 : decode cX7_answers 41 = .ok (.iadd, 1) := by decide +kernel
theorem dX7_answers_42 : decode cX7_answers 42 = .ok (.iaload, 1) := by decide +kernel
theorem dX7_answers_43 : decode cX7_answers 43 = .ok (.aload_n 0, 1) := by decide +kernel
theorem dX7_answers_44 : decode cX7_answers 44 = .ok (.getfield 61, 3) := by decide +kernel
theorem dX7_answers_47 : decode cX7_answers 47 = .ok (.bipush 20, 2) := by decide +kernel
theorem dX7_answers_49 : decode cX7_answers 49 = .ok (.iload_n 2, 1) := by decide +kernel
theorem dX7_answers_50 : decode cX7_answers 50 = .ok (.imul, 1) := by decide +kernel
theorem dX7_answers_51 : decode cX7_answers 51 = .ok (.iload 5, 2) := by decide +kernel
theorem dX7_answers_53 : decode cX7_answers 53 = .ok (.iadd, 1) := by decide +kernel
theorem dX7_answers_54 : decode cX7_answers 54 = .ok (.iaload, 1) := by decide +kernel
theorem dX7_answers_55 : decode cX7_answers 55 = .ok (.if_icmp .ne 7, 3) := by decide +kernel
theorem dX7_answers_58 : decode cX7_answers 58 = .ok (.iconst 1, 1) := by decide +kernel
theorem dX7_answers_59 : decode cX7_answers 59 = .ok (.goto 4, 3) := by decide +kernel
theorem dX7_answers_62 : decode cX7_answers 62 = .ok (.iconst 0, 1) := by decide +kernel
theorem dX7_answers_63 : decode cX7_answers 63 = .ok (.istore 4, 2) := by decide +kernel
theorem dX7_answers_65 : decode cX7_answers 65 = .ok (.iinc 5 1, 3) := by decide +kernel
theorem dX7_answers_68 : decode cX7_answers 68 = .ok (.goto (-48), 3) := by decide +kernel
theorem dX7_answers_71 : decode cX7_answers 71 = .ok (.iload 4, 2) := by decide +kernel
theorem dX7_answers_73 : decode cX7_answers 73 = .ok (.ireturn, 1) := by decide +kernel
theorem dX7_shortOf_0 : decode cX7_shortOf 0 = .ok (.aload_n 0, 1) := by decide +kernel
theorem dX7_shortOf_1 : decode cX7_shortOf 1 = .ok (.getfield 43, 3) := by decide +kernel
theorem dX7_shortOf_4 : decode cX7_shortOf 4 = .ok (.bipush 8, 2) := by decide +kernel
theorem dX7_shortOf_6 : decode cX7_shortOf 6 = .ok (.iload_n 1, 1) := by decide +kernel
theorem dX7_shortOf_7 : decode cX7_shortOf 7 = .ok (.imul, 1) := by decide +kernel
theorem dX7_shortOf_8 : decode cX7_shortOf 8 = .ok (.iload_n 2, 1) := by decide +kernel
theorem dX7_shortOf_9 : decode cX7_shortOf 9 = .ok (.iadd, 1) := by decide +kernel
theorem dX7_shortOf_10 : decode cX7_shortOf 10 = .ok (.iaload, 1) := by decide +kernel
theorem dX7_shortOf_11 : decode cX7_shortOf 11 = .ok (.iconst 3, 1) := by decide +kernel
theorem dX7_shortOf_12 : decode cX7_shortOf 12 = .ok (.if_icmp .ne 12, 3) := by decide +kernel
theorem dX7_shortOf_15 : decode cX7_shortOf 15 = .ok (.aload_n 0, 1) := by decide +kernel
theorem dX7_shortOf_16 : decode cX7_shortOf 16 = .ok (.getfield 64, 3) := by decide +kernel
theorem dX7_shortOf_19 : decode cX7_shortOf 19 = .ok (.iload_n 2, 1) := by decide +kernel
theorem dX7_shortOf_20 : decode cX7_shortOf 20 = .ok (.iaload, 1) := by decide +kernel
theorem dX7_shortOf_21 : decode cX7_shortOf 21 = .ok (.goto 4, 3) := by decide +kernel
theorem dX7_shortOf_24 : decode cX7_shortOf 24 = .ok (.iconst 1, 1) := by decide +kernel
theorem dX7_shortOf_25 : decode cX7_shortOf 25 = .ok (.istore 4, 2) := by decide +kernel
theorem dX7_shortOf_27 : decode cX7_shortOf 27 = .ok (.iload 4, 2) := by decide +kernel
theorem dX7_shortOf_29 : decode cX7_shortOf 29 = .ok (.aload_n 0, 1) := by decide +kernel
theorem dX7_shortOf_30 : decode cX7_shortOf 30 = .ok (.getfield 64, 3) := by decide +kernel
theorem dX7_shortOf_33 : decode cX7_shortOf 33 = .ok (.iload_n 2, 1) := by decide +kernel
theorem dX7_shortOf_34 : decode cX7_shortOf 34 = .ok (.iaload, 1) := by decide +kernel
theorem dX7_shortOf_35 : decode cX7_shortOf 35 = .ok (.if_icmp .gt 79, 3) := by decide +kernel
theorem dX7_shortOf_38 : decode cX7_shortOf 38 = .ok (.iconst 1, 1) := by decide +kernel
theorem dX7_shortOf_39 : decode cX7_shortOf 39 = .ok (.istore 5, 2) := by decide +kernel
theorem dX7_shortOf_41 : decode cX7_shortOf 41 = .ok (.iconst 0, 1) := by decide +kernel
theorem dX7_shortOf_42 : decode cX7_shortOf 42 = .ok (.istore 6, 2) := by decide +kernel
theorem dX7_shortOf_44 : decode cX7_shortOf 44 = .ok (.iload 6, 2) := by decide +kernel
theorem dX7_shortOf_46 : decode cX7_shortOf 46 = .ok (.aload_n 0, 1) := by decide +kernel
theorem dX7_shortOf_47 : decode cX7_shortOf 47 = .ok (.getfield 13, 3) := by decide +kernel
theorem dX7_shortOf_50 : decode cX7_shortOf 50 = .ok (.iconst 0, 1) := by decide +kernel
theorem dX7_shortOf_51 : decode cX7_shortOf 51 = .ok (.iaload, 1) := by decide +kernel
theorem dX7_shortOf_52 : decode cX7_shortOf 52 = .ok (.if_icmp .ge 48, 3) := by decide +kernel
theorem dX7_shortOf_55 : decode cX7_shortOf 55 = .ok (.iload 5, 2) := by decide +kernel
theorem dX7_shortOf_57 : decode cX7_shortOf 57 = .ok (.ifCond .eq 34, 3) := by decide +kernel
theorem dX7_shortOf_60 : decode cX7_shortOf 60 = .ok (.iload 6, 2) := by decide +kernel
theorem dX7_shortOf_62 : decode cX7_shortOf 62 = .ok (.iload_n 2, 1) := by decide +kernel
theorem dX7_shortOf_63 : decode cX7_shortOf 63 = .ok (.if_icmp .eq 24, 3) := by decide +kernel
theorem dX7_shortOf_66 : decode cX7_shortOf 66 = .ok (.iload_n 3, 1) := by decide +kernel
theorem dX7_shortOf_67 : decode cX7_shortOf 67 = .ok (.iload 6, 2) := by decide +kernel
theorem dX7_shortOf_69 : decode cX7_shortOf 69 = .ok (.invokestatic 153, 3) := by decide +kernel
theorem dX7_shortOf_72 : decode cX7_shortOf 72 = .ok (.ifCond .eq 15, 3) := by decide +kernel
theorem dX7_shortOf_75 : decode cX7_shortOf 75 = .ok (.aload_n 0, 1) := by decide +kernel
theorem dX7_shortOf_76 : decode cX7_shortOf 76 = .ok (.iload 6, 2) := by decide +kernel
theorem dX7_shortOf_78 : decode cX7_shortOf 78 = .ok (.iload_n 2, 1) := by decide +kernel
theorem dX7_shortOf_79 : decode cX7_shortOf 79 = .ok (.iload 4, 2) := by decide +kernel
theorem dX7_shortOf_81 : decode cX7_shortOf 81 = .ok (.invokevirtual 195, 3) := by decide +kernel
theorem dX7_shortOf_84 : decode cX7_shortOf 84 = .ok (.ifCond .ne 7, 3) := by decide +kernel
theorem dX7_shortOf_87 : decode cX7_shortOf 87 = .ok (.iconst 1, 1) := by decide +kernel
theorem dX7_shortOf_88 : decode cX7_shortOf 88 = .ok (.goto 4, 3) := by decide +kernel
theorem dX7_shortOf_91 : decode cX7_shortOf 91 = .ok (.iconst 0, 1) := by decide +kernel
theorem dX7_shortOf_92 : decode cX7_shortOf 92 = .ok (.istore 5, 2) := by decide +kernel
theorem dX7_shortOf_94 : decode cX7_shortOf 94 = .ok (.iinc 6 1, 3) := by decide +kernel
theorem dX7_shortOf_97 : decode cX7_shortOf 97 = .ok (.goto (-53), 3) := by decide +kernel
theorem dX7_shortOf_100 : decode cX7_shortOf 100 = .ok (.iload 5, 2) := by decide +kernel
theorem dX7_shortOf_102 : decode cX7_shortOf 102 = .ok (.ifCond .eq 6, 3) := by decide +kernel
theorem dX7_shortOf_105 : decode cX7_shortOf 105 = .ok (.iload 4, 2) := by decide +kernel
theorem dX7_shortOf_107 : decode cX7_shortOf 107 = .ok (.ireturn, 1) := by decide +kernel
theorem dX7_shortOf_108 : decode cX7_shortOf 108 = .ok (.iinc 4 1, 3) := by decide +kernel
theorem dX7_shortOf_111 : decode cX7_shortOf 111 = .ok (.goto (-84), 3) := by decide +kernel
theorem dX7_shortOf_114 : decode cX7_shortOf 114 = .ok (.bipush (-4), 2) := by decide +kernel
theorem dX7_shortOf_116 : decode cX7_shortOf 116 = .ok (.ireturn, 1) := by decide +kernel
theorem dX7_allShortOf_0 : decode cX7_allShortOf 0 = .ok (.iconst 0, 1) := by decide +kernel
theorem dX7_allShortOf_1 : decode cX7_allShortOf 1 = .ok (.istore_n 3, 1) := by decide +kernel
theorem dX7_allShortOf_2 : decode cX7_allShortOf 2 = .ok (.iconst 0, 1) := by decide +kernel
theorem dX7_allShortOf_3 : decode cX7_allShortOf 3 = .ok (.istore 4, 2) := by decide +kernel
theorem dX7_allShortOf_5 : decode cX7_allShortOf 5 = .ok (.iload 4, 2) := by decide +kernel
theorem dX7_allShortOf_7 : decode cX7_allShortOf 7 = .ok (.aload_n 0, 1) := by decide +kernel
theorem dX7_allShortOf_8 : decode cX7_allShortOf 8 = .ok (.getfield 13, 3) := by decide +kernel
theorem dX7_allShortOf_11 : decode cX7_allShortOf 11 = .ok (.iconst 0, 1) := by decide +kernel
theorem dX7_allShortOf_12 : decode cX7_allShortOf 12 = .ok (.iaload, 1) := by decide +kernel
theorem dX7_allShortOf_13 : decode cX7_allShortOf 13 = .ok (.if_icmp .ge 45, 3) := by decide +kernel
theorem dX7_allShortOf_16 : decode cX7_allShortOf 16 = .ok (.iload_n 2, 1) := by decide +kernel
theorem dX7_allShortOf_17 : decode cX7_allShortOf 17 = .ok (.iload 4, 2) := by decide +kernel
theorem dX7_allShortOf_19 : decode cX7_allShortOf 19 = .ok (.invokestatic 153, 3) := by decide +kernel
theorem dX7_allShortOf_22 : decode cX7_allShortOf 22 = .ok (.ifCond .eq 14, 3) := by decide +kernel
theorem dX7_allShortOf_25 : decode cX7_allShortOf 25 = .ok (.aload_n 0, 1) := by decide +kernel
theorem dX7_allShortOf_26 : decode cX7_allShortOf 26 = .ok (.iload_n 1, 1) := by decide +kernel
theorem dX7_allShortOf_27 : decode cX7_allShortOf 27 = .ok (.iload 4, 2) := by decide +kernel
theorem dX7_allShortOf_29 : decode cX7_allShortOf 29 = .ok (.iload_n 2, 1) := by decide +kernel
theorem dX7_allShortOf_30 : decode cX7_allShortOf 30 = .ok (.invokevirtual 198, 3) := by decide +kernel
theorem dX7_allShortOf_33 : decode cX7_allShortOf 33 = .ok (.goto 4, 3) := by decide +kernel
theorem dX7_allShortOf_36 : decode cX7_allShortOf 36 = .ok (.iconst 0, 1) := by decide +kernel
theorem dX7_allShortOf_37 : decode cX7_allShortOf 37 = .ok (.istore 5, 2) := by decide +kernel
theorem dX7_allShortOf_39 : decode cX7_allShortOf 39 = .ok (.iload 5, 2) := by decide +kernel
theorem dX7_allShortOf_41 : decode cX7_allShortOf 41 = .ok (.ifCond .ge 6, 3) := by decide +kernel
theorem dX7_allShortOf_44 : decode cX7_allShortOf 44 = .ok (.bipush (-4), 2) := by decide +kernel
theorem dX7_allShortOf_46 : decode cX7_allShortOf 46 = .ok (.ireturn, 1) := by decide +kernel
theorem dX7_allShortOf_47 : decode cX7_allShortOf 47 = .ok (.iload_n 3, 1) := by decide +kernel
theorem dX7_allShortOf_48 : decode cX7_allShortOf 48 = .ok (.iload 5, 2) := by decide +kernel
theorem dX7_allShortOf_50 : decode cX7_allShortOf 50 = .ok (.iadd, 1) := by decide +kernel
theorem dX7_allShortOf_51 : decode cX7_allShortOf 51 = .ok (.istore_n 3, 1) := by decide +kernel
theorem dX7_allShortOf_52 : decode cX7_allShortOf 52 = .ok (.iinc 4 1, 3) := by decide +kernel
theorem dX7_allShortOf_55 : decode cX7_allShortOf 55 = .ok (.goto (-50), 3) := by decide +kernel
theorem dX7_allShortOf_58 : decode cX7_allShortOf 58 = .ok (.iload_n 3, 1) := by decide +kernel
theorem dX7_allShortOf_59 : decode cX7_allShortOf 59 = .ok (.ireturn, 1) := by decide +kernel
theorem dX7_shortCall_0 : decode cX7_shortCall 0 = .ok (.aload_n 0, 1) := by decide +kernel
theorem dX7_shortCall_1 : decode cX7_shortCall 1 = .ok (.iload_n 1, 1) := by decide +kernel
theorem dX7_shortCall_2 : decode cX7_shortCall 2 = .ok (.invokevirtual 139, 3) := by decide +kernel
theorem dX7_shortCall_5 : decode cX7_shortCall 5 = .ok (.ifCond .eq 19, 3) := by decide +kernel
theorem dX7_shortCall_8 : decode cX7_shortCall 8 = .ok (.aload_n 0, 1) := by decide +kernel
theorem dX7_shortCall_9 : decode cX7_shortCall 9 = .ok (.iload_n 2, 1) := by decide +kernel
theorem dX7_shortCall_10 : decode cX7_shortCall 10 = .ok (.invokevirtual 156, 3) := by decide +kernel
theorem dX7_shortCall_13 : decode cX7_shortCall 13 = .ok (.ifCond .eq 11, 3) := by decide +kernel
theorem dX7_shortCall_16 : decode cX7_shortCall 16 = .ok (.iload_n 2, 1) := by decide +kernel
theorem dX7_shortCall_17 : decode cX7_shortCall 17 = .ok (.iload_n 1, 1) := by decide +kernel
theorem dX7_shortCall_18 : decode cX7_shortCall 18 = .ok (.invokestatic 153, 3) := by decide +kernel
theorem dX7_shortCall_21 : decode cX7_shortCall 21 = .ok (.ifCond .ne 5, 3) := by decide +kernel
theorem dX7_shortCall_24 : decode cX7_shortCall 24 = .ok (.iconst (-1), 1) := by decide +kernel
theorem dX7_shortCall_25 : decode cX7_shortCall 25 = .ok (.ireturn, 1) := by decide +kernel
theorem dX7_shortCall_26 : decode cX7_shortCall 26 = .ok (.aload_n 0, 1) := by decide +kernel
theorem dX7_shortCall_27 : decode cX7_shortCall 27 = .ok (.invokevirtual 145, 3) := by decide +kernel
theorem dX7_shortCall_30 : decode cX7_shortCall 30 = .ok (.aload_n 0, 1) := by decide +kernel
theorem dX7_shortCall_31 : decode cX7_shortCall 31 = .ok (.iconst 0, 1) := by decide +kernel
theorem dX7_shortCall_32 : decode cX7_shortCall 32 = .ok (.iload_n 1, 1) := by decide +kernel
theorem dX7_shortCall_33 : decode cX7_shortCall 33 = .ok (.iload_n 2, 1) := by decide +kernel
theorem dX7_shortCall_34 : decode cX7_shortCall 34 = .ok (.invokevirtual 198, 3) := by decide +kernel
theorem dX7_shortCall_37 : decode cX7_shortCall 37 = .ok (.ireturn, 1) := by decide +kernel
theorem dX7_allShort_0 : decode cX7_allShort 0 = .ok (.aload_n 0, 1) := by decide +kernel
theorem dX7_allShort_1 : decode cX7_allShort 1 = .ok (.iload_n 1, 1) := by decide +kernel
theorem dX7_allShort_2 : decode cX7_allShort 2 = .ok (.invokevirtual 156, 3) := by decide +kernel
theorem dX7_allShort_5 : decode cX7_allShort 5 = .ok (.ifCond .ne 5, 3) := by decide +kernel
theorem dX7_allShort_8 : decode cX7_allShort 8 = .ok (.iconst (-1), 1) := by decide +kernel
theorem dX7_allShort_9 : decode cX7_allShort 9 = .ok (.ireturn, 1) := by decide +kernel
theorem dX7_allShort_10 : decode cX7_allShort 10 = .ok (.aload_n 0, 1) := by decide +kernel
theorem dX7_allShort_11 : decode cX7_allShort 11 = .ok (.invokevirtual 145, 3) := by decide +kernel
theorem dX7_allShort_14 : decode cX7_allShort 14 = .ok (.aload_n 0, 1) := by decide +kernel
theorem dX7_allShort_15 : decode cX7_allShort 15 = .ok (.iconst 0, 1) := by decide +kernel
theorem dX7_allShort_16 : decode cX7_allShort 16 = .ok (.iload_n 1, 1) := by decide +kernel
theorem dX7_allShort_17 : decode cX7_allShort 17 = .ok (.invokevirtual 202, 3) := by decide +kernel
theorem dX7_allShort_20 : decode cX7_allShort 20 = .ok (.ireturn, 1) := by decide +kernel
theorem dX7_apart_0 : decode cX7_apart 0 = .ok (.aload_n 0, 1) := by decide +kernel
theorem dX7_apart_1 : decode cX7_apart 1 = .ok (.iload_n 1, 1) := by decide +kernel
theorem dX7_apart_2 : decode cX7_apart 2 = .ok (.invokevirtual 139, 3) := by decide +kernel
theorem dX7_apart_5 : decode cX7_apart 5 = .ok (.ifCond .eq 29, 3) := by decide +kernel
theorem dX7_apart_8 : decode cX7_apart 8 = .ok (.aload_n 0, 1) := by decide +kernel
theorem dX7_apart_9 : decode cX7_apart 9 = .ok (.iload_n 2, 1) := by decide +kernel
theorem dX7_apart_10 : decode cX7_apart 10 = .ok (.invokevirtual 156, 3) := by decide +kernel
theorem dX7_apart_13 : decode cX7_apart 13 = .ok (.ifCond .eq 21, 3) := by decide +kernel
theorem dX7_apart_16 : decode cX7_apart 16 = .ok (.iload_n 2, 1) := by decide +kernel
theorem dX7_apart_17 : decode cX7_apart 17 = .ok (.iload_n 1, 1) := by decide +kernel
theorem dX7_apart_18 : decode cX7_apart 18 = .ok (.invokestatic 153, 3) := by decide +kernel
theorem dX7_apart_21 : decode cX7_apart 21 = .ok (.ifCond .eq 13, 3) := by decide +kernel
theorem dX7_apart_24 : decode cX7_apart 24 = .ok (.iload_n 3, 1) := by decide +kernel
theorem dX7_apart_25 : decode cX7_apart 25 = .ok (.i2l, 1) := by decide +kernel
theorem dX7_apart_26 : decode cX7_apart 26 = .ok (.lconst 0, 1) := by decide +kernel
theorem dX7_apart_27 : decode cX7_apart 27 = .ok (.lconst 1, 1) := by decide +kernel
theorem dX7_apart_28 : decode cX7_apart 28 = .ok (.invokestatic 88, 3) := by decide +kernel
theorem dX7_apart_31 : decode cX7_apart 31 = .ok (.ifCond .ne 5, 3) := by decide +kernel
theorem dX7_apart_34 : decode cX7_apart 34 = .ok (.iconst (-1), 1) := by decide +kernel
theorem dX7_apart_35 : decode cX7_apart 35 = .ok (.ireturn, 1) := by decide +kernel
theorem dX7_apart_36 : decode cX7_apart 36 = .ok (.aload_n 0, 1) := by decide +kernel
theorem dX7_apart_37 : decode cX7_apart 37 = .ok (.getfield 46, 3) := by decide +kernel
theorem dX7_apart_40 : decode cX7_apart 40 = .ok (.iload_n 1, 1) := by decide +kernel
theorem dX7_apart_41 : decode cX7_apart 41 = .ok (.iaload, 1) := by decide +kernel
theorem dX7_apart_42 : decode cX7_apart 42 = .ok (.bipush 10, 2) := by decide +kernel
theorem dX7_apart_44 : decode cX7_apart 44 = .ok (.if_icmp .ne 6, 3) := by decide +kernel
theorem dX7_apart_47 : decode cX7_apart 47 = .ok (.bipush (-3), 2) := by decide +kernel
theorem dX7_apart_49 : decode cX7_apart 49 = .ok (.ireturn, 1) := by decide +kernel
theorem dX7_apart_50 : decode cX7_apart 50 = .ok (.bipush (-4), 2) := by decide +kernel
theorem dX7_apart_52 : decode cX7_apart 52 = .ok (.istore 4, 2) := by decide +kernel
theorem dX7_apart_54 : decode cX7_apart 54 = .ok (.iconst 0, 1) := by decide +kernel
theorem dX7_apart_55 : decode cX7_apart 55 = .ok (.istore 5, 2) := by decide +kernel
theorem dX7_apart_57 : decode cX7_apart 57 = .ok (.iconst 0, 1) := by decide +kernel
theorem dX7_apart_58 : decode cX7_apart 58 = .ok (.istore 6, 2) := by decide +kernel
theorem dX7_apart_60 : decode cX7_apart 60 = .ok (.iload 6, 2) := by decide +kernel
theorem dX7_apart_62 : decode cX7_apart 62 = .ok (.bipush 6, 2) := by decide +kernel
theorem dX7_apart_64 : decode cX7_apart 64 = .ok (.if_icmp .ge 50, 3) := by decide +kernel
theorem dX7_apart_67 : decode cX7_apart 67 = .ok (.aload_n 0, 1) := by decide +kernel
theorem dX7_apart_68 : decode cX7_apart 68 = .ok (.iconst 0, 1) := by decide +kernel
theorem dX7_apart_69 : decode cX7_apart 69 = .ok (.iload_n 1, 1) := by decide +kernel
theorem dX7_apart_70 : decode cX7_apart 70 = .ok (.iload 6, 2) := by decide +kernel
theorem dX7_apart_72 : decode cX7_apart 72 = .ok (.invokevirtual 135, 3) := by decide +kernel
theorem dX7_apart_75 : decode cX7_apart 75 = .ok (.aload_n 0, 1) := by decide +kernel
theorem dX7_apart_76 : decode cX7_apart 76 = .ok (.iconst 0, 1) := by decide +kernel
theorem dX7_apart_77 : decode cX7_apart 77 = .ok (.iload_n 2, 1) := by decide +kernel
theorem dX7_apart_78 : decode cX7_apart 78 = .ok (.invokevirtual 202, 3) := by decide +kernel
theorem dX7_apart_81 : decode cX7_apart 81 = .ok (.istore 7, 2) := by decide +kernel
theorem dX7_apart_83 : decode cX7_apart 83 = .ok (.iload 7, 2) := by decide +kernel
theorem dX7_apart_85 : decode cX7_apart 85 = .ok (.ifCond .lt 23, 3) := by decide +kernel
theorem dX7_apart_88 : decode cX7_apart 88 = .ok (.iload 4, 2) := by decide +kernel
theorem dX7_apart_90 : decode cX7_apart 90 = .ok (.ifCond .lt 10, 3) := by decide +kernel
theorem dX7_apart_93 : decode cX7_apart 93 = .ok (.iload 7, 2) := by decide +kernel
theorem dX7_apart_95 : decode cX7_apart 95 = .ok (.iload 5, 2) := by decide +kernel
theorem dX7_apart_97 : decode cX7_apart 97 = .ok (.if_icmp .ge 11, 3) := by decide +kernel
theorem dX7_apart_100 : decode cX7_apart 100 = .ok (.iload 6, 2) := by decide +kernel
theorem dX7_apart_102 : decode cX7_apart 102 = .ok (.istore 4, 2) := by decide +kernel
theorem dX7_apart_104 : decode cX7_apart 104 = .ok (.iload 7, 2) := by decide +kernel
theorem dX7_apart_106 : decode cX7_apart 106 = .ok (.istore 5, 2) := by decide +kernel
theorem dX7_apart_108 : decode cX7_apart 108 = .ok (.iinc 6 1, 3) := by decide +kernel
theorem dX7_apart_111 : decode cX7_apart 111 = .ok (.goto (-51), 3) := by decide +kernel
theorem dX7_apart_114 : decode cX7_apart 114 = .ok (.iload 4, 2) := by decide +kernel
theorem dX7_apart_116 : decode cX7_apart 116 = .ok (.ifCond .ge 8, 3) := by decide +kernel
theorem dX7_apart_119 : decode cX7_apart 119 = .ok (.bipush (-4), 2) := by decide +kernel
theorem dX7_apart_121 : decode cX7_apart 121 = .ok (.goto 14, 3) := by decide +kernel
theorem dX7_apart_124 : decode cX7_apart 124 = .ok (.iload_n 3, 1) := by decide +kernel
theorem dX7_apart_125 : decode cX7_apart 125 = .ok (.ifCond .ne 8, 3) := by decide +kernel
theorem dX7_apart_128 : decode cX7_apart 128 = .ok (.iload 4, 2) := by decide +kernel
theorem dX7_apart_130 : decode cX7_apart 130 = .ok (.goto 5, 3) := by decide +kernel
theorem dX7_apart_133 : decode cX7_apart 133 = .ok (.iload 5, 2) := by decide +kernel
theorem dX7_apart_135 : decode cX7_apart 135 = .ok (.ireturn, 1) := by decide +kernel
theorem dX7_hear_0 : decode cX7_hear 0 = .ok (.iload_n 1, 1) := by decide +kernel
theorem dX7_hear_1 : decode cX7_hear 1 = .ok (.i2l, 1) := by decide +kernel
theorem dX7_hear_2 : decode cX7_hear 2 = .ok (.lconst 0, 1) := by decide +kernel
theorem dX7_hear_3 : decode cX7_hear 3 = .ok (.ldc2_w 143, 3) := by decide +kernel
theorem dX7_hear_6 : decode cX7_hear 6 = .ok (.invokestatic 88, 3) := by decide +kernel
theorem dX7_hear_9 : decode cX7_hear 9 = .ok (.ifCond .ne 11, 3) := by decide +kernel
theorem dX7_hear_12 : decode cX7_hear 12 = .ok (.iload_n 1, 1) := by decide +kernel
theorem dX7_hear_13 : decode cX7_hear 13 = .ok (.bipush 9, 2) := by decide +kernel
theorem dX7_hear_15 : decode cX7_hear 15 = .ok (.if_icmp .eq 5, 3) := by decide +kernel
theorem dX7_hear_18 : decode cX7_hear 18 = .ok (.iconst (-1), 1) := by decide +kernel
theorem dX7_hear_19 : decode cX7_hear 19 = .ok (.ireturn, 1) := by decide +kernel
theorem dX7_hear_20 : decode cX7_hear 20 = .ok (.aload_n 0, 1) := by decide +kernel
theorem dX7_hear_21 : decode cX7_hear 21 = .ok (.getfield 52, 3) := by decide +kernel
theorem dX7_hear_24 : decode cX7_hear 24 = .ok (.iconst 0, 1) := by decide +kernel
theorem dX7_hear_25 : decode cX7_hear 25 = .ok (.iaload, 1) := by decide +kernel
theorem dX7_hear_26 : decode cX7_hear 26 = .ok (.bipush 12, 2) := by decide +kernel
theorem dX7_hear_28 : decode cX7_hear 28 = .ok (.if_icmp .ne 6, 3) := by decide +kernel
theorem dX7_hear_31 : decode cX7_hear 31 = .ok (.bipush (-3), 2) := by decide +kernel
theorem dX7_hear_33 : decode cX7_hear 33 = .ok (.ireturn, 1) := by decide +kernel
theorem dX7_hear_34 : decode cX7_hear 34 = .ok (.aload_n 0, 1) := by decide +kernel
theorem dX7_hear_35 : decode cX7_hear 35 = .ok (.getfield 55, 3) := by decide +kernel
theorem dX7_hear_38 : decode cX7_hear 38 = .ok (.aload_n 0, 1) := by decide +kernel
theorem dX7_hear_39 : decode cX7_hear 39 = .ok (.getfield 52, 3) := by decide +kernel
theorem dX7_hear_42 : decode cX7_hear 42 = .ok (.iconst 0, 1) := by decide +kernel
theorem dX7_hear_43 : decode cX7_hear 43 = .ok (.iaload, 1) := by decide +kernel
theorem dX7_hear_44 : decode cX7_hear 44 = .ok (.iload_n 1, 1) := by decide +kernel
theorem dX7_hear_45 : decode cX7_hear 45 = .ok (.iastore, 1) := by decide +kernel
theorem dX7_hear_46 : decode cX7_hear 46 = .ok (.aload_n 0, 1) := by decide +kernel
theorem dX7_hear_47 : decode cX7_hear 47 = .ok (.getfield 52, 3) := by decide +kernel
theorem dX7_hear_50 : decode cX7_hear 50 = .ok (.iconst 0, 1) := by decide +kernel
theorem dX7_hear_51 : decode cX7_hear 51 = .ok (.dup2, 1) := by decide +kernel
theorem dX7_hear_52 : decode cX7_hear 52 = .ok (.iaload, 1) := by decide +kernel
theorem dX7_hear_53 : decode cX7_hear 53 = .ok (.iconst 1, 1) := by decide +kernel
theorem dX7_hear_54 : decode cX7_hear 54 = .ok (.iadd, 1) := by decide +kernel
theorem dX7_hear_55 : decode cX7_hear 55 = .ok (.iastore, 1) := by decide +kernel
theorem dX7_hear_56 : decode cX7_hear 56 = .ok (.aload_n 0, 1) := by decide +kernel
theorem dX7_hear_57 : decode cX7_hear 57 = .ok (.getfield 52, 3) := by decide +kernel
theorem dX7_hear_60 : decode cX7_hear 60 = .ok (.iconst 0, 1) := by decide +kernel
theorem dX7_hear_61 : decode cX7_hear 61 = .ok (.iaload, 1) := by decide +kernel
theorem dX7_hear_62 : decode cX7_hear 62 = .ok (.ireturn, 1) := by decide +kernel
theorem dX7_forget_0 : decode cX7_forget 0 = .ok (.aload_n 0, 1) := by decide +kernel
theorem dX7_forget_1 : decode cX7_forget 1 = .ok (.getfield 52, 3) := by decide +kernel
theorem dX7_forget_4 : decode cX7_forget 4 = .ok (.iconst 0, 1) := by decide +kernel
theorem dX7_forget_5 : decode cX7_forget 5 = .ok (.iaload, 1) := by decide +kernel
theorem dX7_forget_6 : decode cX7_forget 6 = .ok (.istore_n 1, 1) := by decide +kernel
theorem dX7_forget_7 : decode cX7_forget 7 = .ok (.aload_n 0, 1) := by decide +kernel
theorem dX7_forget_8 : decode cX7_forget 8 = .ok (.getfield 52, 3) := by decide +kernel
theorem dX7_forget_11 : decode cX7_forget 11 = .ok (.iconst 0, 1) := by decide +kernel
theorem dX7_forget_12 : decode cX7_forget 12 = .ok (.iconst 0, 1) := by decide +kernel
theorem dX7_forget_13 : decode cX7_forget 13 = .ok (.iastore, 1) := by decide +kernel
theorem dX7_forget_14 : decode cX7_forget 14 = .ok (.iload_n 1, 1) := by decide +kernel
theorem dX7_forget_15 : decode cX7_forget 15 = .ok (.ireturn, 1) := by decide +kernel
theorem dX7_weightOf_0 : decode cX7_weightOf 0 = .ok (.aload_n 0, 1) := by decide +kernel
theorem dX7_weightOf_1 : decode cX7_weightOf 1 = .ok (.getfield 64, 3) := by decide +kernel
theorem dX7_weightOf_4 : decode cX7_weightOf 4 = .ok (.iload_n 1, 1) := by decide +kernel
theorem dX7_weightOf_5 : decode cX7_weightOf 5 = .ok (.iaload, 1) := by decide +kernel
theorem dX7_weightOf_6 : decode cX7_weightOf 6 = .ok (.aload_n 0, 1) := by decide +kernel
theorem dX7_weightOf_7 : decode cX7_weightOf 7 = .ok (.getfield 52, 3) := by decide +kernel
theorem dX7_weightOf_10 : decode cX7_weightOf 10 = .ok (.iconst 0, 1) := by decide +kernel
theorem dX7_weightOf_11 : decode cX7_weightOf 11 = .ok (.iaload, 1) := by decide +kernel
theorem dX7_weightOf_12 : decode cX7_weightOf 12 = .ok (.if_icmp .eq 5, 3) := by decide +kernel
theorem dX7_weightOf_15 : decode cX7_weightOf 15 = .ok (.lconst 0, 1) := by decide +kernel
theorem dX7_weightOf_16 : decode cX7_weightOf 16 = .ok (.lreturn, 1) := by decide +kernel
theorem dX7_weightOf_17 : decode cX7_weightOf 17 = .ok (.aload_n 0, 1) := by decide +kernel
theorem dX7_weightOf_18 : decode cX7_weightOf 18 = .ok (.getfield 28, 3) := by decide +kernel
theorem dX7_weightOf_21 : decode cX7_weightOf 21 = .ok (.iload_n 1, 1) := by decide +kernel
theorem dX7_weightOf_22 : decode cX7_weightOf 22 = .ok (.iaload, 1) := by decide +kernel
theorem dX7_weightOf_23 : decode cX7_weightOf 23 = .ok (.iconst 1, 1) := by decide +kernel
theorem dX7_weightOf_24 : decode cX7_weightOf 24 = .ok (.iadd, 1) := by decide +kernel
theorem dX7_weightOf_25 : decode cX7_weightOf 25 = .ok (.i2l, 1) := by decide +kernel
theorem dX7_weightOf_26 : decode cX7_weightOf 26 = .ok (.lstore_n 2, 1) := by decide +kernel
theorem dX7_weightOf_27 : decode cX7_weightOf 27 = .ok (.iconst 0, 1) := by decide +kernel
theorem dX7_weightOf_28 : decode cX7_weightOf 28 = .ok (.istore 4, 2) := by decide +kernel
theorem dX7_weightOf_30 : decode cX7_weightOf 30 = .ok (.iload 4, 2) := by decide +kernel
theorem dX7_weightOf_32 : decode cX7_weightOf 32 = .ok (.aload_n 0, 1) := by decide +kernel
theorem dX7_weightOf_33 : decode cX7_weightOf 33 = .ok (.getfield 64, 3) := by decide +kernel
theorem dX7_weightOf_36 : decode cX7_weightOf 36 = .ok (.iload_n 1, 1) := by decide +kernel
theorem dX7_weightOf_37 : decode cX7_weightOf 37 = .ok (.iaload, 1) := by decide +kernel
theorem dX7_weightOf_38 : decode cX7_weightOf 38 = .ok (.if_icmp .ge 72, 3) := by decide +kernel
theorem dX7_weightOf_41 : decode cX7_weightOf 41 = .ok (.lload_n 2, 1) := by decide +kernel
theorem dX7_weightOf_42 : decode cX7_weightOf 42 = .ok (.aload_n 0, 1) := by decide +kernel
theorem dX7_weightOf_43 : decode cX7_weightOf 43 = .ok (.getfield 55, 3) := by decide +kernel
theorem dX7_weightOf_46 : decode cX7_weightOf 46 = .ok (.iload 4, 2) := by decide +kernel
theorem dX7_weightOf_48 : decode cX7_weightOf 48 = .ok (.iaload, 1) := by decide +kernel
theorem dX7_weightOf_49 : decode cX7_weightOf 49 = .ok (.bipush 9, 2) := by decide +kernel
theorem dX7_weightOf_51 : decode cX7_weightOf 51 = .ok (.if_icmp .ne 9, 3) := by decide +kernel
theorem dX7_weightOf_54 : decode cX7_weightOf 54 = .ok (.ldc2_w 205, 3) := by decide +kernel
theorem dX7_weightOf_57 : decode cX7_weightOf 57 = .ok (.goto 45, 3) := by decide +kernel
theorem dX7_weightOf_60 : decode cX7_weightOf 60 = .ok (.aload_n 0, 1) := by decide +kernel
theorem dX7_weightOf_61 : decode cX7_weightOf 61 = .ok (.getfield 55, 3) := by decide +kernel
theorem dX7_weightOf_64 : decode cX7_weightOf 64 = .ok (.iload 4, 2) := by decide +kernel
theorem dX7_weightOf_66 : decode cX7_weightOf 66 = .ok (.iaload, 1) := by decide +kernel
theorem dX7_weightOf_67 : decode cX7_weightOf 67 = .ok (.aload_n 0, 1) := by decide +kernel
theorem dX7_weightOf_68 : decode cX7_weightOf 68 = .ok (.getfield 61, 3) := by decide +kernel
theorem dX7_weightOf_71 : decode cX7_weightOf 71 = .ok (.bipush 20, 2) := by decide +kernel
theorem dX7_weightOf_73 : decode cX7_weightOf 73 = .ok (.iload_n 1, 1) := by decide +kernel
theorem dX7_weightOf_74 : decode cX7_weightOf 74 = .ok (.imul, 1) := by decide +kernel
theorem dX7_weightOf_75 : decode cX7_weightOf 75 = .ok (.iload 4, 2) := by decide +kernel
theorem dX7_weightOf_77 : decode cX7_weightOf 77 = .ok (.iadd, 1) := by decide +kernel
theorem dX7_weightOf_78 : decode cX7_weightOf 78 = .ok (.iaload, 1) := by decide +kernel
theorem dX7_weightOf_79 : decode cX7_weightOf 79 = .ok (.if_icmp .ne 16, 3) := by decide +kernel
theorem dX7_weightOf_82 : decode cX7_weightOf 82 = .ok (.bipush 10, 2) := by decide +kernel
theorem dX7_weightOf_84 : decode cX7_weightOf 84 = .ok (.aload_n 0, 1) := by decide +kernel
theorem dX7_weightOf_85 : decode cX7_weightOf 85 = .ok (.getfield 40, 3) := by decide +kernel
theorem dX7_weightOf_88 : decode cX7_weightOf 88 = .ok (.iconst 2, 1) := by decide +kernel
theorem dX7_weightOf_89 : decode cX7_weightOf 89 = .ok (.iaload, 1) := by decide +kernel
theorem dX7_weightOf_90 : decode cX7_weightOf 90 = .ok (.isub, 1) := by decide +kernel
theorem dX7_weightOf_91 : decode cX7_weightOf 91 = .ok (.i2l, 1) := by decide +kernel
theorem dX7_weightOf_92 : decode cX7_weightOf 92 = .ok (.goto 10, 3) := by decide +kernel
theorem dX7_weightOf_95 : decode cX7_weightOf 95 = .ok (.aload_n 0, 1) := by decide +kernel
theorem dX7_weightOf_96 : decode cX7_weightOf 96 = .ok (.getfield 40, 3) := by decide +kernel
theorem dX7_weightOf_99 : decode cX7_weightOf 99 = .ok (.iconst 2, 1) := by decide +kernel
theorem dX7_weightOf_100 : decode cX7_weightOf 100 = .ok (.iaload, 1) := by decide +kernel
theorem dX7_weightOf_101 : decode cX7_weightOf 101 = .ok (.i2l, 1) := by decide +kernel
theorem dX7_weightOf_102 : decode cX7_weightOf 102 = .ok (.lmul, 1) := by decide +kernel
theorem dX7_weightOf_103 : decode cX7_weightOf 103 = .ok (.lstore_n 2, 1) := by decide +kernel
theorem dX7_weightOf_104 : decode cX7_weightOf 104 = .ok (.iinc 4 1, 3) := by decide +kernel
theorem dX7_weightOf_107 : decode cX7_weightOf 107 = .ok (.goto (-77), 3) := by decide +kernel
theorem dX7_weightOf_110 : decode cX7_weightOf 110 = .ok (.lload_n 2, 1) := by decide +kernel
theorem dX7_weightOf_111 : decode cX7_weightOf 111 = .ok (.lreturn, 1) := by decide +kernel
theorem dX7_odds_0 : decode cX7_odds 0 = .ok (.aload_n 0, 1) := by decide +kernel
theorem dX7_odds_1 : decode cX7_odds 1 = .ok (.iload_n 1, 1) := by decide +kernel
theorem dX7_odds_2 : decode cX7_odds 2 = .ok (.invokevirtual 139, 3) := by decide +kernel
theorem dX7_odds_5 : decode cX7_odds 5 = .ok (.ifCond .eq 13, 3) := by decide +kernel
theorem dX7_odds_8 : decode cX7_odds 8 = .ok (.iload_n 2, 1) := by decide +kernel
theorem dX7_odds_9 : decode cX7_odds 9 = .ok (.i2l, 1) := by decide +kernel
theorem dX7_odds_10 : decode cX7_odds 10 = .ok (.lconst 0, 1) := by decide +kernel
theorem dX7_odds_11 : decode cX7_odds 11 = .ok (.lconst 1, 1) := by decide +kernel
theorem dX7_odds_12 : decode cX7_odds 12 = .ok (.invokestatic 88, 3) := by decide +kernel
theorem dX7_odds_15 : decode cX7_odds 15 = .ok (.ifCond .ne 7, 3) := by decide +kernel
theorem dX7_odds_18 : decode cX7_odds 18 = .ok (.ldc2_w 190, 3) := by decide +kernel
theorem dX7_odds_21 : decode cX7_odds 21 = .ok (.lreturn, 1) := by decide +kernel
theorem dX7_odds_22 : decode cX7_odds 22 = .ok (.aload_n 0, 1) := by decide +kernel
theorem dX7_odds_23 : decode cX7_odds 23 = .ok (.invokevirtual 145, 3) := by decide +kernel
theorem dX7_odds_26 : decode cX7_odds 26 = .ok (.lconst 0, 1) := by decide +kernel
theorem dX7_odds_27 : decode cX7_odds 27 = .ok (.lstore_n 3, 1) := by decide +kernel
theorem dX7_odds_28 : decode cX7_odds 28 = .ok (.iconst 0, 1) := by decide +kernel
theorem dX7_odds_29 : decode cX7_odds 29 = .ok (.istore 5, 2) := by decide +kernel
theorem dX7_odds_31 : decode cX7_odds 31 = .ok (.iload 5, 2) := by decide +kernel
theorem dX7_odds_33 : decode cX7_odds 33 = .ok (.aload_n 0, 1) := by decide +kernel
theorem dX7_odds_34 : decode cX7_odds 34 = .ok (.getfield 13, 3) := by decide +kernel
theorem dX7_odds_37 : decode cX7_odds 37 = .ok (.iconst 0, 1) := by decide +kernel
theorem dX7_odds_38 : decode cX7_odds 38 = .ok (.iaload, 1) := by decide +kernel
theorem dX7_odds_39 : decode cX7_odds 39 = .ok (.if_icmp .ge 18, 3) := by decide +kernel
theorem dX7_odds_42 : decode cX7_odds 42 = .ok (.lload_n 3, 1) := by decide +kernel
theorem dX7_odds_43 : decode cX7_odds 43 = .ok (.aload_n 0, 1) := by decide +kernel
theorem dX7_odds_44 : decode cX7_odds 44 = .ok (.iload 5, 2) := by decide +kernel
theorem dX7_odds_46 : decode cX7_odds 46 = .ok (.invokevirtual 207, 3) := by decide +kernel
theorem dX7_odds_49 : decode cX7_odds 49 = .ok (.ladd, 1) := by decide +kernel
theorem dX7_odds_50 : decode cX7_odds 50 = .ok (.lstore_n 3, 1) := by decide +kernel
theorem dX7_odds_51 : decode cX7_odds 51 = .ok (.iinc 5 1, 3) := by decide +kernel
theorem dX7_odds_54 : decode cX7_odds 54 = .ok (.goto (-23), 3) := by decide +kernel
theorem dX7_odds_57 : decode cX7_odds 57 = .ok (.lload_n 3, 1) := by decide +kernel
theorem dX7_odds_58 : decode cX7_odds 58 = .ok (.lconst 0, 1) := by decide +kernel
theorem dX7_odds_59 : decode cX7_odds 59 = .ok (.lcmp, 1) := by decide +kernel
theorem dX7_odds_60 : decode cX7_odds 60 = .ok (.ifCond .ne 7, 3) := by decide +kernel
theorem dX7_odds_63 : decode cX7_odds 63 = .ok (.ldc2_w 211, 3) := by decide +kernel
theorem dX7_odds_66 : decode cX7_odds 66 = .ok (.lreturn, 1) := by decide +kernel
theorem dX7_odds_67 : decode cX7_odds 67 = .ok (.aload_n 0, 1) := by decide +kernel
theorem dX7_odds_68 : decode cX7_odds 68 = .ok (.iload_n 1, 1) := by decide +kernel
theorem dX7_odds_69 : decode cX7_odds 69 = .ok (.invokevirtual 207, 3) := by decide +kernel
theorem dX7_odds_72 : decode cX7_odds 72 = .ok (.lstore 5, 2) := by decide +kernel
theorem dX7_odds_74 : decode cX7_odds 74 = .ok (.lload_n 3, 1) := by decide +kernel
theorem dX7_odds_75 : decode cX7_odds 75 = .ok (.lstore 7, 2) := by decide +kernel
theorem dX7_odds_77 : decode cX7_odds 77 = .ok (.lload 7, 2) := by decide +kernel
theorem dX7_odds_79 : decode cX7_odds 79 = .ok (.lconst 0, 1) := by decide +kernel
theorem dX7_odds_80 : decode cX7_odds 80 = .ok (.lcmp, 1) := by decide +kernel
theorem dX7_odds_81 : decode cX7_odds 81 = .ok (.ifCond .eq 21, 3) := by decide +kernel
theorem dX7_odds_84 : decode cX7_odds 84 = .ok (.lload 5, 2) := by decide +kernel
theorem dX7_odds_86 : decode cX7_odds 86 = .ok (.lload 7, 2) := by decide +kernel
theorem dX7_odds_88 : decode cX7_odds 88 = .ok (.lrem, 1) := by decide +kernel
theorem dX7_odds_89 : decode cX7_odds 89 = .ok (.lstore 9, 2) := by decide +kernel
theorem dX7_odds_91 : decode cX7_odds 91 = .ok (.lload 7, 2) := by decide +kernel
theorem dX7_odds_93 : decode cX7_odds 93 = .ok (.lstore 5, 2) := by decide +kernel
theorem dX7_odds_95 : decode cX7_odds 95 = .ok (.lload 9, 2) := by decide +kernel
theorem dX7_odds_97 : decode cX7_odds 97 = .ok (.lstore 7, 2) := by decide +kernel
theorem dX7_odds_99 : decode cX7_odds 99 = .ok (.goto (-22), 3) := by decide +kernel
theorem dX7_odds_102 : decode cX7_odds 102 = .ok (.iload_n 2, 1) := by decide +kernel
theorem dX7_odds_103 : decode cX7_odds 103 = .ok (.ifCond .ne 14, 3) := by decide +kernel
theorem dX7_odds_106 : decode cX7_odds 106 = .ok (.aload_n 0, 1) := by decide +kernel
theorem dX7_odds_107 : decode cX7_odds 107 = .ok (.iload_n 1, 1) := by decide +kernel
theorem dX7_odds_108 : decode cX7_odds 108 = .ok (.invokevirtual 207, 3) := by decide +kernel
theorem dX7_odds_111 : decode cX7_odds 111 = .ok (.lload 5, 2) := by decide +kernel
theorem dX7_odds_113 : decode cX7_odds 113 = .ok (.ldiv, 1) := by decide +kernel
theorem dX7_odds_114 : decode cX7_odds 114 = .ok (.goto 7, 3) := by decide +kernel
theorem dX7_odds_117 : decode cX7_odds 117 = .ok (.lload_n 3, 1) := by decide +kernel
theorem dX7_odds_118 : decode cX7_odds 118 = .ok (.lload 5, 2) := by decide +kernel
theorem dX7_odds_120 : decode cX7_odds 120 = .ok (.ldiv, 1) := by decide +kernel
theorem dX7_odds_121 : decode cX7_odds 121 = .ok (.lreturn, 1) := by decide +kernel
theorem dX7_meant_0 : decode cX7_meant 0 = .ok (.aload_n 0, 1) := by decide +kernel
theorem dX7_meant_1 : decode cX7_meant 1 = .ok (.invokevirtual 145, 3) := by decide +kernel
theorem dX7_meant_4 : decode cX7_meant 4 = .ok (.bipush (-4), 2) := by decide +kernel
theorem dX7_meant_6 : decode cX7_meant 6 = .ok (.istore_n 1, 1) := by decide +kernel
theorem dX7_meant_7 : decode cX7_meant 7 = .ok (.iconst 0, 1) := by decide +kernel
theorem dX7_meant_8 : decode cX7_meant 8 = .ok (.istore_n 2, 1) := by decide +kernel
theorem dX7_meant_9 : decode cX7_meant 9 = .ok (.iload_n 2, 1) := by decide +kernel
theorem dX7_meant_10 : decode cX7_meant 10 = .ok (.aload_n 0, 1) := by decide +kernel
theorem dX7_meant_11 : decode cX7_meant 11 = .ok (.getfield 13, 3) := by decide +kernel
theorem dX7_meant_14 : decode cX7_meant 14 = .ok (.iconst 0, 1) := by decide +kernel
theorem dX7_meant_15 : decode cX7_meant 15 = .ok (.iaload, 1) := by decide +kernel
theorem dX7_meant_16 : decode cX7_meant 16 = .ok (.if_icmp .ge 47, 3) := by decide +kernel
theorem dX7_meant_19 : decode cX7_meant 19 = .ok (.aload_n 0, 1) := by decide +kernel
theorem dX7_meant_20 : decode cX7_meant 20 = .ok (.iload_n 2, 1) := by decide +kernel
theorem dX7_meant_21 : decode cX7_meant 21 = .ok (.invokevirtual 207, 3) := by decide +kernel
theorem dX7_meant_24 : decode cX7_meant 24 = .ok (.iload_n 1, 1) := by decide +kernel
theorem dX7_meant_25 : decode cX7_meant 25 = .ok (.ifCond .ge 7, 3) := by decide +kernel
theorem dX7_meant_28 : decode cX7_meant 28 = .ok (.lconst 0, 1) := by decide +kernel
theorem dX7_meant_29 : decode cX7_meant 29 = .ok (.goto 8, 3) := by decide +kernel
theorem dX7_meant_32 : decode cX7_meant 32 = .ok (.aload_n 0, 1) := by decide +kernel
theorem dX7_meant_33 : decode cX7_meant 33 = .ok (.iload_n 1, 1) := by decide +kernel
theorem dX7_meant_34 : decode cX7_meant 34 = .ok (.invokevirtual 207, 3) := by decide +kernel
theorem dX7_meant_37 : decode cX7_meant 37 = .ok (.lcmp, 1) := by decide +kernel
theorem dX7_meant_38 : decode cX7_meant 38 = .ok (.ifCond .le 7, 3) := by decide +kernel
theorem dX7_meant_41 : decode cX7_meant 41 = .ok (.iconst 1, 1) := by decide +kernel
theorem dX7_meant_42 : decode cX7_meant 42 = .ok (.goto 4, 3) := by decide +kernel
theorem dX7_meant_45 : decode cX7_meant 45 = .ok (.iconst 0, 1) := by decide +kernel
theorem dX7_meant_46 : decode cX7_meant 46 = .ok (.istore_n 3, 1) := by decide +kernel
theorem dX7_meant_47 : decode cX7_meant 47 = .ok (.iload_n 3, 1) := by decide +kernel
theorem dX7_meant_48 : decode cX7_meant 48 = .ok (.ifCond .eq 7, 3) := by decide +kernel
theorem dX7_meant_51 : decode cX7_meant 51 = .ok (.iload_n 2, 1) := by decide +kernel
theorem dX7_meant_52 : decode cX7_meant 52 = .ok (.goto 4, 3) := by decide +kernel
theorem dX7_meant_55 : decode cX7_meant 55 = .ok (.iload_n 1, 1) := by decide +kernel
theorem dX7_meant_56 : decode cX7_meant 56 = .ok (.istore_n 1, 1) := by decide +kernel
theorem dX7_meant_57 : decode cX7_meant 57 = .ok (.iinc 2 1, 3) := by decide +kernel
theorem dX7_meant_60 : decode cX7_meant 60 = .ok (.goto (-51), 3) := by decide +kernel
theorem dX7_meant_63 : decode cX7_meant 63 = .ok (.iload_n 1, 1) := by decide +kernel
theorem dX7_meant_64 : decode cX7_meant 64 = .ok (.ireturn, 1) := by decide +kernel
theorem dX7_copy_0 : decode cX7_copy 0 = .ok (.iconst 0, 1) := by decide +kernel
theorem dX7_copy_1 : decode cX7_copy 1 = .ok (.istore_n 3, 1) := by decide +kernel
theorem dX7_copy_2 : decode cX7_copy 2 = .ok (.iload_n 3, 1) := by decide +kernel
theorem dX7_copy_3 : decode cX7_copy 3 = .ok (.bipush 8, 2) := by decide +kernel
theorem dX7_copy_5 : decode cX7_copy 5 = .ok (.if_icmp .ge 53, 3) := by decide +kernel
theorem dX7_copy_8 : decode cX7_copy 8 = .ok (.aload_n 0, 1) := by decide +kernel
theorem dX7_copy_9 : decode cX7_copy 9 = .ok (.getfield 43, 3) := by decide +kernel
theorem dX7_copy_12 : decode cX7_copy 12 = .ok (.bipush 8, 2) := by decide +kernel
theorem dX7_copy_14 : decode cX7_copy 14 = .ok (.iload_n 2, 1) := by decide +kernel
theorem dX7_copy_15 : decode cX7_copy 15 = .ok (.imul, 1) := by decide +kernel
theorem dX7_copy_16 : decode cX7_copy 16 = .ok (.iload_n 3, 1) := by decide +kernel
theorem dX7_copy_17 : decode cX7_copy 17 = .ok (.iadd, 1) := by decide +kernel
theorem dX7_copy_18 : decode cX7_copy 18 = .ok (.aload_n 0, 1) := by decide +kernel
theorem dX7_copy_19 : decode cX7_copy 19 = .ok (.getfield 43, 3) := by decide +kernel
theorem dX7_copy_22 : decode cX7_copy 22 = .ok (.bipush 8, 2) := by decide +kernel
theorem dX7_copy_24 : decode cX7_copy 24 = .ok (.iload_n 1, 1) := by decide +kernel
theorem dX7_copy_25 : decode cX7_copy 25 = .ok (.imul, 1) := by decide +kernel
theorem dX7_copy_26 : decode cX7_copy 26 = .ok (.iload_n 3, 1) := by decide +kernel
theorem dX7_copy_27 : decode cX7_copy 27 = .ok (.iadd, 1) := by decide +kernel
theorem dX7_copy_28 : decode cX7_copy 28 = .ok (.iaload, 1) := by decide +kernel
theorem dX7_copy_29 : decode cX7_copy 29 = .ok (.iastore, 1) := by decide +kernel
theorem dX7_copy_30 : decode cX7_copy 30 = .ok (.aload_n 0, 1) := by decide +kernel
theorem dX7_copy_31 : decode cX7_copy 31 = .ok (.getfield 46, 3) := by decide +kernel
theorem dX7_copy_34 : decode cX7_copy 34 = .ok (.bipush 8, 2) := by decide +kernel
theorem dX7_copy_36 : decode cX7_copy 36 = .ok (.iload_n 2, 1) := by decide +kernel
theorem dX7_copy_37 : decode cX7_copy 37 = .ok (.imul, 1) := by decide +kernel
theorem dX7_copy_38 : decode cX7_copy 38 = .ok (.iload_n 3, 1) := by decide +kernel
theorem dX7_copy_39 : decode cX7_copy 39 = .ok (.iadd, 1) := by decide +kernel
theorem dX7_copy_40 : decode cX7_copy 40 = .ok (.aload_n 0, 1) := by decide +kernel
theorem dX7_copy_41 : decode cX7_copy 41 = .ok (.getfield 46, 3) := by decide +kernel
theorem dX7_copy_44 : decode cX7_copy 44 = .ok (.bipush 8, 2) := by decide +kernel
theorem dX7_copy_46 : decode cX7_copy 46 = .ok (.iload_n 1, 1) := by decide +kernel
theorem dX7_copy_47 : decode cX7_copy 47 = .ok (.imul, 1) := by decide +kernel
theorem dX7_copy_48 : decode cX7_copy 48 = .ok (.iload_n 3, 1) := by decide +kernel
theorem dX7_copy_49 : decode cX7_copy 49 = .ok (.iadd, 1) := by decide +kernel
theorem dX7_copy_50 : decode cX7_copy 50 = .ok (.iaload, 1) := by decide +kernel
theorem dX7_copy_51 : decode cX7_copy 51 = .ok (.iastore, 1) := by decide +kernel
theorem dX7_copy_52 : decode cX7_copy 52 = .ok (.iinc 3 1, 3) := by decide +kernel
theorem dX7_copy_55 : decode cX7_copy 55 = .ok (.goto (-53), 3) := by decide +kernel
theorem dX7_copy_58 : decode cX7_copy 58 = .ok (.iconst 0, 1) := by decide +kernel
theorem dX7_copy_59 : decode cX7_copy 59 = .ok (.istore_n 3, 1) := by decide +kernel
theorem dX7_copy_60 : decode cX7_copy 60 = .ok (.iload_n 3, 1) := by decide +kernel
theorem dX7_copy_61 : decode cX7_copy 61 = .ok (.bipush 80, 2) := by decide +kernel
theorem dX7_copy_63 : decode cX7_copy 63 = .ok (.if_icmp .ge 31, 3) := by decide +kernel
theorem dX7_copy_66 : decode cX7_copy 66 = .ok (.aload_n 0, 1) := by decide +kernel
theorem dX7_copy_67 : decode cX7_copy 67 = .ok (.getfield 49, 3) := by decide +kernel
theorem dX7_copy_70 : decode cX7_copy 70 = .ok (.bipush 80, 2) := by decide +kernel
theorem dX7_copy_72 : decode cX7_copy 72 = .ok (.iload_n 2, 1) := by decide +kernel
theorem dX7_copy_73 : decode cX7_copy 73 = .ok (.imul, 1) := by decide +kernel
theorem dX7_copy_74 : decode cX7_copy 74 = .ok (.iload_n 3, 1) := by decide +kernel
theorem dX7_copy_75 : decode cX7_copy 75 = .ok (.iadd, 1) := by decide +kernel
theorem dX7_copy_76 : decode cX7_copy 76 = .ok (.aload_n 0, 1) := by decide +kernel
theorem dX7_copy_77 : decode cX7_copy 77 = .ok (.getfield 49, 3) := by decide +kernel
theorem dX7_copy_80 : decode cX7_copy 80 = .ok (.bipush 80, 2) := by decide +kernel
theorem dX7_copy_82 : decode cX7_copy 82 = .ok (.iload_n 1, 1) := by decide +kernel
theorem dX7_copy_83 : decode cX7_copy 83 = .ok (.imul, 1) := by decide +kernel
theorem dX7_copy_84 : decode cX7_copy 84 = .ok (.iload_n 3, 1) := by decide +kernel
theorem dX7_copy_85 : decode cX7_copy 85 = .ok (.iadd, 1) := by decide +kernel
theorem dX7_copy_86 : decode cX7_copy 86 = .ok (.iaload, 1) := by decide +kernel
theorem dX7_copy_87 : decode cX7_copy 87 = .ok (.iastore, 1) := by decide +kernel
theorem dX7_copy_88 : decode cX7_copy 88 = .ok (.iinc 3 1, 3) := by decide +kernel
theorem dX7_copy_91 : decode cX7_copy 91 = .ok (.goto (-31), 3) := by decide +kernel
theorem dX7_copy_94 : decode cX7_copy 94 = .ok (.return_, 1) := by decide +kernel
theorem dX7_goYears_0 : decode cX7_goYears 0 = .ok (.aload_n 0, 1) := by decide +kernel
theorem dX7_goYears_1 : decode cX7_goYears 1 = .ok (.iconst 0, 1) := by decide +kernel
theorem dX7_goYears_2 : decode cX7_goYears 2 = .ok (.iconst 1, 1) := by decide +kernel
theorem dX7_goYears_3 : decode cX7_goYears 3 = .ok (.invokevirtual 213, 3) := by decide +kernel
theorem dX7_goYears_6 : decode cX7_goYears 6 = .ok (.iconst 0, 1) := by decide +kernel
theorem dX7_goYears_7 : decode cX7_goYears 7 = .ok (.istore_n 3, 1) := by decide +kernel
theorem dX7_goYears_8 : decode cX7_goYears 8 = .ok (.iload_n 3, 1) := by decide +kernel
theorem dX7_goYears_9 : decode cX7_goYears 9 = .ok (.iload_n 2, 1) := by decide +kernel
theorem dX7_goYears_10 : decode cX7_goYears 10 = .ok (.if_icmp .ge 89, 3) := by decide +kernel
theorem dX7_goYears_13 : decode cX7_goYears 13 = .ok (.iconst 0, 1) := by decide +kernel
theorem dX7_goYears_14 : decode cX7_goYears 14 = .ok (.istore 4, 2) := by decide +kernel
theorem dX7_goYears_16 : decode cX7_goYears 16 = .ok (.iload 4, 2) := by decide +kernel
theorem dX7_goYears_18 : decode cX7_goYears 18 = .ok (.aload_n 0, 1) := by decide +kernel
theorem dX7_goYears_19 : decode cX7_goYears 19 = .ok (.getfield 13, 3) := by decide +kernel
theorem dX7_goYears_22 : decode cX7_goYears 22 = .ok (.iconst 0, 1) := by decide +kernel
theorem dX7_goYears_23 : decode cX7_goYears 23 = .ok (.iaload, 1) := by decide +kernel
theorem dX7_goYears_24 : decode cX7_goYears 24 = .ok (.if_icmp .ge 69, 3) := by decide +kernel
theorem dX7_goYears_27 : decode cX7_goYears 27 = .ok (.ldc2_w 216, 3) := by decide +kernel
theorem dX7_goYears_30 : decode cX7_goYears 30 = .ok (.iload_n 1, 1) := by decide +kernel
theorem dX7_goYears_31 : decode cX7_goYears 31 = .ok (.i2l, 1) := by decide +kernel
theorem dX7_goYears_32 : decode cX7_goYears 32 = .ok (.lmul, 1) := by decide +kernel
theorem dX7_goYears_33 : decode cX7_goYears 33 = .ok (.ldc2_w 218, 3) := by decide +kernel
theorem dX7_goYears_36 : decode cX7_goYears 36 = .ok (.iload 4, 2) := by decide +kernel
theorem dX7_goYears_38 : decode cX7_goYears 38 = .ok (.i2l, 1) := by decide +kernel
theorem dX7_goYears_39 : decode cX7_goYears 39 = .ok (.lmul, 1) := by decide +kernel
theorem dX7_goYears_40 : decode cX7_goYears 40 = .ok (.ladd, 1) := by decide +kernel
theorem dX7_goYears_41 : decode cX7_goYears 41 = .ok (.ldc2_w 220, 3) := by decide +kernel
theorem dX7_goYears_44 : decode cX7_goYears 44 = .ok (.iload_n 3, 1) := by decide +kernel
theorem dX7_goYears_45 : decode cX7_goYears 45 = .ok (.i2l, 1) := by decide +kernel
theorem dX7_goYears_46 : decode cX7_goYears 46 = .ok (.lmul, 1) := by decide +kernel
theorem dX7_goYears_47 : decode cX7_goYears 47 = .ok (.ladd, 1) := by decide +kernel
theorem dX7_goYears_48 : decode cX7_goYears 48 = .ok (.lconst 1, 1) := by decide +kernel
theorem dX7_goYears_49 : decode cX7_goYears 49 = .ok (.ladd, 1) := by decide +kernel
theorem dX7_goYears_50 : decode cX7_goYears 50 = .ok (.lstore 5, 2) := by decide +kernel
theorem dX7_goYears_52 : decode cX7_goYears 52 = .ok (.lload 5, 2) := by decide +kernel
theorem dX7_goYears_54 : decode cX7_goYears 54 = .ok (.lload 5, 2) := by decide +kernel
theorem dX7_goYears_56 : decode cX7_goYears 56 = .ok (.lmul, 1) := by decide +kernel
theorem dX7_goYears_57 : decode cX7_goYears 57 = .ok (.ldc2_w 222, 3) := by decide +kernel
theorem dX7_goYears_60 : decode cX7_goYears 60 = .ok (.lrem, 1) := by decide +kernel
theorem dX7_goYears_61 : decode cX7_goYears 61 = .ok (.ldc2_w 123, 3) := by decide +kernel
theorem dX7_goYears_64 : decode cX7_goYears 64 = .ok (.lrem, 1) := by decide +kernel
theorem dX7_goYears_65 : decode cX7_goYears 65 = .ok (.l2i, 1) := by decide +kernel
theorem dX7_goYears_66 : decode cX7_goYears 66 = .ok (.istore 7, 2) := by decide +kernel
theorem dX7_goYears_68 : decode cX7_goYears 68 = .ok (.iload 7, 2) := by decide +kernel
theorem dX7_goYears_70 : decode cX7_goYears 70 = .ok (.bipush 6, 2) := by decide +kernel
theorem dX7_goYears_72 : decode cX7_goYears 72 = .ok (.if_icmp .ge 15, 3) := by decide +kernel
theorem dX7_goYears_75 : decode cX7_goYears 75 = .ok (.aload_n 0, 1) := by decide +kernel
theorem dX7_goYears_76 : decode cX7_goYears 76 = .ok (.bipush 8, 2) := by decide +kernel
theorem dX7_goYears_78 : decode cX7_goYears 78 = .ok (.iload 4, 2) := by decide +kernel
theorem dX7_goYears_80 : decode cX7_goYears 80 = .ok (.iadd, 1) := by decide +kernel
theorem dX7_goYears_81 : decode cX7_goYears 81 = .ok (.iload 7, 2) := by decide +kernel
theorem dX7_goYears_83 : decode cX7_goYears 83 = .ok (.invokevirtual 150, 3) := by decide +kernel
theorem dX7_goYears_86 : decode cX7_goYears 86 = .ok (.pop, 1) := by decide +kernel
theorem dX7_goYears_87 : decode cX7_goYears 87 = .ok (.iinc 4 1, 3) := by decide +kernel
theorem dX7_goYears_90 : decode cX7_goYears 90 = .ok (.goto (-74), 3) := by decide +kernel
theorem dX7_goYears_93 : decode cX7_goYears 93 = .ok (.iinc 3 1, 3) := by decide +kernel
theorem dX7_goYears_96 : decode cX7_goYears 96 = .ok (.goto (-88), 3) := by decide +kernel
theorem dX7_goYears_99 : decode cX7_goYears 99 = .ok (.return_, 1) := by decide +kernel
theorem dX7_isHill_0 : decode cX7_isHill 0 = .ok (.iload_n 0, 1) := by decide +kernel
theorem dX7_isHill_1 : decode cX7_isHill 1 = .ok (.i2l, 1) := by decide +kernel
theorem dX7_isHill_2 : decode cX7_isHill 2 = .ok (.lconst 0, 1) := by decide +kernel
theorem dX7_isHill_3 : decode cX7_isHill 3 = .ok (.ldc2_w 224, 3) := by decide +kernel
theorem dX7_isHill_6 : decode cX7_isHill 6 = .ok (.invokestatic 88, 3) := by decide +kernel
theorem dX7_isHill_9 : decode cX7_isHill 9 = .ok (.ifCond .eq 19, 3) := by decide +kernel
theorem dX7_isHill_12 : decode cX7_isHill 12 = .ok (.iload_n 1, 1) := by decide +kernel
theorem dX7_isHill_13 : decode cX7_isHill 13 = .ok (.i2l, 1) := by decide +kernel
theorem dX7_isHill_14 : decode cX7_isHill 14 = .ok (.lconst 0, 1) := by decide +kernel
theorem dX7_isHill_15 : decode cX7_isHill 15 = .ok (.ldc2_w 226, 3) := by decide +kernel
theorem dX7_isHill_18 : decode cX7_isHill 18 = .ok (.invokestatic 88, 3) := by decide +kernel
theorem dX7_isHill_21 : decode cX7_isHill 21 = .ok (.ifCond .eq 7, 3) := by decide +kernel
theorem dX7_isHill_24 : decode cX7_isHill 24 = .ok (.iconst 1, 1) := by decide +kernel
theorem dX7_isHill_25 : decode cX7_isHill 25 = .ok (.goto 4, 3) := by decide +kernel
theorem dX7_isHill_28 : decode cX7_isHill 28 = .ok (.iconst 0, 1) := by decide +kernel
theorem dX7_isHill_29 : decode cX7_isHill 29 = .ok (.ireturn, 1) := by decide +kernel
theorem dX7_years_0 : decode cX7_years 0 = .ok (.iload_n 1, 1) := by decide +kernel
theorem dX7_years_1 : decode cX7_years 1 = .ok (.iload_n 2, 1) := by decide +kernel
theorem dX7_years_2 : decode cX7_years 2 = .ok (.invokestatic 228, 3) := by decide +kernel
theorem dX7_years_5 : decode cX7_years 5 = .ok (.ifCond .eq 15, 3) := by decide +kernel
theorem dX7_years_8 : decode cX7_years 8 = .ok (.iload_n 3, 1) := by decide +kernel
theorem dX7_years_9 : decode cX7_years 9 = .ok (.i2l, 1) := by decide +kernel
theorem dX7_years_10 : decode cX7_years 10 = .ok (.lconst 0, 1) := by decide +kernel
theorem dX7_years_11 : decode cX7_years 11 = .ok (.ldc2_w 231, 3) := by decide +kernel
theorem dX7_years_14 : decode cX7_years 14 = .ok (.invokestatic 88, 3) := by decide +kernel
theorem dX7_years_17 : decode cX7_years 17 = .ok (.ifCond .ne 5, 3) := by decide +kernel
theorem dX7_years_20 : decode cX7_years 20 = .ok (.iconst (-1), 1) := by decide +kernel
theorem dX7_years_21 : decode cX7_years 21 = .ok (.ireturn, 1) := by decide +kernel
theorem dX7_years_22 : decode cX7_years 22 = .ok (.aload_n 0, 1) := by decide +kernel
theorem dX7_years_23 : decode cX7_years 23 = .ok (.iload_n 1, 1) := by decide +kernel
theorem dX7_years_24 : decode cX7_years 24 = .ok (.iload_n 2, 1) := by decide +kernel
theorem dX7_years_25 : decode cX7_years 25 = .ok (.invokevirtual 233, 3) := by decide +kernel
theorem dX7_years_28 : decode cX7_years 28 = .ok (.aload_n 0, 1) := by decide +kernel
theorem dX7_years_29 : decode cX7_years 29 = .ok (.iconst 1, 1) := by decide +kernel
theorem dX7_years_30 : decode cX7_years 30 = .ok (.bipush (-4), 2) := by decide +kernel
theorem dX7_years_32 : decode cX7_years 32 = .ok (.bipush (-4), 2) := by decide +kernel
theorem dX7_years_34 : decode cX7_years 34 = .ok (.invokevirtual 135, 3) := by decide +kernel
theorem dX7_years_37 : decode cX7_years 37 = .ok (.iconst 1, 1) := by decide +kernel
theorem dX7_years_38 : decode cX7_years 38 = .ok (.aload_n 0, 1) := by decide +kernel
theorem dX7_years_39 : decode cX7_years 39 = .ok (.getfield 13, 3) := by decide +kernel
theorem dX7_years_42 : decode cX7_years 42 = .ok (.iconst 0, 1) := by decide +kernel
theorem dX7_years_43 : decode cX7_years 43 = .ok (.iaload, 1) := by decide +kernel
theorem dX7_years_44 : decode cX7_years 44 = .ok (.ishl, 1) := by decide +kernel
theorem dX7_years_45 : decode cX7_years 45 = .ok (.iconst 1, 1) := by decide +kernel
theorem dX7_years_46 : decode cX7_years 46 = .ok (.isub, 1) := by decide +kernel
theorem dX7_years_47 : decode cX7_years 47 = .ok (.istore 4, 2) := by decide +kernel
theorem dX7_years_49 : decode cX7_years 49 = .ok (.iconst 0, 1) := by decide +kernel
theorem dX7_years_50 : decode cX7_years 50 = .ok (.istore 5, 2) := by decide +kernel
theorem dX7_years_52 : decode cX7_years 52 = .ok (.iconst 0, 1) := by decide +kernel
theorem dX7_years_53 : decode cX7_years 53 = .ok (.istore 6, 2) := by decide +kernel
theorem dX7_years_55 : decode cX7_years 55 = .ok (.iconst 0, 1) := by decide +kernel
theorem dX7_years_56 : decode cX7_years 56 = .ok (.istore 7, 2) := by decide +kernel
theorem dX7_years_58 : decode cX7_years 58 = .ok (.iload 7, 2) := by decide +kernel
theorem dX7_years_60 : decode cX7_years 60 = .ok (.aload_n 0, 1) := by decide +kernel
theorem dX7_years_61 : decode cX7_years 61 = .ok (.getfield 13, 3) := by decide +kernel
theorem dX7_years_64 : decode cX7_years 64 = .ok (.iconst 0, 1) := by decide +kernel
theorem dX7_years_65 : decode cX7_years 65 = .ok (.iaload, 1) := by decide +kernel
theorem dX7_years_66 : decode cX7_years 66 = .ok (.if_icmp .ge 57, 3) := by decide +kernel
theorem dX7_years_69 : decode cX7_years 69 = .ok (.aload_n 0, 1) := by decide +kernel
theorem dX7_years_70 : decode cX7_years 70 = .ok (.getfield 64, 3) := by decide +kernel
theorem dX7_years_73 : decode cX7_years 73 = .ok (.iload 7, 2) := by decide +kernel
theorem dX7_years_75 : decode cX7_years 75 = .ok (.iaload, 1) := by decide +kernel
theorem dX7_years_76 : decode cX7_years 76 = .ok (.iload 5, 2) := by decide +kernel
theorem dX7_years_78 : decode cX7_years 78 = .ok (.if_icmp .le 13, 3) := by decide +kernel
theorem dX7_years_81 : decode cX7_years 81 = .ok (.aload_n 0, 1) := by decide +kernel
theorem dX7_years_82 : decode cX7_years 82 = .ok (.getfield 64, 3) := by decide +kernel
theorem dX7_years_85 : decode cX7_years 85 = .ok (.iload 7, 2) := by decide +kernel
theorem dX7_years_87 : decode cX7_years 87 = .ok (.iaload, 1) := by decide +kernel
theorem dX7_years_88 : decode cX7_years 88 = .ok (.goto 5, 3) := by decide +kernel
theorem dX7_years_91 : decode cX7_years 91 = .ok (.iload 5, 2) := by decide +kernel
theorem dX7_years_93 : decode cX7_years 93 = .ok (.istore 5, 2) := by decide +kernel
theorem dX7_years_95 : decode cX7_years 95 = .ok (.iload 6, 2) := by decide +kernel
theorem dX7_years_97 : decode cX7_years 97 = .ok (.aload_n 0, 1) := by decide +kernel
theorem dX7_years_98 : decode cX7_years 98 = .ok (.iconst 1, 1) := by decide +kernel
theorem dX7_years_99 : decode cX7_years 99 = .ok (.iload 7, 2) := by decide +kernel
theorem dX7_years_101 : decode cX7_years 101 = .ok (.iload 4, 2) := by decide +kernel
theorem dX7_years_103 : decode cX7_years 103 = .ok (.invokevirtual 198, 3) := by decide +kernel
theorem dX7_years_106 : decode cX7_years 106 = .ok (.ifCond .le 7, 3) := by decide +kernel
theorem dX7_years_109 : decode cX7_years 109 = .ok (.iconst 1, 1) := by decide +kernel
theorem dX7_years_110 : decode cX7_years 110 = .ok (.goto 4, 3) := by decide +kernel
theorem dX7_years_113 : decode cX7_years 113 = .ok (.iconst 0, 1) := by decide +kernel
theorem dX7_years_114 : decode cX7_years 114 = .ok (.iadd, 1) := by decide +kernel
theorem dX7_years_115 : decode cX7_years 115 = .ok (.istore 6, 2) := by decide +kernel
theorem dX7_years_117 : decode cX7_years 117 = .ok (.iinc 7 1, 3) := by decide +kernel
theorem dX7_years_120 : decode cX7_years 120 = .ok (.goto (-62), 3) := by decide +kernel
theorem dX7_years_123 : decode cX7_years 123 = .ok (.iload_n 3, 1) := by decide +kernel
theorem dX7_years_124 : decode cX7_years 124 = .ok (.ifCond .ne 12, 3) := by decide +kernel
theorem dX7_years_127 : decode cX7_years 127 = .ok (.aload_n 0, 1) := by decide +kernel
theorem dX7_years_128 : decode cX7_years 128 = .ok (.iload 4, 2) := by decide +kernel
theorem dX7_years_130 : decode cX7_years 130 = .ok (.invokevirtual 159, 3) := by decide +kernel
theorem dX7_years_133 : decode cX7_years 133 = .ok (.goto 15, 3) := by decide +kernel
theorem dX7_years_136 : decode cX7_years 136 = .ok (.iload_n 3, 1) := by decide +kernel
theorem dX7_years_137 : decode cX7_years 137 = .ok (.iconst 1, 1) := by decide +kernel
theorem dX7_years_138 : decode cX7_years 138 = .ok (.if_icmp .ne 8, 3) := by decide +kernel
theorem dX7_years_141 : decode cX7_years 141 = .ok (.iload 5, 2) := by decide +kernel
theorem dX7_years_143 : decode cX7_years 143 = .ok (.goto 5, 3) := by decide +kernel
theorem dX7_years_146 : decode cX7_years 146 = .ok (.iload 6, 2) := by decide +kernel
theorem dX7_years_148 : decode cX7_years 148 = .ok (.ireturn, 1) := by decide +kernel
theorem dX7_then_0 : decode cX7_then 0 = .ok (.iload_n 1, 1) := by decide +kernel
theorem dX7_then_1 : decode cX7_then 1 = .ok (.iload_n 2, 1) := by decide +kernel
theorem dX7_then_2 : decode cX7_then 2 = .ok (.invokestatic 228, 3) := by decide +kernel
theorem dX7_then_5 : decode cX7_then 5 = .ok (.ifCond .eq 24, 3) := by decide +kernel
theorem dX7_then_8 : decode cX7_then 8 = .ok (.aload_n 0, 1) := by decide +kernel
theorem dX7_then_9 : decode cX7_then 9 = .ok (.iload_n 3, 1) := by decide +kernel
theorem dX7_then_10 : decode cX7_then 10 = .ok (.invokevirtual 139, 3) := by decide +kernel
theorem dX7_then_13 : decode cX7_then 13 = .ok (.ifCond .eq 16, 3) := by decide +kernel
theorem dX7_then_16 : decode cX7_then 16 = .ok (.iload 4, 2) := by decide +kernel
theorem dX7_then_18 : decode cX7_then 18 = .ok (.i2l, 1) := by decide +kernel
theorem dX7_then_19 : decode cX7_then 19 = .ok (.lconst 0, 1) := by decide +kernel
theorem dX7_then_20 : decode cX7_then 20 = .ok (.ldc2_w 121, 3) := by decide +kernel
theorem dX7_then_23 : decode cX7_then 23 = .ok (.invokestatic 88, 3) := by decide +kernel
theorem dX7_then_26 : decode cX7_then 26 = .ok (.ifCond .ne 5, 3) := by decide +kernel
theorem dX7_then_29 : decode cX7_then 29 = .ok (.iconst (-1), 1) := by decide +kernel
theorem dX7_then_30 : decode cX7_then 30 = .ok (.ireturn, 1) := by decide +kernel
theorem dX7_then_31 : decode cX7_then 31 = .ok (.aload_n 0, 1) := by decide +kernel
theorem dX7_then_32 : decode cX7_then 32 = .ok (.iload_n 1, 1) := by decide +kernel
theorem dX7_then_33 : decode cX7_then 33 = .ok (.iload_n 2, 1) := by decide +kernel
theorem dX7_then_34 : decode cX7_then 34 = .ok (.invokevirtual 233, 3) := by decide +kernel
theorem dX7_then_37 : decode cX7_then 37 = .ok (.iload 4, 2) := by decide +kernel
theorem dX7_then_39 : decode cX7_then 39 = .ok (.aload_n 0, 1) := by decide +kernel
theorem dX7_then_40 : decode cX7_then 40 = .ok (.getfield 46, 3) := by decide +kernel
theorem dX7_then_43 : decode cX7_then 43 = .ok (.bipush 8, 2) := by decide +kernel
theorem dX7_then_45 : decode cX7_then 45 = .ok (.iload_n 3, 1) := by decide +kernel
theorem dX7_then_46 : decode cX7_then 46 = .ok (.iadd, 1) := by decide +kernel
theorem dX7_then_47 : decode cX7_then 47 = .ok (.iaload, 1) := by decide +kernel
theorem dX7_then_48 : decode cX7_then 48 = .ok (.if_icmp .ge 21, 3) := by decide +kernel
theorem dX7_then_51 : decode cX7_then 51 = .ok (.aload_n 0, 1) := by decide +kernel
theorem dX7_then_52 : decode cX7_then 52 = .ok (.getfield 49, 3) := by decide +kernel
theorem dX7_then_55 : decode cX7_then 55 = .ok (.bipush 80, 2) := by decide +kernel
theorem dX7_then_57 : decode cX7_then 57 = .ok (.bipush 10, 2) := by decide +kernel
theorem dX7_then_59 : decode cX7_then 59 = .ok (.iload_n 3, 1) := by decide +kernel
theorem dX7_then_60 : decode cX7_then 60 = .ok (.imul, 1) := by decide +kernel
theorem dX7_then_61 : decode cX7_then 61 = .ok (.iadd, 1) := by decide +kernel
theorem dX7_then_62 : decode cX7_then 62 = .ok (.iload 4, 2) := by decide +kernel
theorem dX7_then_64 : decode cX7_then 64 = .ok (.iadd, 1) := by decide +kernel
theorem dX7_then_65 : decode cX7_then 65 = .ok (.iaload, 1) := by decide +kernel
theorem dX7_then_66 : decode cX7_then 66 = .ok (.goto 5, 3) := by decide +kernel
theorem dX7_then_69 : decode cX7_then 69 = .ok (.bipush (-4), 2) := by decide +kernel
theorem dX7_then_71 : decode cX7_then 71 = .ok (.ireturn, 1) := by decide +kernel
theorem dX7_copyHeard_0 : decode cX7_copyHeard 0 = .ok (.aload_n 0, 1) := by decide +kernel
theorem dX7_copyHeard_1 : decode cX7_copyHeard 1 = .ok (.getfield 52, 3) := by decide +kernel
theorem dX7_copyHeard_4 : decode cX7_copyHeard 4 = .ok (.iload_n 2, 1) := by decide +kernel
theorem dX7_copyHeard_5 : decode cX7_copyHeard 5 = .ok (.aload_n 0, 1) := by decide +kernel
theorem dX7_copyHeard_6 : decode cX7_copyHeard 6 = .ok (.getfield 52, 3) := by decide +kernel
theorem dX7_copyHeard_9 : decode cX7_copyHeard 9 = .ok (.iload_n 1, 1) := by decide +kernel
theorem dX7_copyHeard_10 : decode cX7_copyHeard 10 = .ok (.iaload, 1) := by decide +kernel
theorem dX7_copyHeard_11 : decode cX7_copyHeard 11 = .ok (.iastore, 1) := by decide +kernel
theorem dX7_copyHeard_12 : decode cX7_copyHeard 12 = .ok (.iconst 0, 1) := by decide +kernel
theorem dX7_copyHeard_13 : decode cX7_copyHeard 13 = .ok (.istore_n 3, 1) := by decide +kernel
theorem dX7_copyHeard_14 : decode cX7_copyHeard 14 = .ok (.iload_n 3, 1) := by decide +kernel
theorem dX7_copyHeard_15 : decode cX7_copyHeard 15 = .ok (.bipush 12, 2) := by decide +kernel
theorem dX7_copyHeard_17 : decode cX7_copyHeard 17 = .ok (.if_icmp .ge 31, 3) := by decide +kernel
theorem dX7_copyHeard_20 : decode cX7_copyHeard 20 = .ok (.aload_n 0, 1) := by decide +kernel
theorem dX7_copyHeard_21 : decode cX7_copyHeard 21 = .ok (.getfield 55, 3) := by decide +kernel
theorem dX7_copyHeard_24 : decode cX7_copyHeard 24 = .ok (.bipush 12, 2) := by decide +kernel
theorem dX7_copyHeard_26 : decode cX7_copyHeard 26 = .ok (.iload_n 2, 1) := by decide +kernel
theorem dX7_copyHeard_27 : decode cX7_copyHeard 27 = .ok (.imul, 1) := by decide +kernel
theorem dX7_copyHeard_28 : decode cX7_copyHeard 28 = .ok (.iload_n 3, 1) := by decide +kernel
theorem dX7_copyHeard_29 : decode cX7_copyHeard 29 = .ok (.iadd, 1) := by decide +kernel
theorem dX7_copyHeard_30 : decode cX7_copyHeard 30 = .ok (.aload_n 0, 1) := by decide +kernel
theorem dX7_copyHeard_31 : decode cX7_copyHeard 31 = .ok (.getfield 55, 3) := by decide +kernel
theorem dX7_copyHeard_34 : decode cX7_copyHeard 34 = .ok (.bipush 12, 2) := by decide +kernel
theorem dX7_copyHeard_36 : decode cX7_copyHeard 36 = .ok (.iload_n 1, 1) := by decide +kernel
theorem dX7_copyHeard_37 : decode cX7_copyHeard 37 = .ok (.imul, 1) := by decide +kernel
theorem dX7_copyHeard_38 : decode cX7_copyHeard 38 = .ok (.iload_n 3, 1) := by decide +kernel
theorem dX7_copyHeard_39 : decode cX7_copyHeard 39 = .ok (.iadd, 1) := by decide +kernel
theorem dX7_copyHeard_40 : decode cX7_copyHeard 40 = .ok (.iaload, 1) := by decide +kernel
theorem dX7_copyHeard_41 : decode cX7_copyHeard 41 = .ok (.iastore, 1) := by decide +kernel
theorem dX7_copyHeard_42 : decode cX7_copyHeard 42 = .ok (.iinc 3 1, 3) := by decide +kernel
theorem dX7_copyHeard_45 : decode cX7_copyHeard 45 = .ok (.goto (-31), 3) := by decide +kernel
theorem dX7_copyHeard_48 : decode cX7_copyHeard 48 = .ok (.return_, 1) := by decide +kernel
theorem dX7_keep_0 : decode cX7_keep 0 = .ok (.aload_n 0, 1) := by decide +kernel
theorem dX7_keep_1 : decode cX7_keep 1 = .ok (.getfield 132, 3) := by decide +kernel
theorem dX7_keep_4 : decode cX7_keep 4 = .ok (.iconst 2, 1) := by decide +kernel
theorem dX7_keep_5 : decode cX7_keep 5 = .ok (.if_icmp .ne 6, 3) := by decide +kernel
theorem dX7_keep_8 : decode cX7_keep 8 = .ok (.bipush (-3), 2) := by decide +kernel
theorem dX7_keep_10 : decode cX7_keep 10 = .ok (.ireturn, 1) := by decide +kernel
theorem dX7_keep_11 : decode cX7_keep 11 = .ok (.aload_n 0, 1) := by decide +kernel
theorem dX7_keep_12 : decode cX7_keep 12 = .ok (.dup, 1) := by decide +kernel
theorem dX7_keep_13 : decode cX7_keep 13 = .ok (.getfield 132, 3) := by decide +kernel
theorem dX7_keep_16 : decode cX7_keep 16 = .ok (.iconst 1, 1) := by decide +kernel
theorem dX7_keep_17 : decode cX7_keep 17 = .ok (.iadd, 1) := by decide +kernel
theorem dX7_keep_18 : decode cX7_keep 18 = .ok (.putfield 132, 3) := by decide +kernel
theorem dX7_keep_21 : decode cX7_keep 21 = .ok (.aload_n 0, 1) := by decide +kernel
theorem dX7_keep_22 : decode cX7_keep 22 = .ok (.iconst 0, 1) := by decide +kernel
theorem dX7_keep_23 : decode cX7_keep 23 = .ok (.iconst 1, 1) := by decide +kernel
theorem dX7_keep_24 : decode cX7_keep 24 = .ok (.aload_n 0, 1) := by decide +kernel
theorem dX7_keep_25 : decode cX7_keep 25 = .ok (.getfield 132, 3) := by decide +kernel
theorem dX7_keep_28 : decode cX7_keep 28 = .ok (.iadd, 1) := by decide +kernel
theorem dX7_keep_29 : decode cX7_keep 29 = .ok (.invokevirtual 213, 3) := by decide +kernel
theorem dX7_keep_32 : decode cX7_keep 32 = .ok (.aload_n 0, 1) := by decide +kernel
theorem dX7_keep_33 : decode cX7_keep 33 = .ok (.iconst 0, 1) := by decide +kernel
theorem dX7_keep_34 : decode cX7_keep 34 = .ok (.aload_n 0, 1) := by decide +kernel
theorem dX7_keep_35 : decode cX7_keep 35 = .ok (.getfield 132, 3) := by decide +kernel
theorem dX7_keep_38 : decode cX7_keep 38 = .ok (.invokevirtual 236, 3) := by decide +kernel
theorem dX7_keep_41 : decode cX7_keep 41 = .ok (.aload_n 0, 1) := by decide +kernel
theorem dX7_keep_42 : decode cX7_keep 42 = .ok (.getfield 132, 3) := by decide +kernel
theorem dX7_keep_45 : decode cX7_keep 45 = .ok (.ireturn, 1) := by decide +kernel
theorem dX7_back_0 : decode cX7_back 0 = .ok (.aload_n 0, 1) := by decide +kernel
theorem dX7_back_1 : decode cX7_back 1 = .ok (.getfield 132, 3) := by decide +kernel
theorem dX7_back_4 : decode cX7_back 4 = .ok (.ifCond .ne 6, 3) := by decide +kernel
theorem dX7_back_7 : decode cX7_back 7 = .ok (.bipush (-2), 2) := by decide +kernel
theorem dX7_back_9 : decode cX7_back 9 = .ok (.ireturn, 1) := by decide +kernel
theorem dX7_back_10 : decode cX7_back 10 = .ok (.aload_n 0, 1) := by decide +kernel
theorem dX7_back_11 : decode cX7_back 11 = .ok (.iconst 1, 1) := by decide +kernel
theorem dX7_back_12 : decode cX7_back 12 = .ok (.aload_n 0, 1) := by decide +kernel
theorem dX7_back_13 : decode cX7_back 13 = .ok (.getfield 132, 3) := by decide +kernel
theorem dX7_back_16 : decode cX7_back 16 = .ok (.iadd, 1) := by decide +kernel
theorem dX7_back_17 : decode cX7_back 17 = .ok (.iconst 0, 1) := by decide +kernel
theorem dX7_back_18 : decode cX7_back 18 = .ok (.invokevirtual 213, 3) := by decide +kernel
theorem dX7_back_21 : decode cX7_back 21 = .ok (.aload_n 0, 1) := by decide +kernel
theorem dX7_back_22 : decode cX7_back 22 = .ok (.aload_n 0, 1) := by decide +kernel
theorem dX7_back_23 : decode cX7_back 23 = .ok (.getfield 132, 3) := by decide +kernel
theorem dX7_back_26 : decode cX7_back 26 = .ok (.iconst 0, 1) := by decide +kernel
theorem dX7_back_27 : decode cX7_back 27 = .ok (.invokevirtual 236, 3) := by decide +kernel
theorem dX7_back_30 : decode cX7_back 30 = .ok (.aload_n 0, 1) := by decide +kernel
theorem dX7_back_31 : decode cX7_back 31 = .ok (.dup, 1) := by decide +kernel
theorem dX7_back_32 : decode cX7_back 32 = .ok (.getfield 132, 3) := by decide +kernel
theorem dX7_back_35 : decode cX7_back 35 = .ok (.iconst 1, 1) := by decide +kernel
theorem dX7_back_36 : decode cX7_back 36 = .ok (.isub, 1) := by decide +kernel
theorem dX7_back_37 : decode cX7_back 37 = .ok (.putfield 132, 3) := by decide +kernel
theorem dX7_back_40 : decode cX7_back 40 = .ok (.aload_n 0, 1) := by decide +kernel
theorem dX7_back_41 : decode cX7_back 41 = .ok (.getfield 132, 3) := by decide +kernel
theorem dX7_back_44 : decode cX7_back 44 = .ok (.ireturn, 1) := by decide +kernel
theorem dX7_count_0 : decode cX7_count 0 = .ok (.iload_n 1, 1) := by decide +kernel
theorem dX7_count_1 : decode cX7_count 1 = .ok (.tableswitch 88 0 6 #[43, 50, 57, 62, 67, 74, 81], 43) := by decide +kernel
theorem dX7_count_44 : decode cX7_count 44 = .ok (.aload_n 0, 1) := by decide +kernel
theorem dX7_count_45 : decode cX7_count 45 = .ok (.getfield 13, 3) := by decide +kernel
theorem dX7_count_48 : decode cX7_count 48 = .ok (.iconst 0, 1) := by decide +kernel
theorem dX7_count_49 : decode cX7_count 49 = .ok (.iaload, 1) := by decide +kernel
theorem dX7_count_50 : decode cX7_count 50 = .ok (.ireturn, 1) := by decide +kernel
theorem dX7_count_51 : decode cX7_count 51 = .ok (.aload_n 0, 1) := by decide +kernel
theorem dX7_count_52 : decode cX7_count 52 = .ok (.getfield 52, 3) := by decide +kernel
theorem dX7_count_55 : decode cX7_count 55 = .ok (.iconst 0, 1) := by decide +kernel
theorem dX7_count_56 : decode cX7_count 56 = .ok (.iaload, 1) := by decide +kernel
theorem dX7_count_57 : decode cX7_count 57 = .ok (.ireturn, 1) := by decide +kernel
theorem dX7_count_58 : decode cX7_count 58 = .ok (.aload_n 0, 1) := by decide +kernel
theorem dX7_count_59 : decode cX7_count 59 = .ok (.getfield 92, 3) := by decide +kernel
theorem dX7_count_62 : decode cX7_count 62 = .ok (.ireturn, 1) := by decide +kernel
theorem dX7_count_63 : decode cX7_count 63 = .ok (.aload_n 0, 1) := by decide +kernel
theorem dX7_count_64 : decode cX7_count 64 = .ok (.getfield 132, 3) := by decide +kernel
theorem dX7_count_67 : decode cX7_count 67 = .ok (.ireturn, 1) := by decide +kernel
theorem dX7_count_68 : decode cX7_count 68 = .ok (.aload_n 0, 1) := by decide +kernel
theorem dX7_count_69 : decode cX7_count 69 = .ok (.getfield 40, 3) := by decide +kernel
theorem dX7_count_72 : decode cX7_count 72 = .ok (.iconst 0, 1) := by decide +kernel
theorem dX7_count_73 : decode cX7_count 73 = .ok (.iaload, 1) := by decide +kernel
theorem dX7_count_74 : decode cX7_count 74 = .ok (.ireturn, 1) := by decide +kernel
theorem dX7_count_75 : decode cX7_count 75 = .ok (.aload_n 0, 1) := by decide +kernel
theorem dX7_count_76 : decode cX7_count 76 = .ok (.getfield 40, 3) := by decide +kernel
theorem dX7_count_79 : decode cX7_count 79 = .ok (.iconst 1, 1) := by decide +kernel
theorem dX7_count_80 : decode cX7_count 80 = .ok (.iaload, 1) := by decide +kernel
theorem dX7_count_81 : decode cX7_count 81 = .ok (.ireturn, 1) := by decide +kernel
theorem dX7_count_82 : decode cX7_count 82 = .ok (.aload_n 0, 1) := by decide +kernel
theorem dX7_count_83 : decode cX7_count 83 = .ok (.getfield 40, 3) := by decide +kernel
theorem dX7_count_86 : decode cX7_count 86 = .ok (.iconst 2, 1) := by decide +kernel
theorem dX7_count_87 : decode cX7_count 87 = .ok (.iaload, 1) := by decide +kernel
theorem dX7_count_88 : decode cX7_count 88 = .ok (.ireturn, 1) := by decide +kernel
theorem dX7_count_89 : decode cX7_count 89 = .ok (.iconst (-1), 1) := by decide +kernel
theorem dX7_count_90 : decode cX7_count 90 = .ok (.ireturn, 1) := by decide +kernel
theorem dJ6_bitCount_0f7a4_0 : decode cJ6_bitCount_0f7a4 0 = .ok (.iload_n 0, 1) := by decide +kernel
theorem dJ6_bitCount_0f7a4_1 : decode cJ6_bitCount_0f7a4 1 = .ok (.iload_n 0, 1) := by decide +kernel
theorem dJ6_bitCount_0f7a4_2 : decode cJ6_bitCount_0f7a4 2 = .ok (.iconst 1, 1) := by decide +kernel
theorem dJ6_bitCount_0f7a4_3 : decode cJ6_bitCount_0f7a4 3 = .ok (.iushr, 1) := by decide +kernel
theorem dJ6_bitCount_0f7a4_4 : decode cJ6_bitCount_0f7a4 4 = .ok (.ldc_w 265, 3) := by decide +kernel
theorem dJ6_bitCount_0f7a4_7 : decode cJ6_bitCount_0f7a4 7 = .ok (.iand, 1) := by decide +kernel
theorem dJ6_bitCount_0f7a4_8 : decode cJ6_bitCount_0f7a4 8 = .ok (.isub, 1) := by decide +kernel
theorem dJ6_bitCount_0f7a4_9 : decode cJ6_bitCount_0f7a4 9 = .ok (.istore_n 0, 1) := by decide +kernel
theorem dJ6_bitCount_0f7a4_10 : decode cJ6_bitCount_0f7a4 10 = .ok (.iload_n 0, 1) := by decide +kernel
theorem dJ6_bitCount_0f7a4_11 : decode cJ6_bitCount_0f7a4 11 = .ok (.ldc_w 266, 3) := by decide +kernel
theorem dJ6_bitCount_0f7a4_14 : decode cJ6_bitCount_0f7a4 14 = .ok (.iand, 1) := by decide +kernel
theorem dJ6_bitCount_0f7a4_15 : decode cJ6_bitCount_0f7a4 15 = .ok (.iload_n 0, 1) := by decide +kernel
theorem dJ6_bitCount_0f7a4_16 : decode cJ6_bitCount_0f7a4 16 = .ok (.iconst 2, 1) := by decide +kernel
theorem dJ6_bitCount_0f7a4_17 : decode cJ6_bitCount_0f7a4 17 = .ok (.iushr, 1) := by decide +kernel
theorem dJ6_bitCount_0f7a4_18 : decode cJ6_bitCount_0f7a4 18 = .ok (.ldc_w 266, 3) := by decide +kernel
theorem dJ6_bitCount_0f7a4_21 : decode cJ6_bitCount_0f7a4 21 = .ok (.iand, 1) := by decide +kernel
theorem dJ6_bitCount_0f7a4_22 : decode cJ6_bitCount_0f7a4 22 = .ok (.iadd, 1) := by decide +kernel
theorem dJ6_bitCount_0f7a4_23 : decode cJ6_bitCount_0f7a4 23 = .ok (.istore_n 0, 1) := by decide +kernel
theorem dJ6_bitCount_0f7a4_24 : decode cJ6_bitCount_0f7a4 24 = .ok (.iload_n 0, 1) := by decide +kernel
theorem dJ6_bitCount_0f7a4_25 : decode cJ6_bitCount_0f7a4 25 = .ok (.iload_n 0, 1) := by decide +kernel
theorem dJ6_bitCount_0f7a4_26 : decode cJ6_bitCount_0f7a4 26 = .ok (.iconst 4, 1) := by decide +kernel
theorem dJ6_bitCount_0f7a4_27 : decode cJ6_bitCount_0f7a4 27 = .ok (.iushr, 1) := by decide +kernel
theorem dJ6_bitCount_0f7a4_28 : decode cJ6_bitCount_0f7a4 28 = .ok (.iadd, 1) := by decide +kernel
theorem dJ6_bitCount_0f7a4_29 : decode cJ6_bitCount_0f7a4 29 = .ok (.ldc_w 267, 3) := by decide +kernel
theorem dJ6_bitCount_0f7a4_32 : decode cJ6_bitCount_0f7a4 32 = .ok (.iand, 1) := by decide +kernel
theorem dJ6_bitCount_0f7a4_33 : decode cJ6_bitCount_0f7a4 33 = .ok (.istore_n 0, 1) := by decide +kernel
theorem dJ6_bitCount_0f7a4_34 : decode cJ6_bitCount_0f7a4 34 = .ok (.iload_n 0, 1) := by decide +kernel
theorem dJ6_bitCount_0f7a4_35 : decode cJ6_bitCount_0f7a4 35 = .ok (.iload_n 0, 1) := by decide +kernel
theorem dJ6_bitCount_0f7a4_36 : decode cJ6_bitCount_0f7a4 36 = .ok (.bipush 8, 2) := by decide +kernel
theorem dJ6_bitCount_0f7a4_38 : decode cJ6_bitCount_0f7a4 38 = .ok (.iushr, 1) := by decide +kernel
theorem dJ6_bitCount_0f7a4_39 : decode cJ6_bitCount_0f7a4 39 = .ok (.iadd, 1) := by decide +kernel
theorem dJ6_bitCount_0f7a4_40 : decode cJ6_bitCount_0f7a4 40 = .ok (.istore_n 0, 1) := by decide +kernel
theorem dJ6_bitCount_0f7a4_41 : decode cJ6_bitCount_0f7a4 41 = .ok (.iload_n 0, 1) := by decide +kernel
theorem dJ6_bitCount_0f7a4_42 : decode cJ6_bitCount_0f7a4 42 = .ok (.iload_n 0, 1) := by decide +kernel
theorem dJ6_bitCount_0f7a4_43 : decode cJ6_bitCount_0f7a4 43 = .ok (.bipush 16, 2) := by decide +kernel
theorem dJ6_bitCount_0f7a4_45 : decode cJ6_bitCount_0f7a4 45 = .ok (.iushr, 1) := by decide +kernel
theorem dJ6_bitCount_0f7a4_46 : decode cJ6_bitCount_0f7a4 46 = .ok (.iadd, 1) := by decide +kernel
theorem dJ6_bitCount_0f7a4_47 : decode cJ6_bitCount_0f7a4 47 = .ok (.istore_n 0, 1) := by decide +kernel
theorem dJ6_bitCount_0f7a4_48 : decode cJ6_bitCount_0f7a4 48 = .ok (.iload_n 0, 1) := by decide +kernel
theorem dJ6_bitCount_0f7a4_49 : decode cJ6_bitCount_0f7a4 49 = .ok (.bipush 63, 2) := by decide +kernel
theorem dJ6_bitCount_0f7a4_51 : decode cJ6_bitCount_0f7a4 51 = .ok (.iand, 1) := by decide +kernel
theorem dJ6_bitCount_0f7a4_52 : decode cJ6_bitCount_0f7a4 52 = .ok (.ireturn, 1) := by decide +kernel
theorem dJ9_max_7cf53_0 : decode cJ9_max_7cf53 0 = .ok (.iload_n 0, 1) := by decide +kernel
theorem dJ9_max_7cf53_1 : decode cJ9_max_7cf53 1 = .ok (.iload_n 1, 1) := by decide +kernel
theorem dJ9_max_7cf53_2 : decode cJ9_max_7cf53 2 = .ok (.if_icmp .lt 7, 3) := by decide +kernel
theorem dJ9_max_7cf53_5 : decode cJ9_max_7cf53 5 = .ok (.iload_n 0, 1) := by decide +kernel
theorem dJ9_max_7cf53_6 : decode cJ9_max_7cf53 6 = .ok (.goto 4, 3) := by decide +kernel
theorem dJ9_max_7cf53_9 : decode cJ9_max_7cf53 9 = .ok (.iload_n 1, 1) := by decide +kernel
theorem dJ9_max_7cf53_10 : decode cJ9_max_7cf53 10 = .ok (.ireturn, 1) := by decide +kernel
theorem dJ9_min_7cf53_0 : decode cJ9_min_7cf53 0 = .ok (.iload_n 0, 1) := by decide +kernel
theorem dJ9_min_7cf53_1 : decode cJ9_min_7cf53 1 = .ok (.iload_n 1, 1) := by decide +kernel
theorem dJ9_min_7cf53_2 : decode cJ9_min_7cf53 2 = .ok (.if_icmp .gt 7, 3) := by decide +kernel
theorem dJ9_min_7cf53_5 : decode cJ9_min_7cf53 5 = .ok (.iload_n 0, 1) := by decide +kernel
theorem dJ9_min_7cf53_6 : decode cJ9_min_7cf53 6 = .ok (.goto 4, 3) := by decide +kernel
theorem dJ9_min_7cf53_9 : decode cJ9_min_7cf53 9 = .ok (.iload_n 1, 1) := by decide +kernel
theorem dJ9_min_7cf53_10 : decode cJ9_min_7cf53 10 = .ok (.ireturn, 1) := by decide +kernel
theorem dL_law_0 : decode cL_law 0 = .ok (.new 7, 3) := by decide +kernel
theorem dL_law_3 : decode cL_law 3 = .ok (.dup, 1) := by decide +kernel
theorem dL_law_4 : decode cL_law 4 = .ok (.invokespecial 9, 3) := by decide +kernel
theorem dL_law_7 : decode cL_law 7 = .ok (.astore_n 1, 1) := by decide +kernel
theorem dL_law_8 : decode cL_law 8 = .ok (.new 10, 3) := by decide +kernel
theorem dL_law_11 : decode cL_law 11 = .ok (.dup, 1) := by decide +kernel
theorem dL_law_12 : decode cL_law 12 = .ok (.invokespecial 12, 3) := by decide +kernel
theorem dL_law_15 : decode cL_law 15 = .ok (.astore_n 2, 1) := by decide +kernel
theorem dL_law_16 : decode cL_law 16 = .ok (.iconst 0, 1) := by decide +kernel
theorem dL_law_17 : decode cL_law 17 = .ok (.istore_n 3, 1) := by decide +kernel
theorem dL_law_18 : decode cL_law 18 = .ok (.iload_n 3, 1) := by decide +kernel
theorem dL_law_19 : decode cL_law 19 = .ok (.aload_n 0, 1) := by decide +kernel
theorem dL_law_20 : decode cL_law 20 = .ok (.arraylength, 1) := by decide +kernel
theorem dL_law_21 : decode cL_law 21 = .ok (.iconst 5, 1) := by decide +kernel
theorem dL_law_22 : decode cL_law 22 = .ok (.isub, 1) := by decide +kernel
theorem dL_law_23 : decode cL_law 23 = .ok (.if_icmp .gt 810, 3) := by decide +kernel
theorem dL_law_26 : decode cL_law 26 = .ok (.aload_n 0, 1) := by decide +kernel
theorem dL_law_27 : decode cL_law 27 = .ok (.iload_n 3, 1) := by decide +kernel
theorem dL_law_28 : decode cL_law 28 = .ok (.iaload, 1) := by decide +kernel
theorem dL_law_29 : decode cL_law 29 = .ok (.bipush 31, 2) := by decide +kernel
theorem dL_law_31 : decode cL_law 31 = .ok (.iand, 1) := by decide +kernel
theorem dL_law_32 : decode cL_law 32 = .ok (.tableswitch 795 0 23 #[112, 175, 188, 201, 214, 247, 280, 313, 346, 369, 402, 435, 468, 501, 524, 567, 590, 603, 637, 650, 693, 746, 759, 772], 112) := by decide +kernel
theorem dL_law_144 : decode cL_law 144 = .ok (.aload_n 1, 1) := by decide +kernel
theorem dL_law_145 : decode cL_law 145 = .ok (.aload_n 0, 1) := by decide +kernel
theorem dL_law_146 : decode cL_law 146 = .ok (.iload_n 3, 1) := by decide +kernel
theorem dL_law_147 : decode cL_law 147 = .ok (.iconst 1, 1) := by decide +kernel
theorem dL_law_148 : decode cL_law 148 = .ok (.iadd, 1) := by decide +kernel
theorem dL_law_149 : decode cL_law 149 = .ok (.iaload, 1) := by decide +kernel
theorem dL_law_150 : decode cL_law 150 = .ok (.aload_n 0, 1) := by decide +kernel
theorem dL_law_151 : decode cL_law 151 = .ok (.iload_n 3, 1) := by decide +kernel
theorem dL_law_152 : decode cL_law 152 = .ok (.iconst 2, 1) := by decide +kernel
theorem dL_law_153 : decode cL_law 153 = .ok (.iadd, 1) := by decide +kernel
theorem dL_law_154 : decode cL_law 154 = .ok (.iaload, 1) := by decide +kernel
theorem dL_law_155 : decode cL_law 155 = .ok (.i2l, 1) := by decide +kernel
theorem dL_law_156 : decode cL_law 156 = .ok (.bipush 32, 2) := by decide +kernel
theorem dL_law_158 : decode cL_law 158 = .ok (.lshl, 1) := by decide +kernel
theorem dL_law_159 : decode cL_law 159 = .ok (.aload_n 0, 1) := by decide +kernel
theorem dL_law_160 : decode cL_law 160 = .ok (.iload_n 3, 1) := by decide +kernel
theorem dL_law_161 : decode cL_law 161 = .ok (.iconst 3, 1) := by decide +kernel
theorem dL_law_162 : decode cL_law 162 = .ok (.iadd, 1) := by decide +kernel
theorem dL_law_163 : decode cL_law 163 = .ok (.iaload, 1) := by decide +kernel
theorem dL_law_164 : decode cL_law 164 = .ok (.i2l, 1) := by decide +kernel
theorem dL_law_165 : decode cL_law 165 = .ok (.ldc2_w 13, 3) := by decide +kernel
theorem dL_law_168 : decode cL_law 168 = .ok (.land, 1) := by decide +kernel
theorem dL_law_169 : decode cL_law 169 = .ok (.lor, 1) := by decide +kernel
theorem dL_law_170 : decode cL_law 170 = .ok (.invokevirtual 15, 3) := by decide +kernel
theorem dL_law_173 : decode cL_law 173 = .ok (.aload_n 2, 1) := by decide +kernel
theorem dL_law_174 : decode cL_law 174 = .ok (.aload_n 0, 1) := by decide +kernel
theorem dL_law_175 : decode cL_law 175 = .ok (.iload_n 3, 1) := by decide +kernel
theorem dL_law_176 : decode cL_law 176 = .ok (.iconst 1, 1) := by decide +kernel
theorem dL_law_177 : decode cL_law 177 = .ok (.iadd, 1) := by decide +kernel
theorem dL_law_178 : decode cL_law 178 = .ok (.iaload, 1) := by decide +kernel
theorem dL_law_179 : decode cL_law 179 = .ok (.aload_n 0, 1) := by decide +kernel
theorem dL_law_180 : decode cL_law 180 = .ok (.iload_n 3, 1) := by decide +kernel
theorem dL_law_181 : decode cL_law 181 = .ok (.iconst 2, 1) := by decide +kernel
theorem dL_law_182 : decode cL_law 182 = .ok (.iadd, 1) := by decide +kernel
theorem dL_law_183 : decode cL_law 183 = .ok (.iaload, 1) := by decide +kernel
theorem dL_law_184 : decode cL_law 184 = .ok (.i2l, 1) := by decide +kernel
theorem dL_law_185 : decode cL_law 185 = .ok (.bipush 32, 2) := by decide +kernel
theorem dL_law_187 : decode cL_law 187 = .ok (.lshl, 1) := by decide +kernel
theorem dL_law_188 : decode cL_law 188 = .ok (.aload_n 0, 1) := by decide +kernel
theorem dL_law_189 : decode cL_law 189 = .ok (.iload_n 3, 1) := by decide +kernel
theorem dL_law_190 : decode cL_law 190 = .ok (.iconst 3, 1) := by decide +kernel
theorem dL_law_191 : decode cL_law 191 = .ok (.iadd, 1) := by decide +kernel
theorem dL_law_192 : decode cL_law 192 = .ok (.iaload, 1) := by decide +kernel
theorem dL_law_193 : decode cL_law 193 = .ok (.i2l, 1) := by decide +kernel
theorem dL_law_194 : decode cL_law 194 = .ok (.ldc2_w 13, 3) := by decide +kernel
theorem dL_law_197 : decode cL_law 197 = .ok (.land, 1) := by decide +kernel
theorem dL_law_198 : decode cL_law 198 = .ok (.lor, 1) := by decide +kernel
theorem dL_law_199 : decode cL_law 199 = .ok (.invokevirtual 19, 3) := by decide +kernel
theorem dL_law_202 : decode cL_law 202 = .ok (.if_icmp .eq 625, 3) := by decide +kernel
theorem dL_law_205 : decode cL_law 205 = .ok (.iconst 0, 1) := by decide +kernel
theorem dL_law_206 : decode cL_law 206 = .ok (.ireturn, 1) := by decide +kernel
theorem dL_law_207 : decode cL_law 207 = .ok (.aload_n 1, 1) := by decide +kernel
theorem dL_law_208 : decode cL_law 208 = .ok (.invokevirtual 20, 3) := by decide +kernel
theorem dL_law_211 : decode cL_law 211 = .ok (.aload_n 2, 1) := by decide +kernel
theorem dL_law_212 : decode cL_law 212 = .ok (.invokevirtual 24, 3) := by decide +kernel
theorem dL_law_215 : decode cL_law 215 = .ok (.if_icmp .eq 612, 3) := by decide +kernel
theorem dL_law_218 : decode cL_law 218 = .ok (.iconst 0, 1) := by decide +kernel
theorem dL_law_219 : decode cL_law 219 = .ok (.ireturn, 1) := by decide +kernel
theorem dL_law_220 : decode cL_law 220 = .ok (.aload_n 1, 1) := by decide +kernel
theorem dL_law_221 : decode cL_law 221 = .ok (.invokevirtual 25, 3) := by decide +kernel
theorem dL_law_224 : decode cL_law 224 = .ok (.aload_n 2, 1) := by decide +kernel
theorem dL_law_225 : decode cL_law 225 = .ok (.invokevirtual 28, 3) := by decide +kernel
theorem dL_law_228 : decode cL_law 228 = .ok (.if_icmp .eq 599, 3) := by decide +kernel
theorem dL_law_231 : decode cL_law 231 = .ok (.iconst 0, 1) := by decide +kernel
theorem dL_law_232 : decode cL_law 232 = .ok (.ireturn, 1) := by decide +kernel
theorem dL_law_233 : decode cL_law 233 = .ok (.aload_n 1, 1) := by decide +kernel
theorem dL_law_234 : decode cL_law 234 = .ok (.invokevirtual 29, 3) := by decide +kernel
theorem dL_law_237 : decode cL_law 237 = .ok (.aload_n 2, 1) := by decide +kernel
theorem dL_law_238 : decode cL_law 238 = .ok (.invokevirtual 32, 3) := by decide +kernel
theorem dL_law_241 : decode cL_law 241 = .ok (.if_icmp .eq 586, 3) := by decide +kernel
theorem dL_law_244 : decode cL_law 244 = .ok (.iconst 0, 1) := by decide +kernel
theorem dL_law_245 : decode cL_law 245 = .ok (.ireturn, 1) := by decide +kernel
theorem dL_law_246 : decode cL_law 246 = .ok (.aload_n 1, 1) := by decide +kernel
theorem dL_law_247 : decode cL_law 247 = .ok (.aload_n 0, 1) := by decide +kernel
theorem dL_law_248 : decode cL_law 248 = .ok (.iload_n 3, 1) := by decide +kernel
theorem dL_law_249 : decode cL_law 249 = .ok (.iconst 1, 1) := by decide +kernel
theorem dL_law_250 : decode cL_law 250 = .ok (.iadd, 1) := by decide +kernel
theorem dL_law_251 : decode cL_law 251 = .ok (.iaload, 1) := by decide +kernel
theorem dL_law_252 : decode cL_law 252 = .ok (.aload_n 0, 1) := by decide +kernel
theorem dL_law_253 : decode cL_law 253 = .ok (.iload_n 3, 1) := by decide +kernel
theorem dL_law_254 : decode cL_law 254 = .ok (.iconst 2, 1) := by decide +kernel
theorem dL_law_255 : decode cL_law 255 = .ok (.iadd, 1) := by decide +kernel
theorem dL_law_256 : decode cL_law 256 = .ok (.iaload, 1) := by decide +kernel
theorem dL_law_257 : decode cL_law 257 = .ok (.invokevirtual 33, 3) := by decide +kernel
theorem dL_law_260 : decode cL_law 260 = .ok (.aload_n 2, 1) := by decide +kernel
theorem dL_law_261 : decode cL_law 261 = .ok (.aload_n 0, 1) := by decide +kernel
theorem dL_law_262 : decode cL_law 262 = .ok (.iload_n 3, 1) := by decide +kernel
theorem dL_law_263 : decode cL_law 263 = .ok (.iconst 1, 1) := by decide +kernel
theorem dL_law_264 : decode cL_law 264 = .ok (.iadd, 1) := by decide +kernel
theorem dL_law_265 : decode cL_law 265 = .ok (.iaload, 1) := by decide +kernel
theorem dL_law_266 : decode cL_law 266 = .ok (.aload_n 0, 1) := by decide +kernel
theorem dL_law_267 : decode cL_law 267 = .ok (.iload_n 3, 1) := by decide +kernel
theorem dL_law_268 : decode cL_law 268 = .ok (.iconst 2, 1) := by decide +kernel
theorem dL_law_269 : decode cL_law 269 = .ok (.iadd, 1) := by decide +kernel
theorem dL_law_270 : decode cL_law 270 = .ok (.iaload, 1) := by decide +kernel
theorem dL_law_271 : decode cL_law 271 = .ok (.invokevirtual 37, 3) := by decide +kernel
theorem dL_law_274 : decode cL_law 274 = .ok (.if_icmp .eq 553, 3) := by decide +kernel
theorem dL_law_277 : decode cL_law 277 = .ok (.iconst 0, 1) := by decide +kernel
theorem dL_law_278 : decode cL_law 278 = .ok (.ireturn, 1) := by decide +kernel
theorem dL_law_279 : decode cL_law 279 = .ok (.aload_n 1, 1) := by decide +kernel
theorem dL_law_280 : decode cL_law 280 = .ok (.aload_n 0, 1) := by decide +kernel
theorem dL_law_281 : decode cL_law 281 = .ok (.iload_n 3, 1) := by decide +kernel
theorem dL_law_282 : decode cL_law 282 = .ok (.iconst 1, 1) := by decide +kernel
theorem dL_law_283 : decode cL_law 283 = .ok (.iadd, 1) := by decide +kernel
theorem dL_law_284 : decode cL_law 284 = .ok (.iaload, 1) := by decide +kernel
theorem dL_law_285 : decode cL_law 285 = .ok (.aload_n 0, 1) := by decide +kernel
theorem dL_law_286 : decode cL_law 286 = .ok (.iload_n 3, 1) := by decide +kernel
theorem dL_law_287 : decode cL_law 287 = .ok (.iconst 2, 1) := by decide +kernel
theorem dL_law_288 : decode cL_law 288 = .ok (.iadd, 1) := by decide +kernel
theorem dL_law_289 : decode cL_law 289 = .ok (.iaload, 1) := by decide +kernel
theorem dL_law_290 : decode cL_law 290 = .ok (.invokevirtual 38, 3) := by decide +kernel
theorem dL_law_293 : decode cL_law 293 = .ok (.aload_n 2, 1) := by decide +kernel
theorem dL_law_294 : decode cL_law 294 = .ok (.aload_n 0, 1) := by decide +kernel
theorem dL_law_295 : decode cL_law 295 = .ok (.iload_n 3, 1) := by decide +kernel
theorem dL_law_296 : decode cL_law 296 = .ok (.iconst 1, 1) := by decide +kernel
theorem dL_law_297 : decode cL_law 297 = .ok (.iadd, 1) := by decide +kernel
theorem dL_law_298 : decode cL_law 298 = .ok (.iaload, 1) := by decide +kernel
theorem dL_law_299 : decode cL_law 299 = .ok (.aload_n 0, 1) := by decide +kernel
theorem dL_law_300 : decode cL_law 300 = .ok (.iload_n 3, 1) := by decide +kernel
theorem dL_law_301 : decode cL_law 301 = .ok (.iconst 2, 1) := by decide +kernel
theorem dL_law_302 : decode cL_law 302 = .ok (.iadd, 1) := by decide +kernel
theorem dL_law_303 : decode cL_law 303 = .ok (.iaload, 1) := by decide +kernel
theorem dL_law_304 : decode cL_law 304 = .ok (.invokevirtual 41, 3) := by decide +kernel
theorem dL_law_307 : decode cL_law 307 = .ok (.if_icmp .eq 520, 3) := by decide +kernel
theorem dL_law_310 : decode cL_law 310 = .ok (.iconst 0, 1) := by decide +kernel
theorem dL_law_311 : decode cL_law 311 = .ok (.ireturn, 1) := by decide +kernel
theorem dL_law_312 : decode cL_law 312 = .ok (.aload_n 1, 1) := by decide +kernel
theorem dL_law_313 : decode cL_law 313 = .ok (.aload_n 0, 1) := by decide +kernel
theorem dL_law_314 : decode cL_law 314 = .ok (.iload_n 3, 1) := by decide +kernel
theorem dL_law_315 : decode cL_law 315 = .ok (.iconst 1, 1) := by decide +kernel
theorem dL_law_316 : decode cL_law 316 = .ok (.iadd, 1) := by decide +kernel
theorem dL_law_317 : decode cL_law 317 = .ok (.iaload, 1) := by decide +kernel
theorem dL_law_318 : decode cL_law 318 = .ok (.aload_n 0, 1) := by decide +kernel
theorem dL_law_319 : decode cL_law 319 = .ok (.iload_n 3, 1) := by decide +kernel
theorem dL_law_320 : decode cL_law 320 = .ok (.iconst 2, 1) := by decide +kernel
theorem dL_law_321 : decode cL_law 321 = .ok (.iadd, 1) := by decide +kernel
theorem dL_law_322 : decode cL_law 322 = .ok (.iaload, 1) := by decide +kernel
theorem dL_law_323 : decode cL_law 323 = .ok (.invokevirtual 42, 3) := by decide +kernel
theorem dL_law_326 : decode cL_law 326 = .ok (.aload_n 2, 1) := by decide +kernel
theorem dL_law_327 : decode cL_law 327 = .ok (.aload_n 0, 1) := by decide +kernel
theorem dL_law_328 : decode cL_law 328 = .ok (.iload_n 3, 1) := by decide +kernel
theorem dL_law_329 : decode cL_law 329 = .ok (.iconst 1, 1) := by decide +kernel
theorem dL_law_330 : decode cL_law 330 = .ok (.iadd, 1) := by decide +kernel
theorem dL_law_331 : decode cL_law 331 = .ok (.iaload, 1) := by decide +kernel
theorem dL_law_332 : decode cL_law 332 = .ok (.aload_n 0, 1) := by decide +kernel
theorem dL_law_333 : decode cL_law 333 = .ok (.iload_n 3, 1) := by decide +kernel
theorem dL_law_334 : decode cL_law 334 = .ok (.iconst 2, 1) := by decide +kernel
theorem dL_law_335 : decode cL_law 335 = .ok (.iadd, 1) := by decide +kernel
theorem dL_law_336 : decode cL_law 336 = .ok (.iaload, 1) := by decide +kernel
theorem dL_law_337 : decode cL_law 337 = .ok (.invokevirtual 45, 3) := by decide +kernel
theorem dL_law_340 : decode cL_law 340 = .ok (.if_icmp .eq 487, 3) := by decide +kernel
theorem dL_law_343 : decode cL_law 343 = .ok (.iconst 0, 1) := by decide +kernel
theorem dL_law_344 : decode cL_law 344 = .ok (.ireturn, 1) := by decide +kernel
theorem dL_law_345 : decode cL_law 345 = .ok (.aload_n 1, 1) := by decide +kernel
theorem dL_law_346 : decode cL_law 346 = .ok (.aload_n 0, 1) := by decide +kernel
theorem dL_law_347 : decode cL_law 347 = .ok (.iload_n 3, 1) := by decide +kernel
theorem dL_law_348 : decode cL_law 348 = .ok (.iconst 1, 1) := by decide +kernel
theorem dL_law_349 : decode cL_law 349 = .ok (.iadd, 1) := by decide +kernel
theorem dL_law_350 : decode cL_law 350 = .ok (.iaload, 1) := by decide +kernel
theorem dL_law_351 : decode cL_law 351 = .ok (.aload_n 0, 1) := by decide +kernel
theorem dL_law_352 : decode cL_law 352 = .ok (.iload_n 3, 1) := by decide +kernel
theorem dL_law_353 : decode cL_law 353 = .ok (.iconst 2, 1) := by decide +kernel
theorem dL_law_354 : decode cL_law 354 = .ok (.iadd, 1) := by decide +kernel
theorem dL_law_355 : decode cL_law 355 = .ok (.iaload, 1) := by decide +kernel
theorem dL_law_356 : decode cL_law 356 = .ok (.invokevirtual 46, 3) := by decide +kernel
theorem dL_law_359 : decode cL_law 359 = .ok (.aload_n 2, 1) := by decide +kernel
theorem dL_law_360 : decode cL_law 360 = .ok (.aload_n 0, 1) := by decide +kernel
theorem dL_law_361 : decode cL_law 361 = .ok (.iload_n 3, 1) := by decide +kernel
theorem dL_law_362 : decode cL_law 362 = .ok (.iconst 1, 1) := by decide +kernel
theorem dL_law_363 : decode cL_law 363 = .ok (.iadd, 1) := by decide +kernel
theorem dL_law_364 : decode cL_law 364 = .ok (.iaload, 1) := by decide +kernel
theorem dL_law_365 : decode cL_law 365 = .ok (.aload_n 0, 1) := by decide +kernel
theorem dL_law_366 : decode cL_law 366 = .ok (.iload_n 3, 1) := by decide +kernel
theorem dL_law_367 : decode cL_law 367 = .ok (.iconst 2, 1) := by decide +kernel
theorem dL_law_368 : decode cL_law 368 = .ok (.iadd, 1) := by decide +kernel
theorem dL_law_369 : decode cL_law 369 = .ok (.iaload, 1) := by decide +kernel
theorem dL_law_370 : decode cL_law 370 = .ok (.invokevirtual 49, 3) := by decide +kernel
theorem dL_law_373 : decode cL_law 373 = .ok (.if_icmp .eq 454, 3) := by decide +kernel
theorem dL_law_376 : decode cL_law 376 = .ok (.iconst 0, 1) := by decide +kernel
theorem dL_law_377 : decode cL_law 377 = .ok (.ireturn, 1) := by decide +kernel
theorem dL_law_378 : decode cL_law 378 = .ok (.aload_n 1, 1) := by decide +kernel
theorem dL_law_379 : decode cL_law 379 = .ok (.aload_n 0, 1) := by decide +kernel
theorem dL_law_380 : decode cL_law 380 = .ok (.iload_n 3, 1) := by decide +kernel
theorem dL_law_381 : decode cL_law 381 = .ok (.iconst 1, 1) := by decide +kernel
theorem dL_law_382 : decode cL_law 382 = .ok (.iadd, 1) := by decide +kernel
theorem dL_law_383 : decode cL_law 383 = .ok (.iaload, 1) := by decide +kernel
theorem dL_law_384 : decode cL_law 384 = .ok (.invokevirtual 50, 3) := by decide +kernel
theorem dL_law_387 : decode cL_law 387 = .ok (.aload_n 2, 1) := by decide +kernel
theorem dL_law_388 : decode cL_law 388 = .ok (.aload_n 0, 1) := by decide +kernel
theorem dL_law_389 : decode cL_law 389 = .ok (.iload_n 3, 1) := by decide +kernel
theorem dL_law_390 : decode cL_law 390 = .ok (.iconst 1, 1) := by decide +kernel
theorem dL_law_391 : decode cL_law 391 = .ok (.iadd, 1) := by decide +kernel
theorem dL_law_392 : decode cL_law 392 = .ok (.iaload, 1) := by decide +kernel
theorem dL_law_393 : decode cL_law 393 = .ok (.invokevirtual 54, 3) := by decide +kernel
theorem dL_law_396 : decode cL_law 396 = .ok (.if_icmp .eq 431, 3) := by decide +kernel
theorem dL_law_399 : decode cL_law 399 = .ok (.iconst 0, 1) := by decide +kernel
theorem dL_law_400 : decode cL_law 400 = .ok (.ireturn, 1) := by decide +kernel
theorem dL_law_401 : decode cL_law 401 = .ok (.aload_n 1, 1) := by decide +kernel
theorem dL_law_402 : decode cL_law 402 = .ok (.aload_n 0, 1) := by decide +kernel
theorem dL_law_403 : decode cL_law 403 = .ok (.iload_n 3, 1) := by decide +kernel
theorem dL_law_404 : decode cL_law 404 = .ok (.iconst 1, 1) := by decide +kernel
theorem dL_law_405 : decode cL_law 405 = .ok (.iadd, 1) := by decide +kernel
theorem dL_law_406 : decode cL_law 406 = .ok (.iaload, 1) := by decide +kernel
theorem dL_law_407 : decode cL_law 407 = .ok (.aload_n 0, 1) := by decide +kernel
theorem dL_law_408 : decode cL_law 408 = .ok (.iload_n 3, 1) := by decide +kernel
theorem dL_law_409 : decode cL_law 409 = .ok (.iconst 2, 1) := by decide +kernel
theorem dL_law_410 : decode cL_law 410 = .ok (.iadd, 1) := by decide +kernel
theorem dL_law_411 : decode cL_law 411 = .ok (.iaload, 1) := by decide +kernel
theorem dL_law_412 : decode cL_law 412 = .ok (.invokevirtual 55, 3) := by decide +kernel
theorem dL_law_415 : decode cL_law 415 = .ok (.aload_n 2, 1) := by decide +kernel
theorem dL_law_416 : decode cL_law 416 = .ok (.aload_n 0, 1) := by decide +kernel
theorem dL_law_417 : decode cL_law 417 = .ok (.iload_n 3, 1) := by decide +kernel
theorem dL_law_418 : decode cL_law 418 = .ok (.iconst 1, 1) := by decide +kernel
theorem dL_law_419 : decode cL_law 419 = .ok (.iadd, 1) := by decide +kernel
theorem dL_law_420 : decode cL_law 420 = .ok (.iaload, 1) := by decide +kernel
theorem dL_law_421 : decode cL_law 421 = .ok (.aload_n 0, 1) := by decide +kernel
theorem dL_law_422 : decode cL_law 422 = .ok (.iload_n 3, 1) := by decide +kernel
theorem dL_law_423 : decode cL_law 423 = .ok (.iconst 2, 1) := by decide +kernel
theorem dL_law_424 : decode cL_law 424 = .ok (.iadd, 1) := by decide +kernel
theorem dL_law_425 : decode cL_law 425 = .ok (.iaload, 1) := by decide +kernel
theorem dL_law_426 : decode cL_law 426 = .ok (.invokevirtual 58, 3) := by decide +kernel
theorem dL_law_429 : decode cL_law 429 = .ok (.if_icmp .eq 398, 3) := by decide +kernel
theorem dL_law_432 : decode cL_law 432 = .ok (.iconst 0, 1) := by decide +kernel
theorem dL_law_433 : decode cL_law 433 = .ok (.ireturn, 1) := by decide +kernel
theorem dL_law_434 : decode cL_law 434 = .ok (.aload_n 1, 1) := by decide +kernel
theorem dL_law_435 : decode cL_law 435 = .ok (.aload_n 0, 1) := by decide +kernel
theorem dL_law_436 : decode cL_law 436 = .ok (.iload_n 3, 1) := by decide +kernel
theorem dL_law_437 : decode cL_law 437 = .ok (.iconst 1, 1) := by decide +kernel
theorem dL_law_438 : decode cL_law 438 = .ok (.iadd, 1) := by decide +kernel
theorem dL_law_439 : decode cL_law 439 = .ok (.iaload, 1) := by decide +kernel
theorem dL_law_440 : decode cL_law 440 = .ok (.aload_n 0, 1) := by decide +kernel
theorem dL_law_441 : decode cL_law 441 = .ok (.iload_n 3, 1) := by decide +kernel
theorem dL_law_442 : decode cL_law 442 = .ok (.iconst 2, 1) := by decide +kernel
theorem dL_law_443 : decode cL_law 443 = .ok (.iadd, 1) := by decide +kernel
theorem dL_law_444 : decode cL_law 444 = .ok (.iaload, 1) := by decide +kernel
theorem dL_law_445 : decode cL_law 445 = .ok (.invokevirtual 59, 3) := by decide +kernel
theorem dL_law_448 : decode cL_law 448 = .ok (.aload_n 2, 1) := by decide +kernel
theorem dL_law_449 : decode cL_law 449 = .ok (.aload_n 0, 1) := by decide +kernel
theorem dL_law_450 : decode cL_law 450 = .ok (.iload_n 3, 1) := by decide +kernel
theorem dL_law_451 : decode cL_law 451 = .ok (.iconst 1, 1) := by decide +kernel
theorem dL_law_452 : decode cL_law 452 = .ok (.iadd, 1) := by decide +kernel
theorem dL_law_453 : decode cL_law 453 = .ok (.iaload, 1) := by decide +kernel
theorem dL_law_454 : decode cL_law 454 = .ok (.aload_n 0, 1) := by decide +kernel
theorem dL_law_455 : decode cL_law 455 = .ok (.iload_n 3, 1) := by decide +kernel
theorem dL_law_456 : decode cL_law 456 = .ok (.iconst 2, 1) := by decide +kernel
theorem dL_law_457 : decode cL_law 457 = .ok (.iadd, 1) := by decide +kernel
theorem dL_law_458 : decode cL_law 458 = .ok (.iaload, 1) := by decide +kernel
theorem dL_law_459 : decode cL_law 459 = .ok (.invokevirtual 62, 3) := by decide +kernel
theorem dL_law_462 : decode cL_law 462 = .ok (.if_icmp .eq 365, 3) := by decide +kernel
theorem dL_law_465 : decode cL_law 465 = .ok (.iconst 0, 1) := by decide +kernel
theorem dL_law_466 : decode cL_law 466 = .ok (.ireturn, 1) := by decide +kernel
theorem dL_law_467 : decode cL_law 467 = .ok (.aload_n 1, 1) := by decide +kernel
theorem dL_law_468 : decode cL_law 468 = .ok (.aload_n 0, 1) := by decide +kernel
theorem dL_law_469 : decode cL_law 469 = .ok (.iload_n 3, 1) := by decide +kernel
theorem dL_law_470 : decode cL_law 470 = .ok (.iconst 1, 1) := by decide +kernel
theorem dL_law_471 : decode cL_law 471 = .ok (.iadd, 1) := by decide +kernel
theorem dL_law_472 : decode cL_law 472 = .ok (.iaload, 1) := by decide +kernel
theorem dL_law_473 : decode cL_law 473 = .ok (.aload_n 0, 1) := by decide +kernel
theorem dL_law_474 : decode cL_law 474 = .ok (.iload_n 3, 1) := by decide +kernel
theorem dL_law_475 : decode cL_law 475 = .ok (.iconst 2, 1) := by decide +kernel
theorem dL_law_476 : decode cL_law 476 = .ok (.iadd, 1) := by decide +kernel
theorem dL_law_477 : decode cL_law 477 = .ok (.iaload, 1) := by decide +kernel
theorem dL_law_478 : decode cL_law 478 = .ok (.invokevirtual 63, 3) := by decide +kernel
theorem dL_law_481 : decode cL_law 481 = .ok (.aload_n 2, 1) := by decide +kernel
theorem dL_law_482 : decode cL_law 482 = .ok (.aload_n 0, 1) := by decide +kernel
theorem dL_law_483 : decode cL_law 483 = .ok (.iload_n 3, 1) := by decide +kernel
theorem dL_law_484 : decode cL_law 484 = .ok (.iconst 1, 1) := by decide +kernel
theorem dL_law_485 : decode cL_law 485 = .ok (.iadd, 1) := by decide +kernel
theorem dL_law_486 : decode cL_law 486 = .ok (.iaload, 1) := by decide +kernel
theorem dL_law_487 : decode cL_law 487 = .ok (.aload_n 0, 1) := by decide +kernel
theorem dL_law_488 : decode cL_law 488 = .ok (.iload_n 3, 1) := by decide +kernel
theorem dL_law_489 : decode cL_law 489 = .ok (.iconst 2, 1) := by decide +kernel
theorem dL_law_490 : decode cL_law 490 = .ok (.iadd, 1) := by decide +kernel
theorem dL_law_491 : decode cL_law 491 = .ok (.iaload, 1) := by decide +kernel
theorem dL_law_492 : decode cL_law 492 = .ok (.invokevirtual 66, 3) := by decide +kernel
theorem dL_law_495 : decode cL_law 495 = .ok (.if_icmp .eq 332, 3) := by decide +kernel
theorem dL_law_498 : decode cL_law 498 = .ok (.iconst 0, 1) := by decide +kernel
theorem dL_law_499 : decode cL_law 499 = .ok (.ireturn, 1) := by decide +kernel
theorem dL_law_500 : decode cL_law 500 = .ok (.aload_n 1, 1) := by decide +kernel
theorem dL_law_501 : decode cL_law 501 = .ok (.aload_n 0, 1) := by decide +kernel
theorem dL_law_502 : decode cL_law 502 = .ok (.iload_n 3, 1) := by decide +kernel
theorem dL_law_503 : decode cL_law 503 = .ok (.iconst 1, 1) := by decide +kernel
theorem dL_law_504 : decode cL_law 504 = .ok (.iadd, 1) := by decide +kernel
theorem dL_law_505 : decode cL_law 505 = .ok (.iaload, 1) := by decide +kernel
theorem dL_law_506 : decode cL_law 506 = .ok (.aload_n 0, 1) := by decide +kernel
theorem dL_law_507 : decode cL_law 507 = .ok (.iload_n 3, 1) := by decide +kernel
theorem dL_law_508 : decode cL_law 508 = .ok (.iconst 2, 1) := by decide +kernel
theorem dL_law_509 : decode cL_law 509 = .ok (.iadd, 1) := by decide +kernel
theorem dL_law_510 : decode cL_law 510 = .ok (.iaload, 1) := by decide +kernel
theorem dL_law_511 : decode cL_law 511 = .ok (.invokevirtual 67, 3) := by decide +kernel
theorem dL_law_514 : decode cL_law 514 = .ok (.aload_n 2, 1) := by decide +kernel
theorem dL_law_515 : decode cL_law 515 = .ok (.aload_n 0, 1) := by decide +kernel
theorem dL_law_516 : decode cL_law 516 = .ok (.iload_n 3, 1) := by decide +kernel
theorem dL_law_517 : decode cL_law 517 = .ok (.iconst 1, 1) := by decide +kernel
theorem dL_law_518 : decode cL_law 518 = .ok (.iadd, 1) := by decide +kernel
theorem dL_law_519 : decode cL_law 519 = .ok (.iaload, 1) := by decide +kernel
theorem dL_law_520 : decode cL_law 520 = .ok (.aload_n 0, 1) := by decide +kernel
theorem dL_law_521 : decode cL_law 521 = .ok (.iload_n 3, 1) := by decide +kernel
theorem dL_law_522 : decode cL_law 522 = .ok (.iconst 2, 1) := by decide +kernel
theorem dL_law_523 : decode cL_law 523 = .ok (.iadd, 1) := by decide +kernel
theorem dL_law_524 : decode cL_law 524 = .ok (.iaload, 1) := by decide +kernel
theorem dL_law_525 : decode cL_law 525 = .ok (.invokevirtual 70, 3) := by decide +kernel
theorem dL_law_528 : decode cL_law 528 = .ok (.if_icmp .eq 299, 3) := by decide +kernel
theorem dL_law_531 : decode cL_law 531 = .ok (.iconst 0, 1) := by decide +kernel
theorem dL_law_532 : decode cL_law 532 = .ok (.ireturn, 1) := by decide +kernel
theorem dL_law_533 : decode cL_law 533 = .ok (.aload_n 1, 1) := by decide +kernel
theorem dL_law_534 : decode cL_law 534 = .ok (.aload_n 0, 1) := by decide +kernel
theorem dL_law_535 : decode cL_law 535 = .ok (.iload_n 3, 1) := by decide +kernel
theorem dL_law_536 : decode cL_law 536 = .ok (.iconst 1, 1) := by decide +kernel
theorem dL_law_537 : decode cL_law 537 = .ok (.iadd, 1) := by decide +kernel
theorem dL_law_538 : decode cL_law 538 = .ok (.iaload, 1) := by decide +kernel
theorem dL_law_539 : decode cL_law 539 = .ok (.invokevirtual 71, 3) := by decide +kernel
theorem dL_law_542 : decode cL_law 542 = .ok (.aload_n 2, 1) := by decide +kernel
theorem dL_law_543 : decode cL_law 543 = .ok (.aload_n 0, 1) := by decide +kernel
theorem dL_law_544 : decode cL_law 544 = .ok (.iload_n 3, 1) := by decide +kernel
theorem dL_law_545 : decode cL_law 545 = .ok (.iconst 1, 1) := by decide +kernel
theorem dL_law_546 : decode cL_law 546 = .ok (.iadd, 1) := by decide +kernel
theorem dL_law_547 : decode cL_law 547 = .ok (.iaload, 1) := by decide +kernel
theorem dL_law_548 : decode cL_law 548 = .ok (.invokevirtual 74, 3) := by decide +kernel
theorem dL_law_551 : decode cL_law 551 = .ok (.if_icmp .eq 276, 3) := by decide +kernel
theorem dL_law_554 : decode cL_law 554 = .ok (.iconst 0, 1) := by decide +kernel
theorem dL_law_555 : decode cL_law 555 = .ok (.ireturn, 1) := by decide +kernel
theorem dL_law_556 : decode cL_law 556 = .ok (.aload_n 1, 1) := by decide +kernel
theorem dL_law_557 : decode cL_law 557 = .ok (.aload_n 0, 1) := by decide +kernel
theorem dL_law_558 : decode cL_law 558 = .ok (.iload_n 3, 1) := by decide +kernel
theorem dL_law_559 : decode cL_law 559 = .ok (.iconst 1, 1) := by decide +kernel
theorem dL_law_560 : decode cL_law 560 = .ok (.iadd, 1) := by decide +kernel
theorem dL_law_561 : decode cL_law 561 = .ok (.iaload, 1) := by decide +kernel
theorem dL_law_562 : decode cL_law 562 = .ok (.aload_n 0, 1) := by decide +kernel
theorem dL_law_563 : decode cL_law 563 = .ok (.iload_n 3, 1) := by decide +kernel
theorem dL_law_564 : decode cL_law 564 = .ok (.iconst 2, 1) := by decide +kernel
theorem dL_law_565 : decode cL_law 565 = .ok (.iadd, 1) := by decide +kernel
theorem dL_law_566 : decode cL_law 566 = .ok (.iaload, 1) := by decide +kernel
theorem dL_law_567 : decode cL_law 567 = .ok (.aload_n 0, 1) := by decide +kernel
theorem dL_law_568 : decode cL_law 568 = .ok (.iload_n 3, 1) := by decide +kernel
theorem dL_law_569 : decode cL_law 569 = .ok (.iconst 3, 1) := by decide +kernel
theorem dL_law_570 : decode cL_law 570 = .ok (.iadd, 1) := by decide +kernel
theorem dL_law_571 : decode cL_law 571 = .ok (.iaload, 1) := by decide +kernel
theorem dL_law_572 : decode cL_law 572 = .ok (.invokevirtual 75, 3) := by decide +kernel
theorem dL_law_575 : decode cL_law 575 = .ok (.aload_n 2, 1) := by decide +kernel
theorem dL_law_576 : decode cL_law 576 = .ok (.aload_n 0, 1) := by decide +kernel
theorem dL_law_577 : decode cL_law 577 = .ok (.iload_n 3, 1) := by decide +kernel
theorem dL_law_578 : decode cL_law 578 = .ok (.iconst 1, 1) := by decide +kernel
theorem dL_law_579 : decode cL_law 579 = .ok (.iadd, 1) := by decide +kernel
theorem dL_law_580 : decode cL_law 580 = .ok (.iaload, 1) := by decide +kernel
theorem dL_law_581 : decode cL_law 581 = .ok (.aload_n 0, 1) := by decide +kernel
theorem dL_law_582 : decode cL_law 582 = .ok (.iload_n 3, 1) := by decide +kernel
theorem dL_law_583 : decode cL_law 583 = .ok (.iconst 2, 1) := by decide +kernel
theorem dL_law_584 : decode cL_law 584 = .ok (.iadd, 1) := by decide +kernel
theorem dL_law_585 : decode cL_law 585 = .ok (.iaload, 1) := by decide +kernel
theorem dL_law_586 : decode cL_law 586 = .ok (.aload_n 0, 1) := by decide +kernel
theorem dL_law_587 : decode cL_law 587 = .ok (.iload_n 3, 1) := by decide +kernel
theorem dL_law_588 : decode cL_law 588 = .ok (.iconst 3, 1) := by decide +kernel
theorem dL_law_589 : decode cL_law 589 = .ok (.iadd, 1) := by decide +kernel
theorem dL_law_590 : decode cL_law 590 = .ok (.iaload, 1) := by decide +kernel
theorem dL_law_591 : decode cL_law 591 = .ok (.invokevirtual 79, 3) := by decide +kernel
theorem dL_law_594 : decode cL_law 594 = .ok (.if_icmp .eq 233, 3) := by decide +kernel
theorem dL_law_597 : decode cL_law 597 = .ok (.iconst 0, 1) := by decide +kernel
theorem dL_law_598 : decode cL_law 598 = .ok (.ireturn, 1) := by decide +kernel
theorem dL_law_599 : decode cL_law 599 = .ok (.aload_n 1, 1) := by decide +kernel
theorem dL_law_600 : decode cL_law 600 = .ok (.aload_n 0, 1) := by decide +kernel
theorem dL_law_601 : decode cL_law 601 = .ok (.iload_n 3, 1) := by decide +kernel
theorem dL_law_602 : decode cL_law 602 = .ok (.iconst 1, 1) := by decide +kernel
theorem dL_law_603 : decode cL_law 603 = .ok (.iadd, 1) := by decide +kernel
theorem dL_law_604 : decode cL_law 604 = .ok (.iaload, 1) := by decide +kernel
theorem dL_law_605 : decode cL_law 605 = .ok (.invokevirtual 80, 3) := by decide +kernel
theorem dL_law_608 : decode cL_law 608 = .ok (.aload_n 2, 1) := by decide +kernel
theorem dL_law_609 : decode cL_law 609 = .ok (.aload_n 0, 1) := by decide +kernel
theorem dL_law_610 : decode cL_law 610 = .ok (.iload_n 3, 1) := by decide +kernel
theorem dL_law_611 : decode cL_law 611 = .ok (.iconst 1, 1) := by decide +kernel
theorem dL_law_612 : decode cL_law 612 = .ok (.iadd, 1) := by decide +kernel
theorem dL_law_613 : decode cL_law 613 = .ok (.iaload, 1) := by decide +kernel
theorem dL_law_614 : decode cL_law 614 = .ok (.invokevirtual 83, 3) := by decide +kernel
theorem dL_law_617 : decode cL_law 617 = .ok (.if_icmp .eq 210, 3) := by decide +kernel
theorem dL_law_620 : decode cL_law 620 = .ok (.iconst 0, 1) := by decide +kernel
theorem dL_law_621 : decode cL_law 621 = .ok (.ireturn, 1) := by decide +kernel
theorem dL_law_622 : decode cL_law 622 = .ok (.aload_n 1, 1) := by decide +kernel
theorem dL_law_623 : decode cL_law 623 = .ok (.invokevirtual 84, 3) := by decide +kernel
theorem dL_law_626 : decode cL_law 626 = .ok (.aload_n 2, 1) := by decide +kernel
theorem dL_law_627 : decode cL_law 627 = .ok (.invokevirtual 87, 3) := by decide +kernel
theorem dL_law_630 : decode cL_law 630 = .ok (.if_icmp .eq 197, 3) := by decide +kernel
theorem dL_law_633 : decode cL_law 633 = .ok (.iconst 0, 1) := by decide +kernel
theorem dL_law_634 : decode cL_law 634 = .ok (.ireturn, 1) := by decide +kernel
theorem dL_law_635 : decode cL_law 635 = .ok (.aload_n 1, 1) := by decide +kernel
theorem dL_law_636 : decode cL_law 636 = .ok (.aload_n 0, 1) := by decide +kernel
theorem dL_law_637 : decode cL_law 637 = .ok (.iload_n 3, 1) := by decide +kernel
theorem dL_law_638 : decode cL_law 638 = .ok (.iconst 1, 1) := by decide +kernel
theorem dL_law_639 : decode cL_law 639 = .ok (.iadd, 1) := by decide +kernel
theorem dL_law_640 : decode cL_law 640 = .ok (.iaload, 1) := by decide +kernel
theorem dL_law_641 : decode cL_law 641 = .ok (.aload_n 0, 1) := by decide +kernel
theorem dL_law_642 : decode cL_law 642 = .ok (.iload_n 3, 1) := by decide +kernel
theorem dL_law_643 : decode cL_law 643 = .ok (.iconst 2, 1) := by decide +kernel
theorem dL_law_644 : decode cL_law 644 = .ok (.iadd, 1) := by decide +kernel
theorem dL_law_645 : decode cL_law 645 = .ok (.iaload, 1) := by decide +kernel
theorem dL_law_646 : decode cL_law 646 = .ok (.invokevirtual 88, 3) := by decide +kernel
theorem dL_law_649 : decode cL_law 649 = .ok (.aload_n 2, 1) := by decide +kernel
theorem dL_law_650 : decode cL_law 650 = .ok (.aload_n 0, 1) := by decide +kernel
theorem dL_law_651 : decode cL_law 651 = .ok (.iload_n 3, 1) := by decide +kernel
theorem dL_law_652 : decode cL_law 652 = .ok (.iconst 1, 1) := by decide +kernel
theorem dL_law_653 : decode cL_law 653 = .ok (.iadd, 1) := by decide +kernel
theorem dL_law_654 : decode cL_law 654 = .ok (.iaload, 1) := by decide +kernel
theorem dL_law_655 : decode cL_law 655 = .ok (.aload_n 0, 1) := by decide +kernel
theorem dL_law_656 : decode cL_law 656 = .ok (.iload_n 3, 1) := by decide +kernel
theorem dL_law_657 : decode cL_law 657 = .ok (.iconst 2, 1) := by decide +kernel
theorem dL_law_658 : decode cL_law 658 = .ok (.iadd, 1) := by decide +kernel
theorem dL_law_659 : decode cL_law 659 = .ok (.iaload, 1) := by decide +kernel
theorem dL_law_660 : decode cL_law 660 = .ok (.invokevirtual 92, 3) := by decide +kernel
theorem dL_law_663 : decode cL_law 663 = .ok (.lcmp, 1) := by decide +kernel
theorem dL_law_664 : decode cL_law 664 = .ok (.ifCond .eq 163, 3) := by decide +kernel
theorem dL_law_667 : decode cL_law 667 = .ok (.iconst 0, 1) := by decide +kernel
theorem dL_law_668 : decode cL_law 668 = .ok (.ireturn, 1) := by decide +kernel
theorem dL_law_669 : decode cL_law 669 = .ok (.aload_n 1, 1) := by decide +kernel
theorem dL_law_670 : decode cL_law 670 = .ok (.invokevirtual 93, 3) := by decide +kernel
theorem dL_law_673 : decode cL_law 673 = .ok (.aload_n 2, 1) := by decide +kernel
theorem dL_law_674 : decode cL_law 674 = .ok (.invokevirtual 96, 3) := by decide +kernel
theorem dL_law_677 : decode cL_law 677 = .ok (.if_icmp .eq 150, 3) := by decide +kernel
theorem dL_law_680 : decode cL_law 680 = .ok (.iconst 0, 1) := by decide +kernel
theorem dL_law_681 : decode cL_law 681 = .ok (.ireturn, 1) := by decide +kernel
theorem dL_law_682 : decode cL_law 682 = .ok (.aload_n 1, 1) := by decide +kernel
theorem dL_law_683 : decode cL_law 683 = .ok (.aload_n 0, 1) := by decide +kernel
theorem dL_law_684 : decode cL_law 684 = .ok (.iload_n 3, 1) := by decide +kernel
theorem dL_law_685 : decode cL_law 685 = .ok (.iconst 1, 1) := by decide +kernel
theorem dL_law_686 : decode cL_law 686 = .ok (.iadd, 1) := by decide +kernel
theorem dL_law_687 : decode cL_law 687 = .ok (.iaload, 1) := by decide +kernel
theorem dL_law_688 : decode cL_law 688 = .ok (.aload_n 0, 1) := by decide +kernel
theorem dL_law_689 : decode cL_law 689 = .ok (.iload_n 3, 1) := by decide +kernel
theorem dL_law_690 : decode cL_law 690 = .ok (.iconst 2, 1) := by decide +kernel
theorem dL_law_691 : decode cL_law 691 = .ok (.iadd, 1) := by decide +kernel
theorem dL_law_692 : decode cL_law 692 = .ok (.iaload, 1) := by decide +kernel
theorem dL_law_693 : decode cL_law 693 = .ok (.aload_n 0, 1) := by decide +kernel
theorem dL_law_694 : decode cL_law 694 = .ok (.iload_n 3, 1) := by decide +kernel
theorem dL_law_695 : decode cL_law 695 = .ok (.iconst 3, 1) := by decide +kernel
theorem dL_law_696 : decode cL_law 696 = .ok (.iadd, 1) := by decide +kernel
theorem dL_law_697 : decode cL_law 697 = .ok (.iaload, 1) := by decide +kernel
theorem dL_law_698 : decode cL_law 698 = .ok (.invokevirtual 97, 3) := by decide +kernel
theorem dL_law_701 : decode cL_law 701 = .ok (.aload_n 2, 1) := by decide +kernel
theorem dL_law_702 : decode cL_law 702 = .ok (.aload_n 0, 1) := by decide +kernel
theorem dL_law_703 : decode cL_law 703 = .ok (.iload_n 3, 1) := by decide +kernel
theorem dL_law_704 : decode cL_law 704 = .ok (.iconst 1, 1) := by decide +kernel
theorem dL_law_705 : decode cL_law 705 = .ok (.iadd, 1) := by decide +kernel
theorem dL_law_706 : decode cL_law 706 = .ok (.iaload, 1) := by decide +kernel
theorem dL_law_707 : decode cL_law 707 = .ok (.aload_n 0, 1) := by decide +kernel
theorem dL_law_708 : decode cL_law 708 = .ok (.iload_n 3, 1) := by decide +kernel
theorem dL_law_709 : decode cL_law 709 = .ok (.iconst 2, 1) := by decide +kernel
theorem dL_law_710 : decode cL_law 710 = .ok (.iadd, 1) := by decide +kernel
theorem dL_law_711 : decode cL_law 711 = .ok (.iaload, 1) := by decide +kernel
theorem dL_law_712 : decode cL_law 712 = .ok (.aload_n 0, 1) := by decide +kernel
theorem dL_law_713 : decode cL_law 713 = .ok (.iload_n 3, 1) := by decide +kernel
theorem dL_law_714 : decode cL_law 714 = .ok (.iconst 3, 1) := by decide +kernel
theorem dL_law_715 : decode cL_law 715 = .ok (.iadd, 1) := by decide +kernel
theorem dL_law_716 : decode cL_law 716 = .ok (.iaload, 1) := by decide +kernel
theorem dL_law_717 : decode cL_law 717 = .ok (.invokevirtual 100, 3) := by decide +kernel
theorem dL_law_720 : decode cL_law 720 = .ok (.if_icmp .eq 107, 3) := by decide +kernel
theorem dL_law_723 : decode cL_law 723 = .ok (.iconst 0, 1) := by decide +kernel
theorem dL_law_724 : decode cL_law 724 = .ok (.ireturn, 1) := by decide +kernel
theorem dL_law_725 : decode cL_law 725 = .ok (.aload_n 1, 1) := by decide +kernel
theorem dL_law_726 : decode cL_law 726 = .ok (.aload_n 0, 1) := by decide +kernel
theorem dL_law_727 : decode cL_law 727 = .ok (.iload_n 3, 1) := by decide +kernel
theorem dL_law_728 : decode cL_law 728 = .ok (.iconst 1, 1) := by decide +kernel
theorem dL_law_729 : decode cL_law 729 = .ok (.iadd, 1) := by decide +kernel
theorem dL_law_730 : decode cL_law 730 = .ok (.iaload, 1) := by decide +kernel
theorem dL_law_731 : decode cL_law 731 = .ok (.aload_n 0, 1) := by decide +kernel
theorem dL_law_732 : decode cL_law 732 = .ok (.iload_n 3, 1) := by decide +kernel
theorem dL_law_733 : decode cL_law 733 = .ok (.iconst 2, 1) := by decide +kernel
theorem dL_law_734 : decode cL_law 734 = .ok (.iadd, 1) := by decide +kernel
theorem dL_law_735 : decode cL_law 735 = .ok (.iaload, 1) := by decide +kernel
theorem dL_law_736 : decode cL_law 736 = .ok (.aload_n 0, 1) := by decide +kernel
theorem dL_law_737 : decode cL_law 737 = .ok (.iload_n 3, 1) := by decide +kernel
theorem dL_law_738 : decode cL_law 738 = .ok (.iconst 3, 1) := by decide +kernel
theorem dL_law_739 : decode cL_law 739 = .ok (.iadd, 1) := by decide +kernel
theorem dL_law_740 : decode cL_law 740 = .ok (.iaload, 1) := by decide +kernel
theorem dL_law_741 : decode cL_law 741 = .ok (.aload_n 0, 1) := by decide +kernel
theorem dL_law_742 : decode cL_law 742 = .ok (.iload_n 3, 1) := by decide +kernel
theorem dL_law_743 : decode cL_law 743 = .ok (.iconst 4, 1) := by decide +kernel
theorem dL_law_744 : decode cL_law 744 = .ok (.iadd, 1) := by decide +kernel
theorem dL_law_745 : decode cL_law 745 = .ok (.iaload, 1) := by decide +kernel
theorem dL_law_746 : decode cL_law 746 = .ok (.invokevirtual 101, 3) := by decide +kernel
theorem dL_law_749 : decode cL_law 749 = .ok (.aload_n 2, 1) := by decide +kernel
theorem dL_law_750 : decode cL_law 750 = .ok (.aload_n 0, 1) := by decide +kernel
theorem dL_law_751 : decode cL_law 751 = .ok (.iload_n 3, 1) := by decide +kernel
theorem dL_law_752 : decode cL_law 752 = .ok (.iconst 1, 1) := by decide +kernel
theorem dL_law_753 : decode cL_law 753 = .ok (.iadd, 1) := by decide +kernel
theorem dL_law_754 : decode cL_law 754 = .ok (.iaload, 1) := by decide +kernel
theorem dL_law_755 : decode cL_law 755 = .ok (.aload_n 0, 1) := by decide +kernel
theorem dL_law_756 : decode cL_law 756 = .ok (.iload_n 3, 1) := by decide +kernel
theorem dL_law_757 : decode cL_law 757 = .ok (.iconst 2, 1) := by decide +kernel
theorem dL_law_758 : decode cL_law 758 = .ok (.iadd, 1) := by decide +kernel
theorem dL_law_759 : decode cL_law 759 = .ok (.iaload, 1) := by decide +kernel
theorem dL_law_760 : decode cL_law 760 = .ok (.aload_n 0, 1) := by decide +kernel
theorem dL_law_761 : decode cL_law 761 = .ok (.iload_n 3, 1) := by decide +kernel
theorem dL_law_762 : decode cL_law 762 = .ok (.iconst 3, 1) := by decide +kernel
theorem dL_law_763 : decode cL_law 763 = .ok (.iadd, 1) := by decide +kernel
theorem dL_law_764 : decode cL_law 764 = .ok (.iaload, 1) := by decide +kernel
theorem dL_law_765 : decode cL_law 765 = .ok (.aload_n 0, 1) := by decide +kernel
theorem dL_law_766 : decode cL_law 766 = .ok (.iload_n 3, 1) := by decide +kernel
theorem dL_law_767 : decode cL_law 767 = .ok (.iconst 4, 1) := by decide +kernel
theorem dL_law_768 : decode cL_law 768 = .ok (.iadd, 1) := by decide +kernel
theorem dL_law_769 : decode cL_law 769 = .ok (.iaload, 1) := by decide +kernel
theorem dL_law_770 : decode cL_law 770 = .ok (.invokevirtual 105, 3) := by decide +kernel
theorem dL_law_773 : decode cL_law 773 = .ok (.if_icmp .eq 54, 3) := by decide +kernel
theorem dL_law_776 : decode cL_law 776 = .ok (.iconst 0, 1) := by decide +kernel
theorem dL_law_777 : decode cL_law 777 = .ok (.ireturn, 1) := by decide +kernel
theorem dL_law_778 : decode cL_law 778 = .ok (.aload_n 1, 1) := by decide +kernel
theorem dL_law_779 : decode cL_law 779 = .ok (.invokevirtual 106, 3) := by decide +kernel
theorem dL_law_782 : decode cL_law 782 = .ok (.aload_n 2, 1) := by decide +kernel
theorem dL_law_783 : decode cL_law 783 = .ok (.invokevirtual 109, 3) := by decide +kernel
theorem dL_law_786 : decode cL_law 786 = .ok (.if_icmp .eq 41, 3) := by decide +kernel
theorem dL_law_789 : decode cL_law 789 = .ok (.iconst 0, 1) := by decide +kernel
theorem dL_law_790 : decode cL_law 790 = .ok (.ireturn, 1) := by decide +kernel
theorem dL_law_791 : decode cL_law 791 = .ok (.aload_n 1, 1) := by decide +kernel
theorem dL_law_792 : decode cL_law 792 = .ok (.invokevirtual 110, 3) := by decide +kernel
theorem dL_law_795 : decode cL_law 795 = .ok (.aload_n 2, 1) := by decide +kernel
theorem dL_law_796 : decode cL_law 796 = .ok (.invokevirtual 113, 3) := by decide +kernel
theorem dL_law_799 : decode cL_law 799 = .ok (.if_icmp .eq 28, 3) := by decide +kernel
theorem dL_law_802 : decode cL_law 802 = .ok (.iconst 0, 1) := by decide +kernel
theorem dL_law_803 : decode cL_law 803 = .ok (.ireturn, 1) := by decide +kernel
theorem dL_law_804 : decode cL_law 804 = .ok (.aload_n 1, 1) := by decide +kernel
theorem dL_law_805 : decode cL_law 805 = .ok (.aload_n 0, 1) := by decide +kernel
theorem dL_law_806 : decode cL_law 806 = .ok (.iload_n 3, 1) := by decide +kernel
theorem dL_law_807 : decode cL_law 807 = .ok (.iconst 1, 1) := by decide +kernel
theorem dL_law_808 : decode cL_law 808 = .ok (.iadd, 1) := by decide +kernel
theorem dL_law_809 : decode cL_law 809 = .ok (.iaload, 1) := by decide +kernel
theorem dL_law_810 : decode cL_law 810 = .ok (.invokevirtual 114, 3) := by decide +kernel
theorem dL_law_813 : decode cL_law 813 = .ok (.aload_n 2, 1) := by decide +kernel
theorem dL_law_814 : decode cL_law 814 = .ok (.aload_n 0, 1) := by decide +kernel
theorem dL_law_815 : decode cL_law 815 = .ok (.iload_n 3, 1) := by decide +kernel
theorem dL_law_816 : decode cL_law 816 = .ok (.iconst 1, 1) := by decide +kernel
theorem dL_law_817 : decode cL_law 817 = .ok (.iadd, 1) := by decide +kernel
theorem dL_law_818 : decode cL_law 818 = .ok (.iaload, 1) := by decide +kernel
theorem dL_law_819 : decode cL_law 819 = .ok (.invokevirtual 117, 3) := by decide +kernel
theorem dL_law_822 : decode cL_law 822 = .ok (.if_icmp .eq 5, 3) := by decide +kernel
theorem dL_law_825 : decode cL_law 825 = .ok (.iconst 0, 1) := by decide +kernel
theorem dL_law_826 : decode cL_law 826 = .ok (.ireturn, 1) := by decide +kernel
theorem dL_law_827 : decode cL_law 827 = .ok (.iinc 3 5, 3) := by decide +kernel
theorem dL_law_830 : decode cL_law 830 = .ok (.goto (-812), 3) := by decide +kernel
theorem dL_law_833 : decode cL_law 833 = .ok (.iconst 1, 1) := by decide +kernel
theorem dL_law_834 : decode cL_law 834 = .ok (.ireturn, 1) := by decide +kernel
