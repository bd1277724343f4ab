theorem dX7_figures_42 : decode cX7_figures 42 = .ok (.iload 5, 2) := by decide +kernel
theorem dX7_figures_44 : decode cX7_figures 44 = .ok (.imul, 1) := by decide +kernel
theorem dX7_figures_45 : decode cX7_figures 45 = .ok (.aload_n 0, 1) := by decide +kernel
theorem dX7_figures_46 : decode cX7_figures 46 = .ok (.aload_n 0, 1) := by decide +kernel
theorem dX7_figures_47 : decode cX7_figures 47 = .ok (.getfield 98, 3) := by decide +kernel
theorem dX7_figures_50 : decode cX7_figures 50 = .ok (.invokevirtual 101, 3) := by decide +kernel
theorem dX7_figures_53 : decode cX7_figures 53 = .ok (.iadd, 1) := by decide +kernel
theorem dX7_figures_54 : decode cX7_figures 54 = .ok (.bipush 48, 2) := by decide +kernel
theorem dX7_figures_56 : decode cX7_figures 56 = .ok (.isub, 1) := by decide +kernel
theorem dX7_figures_57 : decode cX7_figures 57 = .ok (.istore 5, 2) := by decide +kernel
theorem dX7_figures_59 : decode cX7_figures 59 = .ok (.iinc 4 1, 3) := by decide +kernel
theorem dX7_figures_62 : decode cX7_figures 62 = .ok (.aload_n 0, 1) := by decide +kernel
theorem dX7_figures_63 : decode cX7_figures 63 = .ok (.dup, 1) := by decide +kernel
theorem dX7_figures_64 : decode cX7_figures 64 = .ok (.getfield 98, 3) := by decide +kernel
theorem dX7_figures_67 : decode cX7_figures 67 = .ok (.iconst 1, 1) := by decide +kernel
theorem dX7_figures_68 : decode cX7_figures 68 = .ok (.iadd, 1) := by decide +kernel
theorem dX7_figures_69 : decode cX7_figures 69 = .ok (.putfield 98, 3) := by decide +kernel
theorem dX7_figures_72 : decode cX7_figures 72 = .ok (.goto (-59), 3) := by decide +kernel
theorem dX7_figures_75 : decode cX7_figures 75 = .ok (.iload 4, 2) := by decide +kernel
theorem dX7_figures_77 : decode cX7_figures 77 = .ok (.i2l, 1) := by decide +kernel
theorem dX7_figures_78 : decode cX7_figures 78 = .ok (.lconst 1, 1) := by decide +kernel
theorem dX7_figures_79 : decode cX7_figures 79 = .ok (.ldc2_w 109, 3) := by decide +kernel
theorem dX7_figures_82 : decode cX7_figures 82 = .ok (.invokestatic 88, 3) := by decide +kernel
theorem dX7_figures_85 : decode cX7_figures 85 = .ok (.ifCond .eq 27, 3) := by decide +kernel
theorem dX7_figures_88 : decode cX7_figures 88 = .ok (.aload_n 0, 1) := by decide +kernel
theorem dX7_figures_89 : decode cX7_figures 89 = .ok (.aload_n 0, 1) := by decide +kernel
theorem dX7_figures_90 : decode cX7_figures 90 = .ok (.getfield 98, 3) := by decide +kernel
theorem dX7_figures_93 : decode cX7_figures 93 = .ok (.invokevirtual 101, 3) := by decide +kernel
theorem dX7_figures_96 : decode cX7_figures 96 = .ok (.iload_n 3, 1) := by decide +kernel
theorem dX7_figures_97 : decode cX7_figures 97 = .ok (.iload_n 1, 1) := by decide +kernel
theorem dX7_figures_98 : decode cX7_figures 98 = .ok (.iconst 1, 1) := by decide +kernel
theorem dX7_figures_99 : decode cX7_figures 99 = .ok (.isub, 1) := by decide +kernel
theorem dX7_figures_100 : decode cX7_figures 100 = .ok (.if_icmp .ge 8, 3) := by decide +kernel
theorem dX7_figures_103 : decode cX7_figures 103 = .ok (.bipush 44, 2) := by decide +kernel
theorem dX7_figures_105 : decode cX7_figures 105 = .ok (.goto 4, 3) := by decide +kernel
theorem dX7_figures_108 : decode cX7_figures 108 = .ok (.iload_n 2, 1) := by decide +kernel
theorem dX7_figures_109 : decode cX7_figures 109 = .ok (.if_icmp .eq 5, 3) := by decide +kernel
theorem dX7_figures_112 : decode cX7_figures 112 = .ok (.iconst 0, 1) := by decide +kernel
theorem dX7_figures_113 : decode cX7_figures 113 = .ok (.ireturn, 1) := by decide +kernel
theorem dX7_figures_114 : decode cX7_figures 114 = .ok (.aload_n 0, 1) := by decide +kernel
theorem dX7_figures_115 : decode cX7_figures 115 = .ok (.getfield 58, 3) := by decide +kernel
theorem dX7_figures_118 : decode cX7_figures 118 = .ok (.iload_n 3, 1) := by decide +kernel
theorem dX7_figures_119 : decode cX7_figures 119 = .ok (.iload 5, 2) := by decide +kernel
theorem dX7_figures_121 : decode cX7_figures 121 = .ok (.iastore, 1) := by decide +kernel
theorem dX7_figures_122 : decode cX7_figures 122 = .ok (.aload_n 0, 1) := by decide +kernel
theorem dX7_figures_123 : decode cX7_figures 123 = .ok (.dup, 1) := by decide +kernel
theorem dX7_figures_124 : decode cX7_figures 124 = .ok (.getfield 98, 3) := by decide +kernel
theorem dX7_figures_127 : decode cX7_figures 127 = .ok (.iconst 1, 1) := by decide +kernel
theorem dX7_figures_128 : decode cX7_figures 128 = .ok (.iadd, 1) := by decide +kernel
theorem dX7_figures_129 : decode cX7_figures 129 = .ok (.putfield 98, 3) := by decide +kernel
theorem dX7_figures_132 : decode cX7_figures 132 = .ok (.iinc 3 1, 3) := by decide +kernel
theorem dX7_figures_135 : decode cX7_figures 135 = .ok (.goto (-133), 3) := by decide +kernel
theorem dX7_figures_138 : decode cX7_figures 138 = .ok (.iconst 1, 1) := by decide +kernel
theorem dX7_figures_139 : decode cX7_figures 139 = .ok (.ireturn, 1) := by decide +kernel
theorem dX7_personItem_0 : decode cX7_personItem 0 = .ok (.bipush 8, 2) := by decide +kernel
theorem dX7_personItem_2 : decode cX7_personItem 2 = .ok (.aload_n 0, 1) := by decide +kernel
theorem dX7_personItem_3 : decode cX7_personItem 3 = .ok (.getfield 13, 3) := by decide +kernel
theorem dX7_personItem_6 : decode cX7_personItem 6 = .ok (.iconst 1, 1) := by decide +kernel
theorem dX7_personItem_7 : decode cX7_personItem 7 = .ok (.iaload, 1) := by decide +kernel
theorem dX7_personItem_8 : decode cX7_personItem 8 = .ok (.iadd, 1) := by decide +kernel
theorem dX7_personItem_9 : decode cX7_personItem 9 = .ok (.istore_n 1, 1) := by decide +kernel
theorem dX7_personItem_10 : decode cX7_personItem 10 = .ok (.aload_n 0, 1) := by decide +kernel
theorem dX7_personItem_11 : decode cX7_personItem 11 = .ok (.iconst 1, 1) := by decide +kernel
theorem dX7_personItem_12 : decode cX7_personItem 12 = .ok (.bipush 44, 2) := by decide +kernel
theorem dX7_personItem_14 : decode cX7_personItem 14 = .ok (.invokevirtual 111, 3) := by decide +kernel
theorem dX7_personItem_17 : decode cX7_personItem 17 = .ok (.ifCond .eq 24, 3) := by decide +kernel
theorem dX7_personItem_20 : decode cX7_personItem 20 = .ok (.aload_n 0, 1) := by decide +kernel
theorem dX7_personItem_21 : decode cX7_personItem 21 = .ok (.getfield 13, 3) := by decide +kernel
theorem dX7_personItem_24 : decode cX7_personItem 24 = .ok (.iconst 1, 1) := by decide +kernel
theorem dX7_personItem_25 : decode cX7_personItem 25 = .ok (.iaload, 1) := by decide +kernel
theorem dX7_personItem_26 : decode cX7_personItem 26 = .ok (.bipush 8, 2) := by decide +kernel
theorem dX7_personItem_28 : decode cX7_personItem 28 = .ok (.if_icmp .eq 13, 3) := by decide +kernel
theorem dX7_personItem_31 : decode cX7_personItem 31 = .ok (.aload_n 0, 1) := by decide +kernel
theorem dX7_personItem_32 : decode cX7_personItem 32 = .ok (.getfield 58, 3) := by decide +kernel
theorem dX7_personItem_35 : decode cX7_personItem 35 = .ok (.iconst 0, 1) := by decide +kernel
theorem dX7_personItem_36 : decode cX7_personItem 36 = .ok (.iaload, 1) := by decide +kernel
theorem dX7_personItem_37 : decode cX7_personItem 37 = .ok (.iconst 3, 1) := by decide +kernel
theorem dX7_personItem_38 : decode cX7_personItem 38 = .ok (.if_icmp .le 5, 3) := by decide +kernel
theorem dX7_personItem_41 : decode cX7_personItem 41 = .ok (.iconst 0, 1) := by decide +kernel
theorem dX7_personItem_42 : decode cX7_personItem 42 = .ok (.ireturn, 1) := by decide +kernel
theorem dX7_personItem_43 : decode cX7_personItem 43 = .ok (.aload_n 0, 1) := by decide +kernel
theorem dX7_personItem_44 : decode cX7_personItem 44 = .ok (.getfield 16, 3) := by decide +kernel
theorem dX7_personItem_47 : decode cX7_personItem 47 = .ok (.iload_n 1, 1) := by decide +kernel
theorem dX7_personItem_48 : decode cX7_personItem 48 = .ok (.aload_n 0, 1) := by decide +kernel
theorem dX7_personItem_49 : decode cX7_personItem 49 = .ok (.getfield 58, 3) := by decide +kernel
theorem dX7_personItem_52 : decode cX7_personItem 52 = .ok (.iconst 0, 1) := by decide +kernel
theorem dX7_personItem_53 : decode cX7_personItem 53 = .ok (.iaload, 1) := by decide +kernel
theorem dX7_personItem_54 : decode cX7_personItem 54 = .ok (.iastore, 1) := by decide +kernel
theorem dX7_personItem_55 : decode cX7_personItem 55 = .ok (.iconst 0, 1) := by decide +kernel
theorem dX7_personItem_56 : decode cX7_personItem 56 = .ok (.istore_n 2, 1) := by decide +kernel
theorem dX7_personItem_57 : decode cX7_personItem 57 = .ok (.aload_n 0, 1) := by decide +kernel
theorem dX7_personItem_58 : decode cX7_personItem 58 = .ok (.aload_n 0, 1) := by decide +kernel
theorem dX7_personItem_59 : decode cX7_personItem 59 = .ok (.getfield 98, 3) := by decide +kernel
theorem dX7_personItem_62 : decode cX7_personItem 62 = .ok (.invokevirtual 101, 3) := by decide +kernel
theorem dX7_personItem_65 : decode cX7_personItem 65 = .ok (.i2l, 1) := by decide +kernel
theorem dX7_personItem_66 : decode cX7_personItem 66 = .ok (.ldc2_w 105, 3) := by decide +kernel
theorem dX7_personItem_69 : decode cX7_personItem 69 = .ok (.ldc2_w 115, 3) := by decide +kernel
theorem dX7_personItem_72 : decode cX7_personItem 72 = .ok (.invokestatic 88, 3) := by decide +kernel
theorem dX7_personItem_75 : decode cX7_personItem 75 = .ok (.ifCond .eq 47, 3) := by decide +kernel
theorem dX7_personItem_78 : decode cX7_personItem 78 = .ok (.iload_n 2, 1) := by decide +kernel
theorem dX7_personItem_79 : decode cX7_personItem 79 = .ok (.bipush 6, 2) := by decide +kernel
theorem dX7_personItem_81 : decode cX7_personItem 81 = .ok (.if_icmp .ge 41, 3) := by decide +kernel
theorem dX7_personItem_84 : decode cX7_personItem 84 = .ok (.aload_n 0, 1) := by decide +kernel
theorem dX7_personItem_85 : decode cX7_personItem 85 = .ok (.getfield 22, 3) := by decide +kernel
theorem dX7_personItem_88 : decode cX7_personItem 88 = .ok (.bipush 6, 2) := by decide +kernel
theorem dX7_personItem_90 : decode cX7_personItem 90 = .ok (.iload_n 1, 1) := by decide +kernel
theorem dX7_personItem_91 : decode cX7_personItem 91 = .ok (.imul, 1) := by decide +kernel
theorem dX7_personItem_92 : decode cX7_personItem 92 = .ok (.iload_n 2, 1) := by decide +kernel
theorem dX7_personItem_93 : decode cX7_personItem 93 = .ok (.iadd, 1) := by decide +kernel
theorem dX7_personItem_94 : decode cX7_personItem 94 = .ok (.aload_n 0, 1) := by decide +kernel
theorem dX7_personItem_95 : decode cX7_personItem 95 = .ok (.aload_n 0, 1) := by decide +kernel
theorem dX7_personItem_96 : decode cX7_personItem 96 = .ok (.getfield 98, 3) := by decide +kernel
theorem dX7_personItem_99 : decode cX7_personItem 99 = .ok (.invokevirtual 101, 3) := by decide +kernel
theorem dX7_personItem_102 : decode cX7_personItem 102 = .ok (.bipush 48, 2) := by decide +kernel
theorem dX7_personItem_104 : decode cX7_personItem 104 = .ok (.isub, 1) := by decide +kernel
theorem dX7_personItem_105 : decode cX7_personItem 105 = .ok (.iastore, 1) := by decide +kernel
theorem dX7_personItem_106 : decode cX7_personItem 106 = .ok (.iinc 2 1, 3) := by decide +kernel
theorem dX7_personItem_109 : decode cX7_personItem 109 = .ok (.aload_n 0, 1) := by decide +kernel
theorem dX7_personItem_110 : decode cX7_personItem 110 = .ok (.dup, 1) := by decide +kernel
theorem dX7_personItem_111 : decode cX7_personItem 111 = .ok (.getfield 98, 3) := by decide +kernel
theorem dX7_personItem_114 : decode cX7_personItem 114 = .ok (.iconst 1, 1) := by decide +kernel
theorem dX7_personItem_115 : decode cX7_personItem 115 = .ok (.iadd, 1) := by decide +kernel
theorem dX7_personItem_116 : decode cX7_personItem 116 = .ok (.putfield 98, 3) := by decide +kernel
theorem dX7_personItem_119 : decode cX7_personItem 119 = .ok (.goto (-62), 3) := by decide +kernel
theorem dX7_personItem_122 : decode cX7_personItem 122 = .ok (.iload_n 2, 1) := by decide +kernel
theorem dX7_personItem_123 : decode cX7_personItem 123 = .ok (.ifCond .eq 16, 3) := by decide +kernel
theorem dX7_personItem_126 : decode cX7_personItem 126 = .ok (.aload_n 0, 1) := by decide +kernel
theorem dX7_personItem_127 : decode cX7_personItem 127 = .ok (.aload_n 0, 1) := by decide +kernel
theorem dX7_personItem_128 : decode cX7_personItem 128 = .ok (.getfield 98, 3) := by decide +kernel
theorem dX7_personItem_131 : decode cX7_personItem 131 = .ok (.invokevirtual 101, 3) := by decide +kernel
theorem dX7_personItem_134 : decode cX7_personItem 134 = .ok (.bipush 44, 2) := by decide +kernel
theorem dX7_personItem_136 : decode cX7_personItem 136 = .ok (.if_icmp .eq 5, 3) := by decide +kernel
theorem dX7_personItem_139 : decode cX7_personItem 139 = .ok (.iconst 0, 1) := by decide +kernel
theorem dX7_personItem_140 : decode cX7_personItem 140 = .ok (.ireturn, 1) := by decide +kernel
theorem dX7_personItem_141 : decode cX7_personItem 141 = .ok (.aload_n 0, 1) := by decide +kernel
theorem dX7_personItem_142 : decode cX7_personItem 142 = .ok (.dup, 1) := by decide +kernel
theorem dX7_personItem_143 : decode cX7_personItem 143 = .ok (.getfield 98, 3) := by decide +kernel
theorem dX7_personItem_146 : decode cX7_personItem 146 = .ok (.iconst 1, 1) := by decide +kernel
theorem dX7_personItem_147 : decode cX7_personItem 147 = .ok (.iadd, 1) := by decide +kernel
theorem dX7_personItem_148 : decode cX7_personItem 148 = .ok (.putfield 98, 3) := by decide +kernel
theorem dX7_personItem_151 : decode cX7_personItem 151 = .ok (.aload_n 0, 1) := by decide +kernel
theorem dX7_personItem_152 : decode cX7_personItem 152 = .ok (.getfield 19, 3) := by decide +kernel
theorem dX7_personItem_155 : decode cX7_personItem 155 = .ok (.iload_n 1, 1) := by decide +kernel
theorem dX7_personItem_156 : decode cX7_personItem 156 = .ok (.iload_n 2, 1) := by decide +kernel
theorem dX7_personItem_157 : decode cX7_personItem 157 = .ok (.iastore, 1) := by decide +kernel
theorem dX7_personItem_158 : decode cX7_personItem 158 = .ok (.aload_n 0, 1) := by decide +kernel
theorem dX7_personItem_159 : decode cX7_personItem 159 = .ok (.iconst 2, 1) := by decide +kernel
theorem dX7_personItem_160 : decode cX7_personItem 160 = .ok (.bipush 59, 2) := by decide +kernel
theorem dX7_personItem_162 : decode cX7_personItem 162 = .ok (.invokevirtual 111, 3) := by decide +kernel
theorem dX7_personItem_165 : decode cX7_personItem 165 = .ok (.ifCond .eq 25, 3) := by decide +kernel
theorem dX7_personItem_168 : decode cX7_personItem 168 = .ok (.aload_n 0, 1) := by decide +kernel
theorem dX7_personItem_169 : decode cX7_personItem 169 = .ok (.getfield 58, 3) := by decide +kernel
theorem dX7_personItem_172 : decode cX7_personItem 172 = .ok (.iconst 0, 1) := by decide +kernel
theorem dX7_personItem_173 : decode cX7_personItem 173 = .ok (.iaload, 1) := by decide +kernel
theorem dX7_personItem_174 : decode cX7_personItem 174 = .ok (.bipush 99, 2) := by decide +kernel
theorem dX7_personItem_176 : decode cX7_personItem 176 = .ok (.if_icmp .gt 14, 3) := by decide +kernel
theorem dX7_personItem_179 : decode cX7_personItem 179 = .ok (.aload_n 0, 1) := by decide +kernel
theorem dX7_personItem_180 : decode cX7_personItem 180 = .ok (.getfield 58, 3) := by decide +kernel
theorem dX7_personItem_183 : decode cX7_personItem 183 = .ok (.iconst 1, 1) := by decide +kernel
theorem dX7_personItem_184 : decode cX7_personItem 184 = .ok (.iaload, 1) := by decide +kernel
theorem dX7_personItem_185 : decode cX7_personItem 185 = .ok (.bipush 9, 2) := by decide +kernel
theorem dX7_personItem_187 : decode cX7_personItem 187 = .ok (.if_icmp .le 5, 3) := by decide +kernel
theorem dX7_personItem_190 : decode cX7_personItem 190 = .ok (.iconst 0, 1) := by decide +kernel
theorem dX7_personItem_191 : decode cX7_personItem 191 = .ok (.ireturn, 1) := by decide +kernel
theorem dX7_personItem_192 : decode cX7_personItem 192 = .ok (.aload_n 0, 1) := by decide +kernel
theorem dX7_personItem_193 : decode cX7_personItem 193 = .ok (.getfield 25, 3) := by decide +kernel
theorem dX7_personItem_196 : decode cX7_personItem 196 = .ok (.iload_n 1, 1) := by decide +kernel
theorem dX7_personItem_197 : decode cX7_personItem 197 = .ok (.aload_n 0, 1) := by decide +kernel
theorem dX7_personItem_198 : decode cX7_personItem 198 = .ok (.getfield 58, 3) := by decide +kernel
theorem dX7_personItem_201 : decode cX7_personItem 201 = .ok (.iconst 0, 1) := by decide +kernel
theorem dX7_personItem_202 : decode cX7_personItem 202 = .ok (.iaload, 1) := by decide +kernel
theorem dX7_personItem_203 : decode cX7_personItem 203 = .ok (.iastore, 1) := by decide +kernel
theorem dX7_personItem_204 : decode cX7_personItem 204 = .ok (.aload_n 0, 1) := by decide +kernel
theorem dX7_personItem_205 : decode cX7_personItem 205 = .ok (.getfield 28, 3) := by decide +kernel
theorem dX7_personItem_208 : decode cX7_personItem 208 = .ok (.iload_n 1, 1) := by decide +kernel
theorem dX7_personItem_209 : decode cX7_personItem 209 = .ok (.aload_n 0, 1) := by decide +kernel
theorem dX7_personItem_210 : decode cX7_personItem 210 = .ok (.getfield 58, 3) := by decide +kernel
theorem dX7_personItem_213 : decode cX7_personItem 213 = .ok (.iconst 1, 1) := by decide +kernel
theorem dX7_personItem_214 : decode cX7_personItem 214 = .ok (.iaload, 1) := by decide +kernel
theorem dX7_personItem_215 : decode cX7_personItem 215 = .ok (.iastore, 1) := by decide +kernel
theorem dX7_personItem_216 : decode cX7_personItem 216 = .ok (.aload_n 0, 1) := by decide +kernel
theorem dX7_personItem_217 : decode cX7_personItem 217 = .ok (.getfield 13, 3) := by decide +kernel
theorem dX7_personItem_220 : decode cX7_personItem 220 = .ok (.iconst 1, 1) := by decide +kernel
theorem dX7_personItem_221 : decode cX7_personItem 221 = .ok (.dup2, 1) := by decide +kernel
theorem dX7_personItem_222 : decode cX7_personItem 222 = .ok (.iaload, 1) := by decide +kernel
theorem dX7_personItem_223 : decode cX7_personItem 223 = .ok (.iconst 1, 1) := by decide +kernel
theorem dX7_personItem_224 : decode cX7_personItem 224 = .ok (.iadd, 1) := by decide +kernel
theorem dX7_personItem_225 : decode cX7_personItem 225 = .ok (.iastore, 1) := by decide +kernel
theorem dX7_personItem_226 : decode cX7_personItem 226 = .ok (.iconst 1, 1) := by decide +kernel
theorem dX7_personItem_227 : decode cX7_personItem 227 = .ok (.ireturn, 1) := by decide +kernel
theorem dX7_item_0 : decode cX7_item 0 = .ok (.aload_n 0, 1) := by decide +kernel
theorem dX7_item_1 : decode cX7_item 1 = .ok (.aload_n 0, 1) := by decide +kernel
theorem dX7_item_2 : decode cX7_item 2 = .ok (.getfield 98, 3) := by decide +kernel
theorem dX7_item_5 : decode cX7_item 5 = .ok (.invokevirtual 101, 3) := by decide +kernel
theorem dX7_item_8 : decode cX7_item 8 = .ok (.istore_n 1, 1) := by decide +kernel
theorem dX7_item_9 : decode cX7_item 9 = .ok (.aload_n 0, 1) := by decide +kernel
theorem dX7_item_10 : decode cX7_item 10 = .ok (.dup, 1) := by decide +kernel
theorem dX7_item_11 : decode cX7_item 11 = .ok (.getfield 98, 3) := by decide +kernel
theorem dX7_item_14 : decode cX7_item 14 = .ok (.iconst 1, 1) := by decide +kernel
theorem dX7_item_15 : decode cX7_item 15 = .ok (.iadd, 1) := by decide +kernel
theorem dX7_item_16 : decode cX7_item 16 = .ok (.putfield 98, 3) := by decide +kernel
theorem dX7_item_19 : decode cX7_item 19 = .ok (.iload_n 1, 1) := by decide +kernel
theorem dX7_item_20 : decode cX7_item 20 = .ok (.tableswitch 350 98 115 #[247, 350, 350, 350, 350, 350, 350, 350, 350, 147, 93, 313, 88, 350, 350, 350, 350, 186], 88) := by decide +kernel
theorem dX7_item_108 : decode cX7_item 108 = .ok (.aload_n 0, 1) := by decide +kernel
theorem dX7_item_109 : decode cX7_item 109 = .ok (.invokevirtual 117, 3) := by decide +kernel
theorem dX7_item_112 : decode cX7_item 112 = .ok (.ireturn, 1) := by decide +kernel
theorem dX7_item_113 : decode cX7_item 113 = .ok (.aload_n 0, 1) := by decide +kernel
theorem dX7_item_114 : decode cX7_item 114 = .ok (.iconst 2, 1) := by decide +kernel
theorem dX7_item_115 : decode cX7_item 115 = .ok (.bipush 59, 2) := by decide +kernel
theorem dX7_item_117 : decode cX7_item 117 = .ok (.invokevirtual 111, 3) := by decide +kernel
theorem dX7_item_120 : decode cX7_item 120 = .ok (.ifCond .eq 23, 3) := by decide +kernel
theorem dX7_item_123 : decode cX7_item 123 = .ok (.aload_n 0, 1) := by decide +kernel
theorem dX7_item_124 : decode cX7_item 124 = .ok (.getfield 58, 3) := by decide +kernel
theorem dX7_item_127 : decode cX7_item 127 = .ok (.iconst 0, 1) := by decide +kernel
theorem dX7_item_128 : decode cX7_item 128 = .ok (.iaload, 1) := by decide +kernel
theorem dX7_item_129 : decode cX7_item 129 = .ok (.iconst 5, 1) := by decide +kernel
theorem dX7_item_130 : decode cX7_item 130 = .ok (.if_icmp .gt 13, 3) := by decide +kernel
theorem dX7_item_133 : decode cX7_item 133 = .ok (.aload_n 0, 1) := by decide +kernel
theorem dX7_item_134 : decode cX7_item 134 = .ok (.getfield 58, 3) := by decide +kernel
theorem dX7_item_137 : decode cX7_item 137 = .ok (.iconst 1, 1) := by decide +kernel
theorem dX7_item_138 : decode cX7_item 138 = .ok (.iaload, 1) := by decide +kernel
theorem dX7_item_139 : decode cX7_item 139 = .ok (.iconst 5, 1) := by decide +kernel
theorem dX7_item_140 : decode cX7_item 140 = .ok (.if_icmp .le 5, 3) := by decide +kernel
theorem dX7_item_143 : decode cX7_item 143 = .ok (.iconst 0, 1) := by decide +kernel
theorem dX7_item_144 : decode cX7_item 144 = .ok (.ireturn, 1) := by decide +kernel
theorem dX7_item_145 : decode cX7_item 145 = .ok (.aload_n 0, 1) := by decide +kernel
theorem dX7_item_146 : decode cX7_item 146 = .ok (.getfield 31, 3) := by decide +kernel
theorem dX7_item_149 : decode cX7_item 149 = .ok (.bipush 6, 2) := by decide +kernel
theorem dX7_item_151 : decode cX7_item 151 = .ok (.aload_n 0, 1) := by decide +kernel
theorem dX7_item_152 : decode cX7_item 152 = .ok (.getfield 58, 3) := by decide +kernel
theorem dX7_item_155 : decode cX7_item 155 = .ok (.iconst 0, 1) := by decide +kernel
theorem dX7_item_156 : decode cX7_item 156 = .ok (.iaload, 1) := by decide +kernel
theorem dX7_item_157 : decode cX7_item 157 = .ok (.iadd, 1) := by decide +kernel
theorem dX7_item_158 : decode cX7_item 158 = .ok (.aload_n 0, 1) := by decide +kernel
theorem dX7_item_159 : decode cX7_item 159 = .ok (.getfield 58, 3) := by decide +kernel
theorem dX7_item_162 : decode cX7_item 162 = .ok (.iconst 1, 1) := by decide +kernel
theorem dX7_item_163 : decode cX7_item 163 = .ok (.iaload, 1) := by decide +kernel
theorem dX7_item_164 : decode cX7_item 164 = .ok (.iastore, 1) := by decide +kernel
theorem dX7_item_165 : decode cX7_item 165 = .ok (.iconst 1, 1) := by decide +kernel
theorem dX7_item_166 : decode cX7_item 166 = .ok (.ireturn, 1) := by decide +kernel
theorem dX7_item_167 : decode cX7_item 167 = .ok (.aload_n 0, 1) := by decide +kernel
theorem dX7_item_168 : decode cX7_item 168 = .ok (.iconst 1, 1) := by decide +kernel
theorem dX7_item_169 : decode cX7_item 169 = .ok (.bipush 59, 2) := by decide +kernel
theorem dX7_item_171 : decode cX7_item 171 = .ok (.invokevirtual 111, 3) := by decide +kernel
theorem dX7_item_174 : decode cX7_item 174 = .ok (.ifCond .eq 13, 3) := by decide +kernel
theorem dX7_item_177 : decode cX7_item 177 = .ok (.aload_n 0, 1) := by decide +kernel
theorem dX7_item_178 : decode cX7_item 178 = .ok (.getfield 58, 3) := by decide +kernel
theorem dX7_item_181 : decode cX7_item 181 = .ok (.iconst 0, 1) := by decide +kernel
theorem dX7_item_182 : decode cX7_item 182 = .ok (.iaload, 1) := by decide +kernel
theorem dX7_item_183 : decode cX7_item 183 = .ok (.iconst 5, 1) := by decide +kernel
theorem dX7_item_184 : decode cX7_item 184 = .ok (.if_icmp .le 5, 3) := by decide +kernel
theorem dX7_item_187 : decode cX7_item 187 = .ok (.iconst 0, 1) := by decide +kernel
theorem dX7_item_188 : decode cX7_item 188 = .ok (.ireturn, 1) := by decide +kernel
theorem dX7_item_189 : decode cX7_item 189 = .ok (.aload_n 0, 1) := by decide +kernel
theorem dX7_item_190 : decode cX7_item 190 = .ok (.getfield 34, 3) := by decide +kernel
theorem dX7_item_193 : decode cX7_item 193 = .ok (.bipush 6, 2) := by decide +kernel
theorem dX7_item_195 : decode cX7_item 195 = .ok (.aload_n 0, 1) := by decide +kernel
theorem dX7_item_196 : decode cX7_item 196 = .ok (.getfield 58, 3) := by decide +kernel
theorem dX7_item_199 : decode cX7_item 199 = .ok (.iconst 0, 1) := by decide +kernel
theorem dX7_item_200 : decode cX7_item 200 = .ok (.iaload, 1) := by decide +kernel
theorem dX7_item_201 : decode cX7_item 201 = .ok (.iadd, 1) := by decide +kernel
theorem dX7_item_202 : decode cX7_item 202 = .ok (.iconst 1, 1) := by decide +kernel
theorem dX7_item_203 : decode cX7_item 203 = .ok (.iastore, 1) := by decide +kernel
theorem dX7_item_204 : decode cX7_item 204 = .ok (.iconst 1, 1) := by decide +kernel
theorem dX7_item_205 : decode cX7_item 205 = .ok (.ireturn, 1) := by decide +kernel
theorem dX7_item_206 : decode cX7_item 206 = .ok (.aload_n 0, 1) := by decide +kernel
theorem dX7_item_207 : decode cX7_item 207 = .ok (.iconst 2, 1) := by decide +kernel
theorem dX7_item_208 : decode cX7_item 208 = .ok (.bipush 59, 2) := by decide +kernel
theorem dX7_item_210 : decode cX7_item 210 = .ok (.invokevirtual 111, 3) := by decide +kernel
theorem dX7_item_213 : decode cX7_item 213 = .ok (.ifCond .eq 30, 3) := by decide +kernel
theorem dX7_item_216 : decode cX7_item 216 = .ok (.aload_n 0, 1) := by decide +kernel
theorem dX7_item_217 : decode cX7_item 217 = .ok (.getfield 58, 3) := by decide +kernel
theorem dX7_item_220 : decode cX7_item 220 = .ok (.iconst 0, 1) := by decide +kernel
theorem dX7_item_221 : decode cX7_item 221 = .ok (.iaload, 1) := by decide +kernel
theorem dX7_item_222 : decode cX7_item 222 = .ok (.iconst 5, 1) := by decide +kernel
theorem dX7_item_223 : decode cX7_item 223 = .ok (.if_icmp .gt 20, 3) := by decide +kernel
theorem dX7_item_226 : decode cX7_item 226 = .ok (.aload_n 0, 1) := by decide +kernel
theorem dX7_item_227 : decode cX7_item 227 = .ok (.getfield 58, 3) := by decide +kernel
theorem dX7_item_230 : decode cX7_item 230 = .ok (.iconst 1, 1) := by decide +kernel
theorem dX7_item_231 : decode cX7_item 231 = .ok (.iaload, 1) := by decide +kernel
theorem dX7_item_232 : decode cX7_item 232 = .ok (.i2l, 1) := by decide +kernel
theorem dX7_item_233 : decode cX7_item 233 = .ok (.lconst 1, 1) := by decide +kernel
theorem dX7_item_234 : decode cX7_item 234 = .ok (.ldc2_w 121, 3) := by decide +kernel
theorem dX7_item_237 : decode cX7_item 237 = .ok (.invokestatic 88, 3) := by decide +kernel
theorem dX7_item_240 : decode cX7_item 240 = .ok (.ifCond .ne 5, 3) := by decide +kernel
theorem dX7_item_243 : decode cX7_item 243 = .ok (.iconst 0, 1) := by decide +kernel
theorem dX7_item_244 : decode cX7_item 244 = .ok (.ireturn, 1) := by decide +kernel
theorem dX7_item_245 : decode cX7_item 245 = .ok (.aload_n 0, 1) := by decide +kernel
theorem dX7_item_246 : decode cX7_item 246 = .ok (.getfield 37, 3) := by decide +kernel
theorem dX7_item_249 : decode cX7_item 249 = .ok (.bipush 6, 2) := by decide +kernel
theorem dX7_item_251 : decode cX7_item 251 = .ok (.aload_n 0, 1) := by decide +kernel
theorem dX7_item_252 : decode cX7_item 252 = .ok (.getfield 58, 3) := by decide +kernel
theorem dX7_item_255 : decode cX7_item 255 = .ok (.iconst 0, 1) := by decide +kernel
theorem dX7_item_256 : decode cX7_item 256 = .ok (.iaload, 1) := by decide +kernel
theorem dX7_item_257 : decode cX7_item 257 = .ok (.iadd, 1) := by decide +kernel
theorem dX7_item_258 : decode cX7_item 258 = .ok (.aload_n 0, 1) := by decide +kernel
theorem dX7_item_259 : decode cX7_item 259 = .ok (.getfield 58, 3) := by decide +kernel
theorem dX7_item_262 : decode cX7_item 262 = .ok (.iconst 1, 1) := by decide +kernel
theorem dX7_item_263 : decode cX7_item 263 = .ok (.iaload, 1) := by decide +kernel
theorem dX7_item_264 : decode cX7_item 264 = .ok (.iastore, 1) := by decide +kernel
theorem dX7_item_265 : decode cX7_item 265 = .ok (.iconst 1, 1) := by decide +kernel
theorem dX7_item_266 : decode cX7_item 266 = .ok (.ireturn, 1) := by decide +kernel
theorem dX7_item_267 : decode cX7_item 267 = .ok (.aload_n 0, 1) := by decide +kernel
theorem dX7_item_268 : decode cX7_item 268 = .ok (.iconst 2, 1) := by decide +kernel
theorem dX7_item_269 : decode cX7_item 269 = .ok (.bipush 59, 2) := by decide +kernel
theorem dX7_item_271 : decode cX7_item 271 = .ok (.invokevirtual 111, 3) := by decide +kernel
theorem dX7_item_274 : decode cX7_item 274 = .ok (.ifCond .eq 31, 3) := by decide +kernel
theorem dX7_item_277 : decode cX7_item 277 = .ok (.aload_n 0, 1) := by decide +kernel
theorem dX7_item_278 : decode cX7_item 278 = .ok (.getfield 58, 3) := by decide +kernel
theorem dX7_item_281 : decode cX7_item 281 = .ok (.iconst 0, 1) := by decide +kernel
theorem dX7_item_282 : decode cX7_item 282 = .ok (.iaload, 1) := by decide +kernel
theorem dX7_item_283 : decode cX7_item 283 = .ok (.i2l, 1) := by decide +kernel
theorem dX7_item_284 : decode cX7_item 284 = .ok (.lconst 1, 1) := by decide +kernel
theorem dX7_item_285 : decode cX7_item 285 = .ok (.ldc2_w 123, 3) := by decide +kernel
theorem dX7_item_288 : decode cX7_item 288 = .ok (.invokestatic 88, 3) := by decide +kernel
theorem dX7_item_291 : decode cX7_item 291 = .ok (.ifCond .eq 14, 3) := by decide +kernel
theorem dX7_item_294 : decode cX7_item 294 = .ok (.aload_n 0, 1) := by decide +kernel
theorem dX7_item_295 : decode cX7_item 295 = .ok (.getfield 58, 3) := by decide +kernel
theorem dX7_item_298 : decode cX7_item 298 = .ok (.iconst 1, 1) := by decide +kernel
theorem dX7_item_299 : decode cX7_item 299 = .ok (.iaload, 1) := by decide +kernel
theorem dX7_item_300 : decode cX7_item 300 = .ok (.bipush 20, 2) := by decide +kernel
theorem dX7_item_302 : decode cX7_item 302 = .ok (.if_icmp .le 5, 3) := by decide +kernel
theorem dX7_item_305 : decode cX7_item 305 = .ok (.iconst 0, 1) := by decide +kernel
theorem dX7_item_306 : decode cX7_item 306 = .ok (.ireturn, 1) := by decide +kernel
theorem dX7_item_307 : decode cX7_item 307 = .ok (.aload_n 0, 1) := by decide +kernel
theorem dX7_item_308 : decode cX7_item 308 = .ok (.getfield 40, 3) := by decide +kernel
theorem dX7_item_311 : decode cX7_item 311 = .ok (.iconst 3, 1) := by decide +kernel
theorem dX7_item_312 : decode cX7_item 312 = .ok (.aload_n 0, 1) := by decide +kernel
theorem dX7_item_313 : decode cX7_item 313 = .ok (.getfield 58, 3) := by decide +kernel
theorem dX7_item_316 : decode cX7_item 316 = .ok (.iconst 0, 1) := by decide +kernel
theorem dX7_item_317 : decode cX7_item 317 = .ok (.iaload, 1) := by decide +kernel
theorem dX7_item_318 : decode cX7_item 318 = .ok (.iastore, 1) := by decide +kernel
theorem dX7_item_319 : decode cX7_item 319 = .ok (.aload_n 0, 1) := by decide +kernel
theorem dX7_item_320 : decode cX7_item 320 = .ok (.getfield 40, 3) := by decide +kernel
theorem dX7_item_323 : decode cX7_item 323 = .ok (.iconst 4, 1) := by decide +kernel
theorem dX7_item_324 : decode cX7_item 324 = .ok (.aload_n 0, 1) := by decide +kernel
theorem dX7_item_325 : decode cX7_item 325 = .ok (.getfield 58, 3) := by decide +kernel
theorem dX7_item_328 : decode cX7_item 328 = .ok (.iconst 1, 1) := by decide +kernel
theorem dX7_item_329 : decode cX7_item 329 = .ok (.iaload, 1) := by decide +kernel
theorem dX7_item_330 : decode cX7_item 330 = .ok (.iastore, 1) := by decide +kernel
theorem dX7_item_331 : decode cX7_item 331 = .ok (.iconst 1, 1) := by decide +kernel
theorem dX7_item_332 : decode cX7_item 332 = .ok (.ireturn, 1) := by decide +kernel
theorem dX7_item_333 : decode cX7_item 333 = .ok (.aload_n 0, 1) := by decide +kernel
theorem dX7_item_334 : decode cX7_item 334 = .ok (.iconst 1, 1) := by decide +kernel
theorem dX7_item_335 : decode cX7_item 335 = .ok (.bipush 59, 2) := by decide +kernel
theorem dX7_item_337 : decode cX7_item 337 = .ok (.invokevirtual 111, 3) := by decide +kernel
theorem dX7_item_340 : decode cX7_item 340 = .ok (.ifCond .eq 14, 3) := by decide +kernel
theorem dX7_item_343 : decode cX7_item 343 = .ok (.aload_n 0, 1) := by decide +kernel
theorem dX7_item_344 : decode cX7_item 344 = .ok (.getfield 58, 3) := by decide +kernel
theorem dX7_item_347 : decode cX7_item 347 = .ok (.iconst 0, 1) := by decide +kernel
theorem dX7_item_348 : decode cX7_item 348 = .ok (.iaload, 1) := by decide +kernel
theorem dX7_item_349 : decode cX7_item 349 = .ok (.bipush 9, 2) := by decide +kernel
theorem dX7_item_351 : decode cX7_item 351 = .ok (.if_icmp .le 5, 3) := by decide +kernel
theorem dX7_item_354 : decode cX7_item 354 = .ok (.iconst 0, 1) := by decide +kernel
theorem dX7_item_355 : decode cX7_item 355 = .ok (.ireturn, 1) := by decide +kernel
theorem dX7_item_356 : decode cX7_item 356 = .ok (.aload_n 0, 1) := by decide +kernel
theorem dX7_item_357 : decode cX7_item 357 = .ok (.getfield 40, 3) := by decide +kernel
theorem dX7_item_360 : decode cX7_item 360 = .ok (.iconst 5, 1) := by decide +kernel
theorem dX7_item_361 : decode cX7_item 361 = .ok (.aload_n 0, 1) := by decide +kernel
theorem dX7_item_362 : decode cX7_item 362 = .ok (.getfield 58, 3) := by decide +kernel
theorem dX7_item_365 : decode cX7_item 365 = .ok (.iconst 0, 1) := by decide +kernel
theorem dX7_item_366 : decode cX7_item 366 = .ok (.iaload, 1) := by decide +kernel
theorem dX7_item_367 : decode cX7_item 367 = .ok (.iastore, 1) := by decide +kernel
theorem dX7_item_368 : decode cX7_item 368 = .ok (.iconst 1, 1) := by decide +kernel
theorem dX7_item_369 : decode cX7_item 369 = .ok (.ireturn, 1) := by decide +kernel
theorem dX7_item_370 : decode cX7_item 370 = .ok (.iconst 0, 1) := by decide +kernel
theorem dX7_item_371 : decode cX7_item 371 = .ok (.ireturn, 1) := by decide +kernel
theorem dX7_readAll_0 : decode cX7_readAll 0 = .ok (.aload_n 0, 1) := by decide +kernel
theorem dX7_readAll_1 : decode cX7_readAll 1 = .ok (.iconst 1, 1) := by decide +kernel
theorem dX7_readAll_2 : decode cX7_readAll 2 = .ok (.invokevirtual 79, 3) := by decide +kernel
theorem dX7_readAll_5 : decode cX7_readAll 5 = .ok (.aload_n 0, 1) := by decide +kernel
theorem dX7_readAll_6 : decode cX7_readAll 6 = .ok (.iconst 0, 1) := by decide +kernel
theorem dX7_readAll_7 : decode cX7_readAll 7 = .ok (.putfield 98, 3) := by decide +kernel
theorem dX7_readAll_10 : decode cX7_readAll 10 = .ok (.aload_n 0, 1) := by decide +kernel
theorem dX7_readAll_11 : decode cX7_readAll 11 = .ok (.getfield 98, 3) := by decide +kernel
theorem dX7_readAll_14 : decode cX7_readAll 14 = .ok (.aload_n 0, 1) := by decide +kernel
theorem dX7_readAll_15 : decode cX7_readAll 15 = .ok (.getfield 92, 3) := by decide +kernel
theorem dX7_readAll_18 : decode cX7_readAll 18 = .ok (.if_icmp .ge 20, 3) := by decide +kernel
theorem dX7_readAll_21 : decode cX7_readAll 21 = .ok (.aload_n 0, 1) := by decide +kernel
theorem dX7_readAll_22 : decode cX7_readAll 22 = .ok (.getfield 98, 3) := by decide +kernel
theorem dX7_readAll_25 : decode cX7_readAll 25 = .ok (.istore_n 1, 1) := by decide +kernel
theorem dX7_readAll_26 : decode cX7_readAll 26 = .ok (.aload_n 0, 1) := by decide +kernel
theorem dX7_readAll_27 : decode cX7_readAll 27 = .ok (.invokevirtual 125, 3) := by decide +kernel
theorem dX7_readAll_30 : decode cX7_readAll 30 = .ok (.ifCond .ne 5, 3) := by decide +kernel
theorem dX7_readAll_33 : decode cX7_readAll 33 = .ok (.iload_n 1, 1) := by decide +kernel
theorem dX7_readAll_34 : decode cX7_readAll 34 = .ok (.ireturn, 1) := by decide +kernel
theorem dX7_readAll_35 : decode cX7_readAll 35 = .ok (.goto (-25), 3) := by decide +kernel
theorem dX7_readAll_38 : decode cX7_readAll 38 = .ok (.bipush (-4), 2) := by decide +kernel
theorem dX7_readAll_40 : decode cX7_readAll 40 = .ok (.ireturn, 1) := by decide +kernel
theorem dX7_fault_0 : decode cX7_fault 0 = .ok (.aload_n 0, 1) := by decide +kernel
theorem dX7_fault_1 : decode cX7_fault 1 = .ok (.invokevirtual 128, 3) := by decide +kernel
theorem dX7_fault_4 : decode cX7_fault 4 = .ok (.ireturn, 1) := by decide +kernel
theorem dX7_layHill_0 : decode cX7_layHill 0 = .ok (.iconst 0, 1) := by decide +kernel
theorem dX7_layHill_1 : decode cX7_layHill 1 = .ok (.istore_n 1, 1) := by decide +kernel
theorem dX7_layHill_2 : decode cX7_layHill 2 = .ok (.iload_n 1, 1) := by decide +kernel
theorem dX7_layHill_3 : decode cX7_layHill 3 = .ok (.bipush 8, 2) := by decide +kernel
theorem dX7_layHill_5 : decode cX7_layHill 5 = .ok (.if_icmp .ge 79, 3) := by decide +kernel
theorem dX7_layHill_8 : decode cX7_layHill 8 = .ok (.aload_n 0, 1) := by decide +kernel
theorem dX7_layHill_9 : decode cX7_layHill 9 = .ok (.getfield 43, 3) := by decide +kernel
theorem dX7_layHill_12 : decode cX7_layHill 12 = .ok (.iload_n 1, 1) := by decide +kernel
theorem dX7_layHill_13 : decode cX7_layHill 13 = .ok (.aload_n 0, 1) := by decide +kernel
theorem dX7_layHill_14 : decode cX7_layHill 14 = .ok (.getfield 16, 3) := by decide +kernel
theorem dX7_layHill_17 : decode cX7_layHill 17 = .ok (.iload_n 1, 1) := by decide +kernel
theorem dX7_layHill_18 : decode cX7_layHill 18 = .ok (.iaload, 1) := by decide +kernel
theorem dX7_layHill_19 : decode cX7_layHill 19 = .ok (.iastore, 1) := by decide +kernel
theorem dX7_layHill_20 : decode cX7_layHill 20 = .ok (.aload_n 0, 1) := by decide +kernel
theorem dX7_layHill_21 : decode cX7_layHill 21 = .ok (.getfield 46, 3) := by decide +kernel
theorem dX7_layHill_24 : decode cX7_layHill 24 = .ok (.iload_n 1, 1) := by decide +kernel
theorem dX7_layHill_25 : decode cX7_layHill 25 = .ok (.aload_n 0, 1) := by decide +kernel
theorem dX7_layHill_26 : decode cX7_layHill 26 = .ok (.getfield 19, 3) := by decide +kernel
theorem dX7_layHill_29 : decode cX7_layHill 29 = .ok (.iload_n 1, 1) := by decide +kernel
theorem dX7_layHill_30 : decode cX7_layHill 30 = .ok (.iaload, 1) := by decide +kernel
theorem dX7_layHill_31 : decode cX7_layHill 31 = .ok (.iastore, 1) := by decide +kernel
theorem dX7_layHill_32 : decode cX7_layHill 32 = .ok (.iconst 0, 1) := by decide +kernel
theorem dX7_layHill_33 : decode cX7_layHill 33 = .ok (.istore_n 2, 1) := by decide +kernel
theorem dX7_layHill_34 : decode cX7_layHill 34 = .ok (.iload_n 2, 1) := by decide +kernel
theorem dX7_layHill_35 : decode cX7_layHill 35 = .ok (.bipush 10, 2) := by decide +kernel
theorem dX7_layHill_37 : decode cX7_layHill 37 = .ok (.if_icmp .ge 41, 3) := by decide +kernel
theorem dX7_layHill_40 : decode cX7_layHill 40 = .ok (.aload_n 0, 1) := by decide +kernel
theorem dX7_layHill_41 : decode cX7_layHill 41 = .ok (.getfield 49, 3) := by decide +kernel
theorem dX7_layHill_44 : decode cX7_layHill 44 = .ok (.bipush 10, 2) := by decide +kernel
theorem dX7_layHill_46 : decode cX7_layHill 46 = .ok (.iload_n 1, 1) := by decide +kernel
theorem dX7_layHill_47 : decode cX7_layHill 47 = .ok (.imul, 1) := by decide +kernel
theorem dX7_layHill_48 : decode cX7_layHill 48 = .ok (.iload_n 2, 1) := by decide +kernel
theorem dX7_layHill_49 : decode cX7_layHill 49 = .ok (.iadd, 1) := by decide +kernel
theorem dX7_layHill_50 : decode cX7_layHill 50 = .ok (.iload_n 2, 1) := by decide +kernel
theorem dX7_layHill_51 : decode cX7_layHill 51 = .ok (.bipush 6, 2) := by decide +kernel
theorem dX7_layHill_53 : decode cX7_layHill 53 = .ok (.if_icmp .ge 17, 3) := by decide +kernel
theorem dX7_layHill_56 : decode cX7_layHill 56 = .ok (.aload_n 0, 1) := by decide +kernel
theorem dX7_layHill_57 : decode cX7_layHill 57 = .ok (.getfield 22, 3) := by decide +kernel
theorem dX7_layHill_60 : decode cX7_layHill 60 = .ok (.bipush 6, 2) := by decide +kernel
theorem dX7_layHill_62 : decode cX7_layHill 62 = .ok (.iload_n 1, 1) := by decide +kernel
theorem dX7_layHill_63 : decode cX7_layHill 63 = .ok (.imul, 1) := by decide +kernel
theorem dX7_layHill_64 : decode cX7_layHill 64 = .ok (.iload_n 2, 1) := by decide +kernel
theorem dX7_layHill_65 : decode cX7_layHill 65 = .ok (.iadd, 1) := by decide +kernel
theorem dX7_layHill_66 : decode cX7_layHill 66 = .ok (.iaload, 1) := by decide +kernel
theorem dX7_layHill_67 : decode cX7_layHill 67 = .ok (.goto 4, 3) := by decide +kernel
theorem dX7_layHill_70 : decode cX7_layHill 70 = .ok (.iconst 0, 1) := by decide +kernel
theorem dX7_layHill_71 : decode cX7_layHill 71 = .ok (.iastore, 1) := by decide +kernel
theorem dX7_layHill_72 : decode cX7_layHill 72 = .ok (.iinc 2 1, 3) := by decide +kernel
theorem dX7_layHill_75 : decode cX7_layHill 75 = .ok (.goto (-41), 3) := by decide +kernel
theorem dX7_layHill_78 : decode cX7_layHill 78 = .ok (.iinc 1 1, 3) := by decide +kernel
theorem dX7_layHill_81 : decode cX7_layHill 81 = .ok (.goto (-79), 3) := by decide +kernel
theorem dX7_layHill_84 : decode cX7_layHill 84 = .ok (.aload_n 0, 1) := by decide +kernel
theorem dX7_layHill_85 : decode cX7_layHill 85 = .ok (.getfield 52, 3) := by decide +kernel
theorem dX7_layHill_88 : decode cX7_layHill 88 = .ok (.iconst 0, 1) := by decide +kernel
theorem dX7_layHill_89 : decode cX7_layHill 89 = .ok (.iconst 0, 1) := by decide +kernel
theorem dX7_layHill_90 : decode cX7_layHill 90 = .ok (.iastore, 1) := by decide +kernel
theorem dX7_layHill_91 : decode cX7_layHill 91 = .ok (.aload_n 0, 1) := by decide +kernel
theorem dX7_layHill_92 : decode cX7_layHill 92 = .ok (.iconst 0, 1) := by decide +kernel
theorem dX7_layHill_93 : decode cX7_layHill 93 = .ok (.putfield 132, 3) := by decide +kernel
theorem dX7_layHill_96 : decode cX7_layHill 96 = .ok (.return_, 1) := by decide +kernel
theorem dX7_lay_0 : decode cX7_lay 0 = .ok (.aload_n 0, 1) := by decide +kernel
theorem dX7_lay_1 : decode cX7_lay 1 = .ok (.invokevirtual 128, 3) := by decide +kernel
theorem dX7_lay_4 : decode cX7_lay 4 = .ok (.bipush (-4), 2) := by decide +kernel
theorem dX7_lay_6 : decode cX7_lay 6 = .ok (.if_icmp .ne 12, 3) := by decide +kernel
theorem dX7_lay_9 : decode cX7_lay 9 = .ok (.aload_n 0, 1) := by decide +kernel
theorem dX7_lay_10 : decode cX7_lay 10 = .ok (.getfield 13, 3) := by decide +kernel
theorem dX7_lay_13 : decode cX7_lay 13 = .ok (.iconst 1, 1) := by decide +kernel
theorem dX7_lay_14 : decode cX7_lay 14 = .ok (.iaload, 1) := by decide +kernel
theorem dX7_lay_15 : decode cX7_lay 15 = .ok (.ifCond .ne 6, 3) := by decide +kernel
theorem dX7_lay_18 : decode cX7_lay 18 = .ok (.bipush (-2), 2) := by decide +kernel
theorem dX7_lay_20 : decode cX7_lay 20 = .ok (.ireturn, 1) := by decide +kernel
theorem dX7_lay_21 : decode cX7_lay 21 = .ok (.aload_n 0, 1) := by decide +kernel
theorem dX7_lay_22 : decode cX7_lay 22 = .ok (.getfield 13, 3) := by decide +kernel
theorem dX7_lay_25 : decode cX7_lay 25 = .ok (.iconst 0, 1) := by decide +kernel
theorem dX7_lay_26 : decode cX7_lay 26 = .ok (.aload_n 0, 1) := by decide +kernel
theorem dX7_lay_27 : decode cX7_lay 27 = .ok (.getfield 13, 3) := by decide +kernel
theorem dX7_lay_30 : decode cX7_lay 30 = .ok (.iconst 1, 1) := by decide +kernel
theorem dX7_lay_31 : decode cX7_lay 31 = .ok (.iaload, 1) := by decide +kernel
theorem dX7_lay_32 : decode cX7_lay 32 = .ok (.iastore, 1) := by decide +kernel
theorem dX7_lay_33 : decode cX7_lay 33 = .ok (.iconst 0, 1) := by decide +kernel
theorem dX7_lay_34 : decode cX7_lay 34 = .ok (.istore_n 1, 1) := by decide +kernel
theorem dX7_lay_35 : decode cX7_lay 35 = .ok (.iload_n 1, 1) := by decide +kernel
theorem dX7_lay_36 : decode cX7_lay 36 = .ok (.bipush 8, 2) := by decide +kernel
theorem dX7_lay_38 : decode cX7_lay 38 = .ok (.if_icmp .ge 69, 3) := by decide +kernel
theorem dX7_lay_41 : decode cX7_lay 41 = .ok (.aload_n 0, 1) := by decide +kernel
theorem dX7_lay_42 : decode cX7_lay 42 = .ok (.getfield 16, 3) := by decide +kernel
theorem dX7_lay_45 : decode cX7_lay 45 = .ok (.iload_n 1, 1) := by decide +kernel
theorem dX7_lay_46 : decode cX7_lay 46 = .ok (.aload_n 0, 1) := by decide +kernel
theorem dX7_lay_47 : decode cX7_lay 47 = .ok (.getfield 16, 3) := by decide +kernel
theorem dX7_lay_50 : decode cX7_lay 50 = .ok (.bipush 8, 2) := by decide +kernel
theorem dX7_lay_52 : decode cX7_lay 52 = .ok (.iload_n 1, 1) := by decide +kernel
theorem dX7_lay_53 : decode cX7_lay 53 = .ok (.iadd, 1) := by decide +kernel
theorem dX7_lay_54 : decode cX7_lay 54 = .ok (.iaload, 1) := by decide +kernel
theorem dX7_lay_55 : decode cX7_lay 55 = .ok (.iastore, 1) := by decide +kernel
theorem dX7_lay_56 : decode cX7_lay 56 = .ok (.aload_n 0, 1) := by decide +kernel
theorem dX7_lay_57 : decode cX7_lay 57 = .ok (.getfield 19, 3) := by decide +kernel
theorem dX7_lay_60 : decode cX7_lay 60 = .ok (.iload_n 1, 1) := by decide +kernel
theorem dX7_lay_61 : decode cX7_lay 61 = .ok (.aload_n 0, 1) := by decide +kernel
theorem dX7_lay_62 : decode cX7_lay 62 = .ok (.getfield 19, 3) := by decide +kernel
theorem dX7_lay_65 : decode cX7_lay 65 = .ok (.bipush 8, 2) := by decide +kernel
theorem dX7_lay_67 : decode cX7_lay 67 = .ok (.iload_n 1, 1) := by decide +kernel
theorem dX7_lay_68 : decode cX7_lay 68 = .ok (.iadd, 1) := by decide +kernel
theorem dX7_lay_69 : decode cX7_lay 69 = .ok (.iaload, 1) := by decide +kernel
theorem dX7_lay_70 : decode cX7_lay 70 = .ok (.iastore, 1) := by decide +kernel
theorem dX7_lay_71 : decode cX7_lay 71 = .ok (.aload_n 0, 1) := by decide +kernel
theorem dX7_lay_72 : decode cX7_lay 72 = .ok (.getfield 25, 3) := by decide +kernel
theorem dX7_lay_75 : decode cX7_lay 75 = .ok (.iload_n 1, 1) := by decide +kernel
theorem dX7_lay_76 : decode cX7_lay 76 = .ok (.aload_n 0, 1) := by decide +kernel
theorem dX7_lay_77 : decode cX7_lay 77 = .ok (.getfield 25, 3) := by decide +kernel
theorem dX7_lay_80 : decode cX7_lay 80 = .ok (.bipush 8, 2) := by decide +kernel
theorem dX7_lay_82 : decode cX7_lay 82 = .ok (.iload_n 1, 1) := by decide +kernel
theorem dX7_lay_83 : decode cX7_lay 83 = .ok (.iadd, 1) := by decide +kernel
theorem dX7_lay_84 : decode cX7_lay 84 = .ok (.iaload, 1) := by decide +kernel
theorem dX7_lay_85 : decode cX7_lay 85 = .ok (.iastore, 1) := by decide +kernel
theorem dX7_lay_86 : decode cX7_lay 86 = .ok (.aload_n 0, 1) := by decide +kernel
theorem dX7_lay_87 : decode cX7_lay 87 = .ok (.getfield 28, 3) := by decide +kernel
theorem dX7_lay_90 : decode cX7_lay 90 = .ok (.iload_n 1, 1) := by decide +kernel
theorem dX7_lay_91 : decode cX7_lay 91 = .ok (.aload_n 0, 1) := by decide +kernel
theorem dX7_lay_92 : decode cX7_lay 92 = .ok (.getfield 28, 3) := by decide +kernel
theorem dX7_lay_95 : decode cX7_lay 95 = .ok (.bipush 8, 2) := by decide +kernel
theorem dX7_lay_97 : decode cX7_lay 97 = .ok (.iload_n 1, 1) := by decide +kernel
theorem dX7_lay_98 : decode cX7_lay 98 = .ok (.iadd, 1) := by decide +kernel
theorem dX7_lay_99 : decode cX7_lay 99 = .ok (.iaload, 1) := by decide +kernel
theorem dX7_lay_100 : decode cX7_lay 100 = .ok (.iastore, 1) := by decide +kernel
theorem dX7_lay_101 : decode cX7_lay 101 = .ok (.iinc 1 1, 3) := by decide +kernel
theorem dX7_lay_104 : decode cX7_lay 104 = .ok (.goto (-69), 3) := by decide +kernel
theorem dX7_lay_107 : decode cX7_lay 107 = .ok (.iconst 0, 1) := by decide +kernel
theorem dX7_lay_108 : decode cX7_lay 108 = .ok (.istore_n 1, 1) := by decide +kernel
theorem dX7_lay_109 : decode cX7_lay 109 = .ok (.iload_n 1, 1) := by decide +kernel
theorem dX7_lay_110 : decode cX7_lay 110 = .ok (.bipush 48, 2) := by decide +kernel
theorem dX7_lay_112 : decode cX7_lay 112 = .ok (.if_icmp .ge 24, 3) := by decide +kernel
theorem dX7_lay_115 : decode cX7_lay 115 = .ok (.aload_n 0, 1) := by decide +kernel
theorem dX7_lay_116 : decode cX7_lay 116 = .ok (.getfield 22, 3) := by decide +kernel
theorem dX7_lay_119 : decode cX7_lay 119 = .ok (.iload_n 1, 1) := by decide +kernel
theorem dX7_lay_120 : decode cX7_lay 120 = .ok (.aload_n 0, 1) := by decide +kernel
theorem dX7_lay_121 : decode cX7_lay 121 = .ok (.getfield 22, 3) := by decide +kernel
theorem dX7_lay_124 : decode cX7_lay 124 = .ok (.bipush 48, 2) := by decide +kernel
theorem dX7_lay_126 : decode cX7_lay 126 = .ok (.iload_n 1, 1) := by decide +kernel
theorem dX7_lay_127 : decode cX7_lay 127 = .ok (.iadd, 1) := by decide +kernel
theorem dX7_lay_128 : decode cX7_lay 128 = .ok (.iaload, 1) := by decide +kernel
theorem dX7_lay_129 : decode cX7_lay 129 = .ok (.iastore, 1) := by decide +kernel
theorem dX7_lay_130 : decode cX7_lay 130 = .ok (.iinc 1 1, 3) := by decide +kernel
theorem dX7_lay_133 : decode cX7_lay 133 = .ok (.goto (-24), 3) := by decide +kernel
theorem dX7_lay_136 : decode cX7_lay 136 = .ok (.iconst 0, 1) := by decide +kernel
theorem dX7_lay_137 : decode cX7_lay 137 = .ok (.istore_n 1, 1) := by decide +kernel
theorem dX7_lay_138 : decode cX7_lay 138 = .ok (.iload_n 1, 1) := by decide +kernel
theorem dX7_lay_139 : decode cX7_lay 139 = .ok (.bipush 6, 2) := by decide +kernel
theorem dX7_lay_141 : decode cX7_lay 141 = .ok (.if_icmp .ge 54, 3) := by decide +kernel
theorem dX7_lay_144 : decode cX7_lay 144 = .ok (.aload_n 0, 1) := by decide +kernel
theorem dX7_lay_145 : decode cX7_lay 145 = .ok (.getfield 31, 3) := by decide +kernel
theorem dX7_lay_148 : decode cX7_lay 148 = .ok (.iload_n 1, 1) := by decide +kernel
theorem dX7_lay_149 : decode cX7_lay 149 = .ok (.aload_n 0, 1) := by decide +kernel
theorem dX7_lay_150 : decode cX7_lay 150 = .ok (.getfield 31, 3) := by decide +kernel
theorem dX7_lay_153 : decode cX7_lay 153 = .ok (.bipush 6, 2) := by decide +kernel
theorem dX7_lay_155 : decode cX7_lay 155 = .ok (.iload_n 1, 1) := by decide +kernel
theorem dX7_lay_156 : decode cX7_lay 156 = .ok (.iadd, 1) := by decide +kernel
theorem dX7_lay_157 : decode cX7_lay 157 = .ok (.iaload, 1) := by decide +kernel
theorem dX7_lay_158 : decode cX7_lay 158 = .ok (.iastore, 1) := by decide +kernel
theorem dX7_lay_159 : decode cX7_lay 159 = .ok (.aload_n 0, 1) := by decide +kernel
theorem dX7_lay_160 : decode cX7_lay 160 = .ok (.getfield 34, 3) := by decide +kernel
theorem dX7_lay_163 : decode cX7_lay 163 = .ok (.iload_n 1, 1) := by decide +kernel
theorem dX7_lay_164 : decode cX7_lay 164 = .ok (.aload_n 0, 1) := by decide +kernel
theorem dX7_lay_165 : decode cX7_lay 165 = .ok (.getfield 34, 3) := by decide +kernel
theorem dX7_lay_168 : decode cX7_lay 168 = .ok (.bipush 6, 2) := by decide +kernel
theorem dX7_lay_170 : decode cX7_lay 170 = .ok (.iload_n 1, 1) := by decide +kernel
theorem dX7_lay_171 : decode cX7_lay 171 = .ok (.iadd, 1) := by decide +kernel
theorem dX7_lay_172 : decode cX7_lay 172 = .ok (.iaload, 1) := by decide +kernel
theorem dX7_lay_173 : decode cX7_lay 173 = .ok (.iastore, 1) := by decide +kernel
theorem dX7_lay_174 : decode cX7_lay 174 = .ok (.aload_n 0, 1) := by decide +kernel
theorem dX7_lay_175 : decode cX7_lay 175 = .ok (.getfield 37, 3) := by decide +kernel
theorem dX7_lay_178 : decode cX7_lay 178 = .ok (.iload_n 1, 1) := by decide +kernel
theorem dX7_lay_179 : decode cX7_lay 179 = .ok (.aload_n 0, 1) := by decide +kernel
theorem dX7_lay_180 : decode cX7_lay 180 = .ok (.getfield 37, 3) := by decide +kernel
theorem dX7_lay_183 : decode cX7_lay 183 = .ok (.bipush 6, 2) := by decide +kernel
theorem dX7_lay_185 : decode cX7_lay 185 = .ok (.iload_n 1, 1) := by decide +kernel
theorem dX7_lay_186 : decode cX7_lay 186 = .ok (.iadd, 1) := by decide +kernel
theorem dX7_lay_187 : decode cX7_lay 187 = .ok (.iaload, 1) := by decide +kernel
theorem dX7_lay_188 : decode cX7_lay 188 = .ok (.iastore, 1) := by decide +kernel
theorem dX7_lay_189 : decode cX7_lay 189 = .ok (.iinc 1 1, 3) := by decide +kernel
theorem dX7_lay_192 : decode cX7_lay 192 = .ok (.goto (-54), 3) := by decide +kernel
theorem dX7_lay_195 : decode cX7_lay 195 = .ok (.iconst 0, 1) := by decide +kernel
theorem dX7_lay_196 : decode cX7_lay 196 = .ok (.istore_n 1, 1) := by decide +kernel
theorem dX7_lay_197 : decode cX7_lay 197 = .ok (.iload_n 1, 1) := by decide +kernel
theorem dX7_lay_198 : decode cX7_lay 198 = .ok (.iconst 3, 1) := by decide +kernel
theorem dX7_lay_199 : decode cX7_lay 199 = .ok (.if_icmp .ge 23, 3) := by decide +kernel
theorem dX7_lay_202 : decode cX7_lay 202 = .ok (.aload_n 0, 1) := by decide +kernel
theorem dX7_lay_203 : decode cX7_lay 203 = .ok (.getfield 40, 3) := by decide +kernel
theorem dX7_lay_206 : decode cX7_lay 206 = .ok (.iload_n 1, 1) := by decide +kernel
theorem dX7_lay_207 : decode cX7_lay 207 = .ok (.aload_n 0, 1) := by decide +kernel
theorem dX7_lay_208 : decode cX7_lay 208 = .ok (.getfield 40, 3) := by decide +kernel
theorem dX7_lay_211 : decode cX7_lay 211 = .ok (.iconst 3, 1) := by decide +kernel
theorem dX7_lay_212 : decode cX7_lay 212 = .ok (.iload_n 1, 1) := by decide +kernel
theorem dX7_lay_213 : decode cX7_lay 213 = .ok (.iadd, 1) := by decide +kernel
theorem dX7_lay_214 : decode cX7_lay 214 = .ok (.iaload, 1) := by decide +kernel
theorem dX7_lay_215 : decode cX7_lay 215 = .ok (.iastore, 1) := by decide +kernel
theorem dX7_lay_216 : decode cX7_lay 216 = .ok (.iinc 1 1, 3) := by decide +kernel
theorem dX7_lay_219 : decode cX7_lay 219 = .ok (.goto (-22), 3) := by decide +kernel
theorem dX7_lay_222 : decode cX7_lay 222 = .ok (.aload_n 0, 1) := by decide +kernel
theorem dX7_lay_223 : decode cX7_lay 223 = .ok (.invokevirtual 83, 3) := by decide +kernel
theorem dX7_lay_226 : decode cX7_lay 226 = .ok (.aload_n 0, 1) := by decide +kernel
theorem dX7_lay_227 : decode cX7_lay 227 = .ok (.getfield 13, 3) := by decide +kernel
theorem dX7_lay_230 : decode cX7_lay 230 = .ok (.iconst 0, 1) := by decide +kernel
theorem dX7_lay_231 : decode cX7_lay 231 = .ok (.iaload, 1) := by decide +kernel
theorem dX7_lay_232 : decode cX7_lay 232 = .ok (.ireturn, 1) := by decide +kernel
theorem dX7_isPerson_0 : decode cX7_isPerson 0 = .ok (.iload_n 1, 1) := by decide +kernel
theorem dX7_isPerson_1 : decode cX7_isPerson 1 = .ok (.i2l, 1) := by decide +kernel
theorem dX7_isPerson_2 : decode cX7_isPerson 2 = .ok (.lconst 0, 1) := by decide +kernel
theorem dX7_isPerson_3 : decode cX7_isPerson 3 = .ok (.aload_n 0, 1) := by decide +kernel
theorem dX7_isPerson_4 : decode cX7_isPerson 4 = .ok (.getfield 13, 3) := by decide +kernel
theorem dX7_isPerson_7 : decode cX7_isPerson 7 = .ok (.iconst 0, 1) := by decide +kernel
theorem dX7_isPerson_8 : decode cX7_isPerson 8 = .ok (.iaload, 1) := by decide +kernel
theorem dX7_isPerson_9 : decode cX7_isPerson 9 = .ok (.iconst 1, 1) := by decide +kernel
theorem dX7_isPerson_10 : decode cX7_isPerson 10 = .ok (.isub, 1) := by decide +kernel
theorem dX7_isPerson_11 : decode cX7_isPerson 11 = .ok (.i2l, 1) := by decide +kernel
theorem dX7_isPerson_12 : decode cX7_isPerson 12 = .ok (.invokestatic 88, 3) := by decide +kernel
theorem dX7_isPerson_15 : decode cX7_isPerson 15 = .ok (.ireturn, 1) := by decide +kernel
theorem dX7_isSet_0 : decode cX7_isSet 0 = .ok (.iload_n 1, 1) := by decide +kernel
theorem dX7_isSet_1 : decode cX7_isSet 1 = .ok (.i2l, 1) := by decide +kernel
theorem dX7_isSet_2 : decode cX7_isSet 2 = .ok (.lconst 1, 1) := by decide +kernel
theorem dX7_isSet_3 : decode cX7_isSet 3 = .ok (.iconst 1, 1) := by decide +kernel
theorem dX7_isSet_4 : decode cX7_isSet 4 = .ok (.aload_n 0, 1) := by decide +kernel
theorem dX7_isSet_5 : decode cX7_isSet 5 = .ok (.getfield 13, 3) := by decide +kernel
theorem dX7_isSet_8 : decode cX7_isSet 8 = .ok (.iconst 0, 1) := by decide +kernel
theorem dX7_isSet_9 : decode cX7_isSet 9 = .ok (.iaload, 1) := by decide +kernel
theorem dX7_isSet_10 : decode cX7_isSet 10 = .ok (.ishl, 1) := by decide +kernel
theorem dX7_isSet_11 : decode cX7_isSet 11 = .ok (.iconst 1, 1) := by decide +kernel
theorem dX7_isSet_12 : decode cX7_isSet 12 = .ok (.isub, 1) := by decide +kernel
theorem dX7_isSet_13 : decode cX7_isSet 13 = .ok (.i2l, 1) := by decide +kernel
theorem dX7_isSet_14 : decode cX7_isSet 14 = .ok (.invokestatic 88, 3) := by decide +kernel
theorem dX7_isSet_17 : decode cX7_isSet 17 = .ok (.ireturn, 1) := by decide +kernel
theorem dX7_laySaid_0 : decode cX7_laySaid 0 = .ok (.iconst 0, 1) := by decide +kernel
theorem dX7_laySaid_1 : decode cX7_laySaid 1 = .ok (.istore 4, 2) := by decide +kernel
theorem dX7_laySaid_3 : decode cX7_laySaid 3 = .ok (.iload 4, 2) := by decide +kernel
theorem dX7_laySaid_5 : decode cX7_laySaid 5 = .ok (.aload_n 0, 1) := by decide +kernel
theorem dX7_laySaid_6 : decode cX7_laySaid 6 = .ok (.getfield 13, 3) := by decide +kernel
theorem dX7_laySaid_9 : decode cX7_laySaid 9 = .ok (.iconst 0, 1) := by decide +kernel
theorem dX7_laySaid_10 : decode cX7_laySaid 10 = .ok (.iaload, 1) := by decide +kernel
theorem dX7_laySaid_11 : decode cX7_laySaid 11 = .ok (.if_icmp .ge 220, 3) := by decide +kernel
theorem dX7_laySaid_14 : decode cX7_laySaid 14 = .ok (.bipush 8, 2) := by decide +kernel
theorem dX7_laySaid_16 : decode cX7_laySaid 16 = .ok (.iload_n 1, 1) := by decide +kernel
theorem dX7_laySaid_17 : decode cX7_laySaid 17 = .ok (.imul, 1) := by decide +kernel
theorem dX7_laySaid_18 : decode cX7_laySaid 18 = .ok (.iload 4, 2) := by decide +kernel
theorem dX7_laySaid_20 : decode cX7_laySaid 20 = .ok (.iadd, 1) := by decide +kernel
theorem dX7_laySaid_21 : decode cX7_laySaid 21 = .ok (.istore 5, 2) := by decide +kernel
theorem dX7_laySaid_23 : decode cX7_laySaid 23 = .ok (.aload_n 0, 1) := by decide +kernel
theorem dX7_laySaid_24 : decode cX7_laySaid 24 = .ok (.getfield 46, 3) := by decide +kernel
theorem dX7_laySaid_27 : decode cX7_laySaid 27 = .ok (.iload 5, 2) := by decide +kernel
theorem dX7_laySaid_29 : decode cX7_laySaid 29 = .ok (.iaload, 1) := by decide +kernel
theorem dX7_laySaid_30 : decode cX7_laySaid 30 = .ok (.iload 4, 2) := by decide +kernel
theorem dX7_laySaid_32 : decode cX7_laySaid 32 = .ok (.iload_n 2, 1) := by decide +kernel
theorem dX7_laySaid_33 : decode cX7_laySaid 33 = .ok (.if_icmp .ne 7, 3) := by decide +kernel
theorem dX7_laySaid_36 : decode cX7_laySaid 36 = .ok (.iconst 1, 1) := by decide +kernel
theorem dX7_laySaid_37 : decode cX7_laySaid 37 = .ok (.goto 4, 3) := by decide +kernel
theorem dX7_laySaid_40 : decode cX7_laySaid 40 = .ok (.iconst 0, 1) := by decide +kernel
theorem dX7_laySaid_41 : decode cX7_laySaid 41 = .ok (.iadd, 1) := by decide +kernel
theorem dX7_laySaid_42 : decode cX7_laySaid 42 = .ok (.istore 6, 2) := by decide +kernel
theorem dX7_laySaid_44 : decode cX7_laySaid 44 = .ok (.aload_n 0, 1) := by decide +kernel
theorem dX7_laySaid_45 : decode cX7_laySaid 45 = .ok (.getfield 43, 3) := by decide +kernel
theorem dX7_laySaid_48 : decode cX7_laySaid 48 = .ok (.iload 5, 2) := by decide +kernel
theorem dX7_laySaid_50 : decode cX7_laySaid 50 = .ok (.iaload, 1) := by decide +kernel
theorem dX7_laySaid_51 : decode cX7_laySaid 51 = .ok (.iconst 1, 1) := by decide +kernel
theorem dX7_laySaid_52 : decode cX7_laySaid 52 = .ok (.if_icmp .ne 16, 3) := by decide +kernel
theorem dX7_laySaid_55 : decode cX7_laySaid 55 = .ok (.iload 6, 2) := by decide +kernel
theorem dX7_laySaid_57 : decode cX7_laySaid 57 = .ok (.iconst 1, 1) := by decide +kernel
theorem dX7_laySaid_58 : decode cX7_laySaid 58 = .ok (.if_icmp .le 10, 3) := by decide +kernel
theorem dX7_laySaid_61 : decode cX7_laySaid 61 = .ok (.iload 6, 2) := by decide +kernel
theorem dX7_laySaid_63 : decode cX7_laySaid 63 = .ok (.iconst 1, 1) := by decide +kernel
theorem dX7_laySaid_64 : decode cX7_laySaid 64 = .ok (.isub, 1) := by decide +kernel
theorem dX7_laySaid_65 : decode cX7_laySaid 65 = .ok (.goto 5, 3) := by decide +kernel
theorem dX7_laySaid_68 : decode cX7_laySaid 68 = .ok (.iload 6, 2) := by decide +kernel
theorem dX7_laySaid_70 : decode cX7_laySaid 70 = .ok (.istore 7, 2) := by decide +kernel
theorem dX7_laySaid_72 : decode cX7_laySaid 72 = .ok (.aload_n 0, 1) := by decide +kernel
theorem dX7_laySaid_73 : decode cX7_laySaid 73 = .ok (.getfield 64, 3) := by decide +kernel
theorem dX7_laySaid_76 : decode cX7_laySaid 76 = .ok (.iload 4, 2) := by decide +kernel
theorem dX7_laySaid_78 : decode cX7_laySaid 78 = .ok (.aload_n 0, 1) := by decide +kernel
theorem dX7_laySaid_79 : decode cX7_laySaid 79 = .ok (.getfield 43, 3) := by decide +kernel
theorem dX7_laySaid_82 : decode cX7_laySaid 82 = .ok (.iload 5, 2) := by decide +kernel
theorem dX7_laySaid_84 : decode cX7_laySaid 84 = .ok (.iaload, 1) := by decide +kernel
theorem dX7_laySaid_85 : decode cX7_laySaid 85 = .ok (.iconst 1, 1) := by decide +kernel
theorem dX7_laySaid_86 : decode cX7_laySaid 86 = .ok (.if_icmp .le 10, 3) := by decide +kernel
theorem dX7_laySaid_89 : decode cX7_laySaid 89 = .ok (.iconst 2, 1) := by decide +kernel
theorem dX7_laySaid_90 : decode cX7_laySaid 90 = .ok (.iload 7, 2) := by decide +kernel
theorem dX7_laySaid_92 : decode cX7_laySaid 92 = .ok (.imul, 1) := by decide +kernel
theorem dX7_laySaid_93 : decode cX7_laySaid 93 = .ok (.goto 5, 3) := by decide +kernel
theorem dX7_laySaid_96 : decode cX7_laySaid 96 = .ok (.iload 7, 2) := by decide +kernel
theorem dX7_laySaid_98 : decode cX7_laySaid 98 = .ok (.iastore, 1) := by decide +kernel
theorem dX7_laySaid_99 : decode cX7_laySaid 99 = .ok (.aload_n 0, 1) := by decide +kernel
theorem dX7_laySaid_100 : decode cX7_laySaid 100 = .ok (.getfield 67, 3) := by decide +kernel
theorem dX7_laySaid_103 : decode cX7_laySaid 103 = .ok (.iload 4, 2) := by decide +kernel
theorem dX7_laySaid_105 : decode cX7_laySaid 105 = .ok (.iconst 0, 1) := by decide +kernel
theorem dX7_laySaid_106 : decode cX7_laySaid 106 = .ok (.iastore, 1) := by decide +kernel
theorem dX7_laySaid_107 : decode cX7_laySaid 107 = .ok (.iconst 0, 1) := by decide +kernel
theorem dX7_laySaid_108 : decode cX7_laySaid 108 = .ok (.istore 8, 2) := by decide +kernel
theorem dX7_laySaid_110 : decode cX7_laySaid 110 = .ok (.iload 8, 2) := by decide +kernel
theorem dX7_laySaid_112 : decode cX7_laySaid 112 = .ok (.aload_n 0, 1) := by decide +kernel
theorem dX7_laySaid_113 : decode cX7_laySaid 113 = .ok (.getfield 64, 3) := by decide +kernel
theorem dX7_laySaid_116 : decode cX7_laySaid 116 = .ok (.iload 4, 2) := by decide +kernel
theorem dX7_laySaid_118 : decode cX7_laySaid 118 = .ok (.iaload, 1) := by decide +kernel
theorem dX7_laySaid_119 : decode cX7_laySaid 119 = .ok (.if_icmp .ge 106, 3) := by decide +kernel
theorem dX7_laySaid_122 : decode cX7_laySaid 122 = .ok (.iload 8, 2) := by decide +kernel
theorem dX7_laySaid_124 : decode cX7_laySaid 124 = .ok (.iload 7, 2) := by decide +kernel
theorem dX7_laySaid_126 : decode cX7_laySaid 126 = .ok (.irem, 1) := by decide +kernel
theorem dX7_laySaid_127 : decode cX7_laySaid 127 = .ok (.istore 9, 2) := by decide +kernel
theorem dX7_laySaid_129 : decode cX7_laySaid 129 = .ok (.aload_n 0, 1) := by decide +kernel
theorem dX7_laySaid_130 : decode cX7_laySaid 130 = .ok (.getfield 61, 3) := by decide +kernel
theorem dX7_laySaid_133 : decode cX7_laySaid 133 = .ok (.bipush 20, 2) := by decide +kernel
theorem dX7_laySaid_135 : decode cX7_laySaid 135 = .ok (.iload 4, 2) := by decide +kernel
theorem dX7_laySaid_137 : decode cX7_laySaid 137 = .ok (.imul, 1) := by decide +kernel
theorem dX7_laySaid_138 : decode cX7_laySaid 138 = .ok (.iload 8, 2) := by decide +kernel
theorem dX7_laySaid_140 : decode cX7_laySaid 140 = .ok (.iadd, 1) := by decide +kernel
theorem dX7_laySaid_141 : decode cX7_laySaid 141 = .ok (.iload 4, 2) := by decide +kernel
theorem dX7_laySaid_143 : decode cX7_laySaid 143 = .ok (.iload_n 2, 1) := by decide +kernel
theorem dX7_laySaid_144 : decode cX7_laySaid 144 = .ok (.if_icmp .ne 16, 3) := by decide +kernel
theorem dX7_laySaid_147 : decode cX7_laySaid 147 = .ok (.iload 9, 2) := by decide +kernel
theorem dX7_laySaid_149 : decode cX7_laySaid 149 = .ok (.iload 6, 2) := by decide +kernel
theorem dX7_laySaid_151 : decode cX7_laySaid 151 = .ok (.iconst 1, 1) := by decide +kernel
theorem dX7_laySaid_152 : decode cX7_laySaid 152 = .ok (.isub, 1) := by decide +kernel
theorem dX7_laySaid_153 : decode cX7_laySaid 153 = .ok (.if_icmp .ne 7, 3) := by decide +kernel
theorem dX7_laySaid_156 : decode cX7_laySaid 156 = .ok (.iload_n 3, 1) := by decide +kernel
theorem dX7_laySaid_157 : decode cX7_laySaid 157 = .ok (.goto 16, 3) := by decide +kernel
theorem dX7_laySaid_160 : decode cX7_laySaid 160 = .ok (.aload_n 0, 1) := by decide +kernel
theorem dX7_laySaid_161 : decode cX7_laySaid 161 = .ok (.getfield 49, 3) := by decide +kernel
theorem dX7_laySaid_164 : decode cX7_laySaid 164 = .ok (.bipush 10, 2) := by decide +kernel
theorem dX7_laySaid_166 : decode cX7_laySaid 166 = .ok (.iload 5, 2) := by decide +kernel
theorem dX7_laySaid_168 : decode cX7_laySaid 168 = .ok (.imul, 1) := by decide +kernel
theorem dX7_laySaid_169 : decode cX7_laySaid 169 = .ok (.iload 9, 2) := by decide +kernel
theorem dX7_laySaid_171 : decode cX7_laySaid 171 = .ok (.iadd, 1) := by decide +kernel
theorem dX7_laySaid_172 : decode cX7_laySaid 172 = .ok (.iaload, 1) := by decide +kernel
theorem dX7_laySaid_173 : decode cX7_laySaid 173 = .ok (.iastore, 1) := by decide +kernel
theorem dX7_laySaid_174 : decode cX7_laySaid 174 = .ok (.aload_n 0, 1) := by decide +kernel
theorem dX7_laySaid_175 : decode cX7_laySaid 175 = .ok (.getfield 67, 3) := by decide +kernel
theorem dX7_laySaid_178 : decode cX7_laySaid 178 = .ok (.iload 4, 2) := by decide +kernel
theorem dX7_laySaid_180 : decode cX7_laySaid 180 = .ok (.dup2, 1) := by decide +kernel
theorem dX7_laySaid_181 : decode cX7_laySaid 181 = .ok (.iaload, 1) := by decide +kernel
theorem dX7_laySaid_182 : decode cX7_laySaid 182 = .ok (.aload_n 0, 1) := by decide +kernel
theorem dX7_laySaid_183 : decode cX7_laySaid 183 = .ok (.getfield 37, 3) := by decide +kernel
theorem dX7_laySaid_186 : decode cX7_laySaid 186 = .ok (.aload_n 0, 1) := by decide +kernel
theorem dX7_laySaid_187 : decode cX7_laySaid 187 = .ok (.getfield 61, 3) := by decide +kernel
theorem dX7_laySaid_190 : decode cX7_laySaid 190 = .ok (.bipush 20, 2) := by decide +kernel
theorem dX7_laySaid_192 : decode cX7_laySaid 192 = .ok (.iload 4, 2) := by decide +kernel
theorem dX7_laySaid_194 : decode cX7_laySaid 194 = .ok (.imul, 1) := by decide +kernel
theorem dX7_laySaid_195 : decode cX7_laySaid 195 = .ok (.iload 8, 2) := by decide +kernel
theorem dX7_laySaid_197 : decode cX7_laySaid 197 = .ok (.iadd, 1) := by decide +kernel
theorem dX7_laySaid_198 : decode cX7_laySaid 198 = .ok (.iaload, 1) := by decide +kernel
theorem dX7_laySaid_199 : decode cX7_laySaid 199 = .ok (.iaload, 1) := by decide +kernel
theorem dX7_laySaid_200 : decode cX7_laySaid 200 = .ok (.aload_n 0, 1) := by decide +kernel
theorem dX7_laySaid_201 : decode cX7_laySaid 201 = .ok (.getfield 43, 3) := by decide +kernel
theorem dX7_laySaid_204 : decode cX7_laySaid 204 = .ok (.iload 5, 2) := by decide +kernel
theorem dX7_laySaid_206 : decode cX7_laySaid 206 = .ok (.iaload, 1) := by decide +kernel
theorem dX7_laySaid_207 : decode cX7_laySaid 207 = .ok (.iconst 3, 1) := by decide +kernel
theorem dX7_laySaid_208 : decode cX7_laySaid 208 = .ok (.if_icmp .ne 7, 3) := by decide +kernel
theorem dX7_laySaid_211 : decode cX7_laySaid 211 = .ok (.iconst 2, 1) := by decide +kernel
theorem dX7_laySaid_212 : decode cX7_laySaid 212 = .ok (.goto 4, 3) := by decide +kernel
theorem dX7_laySaid_215 : decode cX7_laySaid 215 = .ok (.iconst 1, 1) := by decide +kernel
theorem dX7_laySaid_216 : decode cX7_laySaid 216 = .ok (.imul, 1) := by decide +kernel
theorem dX7_laySaid_217 : decode cX7_laySaid 217 = .ok (.iadd, 1) := by decide +kernel
theorem dX7_laySaid_218 : decode cX7_laySaid 218 = .ok (.iastore, 1) := by decide +kernel
theorem dX7_laySaid_219 : decode cX7_laySaid 219 = .ok (.iinc 8 1, 3) := by decide +kernel
theorem dX7_laySaid_222 : decode cX7_laySaid 222 = .ok (.goto (-112), 3) := by decide +kernel
theorem dX7_laySaid_225 : decode cX7_laySaid 225 = .ok (.iinc 4 1, 3) := by decide +kernel
theorem dX7_laySaid_228 : decode cX7_laySaid 228 = .ok (.goto (-225), 3) := by decide +kernel
theorem dX7_laySaid_231 : decode cX7_laySaid 231 = .ok (.return_, 1) := by decide +kernel
theorem dX7_sayNow_0 : decode cX7_sayNow 0 = .ok (.aload_n 0, 1) := by decide +kernel
theorem dX7_sayNow_1 : decode cX7_sayNow 1 = .ok (.iconst 0, 1) := by decide +kernel
theorem dX7_sayNow_2 : decode cX7_sayNow 2 = .ok (.bipush (-4), 2) := by decide +kernel
theorem dX7_sayNow_4 : decode cX7_sayNow 4 = .ok (.bipush (-4), 2) := by decide +kernel
theorem dX7_sayNow_6 : decode cX7_sayNow 6 = .ok (.invokevirtual 135, 3) := by decide +kernel
theorem dX7_sayNow_9 : decode cX7_sayNow 9 = .ok (.return_, 1) := by decide +kernel
theorem dX7_person_0 : decode cX7_person 0 = .ok (.aload_n 0, 1) := by decide +kernel
theorem dX7_person_1 : decode cX7_person 1 = .ok (.iload_n 1, 1) := by decide +kernel
theorem dX7_person_2 : decode cX7_person 2 = .ok (.invokevirtual 139, 3) := by decide +kernel
theorem dX7_person_5 : decode cX7_person 5 = .ok (.ifCond .eq 15, 3) := by decide +kernel
theorem dX7_person_8 : decode cX7_person 8 = .ok (.iload_n 2, 1) := by decide +kernel
theorem dX7_person_9 : decode cX7_person 9 = .ok (.i2l, 1) := by decide +kernel
theorem dX7_person_10 : decode cX7_person 10 = .ok (.lconst 0, 1) := by decide +kernel
theorem dX7_person_11 : decode cX7_person 11 = .ok (.ldc2_w 143, 3) := by decide +kernel
theorem dX7_person_14 : decode cX7_person 14 = .ok (.invokestatic 88, 3) := by decide +kernel
theorem dX7_person_17 : decode cX7_person 17 = .ok (.ifCond .ne 5, 3) := by decide +kernel
theorem dX7_person_20 : decode cX7_person 20 = .ok (.iconst (-1), 1) := by decide +kernel
theorem dX7_person_21 : decode cX7_person 21 = .ok (.ireturn, 1) := by decide +kernel
theorem dX7_person_22 : decode cX7_person 22 = .ok (.aload_n 0, 1) := by decide +kernel
theorem dX7_person_23 : decode cX7_person 23 = .ok (.invokevirtual 145, 3) := by decide +kernel
theorem dX7_person_26 : decode cX7_person 26 = .ok (.iload_n 2, 1) := by decide +kernel
theorem dX7_person_27 : decode cX7_person 27 = .ok (.tableswitch 68 0 4 #[33, 40, 47, 54, 61], 33) := by decide +kernel
theorem dX7_person_60 : decode cX7_person 60 = .ok (.aload_n 0, 1) := by decide +kernel
theorem dX7_person_61 : decode cX7_person 61 = .ok (.getfield 43, 3) := by decide +kernel
theorem dX7_person_64 : decode cX7_person 64 = .ok (.iload_n 1, 1) := by decide +kernel
theorem dX7_person_65 : decode cX7_person 65 = .ok (.iaload, 1) := by decide +kernel
theorem dX7_person_66 : decode cX7_person 66 = .ok (.ireturn, 1) := by decide +kernel
theorem dX7_person_67 : decode cX7_person 67 = .ok (.aload_n 0, 1) := by decide +kernel
theorem dX7_person_68 : decode cX7_person 68 = .ok (.getfield 25, 3) := by decide +kernel
theorem dX7_person_71 : decode cX7_person 71 = .ok (.iload_n 1, 1) := by decide +kernel
theorem dX7_person_72 : decode cX7_person 72 = .ok (.iaload, 1) := by decide +kernel
theorem dX7_person_73 : decode cX7_person 73 = .ok (.ireturn, 1) := by decide +kernel
theorem dX7_person_74 : decode cX7_person 74 = .ok (.aload_n 0, 1) := by decide +kernel
theorem dX7_person_75 : decode cX7_person 75 = .ok (.getfield 28, 3) := by decide +kernel
theorem dX7_person_78 : decode cX7_person 78 = .ok (.iload_n 1, 1) := by decide +kernel
theorem dX7_person_79 : decode cX7_person 79 = .ok (.iaload, 1) := by decide +kernel
theorem dX7_person_80 : decode cX7_person 80 = .ok (.ireturn, 1) := by decide +kernel
theorem dX7_person_81 : decode cX7_person 81 = .ok (.aload_n 0, 1) := by decide +kernel
theorem dX7_person_82 : decode cX7_person 82 = .ok (.getfield 46, 3) := by decide +kernel
theorem dX7_person_85 : decode cX7_person 85 = .ok (.iload_n 1, 1) := by decide +kernel
theorem dX7_person_86 : decode cX7_person 86 = .ok (.iaload, 1) := by decide +kernel
theorem dX7_person_87 : decode cX7_person 87 = .ok (.ireturn, 1) := by decide +kernel
theorem dX7_person_88 : decode cX7_person 88 = .ok (.aload_n 0, 1) := by decide +kernel
theorem dX7_person_89 : decode cX7_person 89 = .ok (.getfield 64, 3) := by decide +kernel
theorem dX7_person_92 : decode cX7_person 92 = .ok (.iload_n 1, 1) := by decide +kernel
theorem dX7_person_93 : decode cX7_person 93 = .ok (.iaload, 1) := by decide +kernel
theorem dX7_person_94 : decode cX7_person 94 = .ok (.ireturn, 1) := by decide +kernel
theorem dX7_person_95 : decode cX7_person 95 = .ok (.aload_n 0, 1) := by decide +kernel
theorem dX7_person_96 : decode cX7_person 96 = .ok (.getfield 67, 3) := by decide +kernel
theorem dX7_person_99 : decode cX7_person 99 = .ok (.iload_n 1, 1) := by decide +kernel
theorem dX7_person_100 : decode cX7_person 100 = .ok (.iaload, 1) := by decide +kernel
theorem dX7_person_101 : decode cX7_person 101 = .ok (.ireturn, 1) := by decide +kernel
theorem dX7_said_0 : decode cX7_said 0 = .ok (.aload_n 0, 1) := by decide +kernel
theorem dX7_said_1 : decode cX7_said 1 = .ok (.iload_n 1, 1) := by decide +kernel
theorem dX7_said_2 : decode cX7_said 2 = .ok (.invokevirtual 139, 3) := by decide +kernel
theorem dX7_said_5 : decode cX7_said 5 = .ok (.ifCond .eq 15, 3) := by decide +kernel
theorem dX7_said_8 : decode cX7_said 8 = .ok (.iload_n 2, 1) := by decide +kernel
theorem dX7_said_9 : decode cX7_said 9 = .ok (.i2l, 1) := by decide +kernel
theorem dX7_said_10 : decode cX7_said 10 = .ok (.lconst 0, 1) := by decide +kernel
theorem dX7_said_11 : decode cX7_said 11 = .ok (.ldc2_w 148, 3) := by decide +kernel
theorem dX7_said_14 : decode cX7_said 14 = .ok (.invokestatic 88, 3) := by decide +kernel
theorem dX7_said_17 : decode cX7_said 17 = .ok (.ifCond .ne 5, 3) := by decide +kernel
theorem dX7_said_20 : decode cX7_said 20 = .ok (.iconst (-1), 1) := by decide +kernel
theorem dX7_said_21 : decode cX7_said 21 = .ok (.ireturn, 1) := by decide +kernel
theorem dX7_said_22 : decode cX7_said 22 = .ok (.aload_n 0, 1) := by decide +kernel
theorem dX7_said_23 : decode cX7_said 23 = .ok (.invokevirtual 145, 3) := by decide +kernel
theorem dX7_said_26 : decode cX7_said 26 = .ok (.iload_n 2, 1) := by decide +kernel
theorem dX7_said_27 : decode cX7_said 27 = .ok (.aload_n 0, 1) := by decide +kernel
theorem dX7_said_28 : decode cX7_said 28 = .ok (.getfield 64, 3) := by decide +kernel
theorem dX7_said_31 : decode cX7_said 31 = .ok (.iload_n 1, 1) := by decide +kernel
theorem dX7_said_32 : decode cX7_said 32 = .ok (.iaload, 1) := by decide +kernel
theorem dX7_said_33 : decode cX7_said 33 = .ok (.if_icmp .ge 17, 3) := by decide +kernel
theorem dX7_said_36 : decode cX7_said 36 = .ok (.aload_n 0, 1) := by decide +kernel
theorem dX7_said_37 : decode cX7_said 37 = .ok (.getfield 61, 3) := by decide +kernel
theorem dX7_said_40 : decode cX7_said 40 = .ok (.bipush 20, 2) := by decide +kernel
theorem dX7_said_42 : decode cX7_said 42 = .ok (.iload_n 1, 1) := by decide +kernel
theorem dX7_said_43 : decode cX7_said 43 = .ok (.imul, 1) := by decide +kernel
theorem dX7_said_44 : decode cX7_said 44 = .ok (.iload_n 2, 1) := by decide +kernel
theorem dX7_said_45 : decode cX7_said 45 = .ok (.iadd, 1) := by decide +kernel
theorem dX7_said_46 : decode cX7_said 46 = .ok (.iaload, 1) := by decide +kernel
theorem dX7_said_47 : decode cX7_said 47 = .ok (.goto 5, 3) := by decide +kernel
theorem dX7_said_50 : decode cX7_said 50 = .ok (.bipush (-4), 2) := by decide +kernel
theorem dX7_said_52 : decode cX7_said 52 = .ok (.ireturn, 1) := by decide +kernel
theorem dX7_doDeed_0 : decode cX7_doDeed 0 = .ok (.aload_n 0, 1) := by decide +kernel
theorem dX7_doDeed_1 : decode cX7_doDeed 1 = .ok (.getfield 34, 3) := by decide +kernel
theorem dX7_doDeed_4 : decode cX7_doDeed 4 = .ok (.iload_n 2, 1) := by decide +kernel
theorem dX7_doDeed_5 : decode cX7_doDeed 5 = .ok (.iaload, 1) := by decide +kernel
theorem dX7_doDeed_6 : decode cX7_doDeed 6 = .ok (.iconst 1, 1) := by decide +kernel
theorem dX7_doDeed_7 : decode cX7_doDeed 7 = .ok (.if_icmp .ne 29, 3) := by decide +kernel
theorem dX7_doDeed_10 : decode cX7_doDeed 10 = .ok (.aload_n 0, 1) := by decide +kernel
theorem dX7_doDeed_11 : decode cX7_doDeed 11 = .ok (.getfield 46, 3) := by decide +kernel
theorem dX7_doDeed_14 : decode cX7_doDeed 14 = .ok (.iload_n 1, 1) := by decide +kernel
theorem dX7_doDeed_15 : decode cX7_doDeed 15 = .ok (.dup2, 1) := by decide +kernel
theorem dX7_doDeed_16 : decode cX7_doDeed 16 = .ok (.iaload, 1) := by decide +kernel
theorem dX7_doDeed_17 : decode cX7_doDeed 17 = .ok (.aload_n 0, 1) := by decide +kernel
theorem dX7_doDeed_18 : decode cX7_doDeed 18 = .ok (.getfield 46, 3) := by decide +kernel
theorem dX7_doDeed_21 : decode cX7_doDeed 21 = .ok (.iload_n 1, 1) := by decide +kernel
theorem dX7_doDeed_22 : decode cX7_doDeed 22 = .ok (.iaload, 1) := by decide +kernel
theorem dX7_doDeed_23 : decode cX7_doDeed 23 = .ok (.iconst 1, 1) := by decide +kernel
theorem dX7_doDeed_24 : decode cX7_doDeed 24 = .ok (.if_icmp .le 7, 3) := by decide +kernel
theorem dX7_doDeed_27 : decode cX7_doDeed 27 = .ok (.iconst 1, 1) := by decide +kernel
theorem dX7_doDeed_28 : decode cX7_doDeed 28 = .ok (.goto 4, 3) := by decide +kernel
theorem dX7_doDeed_31 : decode cX7_doDeed 31 = .ok (.iconst 0, 1) := by decide +kernel
theorem dX7_doDeed_32 : decode cX7_doDeed 32 = .ok (.isub, 1) := by decide +kernel
theorem dX7_doDeed_33 : decode cX7_doDeed 33 = .ok (.iastore, 1) := by decide +kernel
theorem dX7_doDeed_34 : decode cX7_doDeed 34 = .ok (.iconst 1, 1) := by decide +kernel
theorem dX7_doDeed_35 : decode cX7_doDeed 35 = .ok (.ireturn, 1) := by decide +kernel
theorem dX7_doDeed_36 : decode cX7_doDeed 36 = .ok (.aload_n 0, 1) := by decide +kernel
theorem dX7_doDeed_37 : decode cX7_doDeed 37 = .ok (.getfield 46, 3) := by decide +kernel
theorem dX7_doDeed_40 : decode cX7_doDeed 40 = .ok (.iload_n 1, 1) := by decide +kernel
theorem dX7_doDeed_41 : decode cX7_doDeed 41 = .ok (.iaload, 1) := by decide +kernel
theorem dX7_doDeed_42 : decode cX7_doDeed 42 = .ok (.bipush 10, 2) := by decide +kernel
theorem dX7_doDeed_44 : decode cX7_doDeed 44 = .ok (.if_icmp .ne 5, 3) := by decide +kernel
theorem dX7_doDeed_47 : decode cX7_doDeed 47 = .ok (.iconst 0, 1) := by decide +kernel
theorem dX7_doDeed_48 : decode cX7_doDeed 48 = .ok (.ireturn, 1) := by decide +kernel
theorem dX7_doDeed_49 : decode cX7_doDeed 49 = .ok (.aload_n 0, 1) := by decide +kernel
theorem dX7_doDeed_50 : decode cX7_doDeed 50 = .ok (.getfield 49, 3) := by decide +kernel
theorem dX7_doDeed_53 : decode cX7_doDeed 53 = .ok (.bipush 10, 2) := by decide +kernel
theorem dX7_doDeed_55 : decode cX7_doDeed 55 = .ok (.iload_n 1, 1) := by decide +kernel
theorem dX7_doDeed_56 : decode cX7_doDeed 56 = .ok (.imul, 1) := by decide +kernel
theorem dX7_doDeed_57 : decode cX7_doDeed 57 = .ok (.aload_n 0, 1) := by decide +kernel
theorem dX7_doDeed_58 : decode cX7_doDeed 58 = .ok (.getfield 46, 3) := by decide +kernel
theorem dX7_doDeed_61 : decode cX7_doDeed 61 = .ok (.iload_n 1, 1) := by decide +kernel
theorem dX7_doDeed_62 : decode cX7_doDeed 62 = .ok (.iaload, 1) := by decide +kernel
theorem dX7_doDeed_63 : decode cX7_doDeed 63 = .ok (.iadd, 1) := by decide +kernel
theorem dX7_doDeed_64 : decode cX7_doDeed 64 = .ok (.aload_n 0, 1) := by decide +kernel
theorem dX7_doDeed_65 : decode cX7_doDeed 65 = .ok (.getfield 31, 3) := by decide +kernel
theorem dX7_doDeed_68 : decode cX7_doDeed 68 = .ok (.iload_n 2, 1) := by decide +kernel
theorem dX7_doDeed_69 : decode cX7_doDeed 69 = .ok (.iaload, 1) := by decide +kernel
theorem dX7_doDeed_70 : decode cX7_doDeed 70 = .ok (.iastore, 1) := by decide +kernel
theorem dX7_doDeed_71 : decode cX7_doDeed 71 = .ok (.aload_n 0, 1) := by decide +kernel
theorem dX7_doDeed_72 : decode cX7_doDeed 72 = .ok (.getfield 46, 3) := by decide +kernel
theorem dX7_doDeed_75 : decode cX7_doDeed 75 = .ok (.iload_n 1, 1) := by decide +kernel
theorem dX7_doDeed_76 : decode cX7_doDeed 76 = .ok (.dup2, 1) := by decide +kernel
theorem dX7_doDeed_77 : decode cX7_doDeed 77 = .ok (.iaload, 1) := by decide +kernel
theorem dX7_doDeed_78 : decode cX7_doDeed 78 = .ok (.iconst 1, 1) := by decide +kernel
theorem dX7_doDeed_79 : decode cX7_doDeed 79 = .ok (.iadd, 1) := by decide +kernel
theorem dX7_doDeed_80 : decode cX7_doDeed 80 = .ok (.iastore, 1) := by decide +kernel
theorem dX7_doDeed_81 : decode cX7_doDeed 81 = .ok (.iconst 1, 1) := by decide +kernel
theorem dX7_doDeed_82 : decode cX7_doDeed 82 = .ok (.ireturn, 1) := by decide +kernel
theorem dX7_deed_0 : decode cX7_deed 0 = .ok (.aload_n 0, 1) := by decide +kernel
theorem dX7_deed_1 : decode cX7_deed 1 = .ok (.iload_n 1, 1) := by decide +kernel
theorem dX7_deed_2 : decode cX7_deed 2 = .ok (.invokevirtual 139, 3) := by decide +kernel
theorem dX7_deed_5 : decode cX7_deed 5 = .ok (.ifCond .eq 15, 3) := by decide +kernel
theorem dX7_deed_8 : decode cX7_deed 8 = .ok (.iload_n 2, 1) := by decide +kernel
theorem dX7_deed_9 : decode cX7_deed 9 = .ok (.i2l, 1) := by decide +kernel
theorem dX7_deed_10 : decode cX7_deed 10 = .ok (.lconst 0, 1) := by decide +kernel
theorem dX7_deed_11 : decode cX7_deed 11 = .ok (.ldc2_w 143, 3) := by decide +kernel
theorem dX7_deed_14 : decode cX7_deed 14 = .ok (.invokestatic 88, 3) := by decide +kernel
theorem dX7_deed_17 : decode cX7_deed 17 = .ok (.ifCond .ne 5, 3) := by decide +kernel
theorem dX7_deed_20 : decode cX7_deed 20 = .ok (.iconst (-1), 1) := by decide +kernel
theorem dX7_deed_21 : decode cX7_deed 21 = .ok (.ireturn, 1) := by decide +kernel
theorem dX7_deed_22 : decode cX7_deed 22 = .ok (.aload_n 0, 1) := by decide +kernel
theorem dX7_deed_23 : decode cX7_deed 23 = .ok (.iload_n 1, 1) := by decide +kernel
theorem dX7_deed_24 : decode cX7_deed 24 = .ok (.iload_n 2, 1) := by decide +kernel
theorem dX7_deed_25 : decode cX7_deed 25 = .ok (.invokevirtual 150, 3) := by decide +kernel
theorem dX7_deed_28 : decode cX7_deed 28 = .ok (.ifCond .eq 12, 3) := by decide +kernel
theorem dX7_deed_31 : decode cX7_deed 31 = .ok (.aload_n 0, 1) := by decide +kernel
theorem dX7_deed_32 : decode cX7_deed 32 = .ok (.getfield 46, 3) := by decide +kernel
theorem dX7_deed_35 : decode cX7_deed 35 = .ok (.iload_n 1, 1) := by decide +kernel
theorem dX7_deed_36 : decode cX7_deed 36 = .ok (.iaload, 1) := by decide +kernel
theorem dX7_deed_37 : decode cX7_deed 37 = .ok (.goto 5, 3) := by decide +kernel
theorem dX7_deed_40 : decode cX7_deed 40 = .ok (.bipush (-3), 2) := by decide +kernel
theorem dX7_deed_42 : decode cX7_deed 42 = .ok (.ireturn, 1) := by decide +kernel
theorem dX7_kind_0 : decode cX7_kind 0 = .ok (.aload_n 0, 1) := by decide +kernel
theorem dX7_kind_1 : decode cX7_kind 1 = .ok (.iload_n 1, 1) := by decide +kernel
theorem dX7_kind_2 : decode cX7_kind 2 = .ok (.invokevirtual 139, 3) := by decide +kernel
theorem dX7_kind_5 : decode cX7_kind 5 = .ok (.ifCond .eq 15, 3) := by decide +kernel
theorem dX7_kind_8 : decode cX7_kind 8 = .ok (.iload_n 2, 1) := by decide +kernel
theorem dX7_kind_9 : decode cX7_kind 9 = .ok (.i2l, 1) := by decide +kernel
theorem dX7_kind_10 : decode cX7_kind 10 = .ok (.lconst 0, 1) := by decide +kernel
theorem dX7_kind_11 : decode cX7_kind 11 = .ok (.ldc2_w 109, 3) := by decide +kernel
theorem dX7_kind_14 : decode cX7_kind 14 = .ok (.invokestatic 88, 3) := by decide +kernel
theorem dX7_kind_17 : decode cX7_kind 17 = .ok (.ifCond .ne 5, 3) := by decide +kernel
theorem dX7_kind_20 : decode cX7_kind 20 = .ok (.iconst (-1), 1) := by decide +kernel
theorem dX7_kind_21 : decode cX7_kind 21 = .ok (.ireturn, 1) := by decide +kernel
theorem dX7_kind_22 : decode cX7_kind 22 = .ok (.aload_n 0, 1) := by decide +kernel
theorem dX7_kind_23 : decode cX7_kind 23 = .ok (.getfield 43, 3) := by decide +kernel
theorem dX7_kind_26 : decode cX7_kind 26 = .ok (.iload_n 1, 1) := by decide +kernel
theorem dX7_kind_27 : decode cX7_kind 27 = .ok (.iaload, 1) := by decide +kernel
theorem dX7_kind_28 : decode cX7_kind 28 = .ok (.istore_n 3, 1) := by decide +kernel
theorem dX7_kind_29 : decode cX7_kind 29 = .ok (.aload_n 0, 1) := by decide +kernel
theorem dX7_kind_30 : decode cX7_kind 30 = .ok (.getfield 43, 3) := by decide +kernel
theorem dX7_kind_33 : decode cX7_kind 33 = .ok (.iload_n 1, 1) := by decide +kernel
theorem dX7_kind_34 : decode cX7_kind 34 = .ok (.iload_n 2, 1) := by decide +kernel
theorem dX7_kind_35 : decode cX7_kind 35 = .ok (.iastore, 1) := by decide +kernel
theorem dX7_kind_36 : decode cX7_kind 36 = .ok (.iload_n 3, 1) := by decide +kernel
theorem dX7_kind_37 : decode cX7_kind 37 = .ok (.ireturn, 1) := by decide +kernel
theorem dX7_cryOf_0 : decode cX7_cryOf 0 = .ok (.iconst 0, 1) := by decide +kernel
theorem dX7_cryOf_1 : decode cX7_cryOf 1 = .ok (.istore_n 2, 1) := by decide +kernel
theorem dX7_cryOf_2 : decode cX7_cryOf 2 = .ok (.iconst 0, 1) := by decide +kernel
theorem dX7_cryOf_3 : decode cX7_cryOf 3 = .ok (.istore_n 3, 1) := by decide +kernel
theorem dX7_cryOf_4 : decode cX7_cryOf 4 = .ok (.iconst 0, 1) := by decide +kernel
theorem dX7_cryOf_5 : decode cX7_cryOf 5 = .ok (.istore 4, 2) := by decide +kernel
theorem dX7_cryOf_7 : decode cX7_cryOf 7 = .ok (.iload 4, 2) := by decide +kernel
theorem dX7_cryOf_9 : decode cX7_cryOf 9 = .ok (.aload_n 0, 1) := by decide +kernel
theorem dX7_cryOf_10 : decode cX7_cryOf 10 = .ok (.getfield 13, 3) := by decide +kernel
theorem dX7_cryOf_13 : decode cX7_cryOf 13 = .ok (.iconst 0, 1) := by decide +kernel
theorem dX7_cryOf_14 : decode cX7_cryOf 14 = .ok (.iaload, 1) := by decide +kernel
theorem dX7_cryOf_15 : decode cX7_cryOf 15 = .ok (.if_icmp .ge 55, 3) := by decide +kernel
theorem dX7_cryOf_18 : decode cX7_cryOf 18 = .ok (.iload_n 2, 1) := by decide +kernel
theorem dX7_cryOf_19 : decode cX7_cryOf 19 = .ok (.iload_n 1, 1) := by decide +kernel
theorem dX7_cryOf_20 : decode cX7_cryOf 20 = .ok (.iload 4, 2) := by decide +kernel
theorem dX7_cryOf_22 : decode cX7_cryOf 22 = .ok (.invokestatic 153, 3) := by decide +kernel
theorem dX7_cryOf_25 : decode cX7_cryOf 25 = .ok (.ifCond .eq 13, 3) := by decide +kernel
theorem dX7_cryOf_28 : decode cX7_cryOf 28 = .ok (.aload_n 0, 1) := by decide +kernel
theorem dX7_cryOf_29 : decode cX7_cryOf 29 = .ok (.getfield 67, 3) := by decide +kernel
theorem dX7_cryOf_32 : decode cX7_cryOf 32 = .ok (.iload 4, 2) := by decide +kernel
theorem dX7_cryOf_34 : decode cX7_cryOf 34 = .ok (.iaload, 1) := by decide +kernel
theorem dX7_cryOf_35 : decode cX7_cryOf 35 = .ok (.goto 4, 3) := by decide +kernel
theorem dX7_cryOf_38 : decode cX7_cryOf 38 = .ok (.iconst 0, 1) := by decide +kernel
theorem dX7_cryOf_39 : decode cX7_cryOf 39 = .ok (.iadd, 1) := by decide +kernel
theorem dX7_cryOf_40 : decode cX7_cryOf 40 = .ok (.istore_n 2, 1) := by decide +kernel
theorem dX7_cryOf_41 : decode cX7_cryOf 41 = .ok (.iload_n 3, 1) := by decide +kernel
theorem dX7_cryOf_42 : decode cX7_cryOf 42 = .ok (.iload_n 1, 1) := by decide +kernel
theorem dX7_cryOf_43 : decode cX7_cryOf 43 = .ok (.iload 4, 2) := by decide +kernel
theorem dX7_cryOf_45 : decode cX7_cryOf 45 = .ok (.invokestatic 153, 3) := by decide +kernel
theorem dX7_cryOf_48 : decode cX7_cryOf 48 = .ok (.ifCond .eq 13, 3) := by decide +kernel
theorem dX7_cryOf_51 : decode cX7_cryOf 51 = .ok (.aload_n 0, 1) := by decide +kernel
theorem dX7_cryOf_52 : decode cX7_cryOf 52 = .ok (.getfield 64, 3) := by decide +kernel
theorem dX7_cryOf_55 : decode cX7_cryOf 55 = .ok (.iload 4, 2) := by decide +kernel
theorem dX7_cryOf_57 : decode cX7_cryOf 57 = .ok (.iaload, 1) := by decide +kernel
theorem dX7_cryOf_58 : decode cX7_cryOf 58 = .ok (.goto 4, 3) := by decide +kernel
theorem dX7_cryOf_61 : decode cX7_cryOf 61 = .ok (.iconst 0, 1) := by decide +kernel
theorem dX7_cryOf_62 : decode cX7_cryOf 62 = .ok (.iadd, 1) := by decide +kernel
theorem dX7_cryOf_63 : decode cX7_cryOf 63 = .ok (.istore_n 3, 1) := by decide +kernel
theorem dX7_cryOf_64 : decode cX7_cryOf 64 = .ok (.iinc 4 1, 3) := by decide +kernel
theorem dX7_cryOf_67 : decode cX7_cryOf 67 = .ok (.goto (-60), 3) := by decide +kernel
theorem dX7_cryOf_70 : decode cX7_cryOf 70 = .ok (.iload_n 2, 1) := by decide +kernel
theorem dX7_cryOf_71 : decode cX7_cryOf 71 = .ok (.iload_n 3, 1) := by decide +kernel
theorem dX7_cryOf_72 : decode cX7_cryOf 72 = .ok (.ifCond .ne 7, 3) := by decide +kernel
theorem dX7_cryOf_75 : decode cX7_cryOf 75 = .ok (.iconst 0, 1) := by decide +kernel
theorem dX7_cryOf_76 : decode cX7_cryOf 76 = .ok (.goto 29, 3) := by decide +kernel
theorem dX7_cryOf_79 : decode cX7_cryOf 79 = .ok (.aload_n 0, 1) := by decide +kernel
theorem dX7_cryOf_80 : decode cX7_cryOf 80 = .ok (.getfield 40, 3) := by decide +kernel
theorem dX7_cryOf_83 : decode cX7_cryOf 83 = .ok (.iconst 1, 1) := by decide +kernel
theorem dX7_cryOf_84 : decode cX7_cryOf 84 = .ok (.iaload, 1) := by decide +kernel
theorem dX7_cryOf_85 : decode cX7_cryOf 85 = .ok (.iload_n 3, 1) := by decide +kernel
theorem dX7_cryOf_86 : decode cX7_cryOf 86 = .ok (.aload_n 0, 1) := by decide +kernel
theorem dX7_cryOf_87 : decode cX7_cryOf 87 = .ok (.getfield 40, 3) := by decide +kernel
theorem dX7_cryOf_90 : decode cX7_cryOf 90 = .ok (.iconst 0, 1) := by decide +kernel
theorem dX7_cryOf_91 : decode cX7_cryOf 91 = .ok (.iaload, 1) := by decide +kernel
theorem dX7_cryOf_92 : decode cX7_cryOf 92 = .ok (.iadd, 1) := by decide +kernel
theorem dX7_cryOf_93 : decode cX7_cryOf 93 = .ok (.iconst 1, 1) := by decide +kernel
theorem dX7_cryOf_94 : decode cX7_cryOf 94 = .ok (.isub, 1) := by decide +kernel
theorem dX7_cryOf_95 : decode cX7_cryOf 95 = .ok (.aload_n 0, 1) := by decide +kernel
theorem dX7_cryOf_96 : decode cX7_cryOf 96 = .ok (.getfield 40, 3) := by decide +kernel
theorem dX7_cryOf_99 : decode cX7_cryOf 99 = .ok (.iconst 0, 1) := by decide +kernel
theorem dX7_cryOf_100 : decode cX7_cryOf 100 = .ok (.iaload, 1) := by decide +kernel
theorem dX7_cryOf_101 : decode cX7_cryOf 101 = .ok (.idiv, 1) := by decide +kernel
theorem dX7_cryOf_102 : decode cX7_cryOf 102 = .ok (.iconst 1, 1) := by decide +kernel
theorem dX7_cryOf_103 : decode cX7_cryOf 103 = .ok (.isub, 1) := by decide +kernel
theorem dX7_cryOf_104 : decode cX7_cryOf 104 = .ok (.imul, 1) := by decide +kernel
theorem dX7_cryOf_105 : decode cX7_cryOf 105 = .ok (.iadd, 1) := by decide +kernel
theorem dX7_cryOf_106 : decode cX7_cryOf 106 = .ok (.ireturn, 1) := by decide +kernel
theorem dX7_cry_0 : decode cX7_cry 0 = .ok (.aload_n 0, 1) := by decide +kernel
theorem dX7_cry_1 : decode cX7_cry 1 = .ok (.iload_n 1, 1) := by decide +kernel
theorem dX7_cry_2 : decode cX7_cry 2 = .ok (.invokevirtual 156, 3) := by decide +kernel
theorem dX7_cry_5 : decode cX7_cry 5 = .ok (.ifCond .ne 5, 3) := by decide +kernel
theorem dX7_cry_8 : decode cX7_cry 8 = .ok (.iconst (-1), 1) := by decide +kernel
theorem dX7_cry_9 : decode cX7_cry 9 = .ok (.ireturn, 1) := by decide +kernel
theorem dX7_cry_10 : decode cX7_cry 10 = .ok (.aload_n 0, 1) := by decide +kernel
theorem dX7_cry_11 : decode cX7_cry 11 = .ok (.invokevirtual 145, 3) := by decide +kernel
theorem dX7_cry_14 : decode cX7_cry 14 = .ok (.aload_n 0, 1) := by decide +kernel
theorem dX7_cry_15 : decode cX7_cry 15 = .ok (.iload_n 1, 1) := by decide +kernel
theorem dX7_cry_16 : decode cX7_cry 16 = .ok (.invokevirtual 159, 3) := by decide +kernel
theorem dX7_cry_19 : decode cX7_cry 19 = .ok (.ireturn, 1) := by decide +kernel
theorem dX7_isInTime_0 : decode cX7_isInTime 0 = .ok (.aload_n 0, 1) := by decide +kernel
theorem dX7_isInTime_1 : decode cX7_isInTime 1 = .ok (.iload_n 1, 1) := by decide +kernel
theorem dX7_isInTime_2 : decode cX7_isInTime 2 = .ok (.invokevirtual 159, 3) := by decide +kernel
theorem dX7_isInTime_5 : decode cX7_isInTime 5 = .ok (.aload_n 0, 1) := by decide +kernel
theorem dX7_isInTime_6 : decode cX7_isInTime 6 = .ok (.getfield 25, 3) := by decide +kernel
theorem dX7_isInTime_9 : decode cX7_isInTime 9 = .ok (.iload_n 2, 1) := by decide +kernel
theorem dX7_isInTime_10 : decode cX7_isInTime 10 = .ok (.iaload, 1) := by decide +kernel
theorem dX7_isInTime_11 : decode cX7_isInTime 11 = .ok (.iadd, 1) := by decide +kernel
theorem dX7_isInTime_12 : decode cX7_isInTime 12 = .ok (.iload_n 3, 1) := by decide +kernel
theorem dX7_isInTime_13 : decode cX7_isInTime 13 = .ok (.if_icmp .gt 7, 3) := by decide +kernel
theorem dX7_isInTime_16 : decode cX7_isInTime 16 = .ok (.iconst 1, 1) := by decide +kernel
theorem dX7_isInTime_17 : decode cX7_isInTime 17 = .ok (.goto 4, 3) := by decide +kernel
theorem dX7_isInTime_20 : decode cX7_isInTime 20 = .ok (.iconst 0, 1) := by decide +kernel
theorem dX7_isInTime_21 : decode cX7_isInTime 21 = .ok (.ireturn, 1) := by decide +kernel
theorem dX7_bits_0 : decode cX7_bits 0 = .ok (.iconst 0, 1) := by decide +kernel
theorem dX7_bits_1 : decode cX7_bits 1 = .ok (.istore_n 1, 1) := by decide +kernel
theorem dX7_bits_2 : decode cX7_bits 2 = .ok (.iload_n 0, 1) := by decide +kernel
theorem dX7_bits_3 : decode cX7_bits 3 = .ok (.istore_n 2, 1) := by decide +kernel
theorem dX7_bits_4 : decode cX7_bits 4 = .ok (.iload_n 2, 1) := by decide +kernel
theorem dX7_bits_5 : decode cX7_bits 5 = .ok (.ifCond .eq 15, 3) := by decide +kernel
theorem dX7_bits_8 : decode cX7_bits 8 = .ok (.iinc 1 1, 3) := by decide +kernel
theorem dX7_bits_11 : decode cX7_bits 11 = .ok (.iload_n 2, 1) := by decide +kernel
theorem dX7_bits_12 : decode cX7_bits 12 = .ok (.iload_n 2, 1) := by decide +kernel
theorem dX7_bits_13 : decode cX7_bits 13 = .ok (.iconst 1, 1) := by decide +kernel
theorem dX7_bits_14 : decode cX7_bits 14 = .ok (.isub, 1) := by decide +kernel
theorem dX7_bits_15 : decode cX7_bits 15 = .ok (.iand, 1) := by decide +kernel
theorem dX7_bits_16 : decode cX7_bits 16 = .ok (.istore_n 2, 1) := by decide +kernel
theorem dX7_bits_17 : decode cX7_bits 17 = .ok (.goto (-13), 3) := by decide +kernel
theorem dX7_bits_20 : decode cX7_bits 20 = .ok (.iload_n 1, 1) := by decide +kernel
theorem dX7_bits_21 : decode cX7_bits 21 = .ok (.ireturn, 1) := by decide +kernel
theorem dX7_layWarning_0 : decode cX7_layWarning 0 = .ok (.aload_n 0, 1) := by decide +kernel
theorem dX7_layWarning_1 : decode cX7_layWarning 1 = .ok (.invokevirtual 145, 3) := by decide +kernel
theorem dX7_layWarning_4 : decode cX7_layWarning 4 = .ok (.iconst 0, 1) := by decide +kernel
theorem dX7_layWarning_5 : decode cX7_layWarning 5 = .ok (.istore_n 2, 1) := by decide +kernel
theorem dX7_layWarning_6 : decode cX7_layWarning 6 = .ok (.aload_n 0, 1) := by decide +kernel
theorem dX7_layWarning_7 : decode cX7_layWarning 7 = .ok (.getfield 70, 3) := by decide +kernel
theorem dX7_layWarning_10 : decode cX7_layWarning 10 = .ok (.iconst 0, 1) := by decide +kernel
theorem dX7_layWarning_11 : decode cX7_layWarning 11 = .ok (.iconst 1, 1) := by decide +kernel
theorem dX7_layWarning_12 : decode cX7_layWarning 12 = .ok (.iastore, 1) := by decide +kernel
theorem dX7_layWarning_13 : decode cX7_layWarning 13 = .ok (.iconst 1, 1) := by decide +kernel
theorem dX7_layWarning_14 : decode cX7_layWarning 14 = .ok (.istore_n 3, 1) := by decide +kernel
theorem dX7_layWarning_15 : decode cX7_layWarning 15 = .ok (.iload_n 3, 1) := by decide +kernel
theorem dX7_layWarning_16 : decode cX7_layWarning 16 = .ok (.iconst 1, 1) := by decide +kernel
theorem dX7_layWarning_17 : decode cX7_layWarning 17 = .ok (.aload_n 0, 1) := by decide +kernel
theorem dX7_layWarning_18 : decode cX7_layWarning 18 = .ok (.getfield 13, 3) := by decide +kernel
theorem dX7_layWarning_21 : decode cX7_layWarning 21 = .ok (.iconst 0, 1) := by decide +kernel
theorem dX7_layWarning_22 : decode cX7_layWarning 22 = .ok (.iaload, 1) := by decide +kernel
theorem dX7_layWarning_23 : decode cX7_layWarning 23 = .ok (.ishl, 1) := by decide +kernel
theorem dX7_layWarning_24 : decode cX7_layWarning 24 = .ok (.if_icmp .ge 114, 3) := by decide +kernel
theorem dX7_layWarning_27 : decode cX7_layWarning 27 = .ok (.aload_n 0, 1) := by decide +kernel
theorem dX7_layWarning_28 : decode cX7_layWarning 28 = .ok (.getfield 70, 3) := by decide +kernel
theorem dX7_layWarning_31 : decode cX7_layWarning 31 = .ok (.iload_n 3, 1) := by decide +kernel
theorem dX7_layWarning_32 : decode cX7_layWarning 32 = .ok (.iconst 0, 1) := by decide +kernel
theorem dX7_layWarning_33 : decode cX7_layWarning 33 = .ok (.iastore, 1) := by decide +kernel
theorem dX7_layWarning_34 : decode cX7_layWarning 34 = .ok (.iconst 0, 1) := by decide +kernel
theorem dX7_layWarning_35 : decode cX7_layWarning 35 = .ok (.istore 4, 2) := by decide +kernel
theorem dX7_layWarning_37 : decode cX7_layWarning 37 = .ok (.iload 4, 2) := by decide +kernel
theorem dX7_layWarning_39 : decode cX7_layWarning 39 = .ok (.aload_n 0, 1) := by decide +kernel
theorem dX7_layWarning_40 : decode cX7_layWarning 40 = .ok (.getfield 13, 3) := by decide +kernel
theorem dX7_layWarning_43 : decode cX7_layWarning 43 = .ok (.iconst 0, 1) := by decide +kernel
theorem dX7_layWarning_44 : decode cX7_layWarning 44 = .ok (.iaload, 1) := by decide +kernel
theorem dX7_layWarning_45 : decode cX7_layWarning 45 = .ok (.if_icmp .ge 60, 3) := by decide +kernel
theorem dX7_layWarning_48 : decode cX7_layWarning 48 = .ok (.aload_n 0, 1) := by decide +kernel
theorem dX7_layWarning_49 : decode cX7_layWarning 49 = .ok (.getfield 70, 3) := by decide +kernel
theorem dX7_layWarning_52 : decode cX7_layWarning 52 = .ok (.iload_n 3, 1) := by decide +kernel
theorem dX7_layWarning_53 : decode cX7_layWarning 53 = .ok (.dup2, 1) := by decide +kernel
theorem dX7_layWarning_54 : decode cX7_layWarning 54 = .ok (.iaload, 1) := by decide +kernel
theorem dX7_layWarning_55 : decode cX7_layWarning 55 = .ok (.iload_n 3, 1) := by decide +kernel
theorem dX7_layWarning_56 : decode cX7_layWarning 56 = .ok (.iload 4, 2) := by decide +kernel
theorem dX7_layWarning_58 : decode cX7_layWarning 58 = .ok (.invokestatic 153, 3) := by decide +kernel
theorem dX7_layWarning_61 : decode cX7_layWarning 61 = .ok (.ifCond .eq 35, 3) := by decide +kernel
theorem dX7_layWarning_64 : decode cX7_layWarning 64 = .ok (.aload_n 0, 1) := by decide +kernel
theorem dX7_layWarning_65 : decode cX7_layWarning 65 = .ok (.getfield 70, 3) := by decide +kernel
theorem dX7_layWarning_68 : decode cX7_layWarning 68 = .ok (.iload_n 3, 1) := by decide +kernel
theorem dX7_layWarning_69 : decode cX7_layWarning 69 = .ok (.iconst 1, 1) := by decide +kernel
theorem dX7_layWarning_70 : decode cX7_layWarning 70 = .ok (.iload 4, 2) := by decide +kernel
theorem dX7_layWarning_72 : decode cX7_layWarning 72 = .ok (.ishl, 1) := by decide +kernel
theorem dX7_layWarning_73 : decode cX7_layWarning 73 = .ok (.iconst (-1), 1) := by decide +kernel
theorem dX7_layWarning_74 : decode cX7_layWarning 74 = .ok (.ixor, 1) := by decide +kernel
theorem dX7_layWarning_75 : decode cX7_layWarning 75 = .ok (.iand, 1) := by decide +kernel
theorem dX7_layWarning_76 : decode cX7_layWarning 76 = .ok (.iaload, 1) := by decide +kernel
theorem dX7_layWarning_77 : decode cX7_layWarning 77 = .ok (.iconst 1, 1) := by decide +kernel
theorem dX7_layWarning_78 : decode cX7_layWarning 78 = .ok (.if_icmp .ne 18, 3) := by decide +kernel
theorem dX7_layWarning_81 : decode cX7_layWarning 81 = .ok (.aload_n 0, 1) := by decide +kernel
theorem dX7_layWarning_82 : decode cX7_layWarning 82 = .ok (.iload_n 3, 1) := by decide +kernel
theorem dX7_layWarning_83 : decode cX7_layWarning 83 = .ok (.iload 4, 2) := by decide +kernel
theorem dX7_layWarning_85 : decode cX7_layWarning 85 = .ok (.iload_n 1, 1) := by decide +kernel
theorem dX7_layWarning_86 : decode cX7_layWarning 86 = .ok (.invokevirtual 162, 3) := by decide +kernel
theorem dX7_layWarning_89 : decode cX7_layWarning 89 = .ok (.ifCond .eq 7, 3) := by decide +kernel
theorem dX7_layWarning_92 : decode cX7_layWarning 92 = .ok (.iconst 1, 1) := by decide +kernel
theorem dX7_layWarning_93 : decode cX7_layWarning 93 = .ok (.goto 4, 3) := by decide +kernel
theorem dX7_layWarning_96 : decode cX7_layWarning 96 = .ok (.iconst 0, 1) := by decide +kernel
theorem dX7_layWarning_97 : decode cX7_layWarning 97 = .ok (.ior, 1) := by decide +kernel
theorem dX7_layWarning_98 : decode cX7_layWarning 98 = .ok (.iastore, 1) := by decide +kernel
theorem dX7_layWarning_99 : decode cX7_layWarning 99 = .ok (.iinc 4 1, 3) := by decide +kernel
theorem dX7_layWarning_102 : decode cX7_layWarning 102 = .ok (.goto (-65), 3) := by decide +kernel
theorem dX7_layWarning_105 : decode cX7_layWarning 105 = .ok (.aload_n 0, 1) := by decide +kernel
theorem dX7_layWarning_106 : decode cX7_layWarning 106 = .ok (.getfield 70, 3) := by decide +kernel
theorem dX7_layWarning_109 : decode cX7_layWarning 109 = .ok (.iload_n 3, 1) := by decide +kernel
theorem dX7_layWarning_110 : decode cX7_layWarning 110 = .ok (.iaload, 1) := by decide +kernel
theorem dX7_layWarning_111 : decode cX7_layWarning 111 = .ok (.iconst 1, 1) := by decide +kernel
theorem dX7_layWarning_112 : decode cX7_layWarning 112 = .ok (.if_icmp .ne 18, 3) := by decide +kernel
theorem dX7_layWarning_115 : decode cX7_layWarning 115 = .ok (.iload_n 3, 1) := by decide +kernel
theorem dX7_layWarning_116 : decode cX7_layWarning 116 = .ok (.invokestatic 166, 3) := by decide +kernel
theorem dX7_layWarning_119 : decode cX7_layWarning 119 = .ok (.iload_n 2, 1) := by decide +kernel
theorem dX7_layWarning_120 : decode cX7_layWarning 120 = .ok (.invokestatic 166, 3) := by decide +kernel
theorem dX7_layWarning_123 : decode cX7_layWarning 123 = .ok (.if_icmp .le 7, 3) := by decide +kernel
theorem dX7_layWarning_126 : decode cX7_layWarning 126 = .ok (.iload_n 3, 1) := by decide +kernel
theorem dX7_layWarning_127 : decode cX7_layWarning 127 = .ok (.goto 4, 3) := by decide +kernel
theorem dX7_layWarning_130 : decode cX7_layWarning 130 = .ok (.iload_n 2, 1) := by decide +kernel
theorem dX7_layWarning_131 : decode cX7_layWarning 131 = .ok (.istore_n 2, 1) := by decide +kernel
theorem dX7_layWarning_132 : decode cX7_layWarning 132 = .ok (.iinc 3 1, 3) := by decide +kernel
theorem dX7_layWarning_135 : decode cX7_layWarning 135 = .ok (.goto (-120), 3) := by decide +kernel
theorem dX7_layWarning_138 : decode cX7_layWarning 138 = .ok (.iload_n 2, 1) := by decide +kernel
theorem dX7_layWarning_139 : decode cX7_layWarning 139 = .ok (.ireturn, 1) := by decide +kernel
theorem dX7_warn_0 : decode cX7_warn 0 = .ok (.iload_n 1, 1) := by decide +kernel
theorem dX7_warn_1 : decode cX7_warn 1 = .ok (.i2l, 1) := by decide +kernel
theorem dX7_warn_2 : decode cX7_warn 2 = .ok (.lconst 0, 1) := by decide +kernel
theorem dX7_warn_3 : decode cX7_warn 3 = .ok (.ldc2_w 169, 3) := by decide +kernel
theorem dX7_warn_6 : decode cX7_warn 6 = .ok (.invokestatic 88, 3) := by decide +kernel
theorem dX7_warn_9 : decode cX7_warn 9 = .ok (.ifCond .eq 13, 3) := by decide +kernel
theorem dX7_warn_12 : decode cX7_warn 12 = .ok (.iload_n 2, 1) := by decide +kernel
theorem dX7_warn_13 : decode cX7_warn 13 = .ok (.i2l, 1) := by decide +kernel
theorem dX7_warn_14 : decode cX7_warn 14 = .ok (.lconst 0, 1) := by decide +kernel
theorem dX7_warn_15 : decode cX7_warn 15 = .ok (.lconst 1, 1) := by decide +kernel
theorem dX7_warn_16 : decode cX7_warn 16 = .ok (.invokestatic 88, 3) := by decide +kernel
theorem dX7_warn_19 : decode cX7_warn 19 = .ok (.ifCond .ne 5, 3) := by decide +kernel
theorem dX7_warn_22 : decode cX7_warn 22 = .ok (.iconst (-1), 1) := by decide +kernel
theorem dX7_warn_23 : decode cX7_warn 23 = .ok (.ireturn, 1) := by decide +kernel
theorem dX7_warn_24 : decode cX7_warn 24 = .ok (.aload_n 0, 1) := by decide +kernel
theorem dX7_warn_25 : decode cX7_warn 25 = .ok (.iload_n 1, 1) := by decide +kernel
theorem dX7_warn_26 : decode cX7_warn 26 = .ok (.invokevirtual 171, 3) := by decide +kernel
theorem dX7_warn_29 : decode cX7_warn 29 = .ok (.istore_n 3, 1) := by decide +kernel
theorem dX7_warn_30 : decode cX7_warn 30 = .ok (.iload_n 2, 1) := by decide +kernel
theorem dX7_warn_31 : decode cX7_warn 31 = .ok (.ifCond .ne 10, 3) := by decide +kernel
theorem dX7_warn_34 : decode cX7_warn 34 = .ok (.iload_n 3, 1) := by decide +kernel
theorem dX7_warn_35 : decode cX7_warn 35 = .ok (.invokestatic 166, 3) := by decide +kernel
theorem dX7_warn_38 : decode cX7_warn 38 = .ok (.goto 4, 3) := by decide +kernel
theorem dX7_warn_41 : decode cX7_warn 41 = .ok (.iload_n 3, 1) := by decide +kernel
theorem dX7_warn_42 : decode cX7_warn 42 = .ok (.ireturn, 1) := by decide +kernel
theorem dX7_layFollows_0 : decode cX7_layFollows 0 = .ok (.iload_n 1, 1) := by decide +kernel
theorem dX7_layFollows_1 : decode cX7_layFollows 1 = .ok (.istore_n 3, 1) := by decide +kernel
theorem dX7_layFollows_2 : decode cX7_layFollows 2 = .ok (.iload_n 3, 1) := by decide +kernel
theorem dX7_layFollows_3 : decode cX7_layFollows 3 = .ok (.ifCond .lt 128, 3) := by decide +kernel
theorem dX7_layFollows_6 : decode cX7_layFollows 6 = .ok (.aload_n 0, 1) := by decide +kernel
theorem dX7_layFollows_7 : decode cX7_layFollows 7 = .ok (.getfield 73, 3) := by decide +kernel
theorem dX7_layFollows_10 : decode cX7_layFollows 10 = .ok (.iload_n 3, 1) := by decide +kernel
theorem dX7_layFollows_11 : decode cX7_layFollows 11 = .ok (.iload_n 3, 1) := by decide +kernel
theorem dX7_layFollows_12 : decode cX7_layFollows 12 = .ok (.iload_n 1, 1) := by decide +kernel
theorem dX7_layFollows_13 : decode cX7_layFollows 13 = .ok (.if_icmp .ne 7, 3) := by decide +kernel
theorem dX7_layFollows_16 : decode cX7_layFollows 16 = .ok (.iconst 1, 1) := by decide +kernel
theorem dX7_layFollows_17 : decode cX7_layFollows 17 = .ok (.goto 4, 3) := by decide +kernel
theorem dX7_layFollows_20 : decode cX7_layFollows 20 = .ok (.iconst 0, 1) := by decide +kernel
theorem dX7_layFollows_21 : decode cX7_layFollows 21 = .ok (.iastore, 1) := by decide +kernel
theorem dX7_layFollows_22 : decode cX7_layFollows 22 = .ok (.iconst 0, 1) := by decide +kernel
theorem dX7_layFollows_23 : decode cX7_layFollows 23 = .ok (.istore 4, 2) := by decide +kernel
theorem dX7_layFollows_25 : decode cX7_layFollows 25 = .ok (.iload 4, 2) := by decide +kernel
theorem dX7_layFollows_27 : decode cX7_layFollows 27 = .ok (.aload_n 0, 1) := by decide +kernel
theorem dX7_layFollows_28 : decode cX7_layFollows 28 = .ok (.getfield 13, 3) := by decide +kernel
theorem dX7_layFollows_31 : decode cX7_layFollows 31 = .ok (.iconst 0, 1) := by decide +kernel
theorem dX7_layFollows_32 : decode cX7_layFollows 32 = .ok (.iaload, 1) := by decide +kernel
theorem dX7_layFollows_33 : decode cX7_layFollows 33 = .ok (.if_icmp .ge 92, 3) := by decide +kernel
theorem dX7_layFollows_36 : decode cX7_layFollows 36 = .ok (.iload_n 1, 1) := by decide +kernel
theorem dX7_layFollows_37 : decode cX7_layFollows 37 = .ok (.iload 4, 2) := by decide +kernel
theorem dX7_layFollows_39 : decode cX7_layFollows 39 = .ok (.invokestatic 153, 3) := by decide +kernel
theorem dX7_layFollows_42 : decode cX7_layFollows 42 = .ok (.ifCond .eq 24, 3) := by decide +kernel
theorem dX7_layFollows_45 : decode cX7_layFollows 45 = .ok (.iload_n 3, 1) := by decide +kernel
theorem dX7_layFollows_46 : decode cX7_layFollows 46 = .ok (.iload 4, 2) := by decide +kernel
theorem dX7_layFollows_48 : decode cX7_layFollows 48 = .ok (.invokestatic 153, 3) := by decide +kernel
theorem dX7_layFollows_51 : decode cX7_layFollows 51 = .ok (.ifCond .ne 15, 3) := by decide +kernel
theorem dX7_layFollows_54 : decode cX7_layFollows 54 = .ok (.iload_n 3, 1) := by decide +kernel
theorem dX7_layFollows_55 : decode cX7_layFollows 55 = .ok (.iload_n 1, 1) := by decide +kernel
theorem dX7_layFollows_56 : decode cX7_layFollows 56 = .ok (.iconst (-1), 1) := by decide +kernel
theorem dX7_layFollows_57 : decode cX7_layFollows 57 = .ok (.ixor, 1) := by decide +kernel
theorem dX7_layFollows_58 : decode cX7_layFollows 58 = .ok (.iand, 1) := by decide +kernel
theorem dX7_layFollows_59 : decode cX7_layFollows 59 = .ok (.ifCond .ne 7, 3) := by decide +kernel
theorem dX7_layFollows_62 : decode cX7_layFollows 62 = .ok (.iconst 1, 1) := by decide +kernel
theorem dX7_layFollows_63 : decode cX7_layFollows 63 = .ok (.goto 4, 3) := by decide +kernel
theorem dX7_layFollows_66 : decode cX7_layFollows 66 = .ok (.iconst 0, 1) := by decide +kernel
theorem dX7_layFollows_67 : decode cX7_layFollows 67 = .ok (.istore 5, 2) := by decide +kernel
theorem dX7_layFollows_69 : decode cX7_layFollows 69 = .ok (.aload_n 0, 1) := by decide +kernel
theorem dX7_layFollows_70 : decode cX7_layFollows 70 = .ok (.getfield 73, 3) := by decide +kernel
theorem dX7_layFollows_73 : decode cX7_layFollows 73 = .ok (.iload_n 3, 1) := by decide +kernel
theorem dX7_layFollows_74 : decode cX7_layFollows 74 = .ok (.dup2, 1) := by decide +kernel
theorem dX7_layFollows_75 : decode cX7_layFollows 75 = .ok (.iaload, 1) := by decide +kernel
theorem dX7_layFollows_76 : decode cX7_layFollows 76 = .ok (.iload 5, 2) := by decide +kernel
theorem dX7_layFollows_78 : decode cX7_layFollows 78 = .ok (.ifCond .eq 38, 3) := by decide +kernel
theorem dX7_layFollows_81 : decode cX7_layFollows 81 = .ok (.aload_n 0, 1) := by decide +kernel
theorem dX7_layFollows_82 : decode cX7_layFollows 82 = .ok (.iload_n 3, 1) := by decide +kernel
theorem dX7_layFollows_83 : decode cX7_layFollows 83 = .ok (.iconst 1, 1) := by decide +kernel
theorem dX7_layFollows_84 : decode cX7_layFollows 84 = .ok (.iload 4, 2) := by decide +kernel
theorem dX7_layFollows_86 : decode cX7_layFollows 86 = .ok (.ishl, 1) := by decide +kernel
theorem dX7_layFollows_87 : decode cX7_layFollows 87 = .ok (.ior, 1) := by decide +kernel
theorem dX7_layFollows_88 : decode cX7_layFollows 88 = .ok (.iload 4, 2) := by decide +kernel
theorem dX7_layFollows_90 : decode cX7_layFollows 90 = .ok (.iload_n 2, 1) := by decide +kernel
theorem dX7_layFollows_91 : decode cX7_layFollows 91 = .ok (.invokevirtual 162, 3) := by decide +kernel
theorem dX7_layFollows_94 : decode cX7_layFollows 94 = .ok (.ifCond .eq 22, 3) := by decide +kernel
theorem dX7_layFollows_97 : decode cX7_layFollows 97 = .ok (.aload_n 0, 1) := by decide +kernel
theorem dX7_layFollows_98 : decode cX7_layFollows 98 = .ok (.getfield 73, 3) := by decide +kernel
theorem dX7_layFollows_101 : decode cX7_layFollows 101 = .ok (.iload_n 3, 1) := by decide +kernel
theorem dX7_layFollows_102 : decode cX7_layFollows 102 = .ok (.iconst 1, 1) := by decide +kernel
theorem dX7_layFollows_103 : decode cX7_layFollows 103 = .ok (.iload 4, 2) := by decide +kernel
theorem dX7_layFollows_105 : decode cX7_layFollows 105 = .ok (.ishl, 1) := by decide +kernel
theorem dX7_layFollows_106 : decode cX7_layFollows 106 = .ok (.ior, 1) := by decide +kernel
theorem dX7_layFollows_107 : decode cX7_layFollows 107 = .ok (.iaload, 1) := by decide +kernel
theorem dX7_layFollows_108 : decode cX7_layFollows 108 = .ok (.iconst 1, 1) := by decide +kernel
theorem dX7_layFollows_109 : decode cX7_layFollows 109 = .ok (.if_icmp .ne 7, 3) := by decide +kernel
theorem dX7_layFollows_112 : decode cX7_layFollows 112 = .ok (.iconst 1, 1) := by decide +kernel
theorem dX7_layFollows_113 : decode cX7_layFollows 113 = .ok (.goto 4, 3) := by decide +kernel
theorem dX7_layFollows_116 : decode cX7_layFollows 116 = .ok (.iconst 0, 1) := by decide +kernel
theorem dX7_layFollows_117 : decode cX7_layFollows 117 = .ok (.ior, 1) := by decide +kernel
theorem dX7_layFollows_118 : decode cX7_layFollows 118 = .ok (.iastore, 1) := by decide +kernel
theorem dX7_layFollows_119 : decode cX7_layFollows 119 = .ok (.iinc 4 1, 3) := by decide +kernel
theorem dX7_layFollows_122 : decode cX7_layFollows 122 = .ok (.goto (-97), 3) := by decide +kernel
theorem dX7_layFollows_125 : decode cX7_layFollows 125 = .ok (.iinc 3 (-1), 3) := by decide +kernel
theorem dX7_layFollows_128 : decode cX7_layFollows 128 = .ok (.goto (-126), 3) := by decide +kernel
theorem dX7_layFollows_131 : decode cX7_layFollows 131 = .ok (.return_, 1) := by decide +kernel
theorem dX7_called_0 : decode cX7_called 0 = .ok (.iload_n 1, 1) := by decide +kernel
theorem dX7_called_1 : decode cX7_called 1 = .ok (.i2l, 1) := by decide +kernel
theorem dX7_called_2 : decode cX7_called 2 = .ok (.lconst 0, 1) := by decide +kernel
theorem dX7_called_3 : decode cX7_called 3 = .ok (.ldc2_w 169, 3) := by decide +kernel
theorem dX7_called_6 : decode cX7_called 6 = .ok (.invokestatic 88, 3) := by decide +kernel
theorem dX7_called_9 : decode cX7_called 9 = .ok (.ifCond .eq 15, 3) := by decide +kernel
theorem dX7_called_12 : decode cX7_called 12 = .ok (.iload_n 2, 1) := by decide +kernel
theorem dX7_called_13 : decode cX7_called 13 = .ok (.i2l, 1) := by decide +kernel
theorem dX7_called_14 : decode cX7_called 14 = .ok (.lconst 0, 1) := by decide +kernel
theorem dX7_called_15 : decode cX7_called 15 = .ok (.ldc2_w 174, 3) := by decide +kernel
theorem dX7_called_18 : decode cX7_called 18 = .ok (.invokestatic 88, 3) := by decide +kernel
theorem dX7_called_21 : decode cX7_called 21 = .ok (.ifCond .ne 5, 3) := by decide +kernel
theorem dX7_called_24 : decode cX7_called 24 = .ok (.iconst (-1), 1) := by decide +kernel
theorem dX7_called_25 : decode cX7_called 25 = .ok (.ireturn, 1) := by decide +kernel
theorem dX7_called_26 : decode cX7_called 26 = .ok (.aload_n 0, 1) := by decide +kernel
theorem dX7_called_27 : decode cX7_called 27 = .ok (.iload_n 1, 1) := by decide +kernel
theorem dX7_called_28 : decode cX7_called 28 = .ok (.invokevirtual 171, 3) := by decide +kernel
theorem dX7_called_31 : decode cX7_called 31 = .ok (.istore_n 3, 1) := by decide +kernel
theorem dX7_called_32 : decode cX7_called 32 = .ok (.iload_n 2, 1) := by decide +kernel
theorem dX7_called_33 : decode cX7_called 33 = .ok (.iload_n 3, 1) := by decide +kernel
theorem dX7_called_34 : decode cX7_called 34 = .ok (.invokestatic 166, 3) := by decide +kernel
theorem dX7_called_37 : decode cX7_called 37 = .ok (.if_icmp .lt 6, 3) := by decide +kernel
theorem dX7_called_40 : decode cX7_called 40 = .ok (.bipush (-4), 2) := by decide +kernel
theorem dX7_called_42 : decode cX7_called 42 = .ok (.ireturn, 1) := by decide +kernel
theorem dX7_called_43 : decode cX7_called 43 = .ok (.aload_n 0, 1) := by decide +kernel
theorem dX7_called_44 : decode cX7_called 44 = .ok (.iload_n 3, 1) := by decide +kernel
theorem dX7_called_45 : decode cX7_called 45 = .ok (.iload_n 1, 1) := by decide +kernel
theorem dX7_called_46 : decode cX7_called 46 = .ok (.invokevirtual 176, 3) := by decide +kernel
theorem dX7_called_49 : decode cX7_called 49 = .ok (.iconst 0, 1) := by decide +kernel
theorem dX7_called_50 : decode cX7_called 50 = .ok (.istore 4, 2) := by decide +kernel
theorem dX7_called_52 : decode cX7_called 52 = .ok (.iconst 0, 1) := by decide +kernel
theorem dX7_called_53 : decode cX7_called 53 = .ok (.istore 5, 2) := by decide +kernel
theorem dX7_called_55 : decode cX7_called 55 = .ok (.iconst 0, 1) := by decide +kernel
theorem dX7_called_56 : decode cX7_called 56 = .ok (.istore 6, 2) := by decide +kernel
theorem dX7_called_58 : decode cX7_called 58 = .ok (.iload 6, 2) := by decide +kernel
theorem dX7_called_60 : decode cX7_called 60 = .ok (.iload_n 2, 1) := by decide +kernel
theorem dX7_called_61 : decode cX7_called 61 = .ok (.if_icmp .gt 78, 3) := by decide +kernel
theorem dX7_called_64 : decode cX7_called 64 = .ok (.iconst 0, 1) := by decide +kernel
theorem dX7_called_65 : decode cX7_called 65 = .ok (.istore 5, 2) := by decide +kernel
theorem dX7_called_67 : decode cX7_called 67 = .ok (.iload_n 3, 1) := by decide +kernel
theorem dX7_called_68 : decode cX7_called 68 = .ok (.iload 5, 2) := by decide +kernel
theorem dX7_called_70 : decode cX7_called 70 = .ok (.invokestatic 153, 3) := by decide +kernel
theorem dX7_called_73 : decode cX7_called 73 = .ok (.ifCond .eq 45, 3) := by decide +kernel
theorem dX7_called_76 : decode cX7_called 76 = .ok (.iload 4, 2) := by decide +kernel
theorem dX7_called_78 : decode cX7_called 78 = .ok (.iload 5, 2) := by decide +kernel
theorem dX7_called_80 : decode cX7_called 80 = .ok (.invokestatic 153, 3) := by decide +kernel
theorem dX7_called_83 : decode cX7_called 83 = .ok (.ifCond .ne 35, 3) := by decide +kernel
theorem dX7_called_86 : decode cX7_called 86 = .ok (.aload_n 0, 1) := by decide +kernel
theorem dX7_called_87 : decode cX7_called 87 = .ok (.iload 4, 2) := by decide +kernel
theorem dX7_called_89 : decode cX7_called 89 = .ok (.iconst 1, 1) := by decide +kernel
theorem dX7_called_90 : decode cX7_called 90 = .ok (.iload 5, 2) := by decide +kernel
theorem dX7_called_92 : decode cX7_called 92 = .ok (.ishl, 1) := by decide +kernel
theorem dX7_called_93 : decode cX7_called 93 = .ok (.ior, 1) := by decide +kernel
theorem dX7_called_94 : decode cX7_called 94 = .ok (.iload 5, 2) := by decide +kernel
theorem dX7_called_96 : decode cX7_called 96 = .ok (.iload_n 1, 1) := by decide +kernel
theorem dX7_called_97 : decode cX7_called 97 = .ok (.invokevirtual 162, 3) := by decide +kernel
theorem dX7_called_100 : decode cX7_called 100 = .ok (.ifCond .eq 18, 3) := by decide +kernel
theorem dX7_called_103 : decode cX7_called 103 = .ok (.aload_n 0, 1) := by decide +kernel
theorem dX7_called_104 : decode cX7_called 104 = .ok (.getfield 73, 3) := by decide +kernel
theorem dX7_called_107 : decode cX7_called 107 = .ok (.iload 4, 2) := by decide +kernel
theorem dX7_called_109 : decode cX7_called 109 = .ok (.iconst 1, 1) := by decide +kernel
theorem dX7_called_110 : decode cX7_called 110 = .ok (.iload 5, 2) := by decide +kernel
theorem dX7_called_112 : decode cX7_called 112 = .ok (.ishl, 1) := by decide +kernel
theorem dX7_called_113 : decode cX7_called 113 = .ok (.ior, 1) := by decide +kernel
theorem dX7_called_114 : decode cX7_called 114 = .ok (.iaload, 1) := by decide +kernel
theorem dX7_called_115 : decode cX7_called 115 = .ok (.ifCond .ne 9, 3) := by decide +kernel
theorem dX7_called_118 : decode cX7_called 118 = .ok (.iinc 5 1, 3) := by decide +kernel
theorem dX7_called_121 : decode cX7_called 121 = .ok (.goto (-54), 3) := by decide +kernel
theorem dX7_called_124 : decode cX7_called 124 = .ok (.iload 4, 2) := by decide +kernel
theorem dX7_called_126 : decode cX7_called 126 = .ok (.iconst 1, 1) := by decide +kernel
theorem dX7_called_127 : decode cX7_called 127 = .ok (.iload 5, 2) := by decide +kernel
theorem dX7_called_129 : decode cX7_called 129 = .ok (.ishl, 1) := by decide +kernel
theorem dX7_called_130 : decode cX7_called 130 = .ok (.ior, 1) := by decide +kernel
theorem dX7_called_131 : decode cX7_called 131 = .ok (.istore 4, 2) := by decide +kernel
theorem dX7_called_133 : decode cX7_called 133 = .ok (.iinc 6 1, 3) := by decide +kernel
theorem dX7_called_136 : decode cX7_called 136 = .ok (.goto (-78), 3) := by decide +kernel
theorem dX7_called_139 : decode cX7_called 139 = .ok (.iload 5, 2) := by decide +kernel
theorem dX7_called_141 : decode cX7_called 141 = .ok (.ireturn, 1) := by decide +kernel
theorem dX7_breathsFor_0 : decode cX7_breathsFor 0 = .ok (.aload_n 0, 1) := by decide +kernel
theorem dX7_breathsFor_1 : decode cX7_breathsFor 1 = .ok (.getfield 64, 3) := by decide +kernel
theorem dX7_breathsFor_4 : decode cX7_breathsFor 4 = .ok (.iload_n 1, 1) := by decide +kernel
theorem dX7_breathsFor_5 : decode cX7_breathsFor 5 = .ok (.iaload, 1) := by decide +kernel
theorem dX7_breathsFor_6 : decode cX7_breathsFor 6 = .ok (.iload_n 2, 1) := by decide +kernel
theorem dX7_breathsFor_7 : decode cX7_breathsFor 7 = .ok (.if_icmp .gt 7, 3) := by decide +kernel
theorem dX7_breathsFor_10 : decode cX7_breathsFor 10 = .ok (.iconst 0, 1) := by decide +kernel
theorem dX7_breathsFor_11 : decode cX7_breathsFor 11 = .ok (.goto 25, 3) := by decide +kernel
theorem dX7_breathsFor_14 : decode cX7_breathsFor 14 = .ok (.aload_n 0, 1) := by decide +kernel
theorem dX7_breathsFor_15 : decode cX7_breathsFor 15 = .ok (.getfield 64, 3) := by decide +kernel
theorem dX7_breathsFor_18 : decode cX7_breathsFor 18 = .ok (.iload_n 1, 1) := by decide +kernel
theorem dX7_breathsFor_19 : decode cX7_breathsFor 19 = .ok (.iaload, 1) := by decide +kernel
theorem dX7_breathsFor_20 : decode cX7_breathsFor 20 = .ok (.aload_n 0, 1) := by decide +kernel
theorem dX7_breathsFor_21 : decode cX7_breathsFor 21 = .ok (.getfield 40, 3) := by decide +kernel
theorem dX7_breathsFor_24 : decode cX7_breathsFor 24 = .ok (.iconst 0, 1) := by decide +kernel
theorem dX7_breathsFor_25 : decode cX7_breathsFor 25 = .ok (.iaload, 1) := by decide +kernel
theorem dX7_breathsFor_26 : decode cX7_breathsFor 26 = .ok (.iadd, 1) := by decide +kernel
theorem dX7_breathsFor_27 : decode cX7_breathsFor 27 = .ok (.iconst 1, 1) := by decide +kernel
theorem dX7_breathsFor_28 : decode cX7_breathsFor 28 = .ok (.isub, 1) := by decide +kernel
theorem dX7_breathsFor_29 : decode cX7_breathsFor 29 = .ok (.aload_n 0, 1) := by decide +kernel
theorem dX7_breathsFor_30 : decode cX7_breathsFor 30 = .ok (.getfield 40, 3) := by decide +kernel
theorem dX7_breathsFor_33 : decode cX7_breathsFor 33 = .ok (.iconst 0, 1) := by decide +kernel
theorem dX7_breathsFor_34 : decode cX7_breathsFor 34 = .ok (.iaload, 1) := by decide +kernel
theorem dX7_breathsFor_35 : decode cX7_breathsFor 35 = .ok (.idiv, 1) := by decide +kernel
theorem dX7_breathsFor_36 : decode cX7_breathsFor 36 = .ok (.ireturn, 1) := by decide +kernel
theorem dX7_roomBehind_0 : decode cX7_roomBehind 0 = .ok (.aload_n 0, 1) := by decide +kernel
theorem dX7_roomBehind_1 : decode cX7_roomBehind 1 = .ok (.getfield 64, 3) := by decide +kernel
theorem dX7_roomBehind_4 : decode cX7_roomBehind 4 = .ok (.iload_n 1, 1) := by decide +kernel
theorem dX7_roomBehind_5 : decode cX7_roomBehind 5 = .ok (.iaload, 1) := by decide +kernel
theorem dX7_roomBehind_6 : decode cX7_roomBehind 6 = .ok (.iload_n 2, 1) := by decide +kernel
theorem dX7_roomBehind_7 : decode cX7_roomBehind 7 = .ok (.if_icmp .gt 14, 3) := by decide +kernel
theorem dX7_roomBehind_10 : decode cX7_roomBehind 10 = .ok (.iload_n 2, 1) := by decide +kernel
theorem dX7_roomBehind_11 : decode cX7_roomBehind 11 = .ok (.aload_n 0, 1) := by decide +kernel
theorem dX7_roomBehind_12 : decode cX7_roomBehind 12 = .ok (.getfield 64, 3) := by decide +kernel
theorem dX7_roomBehind_15 : decode cX7_roomBehind 15 = .ok (.iload_n 1, 1) := by decide +kernel
theorem dX7_roomBehind_16 : decode cX7_roomBehind 16 = .ok (.iaload, 1) := by decide +kernel
theorem dX7_roomBehind_17 : decode cX7_roomBehind 17 = .ok (.isub, 1) := by decide +kernel
theorem dX7_roomBehind_18 : decode cX7_roomBehind 18 = .ok (.goto 35, 3) := by decide +kernel
theorem dX7_roomBehind_21 : decode cX7_roomBehind 21 = .ok (.aload_n 0, 1) := by decide +kernel
theorem dX7_roomBehind_22 : decode cX7_roomBehind 22 = .ok (.getfield 64, 3) := by decide +kernel
theorem dX7_roomBehind_25 : decode cX7_roomBehind 25 = .ok (.iload_n 1, 1) := by decide +kernel
theorem dX7_roomBehind_26 : decode cX7_roomBehind 26 = .ok (.iaload, 1) := by decide +kernel
theorem dX7_roomBehind_27 : decode cX7_roomBehind 27 = .ok (.aload_n 0, 1) := by decide +kernel
theorem dX7_roomBehind_28 : decode cX7_roomBehind 28 = .ok (.getfield 40, 3) := by decide +kernel
theorem dX7_roomBehind_31 : decode cX7_roomBehind 31 = .ok (.iconst 0, 1) := by decide +kernel
theorem dX7_roomBehind_32 : decode cX7_roomBehind 32 = .ok (.iaload, 1) := by decide +kernel
theorem dX7_roomBehind_33 : decode cX7_roomBehind 33 = .ok (.if_icmp .gt 19, 3) := by decide +kernel
theorem dX7_roomBehind_36 : decode cX7_roomBehind 36 = .ok (.aload_n 0, 1) := by decide +kernel
theorem dX7_roomBehind_37 : decode cX7_roomBehind 37 = .ok (.getfield 40, 3) := by decide +kernel
theorem dX7_roomBehind_40 : decode cX7_roomBehind 40 = .ok (.iconst 0, 1) := by decide +kernel
theorem dX7_roomBehind_41 : decode cX7_roomBehind 41 = .ok (.iaload, 1) := by decide +kernel
theorem dX7_roomBehind_42 : decode cX7_roomBehind 42 = .ok (.aload_n 0, 1) := by decide +kernel
theorem dX7_roomBehind_43 : decode cX7_roomBehind 43 = .ok (.getfield 64, 3) := by decide +kernel
theorem dX7_roomBehind_46 : decode cX7_roomBehind 46 = .ok (.iload_n 1, 1) := by decide +kernel
theorem dX7_roomBehind_47 : decode cX7_roomBehind 47 = .ok (.iaload, 1) := by decide +kernel
theorem dX7_roomBehind_48 : decode cX7_roomBehind 48 = .ok (.isub, 1) := by decide +kernel
theorem dX7_roomBehind_49 : decode cX7_roomBehind 49 = .ok (.goto 4, 3) := by decide +kernel
theorem dX7_roomBehind_52 : decode cX7_roomBehind 52 = .ok (.iconst 0, 1) := by decide +kernel
theorem dX7_roomBehind_53 : decode cX7_roomBehind 53 = .ok (.ireturn, 1) := by decide +kernel
theorem dX7_mayGreet_0 : decode cX7_mayGreet 0 = .ok (.iload_n 1, 1) := by decide +kernel
theorem dX7_mayGreet_1 : decode cX7_mayGreet 1 = .ok (.iload_n 3, 1) := by decide +kernel
theorem dX7_mayGreet_2 : decode cX7_mayGreet 2 = .ok (.invokestatic 153, 3) := by decide +kernel
theorem dX7_mayGreet_5 : decode cX7_mayGreet 5 = .ok (.ifCond .eq 15, 3) := by decide +kernel
theorem dX7_mayGreet_8 : decode cX7_mayGreet 8 = .ok (.iload_n 2, 1) := by decide +kernel
theorem dX7_mayGreet_9 : decode cX7_mayGreet 9 = .ok (.iload_n 3, 1) := by decide +kernel
theorem dX7_mayGreet_10 : decode cX7_mayGreet 10 = .ok (.invokestatic 153, 3) := by decide +kernel
theorem dX7_mayGreet_13 : decode cX7_mayGreet 13 = .ok (.ifCond .ne 7, 3) := by decide +kernel
theorem dX7_mayGreet_16 : decode cX7_mayGreet 16 = .ok (.iconst 1, 1) := by decide +kernel
theorem dX7_mayGreet_17 : decode cX7_mayGreet 17 = .ok (.goto 4, 3) := by decide +kernel
theorem dX7_mayGreet_20 : decode cX7_mayGreet 20 = .ok (.iconst 0, 1) := by decide +kernel
theorem dX7_mayGreet_21 : decode cX7_mayGreet 21 = .ok (.istore 4, 2) := by decide +kernel
theorem dX7_mayGreet_23 : decode cX7_mayGreet 23 = .ok (.iconst 0, 1) := by decide +kernel
theorem dX7_mayGreet_24 : decode cX7_mayGreet 24 = .ok (.istore 5, 2) := by decide +kernel
theorem dX7_mayGreet_26 : decode cX7_mayGreet 26 = .ok (.iload 5, 2) := by decide +kernel
theorem dX7_mayGreet_28 : decode cX7_mayGreet 28 = .ok (.aload_n 0, 1) := by decide +kernel
theorem dX7_mayGreet_29 : decode cX7_mayGreet 29 = .ok (.getfield 13, 3) := by decide +kernel
theorem dX7_mayGreet_32 : decode cX7_mayGreet 32 = .ok (.iconst 0, 1) := by decide +kernel
theorem dX7_mayGreet_33 : decode cX7_mayGreet 33 = .ok (.iaload, 1) := by decide +kernel
theorem dX7_mayGreet_34 : decode cX7_mayGreet 34 = .ok (.if_icmp .ge 55, 3) := by decide +kernel
theorem dX7_mayGreet_37 : decode cX7_mayGreet 37 = .ok (.iload 4, 2) := by decide +kernel
theorem dX7_mayGreet_39 : decode cX7_mayGreet 39 = .ok (.ifCond .eq 41, 3) := by decide +kernel
theorem dX7_mayGreet_42 : decode cX7_mayGreet 42 = .ok (.iload_n 1, 1) := by decide +kernel
theorem dX7_mayGreet_43 : decode cX7_mayGreet 43 = .ok (.iload 5, 2) := by decide +kernel
theorem dX7_mayGreet_45 : decode cX7_mayGreet 45 = .ok (.invokestatic 153, 3) := by decide +kernel
theorem dX7_mayGreet_48 : decode cX7_mayGreet 48 = .ok (.ifCond .eq 28, 3) := by decide +kernel
theorem dX7_mayGreet_51 : decode cX7_mayGreet 51 = .ok (.iload_n 2, 1) := by decide +kernel
theorem dX7_mayGreet_52 : decode cX7_mayGreet 52 = .ok (.iload 5, 2) := by decide +kernel
theorem dX7_mayGreet_54 : decode cX7_mayGreet 54 = .ok (.invokestatic 153, 3) := by decide +kernel
theorem dX7_mayGreet_57 : decode cX7_mayGreet 57 = .ok (.ifCond .ne 19, 3) := by decide +kernel
theorem dX7_mayGreet_60 : decode cX7_mayGreet 60 = .ok (.aload_n 0, 1) := by decide +kernel
theorem dX7_mayGreet_61 : decode cX7_mayGreet 61 = .ok (.getfield 28, 3) := by decide +kernel
theorem dX7_mayGreet_64 : decode cX7_mayGreet 64 = .ok (.iload 5, 2) := by decide +kernel
theorem dX7_mayGreet_66 : decode cX7_mayGreet 66 = .ok (.iaload, 1) := by decide +kernel
theorem dX7_mayGreet_67 : decode cX7_mayGreet 67 = .ok (.aload_n 0, 1) := by decide +kernel
theorem dX7_mayGreet_68 : decode cX7_mayGreet 68 = .ok (.getfield 28, 3) := by decide +kernel
theorem dX7_mayGreet_71 : decode cX7_mayGreet 71 = .ok (.iload_n 3, 1) := by decide +kernel
theorem dX7_mayGreet_72 : decode cX7_mayGreet 72 = .ok (.iaload, 1) := by decide +kernel
theorem dX7_mayGreet_73 : decode cX7_mayGreet 73 = .ok (.if_icmp .gt 7, 3) := by decide +kernel
theorem dX7_mayGreet_76 : decode cX7_mayGreet 76 = .ok (.iconst 1, 1) := by decide +kernel
theorem dX7_mayGreet_77 : decode cX7_mayGreet 77 = .ok (.goto 4, 3) := by decide +kernel
theorem dX7_mayGreet_80 : decode cX7_mayGreet 80 = .ok (.iconst 0, 1) := by decide +kernel
theorem dX7_mayGreet_81 : decode cX7_mayGreet 81 = .ok (.istore 4, 2) := by decide +kernel
theorem dX7_mayGreet_83 : decode cX7_mayGreet 83 = .ok (.iinc 5 1, 3) := by decide +kernel
theorem dX7_mayGreet_86 : decode cX7_mayGreet 86 = .ok (.goto (-60), 3) := by decide +kernel
theorem dX7_mayGreet_89 : decode cX7_mayGreet 89 = .ok (.iload 4, 2) := by decide +kernel
theorem dX7_mayGreet_91 : decode cX7_mayGreet 91 = .ok (.ireturn, 1) := by decide +kernel
theorem dX7_layNeeds_0 : decode cX7_layNeeds 0 = .ok (.iload_n 1, 1) := by decide +kernel
theorem dX7_layNeeds_1 : decode cX7_layNeeds 1 = .ok (.istore_n 2, 1) := by decide +kernel
theorem dX7_layNeeds_2 : decode cX7_layNeeds 2 = .ok (.iload_n 2, 1) := by decide +kernel
theorem dX7_layNeeds_3 : decode cX7_layNeeds 3 = .ok (.ifCond .lt 143, 3) := by decide +kernel
theorem dX7_layNeeds_6 : decode cX7_layNeeds 6 = .ok (.iconst 0, 1) := by decide +kernel
theorem dX7_layNeeds_7 : decode cX7_layNeeds 7 = .ok (.istore_n 3, 1) := by decide +kernel
theorem dX7_layNeeds_8 : decode cX7_layNeeds 8 = .ok (.iload_n 3, 1) := by decide +kernel
theorem dX7_layNeeds_9 : decode cX7_layNeeds 9 = .ok (.bipush 13, 2) := by decide +kernel
theorem dX7_layNeeds_11 : decode cX7_layNeeds 11 = .ok (.if_icmp .ge 129, 3) := by decide +kernel
theorem dX7_layNeeds_14 : decode cX7_layNeeds 14 = .ok (.iload_n 2, 1) := by decide +kernel
theorem dX7_layNeeds_15 : decode cX7_layNeeds 15 = .ok (.iload_n 1, 1) := by decide +kernel
theorem dX7_layNeeds_16 : decode cX7_layNeeds 16 = .ok (.if_icmp .ne 7, 3) := by decide +kernel
theorem dX7_layNeeds_19 : decode cX7_layNeeds 19 = .ok (.iconst 0, 1) := by decide +kernel
theorem dX7_layNeeds_20 : decode cX7_layNeeds 20 = .ok (.goto 6, 3) := by decide +kernel
theorem dX7_layNeeds_23 : decode cX7_layNeeds 23 = .ok (.sipush 999, 3) := by decide +kernel
theorem dX7_layNeeds_26 : decode cX7_layNeeds 26 = .ok (.istore 4, 2) := by decide +kernel
theorem dX7_layNeeds_28 : decode cX7_layNeeds 28 = .ok (.iconst 0, 1) := by decide +kernel
theorem dX7_layNeeds_29 : decode cX7_layNeeds 29 = .ok (.istore 5, 2) := by decide +kernel
theorem dX7_layNeeds_31 : decode cX7_layNeeds 31 = .ok (.iload 5, 2) := by decide +kernel
theorem dX7_layNeeds_33 : decode cX7_layNeeds 33 = .ok (.aload_n 0, 1) := by decide +kernel
theorem dX7_layNeeds_34 : decode cX7_layNeeds 34 = .ok (.getfield 13, 3) := by decide +kernel
theorem dX7_layNeeds_37 : decode cX7_layNeeds 37 = .ok (.iconst 0, 1) := by decide +kernel
theorem dX7_layNeeds_38 : decode cX7_layNeeds 38 = .ok (.iaload, 1) := by decide +kernel
theorem dX7_layNeeds_39 : decode cX7_layNeeds 39 = .ok (.if_icmp .ge 82, 3) := by decide +kernel
theorem dX7_layNeeds_42 : decode cX7_layNeeds 42 = .ok (.iload_n 2, 1) := by decide +kernel
theorem dX7_layNeeds_43 : decode cX7_layNeeds 43 = .ok (.iload_n 1, 1) := by decide +kernel
theorem dX7_layNeeds_44 : decode cX7_layNeeds 44 = .ok (.iconst (-1), 1) := by decide +kernel
theorem dX7_layNeeds_45 : decode cX7_layNeeds 45 = .ok (.ixor, 1) := by decide +kernel
theorem dX7_layNeeds_46 : decode cX7_layNeeds 46 = .ok (.iand, 1) := by decide +kernel
theorem dX7_layNeeds_47 : decode cX7_layNeeds 47 = .ok (.ifCond .ne 74, 3) := by decide +kernel
theorem dX7_layNeeds_50 : decode cX7_layNeeds 50 = .ok (.aload_n 0, 1) := by decide +kernel
theorem dX7_layNeeds_51 : decode cX7_layNeeds 51 = .ok (.iload_n 1, 1) := by decide +kernel
theorem dX7_layNeeds_52 : decode cX7_layNeeds 52 = .ok (.iload_n 2, 1) := by decide +kernel
theorem dX7_layNeeds_53 : decode cX7_layNeeds 53 = .ok (.iload 5, 2) := by decide +kernel
theorem dX7_layNeeds_55 : decode cX7_layNeeds 55 = .ok (.invokevirtual 180, 3) := by decide +kernel
theorem dX7_layNeeds_58 : decode cX7_layNeeds 58 = .ok (.ifCond .eq 36, 3) := by decide +kernel
theorem dX7_layNeeds_61 : decode cX7_layNeeds 61 = .ok (.aload_n 0, 1) := by decide +kernel
theorem dX7_layNeeds_62 : decode cX7_layNeeds 62 = .ok (.iload 5, 2) := by decide +kernel
theorem dX7_layNeeds_64 : decode cX7_layNeeds 64 = .ok (.iload_n 3, 1) := by decide +kernel
theorem dX7_layNeeds_65 : decode cX7_layNeeds 65 = .ok (.invokevirtual 183, 3) := by decide +kernel
theorem dX7_layNeeds_68 : decode cX7_layNeeds 68 = .ok (.aload_n 0, 1) := by decide +kernel
theorem dX7_layNeeds_69 : decode cX7_layNeeds 69 = .ok (.getfield 76, 3) := by decide +kernel
theorem dX7_layNeeds_72 : decode cX7_layNeeds 72 = .ok (.bipush 13, 2) := by decide +kernel
theorem dX7_layNeeds_74 : decode cX7_layNeeds 74 = .ok (.iload_n 2, 1) := by decide +kernel
theorem dX7_layNeeds_75 : decode cX7_layNeeds 75 = .ok (.iconst 1, 1) := by decide +kernel
theorem dX7_layNeeds_76 : decode cX7_layNeeds 76 = .ok (.iload 5, 2) := by decide +kernel
theorem dX7_layNeeds_78 : decode cX7_layNeeds 78 = .ok (.ishl, 1) := by decide +kernel
theorem dX7_layNeeds_79 : decode cX7_layNeeds 79 = .ok (.ior, 1) := by decide +kernel
theorem dX7_layNeeds_80 : decode cX7_layNeeds 80 = .ok (.imul, 1) := by decide +kernel
theorem dX7_layNeeds_81 : decode cX7_layNeeds 81 = .ok (.aload_n 0, 1) := by decide +kernel
theorem dX7_layNeeds_82 : decode cX7_layNeeds 82 = .ok (.iload 5, 2) := by decide +kernel
theorem dX7_layNeeds_84 : decode cX7_layNeeds 84 = .ok (.iload_n 3, 1) := by decide +kernel
theorem dX7_layNeeds_85 : decode cX7_layNeeds 85 = .ok (.invokevirtual 187, 3) := by decide +kernel
theorem dX7_layNeeds_88 : decode cX7_layNeeds 88 = .ok (.iadd, 1) := by decide +kernel
theorem dX7_layNeeds_89 : decode cX7_layNeeds 89 = .ok (.iaload, 1) := by decide +kernel
theorem dX7_layNeeds_90 : decode cX7_layNeeds 90 = .ok (.iadd, 1) := by decide +kernel
theorem dX7_layNeeds_91 : decode cX7_layNeeds 91 = .ok (.goto 6, 3) := by decide +kernel
theorem dX7_layNeeds_94 : decode cX7_layNeeds 94 = .ok (.sipush 999, 3) := by decide +kernel
theorem dX7_layNeeds_97 : decode cX7_layNeeds 97 = .ok (.istore 6, 2) := by decide +kernel
theorem dX7_layNeeds_99 : decode cX7_layNeeds 99 = .ok (.iload 6, 2) := by decide +kernel
theorem dX7_layNeeds_101 : decode cX7_layNeeds 101 = .ok (.iload 4, 2) := by decide +kernel
theorem dX7_layNeeds_103 : decode cX7_layNeeds 103 = .ok (.if_icmp .ge 8, 3) := by decide +kernel
theorem dX7_layNeeds_106 : decode cX7_layNeeds 106 = .ok (.iload 6, 2) := by decide +kernel
theorem dX7_layNeeds_108 : decode cX7_layNeeds 108 = .ok (.goto 5, 3) := by decide +kernel
theorem dX7_layNeeds_111 : decode cX7_layNeeds 111 = .ok (.iload 4, 2) := by decide +kernel
theorem dX7_layNeeds_113 : decode cX7_layNeeds 113 = .ok (.istore 4, 2) := by decide +kernel
theorem dX7_layNeeds_115 : decode cX7_layNeeds 115 = .ok (.iinc 5 1, 3) := by decide +kernel
theorem dX7_layNeeds_118 : decode cX7_layNeeds 118 = .ok (.goto (-87), 3) := by decide +kernel
theorem dX7_layNeeds_121 : decode cX7_layNeeds 121 = .ok (.aload_n 0, 1) := by decide +kernel
theorem dX7_layNeeds_122 : decode cX7_layNeeds 122 = .ok (.getfield 76, 3) := by decide +kernel
theorem dX7_layNeeds_125 : decode cX7_layNeeds 125 = .ok (.bipush 13, 2) := by decide +kernel
theorem dX7_layNeeds_127 : decode cX7_layNeeds 127 = .ok (.iload_n 2, 1) := by decide +kernel
theorem dX7_layNeeds_128 : decode cX7_layNeeds 128 = .ok (.imul, 1) := by decide +kernel
theorem dX7_layNeeds_129 : decode cX7_layNeeds 129 = .ok (.iload_n 3, 1) := by decide +kernel
theorem dX7_layNeeds_130 : decode cX7_layNeeds 130 = .ok (.iadd, 1) := by decide +kernel
theorem dX7_layNeeds_131 : decode cX7_layNeeds 131 = .ok (.iload 4, 2) := by decide +kernel
theorem dX7_layNeeds_133 : decode cX7_layNeeds 133 = .ok (.iastore, 1) := by decide +kernel
theorem dX7_layNeeds_134 : decode cX7_layNeeds 134 = .ok (.iinc 3 1, 3) := by decide +kernel
theorem dX7_layNeeds_137 : decode cX7_layNeeds 137 = .ok (.goto (-129), 3) := by decide +kernel
theorem dX7_layNeeds_140 : decode cX7_layNeeds 140 = .ok (.iinc 2 (-1), 3) := by decide +kernel
theorem dX7_layNeeds_143 : decode cX7_layNeeds 143 = .ok (.goto (-141), 3) := by decide +kernel
theorem dX7_layNeeds_146 : decode cX7_layNeeds 146 = .ok (.return_, 1) := by decide +kernel
theorem dX7_greet_0 : decode cX7_greet 0 = .ok (.aload_n 0, 1) := by decide +kernel
theorem dX7_greet_1 : decode cX7_greet 1 = .ok (.iload_n 1, 1) := by decide +kernel
theorem dX7_greet_2 : decode cX7_greet 2 = .ok (.invokevirtual 156, 3) := by decide +kernel
theorem dX7_greet_5 : decode cX7_greet 5 = .ok (.ifCond .eq 17, 3) := by decide +kernel
theorem dX7_greet_8 : decode cX7_greet 8 = .ok (.iload_n 2, 1) := by decide +kernel
theorem dX7_greet_9 : decode cX7_greet 9 = .ok (.i2l, 1) := by decide +kernel
theorem dX7_greet_10 : decode cX7_greet 10 = .ok (.ldc2_w 190, 3) := by decide +kernel
theorem dX7_greet_13 : decode cX7_greet 13 = .ok (.ldc2_w 174, 3) := by decide +kernel
theorem dX7_greet_16 : decode cX7_greet 16 = .ok (.invokestatic 88, 3) := by decide +kernel
theorem dX7_greet_19 : decode cX7_greet 19 = .ok (.ifCond .ne 5, 3) := by decide +kernel
theorem dX7_greet_22 : decode cX7_greet 22 = .ok (.iconst (-1), 1) := by decide +kernel
theorem dX7_greet_23 : decode cX7_greet 23 = .ok (.ireturn, 1) := by decide +kernel
theorem dX7_greet_24 : decode cX7_greet 24 = .ok (.aload_n 0, 1) := by decide +kernel
theorem dX7_greet_25 : decode cX7_greet 25 = .ok (.invokevirtual 145, 3) := by decide +kernel
theorem dX7_greet_28 : decode cX7_greet 28 = .ok (.aload_n 0, 1) := by decide +kernel
theorem dX7_greet_29 : decode cX7_greet 29 = .ok (.iload_n 1, 1) := by decide +kernel
theorem dX7_greet_30 : decode cX7_greet 30 = .ok (.invokevirtual 192, 3) := by decide +kernel
theorem dX7_greet_33 : decode cX7_greet 33 = .ok (.iload_n 2, 1) := by decide +kernel
theorem dX7_greet_34 : decode cX7_greet 34 = .ok (.ifCond .ge 10, 3) := by decide +kernel
theorem dX7_greet_37 : decode cX7_greet 37 = .ok (.aload_n 0, 1) := by decide +kernel
theorem dX7_greet_38 : decode cX7_greet 38 = .ok (.getfield 76, 3) := by decide +kernel
theorem dX7_greet_41 : decode cX7_greet 41 = .ok (.iconst 0, 1) := by decide +kernel
theorem dX7_greet_42 : decode cX7_greet 42 = .ok (.iaload, 1) := by decide +kernel
theorem dX7_greet_43 : decode cX7_greet 43 = .ok (.ireturn, 1) := by decide +kernel
theorem dX7_greet_44 : decode cX7_greet 44 = .ok (.iload_n 2, 1) := by decide +kernel
theorem dX7_greet_45 : decode cX7_greet 45 = .ok (.iload_n 1, 1) := by decide +kernel
theorem dX7_greet_46 : decode cX7_greet 46 = .ok (.invokestatic 166, 3) := by decide +kernel
theorem dX7_greet_49 : decode cX7_greet 49 = .ok (.if_icmp .lt 6, 3) := by decide +kernel
