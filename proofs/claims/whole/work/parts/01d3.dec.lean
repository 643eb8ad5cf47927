theorem dX8_spreads_70 : decode cX8_spreads 70 = .ok (.ldc 44, 2) := by decide +kernel
theorem dX8_spreads_72 : decode cX8_spreads 72 = .ok (.if_icmp .eq 73, 3) := by decide +kernel
theorem dX8_spreads_75 : decode cX8_spreads 75 = .ok (.aload_n 0, 1) := by decide +kernel
theorem dX8_spreads_76 : decode cX8_spreads 76 = .ok (.iload_n 1, 1) := by decide +kernel
theorem dX8_spreads_77 : decode cX8_spreads 77 = .ok (.iload 8, 2) := by decide +kernel
theorem dX8_spreads_79 : decode cX8_spreads 79 = .ok (.iload 7, 2) := by decide +kernel
theorem dX8_spreads_81 : decode cX8_spreads 81 = .ok (.iload 5, 2) := by decide +kernel
theorem dX8_spreads_83 : decode cX8_spreads 83 = .ok (.invokevirtual 205, 3) := by decide +kernel
theorem dX8_spreads_86 : decode cX8_spreads 86 = .ok (.ifCond .eq 59, 3) := by decide +kernel
theorem dX8_spreads_89 : decode cX8_spreads 89 = .ok (.aload_n 0, 1) := by decide +kernel
theorem dX8_spreads_90 : decode cX8_spreads 90 = .ok (.iload 8, 2) := by decide +kernel
theorem dX8_spreads_92 : decode cX8_spreads 92 = .ok (.iconst 0, 1) := by decide +kernel
theorem dX8_spreads_93 : decode cX8_spreads 93 = .ok (.invokevirtual 154, 3) := by decide +kernel
theorem dX8_spreads_96 : decode cX8_spreads 96 = .ok (.iconst 1, 1) := by decide +kernel
theorem dX8_spreads_97 : decode cX8_spreads 97 = .ok (.iconst 2, 1) := by decide +kernel
theorem dX8_spreads_98 : decode cX8_spreads 98 = .ok (.invokestatic 50, 3) := by decide +kernel
theorem dX8_spreads_101 : decode cX8_spreads 101 = .ok (.ifCond .eq 13, 3) := by decide +kernel
theorem dX8_spreads_104 : decode cX8_spreads 104 = .ok (.iload 5, 2) := by decide +kernel
theorem dX8_spreads_106 : decode cX8_spreads 106 = .ok (.iconst 1, 1) := by decide +kernel
theorem dX8_spreads_107 : decode cX8_spreads 107 = .ok (.iload 8, 2) := by decide +kernel
theorem dX8_spreads_109 : decode cX8_spreads 109 = .ok (.ishl, 1) := by decide +kernel
theorem dX8_spreads_110 : decode cX8_spreads 110 = .ok (.ixor, 1) := by decide +kernel
theorem dX8_spreads_111 : decode cX8_spreads 111 = .ok (.goto 5, 3) := by decide +kernel
theorem dX8_spreads_114 : decode cX8_spreads 114 = .ok (.iload 5, 2) := by decide +kernel
theorem dX8_spreads_116 : decode cX8_spreads 116 = .ok (.istore 10, 2) := by decide +kernel
theorem dX8_spreads_118 : decode cX8_spreads 118 = .ok (.aload_n 0, 1) := by decide +kernel
theorem dX8_spreads_119 : decode cX8_spreads 119 = .ok (.iload 9, 2) := by decide +kernel
theorem dX8_spreads_121 : decode cX8_spreads 121 = .ok (.iload 10, 2) := by decide +kernel
theorem dX8_spreads_123 : decode cX8_spreads 123 = .ok (.iload 4, 2) := by decide +kernel
theorem dX8_spreads_125 : decode cX8_spreads 125 = .ok (.invokestatic 209, 3) := by decide +kernel
theorem dX8_spreads_128 : decode cX8_spreads 128 = .ok (.aload_n 0, 1) := by decide +kernel
theorem dX8_spreads_129 : decode cX8_spreads 129 = .ok (.getfield 38, 3) := by decide +kernel
theorem dX8_spreads_132 : decode cX8_spreads 132 = .ok (.iload_n 2, 1) := by decide +kernel
theorem dX8_spreads_133 : decode cX8_spreads 133 = .ok (.iaload, 1) := by decide +kernel
theorem dX8_spreads_134 : decode cX8_spreads 134 = .ok (.aload_n 0, 1) := by decide +kernel
theorem dX8_spreads_135 : decode cX8_spreads 135 = .ok (.iload 8, 2) := by decide +kernel
theorem dX8_spreads_137 : decode cX8_spreads 137 = .ok (.iconst 3, 1) := by decide +kernel
theorem dX8_spreads_138 : decode cX8_spreads 138 = .ok (.invokevirtual 154, 3) := by decide +kernel
theorem dX8_spreads_141 : decode cX8_spreads 141 = .ok (.iadd, 1) := by decide +kernel
theorem dX8_spreads_142 : decode cX8_spreads 142 = .ok (.invokevirtual 212, 3) := by decide +kernel
theorem dX8_spreads_145 : decode cX8_spreads 145 = .ok (.iinc 8 1, 3) := by decide +kernel
theorem dX8_spreads_148 : decode cX8_spreads 148 = .ok (.goto (-101), 3) := by decide +kernel
theorem dX8_spreads_151 : decode cX8_spreads 151 = .ok (.iload_n 1, 1) := by decide +kernel
theorem dX8_spreads_152 : decode cX8_spreads 152 = .ok (.ifCond .ne 29, 3) := by decide +kernel
theorem dX8_spreads_155 : decode cX8_spreads 155 = .ok (.iload 4, 2) := by decide +kernel
theorem dX8_spreads_157 : decode cX8_spreads 157 = .ok (.bipush 6, 2) := by decide +kernel
theorem dX8_spreads_159 : decode cX8_spreads 159 = .ok (.if_icmp .ne 22, 3) := by decide +kernel
theorem dX8_spreads_162 : decode cX8_spreads 162 = .ok (.aload_n 0, 1) := by decide +kernel
theorem dX8_spreads_163 : decode cX8_spreads 163 = .ok (.iload 6, 2) := by decide +kernel
theorem dX8_spreads_165 : decode cX8_spreads 165 = .ok (.iload 5, 2) := by decide +kernel
theorem dX8_spreads_167 : decode cX8_spreads 167 = .ok (.iload 6, 2) := by decide +kernel
theorem dX8_spreads_169 : decode cX8_spreads 169 = .ok (.invokestatic 209, 3) := by decide +kernel
theorem dX8_spreads_172 : decode cX8_spreads 172 = .ok (.aload_n 0, 1) := by decide +kernel
theorem dX8_spreads_173 : decode cX8_spreads 173 = .ok (.getfield 38, 3) := by decide +kernel
theorem dX8_spreads_176 : decode cX8_spreads 176 = .ok (.iload_n 2, 1) := by decide +kernel
theorem dX8_spreads_177 : decode cX8_spreads 177 = .ok (.iaload, 1) := by decide +kernel
theorem dX8_spreads_178 : decode cX8_spreads 178 = .ok (.invokevirtual 212, 3) := by decide +kernel
theorem dX8_spreads_181 : decode cX8_spreads 181 = .ok (.iload_n 1, 1) := by decide +kernel
theorem dX8_spreads_182 : decode cX8_spreads 182 = .ok (.ifCond .ne 29, 3) := by decide +kernel
theorem dX8_spreads_185 : decode cX8_spreads 185 = .ok (.iload 4, 2) := by decide +kernel
theorem dX8_spreads_187 : decode cX8_spreads 187 = .ok (.iload 6, 2) := by decide +kernel
theorem dX8_spreads_189 : decode cX8_spreads 189 = .ok (.if_icmp .ne 22, 3) := by decide +kernel
theorem dX8_spreads_192 : decode cX8_spreads 192 = .ok (.aload_n 0, 1) := by decide +kernel
theorem dX8_spreads_193 : decode cX8_spreads 193 = .ok (.iload 6, 2) := by decide +kernel
theorem dX8_spreads_195 : decode cX8_spreads 195 = .ok (.iload 5, 2) := by decide +kernel
theorem dX8_spreads_197 : decode cX8_spreads 197 = .ok (.bipush 6, 2) := by decide +kernel
theorem dX8_spreads_199 : decode cX8_spreads 199 = .ok (.invokestatic 209, 3) := by decide +kernel
theorem dX8_spreads_202 : decode cX8_spreads 202 = .ok (.aload_n 0, 1) := by decide +kernel
theorem dX8_spreads_203 : decode cX8_spreads 203 = .ok (.getfield 38, 3) := by decide +kernel
theorem dX8_spreads_206 : decode cX8_spreads 206 = .ok (.iload_n 2, 1) := by decide +kernel
theorem dX8_spreads_207 : decode cX8_spreads 207 = .ok (.iaload, 1) := by decide +kernel
theorem dX8_spreads_208 : decode cX8_spreads 208 = .ok (.invokevirtual 212, 3) := by decide +kernel
theorem dX8_spreads_211 : decode cX8_spreads 211 = .ok (.return_, 1) := by decide +kernel
theorem dX8_findPrices_0 : decode cX8_findPrices 0 = .ok (.iconst 0, 1) := by decide +kernel
theorem dX8_findPrices_1 : decode cX8_findPrices 1 = .ok (.istore 4, 2) := by decide +kernel
theorem dX8_findPrices_3 : decode cX8_findPrices 3 = .ok (.iload 4, 2) := by decide +kernel
theorem dX8_findPrices_5 : decode cX8_findPrices 5 = .ok (.sipush 2688, 3) := by decide +kernel
theorem dX8_findPrices_8 : decode cX8_findPrices 8 = .ok (.if_icmp .ge 18, 3) := by decide +kernel
theorem dX8_findPrices_11 : decode cX8_findPrices 11 = .ok (.aload_n 0, 1) := by decide +kernel
theorem dX8_findPrices_12 : decode cX8_findPrices 12 = .ok (.getfield 38, 3) := by decide +kernel
theorem dX8_findPrices_15 : decode cX8_findPrices 15 = .ok (.iload 4, 2) := by decide +kernel
theorem dX8_findPrices_17 : decode cX8_findPrices 17 = .ok (.ldc 44, 2) := by decide +kernel
theorem dX8_findPrices_19 : decode cX8_findPrices 19 = .ok (.iastore, 1) := by decide +kernel
theorem dX8_findPrices_20 : decode cX8_findPrices 20 = .ok (.iinc 4 1, 3) := by decide +kernel
theorem dX8_findPrices_23 : decode cX8_findPrices 23 = .ok (.goto (-20), 3) := by decide +kernel
theorem dX8_findPrices_26 : decode cX8_findPrices 26 = .ok (.aload_n 0, 1) := by decide +kernel
theorem dX8_findPrices_27 : decode cX8_findPrices 27 = .ok (.getfield 38, 3) := by decide +kernel
theorem dX8_findPrices_30 : decode cX8_findPrices 30 = .ok (.aload_n 0, 1) := by decide +kernel
theorem dX8_findPrices_31 : decode cX8_findPrices 31 = .ok (.getfield 7, 3) := by decide +kernel
theorem dX8_findPrices_34 : decode cX8_findPrices 34 = .ok (.bipush 32, 2) := by decide +kernel
theorem dX8_findPrices_36 : decode cX8_findPrices 36 = .ok (.iload_n 2, 1) := by decide +kernel
theorem dX8_findPrices_37 : decode cX8_findPrices 37 = .ok (.iadd, 1) := by decide +kernel
theorem dX8_findPrices_38 : decode cX8_findPrices 38 = .ok (.iaload, 1) := by decide +kernel
theorem dX8_findPrices_39 : decode cX8_findPrices 39 = .ok (.aload_n 0, 1) := by decide +kernel
theorem dX8_findPrices_40 : decode cX8_findPrices 40 = .ok (.iload_n 2, 1) := by decide +kernel
theorem dX8_findPrices_41 : decode cX8_findPrices 41 = .ok (.invokevirtual 168, 3) := by decide +kernel
theorem dX8_findPrices_44 : decode cX8_findPrices 44 = .ok (.iload_n 3, 1) := by decide +kernel
theorem dX8_findPrices_45 : decode cX8_findPrices 45 = .ok (.invokestatic 209, 3) := by decide +kernel
theorem dX8_findPrices_48 : decode cX8_findPrices 48 = .ok (.iconst 0, 1) := by decide +kernel
theorem dX8_findPrices_49 : decode cX8_findPrices 49 = .ok (.iastore, 1) := by decide +kernel
theorem dX8_findPrices_50 : decode cX8_findPrices 50 = .ok (.aload_n 0, 1) := by decide +kernel
theorem dX8_findPrices_51 : decode cX8_findPrices 51 = .ok (.getfield 7, 3) := by decide +kernel
theorem dX8_findPrices_54 : decode cX8_findPrices 54 = .ok (.bipush 35, 2) := by decide +kernel
theorem dX8_findPrices_56 : decode cX8_findPrices 56 = .ok (.iload_n 2, 1) := by decide +kernel
theorem dX8_findPrices_57 : decode cX8_findPrices 57 = .ok (.iadd, 1) := by decide +kernel
theorem dX8_findPrices_58 : decode cX8_findPrices 58 = .ok (.iaload, 1) := by decide +kernel
theorem dX8_findPrices_59 : decode cX8_findPrices 59 = .ok (.ldc 44, 2) := by decide +kernel
theorem dX8_findPrices_61 : decode cX8_findPrices 61 = .ok (.if_icmp .eq 7, 3) := by decide +kernel
theorem dX8_findPrices_64 : decode cX8_findPrices 64 = .ok (.iconst 1, 1) := by decide +kernel
theorem dX8_findPrices_65 : decode cX8_findPrices 65 = .ok (.goto 4, 3) := by decide +kernel
theorem dX8_findPrices_68 : decode cX8_findPrices 68 = .ok (.iconst 0, 1) := by decide +kernel
theorem dX8_findPrices_69 : decode cX8_findPrices 69 = .ok (.istore 4, 2) := by decide +kernel
theorem dX8_findPrices_71 : decode cX8_findPrices 71 = .ok (.aload_n 0, 1) := by decide +kernel
theorem dX8_findPrices_72 : decode cX8_findPrices 72 = .ok (.iconst 1, 1) := by decide +kernel
theorem dX8_findPrices_73 : decode cX8_findPrices 73 = .ok (.putfield 201, 3) := by decide +kernel
theorem dX8_findPrices_76 : decode cX8_findPrices 76 = .ok (.aload_n 0, 1) := by decide +kernel
theorem dX8_findPrices_77 : decode cX8_findPrices 77 = .ok (.getfield 201, 3) := by decide +kernel
theorem dX8_findPrices_80 : decode cX8_findPrices 80 = .ok (.ifCond .eq 49, 3) := by decide +kernel
theorem dX8_findPrices_83 : decode cX8_findPrices 83 = .ok (.aload_n 0, 1) := by decide +kernel
theorem dX8_findPrices_84 : decode cX8_findPrices 84 = .ok (.iconst 0, 1) := by decide +kernel
theorem dX8_findPrices_85 : decode cX8_findPrices 85 = .ok (.putfield 201, 3) := by decide +kernel
theorem dX8_findPrices_88 : decode cX8_findPrices 88 = .ok (.iconst 0, 1) := by decide +kernel
theorem dX8_findPrices_89 : decode cX8_findPrices 89 = .ok (.istore 5, 2) := by decide +kernel
theorem dX8_findPrices_91 : decode cX8_findPrices 91 = .ok (.iload 5, 2) := by decide +kernel
theorem dX8_findPrices_93 : decode cX8_findPrices 93 = .ok (.sipush 2688, 3) := by decide +kernel
theorem dX8_findPrices_96 : decode cX8_findPrices 96 = .ok (.if_icmp .ge 30, 3) := by decide +kernel
theorem dX8_findPrices_99 : decode cX8_findPrices 99 = .ok (.aload_n 0, 1) := by decide +kernel
theorem dX8_findPrices_100 : decode cX8_findPrices 100 = .ok (.getfield 38, 3) := by decide +kernel
theorem dX8_findPrices_103 : decode cX8_findPrices 103 = .ok (.iload 5, 2) := by decide +kernel
theorem dX8_findPrices_105 : decode cX8_findPrices 105 = .ok (.iaload, 1) := by decide +kernel
theorem dX8_findPrices_106 : decode cX8_findPrices 106 = .ok (.ldc 44, 2) := by decide +kernel
theorem dX8_findPrices_108 : decode cX8_findPrices 108 = .ok (.if_icmp .eq 12, 3) := by decide +kernel
theorem dX8_findPrices_111 : decode cX8_findPrices 111 = .ok (.aload_n 0, 1) := by decide +kernel
theorem dX8_findPrices_112 : decode cX8_findPrices 112 = .ok (.iload_n 1, 1) := by decide +kernel
theorem dX8_findPrices_113 : decode cX8_findPrices 113 = .ok (.iload 5, 2) := by decide +kernel
theorem dX8_findPrices_115 : decode cX8_findPrices 115 = .ok (.iload 4, 2) := by decide +kernel
theorem dX8_findPrices_117 : decode cX8_findPrices 117 = .ok (.invokevirtual 216, 3) := by decide +kernel
theorem dX8_findPrices_120 : decode cX8_findPrices 120 = .ok (.iinc 5 1, 3) := by decide +kernel
theorem dX8_findPrices_123 : decode cX8_findPrices 123 = .ok (.goto (-32), 3) := by decide +kernel
theorem dX8_findPrices_126 : decode cX8_findPrices 126 = .ok (.goto (-50), 3) := by decide +kernel
theorem dX8_findPrices_129 : decode cX8_findPrices 129 = .ok (.return_, 1) := by decide +kernel
theorem dX8_lesser_0 : decode cX8_lesser 0 = .ok (.iload_n 0, 1) := by decide +kernel
theorem dX8_lesser_1 : decode cX8_lesser 1 = .ok (.ldc 44, 2) := by decide +kernel
theorem dX8_lesser_3 : decode cX8_lesser 3 = .ok (.if_icmp .eq 14, 3) := by decide +kernel
theorem dX8_lesser_6 : decode cX8_lesser 6 = .ok (.iload_n 1, 1) := by decide +kernel
theorem dX8_lesser_7 : decode cX8_lesser 7 = .ok (.ldc 44, 2) := by decide +kernel
theorem dX8_lesser_9 : decode cX8_lesser 9 = .ok (.if_icmp .eq 12, 3) := by decide +kernel
theorem dX8_lesser_12 : decode cX8_lesser 12 = .ok (.iload_n 1, 1) := by decide +kernel
theorem dX8_lesser_13 : decode cX8_lesser 13 = .ok (.iload_n 0, 1) := by decide +kernel
theorem dX8_lesser_14 : decode cX8_lesser 14 = .ok (.if_icmp .ge 7, 3) := by decide +kernel
theorem dX8_lesser_17 : decode cX8_lesser 17 = .ok (.iload_n 1, 1) := by decide +kernel
theorem dX8_lesser_18 : decode cX8_lesser 18 = .ok (.goto 4, 3) := by decide +kernel
theorem dX8_lesser_21 : decode cX8_lesser 21 = .ok (.iload_n 0, 1) := by decide +kernel
theorem dX8_lesser_22 : decode cX8_lesser 22 = .ok (.ireturn, 1) := by decide +kernel
theorem dX8_fewestOf_0 : decode cX8_fewestOf 0 = .ok (.aload_n 0, 1) := by decide +kernel
theorem dX8_fewestOf_1 : decode cX8_fewestOf 1 = .ok (.getfield 7, 3) := by decide +kernel
theorem dX8_fewestOf_4 : decode cX8_fewestOf 4 = .ok (.bipush 35, 2) := by decide +kernel
theorem dX8_fewestOf_6 : decode cX8_fewestOf 6 = .ok (.iload_n 1, 1) := by decide +kernel
theorem dX8_fewestOf_7 : decode cX8_fewestOf 7 = .ok (.iadd, 1) := by decide +kernel
theorem dX8_fewestOf_8 : decode cX8_fewestOf 8 = .ok (.iaload, 1) := by decide +kernel
theorem dX8_fewestOf_9 : decode cX8_fewestOf 9 = .ok (.iload_n 2, 1) := by decide +kernel
theorem dX8_fewestOf_10 : decode cX8_fewestOf 10 = .ok (.if_icmp .ne 7, 3) := by decide +kernel
theorem dX8_fewestOf_13 : decode cX8_fewestOf 13 = .ok (.iconst 1, 1) := by decide +kernel
theorem dX8_fewestOf_14 : decode cX8_fewestOf 14 = .ok (.goto 4, 3) := by decide +kernel
theorem dX8_fewestOf_17 : decode cX8_fewestOf 17 = .ok (.iconst 0, 1) := by decide +kernel
theorem dX8_fewestOf_18 : decode cX8_fewestOf 18 = .ok (.istore_n 3, 1) := by decide +kernel
theorem dX8_fewestOf_19 : decode cX8_fewestOf 19 = .ok (.aload_n 0, 1) := by decide +kernel
theorem dX8_fewestOf_20 : decode cX8_fewestOf 20 = .ok (.iconst 0, 1) := by decide +kernel
theorem dX8_fewestOf_21 : decode cX8_fewestOf 21 = .ok (.iload_n 1, 1) := by decide +kernel
theorem dX8_fewestOf_22 : decode cX8_fewestOf 22 = .ok (.iload_n 3, 1) := by decide +kernel
theorem dX8_fewestOf_23 : decode cX8_fewestOf 23 = .ok (.ifCond .eq 8, 3) := by decide +kernel
theorem dX8_fewestOf_26 : decode cX8_fewestOf 26 = .ok (.bipush 6, 2) := by decide +kernel
theorem dX8_fewestOf_28 : decode cX8_fewestOf 28 = .ok (.goto 12, 3) := by decide +kernel
theorem dX8_fewestOf_31 : decode cX8_fewestOf 31 = .ok (.aload_n 0, 1) := by decide +kernel
theorem dX8_fewestOf_32 : decode cX8_fewestOf 32 = .ok (.getfield 7, 3) := by decide +kernel
theorem dX8_fewestOf_35 : decode cX8_fewestOf 35 = .ok (.bipush 43, 2) := by decide +kernel
theorem dX8_fewestOf_37 : decode cX8_fewestOf 37 = .ok (.iload_n 2, 1) := by decide +kernel
theorem dX8_fewestOf_38 : decode cX8_fewestOf 38 = .ok (.iadd, 1) := by decide +kernel
theorem dX8_fewestOf_39 : decode cX8_fewestOf 39 = .ok (.iaload, 1) := by decide +kernel
theorem dX8_fewestOf_40 : decode cX8_fewestOf 40 = .ok (.invokevirtual 220, 3) := by decide +kernel
theorem dX8_fewestOf_43 : decode cX8_fewestOf 43 = .ok (.ldc 44, 2) := by decide +kernel
theorem dX8_fewestOf_45 : decode cX8_fewestOf 45 = .ok (.istore 4, 2) := by decide +kernel
theorem dX8_fewestOf_47 : decode cX8_fewestOf 47 = .ok (.iconst 0, 1) := by decide +kernel
theorem dX8_fewestOf_48 : decode cX8_fewestOf 48 = .ok (.istore 5, 2) := by decide +kernel
theorem dX8_fewestOf_50 : decode cX8_fewestOf 50 = .ok (.iload 5, 2) := by decide +kernel
theorem dX8_fewestOf_52 : decode cX8_fewestOf 52 = .ok (.sipush 384, 3) := by decide +kernel
theorem dX8_fewestOf_55 : decode cX8_fewestOf 55 = .ok (.if_icmp .ge 36, 3) := by decide +kernel
theorem dX8_fewestOf_58 : decode cX8_fewestOf 58 = .ok (.iload 4, 2) := by decide +kernel
theorem dX8_fewestOf_60 : decode cX8_fewestOf 60 = .ok (.aload_n 0, 1) := by decide +kernel
theorem dX8_fewestOf_61 : decode cX8_fewestOf 61 = .ok (.getfield 38, 3) := by decide +kernel
theorem dX8_fewestOf_64 : decode cX8_fewestOf 64 = .ok (.bipush 7, 2) := by decide +kernel
theorem dX8_fewestOf_66 : decode cX8_fewestOf 66 = .ok (.iload 5, 2) := by decide +kernel
theorem dX8_fewestOf_68 : decode cX8_fewestOf 68 = .ok (.imul, 1) := by decide +kernel
theorem dX8_fewestOf_69 : decode cX8_fewestOf 69 = .ok (.aload_n 0, 1) := by decide +kernel
theorem dX8_fewestOf_70 : decode cX8_fewestOf 70 = .ok (.getfield 7, 3) := by decide +kernel
theorem dX8_fewestOf_73 : decode cX8_fewestOf 73 = .ok (.bipush 28, 2) := by decide +kernel
theorem dX8_fewestOf_75 : decode cX8_fewestOf 75 = .ok (.iload_n 2, 1) := by decide +kernel
theorem dX8_fewestOf_76 : decode cX8_fewestOf 76 = .ok (.iadd, 1) := by decide +kernel
theorem dX8_fewestOf_77 : decode cX8_fewestOf 77 = .ok (.iaload, 1) := by decide +kernel
theorem dX8_fewestOf_78 : decode cX8_fewestOf 78 = .ok (.iadd, 1) := by decide +kernel
theorem dX8_fewestOf_79 : decode cX8_fewestOf 79 = .ok (.iaload, 1) := by decide +kernel
theorem dX8_fewestOf_80 : decode cX8_fewestOf 80 = .ok (.invokestatic 224, 3) := by decide +kernel
theorem dX8_fewestOf_83 : decode cX8_fewestOf 83 = .ok (.istore 4, 2) := by decide +kernel
theorem dX8_fewestOf_85 : decode cX8_fewestOf 85 = .ok (.iinc 5 1, 3) := by decide +kernel
theorem dX8_fewestOf_88 : decode cX8_fewestOf 88 = .ok (.goto (-38), 3) := by decide +kernel
theorem dX8_fewestOf_91 : decode cX8_fewestOf 91 = .ok (.iload 4, 2) := by decide +kernel
theorem dX8_fewestOf_93 : decode cX8_fewestOf 93 = .ok (.ireturn, 1) := by decide +kernel
theorem dX8_mayHave_0 : decode cX8_mayHave 0 = .ok (.aload_n 0, 1) := by decide +kernel
theorem dX8_mayHave_1 : decode cX8_mayHave 1 = .ok (.iload_n 2, 1) := by decide +kernel
theorem dX8_mayHave_2 : decode cX8_mayHave 2 = .ok (.invokevirtual 198, 3) := by decide +kernel
theorem dX8_mayHave_5 : decode cX8_mayHave 5 = .ok (.istore_n 3, 1) := by decide +kernel
theorem dX8_mayHave_6 : decode cX8_mayHave 6 = .ok (.aload_n 0, 1) := by decide +kernel
theorem dX8_mayHave_7 : decode cX8_mayHave 7 = .ok (.getfield 7, 3) := by decide +kernel
theorem dX8_mayHave_10 : decode cX8_mayHave 10 = .ok (.bipush 35, 2) := by decide +kernel
theorem dX8_mayHave_12 : decode cX8_mayHave 12 = .ok (.iload_n 1, 1) := by decide +kernel
theorem dX8_mayHave_13 : decode cX8_mayHave 13 = .ok (.iadd, 1) := by decide +kernel
theorem dX8_mayHave_14 : decode cX8_mayHave 14 = .ok (.iaload, 1) := by decide +kernel
theorem dX8_mayHave_15 : decode cX8_mayHave 15 = .ok (.iload_n 2, 1) := by decide +kernel
theorem dX8_mayHave_16 : decode cX8_mayHave 16 = .ok (.if_icmp .eq 23, 3) := by decide +kernel
theorem dX8_mayHave_19 : decode cX8_mayHave 19 = .ok (.aload_n 0, 1) := by decide +kernel
theorem dX8_mayHave_20 : decode cX8_mayHave 20 = .ok (.getfield 7, 3) := by decide +kernel
theorem dX8_mayHave_23 : decode cX8_mayHave 23 = .ok (.bipush 35, 2) := by decide +kernel
theorem dX8_mayHave_25 : decode cX8_mayHave 25 = .ok (.iload_n 1, 1) := by decide +kernel
theorem dX8_mayHave_26 : decode cX8_mayHave 26 = .ok (.iadd, 1) := by decide +kernel
theorem dX8_mayHave_27 : decode cX8_mayHave 27 = .ok (.iaload, 1) := by decide +kernel
theorem dX8_mayHave_28 : decode cX8_mayHave 28 = .ok (.ldc 44, 2) := by decide +kernel
theorem dX8_mayHave_30 : decode cX8_mayHave 30 = .ok (.if_icmp .ne 13, 3) := by decide +kernel
theorem dX8_mayHave_33 : decode cX8_mayHave 33 = .ok (.iload_n 3, 1) := by decide +kernel
theorem dX8_mayHave_34 : decode cX8_mayHave 34 = .ok (.ldc 44, 2) := by decide +kernel
theorem dX8_mayHave_36 : decode cX8_mayHave 36 = .ok (.if_icmp .ne 7, 3) := by decide +kernel
theorem dX8_mayHave_39 : decode cX8_mayHave 39 = .ok (.iconst 1, 1) := by decide +kernel
theorem dX8_mayHave_40 : decode cX8_mayHave 40 = .ok (.goto 4, 3) := by decide +kernel
theorem dX8_mayHave_43 : decode cX8_mayHave 43 = .ok (.iconst 0, 1) := by decide +kernel
theorem dX8_mayHave_44 : decode cX8_mayHave 44 = .ok (.ireturn, 1) := by decide +kernel
theorem dX8_fewest_0 : decode cX8_fewest 0 = .ok (.aload_n 0, 1) := by decide +kernel
theorem dX8_fewest_1 : decode cX8_fewest 1 = .ok (.iload_n 1, 1) := by decide +kernel
theorem dX8_fewest_2 : decode cX8_fewest 2 = .ok (.invokevirtual 175, 3) := by decide +kernel
theorem dX8_fewest_5 : decode cX8_fewest 5 = .ok (.ifCond .eq 11, 3) := by decide +kernel
theorem dX8_fewest_8 : decode cX8_fewest 8 = .ok (.aload_n 0, 1) := by decide +kernel
theorem dX8_fewest_9 : decode cX8_fewest 9 = .ok (.iload_n 2, 1) := by decide +kernel
theorem dX8_fewest_10 : decode cX8_fewest 10 = .ok (.invokevirtual 188, 3) := by decide +kernel
theorem dX8_fewest_13 : decode cX8_fewest 13 = .ok (.ifCond .ne 6, 3) := by decide +kernel
theorem dX8_fewest_16 : decode cX8_fewest 16 = .ok (.ldc 58, 2) := by decide +kernel
theorem dX8_fewest_18 : decode cX8_fewest 18 = .ok (.ireturn, 1) := by decide +kernel
theorem dX8_fewest_19 : decode cX8_fewest 19 = .ok (.aload_n 0, 1) := by decide +kernel
theorem dX8_fewest_20 : decode cX8_fewest 20 = .ok (.iload_n 1, 1) := by decide +kernel
theorem dX8_fewest_21 : decode cX8_fewest 21 = .ok (.iload_n 2, 1) := by decide +kernel
theorem dX8_fewest_22 : decode cX8_fewest 22 = .ok (.invokevirtual 227, 3) := by decide +kernel
theorem dX8_fewest_25 : decode cX8_fewest 25 = .ok (.ifCond .eq 12, 3) := by decide +kernel
theorem dX8_fewest_28 : decode cX8_fewest 28 = .ok (.aload_n 0, 1) := by decide +kernel
theorem dX8_fewest_29 : decode cX8_fewest 29 = .ok (.iload_n 1, 1) := by decide +kernel
theorem dX8_fewest_30 : decode cX8_fewest 30 = .ok (.iload_n 2, 1) := by decide +kernel
theorem dX8_fewest_31 : decode cX8_fewest 31 = .ok (.invokevirtual 230, 3) := by decide +kernel
theorem dX8_fewest_34 : decode cX8_fewest 34 = .ok (.goto 5, 3) := by decide +kernel
theorem dX8_fewest_37 : decode cX8_fewest 37 = .ok (.ldc 184, 2) := by decide +kernel
theorem dX8_fewest_39 : decode cX8_fewest 39 = .ok (.ireturn, 1) := by decide +kernel
theorem dX8_whom_0 : decode cX8_whom 0 = .ok (.aload_n 0, 1) := by decide +kernel
theorem dX8_whom_1 : decode cX8_whom 1 = .ok (.iload_n 1, 1) := by decide +kernel
theorem dX8_whom_2 : decode cX8_whom 2 = .ok (.invokevirtual 188, 3) := by decide +kernel
theorem dX8_whom_5 : decode cX8_whom 5 = .ok (.ifCond .ne 6, 3) := by decide +kernel
theorem dX8_whom_8 : decode cX8_whom 8 = .ok (.ldc 58, 2) := by decide +kernel
theorem dX8_whom_10 : decode cX8_whom 10 = .ok (.ireturn, 1) := by decide +kernel
theorem dX8_whom_11 : decode cX8_whom 11 = .ok (.ldc 44, 2) := by decide +kernel
theorem dX8_whom_13 : decode cX8_whom 13 = .ok (.istore_n 2, 1) := by decide +kernel
theorem dX8_whom_14 : decode cX8_whom 14 = .ok (.ldc 44, 2) := by decide +kernel
theorem dX8_whom_16 : decode cX8_whom 16 = .ok (.istore_n 3, 1) := by decide +kernel
theorem dX8_whom_17 : decode cX8_whom 17 = .ok (.iconst 0, 1) := by decide +kernel
theorem dX8_whom_18 : decode cX8_whom 18 = .ok (.istore 4, 2) := by decide +kernel
theorem dX8_whom_20 : decode cX8_whom 20 = .ok (.iload 4, 2) := by decide +kernel
theorem dX8_whom_22 : decode cX8_whom 22 = .ok (.aload_n 0, 1) := by decide +kernel
theorem dX8_whom_23 : decode cX8_whom 23 = .ok (.getfield 7, 3) := by decide +kernel
theorem dX8_whom_26 : decode cX8_whom 26 = .ok (.iconst 2, 1) := by decide +kernel
theorem dX8_whom_27 : decode cX8_whom 27 = .ok (.iaload, 1) := by decide +kernel
theorem dX8_whom_28 : decode cX8_whom 28 = .ok (.if_icmp .ge 83, 3) := by decide +kernel
theorem dX8_whom_31 : decode cX8_whom 31 = .ok (.aload_n 0, 1) := by decide +kernel
theorem dX8_whom_32 : decode cX8_whom 32 = .ok (.iload 4, 2) := by decide +kernel
theorem dX8_whom_34 : decode cX8_whom 34 = .ok (.iload_n 1, 1) := by decide +kernel
theorem dX8_whom_35 : decode cX8_whom 35 = .ok (.invokevirtual 227, 3) := by decide +kernel
theorem dX8_whom_38 : decode cX8_whom 38 = .ok (.ifCond .eq 13, 3) := by decide +kernel
theorem dX8_whom_41 : decode cX8_whom 41 = .ok (.aload_n 0, 1) := by decide +kernel
theorem dX8_whom_42 : decode cX8_whom 42 = .ok (.iload 4, 2) := by decide +kernel
theorem dX8_whom_44 : decode cX8_whom 44 = .ok (.iload_n 1, 1) := by decide +kernel
theorem dX8_whom_45 : decode cX8_whom 45 = .ok (.invokevirtual 230, 3) := by decide +kernel
theorem dX8_whom_48 : decode cX8_whom 48 = .ok (.goto 5, 3) := by decide +kernel
theorem dX8_whom_51 : decode cX8_whom 51 = .ok (.ldc 44, 2) := by decide +kernel
theorem dX8_whom_53 : decode cX8_whom 53 = .ok (.istore 5, 2) := by decide +kernel
theorem dX8_whom_55 : decode cX8_whom 55 = .ok (.iload 5, 2) := by decide +kernel
theorem dX8_whom_57 : decode cX8_whom 57 = .ok (.ldc 44, 2) := by decide +kernel
theorem dX8_whom_59 : decode cX8_whom 59 = .ok (.if_icmp .eq 19, 3) := by decide +kernel
theorem dX8_whom_62 : decode cX8_whom 62 = .ok (.iload_n 3, 1) := by decide +kernel
theorem dX8_whom_63 : decode cX8_whom 63 = .ok (.ldc 44, 2) := by decide +kernel
theorem dX8_whom_65 : decode cX8_whom 65 = .ok (.if_icmp .eq 9, 3) := by decide +kernel
theorem dX8_whom_68 : decode cX8_whom 68 = .ok (.iload 5, 2) := by decide +kernel
theorem dX8_whom_70 : decode cX8_whom 70 = .ok (.iload_n 3, 1) := by decide +kernel
theorem dX8_whom_71 : decode cX8_whom 71 = .ok (.if_icmp .ge 7, 3) := by decide +kernel
theorem dX8_whom_74 : decode cX8_whom 74 = .ok (.iconst 1, 1) := by decide +kernel
theorem dX8_whom_75 : decode cX8_whom 75 = .ok (.goto 4, 3) := by decide +kernel
theorem dX8_whom_78 : decode cX8_whom 78 = .ok (.iconst 0, 1) := by decide +kernel
theorem dX8_whom_79 : decode cX8_whom 79 = .ok (.istore 6, 2) := by decide +kernel
theorem dX8_whom_81 : decode cX8_whom 81 = .ok (.iload 6, 2) := by decide +kernel
theorem dX8_whom_83 : decode cX8_whom 83 = .ok (.ifCond .eq 8, 3) := by decide +kernel
theorem dX8_whom_86 : decode cX8_whom 86 = .ok (.iload 4, 2) := by decide +kernel
theorem dX8_whom_88 : decode cX8_whom 88 = .ok (.goto 4, 3) := by decide +kernel
theorem dX8_whom_91 : decode cX8_whom 91 = .ok (.iload_n 2, 1) := by decide +kernel
theorem dX8_whom_92 : decode cX8_whom 92 = .ok (.istore_n 2, 1) := by decide +kernel
theorem dX8_whom_93 : decode cX8_whom 93 = .ok (.iload 6, 2) := by decide +kernel
theorem dX8_whom_95 : decode cX8_whom 95 = .ok (.ifCond .eq 8, 3) := by decide +kernel
theorem dX8_whom_98 : decode cX8_whom 98 = .ok (.iload 5, 2) := by decide +kernel
theorem dX8_whom_100 : decode cX8_whom 100 = .ok (.goto 4, 3) := by decide +kernel
theorem dX8_whom_103 : decode cX8_whom 103 = .ok (.iload_n 3, 1) := by decide +kernel
theorem dX8_whom_104 : decode cX8_whom 104 = .ok (.istore_n 3, 1) := by decide +kernel
theorem dX8_whom_105 : decode cX8_whom 105 = .ok (.iinc 4 1, 3) := by decide +kernel
theorem dX8_whom_108 : decode cX8_whom 108 = .ok (.goto (-88), 3) := by decide +kernel
theorem dX8_whom_111 : decode cX8_whom 111 = .ok (.iload_n 2, 1) := by decide +kernel
theorem dX8_whom_112 : decode cX8_whom 112 = .ok (.ireturn, 1) := by decide +kernel
theorem dX8_leastAt_0 : decode cX8_leastAt 0 = .ok (.ldc 44, 2) := by decide +kernel
theorem dX8_leastAt_2 : decode cX8_leastAt 2 = .ok (.istore_n 2, 1) := by decide +kernel
theorem dX8_leastAt_3 : decode cX8_leastAt 3 = .ok (.iconst 0, 1) := by decide +kernel
theorem dX8_leastAt_4 : decode cX8_leastAt 4 = .ok (.istore_n 3, 1) := by decide +kernel
theorem dX8_leastAt_5 : decode cX8_leastAt 5 = .ok (.iload_n 3, 1) := by decide +kernel
theorem dX8_leastAt_6 : decode cX8_leastAt 6 = .ok (.bipush 64, 2) := by decide +kernel
theorem dX8_leastAt_8 : decode cX8_leastAt 8 = .ok (.if_icmp .ge 25, 3) := by decide +kernel
theorem dX8_leastAt_11 : decode cX8_leastAt 11 = .ok (.iload_n 2, 1) := by decide +kernel
theorem dX8_leastAt_12 : decode cX8_leastAt 12 = .ok (.aload_n 0, 1) := by decide +kernel
theorem dX8_leastAt_13 : decode cX8_leastAt 13 = .ok (.getfield 38, 3) := by decide +kernel
theorem dX8_leastAt_16 : decode cX8_leastAt 16 = .ok (.iload_n 1, 1) := by decide +kernel
theorem dX8_leastAt_17 : decode cX8_leastAt 17 = .ok (.iload_n 3, 1) := by decide +kernel
theorem dX8_leastAt_18 : decode cX8_leastAt 18 = .ok (.iconst 0, 1) := by decide +kernel
theorem dX8_leastAt_19 : decode cX8_leastAt 19 = .ok (.invokestatic 209, 3) := by decide +kernel
theorem dX8_leastAt_22 : decode cX8_leastAt 22 = .ok (.iaload, 1) := by decide +kernel
theorem dX8_leastAt_23 : decode cX8_leastAt 23 = .ok (.invokestatic 224, 3) := by decide +kernel
theorem dX8_leastAt_26 : decode cX8_leastAt 26 = .ok (.istore_n 2, 1) := by decide +kernel
theorem dX8_leastAt_27 : decode cX8_leastAt 27 = .ok (.iinc 3 1, 3) := by decide +kernel
theorem dX8_leastAt_30 : decode cX8_leastAt 30 = .ok (.goto (-25), 3) := by decide +kernel
theorem dX8_leastAt_33 : decode cX8_leastAt 33 = .ok (.iload_n 2, 1) := by decide +kernel
theorem dX8_leastAt_34 : decode cX8_leastAt 34 = .ok (.ireturn, 1) := by decide +kernel
theorem dX8_off_0 : decode cX8_off 0 = .ok (.aload_n 0, 1) := by decide +kernel
theorem dX8_off_1 : decode cX8_off 1 = .ok (.iload_n 1, 1) := by decide +kernel
theorem dX8_off_2 : decode cX8_off 2 = .ok (.invokevirtual 175, 3) := by decide +kernel
theorem dX8_off_5 : decode cX8_off 5 = .ok (.ifCond .eq 12, 3) := by decide +kernel
theorem dX8_off_8 : decode cX8_off 8 = .ok (.iload_n 2, 1) := by decide +kernel
theorem dX8_off_9 : decode cX8_off 9 = .ok (.iconst 0, 1) := by decide +kernel
theorem dX8_off_10 : decode cX8_off 10 = .ok (.iconst 5, 1) := by decide +kernel
theorem dX8_off_11 : decode cX8_off 11 = .ok (.invokestatic 50, 3) := by decide +kernel
theorem dX8_off_14 : decode cX8_off 14 = .ok (.ifCond .ne 6, 3) := by decide +kernel
theorem dX8_off_17 : decode cX8_off 17 = .ok (.ldc 58, 2) := by decide +kernel
theorem dX8_off_19 : decode cX8_off 19 = .ok (.ireturn, 1) := by decide +kernel
theorem dX8_off_20 : decode cX8_off 20 = .ok (.aload_n 0, 1) := by decide +kernel
theorem dX8_off_21 : decode cX8_off 21 = .ok (.iconst 1, 1) := by decide +kernel
theorem dX8_off_22 : decode cX8_off 22 = .ok (.iload_n 1, 1) := by decide +kernel
theorem dX8_off_23 : decode cX8_off 23 = .ok (.iconst 0, 1) := by decide +kernel
theorem dX8_off_24 : decode cX8_off 24 = .ok (.invokevirtual 220, 3) := by decide +kernel
theorem dX8_off_27 : decode cX8_off 27 = .ok (.aload_n 0, 1) := by decide +kernel
theorem dX8_off_28 : decode cX8_off 28 = .ok (.iload_n 2, 1) := by decide +kernel
theorem dX8_off_29 : decode cX8_off 29 = .ok (.invokevirtual 233, 3) := by decide +kernel
theorem dX8_off_32 : decode cX8_off 32 = .ok (.ireturn, 1) := by decide +kernel
theorem dX8_reach_0 : decode cX8_reach 0 = .ok (.aload_n 0, 1) := by decide +kernel
theorem dX8_reach_1 : decode cX8_reach 1 = .ok (.iload_n 1, 1) := by decide +kernel
theorem dX8_reach_2 : decode cX8_reach 2 = .ok (.invokevirtual 175, 3) := by decide +kernel
theorem dX8_reach_5 : decode cX8_reach 5 = .ok (.ifCond .ne 6, 3) := by decide +kernel
theorem dX8_reach_8 : decode cX8_reach 8 = .ok (.ldc 58, 2) := by decide +kernel
theorem dX8_reach_10 : decode cX8_reach 10 = .ok (.ireturn, 1) := by decide +kernel
theorem dX8_reach_11 : decode cX8_reach 11 = .ok (.aload_n 0, 1) := by decide +kernel
theorem dX8_reach_12 : decode cX8_reach 12 = .ok (.iconst 1, 1) := by decide +kernel
theorem dX8_reach_13 : decode cX8_reach 13 = .ok (.iload_n 1, 1) := by decide +kernel
theorem dX8_reach_14 : decode cX8_reach 14 = .ok (.iconst 0, 1) := by decide +kernel
theorem dX8_reach_15 : decode cX8_reach 15 = .ok (.invokevirtual 220, 3) := by decide +kernel
theorem dX8_reach_18 : decode cX8_reach 18 = .ok (.iconst 0, 1) := by decide +kernel
theorem dX8_reach_19 : decode cX8_reach 19 = .ok (.istore_n 2, 1) := by decide +kernel
theorem dX8_reach_20 : decode cX8_reach 20 = .ok (.iconst 0, 1) := by decide +kernel
theorem dX8_reach_21 : decode cX8_reach 21 = .ok (.istore_n 3, 1) := by decide +kernel
theorem dX8_reach_22 : decode cX8_reach 22 = .ok (.iload_n 3, 1) := by decide +kernel
theorem dX8_reach_23 : decode cX8_reach 23 = .ok (.bipush 6, 2) := by decide +kernel
theorem dX8_reach_25 : decode cX8_reach 25 = .ok (.if_icmp .ge 29, 3) := by decide +kernel
theorem dX8_reach_28 : decode cX8_reach 28 = .ok (.iload_n 2, 1) := by decide +kernel
theorem dX8_reach_29 : decode cX8_reach 29 = .ok (.aload_n 0, 1) := by decide +kernel
theorem dX8_reach_30 : decode cX8_reach 30 = .ok (.iload_n 3, 1) := by decide +kernel
theorem dX8_reach_31 : decode cX8_reach 31 = .ok (.invokevirtual 233, 3) := by decide +kernel
theorem dX8_reach_34 : decode cX8_reach 34 = .ok (.ldc 44, 2) := by decide +kernel
theorem dX8_reach_36 : decode cX8_reach 36 = .ok (.if_icmp .ne 7, 3) := by decide +kernel
theorem dX8_reach_39 : decode cX8_reach 39 = .ok (.iconst 0, 1) := by decide +kernel
theorem dX8_reach_40 : decode cX8_reach 40 = .ok (.goto 6, 3) := by decide +kernel
theorem dX8_reach_43 : decode cX8_reach 43 = .ok (.iconst 1, 1) := by decide +kernel
theorem dX8_reach_44 : decode cX8_reach 44 = .ok (.iload_n 3, 1) := by decide +kernel
theorem dX8_reach_45 : decode cX8_reach 45 = .ok (.ishl, 1) := by decide +kernel
theorem dX8_reach_46 : decode cX8_reach 46 = .ok (.ior, 1) := by decide +kernel
theorem dX8_reach_47 : decode cX8_reach 47 = .ok (.istore_n 2, 1) := by decide +kernel
theorem dX8_reach_48 : decode cX8_reach 48 = .ok (.iinc 3 1, 3) := by decide +kernel
theorem dX8_reach_51 : decode cX8_reach 51 = .ok (.goto (-29), 3) := by decide +kernel
theorem dX8_reach_54 : decode cX8_reach 54 = .ok (.iload_n 2, 1) := by decide +kernel
theorem dX8_reach_55 : decode cX8_reach 55 = .ok (.ireturn, 1) := by decide +kernel
theorem dX8_right_0 : decode cX8_right 0 = .ok (.aload_n 0, 1) := by decide +kernel
theorem dX8_right_1 : decode cX8_right 1 = .ok (.iload_n 1, 1) := by decide +kernel
theorem dX8_right_2 : decode cX8_right 2 = .ok (.invokevirtual 175, 3) := by decide +kernel
theorem dX8_right_5 : decode cX8_right 5 = .ok (.ifCond .eq 21, 3) := by decide +kernel
theorem dX8_right_8 : decode cX8_right 8 = .ok (.aload_n 0, 1) := by decide +kernel
theorem dX8_right_9 : decode cX8_right 9 = .ok (.iload_n 2, 1) := by decide +kernel
theorem dX8_right_10 : decode cX8_right 10 = .ok (.invokevirtual 178, 3) := by decide +kernel
theorem dX8_right_13 : decode cX8_right 13 = .ok (.ifCond .eq 13, 3) := by decide +kernel
theorem dX8_right_16 : decode cX8_right 16 = .ok (.aload_n 0, 1) := by decide +kernel
theorem dX8_right_17 : decode cX8_right 17 = .ok (.iload_n 2, 1) := by decide +kernel
theorem dX8_right_18 : decode cX8_right 18 = .ok (.iconst 0, 1) := by decide +kernel
theorem dX8_right_19 : decode cX8_right 19 = .ok (.invokevirtual 154, 3) := by decide +kernel
theorem dX8_right_22 : decode cX8_right 22 = .ok (.iconst 1, 1) := by decide +kernel
theorem dX8_right_23 : decode cX8_right 23 = .ok (.if_icmp .eq 6, 3) := by decide +kernel
theorem dX8_right_26 : decode cX8_right 26 = .ok (.ldc 58, 2) := by decide +kernel
theorem dX8_right_28 : decode cX8_right 28 = .ok (.ireturn, 1) := by decide +kernel
theorem dX8_right_29 : decode cX8_right 29 = .ok (.aload_n 0, 1) := by decide +kernel
theorem dX8_right_30 : decode cX8_right 30 = .ok (.getfield 7, 3) := by decide +kernel
theorem dX8_right_33 : decode cX8_right 33 = .ok (.bipush 35, 2) := by decide +kernel
theorem dX8_right_35 : decode cX8_right 35 = .ok (.iload_n 1, 1) := by decide +kernel
theorem dX8_right_36 : decode cX8_right 36 = .ok (.iadd, 1) := by decide +kernel
theorem dX8_right_37 : decode cX8_right 37 = .ok (.iaload, 1) := by decide +kernel
theorem dX8_right_38 : decode cX8_right 38 = .ok (.ldc 44, 2) := by decide +kernel
theorem dX8_right_40 : decode cX8_right 40 = .ok (.if_icmp .eq 6, 3) := by decide +kernel
theorem dX8_right_43 : decode cX8_right 43 = .ok (.ldc 184, 2) := by decide +kernel
theorem dX8_right_45 : decode cX8_right 45 = .ok (.ireturn, 1) := by decide +kernel
theorem dX8_right_46 : decode cX8_right 46 = .ok (.aload_n 0, 1) := by decide +kernel
theorem dX8_right_47 : decode cX8_right 47 = .ok (.iconst 2, 1) := by decide +kernel
theorem dX8_right_48 : decode cX8_right 48 = .ok (.iload_n 1, 1) := by decide +kernel
theorem dX8_right_49 : decode cX8_right 49 = .ok (.iconst 0, 1) := by decide +kernel
theorem dX8_right_50 : decode cX8_right 50 = .ok (.invokevirtual 220, 3) := by decide +kernel
theorem dX8_right_53 : decode cX8_right 53 = .ok (.aload_n 0, 1) := by decide +kernel
theorem dX8_right_54 : decode cX8_right 54 = .ok (.getfield 38, 3) := by decide +kernel
theorem dX8_right_57 : decode cX8_right 57 = .ok (.aload_n 0, 1) := by decide +kernel
theorem dX8_right_58 : decode cX8_right 58 = .ok (.getfield 7, 3) := by decide +kernel
theorem dX8_right_61 : decode cX8_right 61 = .ok (.bipush 32, 2) := by decide +kernel
theorem dX8_right_63 : decode cX8_right 63 = .ok (.iload_n 1, 1) := by decide +kernel
theorem dX8_right_64 : decode cX8_right 64 = .ok (.iadd, 1) := by decide +kernel
theorem dX8_right_65 : decode cX8_right 65 = .ok (.iaload, 1) := by decide +kernel
theorem dX8_right_66 : decode cX8_right 66 = .ok (.aload_n 0, 1) := by decide +kernel
theorem dX8_right_67 : decode cX8_right 67 = .ok (.iload_n 1, 1) := by decide +kernel
theorem dX8_right_68 : decode cX8_right 68 = .ok (.invokevirtual 168, 3) := by decide +kernel
theorem dX8_right_71 : decode cX8_right 71 = .ok (.iconst 1, 1) := by decide +kernel
theorem dX8_right_72 : decode cX8_right 72 = .ok (.iload_n 2, 1) := by decide +kernel
theorem dX8_right_73 : decode cX8_right 73 = .ok (.ishl, 1) := by decide +kernel
theorem dX8_right_74 : decode cX8_right 74 = .ok (.ixor, 1) := by decide +kernel
theorem dX8_right_75 : decode cX8_right 75 = .ok (.iconst 0, 1) := by decide +kernel
theorem dX8_right_76 : decode cX8_right 76 = .ok (.invokestatic 209, 3) := by decide +kernel
theorem dX8_right_79 : decode cX8_right 79 = .ok (.iaload, 1) := by decide +kernel
theorem dX8_right_80 : decode cX8_right 80 = .ok (.ireturn, 1) := by decide +kernel
theorem dX8_wrongOf_0 : decode cX8_wrongOf 0 = .ok (.iconst 0, 1) := by decide +kernel
theorem dX8_wrongOf_1 : decode cX8_wrongOf 1 = .ok (.istore_n 3, 1) := by decide +kernel
theorem dX8_wrongOf_2 : decode cX8_wrongOf 2 = .ok (.aload_n 0, 1) := by decide +kernel
theorem dX8_wrongOf_3 : decode cX8_wrongOf 3 = .ok (.iconst 0, 1) := by decide +kernel
theorem dX8_wrongOf_4 : decode cX8_wrongOf 4 = .ok (.putfield 236, 3) := by decide +kernel
theorem dX8_wrongOf_7 : decode cX8_wrongOf 7 = .ok (.aload_n 0, 1) := by decide +kernel
theorem dX8_wrongOf_8 : decode cX8_wrongOf 8 = .ok (.iconst 0, 1) := by decide +kernel
theorem dX8_wrongOf_9 : decode cX8_wrongOf 9 = .ok (.putfield 239, 3) := by decide +kernel
theorem dX8_wrongOf_12 : decode cX8_wrongOf 12 = .ok (.iconst 0, 1) := by decide +kernel
theorem dX8_wrongOf_13 : decode cX8_wrongOf 13 = .ok (.istore 4, 2) := by decide +kernel
theorem dX8_wrongOf_15 : decode cX8_wrongOf 15 = .ok (.iload 4, 2) := by decide +kernel
theorem dX8_wrongOf_17 : decode cX8_wrongOf 17 = .ok (.iload_n 2, 1) := by decide +kernel
theorem dX8_wrongOf_18 : decode cX8_wrongOf 18 = .ok (.if_icmp .ge 152, 3) := by decide +kernel
theorem dX8_wrongOf_21 : decode cX8_wrongOf 21 = .ok (.aload_n 0, 1) := by decide +kernel
theorem dX8_wrongOf_22 : decode cX8_wrongOf 22 = .ok (.getfield 29, 3) := by decide +kernel
theorem dX8_wrongOf_25 : decode cX8_wrongOf 25 = .ok (.bipush 40, 2) := by decide +kernel
theorem dX8_wrongOf_27 : decode cX8_wrongOf 27 = .ok (.iload_n 1, 1) := by decide +kernel
theorem dX8_wrongOf_28 : decode cX8_wrongOf 28 = .ok (.imul, 1) := by decide +kernel
theorem dX8_wrongOf_29 : decode cX8_wrongOf 29 = .ok (.iload 4, 2) := by decide +kernel
theorem dX8_wrongOf_31 : decode cX8_wrongOf 31 = .ok (.iadd, 1) := by decide +kernel
theorem dX8_wrongOf_32 : decode cX8_wrongOf 32 = .ok (.iaload, 1) := by decide +kernel
theorem dX8_wrongOf_33 : decode cX8_wrongOf 33 = .ok (.istore 5, 2) := by decide +kernel
theorem dX8_wrongOf_35 : decode cX8_wrongOf 35 = .ok (.iload 5, 2) := by decide +kernel
theorem dX8_wrongOf_37 : decode cX8_wrongOf 37 = .ok (.iconst 2, 1) := by decide +kernel
theorem dX8_wrongOf_38 : decode cX8_wrongOf 38 = .ok (.idiv, 1) := by decide +kernel
theorem dX8_wrongOf_39 : decode cX8_wrongOf 39 = .ok (.istore 6, 2) := by decide +kernel
theorem dX8_wrongOf_41 : decode cX8_wrongOf 41 = .ok (.iload 5, 2) := by decide +kernel
theorem dX8_wrongOf_43 : decode cX8_wrongOf 43 = .ok (.iconst 2, 1) := by decide +kernel
theorem dX8_wrongOf_44 : decode cX8_wrongOf 44 = .ok (.irem, 1) := by decide +kernel
theorem dX8_wrongOf_45 : decode cX8_wrongOf 45 = .ok (.istore 7, 2) := by decide +kernel
theorem dX8_wrongOf_47 : decode cX8_wrongOf 47 = .ok (.aload_n 0, 1) := by decide +kernel
theorem dX8_wrongOf_48 : decode cX8_wrongOf 48 = .ok (.iload 6, 2) := by decide +kernel
theorem dX8_wrongOf_50 : decode cX8_wrongOf 50 = .ok (.iconst 0, 1) := by decide +kernel
theorem dX8_wrongOf_51 : decode cX8_wrongOf 51 = .ok (.invokevirtual 154, 3) := by decide +kernel
theorem dX8_wrongOf_54 : decode cX8_wrongOf 54 = .ok (.iconst 1, 1) := by decide +kernel
theorem dX8_wrongOf_55 : decode cX8_wrongOf 55 = .ok (.iconst 2, 1) := by decide +kernel
theorem dX8_wrongOf_56 : decode cX8_wrongOf 56 = .ok (.invokestatic 50, 3) := by decide +kernel
theorem dX8_wrongOf_59 : decode cX8_wrongOf 59 = .ok (.istore 8, 2) := by decide +kernel
theorem dX8_wrongOf_61 : decode cX8_wrongOf 61 = .ok (.iload 8, 2) := by decide +kernel
theorem dX8_wrongOf_63 : decode cX8_wrongOf 63 = .ok (.ifCond .eq 29, 3) := by decide +kernel
theorem dX8_wrongOf_66 : decode cX8_wrongOf 66 = .ok (.aload_n 0, 1) := by decide +kernel
theorem dX8_wrongOf_67 : decode cX8_wrongOf 67 = .ok (.getfield 236, 3) := by decide +kernel
theorem dX8_wrongOf_70 : decode cX8_wrongOf 70 = .ok (.iload 6, 2) := by decide +kernel
theorem dX8_wrongOf_72 : decode cX8_wrongOf 72 = .ok (.invokestatic 158, 3) := by decide +kernel
theorem dX8_wrongOf_75 : decode cX8_wrongOf 75 = .ok (.ifCond .eq 17, 3) := by decide +kernel
theorem dX8_wrongOf_78 : decode cX8_wrongOf 78 = .ok (.iload_n 3, 1) := by decide +kernel
theorem dX8_wrongOf_79 : decode cX8_wrongOf 79 = .ok (.iload 6, 2) := by decide +kernel
theorem dX8_wrongOf_81 : decode cX8_wrongOf 81 = .ok (.ishr, 1) := by decide +kernel
theorem dX8_wrongOf_82 : decode cX8_wrongOf 82 = .ok (.iconst 1, 1) := by decide +kernel
theorem dX8_wrongOf_83 : decode cX8_wrongOf 83 = .ok (.iand, 1) := by decide +kernel
theorem dX8_wrongOf_84 : decode cX8_wrongOf 84 = .ok (.iload 7, 2) := by decide +kernel
theorem dX8_wrongOf_86 : decode cX8_wrongOf 86 = .ok (.if_icmp .ne 6, 3) := by decide +kernel
theorem dX8_wrongOf_89 : decode cX8_wrongOf 89 = .ok (.iload 4, 2) := by decide +kernel
theorem dX8_wrongOf_91 : decode cX8_wrongOf 91 = .ok (.ireturn, 1) := by decide +kernel
theorem dX8_wrongOf_92 : decode cX8_wrongOf 92 = .ok (.aload_n 0, 1) := by decide +kernel
theorem dX8_wrongOf_93 : decode cX8_wrongOf 93 = .ok (.dup, 1) := by decide +kernel
theorem dX8_wrongOf_94 : decode cX8_wrongOf 94 = .ok (.getfield 239, 3) := by decide +kernel
theorem dX8_wrongOf_97 : decode cX8_wrongOf 97 = .ok (.iload 8, 2) := by decide +kernel
theorem dX8_wrongOf_99 : decode cX8_wrongOf 99 = .ok (.ifCond .eq 23, 3) := by decide +kernel
theorem dX8_wrongOf_102 : decode cX8_wrongOf 102 = .ok (.aload_n 0, 1) := by decide +kernel
theorem dX8_wrongOf_103 : decode cX8_wrongOf 103 = .ok (.getfield 236, 3) := by decide +kernel
theorem dX8_wrongOf_106 : decode cX8_wrongOf 106 = .ok (.iload 6, 2) := by decide +kernel
theorem dX8_wrongOf_108 : decode cX8_wrongOf 108 = .ok (.invokestatic 158, 3) := by decide +kernel
theorem dX8_wrongOf_111 : decode cX8_wrongOf 111 = .ok (.ifCond .ne 11, 3) := by decide +kernel
theorem dX8_wrongOf_114 : decode cX8_wrongOf 114 = .ok (.iload 7, 2) := by decide +kernel
theorem dX8_wrongOf_116 : decode cX8_wrongOf 116 = .ok (.iload 6, 2) := by decide +kernel
theorem dX8_wrongOf_118 : decode cX8_wrongOf 118 = .ok (.ishl, 1) := by decide +kernel
theorem dX8_wrongOf_119 : decode cX8_wrongOf 119 = .ok (.goto 4, 3) := by decide +kernel
theorem dX8_wrongOf_122 : decode cX8_wrongOf 122 = .ok (.iconst 0, 1) := by decide +kernel
theorem dX8_wrongOf_123 : decode cX8_wrongOf 123 = .ok (.ior, 1) := by decide +kernel
theorem dX8_wrongOf_124 : decode cX8_wrongOf 124 = .ok (.putfield 239, 3) := by decide +kernel
theorem dX8_wrongOf_127 : decode cX8_wrongOf 127 = .ok (.aload_n 0, 1) := by decide +kernel
theorem dX8_wrongOf_128 : decode cX8_wrongOf 128 = .ok (.dup, 1) := by decide +kernel
theorem dX8_wrongOf_129 : decode cX8_wrongOf 129 = .ok (.getfield 236, 3) := by decide +kernel
theorem dX8_wrongOf_132 : decode cX8_wrongOf 132 = .ok (.iload 8, 2) := by decide +kernel
theorem dX8_wrongOf_134 : decode cX8_wrongOf 134 = .ok (.ifCond .eq 10, 3) := by decide +kernel
theorem dX8_wrongOf_137 : decode cX8_wrongOf 137 = .ok (.iconst 1, 1) := by decide +kernel
theorem dX8_wrongOf_138 : decode cX8_wrongOf 138 = .ok (.iload 6, 2) := by decide +kernel
theorem dX8_wrongOf_140 : decode cX8_wrongOf 140 = .ok (.ishl, 1) := by decide +kernel
theorem dX8_wrongOf_141 : decode cX8_wrongOf 141 = .ok (.goto 4, 3) := by decide +kernel
theorem dX8_wrongOf_144 : decode cX8_wrongOf 144 = .ok (.iconst 0, 1) := by decide +kernel
theorem dX8_wrongOf_145 : decode cX8_wrongOf 145 = .ok (.ior, 1) := by decide +kernel
theorem dX8_wrongOf_146 : decode cX8_wrongOf 146 = .ok (.putfield 236, 3) := by decide +kernel
theorem dX8_wrongOf_149 : decode cX8_wrongOf 149 = .ok (.iload_n 3, 1) := by decide +kernel
theorem dX8_wrongOf_150 : decode cX8_wrongOf 150 = .ok (.iconst 1, 1) := by decide +kernel
theorem dX8_wrongOf_151 : decode cX8_wrongOf 151 = .ok (.iload 6, 2) := by decide +kernel
theorem dX8_wrongOf_153 : decode cX8_wrongOf 153 = .ok (.ishl, 1) := by decide +kernel
theorem dX8_wrongOf_154 : decode cX8_wrongOf 154 = .ok (.iconst (-1), 1) := by decide +kernel
theorem dX8_wrongOf_155 : decode cX8_wrongOf 155 = .ok (.ixor, 1) := by decide +kernel
theorem dX8_wrongOf_156 : decode cX8_wrongOf 156 = .ok (.iand, 1) := by decide +kernel
theorem dX8_wrongOf_157 : decode cX8_wrongOf 157 = .ok (.iload 7, 2) := by decide +kernel
theorem dX8_wrongOf_159 : decode cX8_wrongOf 159 = .ok (.iload 6, 2) := by decide +kernel
theorem dX8_wrongOf_161 : decode cX8_wrongOf 161 = .ok (.ishl, 1) := by decide +kernel
theorem dX8_wrongOf_162 : decode cX8_wrongOf 162 = .ok (.ior, 1) := by decide +kernel
theorem dX8_wrongOf_163 : decode cX8_wrongOf 163 = .ok (.istore_n 3, 1) := by decide +kernel
theorem dX8_wrongOf_164 : decode cX8_wrongOf 164 = .ok (.iinc 4 1, 3) := by decide +kernel
theorem dX8_wrongOf_167 : decode cX8_wrongOf 167 = .ok (.goto (-152), 3) := by decide +kernel
theorem dX8_wrongOf_170 : decode cX8_wrongOf 170 = .ok (.ldc 44, 2) := by decide +kernel
theorem dX8_wrongOf_172 : decode cX8_wrongOf 172 = .ok (.ireturn, 1) := by decide +kernel
theorem dX8_areSteps_0 : decode cX8_areSteps 0 = .ok (.iconst 1, 1) := by decide +kernel
theorem dX8_areSteps_1 : decode cX8_areSteps 1 = .ok (.istore_n 3, 1) := by decide +kernel
theorem dX8_areSteps_2 : decode cX8_areSteps 2 = .ok (.iconst 0, 1) := by decide +kernel
theorem dX8_areSteps_3 : decode cX8_areSteps 3 = .ok (.istore 4, 2) := by decide +kernel
theorem dX8_areSteps_5 : decode cX8_areSteps 5 = .ok (.iload 4, 2) := by decide +kernel
theorem dX8_areSteps_7 : decode cX8_areSteps 7 = .ok (.iload_n 2, 1) := by decide +kernel
theorem dX8_areSteps_8 : decode cX8_areSteps 8 = .ok (.if_icmp .ge 48, 3) := by decide +kernel
theorem dX8_areSteps_11 : decode cX8_areSteps 11 = .ok (.iload_n 3, 1) := by decide +kernel
theorem dX8_areSteps_12 : decode cX8_areSteps 12 = .ok (.ifCond .eq 36, 3) := by decide +kernel
theorem dX8_areSteps_15 : decode cX8_areSteps 15 = .ok (.aload_n 0, 1) := by decide +kernel
theorem dX8_areSteps_16 : decode cX8_areSteps 16 = .ok (.getfield 29, 3) := by decide +kernel
theorem dX8_areSteps_19 : decode cX8_areSteps 19 = .ok (.bipush 40, 2) := by decide +kernel
theorem dX8_areSteps_21 : decode cX8_areSteps 21 = .ok (.iload_n 1, 1) := by decide +kernel
theorem dX8_areSteps_22 : decode cX8_areSteps 22 = .ok (.imul, 1) := by decide +kernel
theorem dX8_areSteps_23 : decode cX8_areSteps 23 = .ok (.iload 4, 2) := by decide +kernel
theorem dX8_areSteps_25 : decode cX8_areSteps 25 = .ok (.iadd, 1) := by decide +kernel
theorem dX8_areSteps_26 : decode cX8_areSteps 26 = .ok (.iaload, 1) := by decide +kernel
theorem dX8_areSteps_27 : decode cX8_areSteps 27 = .ok (.iconst 0, 1) := by decide +kernel
theorem dX8_areSteps_28 : decode cX8_areSteps 28 = .ok (.iconst 2, 1) := by decide +kernel
theorem dX8_areSteps_29 : decode cX8_areSteps 29 = .ok (.aload_n 0, 1) := by decide +kernel
theorem dX8_areSteps_30 : decode cX8_areSteps 30 = .ok (.getfield 7, 3) := by decide +kernel
theorem dX8_areSteps_33 : decode cX8_areSteps 33 = .ok (.iconst 1, 1) := by decide +kernel
theorem dX8_areSteps_34 : decode cX8_areSteps 34 = .ok (.iaload, 1) := by decide +kernel
theorem dX8_areSteps_35 : decode cX8_areSteps 35 = .ok (.imul, 1) := by decide +kernel
theorem dX8_areSteps_36 : decode cX8_areSteps 36 = .ok (.iconst 1, 1) := by decide +kernel
theorem dX8_areSteps_37 : decode cX8_areSteps 37 = .ok (.isub, 1) := by decide +kernel
theorem dX8_areSteps_38 : decode cX8_areSteps 38 = .ok (.invokestatic 50, 3) := by decide +kernel
theorem dX8_areSteps_41 : decode cX8_areSteps 41 = .ok (.ifCond .eq 7, 3) := by decide +kernel
theorem dX8_areSteps_44 : decode cX8_areSteps 44 = .ok (.iconst 1, 1) := by decide +kernel
theorem dX8_areSteps_45 : decode cX8_areSteps 45 = .ok (.goto 4, 3) := by decide +kernel
theorem dX8_areSteps_48 : decode cX8_areSteps 48 = .ok (.iconst 0, 1) := by decide +kernel
theorem dX8_areSteps_49 : decode cX8_areSteps 49 = .ok (.istore_n 3, 1) := by decide +kernel
theorem dX8_areSteps_50 : decode cX8_areSteps 50 = .ok (.iinc 4 1, 3) := by decide +kernel
theorem dX8_areSteps_53 : decode cX8_areSteps 53 = .ok (.goto (-48), 3) := by decide +kernel
theorem dX8_areSteps_56 : decode cX8_areSteps 56 = .ok (.iload_n 3, 1) := by decide +kernel
theorem dX8_areSteps_57 : decode cX8_areSteps 57 = .ok (.ireturn, 1) := by decide +kernel
theorem dX8_fitsOf_0 : decode cX8_fitsOf 0 = .ok (.aload_n 0, 1) := by decide +kernel
theorem dX8_fitsOf_1 : decode cX8_fitsOf 1 = .ok (.iconst 1, 1) := by decide +kernel
theorem dX8_fitsOf_2 : decode cX8_fitsOf 2 = .ok (.invokevirtual 162, 3) := by decide +kernel
theorem dX8_fitsOf_5 : decode cX8_fitsOf 5 = .ok (.aload_n 0, 1) := by decide +kernel
theorem dX8_fitsOf_6 : decode cX8_fitsOf 6 = .ok (.iconst 2, 1) := by decide +kernel
theorem dX8_fitsOf_7 : decode cX8_fitsOf 7 = .ok (.invokevirtual 162, 3) := by decide +kernel
theorem dX8_fitsOf_10 : decode cX8_fitsOf 10 = .ok (.ior, 1) := by decide +kernel
theorem dX8_fitsOf_11 : decode cX8_fitsOf 11 = .ok (.aload_n 0, 1) := by decide +kernel
theorem dX8_fitsOf_12 : decode cX8_fitsOf 12 = .ok (.getfield 236, 3) := by decide +kernel
theorem dX8_fitsOf_15 : decode cX8_fitsOf 15 = .ok (.iconst (-1), 1) := by decide +kernel
theorem dX8_fitsOf_16 : decode cX8_fitsOf 16 = .ok (.ixor, 1) := by decide +kernel
theorem dX8_fitsOf_17 : decode cX8_fitsOf 17 = .ok (.iand, 1) := by decide +kernel
theorem dX8_fitsOf_18 : decode cX8_fitsOf 18 = .ok (.istore_n 1, 1) := by decide +kernel
theorem dX8_fitsOf_19 : decode cX8_fitsOf 19 = .ok (.iconst 1, 1) := by decide +kernel
theorem dX8_fitsOf_20 : decode cX8_fitsOf 20 = .ok (.istore_n 2, 1) := by decide +kernel
theorem dX8_fitsOf_21 : decode cX8_fitsOf 21 = .ok (.iconst 0, 1) := by decide +kernel
theorem dX8_fitsOf_22 : decode cX8_fitsOf 22 = .ok (.istore_n 3, 1) := by decide +kernel
theorem dX8_fitsOf_23 : decode cX8_fitsOf 23 = .ok (.iload_n 3, 1) := by decide +kernel
theorem dX8_fitsOf_24 : decode cX8_fitsOf 24 = .ok (.bipush 6, 2) := by decide +kernel
theorem dX8_fitsOf_26 : decode cX8_fitsOf 26 = .ok (.if_icmp .ge 25, 3) := by decide +kernel
theorem dX8_fitsOf_29 : decode cX8_fitsOf 29 = .ok (.iload_n 2, 1) := by decide +kernel
theorem dX8_fitsOf_30 : decode cX8_fitsOf 30 = .ok (.iload_n 1, 1) := by decide +kernel
theorem dX8_fitsOf_31 : decode cX8_fitsOf 31 = .ok (.iload_n 3, 1) := by decide +kernel
theorem dX8_fitsOf_32 : decode cX8_fitsOf 32 = .ok (.invokestatic 158, 3) := by decide +kernel
theorem dX8_fitsOf_35 : decode cX8_fitsOf 35 = .ok (.ifCond .eq 7, 3) := by decide +kernel
theorem dX8_fitsOf_38 : decode cX8_fitsOf 38 = .ok (.iconst 2, 1) := by decide +kernel
theorem dX8_fitsOf_39 : decode cX8_fitsOf 39 = .ok (.goto 4, 3) := by decide +kernel
theorem dX8_fitsOf_42 : decode cX8_fitsOf 42 = .ok (.iconst 1, 1) := by decide +kernel
theorem dX8_fitsOf_43 : decode cX8_fitsOf 43 = .ok (.imul, 1) := by decide +kernel
theorem dX8_fitsOf_44 : decode cX8_fitsOf 44 = .ok (.istore_n 2, 1) := by decide +kernel
theorem dX8_fitsOf_45 : decode cX8_fitsOf 45 = .ok (.iinc 3 1, 3) := by decide +kernel
theorem dX8_fitsOf_48 : decode cX8_fitsOf 48 = .ok (.goto (-25), 3) := by decide +kernel
theorem dX8_fitsOf_51 : decode cX8_fitsOf 51 = .ok (.iload_n 2, 1) := by decide +kernel
theorem dX8_fitsOf_52 : decode cX8_fitsOf 52 = .ok (.ireturn, 1) := by decide +kernel
theorem dX8_walk_0 : decode cX8_walk 0 = .ok (.aload_n 0, 1) := by decide +kernel
theorem dX8_walk_1 : decode cX8_walk 1 = .ok (.invokevirtual 191, 3) := by decide +kernel
theorem dX8_walk_4 : decode cX8_walk 4 = .ok (.ifCond .ne 6, 3) := by decide +kernel
theorem dX8_walk_7 : decode cX8_walk 7 = .ok (.ldc 184, 2) := by decide +kernel
theorem dX8_walk_9 : decode cX8_walk 9 = .ok (.ireturn, 1) := by decide +kernel
theorem dX8_walk_10 : decode cX8_walk 10 = .ok (.iload_n 1, 1) := by decide +kernel
theorem dX8_walk_11 : decode cX8_walk 11 = .ok (.invokestatic 54, 3) := by decide +kernel
theorem dX8_walk_14 : decode cX8_walk 14 = .ok (.ifCond .eq 22, 3) := by decide +kernel
theorem dX8_walk_17 : decode cX8_walk 17 = .ok (.iload_n 2, 1) := by decide +kernel
theorem dX8_walk_18 : decode cX8_walk 18 = .ok (.iconst 0, 1) := by decide +kernel
theorem dX8_walk_19 : decode cX8_walk 19 = .ok (.bipush 40, 2) := by decide +kernel
theorem dX8_walk_21 : decode cX8_walk 21 = .ok (.invokestatic 50, 3) := by decide +kernel
theorem dX8_walk_24 : decode cX8_walk 24 = .ok (.ifCond .eq 12, 3) := by decide +kernel
theorem dX8_walk_27 : decode cX8_walk 27 = .ok (.iload_n 3, 1) := by decide +kernel
theorem dX8_walk_28 : decode cX8_walk 28 = .ok (.iconst 0, 1) := by decide +kernel
theorem dX8_walk_29 : decode cX8_walk 29 = .ok (.iconst 2, 1) := by decide +kernel
theorem dX8_walk_30 : decode cX8_walk 30 = .ok (.invokestatic 50, 3) := by decide +kernel
theorem dX8_walk_33 : decode cX8_walk 33 = .ok (.ifCond .ne 6, 3) := by decide +kernel
theorem dX8_walk_36 : decode cX8_walk 36 = .ok (.ldc 58, 2) := by decide +kernel
theorem dX8_walk_38 : decode cX8_walk 38 = .ok (.ireturn, 1) := by decide +kernel
theorem dX8_walk_39 : decode cX8_walk 39 = .ok (.aload_n 0, 1) := by decide +kernel
theorem dX8_walk_40 : decode cX8_walk 40 = .ok (.getfield 23, 3) := by decide +kernel
theorem dX8_walk_43 : decode cX8_walk 43 = .ok (.iload_n 1, 1) := by decide +kernel
theorem dX8_walk_44 : decode cX8_walk 44 = .ok (.iaload, 1) := by decide +kernel
theorem dX8_walk_45 : decode cX8_walk 45 = .ok (.ldc 44, 2) := by decide +kernel
theorem dX8_walk_47 : decode cX8_walk 47 = .ok (.if_icmp .ne 9, 3) := by decide +kernel
theorem dX8_walk_50 : decode cX8_walk 50 = .ok (.aload_n 0, 1) := by decide +kernel
theorem dX8_walk_51 : decode cX8_walk 51 = .ok (.iconst 1, 1) := by decide +kernel
theorem dX8_walk_52 : decode cX8_walk 52 = .ok (.invokevirtual 59, 3) := by decide +kernel
theorem dX8_walk_55 : decode cX8_walk 55 = .ok (.ireturn, 1) := by decide +kernel
theorem dX8_walk_56 : decode cX8_walk 56 = .ok (.aload_n 0, 1) := by decide +kernel
theorem dX8_walk_57 : decode cX8_walk 57 = .ok (.getfield 26, 3) := by decide +kernel
theorem dX8_walk_60 : decode cX8_walk 60 = .ok (.iload_n 1, 1) := by decide +kernel
theorem dX8_walk_61 : decode cX8_walk 61 = .ok (.iaload, 1) := by decide +kernel
theorem dX8_walk_62 : decode cX8_walk 62 = .ok (.iload_n 2, 1) := by decide +kernel
theorem dX8_walk_63 : decode cX8_walk 63 = .ok (.if_icmp .ge 9, 3) := by decide +kernel
theorem dX8_walk_66 : decode cX8_walk 66 = .ok (.aload_n 0, 1) := by decide +kernel
theorem dX8_walk_67 : decode cX8_walk 67 = .ok (.iconst 2, 1) := by decide +kernel
theorem dX8_walk_68 : decode cX8_walk 68 = .ok (.invokevirtual 59, 3) := by decide +kernel
theorem dX8_walk_71 : decode cX8_walk 71 = .ok (.ireturn, 1) := by decide +kernel
theorem dX8_walk_72 : decode cX8_walk 72 = .ok (.aload_n 0, 1) := by decide +kernel
theorem dX8_walk_73 : decode cX8_walk 73 = .ok (.iload_n 1, 1) := by decide +kernel
theorem dX8_walk_74 : decode cX8_walk 74 = .ok (.iload_n 2, 1) := by decide +kernel
theorem dX8_walk_75 : decode cX8_walk 75 = .ok (.invokevirtual 242, 3) := by decide +kernel
theorem dX8_walk_78 : decode cX8_walk 78 = .ok (.ifCond .ne 6, 3) := by decide +kernel
theorem dX8_walk_81 : decode cX8_walk 81 = .ok (.ldc 58, 2) := by decide +kernel
theorem dX8_walk_83 : decode cX8_walk 83 = .ok (.ireturn, 1) := by decide +kernel
theorem dX8_walk_84 : decode cX8_walk 84 = .ok (.aload_n 0, 1) := by decide +kernel
theorem dX8_walk_85 : decode cX8_walk 85 = .ok (.iload_n 1, 1) := by decide +kernel
theorem dX8_walk_86 : decode cX8_walk 86 = .ok (.iload_n 2, 1) := by decide +kernel
theorem dX8_walk_87 : decode cX8_walk 87 = .ok (.invokevirtual 245, 3) := by decide +kernel
theorem dX8_walk_90 : decode cX8_walk 90 = .ok (.istore 4, 2) := by decide +kernel
theorem dX8_walk_92 : decode cX8_walk 92 = .ok (.iload 4, 2) := by decide +kernel
theorem dX8_walk_94 : decode cX8_walk 94 = .ok (.ldc 44, 2) := by decide +kernel
theorem dX8_walk_96 : decode cX8_walk 96 = .ok (.if_icmp .ne 10, 3) := by decide +kernel
theorem dX8_walk_99 : decode cX8_walk 99 = .ok (.aload_n 0, 1) := by decide +kernel
theorem dX8_walk_100 : decode cX8_walk 100 = .ok (.invokevirtual 248, 3) := by decide +kernel
theorem dX8_walk_103 : decode cX8_walk 103 = .ok (.goto 4, 3) := by decide +kernel
theorem dX8_walk_106 : decode cX8_walk 106 = .ok (.iconst 0, 1) := by decide +kernel
theorem dX8_walk_107 : decode cX8_walk 107 = .ok (.istore 5, 2) := by decide +kernel
theorem dX8_walk_109 : decode cX8_walk 109 = .ok (.iload 4, 2) := by decide +kernel
theorem dX8_walk_111 : decode cX8_walk 111 = .ok (.ldc 44, 2) := by decide +kernel
theorem dX8_walk_113 : decode cX8_walk 113 = .ok (.if_icmp .ne 10, 3) := by decide +kernel
theorem dX8_walk_116 : decode cX8_walk 116 = .ok (.aload_n 0, 1) := by decide +kernel
theorem dX8_walk_117 : decode cX8_walk 117 = .ok (.getfield 239, 3) := by decide +kernel
theorem dX8_walk_120 : decode cX8_walk 120 = .ok (.goto 5, 3) := by decide +kernel
theorem dX8_walk_123 : decode cX8_walk 123 = .ok (.ldc 44, 2) := by decide +kernel
theorem dX8_walk_125 : decode cX8_walk 125 = .ok (.istore 6, 2) := by decide +kernel
theorem dX8_walk_127 : decode cX8_walk 127 = .ok (.aload_n 0, 1) := by decide +kernel
theorem dX8_walk_128 : decode cX8_walk 128 = .ok (.iload_n 3, 1) := by decide +kernel
theorem dX8_walk_129 : decode cX8_walk 129 = .ok (.ifCond .ne 8, 3) := by decide +kernel
theorem dX8_walk_132 : decode cX8_walk 132 = .ok (.iload 5, 2) := by decide +kernel
theorem dX8_walk_134 : decode cX8_walk 134 = .ok (.goto 15, 3) := by decide +kernel
theorem dX8_walk_137 : decode cX8_walk 137 = .ok (.iload_n 3, 1) := by decide +kernel
theorem dX8_walk_138 : decode cX8_walk 138 = .ok (.iconst 1, 1) := by decide +kernel
theorem dX8_walk_139 : decode cX8_walk 139 = .ok (.if_icmp .ne 8, 3) := by decide +kernel
theorem dX8_walk_142 : decode cX8_walk 142 = .ok (.iload 6, 2) := by decide +kernel
theorem dX8_walk_144 : decode cX8_walk 144 = .ok (.goto 5, 3) := by decide +kernel
theorem dX8_walk_147 : decode cX8_walk 147 = .ok (.iload 4, 2) := by decide +kernel
theorem dX8_walk_149 : decode cX8_walk 149 = .ok (.invokevirtual 63, 3) := by decide +kernel
theorem dX8_walk_152 : decode cX8_walk 152 = .ok (.ireturn, 1) := by decide +kernel
theorem dX8_image_0 : decode cX8_image 0 = .ok (.iload_n 1, 1) := by decide +kernel
theorem dX8_image_1 : decode cX8_image 1 = .ok (.iconst 0, 1) := by decide +kernel
theorem dX8_image_2 : decode cX8_image 2 = .ok (.iconst 1, 1) := by decide +kernel
theorem dX8_image_3 : decode cX8_image 3 = .ok (.invokestatic 50, 3) := by decide +kernel
theorem dX8_image_6 : decode cX8_image 6 = .ok (.ifCond .ne 6, 3) := by decide +kernel
theorem dX8_image_9 : decode cX8_image 9 = .ok (.ldc 58, 2) := by decide +kernel
theorem dX8_image_11 : decode cX8_image 11 = .ok (.ireturn, 1) := by decide +kernel
theorem dX8_image_12 : decode cX8_image 12 = .ok (.aload_n 0, 1) := by decide +kernel
theorem dX8_image_13 : decode cX8_image 13 = .ok (.invokevirtual 191, 3) := by decide +kernel
theorem dX8_image_16 : decode cX8_image 16 = .ok (.ifCond .ne 6, 3) := by decide +kernel
theorem dX8_image_19 : decode cX8_image 19 = .ok (.ldc 184, 2) := by decide +kernel
theorem dX8_image_21 : decode cX8_image 21 = .ok (.ireturn, 1) := by decide +kernel
theorem dX8_image_22 : decode cX8_image 22 = .ok (.iconst 0, 1) := by decide +kernel
theorem dX8_image_23 : decode cX8_image 23 = .ok (.istore_n 2, 1) := by decide +kernel
theorem dX8_image_24 : decode cX8_image 24 = .ok (.iload_n 2, 1) := by decide +kernel
theorem dX8_image_25 : decode cX8_image 25 = .ok (.bipush 48, 2) := by decide +kernel
theorem dX8_image_27 : decode cX8_image 27 = .ok (.if_icmp .ge 26, 3) := by decide +kernel
theorem dX8_image_30 : decode cX8_image 30 = .ok (.aload_n 0, 1) := by decide +kernel
theorem dX8_image_31 : decode cX8_image 31 = .ok (.getfield 13, 3) := by decide +kernel
theorem dX8_image_34 : decode cX8_image 34 = .ok (.bipush 48, 2) := by decide +kernel
theorem dX8_image_36 : decode cX8_image 36 = .ok (.iload_n 1, 1) := by decide +kernel
theorem dX8_image_37 : decode cX8_image 37 = .ok (.imul, 1) := by decide +kernel
theorem dX8_image_38 : decode cX8_image 38 = .ok (.iload_n 2, 1) := by decide +kernel
theorem dX8_image_39 : decode cX8_image 39 = .ok (.iadd, 1) := by decide +kernel
theorem dX8_image_40 : decode cX8_image 40 = .ok (.aload_n 0, 1) := by decide +kernel
theorem dX8_image_41 : decode cX8_image 41 = .ok (.getfield 7, 3) := by decide +kernel
theorem dX8_image_44 : decode cX8_image 44 = .ok (.iload_n 2, 1) := by decide +kernel
theorem dX8_image_45 : decode cX8_image 45 = .ok (.iaload, 1) := by decide +kernel
theorem dX8_image_46 : decode cX8_image 46 = .ok (.iastore, 1) := by decide +kernel
theorem dX8_image_47 : decode cX8_image 47 = .ok (.iinc 2 1, 3) := by decide +kernel
theorem dX8_image_50 : decode cX8_image 50 = .ok (.goto (-26), 3) := by decide +kernel
theorem dX8_image_53 : decode cX8_image 53 = .ok (.aload_n 0, 1) := by decide +kernel
theorem dX8_image_54 : decode cX8_image 54 = .ok (.getfield 16, 3) := by decide +kernel
theorem dX8_image_57 : decode cX8_image 57 = .ok (.iload_n 1, 1) := by decide +kernel
theorem dX8_image_58 : decode cX8_image 58 = .ok (.iconst 1, 1) := by decide +kernel
theorem dX8_image_59 : decode cX8_image 59 = .ok (.bastore, 1) := by decide +kernel
theorem dX8_image_60 : decode cX8_image 60 = .ok (.iconst 1, 1) := by decide +kernel
theorem dX8_image_61 : decode cX8_image 61 = .ok (.ireturn, 1) := by decide +kernel
theorem dX8_restore_0 : decode cX8_restore 0 = .ok (.iload_n 1, 1) := by decide +kernel
theorem dX8_restore_1 : decode cX8_restore 1 = .ok (.iconst 0, 1) := by decide +kernel
theorem dX8_restore_2 : decode cX8_restore 2 = .ok (.iconst 1, 1) := by decide +kernel
theorem dX8_restore_3 : decode cX8_restore 3 = .ok (.invokestatic 50, 3) := by decide +kernel
theorem dX8_restore_6 : decode cX8_restore 6 = .ok (.ifCond .ne 6, 3) := by decide +kernel
theorem dX8_restore_9 : decode cX8_restore 9 = .ok (.ldc 58, 2) := by decide +kernel
theorem dX8_restore_11 : decode cX8_restore 11 = .ok (.ireturn, 1) := by decide +kernel
theorem dX8_restore_12 : decode cX8_restore 12 = .ok (.aload_n 0, 1) := by decide +kernel
theorem dX8_restore_13 : decode cX8_restore 13 = .ok (.getfield 16, 3) := by decide +kernel
theorem dX8_restore_16 : decode cX8_restore 16 = .ok (.iload_n 1, 1) := by decide +kernel
theorem dX8_restore_17 : decode cX8_restore 17 = .ok (.baload, 1) := by decide +kernel
theorem dX8_restore_18 : decode cX8_restore 18 = .ok (.ifCond .ne 6, 3) := by decide +kernel
theorem dX8_restore_21 : decode cX8_restore 21 = .ok (.ldc 184, 2) := by decide +kernel
theorem dX8_restore_23 : decode cX8_restore 23 = .ok (.ireturn, 1) := by decide +kernel
theorem dX8_restore_24 : decode cX8_restore 24 = .ok (.iconst 0, 1) := by decide +kernel
theorem dX8_restore_25 : decode cX8_restore 25 = .ok (.istore_n 2, 1) := by decide +kernel
theorem dX8_restore_26 : decode cX8_restore 26 = .ok (.iload_n 2, 1) := by decide +kernel
theorem dX8_restore_27 : decode cX8_restore 27 = .ok (.bipush 48, 2) := by decide +kernel
theorem dX8_restore_29 : decode cX8_restore 29 = .ok (.if_icmp .ge 26, 3) := by decide +kernel
theorem dX8_restore_32 : decode cX8_restore 32 = .ok (.aload_n 0, 1) := by decide +kernel
theorem dX8_restore_33 : decode cX8_restore 33 = .ok (.getfield 7, 3) := by decide +kernel
theorem dX8_restore_36 : decode cX8_restore 36 = .ok (.iload_n 2, 1) := by decide +kernel
theorem dX8_restore_37 : decode cX8_restore 37 = .ok (.aload_n 0, 1) := by decide +kernel
theorem dX8_restore_38 : decode cX8_restore 38 = .ok (.getfield 13, 3) := by decide +kernel
theorem dX8_restore_41 : decode cX8_restore 41 = .ok (.bipush 48, 2) := by decide +kernel
theorem dX8_restore_43 : decode cX8_restore 43 = .ok (.iload_n 1, 1) := by decide +kernel
theorem dX8_restore_44 : decode cX8_restore 44 = .ok (.imul, 1) := by decide +kernel
theorem dX8_restore_45 : decode cX8_restore 45 = .ok (.iload_n 2, 1) := by decide +kernel
theorem dX8_restore_46 : decode cX8_restore 46 = .ok (.iadd, 1) := by decide +kernel
theorem dX8_restore_47 : decode cX8_restore 47 = .ok (.iaload, 1) := by decide +kernel
theorem dX8_restore_48 : decode cX8_restore 48 = .ok (.iastore, 1) := by decide +kernel
theorem dX8_restore_49 : decode cX8_restore 49 = .ok (.iinc 2 1, 3) := by decide +kernel
theorem dX8_restore_52 : decode cX8_restore 52 = .ok (.goto (-26), 3) := by decide +kernel
theorem dX8_restore_55 : decode cX8_restore 55 = .ok (.aload_n 0, 1) := by decide +kernel
theorem dX8_restore_56 : decode cX8_restore 56 = .ok (.iconst 0, 1) := by decide +kernel
theorem dX8_restore_57 : decode cX8_restore 57 = .ok (.putfield 151, 3) := by decide +kernel
theorem dX8_restore_60 : decode cX8_restore 60 = .ok (.iconst 1, 1) := by decide +kernel
theorem dX8_restore_61 : decode cX8_restore 61 = .ok (.ireturn, 1) := by decide +kernel
theorem dX8_kind_0 : decode cX8_kind 0 = .ok (.aload_n 0, 1) := by decide +kernel
theorem dX8_kind_1 : decode cX8_kind 1 = .ok (.iload_n 1, 1) := by decide +kernel
theorem dX8_kind_2 : decode cX8_kind 2 = .ok (.invokevirtual 178, 3) := by decide +kernel
theorem dX8_kind_5 : decode cX8_kind 5 = .ok (.ifCond .eq 12, 3) := by decide +kernel
theorem dX8_kind_8 : decode cX8_kind 8 = .ok (.aload_n 0, 1) := by decide +kernel
theorem dX8_kind_9 : decode cX8_kind 9 = .ok (.iload_n 1, 1) := by decide +kernel
theorem dX8_kind_10 : decode cX8_kind 10 = .ok (.iconst 0, 1) := by decide +kernel
theorem dX8_kind_11 : decode cX8_kind 11 = .ok (.invokevirtual 154, 3) := by decide +kernel
theorem dX8_kind_14 : decode cX8_kind 14 = .ok (.goto 5, 3) := by decide +kernel
theorem dX8_kind_17 : decode cX8_kind 17 = .ok (.ldc 58, 2) := by decide +kernel
theorem dX8_kind_19 : decode cX8_kind 19 = .ok (.ireturn, 1) := by decide +kernel
theorem dX8_isA_0 : decode cX8_isA 0 = .ok (.iload_n 1, 1) := by decide +kernel
theorem dX8_isA_1 : decode cX8_isA 1 = .ok (.ifCond .eq 32, 3) := by decide +kernel
theorem dX8_isA_4 : decode cX8_isA 4 = .ok (.iload_n 0, 1) := by decide +kernel
theorem dX8_isA_5 : decode cX8_isA 5 = .ok (.iload_n 1, 1) := by decide +kernel
theorem dX8_isA_6 : decode cX8_isA 6 = .ok (.if_icmp .eq 27, 3) := by decide +kernel
theorem dX8_isA_9 : decode cX8_isA 9 = .ok (.iload_n 1, 1) := by decide +kernel
theorem dX8_isA_10 : decode cX8_isA 10 = .ok (.iconst 1, 1) := by decide +kernel
theorem dX8_isA_11 : decode cX8_isA 11 = .ok (.if_icmp .ne 8, 3) := by decide +kernel
theorem dX8_isA_14 : decode cX8_isA 14 = .ok (.iload_n 0, 1) := by decide +kernel
theorem dX8_isA_15 : decode cX8_isA 15 = .ok (.iconst 2, 1) := by decide +kernel
theorem dX8_isA_16 : decode cX8_isA 16 = .ok (.if_icmp .eq 17, 3) := by decide +kernel
theorem dX8_isA_19 : decode cX8_isA 19 = .ok (.iload_n 1, 1) := by decide +kernel
theorem dX8_isA_20 : decode cX8_isA 20 = .ok (.iconst 3, 1) := by decide +kernel
theorem dX8_isA_21 : decode cX8_isA 21 = .ok (.if_icmp .ne 16, 3) := by decide +kernel
theorem dX8_isA_24 : decode cX8_isA 24 = .ok (.iload_n 0, 1) := by decide +kernel
theorem dX8_isA_25 : decode cX8_isA 25 = .ok (.iconst 4, 1) := by decide +kernel
theorem dX8_isA_26 : decode cX8_isA 26 = .ok (.iconst 5, 1) := by decide +kernel
theorem dX8_isA_27 : decode cX8_isA 27 = .ok (.invokestatic 50, 3) := by decide +kernel
theorem dX8_isA_30 : decode cX8_isA 30 = .ok (.ifCond .eq 7, 3) := by decide +kernel
theorem dX8_isA_33 : decode cX8_isA 33 = .ok (.iconst 1, 1) := by decide +kernel
theorem dX8_isA_34 : decode cX8_isA 34 = .ok (.goto 4, 3) := by decide +kernel
theorem dX8_isA_37 : decode cX8_isA 37 = .ok (.iconst 0, 1) := by decide +kernel
theorem dX8_isA_38 : decode cX8_isA 38 = .ok (.ireturn, 1) := by decide +kernel
theorem dX8_as_0 : decode cX8_as 0 = .ok (.aload_n 0, 1) := by decide +kernel
theorem dX8_as_1 : decode cX8_as 1 = .ok (.iload_n 1, 1) := by decide +kernel
theorem dX8_as_2 : decode cX8_as 2 = .ok (.invokevirtual 178, 3) := by decide +kernel
theorem dX8_as_5 : decode cX8_as 5 = .ok (.ifCond .eq 12, 3) := by decide +kernel
theorem dX8_as_8 : decode cX8_as 8 = .ok (.iload_n 2, 1) := by decide +kernel
theorem dX8_as_9 : decode cX8_as 9 = .ok (.iconst 0, 1) := by decide +kernel
theorem dX8_as_10 : decode cX8_as 10 = .ok (.iconst 5, 1) := by decide +kernel
theorem dX8_as_11 : decode cX8_as 11 = .ok (.invokestatic 50, 3) := by decide +kernel
theorem dX8_as_14 : decode cX8_as 14 = .ok (.ifCond .ne 6, 3) := by decide +kernel
theorem dX8_as_17 : decode cX8_as 17 = .ok (.ldc 58, 2) := by decide +kernel
theorem dX8_as_19 : decode cX8_as 19 = .ok (.ireturn, 1) := by decide +kernel
theorem dX8_as_20 : decode cX8_as 20 = .ok (.aload_n 0, 1) := by decide +kernel
theorem dX8_as_21 : decode cX8_as 21 = .ok (.iload_n 1, 1) := by decide +kernel
theorem dX8_as_22 : decode cX8_as 22 = .ok (.iconst 0, 1) := by decide +kernel
theorem dX8_as_23 : decode cX8_as 23 = .ok (.invokevirtual 154, 3) := by decide +kernel
theorem dX8_as_26 : decode cX8_as 26 = .ok (.iload_n 2, 1) := by decide +kernel
theorem dX8_as_27 : decode cX8_as 27 = .ok (.invokestatic 251, 3) := by decide +kernel
theorem dX8_as_30 : decode cX8_as 30 = .ok (.ifCond .eq 11, 3) := by decide +kernel
theorem dX8_as_33 : decode cX8_as 33 = .ok (.aload_n 0, 1) := by decide +kernel
theorem dX8_as_34 : decode cX8_as 34 = .ok (.iload_n 1, 1) := by decide +kernel
theorem dX8_as_35 : decode cX8_as 35 = .ok (.invokevirtual 63, 3) := by decide +kernel
theorem dX8_as_38 : decode cX8_as 38 = .ok (.goto 8, 3) := by decide +kernel
theorem dX8_as_41 : decode cX8_as 41 = .ok (.aload_n 0, 1) := by decide +kernel
theorem dX8_as_42 : decode cX8_as 42 = .ok (.iconst 3, 1) := by decide +kernel
theorem dX8_as_43 : decode cX8_as 43 = .ok (.invokevirtual 59, 3) := by decide +kernel
theorem dX8_as_46 : decode cX8_as 46 = .ok (.ireturn, 1) := by decide +kernel
theorem dX8_begins_0 : decode cX8_begins 0 = .ok (.aload_n 0, 1) := by decide +kernel
theorem dX8_begins_1 : decode cX8_begins 1 = .ok (.getfield 254, 3) := by decide +kernel
theorem dX8_begins_4 : decode cX8_begins 4 = .ok (.bipush 16, 2) := by decide +kernel
theorem dX8_begins_6 : decode cX8_begins 6 = .ok (.if_icmp .ge 23, 3) := by decide +kernel
theorem dX8_begins_9 : decode cX8_begins 9 = .ok (.aload_n 0, 1) := by decide +kernel
theorem dX8_begins_10 : decode cX8_begins 10 = .ok (.getfield 41, 3) := by decide +kernel
theorem dX8_begins_13 : decode cX8_begins 13 = .ok (.aload_n 0, 1) := by decide +kernel
theorem dX8_begins_14 : decode cX8_begins 14 = .ok (.getfield 254, 3) := by decide +kernel
theorem dX8_begins_17 : decode cX8_begins 17 = .ok (.iload_n 1, 1) := by decide +kernel
theorem dX8_begins_18 : decode cX8_begins 18 = .ok (.iastore, 1) := by decide +kernel
theorem dX8_begins_19 : decode cX8_begins 19 = .ok (.aload_n 0, 1) := by decide +kernel
theorem dX8_begins_20 : decode cX8_begins 20 = .ok (.dup, 1) := by decide +kernel
theorem dX8_begins_21 : decode cX8_begins 21 = .ok (.getfield 254, 3) := by decide +kernel
theorem dX8_begins_24 : decode cX8_begins 24 = .ok (.iconst 1, 1) := by decide +kernel
theorem dX8_begins_25 : decode cX8_begins 25 = .ok (.iadd, 1) := by decide +kernel
theorem dX8_begins_26 : decode cX8_begins 26 = .ok (.putfield 254, 3) := by decide +kernel
theorem dX8_begins_29 : decode cX8_begins 29 = .ok (.return_, 1) := by decide +kernel
theorem dX8_lentSize_0 : decode cX8_lentSize 0 = .ok (.aload_n 0, 1) := by decide +kernel
theorem dX8_lentSize_1 : decode cX8_lentSize 1 = .ok (.bipush 10, 2) := by decide +kernel
theorem dX8_lentSize_3 : decode cX8_lentSize 3 = .ok (.invokevirtual 257, 3) := by decide +kernel
theorem dX8_lentSize_6 : decode cX8_lentSize 6 = .ok (.aload_n 0, 1) := by decide +kernel
theorem dX8_lentSize_7 : decode cX8_lentSize 7 = .ok (.iload_n 1, 1) := by decide +kernel
theorem dX8_lentSize_8 : decode cX8_lentSize 8 = .ok (.iconst 3, 1) := by decide +kernel
theorem dX8_lentSize_9 : decode cX8_lentSize 9 = .ok (.invokevirtual 154, 3) := by decide +kernel
theorem dX8_lentSize_12 : decode cX8_lentSize 12 = .ok (.ireturn, 1) := by decide +kernel
theorem dX8_lentMark_0 : decode cX8_lentMark 0 = .ok (.aload_n 0, 1) := by decide +kernel
theorem dX8_lentMark_1 : decode cX8_lentMark 1 = .ok (.bipush 20, 2) := by decide +kernel
theorem dX8_lentMark_3 : decode cX8_lentMark 3 = .ok (.invokevirtual 257, 3) := by decide +kernel
theorem dX8_lentMark_6 : decode cX8_lentMark 6 = .ok (.iload_n 1, 1) := by decide +kernel
theorem dX8_lentMark_7 : decode cX8_lentMark 7 = .ok (.ireturn, 1) := by decide +kernel
theorem dX8_bridgesMark_0 : decode cX8_bridgesMark 0 = .ok (.aload_n 0, 1) := by decide +kernel
theorem dX8_bridgesMark_1 : decode cX8_bridgesMark 1 = .ok (.bipush 21, 2) := by decide +kernel
theorem dX8_bridgesMark_3 : decode cX8_bridgesMark 3 = .ok (.invokevirtual 257, 3) := by decide +kernel
theorem dX8_bridgesMark_6 : decode cX8_bridgesMark 6 = .ok (.aload_n 0, 1) := by decide +kernel
theorem dX8_bridgesMark_7 : decode cX8_bridgesMark 7 = .ok (.iload_n 1, 1) := by decide +kernel
theorem dX8_bridgesMark_8 : decode cX8_bridgesMark 8 = .ok (.invokevirtual 261, 3) := by decide +kernel
theorem dX8_bridgesMark_11 : decode cX8_bridgesMark 11 = .ok (.aload_n 0, 1) := by decide +kernel
theorem dX8_bridgesMark_12 : decode cX8_bridgesMark 12 = .ok (.iload_n 1, 1) := by decide +kernel
theorem dX8_bridgesMark_13 : decode cX8_bridgesMark 13 = .ok (.iconst 1, 1) := by decide +kernel
theorem dX8_bridgesMark_14 : decode cX8_bridgesMark 14 = .ok (.invokevirtual 154, 3) := by decide +kernel
theorem dX8_bridgesMark_17 : decode cX8_bridgesMark 17 = .ok (.iadd, 1) := by decide +kernel
theorem dX8_bridgesMark_18 : decode cX8_bridgesMark 18 = .ok (.ireturn, 1) := by decide +kernel
theorem dX8_markOfBridges_0 : decode cX8_markOfBridges 0 = .ok (.aload_n 0, 1) := by decide +kernel
theorem dX8_markOfBridges_1 : decode cX8_markOfBridges 1 = .ok (.iload_n 1, 1) := by decide +kernel
theorem dX8_markOfBridges_2 : decode cX8_markOfBridges 2 = .ok (.iconst 0, 1) := by decide +kernel
theorem dX8_markOfBridges_3 : decode cX8_markOfBridges 3 = .ok (.invokevirtual 154, 3) := by decide +kernel
theorem dX8_markOfBridges_6 : decode cX8_markOfBridges 6 = .ok (.iconst 2, 1) := by decide +kernel
theorem dX8_markOfBridges_7 : decode cX8_markOfBridges 7 = .ok (.if_icmp .ne 19, 3) := by decide +kernel
theorem dX8_markOfBridges_10 : decode cX8_markOfBridges 10 = .ok (.aload_n 0, 1) := by decide +kernel
theorem dX8_markOfBridges_11 : decode cX8_markOfBridges 11 = .ok (.bipush 22, 2) := by decide +kernel
theorem dX8_markOfBridges_13 : decode cX8_markOfBridges 13 = .ok (.invokevirtual 257, 3) := by decide +kernel
theorem dX8_markOfBridges_16 : decode cX8_markOfBridges 16 = .ok (.aload_n 0, 1) := by decide +kernel
theorem dX8_markOfBridges_17 : decode cX8_markOfBridges 17 = .ok (.iload_n 1, 1) := by decide +kernel
theorem dX8_markOfBridges_18 : decode cX8_markOfBridges 18 = .ok (.invokevirtual 264, 3) := by decide +kernel
theorem dX8_markOfBridges_21 : decode cX8_markOfBridges 21 = .ok (.sipush 1000, 3) := by decide +kernel
theorem dX8_markOfBridges_24 : decode cX8_markOfBridges 24 = .ok (.isub, 1) := by decide +kernel
theorem dX8_markOfBridges_25 : decode cX8_markOfBridges 25 = .ok (.ireturn, 1) := by decide +kernel
theorem dX8_markOfBridges_26 : decode cX8_markOfBridges 26 = .ok (.aload_n 0, 1) := by decide +kernel
theorem dX8_markOfBridges_27 : decode cX8_markOfBridges 27 = .ok (.iload_n 1, 1) := by decide +kernel
theorem dX8_markOfBridges_28 : decode cX8_markOfBridges 28 = .ok (.invokevirtual 264, 3) := by decide +kernel
theorem dX8_markOfBridges_31 : decode cX8_markOfBridges 31 = .ok (.ireturn, 1) := by decide +kernel
theorem dX8_bridgesSize_0 : decode cX8_bridgesSize 0 = .ok (.aload_n 0, 1) := by decide +kernel
theorem dX8_bridgesSize_1 : decode cX8_bridgesSize 1 = .ok (.bipush 11, 2) := by decide +kernel
theorem dX8_bridgesSize_3 : decode cX8_bridgesSize 3 = .ok (.invokevirtual 257, 3) := by decide +kernel
theorem dX8_bridgesSize_6 : decode cX8_bridgesSize 6 = .ok (.aload_n 0, 1) := by decide +kernel
theorem dX8_bridgesSize_7 : decode cX8_bridgesSize 7 = .ok (.iload_n 1, 1) := by decide +kernel
theorem dX8_bridgesSize_8 : decode cX8_bridgesSize 8 = .ok (.invokevirtual 267, 3) := by decide +kernel
theorem dX8_bridgesSize_11 : decode cX8_bridgesSize 11 = .ok (.istore_n 2, 1) := by decide +kernel
theorem dX8_bridgesSize_12 : decode cX8_bridgesSize 12 = .ok (.iload_n 2, 1) := by decide +kernel
theorem dX8_bridgesSize_13 : decode cX8_bridgesSize 13 = .ok (.aload_n 0, 1) := by decide +kernel
theorem dX8_bridgesSize_14 : decode cX8_bridgesSize 14 = .ok (.iload_n 1, 1) := by decide +kernel
theorem dX8_bridgesSize_15 : decode cX8_bridgesSize 15 = .ok (.invokevirtual 270, 3) := by decide +kernel
theorem dX8_bridgesSize_18 : decode cX8_bridgesSize 18 = .ok (.iadd, 1) := by decide +kernel
theorem dX8_bridgesSize_19 : decode cX8_bridgesSize 19 = .ok (.ireturn, 1) := by decide +kernel
theorem dX8_fordsSize_0 : decode cX8_fordsSize 0 = .ok (.aload_n 0, 1) := by decide +kernel
theorem dX8_fordsSize_1 : decode cX8_fordsSize 1 = .ok (.bipush 13, 2) := by decide +kernel
theorem dX8_fordsSize_3 : decode cX8_fordsSize 3 = .ok (.invokevirtual 257, 3) := by decide +kernel
theorem dX8_fordsSize_6 : decode cX8_fordsSize 6 = .ok (.aload_n 0, 1) := by decide +kernel
theorem dX8_fordsSize_7 : decode cX8_fordsSize 7 = .ok (.iload_n 1, 1) := by decide +kernel
theorem dX8_fordsSize_8 : decode cX8_fordsSize 8 = .ok (.invokevirtual 267, 3) := by decide +kernel
theorem dX8_fordsSize_11 : decode cX8_fordsSize 11 = .ok (.bipush 100, 2) := by decide +kernel
theorem dX8_fordsSize_13 : decode cX8_fordsSize 13 = .ok (.isub, 1) := by decide +kernel
theorem dX8_fordsSize_14 : decode cX8_fordsSize 14 = .ok (.ireturn, 1) := by decide +kernel
theorem dX8_sizeOfFords_0 : decode cX8_sizeOfFords 0 = .ok (.aload_n 0, 1) := by decide +kernel
theorem dX8_sizeOfFords_1 : decode cX8_sizeOfFords 1 = .ok (.iload_n 1, 1) := by decide +kernel
theorem dX8_sizeOfFords_2 : decode cX8_sizeOfFords 2 = .ok (.iconst 0, 1) := by decide +kernel
theorem dX8_sizeOfFords_3 : decode cX8_sizeOfFords 3 = .ok (.invokevirtual 154, 3) := by decide +kernel
theorem dX8_sizeOfFords_6 : decode cX8_sizeOfFords 6 = .ok (.iconst 4, 1) := by decide +kernel
theorem dX8_sizeOfFords_7 : decode cX8_sizeOfFords 7 = .ok (.if_icmp .ne 17, 3) := by decide +kernel
theorem dX8_sizeOfFords_10 : decode cX8_sizeOfFords 10 = .ok (.aload_n 0, 1) := by decide +kernel
theorem dX8_sizeOfFords_11 : decode cX8_sizeOfFords 11 = .ok (.bipush 14, 2) := by decide +kernel
theorem dX8_sizeOfFords_13 : decode cX8_sizeOfFords 13 = .ok (.invokevirtual 257, 3) := by decide +kernel
theorem dX8_sizeOfFords_16 : decode cX8_sizeOfFords 16 = .ok (.iconst 2, 1) := by decide +kernel
theorem dX8_sizeOfFords_17 : decode cX8_sizeOfFords 17 = .ok (.aload_n 0, 1) := by decide +kernel
theorem dX8_sizeOfFords_18 : decode cX8_sizeOfFords 18 = .ok (.iload_n 1, 1) := by decide +kernel
theorem dX8_sizeOfFords_19 : decode cX8_sizeOfFords 19 = .ok (.invokevirtual 273, 3) := by decide +kernel
theorem dX8_sizeOfFords_22 : decode cX8_sizeOfFords 22 = .ok (.imul, 1) := by decide +kernel
theorem dX8_sizeOfFords_23 : decode cX8_sizeOfFords 23 = .ok (.ireturn, 1) := by decide +kernel
theorem dX8_sizeOfFords_24 : decode cX8_sizeOfFords 24 = .ok (.aload_n 0, 1) := by decide +kernel
theorem dX8_sizeOfFords_25 : decode cX8_sizeOfFords 25 = .ok (.iload_n 1, 1) := by decide +kernel
theorem dX8_sizeOfFords_26 : decode cX8_sizeOfFords 26 = .ok (.invokevirtual 273, 3) := by decide +kernel
theorem dX8_sizeOfFords_29 : decode cX8_sizeOfFords 29 = .ok (.ireturn, 1) := by decide +kernel
theorem dX8_fordsMark_0 : decode cX8_fordsMark 0 = .ok (.aload_n 0, 1) := by decide +kernel
theorem dX8_fordsMark_1 : decode cX8_fordsMark 1 = .ok (.bipush 23, 2) := by decide +kernel
theorem dX8_fordsMark_3 : decode cX8_fordsMark 3 = .ok (.invokevirtual 257, 3) := by decide +kernel
theorem dX8_fordsMark_6 : decode cX8_fordsMark 6 = .ok (.aload_n 0, 1) := by decide +kernel
theorem dX8_fordsMark_7 : decode cX8_fordsMark 7 = .ok (.iload_n 1, 1) := by decide +kernel
theorem dX8_fordsMark_8 : decode cX8_fordsMark 8 = .ok (.invokevirtual 261, 3) := by decide +kernel
theorem dX8_fordsMark_11 : decode cX8_fordsMark 11 = .ok (.istore_n 2, 1) := by decide +kernel
theorem dX8_fordsMark_12 : decode cX8_fordsMark 12 = .ok (.iload_n 2, 1) := by decide +kernel
theorem dX8_fordsMark_13 : decode cX8_fordsMark 13 = .ok (.aload_n 0, 1) := by decide +kernel
theorem dX8_fordsMark_14 : decode cX8_fordsMark 14 = .ok (.iload_n 1, 1) := by decide +kernel
theorem dX8_fordsMark_15 : decode cX8_fordsMark 15 = .ok (.invokevirtual 276, 3) := by decide +kernel
theorem dX8_fordsMark_18 : decode cX8_fordsMark 18 = .ok (.isub, 1) := by decide +kernel
theorem dX8_fordsMark_19 : decode cX8_fordsMark 19 = .ok (.ireturn, 1) := by decide +kernel
theorem dX8_sizeOf_0 : decode cX8_sizeOf 0 = .ok (.aload_n 0, 1) := by decide +kernel
theorem dX8_sizeOf_1 : decode cX8_sizeOf 1 = .ok (.iload_n 1, 1) := by decide +kernel
theorem dX8_sizeOf_2 : decode cX8_sizeOf 2 = .ok (.iconst 0, 1) := by decide +kernel
theorem dX8_sizeOf_3 : decode cX8_sizeOf 3 = .ok (.invokevirtual 154, 3) := by decide +kernel
theorem dX8_sizeOf_6 : decode cX8_sizeOf 6 = .ok (.iconst 3, 1) := by decide +kernel
theorem dX8_sizeOf_7 : decode cX8_sizeOf 7 = .ok (.iconst 5, 1) := by decide +kernel
theorem dX8_sizeOf_8 : decode cX8_sizeOf 8 = .ok (.invokestatic 50, 3) := by decide +kernel
theorem dX8_sizeOf_11 : decode cX8_sizeOf 11 = .ok (.ifCond .eq 9, 3) := by decide +kernel
theorem dX8_sizeOf_14 : decode cX8_sizeOf 14 = .ok (.aload_n 0, 1) := by decide +kernel
theorem dX8_sizeOf_15 : decode cX8_sizeOf 15 = .ok (.iload_n 1, 1) := by decide +kernel
theorem dX8_sizeOf_16 : decode cX8_sizeOf 16 = .ok (.invokevirtual 276, 3) := by decide +kernel
theorem dX8_sizeOf_19 : decode cX8_sizeOf 19 = .ok (.ireturn, 1) := by decide +kernel
theorem dX8_sizeOf_20 : decode cX8_sizeOf 20 = .ok (.aload_n 0, 1) := by decide +kernel
theorem dX8_sizeOf_21 : decode cX8_sizeOf 21 = .ok (.iload_n 1, 1) := by decide +kernel
theorem dX8_sizeOf_22 : decode cX8_sizeOf 22 = .ok (.iconst 0, 1) := by decide +kernel
theorem dX8_sizeOf_23 : decode cX8_sizeOf 23 = .ok (.invokevirtual 154, 3) := by decide +kernel
theorem dX8_sizeOf_26 : decode cX8_sizeOf 26 = .ok (.iconst 2, 1) := by decide +kernel
theorem dX8_sizeOf_27 : decode cX8_sizeOf 27 = .ok (.if_icmp .ne 16, 3) := by decide +kernel
theorem dX8_sizeOf_30 : decode cX8_sizeOf 30 = .ok (.aload_n 0, 1) := by decide +kernel
theorem dX8_sizeOf_31 : decode cX8_sizeOf 31 = .ok (.bipush 12, 2) := by decide +kernel
theorem dX8_sizeOf_33 : decode cX8_sizeOf 33 = .ok (.invokevirtual 257, 3) := by decide +kernel
theorem dX8_sizeOf_36 : decode cX8_sizeOf 36 = .ok (.aload_n 0, 1) := by decide +kernel
theorem dX8_sizeOf_37 : decode cX8_sizeOf 37 = .ok (.iload_n 1, 1) := by decide +kernel
theorem dX8_sizeOf_38 : decode cX8_sizeOf 38 = .ok (.invokevirtual 279, 3) := by decide +kernel
theorem dX8_sizeOf_41 : decode cX8_sizeOf 41 = .ok (.ineg, 1) := by decide +kernel
theorem dX8_sizeOf_42 : decode cX8_sizeOf 42 = .ok (.ireturn, 1) := by decide +kernel
theorem dX8_sizeOf_43 : decode cX8_sizeOf 43 = .ok (.aload_n 0, 1) := by decide +kernel
theorem dX8_sizeOf_44 : decode cX8_sizeOf 44 = .ok (.iload_n 1, 1) := by decide +kernel
theorem dX8_sizeOf_45 : decode cX8_sizeOf 45 = .ok (.invokevirtual 279, 3) := by decide +kernel
theorem dX8_sizeOf_48 : decode cX8_sizeOf 48 = .ok (.ireturn, 1) := by decide +kernel
theorem dX8_markOf_0 : decode cX8_markOf 0 = .ok (.aload_n 0, 1) := by decide +kernel
theorem dX8_markOf_1 : decode cX8_markOf 1 = .ok (.iload_n 1, 1) := by decide +kernel
theorem dX8_markOf_2 : decode cX8_markOf 2 = .ok (.iconst 0, 1) := by decide +kernel
theorem dX8_markOf_3 : decode cX8_markOf 3 = .ok (.invokevirtual 154, 3) := by decide +kernel
theorem dX8_markOf_6 : decode cX8_markOf 6 = .ok (.iconst 3, 1) := by decide +kernel
theorem dX8_markOf_7 : decode cX8_markOf 7 = .ok (.iconst 5, 1) := by decide +kernel
theorem dX8_markOf_8 : decode cX8_markOf 8 = .ok (.invokestatic 50, 3) := by decide +kernel
theorem dX8_markOf_11 : decode cX8_markOf 11 = .ok (.ifCond .ne 9, 3) := by decide +kernel
theorem dX8_markOf_14 : decode cX8_markOf 14 = .ok (.aload_n 0, 1) := by decide +kernel
theorem dX8_markOf_15 : decode cX8_markOf 15 = .ok (.iload_n 1, 1) := by decide +kernel
theorem dX8_markOf_16 : decode cX8_markOf 16 = .ok (.invokevirtual 270, 3) := by decide +kernel
theorem dX8_markOf_19 : decode cX8_markOf 19 = .ok (.ireturn, 1) := by decide +kernel
theorem dX8_markOf_20 : decode cX8_markOf 20 = .ok (.aload_n 0, 1) := by decide +kernel
theorem dX8_markOf_21 : decode cX8_markOf 21 = .ok (.iload_n 1, 1) := by decide +kernel
theorem dX8_markOf_22 : decode cX8_markOf 22 = .ok (.iconst 0, 1) := by decide +kernel
theorem dX8_markOf_23 : decode cX8_markOf 23 = .ok (.invokevirtual 154, 3) := by decide +kernel
theorem dX8_markOf_26 : decode cX8_markOf 26 = .ok (.iconst 5, 1) := by decide +kernel
theorem dX8_markOf_27 : decode cX8_markOf 27 = .ok (.if_icmp .ne 17, 3) := by decide +kernel
theorem dX8_markOf_30 : decode cX8_markOf 30 = .ok (.aload_n 0, 1) := by decide +kernel
theorem dX8_markOf_31 : decode cX8_markOf 31 = .ok (.bipush 24, 2) := by decide +kernel
theorem dX8_markOf_33 : decode cX8_markOf 33 = .ok (.invokevirtual 257, 3) := by decide +kernel
theorem dX8_markOf_36 : decode cX8_markOf 36 = .ok (.iconst 2, 1) := by decide +kernel
theorem dX8_markOf_37 : decode cX8_markOf 37 = .ok (.aload_n 0, 1) := by decide +kernel
theorem dX8_markOf_38 : decode cX8_markOf 38 = .ok (.iload_n 1, 1) := by decide +kernel
theorem dX8_markOf_39 : decode cX8_markOf 39 = .ok (.invokevirtual 282, 3) := by decide +kernel
theorem dX8_markOf_42 : decode cX8_markOf 42 = .ok (.imul, 1) := by decide +kernel
theorem dX8_markOf_43 : decode cX8_markOf 43 = .ok (.ireturn, 1) := by decide +kernel
theorem dX8_markOf_44 : decode cX8_markOf 44 = .ok (.aload_n 0, 1) := by decide +kernel
theorem dX8_markOf_45 : decode cX8_markOf 45 = .ok (.iload_n 1, 1) := by decide +kernel
theorem dX8_markOf_46 : decode cX8_markOf 46 = .ok (.invokevirtual 282, 3) := by decide +kernel
theorem dX8_markOf_49 : decode cX8_markOf 49 = .ok (.ireturn, 1) := by decide +kernel
theorem dX8_ask_0 : decode cX8_ask 0 = .ok (.aload_n 0, 1) := by decide +kernel
theorem dX8_ask_1 : decode cX8_ask 1 = .ok (.iload_n 1, 1) := by decide +kernel
theorem dX8_ask_2 : decode cX8_ask 2 = .ok (.invokevirtual 178, 3) := by decide +kernel
theorem dX8_ask_5 : decode cX8_ask 5 = .ok (.ifCond .eq 12, 3) := by decide +kernel
theorem dX8_ask_8 : decode cX8_ask 8 = .ok (.iload_n 2, 1) := by decide +kernel
theorem dX8_ask_9 : decode cX8_ask 9 = .ok (.iconst 0, 1) := by decide +kernel
theorem dX8_ask_10 : decode cX8_ask 10 = .ok (.iconst 1, 1) := by decide +kernel
theorem dX8_ask_11 : decode cX8_ask 11 = .ok (.invokestatic 50, 3) := by decide +kernel
theorem dX8_ask_14 : decode cX8_ask 14 = .ok (.ifCond .ne 6, 3) := by decide +kernel
theorem dX8_ask_17 : decode cX8_ask 17 = .ok (.ldc 58, 2) := by decide +kernel
theorem dX8_ask_19 : decode cX8_ask 19 = .ok (.ireturn, 1) := by decide +kernel
theorem dX8_ask_20 : decode cX8_ask 20 = .ok (.aload_n 0, 1) := by decide +kernel
theorem dX8_ask_21 : decode cX8_ask 21 = .ok (.iconst 0, 1) := by decide +kernel
theorem dX8_ask_22 : decode cX8_ask 22 = .ok (.putfield 254, 3) := by decide +kernel
theorem dX8_ask_25 : decode cX8_ask 25 = .ok (.iload_n 2, 1) := by decide +kernel
theorem dX8_ask_26 : decode cX8_ask 26 = .ok (.ifCond .ne 11, 3) := by decide +kernel
theorem dX8_ask_29 : decode cX8_ask 29 = .ok (.aload_n 0, 1) := by decide +kernel
theorem dX8_ask_30 : decode cX8_ask 30 = .ok (.iload_n 1, 1) := by decide +kernel
theorem dX8_ask_31 : decode cX8_ask 31 = .ok (.invokevirtual 285, 3) := by decide +kernel
theorem dX8_ask_34 : decode cX8_ask 34 = .ok (.goto 8, 3) := by decide +kernel
theorem dX8_ask_37 : decode cX8_ask 37 = .ok (.aload_n 0, 1) := by decide +kernel
theorem dX8_ask_38 : decode cX8_ask 38 = .ok (.iload_n 1, 1) := by decide +kernel
theorem dX8_ask_39 : decode cX8_ask 39 = .ok (.invokevirtual 288, 3) := by decide +kernel
theorem dX8_ask_42 : decode cX8_ask 42 = .ok (.ireturn, 1) := by decide +kernel
theorem dX8_trace_0 : decode cX8_trace 0 = .ok (.iload_n 1, 1) := by decide +kernel
theorem dX8_trace_1 : decode cX8_trace 1 = .ok (.iconst 0, 1) := by decide +kernel
theorem dX8_trace_2 : decode cX8_trace 2 = .ok (.aload_n 0, 1) := by decide +kernel
theorem dX8_trace_3 : decode cX8_trace 3 = .ok (.getfield 254, 3) := by decide +kernel
theorem dX8_trace_6 : decode cX8_trace 6 = .ok (.iconst 1, 1) := by decide +kernel
theorem dX8_trace_7 : decode cX8_trace 7 = .ok (.isub, 1) := by decide +kernel
theorem dX8_trace_8 : decode cX8_trace 8 = .ok (.invokestatic 50, 3) := by decide +kernel
theorem dX8_trace_11 : decode cX8_trace 11 = .ok (.ifCond .eq 12, 3) := by decide +kernel
theorem dX8_trace_14 : decode cX8_trace 14 = .ok (.aload_n 0, 1) := by decide +kernel
theorem dX8_trace_15 : decode cX8_trace 15 = .ok (.getfield 41, 3) := by decide +kernel
theorem dX8_trace_18 : decode cX8_trace 18 = .ok (.iload_n 1, 1) := by decide +kernel
theorem dX8_trace_19 : decode cX8_trace 19 = .ok (.iaload, 1) := by decide +kernel
theorem dX8_trace_20 : decode cX8_trace 20 = .ok (.goto 5, 3) := by decide +kernel
theorem dX8_trace_23 : decode cX8_trace 23 = .ok (.ldc 44, 2) := by decide +kernel
theorem dX8_trace_25 : decode cX8_trace 25 = .ok (.ireturn, 1) := by decide +kernel
theorem dX8_count_0 : decode cX8_count 0 = .ok (.iconst 0, 1) := by decide +kernel
theorem dX8_count_1 : decode cX8_count 1 = .ok (.istore_n 2, 1) := by decide +kernel
theorem dX8_count_2 : decode cX8_count 2 = .ok (.iconst 0, 1) := by decide +kernel
theorem dX8_count_3 : decode cX8_count 3 = .ok (.istore_n 3, 1) := by decide +kernel
theorem dX8_count_4 : decode cX8_count 4 = .ok (.iload_n 3, 1) := by decide +kernel
theorem dX8_count_5 : decode cX8_count 5 = .ok (.bipush 8, 2) := by decide +kernel
theorem dX8_count_7 : decode cX8_count 7 = .ok (.if_icmp .ge 28, 3) := by decide +kernel
theorem dX8_count_10 : decode cX8_count 10 = .ok (.iload_n 2, 1) := by decide +kernel
theorem dX8_count_11 : decode cX8_count 11 = .ok (.aload_n 0, 1) := by decide +kernel
theorem dX8_count_12 : decode cX8_count 12 = .ok (.getfield 23, 3) := by decide +kernel
theorem dX8_count_15 : decode cX8_count 15 = .ok (.iload_n 3, 1) := by decide +kernel
theorem dX8_count_16 : decode cX8_count 16 = .ok (.iaload, 1) := by decide +kernel
theorem dX8_count_17 : decode cX8_count 17 = .ok (.ldc 44, 2) := by decide +kernel
theorem dX8_count_19 : decode cX8_count 19 = .ok (.if_icmp .ne 7, 3) := by decide +kernel
theorem dX8_count_22 : decode cX8_count 22 = .ok (.iconst 0, 1) := by decide +kernel
theorem dX8_count_23 : decode cX8_count 23 = .ok (.goto 4, 3) := by decide +kernel
theorem dX8_count_26 : decode cX8_count 26 = .ok (.iconst 1, 1) := by decide +kernel
theorem dX8_count_27 : decode cX8_count 27 = .ok (.iadd, 1) := by decide +kernel
theorem dX8_count_28 : decode cX8_count 28 = .ok (.istore_n 2, 1) := by decide +kernel
theorem dX8_count_29 : decode cX8_count 29 = .ok (.iinc 3 1, 3) := by decide +kernel
theorem dX8_count_32 : decode cX8_count 32 = .ok (.goto (-28), 3) := by decide +kernel
theorem dX8_count_35 : decode cX8_count 35 = .ok (.iload_n 1, 1) := by decide +kernel
theorem dX8_count_36 : decode cX8_count 36 = .ok (.tableswitch 103 0 7 #[48, 50, 57, 64, 71, 76, 84, 98], 48) := by decide +kernel
theorem dX8_count_84 : decode cX8_count 84 = .ok (.iload_n 2, 1) := by decide +kernel
theorem dX8_count_85 : decode cX8_count 85 = .ok (.ireturn, 1) := by decide +kernel
theorem dX8_count_86 : decode cX8_count 86 = .ok (.aload_n 0, 1) := by decide +kernel
theorem dX8_count_87 : decode cX8_count 87 = .ok (.getfield 7, 3) := by decide +kernel
theorem dX8_count_90 : decode cX8_count 90 = .ok (.iconst 1, 1) := by decide +kernel
theorem dX8_count_91 : decode cX8_count 91 = .ok (.iaload, 1) := by decide +kernel
theorem dX8_count_92 : decode cX8_count 92 = .ok (.ireturn, 1) := by decide +kernel
theorem dX8_count_93 : decode cX8_count 93 = .ok (.aload_n 0, 1) := by decide +kernel
theorem dX8_count_94 : decode cX8_count 94 = .ok (.getfield 7, 3) := by decide +kernel
theorem dX8_count_97 : decode cX8_count 97 = .ok (.iconst 2, 1) := by decide +kernel
theorem dX8_count_98 : decode cX8_count 98 = .ok (.iaload, 1) := by decide +kernel
theorem dX8_count_99 : decode cX8_count 99 = .ok (.ireturn, 1) := by decide +kernel
theorem dX8_count_100 : decode cX8_count 100 = .ok (.aload_n 0, 1) := by decide +kernel
theorem dX8_count_101 : decode cX8_count 101 = .ok (.getfield 7, 3) := by decide +kernel
theorem dX8_count_104 : decode cX8_count 104 = .ok (.iconst 3, 1) := by decide +kernel
theorem dX8_count_105 : decode cX8_count 105 = .ok (.iaload, 1) := by decide +kernel
theorem dX8_count_106 : decode cX8_count 106 = .ok (.ireturn, 1) := by decide +kernel
theorem dX8_count_107 : decode cX8_count 107 = .ok (.aload_n 0, 1) := by decide +kernel
theorem dX8_count_108 : decode cX8_count 108 = .ok (.getfield 151, 3) := by decide +kernel
theorem dX8_count_111 : decode cX8_count 111 = .ok (.ireturn, 1) := by decide +kernel
theorem dX8_count_112 : decode cX8_count 112 = .ok (.aload_n 0, 1) := by decide +kernel
theorem dX8_count_113 : decode cX8_count 113 = .ok (.getfield 7, 3) := by decide +kernel
theorem dX8_count_116 : decode cX8_count 116 = .ok (.bipush 47, 2) := by decide +kernel
theorem dX8_count_118 : decode cX8_count 118 = .ok (.iaload, 1) := by decide +kernel
theorem dX8_count_119 : decode cX8_count 119 = .ok (.ireturn, 1) := by decide +kernel
theorem dX8_count_120 : decode cX8_count 120 = .ok (.aload_n 0, 1) := by decide +kernel
theorem dX8_count_121 : decode cX8_count 121 = .ok (.getfield 7, 3) := by decide +kernel
theorem dX8_count_124 : decode cX8_count 124 = .ok (.bipush 41, 2) := by decide +kernel
theorem dX8_count_126 : decode cX8_count 126 = .ok (.iaload, 1) := by decide +kernel
theorem dX8_count_127 : decode cX8_count 127 = .ok (.aload_n 0, 1) := by decide +kernel
theorem dX8_count_128 : decode cX8_count 128 = .ok (.iconst 2, 1) := by decide +kernel
theorem dX8_count_129 : decode cX8_count 129 = .ok (.invokevirtual 162, 3) := by decide +kernel
theorem dX8_count_132 : decode cX8_count 132 = .ok (.iand, 1) := by decide +kernel
theorem dX8_count_133 : decode cX8_count 133 = .ok (.ireturn, 1) := by decide +kernel
theorem dX8_count_134 : decode cX8_count 134 = .ok (.aload_n 0, 1) := by decide +kernel
theorem dX8_count_135 : decode cX8_count 135 = .ok (.getfield 69, 3) := by decide +kernel
theorem dX8_count_138 : decode cX8_count 138 = .ok (.ireturn, 1) := by decide +kernel
theorem dX8_count_139 : decode cX8_count 139 = .ok (.ldc 58, 2) := by decide +kernel
theorem dX8_count_141 : decode cX8_count 141 = .ok (.ireturn, 1) := by decide +kernel
theorem dX8_status_0 : decode cX8_status 0 = .ok (.aload_n 0, 1) := by decide +kernel
theorem dX8_status_1 : decode cX8_status 1 = .ok (.getfield 45, 3) := by decide +kernel
theorem dX8_status_4 : decode cX8_status 4 = .ok (.ireturn, 1) := by decide +kernel
theorem dJ6_bitCount_0f7a4_0 : decode cJ6_bitCount_0f7a4 0 = .ok (.iload_n 0, 1) := by decide +kernel
theorem dJ6_bitCount_0f7a4_1 : decode cJ6_bitCount_0f7a4 1 = .ok (.iload_n 0, 1) := by decide +kernel
theorem dJ6_bitCount_0f7a4_2 : decode cJ6_bitCount_0f7a4 2 = .ok (.iconst 1, 1) := by decide +kernel
theorem dJ6_bitCount_0f7a4_3 : decode cJ6_bitCount_0f7a4 3 = .ok (.iushr, 1) := by decide +kernel
theorem dJ6_bitCount_0f7a4_4 : decode cJ6_bitCount_0f7a4 4 = .ok (.ldc_w 265, 3) := by decide +kernel
theorem dJ6_bitCount_0f7a4_7 : decode cJ6_bitCount_0f7a4 7 = .ok (.iand, 1) := by decide +kernel
theorem dJ6_bitCount_0f7a4_8 : decode cJ6_bitCount_0f7a4 8 = .ok (.isub, 1) := by decide +kernel
theorem dJ6_bitCount_0f7a4_9 : decode cJ6_bitCount_0f7a4 9 = .ok (.istore_n 0, 1) := by decide +kernel
theorem dJ6_bitCount_0f7a4_10 : decode cJ6_bitCount_0f7a4 10 = .ok (.iload_n 0, 1) := by decide +kernel
theorem dJ6_bitCount_0f7a4_11 : decode cJ6_bitCount_0f7a4 11 = .ok (.ldc_w 266, 3) := by decide +kernel
theorem dJ6_bitCount_0f7a4_14 : decode cJ6_bitCount_0f7a4 14 = .ok (.iand, 1) := by decide +kernel
theorem dJ6_bitCount_0f7a4_15 : decode cJ6_bitCount_0f7a4 15 = .ok (.iload_n 0, 1) := by decide +kernel
theorem dJ6_bitCount_0f7a4_16 : decode cJ6_bitCount_0f7a4 16 = .ok (.iconst 2, 1) := by decide +kernel
theorem dJ6_bitCount_0f7a4_17 : decode cJ6_bitCount_0f7a4 17 = .ok (.iushr, 1) := by decide +kernel
theorem dJ6_bitCount_0f7a4_18 : decode cJ6_bitCount_0f7a4 18 = .ok (.ldc_w 266, 3) := by decide +kernel
theorem dJ6_bitCount_0f7a4_21 : decode cJ6_bitCount_0f7a4 21 = .ok (.iand, 1) := by decide +kernel
theorem dJ6_bitCount_0f7a4_22 : decode cJ6_bitCount_0f7a4 22 = .ok (.iadd, 1) := by decide +kernel
theorem dJ6_bitCount_0f7a4_23 : decode cJ6_bitCount_0f7a4 23 = .ok (.istore_n 0, 1) := by decide +kernel
theorem dJ6_bitCount_0f7a4_24 : decode cJ6_bitCount_0f7a4 24 = .ok (.iload_n 0, 1) := by decide +kernel
theorem dJ6_bitCount_0f7a4_25 : decode cJ6_bitCount_0f7a4 25 = .ok (.iload_n 0, 1) := by decide +kernel
theorem dJ6_bitCount_0f7a4_26 : decode cJ6_bitCount_0f7a4 26 = .ok (.iconst 4, 1) := by decide +kernel
theorem dJ6_bitCount_0f7a4_27 : decode cJ6_bitCount_0f7a4 27 = .ok (.iushr, 1) := by decide +kernel
theorem dJ6_bitCount_0f7a4_28 : decode cJ6_bitCount_0f7a4 28 = .ok (.iadd, 1) := by decide +kernel
theorem dJ6_bitCount_0f7a4_29 : decode cJ6_bitCount_0f7a4 29 = .ok (.ldc_w 267, 3) := by decide +kernel
theorem dJ6_bitCount_0f7a4_32 : decode cJ6_bitCount_0f7a4 32 = .ok (.iand, 1) := by decide +kernel
theorem dJ6_bitCount_0f7a4_33 : decode cJ6_bitCount_0f7a4 33 = .ok (.istore_n 0, 1) := by decide +kernel
theorem dJ6_bitCount_0f7a4_34 : decode cJ6_bitCount_0f7a4 34 = .ok (.iload_n 0, 1) := by decide +kernel
theorem dJ6_bitCount_0f7a4_35 : decode cJ6_bitCount_0f7a4 35 = .ok (.iload_n 0, 1) := by decide +kernel
theorem dJ6_bitCount_0f7a4_36 : decode cJ6_bitCount_0f7a4 36 = .ok (.bipush 8, 2) := by decide +kernel
theorem dJ6_bitCount_0f7a4_38 : decode cJ6_bitCount_0f7a4 38 = .ok (.iushr, 1) := by decide +kernel
theorem dJ6_bitCount_0f7a4_39 : decode cJ6_bitCount_0f7a4 39 = .ok (.iadd, 1) := by decide +kernel
theorem dJ6_bitCount_0f7a4_40 : decode cJ6_bitCount_0f7a4 40 = .ok (.istore_n 0, 1) := by decide +kernel
theorem dJ6_bitCount_0f7a4_41 : decode cJ6_bitCount_0f7a4 41 = .ok (.iload_n 0, 1) := by decide +kernel
theorem dJ6_bitCount_0f7a4_42 : decode cJ6_bitCount_0f7a4 42 = .ok (.iload_n 0, 1) := by decide +kernel
theorem dJ6_bitCount_0f7a4_43 : decode cJ6_bitCount_0f7a4 43 = .ok (.bipush 16, 2) := by decide +kernel
theorem dJ6_bitCount_0f7a4_45 : decode cJ6_bitCount_0f7a4 45 = .ok (.iushr, 1) := by decide +kernel
theorem dJ6_bitCount_0f7a4_46 : decode cJ6_bitCount_0f7a4 46 = .ok (.iadd, 1) := by decide +kernel
theorem dJ6_bitCount_0f7a4_47 : decode cJ6_bitCount_0f7a4 47 = .ok (.istore_n 0, 1) := by decide +kernel
theorem dJ6_bitCount_0f7a4_48 : decode cJ6_bitCount_0f7a4 48 = .ok (.iload_n 0, 1) := by decide +kernel
theorem dJ6_bitCount_0f7a4_49 : decode cJ6_bitCount_0f7a4 49 = .ok (.bipush 63, 2) := by decide +kernel
theorem dJ6_bitCount_0f7a4_51 : decode cJ6_bitCount_0f7a4 51 = .ok (.iand, 1) := by decide +kernel
theorem dJ6_bitCount_0f7a4_52 : decode cJ6_bitCount_0f7a4 52 = .ok (.ireturn, 1) := by decide +kernel
theorem dJ9_max_7cf53_0 : decode cJ9_max_7cf53 0 = .ok (.iload_n 0, 1) := by decide +kernel
theorem dJ9_max_7cf53_1 : decode cJ9_max_7cf53 1 = .ok (.iload_n 1, 1) := by decide +kernel
theorem dJ9_max_7cf53_2 : decode cJ9_max_7cf53 2 = .ok (.if_icmp .lt 7, 3) := by decide +kernel
theorem dJ9_max_7cf53_5 : decode cJ9_max_7cf53 5 = .ok (.iload_n 0, 1) := by decide +kernel
theorem dJ9_max_7cf53_6 : decode cJ9_max_7cf53 6 = .ok (.goto 4, 3) := by decide +kernel
theorem dJ9_max_7cf53_9 : decode cJ9_max_7cf53 9 = .ok (.iload_n 1, 1) := by decide +kernel
theorem dJ9_max_7cf53_10 : decode cJ9_max_7cf53 10 = .ok (.ireturn, 1) := by decide +kernel
theorem dJ9_min_7cf53_0 : decode cJ9_min_7cf53 0 = .ok (.iload_n 0, 1) := by decide +kernel
theorem dJ9_min_7cf53_1 : decode cJ9_min_7cf53 1 = .ok (.iload_n 1, 1) := by decide +kernel
theorem dJ9_min_7cf53_2 : decode cJ9_min_7cf53 2 = .ok (.if_icmp .gt 7, 3) := by decide +kernel
theorem dJ9_min_7cf53_5 : decode cJ9_min_7cf53 5 = .ok (.iload_n 0, 1) := by decide +kernel
theorem dJ9_min_7cf53_6 : decode cJ9_min_7cf53 6 = .ok (.goto 4, 3) := by decide +kernel
theorem dJ9_min_7cf53_9 : decode cJ9_min_7cf53 9 = .ok (.iload_n 1, 1) := by decide +kernel
theorem dJ9_min_7cf53_10 : decode cJ9_min_7cf53 10 = .ok (.ireturn, 1) := by decide +kernel
theorem dJ0_length_8abf5_0 : decode cJ0_length_8abf5 0 = .ok (.aload_n 0, 1) := by decide +kernel
theorem dJ0_length_8abf5_1 : decode cJ0_length_8abf5 1 = .ok (.getfield 9, 3) := by decide +kernel
theorem dJ0_length_8abf5_4 : decode cJ0_length_8abf5 4 = .ok (.arraylength, 1) := by decide +kernel
theorem dJ0_length_8abf5_5 : decode cJ0_length_8abf5 5 = .ok (.aload_n 0, 1) := by decide +kernel
theorem dJ0_length_8abf5_6 : decode cJ0_length_8abf5 6 = .ok (.invokevirtual 335, 3) := by decide +kernel
theorem dJ0_length_8abf5_9 : decode cJ0_length_8abf5 9 = .ok (.ishr, 1) := by decide +kernel
theorem dJ0_length_8abf5_10 : decode cJ0_length_8abf5 10 = .ok (.ireturn, 1) := by decide +kernel
theorem dJ0_charAt_5068e_0 : decode cJ0_charAt_5068e 0 = .ok (.aload_n 0, 1) := by decide +kernel
theorem dJ0_charAt_5068e_1 : decode cJ0_charAt_5068e 1 = .ok (.invokevirtual 492, 3) := by decide +kernel
theorem dJ0_charAt_5068e_4 : decode cJ0_charAt_5068e 4 = .ok (.ifCond .eq 12, 3) := by decide +kernel
theorem dJ0_charAt_5068e_7 : decode cJ0_charAt_5068e 7 = .ok (.aload_n 0, 1) := by decide +kernel
theorem dJ0_charAt_5068e_8 : decode cJ0_charAt_5068e 8 = .ok (.getfield 9, 3) := by decide +kernel
theorem dJ0_charAt_5068e_11 : decode cJ0_charAt_5068e 11 = .ok (.iload_n 1, 1) := by decide +kernel
theorem dJ0_charAt_5068e_12 : decode cJ0_charAt_5068e 12 = .ok (.invokestatic 495, 3) := by decide +kernel
theorem dJ0_charAt_5068e_15 : decode cJ0_charAt_5068e 15 = .ok (.ireturn, 1) := by decide +kernel
theorem dJ0_charAt_5068e_16 : decode cJ0_charAt_5068e 16 = .ok (.aload_n 0, 1) := by decide +kernel
theorem dJ0_charAt_5068e_17 : decode cJ0_charAt_5068e 17 = .ok (.getfield 9, 3) := by decide +kernel
theorem dJ0_charAt_5068e_20 : decode cJ0_charAt_5068e 20 = .ok (.iload_n 1, 1) := by decide +kernel
theorem dJ0_charAt_5068e_21 : decode cJ0_charAt_5068e 21 = .ok (.invokestatic 498, 3) := by decide +kernel
theorem dJ0_charAt_5068e_24 : decode cJ0_charAt_5068e 24 = .ok (.ireturn, 1) := by decide +kernel
theorem dJ0_coder_7d493_0 : decode cJ0_coder_7d493 0 = .ok (.getstatic 38, 3) := by decide +kernel
theorem dJ0_coder_7d493_3 : decode cJ0_coder_7d493 3 = .ok (.ifCond .eq 10, 3) := by decide +kernel
theorem dJ0_coder_7d493_6 : decode cJ0_coder_7d493 6 = .ok (.aload_n 0, 1) := by decide +kernel
theorem dJ0_coder_7d493_7 : decode cJ0_coder_7d493 7 = .ok (.getfield 15, 3) := by decide +kernel
theorem dJ0_coder_7d493_10 : decode cJ0_coder_7d493 10 = .ok (.goto 4, 3) := by decide +kernel
theorem dJ0_coder_7d493_13 : decode cJ0_coder_7d493 13 = .ok (.iconst 1, 1) := by decide +kernel
theorem dJ0_coder_7d493_14 : decode cJ0_coder_7d493 14 = .ok (.ireturn, 1) := by decide +kernel
theorem dJ0_isLatin1_aae02_0 : decode cJ0_isLatin1_aae02 0 = .ok (.getstatic 38, 3) := by decide +kernel
theorem dJ0_isLatin1_aae02_3 : decode cJ0_isLatin1_aae02 3 = .ok (.ifCond .eq 14, 3) := by decide +kernel
theorem dJ0_isLatin1_aae02_6 : decode cJ0_isLatin1_aae02 6 = .ok (.aload_n 0, 1) := by decide +kernel
theorem dJ0_isLatin1_aae02_7 : decode cJ0_isLatin1_aae02 7 = .ok (.getfield 15, 3) := by decide +kernel
theorem dJ0_isLatin1_aae02_10 : decode cJ0_isLatin1_aae02 10 = .ok (.ifCond .ne 7, 3) := by decide +kernel
theorem dJ0_isLatin1_aae02_13 : decode cJ0_isLatin1_aae02 13 = .ok (.iconst 1, 1) := by decide +kernel
theorem dJ0_isLatin1_aae02_14 : decode cJ0_isLatin1_aae02 14 = .ok (.goto 4, 3) := by decide +kernel
theorem dJ0_isLatin1_aae02_17 : decode cJ0_isLatin1_aae02 17 = .ok (.iconst 0, 1) := by decide +kernel
theorem dJ0_isLatin1_aae02_18 : decode cJ0_isLatin1_aae02 18 = .ok (.ireturn, 1) := by decide +kernel
theorem dJ0_checkIndex_df160_0 : decode cJ0_checkIndex_df160 0 = .ok (.iload_n 0, 1) := by decide +kernel
theorem dJ0_checkIndex_df160_1 : decode cJ0_checkIndex_df160 1 = .ok (.iload_n 1, 1) := by decide +kernel
theorem dJ0_checkIndex_df160_2 : decode cJ0_checkIndex_df160 2 = .ok (.getstatic 1053, 3) := by decide +kernel
theorem dJ0_checkIndex_df160_5 : decode cJ0_checkIndex_df160 5 = .ok (.invokestatic 1059, 3) := by decide +kernel
theorem dJ0_checkIndex_df160_8 : decode cJ0_checkIndex_df160 8 = .ok (.pop, 1) := by decide +kernel
theorem dJ0_checkIndex_df160_9 : decode cJ0_checkIndex_df160 9 = .ok (.return_, 1) := by decide +kernel
theorem dJ1_charAt_3b067_0 : decode cJ1_charAt_3b067 0 = .ok (.iload_n 1, 1) := by decide +kernel
theorem dJ1_charAt_3b067_1 : decode cJ1_charAt_3b067 1 = .ok (.aload_n 0, 1) := by decide +kernel
theorem dJ1_charAt_3b067_2 : decode cJ1_charAt_3b067 2 = .ok (.arraylength, 1) := by decide +kernel
theorem dJ1_charAt_3b067_3 : decode cJ1_charAt_3b067 3 = .ok (.invokestatic 9, 3) := by decide +kernel
theorem dJ1_charAt_3b067_6 : decode cJ1_charAt_3b067 6 = .ok (.aload_n 0, 1) := by decide +kernel
theorem dJ1_charAt_3b067_7 : decode cJ1_charAt_3b067 7 = .ok (.iload_n 1, 1) := by decide +kernel
theorem dJ1_charAt_3b067_8 : decode cJ1_charAt_3b067 8 = .ok (.baload, 1) := by decide +kernel
theorem dJ1_charAt_3b067_9 : decode cJ1_charAt_3b067 9 = .ok (.sipush 255, 3) := by decide +kernel
theorem dJ1_charAt_3b067_12 : decode cJ1_charAt_3b067 12 = .ok (.iand, 1) := by decide +kernel
theorem dJ1_charAt_3b067_13 : decode cJ1_charAt_3b067 13 = .ok (.i2c, 1) := by decide +kernel
theorem dJ1_charAt_3b067_14 : decode cJ1_charAt_3b067 14 = .ok (.ireturn, 1) := by decide +kernel
theorem dJ2_getChar_3b067_0 : decode cJ2_getChar_3b067 0 = .ok (.getstatic 44, 3) := by decide +kernel
theorem dJ2_getChar_3b067_3 : decode cJ2_getChar_3b067 3 = .ok (.ifCond .ne 25, 3) := by decide +kernel
theorem dJ2_getChar_3b067_6 : decode cJ2_getChar_3b067 6 = .ok (.iload_n 1, 1) := by decide +kernel
theorem dJ2_getChar_3b067_7 : decode cJ2_getChar_3b067 7 = .ok (.ifCond .lt 11, 3) := by decide +kernel
theorem dJ2_getChar_3b067_10 : decode cJ2_getChar_3b067 10 = .ok (.iload_n 1, 1) := by decide +kernel
theorem dJ2_getChar_3b067_11 : decode cJ2_getChar_3b067 11 = .ok (.aload_n 0, 1) := by decide +kernel
theorem dJ2_getChar_3b067_12 : decode cJ2_getChar_3b067 12 = .ok (.invokestatic 48, 3) := by decide +kernel
theorem dJ2_getChar_3b067_15 : decode cJ2_getChar_3b067 15 = .ok (.if_icmp .lt 13, 3) := by decide +kernel
theorem dJ2_getChar_3b067_18 : decode cJ2_getChar_3b067 18 = .ok (.new 52, 3) := by decide +kernel
theorem dJ2_getChar_3b067_21 : decode cJ2_getChar_3b067 21 = .ok (.dup, 1) := by decide +kernel
theorem dJ2_getChar_3b067_22 : decode cJ2_getChar_3b067 22 = .ok (.ldc 54, 2) := by decide +kernel
theorem dJ2_getChar_3b067_24 : decode cJ2_getChar_3b067 24 = .ok (.invokespecial 56, 3) := by decide +kernel
theorem dJ2_getChar_3b067_27 : decode cJ2_getChar_3b067 27 = .ok (.athrow, 1) := by decide +kernel
theorem dJ2_getChar_3b067_28 : decode cJ2_getChar_3b067 28 = .ok (.iload_n 1, 1) := by decide +kernel
theorem dJ2_getChar_3b067_29 : decode cJ2_getChar_3b067 29 = .ok (.iconst 1, 1) := by decide +kernel
theorem dJ2_getChar_3b067_30 : decode cJ2_getChar_3b067 30 = .ok (.ishl, 1) := by decide +kernel
theorem dJ2_getChar_3b067_31 : decode cJ2_getChar_3b067 31 = .ok (.istore_n 1, 1) := by decide +kernel
theorem dJ2_getChar_3b067_32 : decode cJ2_getChar_3b067 32 = .ok (.aload_n 0, 1) := by decide +kernel
theorem dJ2_getChar_3b067_33 : decode cJ2_getChar_3b067 33 = .ok (.iload_n 1, 1) := by decide +kernel
theorem dJ2_getChar_3b067_34 : decode cJ2_getChar_3b067 34 = .ok (.iinc 1 1, 3) := by decide +kernel
theorem dJ2_getChar_3b067_37 : decode cJ2_getChar_3b067 37 = .ok (.baload, 1) := by decide +kernel
theorem dJ2_getChar_3b067_38 : decode cJ2_getChar_3b067 38 = .ok (.sipush 255, 3) := by decide +kernel
theorem dJ2_getChar_3b067_41 : decode cJ2_getChar_3b067 41 = .ok (.iand, 1) := by decide +kernel
theorem dJ2_getChar_3b067_42 : decode cJ2_getChar_3b067 42 = .ok (.getstatic 59, 3) := by decide +kernel
theorem dJ2_getChar_3b067_45 : decode cJ2_getChar_3b067 45 = .ok (.ishl, 1) := by decide +kernel
theorem dJ2_getChar_3b067_46 : decode cJ2_getChar_3b067 46 = .ok (.aload_n 0, 1) := by decide +kernel
theorem dJ2_getChar_3b067_47 : decode cJ2_getChar_3b067 47 = .ok (.iload_n 1, 1) := by decide +kernel
theorem dJ2_getChar_3b067_48 : decode cJ2_getChar_3b067 48 = .ok (.baload, 1) := by decide +kernel
theorem dJ2_getChar_3b067_49 : decode cJ2_getChar_3b067 49 = .ok (.sipush 255, 3) := by decide +kernel
theorem dJ2_getChar_3b067_52 : decode cJ2_getChar_3b067 52 = .ok (.iand, 1) := by decide +kernel
theorem dJ2_getChar_3b067_53 : decode cJ2_getChar_3b067 53 = .ok (.getstatic 63, 3) := by decide +kernel
theorem dJ2_getChar_3b067_56 : decode cJ2_getChar_3b067 56 = .ok (.ishl, 1) := by decide +kernel
theorem dJ2_getChar_3b067_57 : decode cJ2_getChar_3b067 57 = .ok (.ior, 1) := by decide +kernel
theorem dJ2_getChar_3b067_58 : decode cJ2_getChar_3b067 58 = .ok (.i2c, 1) := by decide +kernel
theorem dJ2_getChar_3b067_59 : decode cJ2_getChar_3b067 59 = .ok (.ireturn, 1) := by decide +kernel
theorem dJ2_length_9d52b_0 : decode cJ2_length_9d52b 0 = .ok (.aload_n 0, 1) := by decide +kernel
theorem dJ2_length_9d52b_1 : decode cJ2_length_9d52b 1 = .ok (.arraylength, 1) := by decide +kernel
theorem dJ2_length_9d52b_2 : decode cJ2_length_9d52b 2 = .ok (.iconst 1, 1) := by decide +kernel
theorem dJ2_length_9d52b_3 : decode cJ2_length_9d52b 3 = .ok (.ishr, 1) := by decide +kernel
theorem dJ2_length_9d52b_4 : decode cJ2_length_9d52b 4 = .ok (.ireturn, 1) := by decide +kernel
theorem dJ2_charAt_3b067_0 : decode cJ2_charAt_3b067 0 = .ok (.iload_n 1, 1) := by decide +kernel
theorem dJ2_charAt_3b067_1 : decode cJ2_charAt_3b067 1 = .ok (.aload_n 0, 1) := by decide +kernel
theorem dJ2_charAt_3b067_2 : decode cJ2_charAt_3b067 2 = .ok (.invokestatic 67, 3) := by decide +kernel
theorem dJ2_charAt_3b067_5 : decode cJ2_charAt_3b067 5 = .ok (.aload_n 0, 1) := by decide +kernel
theorem dJ2_charAt_3b067_6 : decode cJ2_charAt_3b067 6 = .ok (.iload_n 1, 1) := by decide +kernel
theorem dJ2_charAt_3b067_7 : decode cJ2_charAt_3b067 7 = .ok (.invokestatic 71, 3) := by decide +kernel
theorem dJ2_charAt_3b067_10 : decode cJ2_charAt_3b067 10 = .ok (.ireturn, 1) := by decide +kernel
theorem dJ2_checkIndex_2214a_0 : decode cJ2_checkIndex_2214a 0 = .ok (.iload_n 0, 1) := by decide +kernel
theorem dJ2_checkIndex_2214a_1 : decode cJ2_checkIndex_2214a 1 = .ok (.aload_n 1, 1) := by decide +kernel
theorem dJ2_checkIndex_2214a_2 : decode cJ2_checkIndex_2214a 2 = .ok (.invokestatic 48, 3) := by decide +kernel
theorem dJ2_checkIndex_2214a_5 : decode cJ2_checkIndex_2214a 5 = .ok (.invokestatic 414, 3) := by decide +kernel
theorem dJ2_checkIndex_2214a_8 : decode cJ2_checkIndex_2214a 8 = .ok (.return_, 1) := by decide +kernel
theorem dJ3_checkIndex_8e157_0 : decode cJ3_checkIndex_8e157 0 = .ok (.iload_n 0, 1) := by decide +kernel
theorem dJ3_checkIndex_8e157_1 : decode cJ3_checkIndex_8e157 1 = .ok (.ifCond .lt 8, 3) := by decide +kernel
theorem dJ3_checkIndex_8e157_4 : decode cJ3_checkIndex_8e157 4 = .ok (.iload_n 0, 1) := by decide +kernel
theorem dJ3_checkIndex_8e157_5 : decode cJ3_checkIndex_8e157 5 = .ok (.iload_n 1, 1) := by decide +kernel
theorem dJ3_checkIndex_8e157_6 : decode cJ3_checkIndex_8e157 6 = .ok (.if_icmp .lt 10, 3) := by decide +kernel
theorem dJ3_checkIndex_8e157_9 : decode cJ3_checkIndex_8e157 9 = .ok (.aload_n 2, 1) := by decide +kernel
theorem dJ3_checkIndex_8e157_10 : decode cJ3_checkIndex_8e157 10 = .ok (.iload_n 0, 1) := by decide +kernel
theorem dJ3_checkIndex_8e157_11 : decode cJ3_checkIndex_8e157 11 = .ok (.iload_n 1, 1) := by decide +kernel
theorem dJ3_checkIndex_8e157_12 : decode cJ3_checkIndex_8e157 12 = .ok (.invokestatic 95, 3) := by decide +kernel
theorem dJ3_checkIndex_8e157_15 : decode cJ3_checkIndex_8e157 15 = .ok (.athrow, 1) := by decide +kernel
theorem dJ3_checkIndex_8e157_16 : decode cJ3_checkIndex_8e157 16 = .ok (.iload_n 0, 1) := by decide +kernel
theorem dJ3_checkIndex_8e157_17 : decode cJ3_checkIndex_8e157 17 = .ok (.ireturn, 1) := by decide +kernel
theorem dL_law_0 : decode cL_law 0 = .ok (.new 7, 3) := by decide +kernel
theorem dL_law_3 : decode cL_law 3 = .ok (.dup, 1) := by decide +kernel
theorem dL_law_4 : decode cL_law 4 = .ok (.invokespecial 9, 3) := by decide +kernel
theorem dL_law_7 : decode cL_law 7 = .ok (.astore_n 1, 1) := by decide +kernel
theorem dL_law_8 : decode cL_law 8 = .ok (.new 10, 3) := by decide +kernel
theorem dL_law_11 : decode cL_law 11 = .ok (.dup, 1) := by decide +kernel
theorem dL_law_12 : decode cL_law 12 = .ok (.invokespecial 12, 3) := by decide +kernel
theorem dL_law_15 : decode cL_law 15 = .ok (.astore_n 2, 1) := by decide +kernel
theorem dL_law_16 : decode cL_law 16 = .ok (.iconst 0, 1) := by decide +kernel
theorem dL_law_17 : decode cL_law 17 = .ok (.istore_n 3, 1) := by decide +kernel
theorem dL_law_18 : decode cL_law 18 = .ok (.iload_n 3, 1) := by decide +kernel
theorem dL_law_19 : decode cL_law 19 = .ok (.aload_n 0, 1) := by decide +kernel
theorem dL_law_20 : decode cL_law 20 = .ok (.arraylength, 1) := by decide +kernel
theorem dL_law_21 : decode cL_law 21 = .ok (.bipush 6, 2) := by decide +kernel
theorem dL_law_23 : decode cL_law 23 = .ok (.isub, 1) := by decide +kernel
theorem dL_law_24 : decode cL_law 24 = .ok (.if_icmp .gt 1040, 3) := by decide +kernel
theorem dL_law_27 : decode cL_law 27 = .ok (.aload_n 0, 1) := by decide +kernel
theorem dL_law_28 : decode cL_law 28 = .ok (.iload_n 3, 1) := by decide +kernel
theorem dL_law_29 : decode cL_law 29 = .ok (.iaload, 1) := by decide +kernel
theorem dL_law_30 : decode cL_law 30 = .ok (.bipush 31, 2) := by decide +kernel
theorem dL_law_32 : decode cL_law 32 = .ok (.iand, 1) := by decide +kernel
theorem dL_law_33 : decode cL_law 33 = .ok (.tableswitch 1025 0 29 #[135, 178, 221, 284, 307, 370, 383, 396, 429, 462, 485, 518, 531, 564, 577, 610, 643, 676, 699, 732, 755, 788, 831, 854, 877, 900, 933, 966, 989, 1012], 135) := by decide +kernel
theorem dL_law_168 : decode cL_law 168 = .ok (.aload_n 1, 1) := by decide +kernel
theorem dL_law_169 : decode cL_law 169 = .ok (.aload_n 0, 1) := by decide +kernel
theorem dL_law_170 : decode cL_law 170 = .ok (.iload_n 3, 1) := by decide +kernel
theorem dL_law_171 : decode cL_law 171 = .ok (.iconst 1, 1) := by decide +kernel
theorem dL_law_172 : decode cL_law 172 = .ok (.iadd, 1) := by decide +kernel
theorem dL_law_173 : decode cL_law 173 = .ok (.iaload, 1) := by decide +kernel
theorem dL_law_174 : decode cL_law 174 = .ok (.aload_n 0, 1) := by decide +kernel
theorem dL_law_175 : decode cL_law 175 = .ok (.iload_n 3, 1) := by decide +kernel
theorem dL_law_176 : decode cL_law 176 = .ok (.iconst 2, 1) := by decide +kernel
theorem dL_law_177 : decode cL_law 177 = .ok (.iadd, 1) := by decide +kernel
theorem dL_law_178 : decode cL_law 178 = .ok (.iaload, 1) := by decide +kernel
theorem dL_law_179 : decode cL_law 179 = .ok (.aload_n 0, 1) := by decide +kernel
theorem dL_law_180 : decode cL_law 180 = .ok (.iload_n 3, 1) := by decide +kernel
theorem dL_law_181 : decode cL_law 181 = .ok (.iconst 3, 1) := by decide +kernel
theorem dL_law_182 : decode cL_law 182 = .ok (.iadd, 1) := by decide +kernel
theorem dL_law_183 : decode cL_law 183 = .ok (.iaload, 1) := by decide +kernel
theorem dL_law_184 : decode cL_law 184 = .ok (.invokevirtual 13, 3) := by decide +kernel
theorem dL_law_187 : decode cL_law 187 = .ok (.aload_n 2, 1) := by decide +kernel
theorem dL_law_188 : decode cL_law 188 = .ok (.aload_n 0, 1) := by decide +kernel
theorem dL_law_189 : decode cL_law 189 = .ok (.iload_n 3, 1) := by decide +kernel
theorem dL_law_190 : decode cL_law 190 = .ok (.iconst 1, 1) := by decide +kernel
theorem dL_law_191 : decode cL_law 191 = .ok (.iadd, 1) := by decide +kernel
theorem dL_law_192 : decode cL_law 192 = .ok (.iaload, 1) := by decide +kernel
theorem dL_law_193 : decode cL_law 193 = .ok (.aload_n 0, 1) := by decide +kernel
theorem dL_law_194 : decode cL_law 194 = .ok (.iload_n 3, 1) := by decide +kernel
theorem dL_law_195 : decode cL_law 195 = .ok (.iconst 2, 1) := by decide +kernel
theorem dL_law_196 : decode cL_law 196 = .ok (.iadd, 1) := by decide +kernel
theorem dL_law_197 : decode cL_law 197 = .ok (.iaload, 1) := by decide +kernel
theorem dL_law_198 : decode cL_law 198 = .ok (.aload_n 0, 1) := by decide +kernel
theorem dL_law_199 : decode cL_law 199 = .ok (.iload_n 3, 1) := by decide +kernel
theorem dL_law_200 : decode cL_law 200 = .ok (.iconst 3, 1) := by decide +kernel
theorem dL_law_201 : decode cL_law 201 = .ok (.iadd, 1) := by decide +kernel
theorem dL_law_202 : decode cL_law 202 = .ok (.iaload, 1) := by decide +kernel
theorem dL_law_203 : decode cL_law 203 = .ok (.invokevirtual 17, 3) := by decide +kernel
theorem dL_law_206 : decode cL_law 206 = .ok (.if_icmp .eq 852, 3) := by decide +kernel
theorem dL_law_209 : decode cL_law 209 = .ok (.iconst 0, 1) := by decide +kernel
theorem dL_law_210 : decode cL_law 210 = .ok (.ireturn, 1) := by decide +kernel
theorem dL_law_211 : decode cL_law 211 = .ok (.aload_n 1, 1) := by decide +kernel
theorem dL_law_212 : decode cL_law 212 = .ok (.aload_n 0, 1) := by decide +kernel
theorem dL_law_213 : decode cL_law 213 = .ok (.iload_n 3, 1) := by decide +kernel
theorem dL_law_214 : decode cL_law 214 = .ok (.iconst 1, 1) := by decide +kernel
theorem dL_law_215 : decode cL_law 215 = .ok (.iadd, 1) := by decide +kernel
theorem dL_law_216 : decode cL_law 216 = .ok (.iaload, 1) := by decide +kernel
theorem dL_law_217 : decode cL_law 217 = .ok (.aload_n 0, 1) := by decide +kernel
theorem dL_law_218 : decode cL_law 218 = .ok (.iload_n 3, 1) := by decide +kernel
theorem dL_law_219 : decode cL_law 219 = .ok (.iconst 2, 1) := by decide +kernel
theorem dL_law_220 : decode cL_law 220 = .ok (.iadd, 1) := by decide +kernel
theorem dL_law_221 : decode cL_law 221 = .ok (.iaload, 1) := by decide +kernel
theorem dL_law_222 : decode cL_law 222 = .ok (.aload_n 0, 1) := by decide +kernel
theorem dL_law_223 : decode cL_law 223 = .ok (.iload_n 3, 1) := by decide +kernel
theorem dL_law_224 : decode cL_law 224 = .ok (.iconst 3, 1) := by decide +kernel
theorem dL_law_225 : decode cL_law 225 = .ok (.iadd, 1) := by decide +kernel
theorem dL_law_226 : decode cL_law 226 = .ok (.iaload, 1) := by decide +kernel
theorem dL_law_227 : decode cL_law 227 = .ok (.invokevirtual 18, 3) := by decide +kernel
theorem dL_law_230 : decode cL_law 230 = .ok (.aload_n 2, 1) := by decide +kernel
theorem dL_law_231 : decode cL_law 231 = .ok (.aload_n 0, 1) := by decide +kernel
theorem dL_law_232 : decode cL_law 232 = .ok (.iload_n 3, 1) := by decide +kernel
theorem dL_law_233 : decode cL_law 233 = .ok (.iconst 1, 1) := by decide +kernel
theorem dL_law_234 : decode cL_law 234 = .ok (.iadd, 1) := by decide +kernel
theorem dL_law_235 : decode cL_law 235 = .ok (.iaload, 1) := by decide +kernel
theorem dL_law_236 : decode cL_law 236 = .ok (.aload_n 0, 1) := by decide +kernel
theorem dL_law_237 : decode cL_law 237 = .ok (.iload_n 3, 1) := by decide +kernel
theorem dL_law_238 : decode cL_law 238 = .ok (.iconst 2, 1) := by decide +kernel
theorem dL_law_239 : decode cL_law 239 = .ok (.iadd, 1) := by decide +kernel
theorem dL_law_240 : decode cL_law 240 = .ok (.iaload, 1) := by decide +kernel
theorem dL_law_241 : decode cL_law 241 = .ok (.aload_n 0, 1) := by decide +kernel
theorem dL_law_242 : decode cL_law 242 = .ok (.iload_n 3, 1) := by decide +kernel
theorem dL_law_243 : decode cL_law 243 = .ok (.iconst 3, 1) := by decide +kernel
theorem dL_law_244 : decode cL_law 244 = .ok (.iadd, 1) := by decide +kernel
theorem dL_law_245 : decode cL_law 245 = .ok (.iaload, 1) := by decide +kernel
theorem dL_law_246 : decode cL_law 246 = .ok (.invokevirtual 21, 3) := by decide +kernel
theorem dL_law_249 : decode cL_law 249 = .ok (.if_icmp .eq 809, 3) := by decide +kernel
theorem dL_law_252 : decode cL_law 252 = .ok (.iconst 0, 1) := by decide +kernel
theorem dL_law_253 : decode cL_law 253 = .ok (.ireturn, 1) := by decide +kernel
theorem dL_law_254 : decode cL_law 254 = .ok (.aload_n 1, 1) := by decide +kernel
theorem dL_law_255 : decode cL_law 255 = .ok (.aload_n 0, 1) := by decide +kernel
theorem dL_law_256 : decode cL_law 256 = .ok (.iload_n 3, 1) := by decide +kernel
theorem dL_law_257 : decode cL_law 257 = .ok (.iconst 1, 1) := by decide +kernel
theorem dL_law_258 : decode cL_law 258 = .ok (.iadd, 1) := by decide +kernel
theorem dL_law_259 : decode cL_law 259 = .ok (.iaload, 1) := by decide +kernel
theorem dL_law_260 : decode cL_law 260 = .ok (.aload_n 0, 1) := by decide +kernel
theorem dL_law_261 : decode cL_law 261 = .ok (.iload_n 3, 1) := by decide +kernel
theorem dL_law_262 : decode cL_law 262 = .ok (.iconst 2, 1) := by decide +kernel
theorem dL_law_263 : decode cL_law 263 = .ok (.iadd, 1) := by decide +kernel
theorem dL_law_264 : decode cL_law 264 = .ok (.iaload, 1) := by decide +kernel
theorem dL_law_265 : decode cL_law 265 = .ok (.aload_n 0, 1) := by decide +kernel
theorem dL_law_266 : decode cL_law 266 = .ok (.iload_n 3, 1) := by decide +kernel
theorem dL_law_267 : decode cL_law 267 = .ok (.iconst 3, 1) := by decide +kernel
theorem dL_law_268 : decode cL_law 268 = .ok (.iadd, 1) := by decide +kernel
theorem dL_law_269 : decode cL_law 269 = .ok (.iaload, 1) := by decide +kernel
theorem dL_law_270 : decode cL_law 270 = .ok (.aload_n 0, 1) := by decide +kernel
theorem dL_law_271 : decode cL_law 271 = .ok (.iload_n 3, 1) := by decide +kernel
theorem dL_law_272 : decode cL_law 272 = .ok (.iconst 4, 1) := by decide +kernel
theorem dL_law_273 : decode cL_law 273 = .ok (.iadd, 1) := by decide +kernel
theorem dL_law_274 : decode cL_law 274 = .ok (.iaload, 1) := by decide +kernel
theorem dL_law_275 : decode cL_law 275 = .ok (.aload_n 0, 1) := by decide +kernel
theorem dL_law_276 : decode cL_law 276 = .ok (.iload_n 3, 1) := by decide +kernel
theorem dL_law_277 : decode cL_law 277 = .ok (.iconst 5, 1) := by decide +kernel
theorem dL_law_278 : decode cL_law 278 = .ok (.iadd, 1) := by decide +kernel
theorem dL_law_279 : decode cL_law 279 = .ok (.iaload, 1) := by decide +kernel
theorem dL_law_280 : decode cL_law 280 = .ok (.invokevirtual 22, 3) := by decide +kernel
theorem dL_law_283 : decode cL_law 283 = .ok (.aload_n 2, 1) := by decide +kernel
theorem dL_law_284 : decode cL_law 284 = .ok (.aload_n 0, 1) := by decide +kernel
theorem dL_law_285 : decode cL_law 285 = .ok (.iload_n 3, 1) := by decide +kernel
theorem dL_law_286 : decode cL_law 286 = .ok (.iconst 1, 1) := by decide +kernel
theorem dL_law_287 : decode cL_law 287 = .ok (.iadd, 1) := by decide +kernel
theorem dL_law_288 : decode cL_law 288 = .ok (.iaload, 1) := by decide +kernel
theorem dL_law_289 : decode cL_law 289 = .ok (.aload_n 0, 1) := by decide +kernel
theorem dL_law_290 : decode cL_law 290 = .ok (.iload_n 3, 1) := by decide +kernel
theorem dL_law_291 : decode cL_law 291 = .ok (.iconst 2, 1) := by decide +kernel
theorem dL_law_292 : decode cL_law 292 = .ok (.iadd, 1) := by decide +kernel
theorem dL_law_293 : decode cL_law 293 = .ok (.iaload, 1) := by decide +kernel
theorem dL_law_294 : decode cL_law 294 = .ok (.aload_n 0, 1) := by decide +kernel
theorem dL_law_295 : decode cL_law 295 = .ok (.iload_n 3, 1) := by decide +kernel
theorem dL_law_296 : decode cL_law 296 = .ok (.iconst 3, 1) := by decide +kernel
theorem dL_law_297 : decode cL_law 297 = .ok (.iadd, 1) := by decide +kernel
theorem dL_law_298 : decode cL_law 298 = .ok (.iaload, 1) := by decide +kernel
theorem dL_law_299 : decode cL_law 299 = .ok (.aload_n 0, 1) := by decide +kernel
theorem dL_law_300 : decode cL_law 300 = .ok (.iload_n 3, 1) := by decide +kernel
theorem dL_law_301 : decode cL_law 301 = .ok (.iconst 4, 1) := by decide +kernel
theorem dL_law_302 : decode cL_law 302 = .ok (.iadd, 1) := by decide +kernel
theorem dL_law_303 : decode cL_law 303 = .ok (.iaload, 1) := by decide +kernel
theorem dL_law_304 : decode cL_law 304 = .ok (.aload_n 0, 1) := by decide +kernel
theorem dL_law_305 : decode cL_law 305 = .ok (.iload_n 3, 1) := by decide +kernel
theorem dL_law_306 : decode cL_law 306 = .ok (.iconst 5, 1) := by decide +kernel
theorem dL_law_307 : decode cL_law 307 = .ok (.iadd, 1) := by decide +kernel
theorem dL_law_308 : decode cL_law 308 = .ok (.iaload, 1) := by decide +kernel
theorem dL_law_309 : decode cL_law 309 = .ok (.invokevirtual 26, 3) := by decide +kernel
theorem dL_law_312 : decode cL_law 312 = .ok (.if_icmp .eq 746, 3) := by decide +kernel
theorem dL_law_315 : decode cL_law 315 = .ok (.iconst 0, 1) := by decide +kernel
theorem dL_law_316 : decode cL_law 316 = .ok (.ireturn, 1) := by decide +kernel
theorem dL_law_317 : decode cL_law 317 = .ok (.aload_n 1, 1) := by decide +kernel
theorem dL_law_318 : decode cL_law 318 = .ok (.aload_n 0, 1) := by decide +kernel
theorem dL_law_319 : decode cL_law 319 = .ok (.iload_n 3, 1) := by decide +kernel
theorem dL_law_320 : decode cL_law 320 = .ok (.iconst 1, 1) := by decide +kernel
theorem dL_law_321 : decode cL_law 321 = .ok (.iadd, 1) := by decide +kernel
theorem dL_law_322 : decode cL_law 322 = .ok (.iaload, 1) := by decide +kernel
theorem dL_law_323 : decode cL_law 323 = .ok (.invokevirtual 27, 3) := by decide +kernel
theorem dL_law_326 : decode cL_law 326 = .ok (.aload_n 2, 1) := by decide +kernel
theorem dL_law_327 : decode cL_law 327 = .ok (.aload_n 0, 1) := by decide +kernel
theorem dL_law_328 : decode cL_law 328 = .ok (.iload_n 3, 1) := by decide +kernel
theorem dL_law_329 : decode cL_law 329 = .ok (.iconst 1, 1) := by decide +kernel
theorem dL_law_330 : decode cL_law 330 = .ok (.iadd, 1) := by decide +kernel
theorem dL_law_331 : decode cL_law 331 = .ok (.iaload, 1) := by decide +kernel
theorem dL_law_332 : decode cL_law 332 = .ok (.invokevirtual 31, 3) := by decide +kernel
theorem dL_law_335 : decode cL_law 335 = .ok (.if_icmp .eq 723, 3) := by decide +kernel
theorem dL_law_338 : decode cL_law 338 = .ok (.iconst 0, 1) := by decide +kernel
theorem dL_law_339 : decode cL_law 339 = .ok (.ireturn, 1) := by decide +kernel
theorem dL_law_340 : decode cL_law 340 = .ok (.aload_n 1, 1) := by decide +kernel
theorem dL_law_341 : decode cL_law 341 = .ok (.aload_n 0, 1) := by decide +kernel
theorem dL_law_342 : decode cL_law 342 = .ok (.iload_n 3, 1) := by decide +kernel
theorem dL_law_343 : decode cL_law 343 = .ok (.iconst 1, 1) := by decide +kernel
theorem dL_law_344 : decode cL_law 344 = .ok (.iadd, 1) := by decide +kernel
theorem dL_law_345 : decode cL_law 345 = .ok (.iaload, 1) := by decide +kernel
theorem dL_law_346 : decode cL_law 346 = .ok (.i2l, 1) := by decide +kernel
theorem dL_law_347 : decode cL_law 347 = .ok (.bipush 32, 2) := by decide +kernel
theorem dL_law_349 : decode cL_law 349 = .ok (.lshl, 1) := by decide +kernel
theorem dL_law_350 : decode cL_law 350 = .ok (.aload_n 0, 1) := by decide +kernel
theorem dL_law_351 : decode cL_law 351 = .ok (.iload_n 3, 1) := by decide +kernel
theorem dL_law_352 : decode cL_law 352 = .ok (.iconst 2, 1) := by decide +kernel
theorem dL_law_353 : decode cL_law 353 = .ok (.iadd, 1) := by decide +kernel
theorem dL_law_354 : decode cL_law 354 = .ok (.iaload, 1) := by decide +kernel
theorem dL_law_355 : decode cL_law 355 = .ok (.i2l, 1) := by decide +kernel
theorem dL_law_356 : decode cL_law 356 = .ok (.ldc2_w 32, 3) := by decide +kernel
theorem dL_law_359 : decode cL_law 359 = .ok (.land, 1) := by decide +kernel
theorem dL_law_360 : decode cL_law 360 = .ok (.lor, 1) := by decide +kernel
theorem dL_law_361 : decode cL_law 361 = .ok (.aload_n 0, 1) := by decide +kernel
theorem dL_law_362 : decode cL_law 362 = .ok (.iload_n 3, 1) := by decide +kernel
theorem dL_law_363 : decode cL_law 363 = .ok (.iconst 3, 1) := by decide +kernel
theorem dL_law_364 : decode cL_law 364 = .ok (.iadd, 1) := by decide +kernel
theorem dL_law_365 : decode cL_law 365 = .ok (.iaload, 1) := by decide +kernel
theorem dL_law_366 : decode cL_law 366 = .ok (.invokevirtual 34, 3) := by decide +kernel
theorem dL_law_369 : decode cL_law 369 = .ok (.aload_n 2, 1) := by decide +kernel
theorem dL_law_370 : decode cL_law 370 = .ok (.aload_n 0, 1) := by decide +kernel
theorem dL_law_371 : decode cL_law 371 = .ok (.iload_n 3, 1) := by decide +kernel
theorem dL_law_372 : decode cL_law 372 = .ok (.iconst 1, 1) := by decide +kernel
theorem dL_law_373 : decode cL_law 373 = .ok (.iadd, 1) := by decide +kernel
theorem dL_law_374 : decode cL_law 374 = .ok (.iaload, 1) := by decide +kernel
theorem dL_law_375 : decode cL_law 375 = .ok (.i2l, 1) := by decide +kernel
theorem dL_law_376 : decode cL_law 376 = .ok (.bipush 32, 2) := by decide +kernel
theorem dL_law_378 : decode cL_law 378 = .ok (.lshl, 1) := by decide +kernel
theorem dL_law_379 : decode cL_law 379 = .ok (.aload_n 0, 1) := by decide +kernel
theorem dL_law_380 : decode cL_law 380 = .ok (.iload_n 3, 1) := by decide +kernel
theorem dL_law_381 : decode cL_law 381 = .ok (.iconst 2, 1) := by decide +kernel
theorem dL_law_382 : decode cL_law 382 = .ok (.iadd, 1) := by decide +kernel
theorem dL_law_383 : decode cL_law 383 = .ok (.iaload, 1) := by decide +kernel
theorem dL_law_384 : decode cL_law 384 = .ok (.i2l, 1) := by decide +kernel
theorem dL_law_385 : decode cL_law 385 = .ok (.ldc2_w 32, 3) := by decide +kernel
theorem dL_law_388 : decode cL_law 388 = .ok (.land, 1) := by decide +kernel
theorem dL_law_389 : decode cL_law 389 = .ok (.lor, 1) := by decide +kernel
theorem dL_law_390 : decode cL_law 390 = .ok (.aload_n 0, 1) := by decide +kernel
theorem dL_law_391 : decode cL_law 391 = .ok (.iload_n 3, 1) := by decide +kernel
theorem dL_law_392 : decode cL_law 392 = .ok (.iconst 3, 1) := by decide +kernel
theorem dL_law_393 : decode cL_law 393 = .ok (.iadd, 1) := by decide +kernel
theorem dL_law_394 : decode cL_law 394 = .ok (.iaload, 1) := by decide +kernel
theorem dL_law_395 : decode cL_law 395 = .ok (.invokevirtual 38, 3) := by decide +kernel
theorem dL_law_398 : decode cL_law 398 = .ok (.if_icmp .eq 660, 3) := by decide +kernel
theorem dL_law_401 : decode cL_law 401 = .ok (.iconst 0, 1) := by decide +kernel
theorem dL_law_402 : decode cL_law 402 = .ok (.ireturn, 1) := by decide +kernel
theorem dL_law_403 : decode cL_law 403 = .ok (.aload_n 1, 1) := by decide +kernel
theorem dL_law_404 : decode cL_law 404 = .ok (.invokevirtual 39, 3) := by decide +kernel
theorem dL_law_407 : decode cL_law 407 = .ok (.aload_n 2, 1) := by decide +kernel
theorem dL_law_408 : decode cL_law 408 = .ok (.invokevirtual 43, 3) := by decide +kernel
theorem dL_law_411 : decode cL_law 411 = .ok (.if_icmp .eq 647, 3) := by decide +kernel
theorem dL_law_414 : decode cL_law 414 = .ok (.iconst 0, 1) := by decide +kernel
theorem dL_law_415 : decode cL_law 415 = .ok (.ireturn, 1) := by decide +kernel
theorem dL_law_416 : decode cL_law 416 = .ok (.aload_n 1, 1) := by decide +kernel
theorem dL_law_417 : decode cL_law 417 = .ok (.invokevirtual 44, 3) := by decide +kernel
theorem dL_law_420 : decode cL_law 420 = .ok (.aload_n 2, 1) := by decide +kernel
theorem dL_law_421 : decode cL_law 421 = .ok (.invokevirtual 47, 3) := by decide +kernel
theorem dL_law_424 : decode cL_law 424 = .ok (.if_icmp .eq 634, 3) := by decide +kernel
theorem dL_law_427 : decode cL_law 427 = .ok (.iconst 0, 1) := by decide +kernel
theorem dL_law_428 : decode cL_law 428 = .ok (.ireturn, 1) := by decide +kernel
theorem dL_law_429 : decode cL_law 429 = .ok (.aload_n 1, 1) := by decide +kernel
theorem dL_law_430 : decode cL_law 430 = .ok (.aload_n 0, 1) := by decide +kernel
theorem dL_law_431 : decode cL_law 431 = .ok (.iload_n 3, 1) := by decide +kernel
theorem dL_law_432 : decode cL_law 432 = .ok (.iconst 1, 1) := by decide +kernel
theorem dL_law_433 : decode cL_law 433 = .ok (.iadd, 1) := by decide +kernel
theorem dL_law_434 : decode cL_law 434 = .ok (.iaload, 1) := by decide +kernel
theorem dL_law_435 : decode cL_law 435 = .ok (.aload_n 0, 1) := by decide +kernel
theorem dL_law_436 : decode cL_law 436 = .ok (.iload_n 3, 1) := by decide +kernel
theorem dL_law_437 : decode cL_law 437 = .ok (.iconst 2, 1) := by decide +kernel
theorem dL_law_438 : decode cL_law 438 = .ok (.iadd, 1) := by decide +kernel
theorem dL_law_439 : decode cL_law 439 = .ok (.iaload, 1) := by decide +kernel
theorem dL_law_440 : decode cL_law 440 = .ok (.invokevirtual 48, 3) := by decide +kernel
theorem dL_law_443 : decode cL_law 443 = .ok (.aload_n 2, 1) := by decide +kernel
theorem dL_law_444 : decode cL_law 444 = .ok (.aload_n 0, 1) := by decide +kernel
theorem dL_law_445 : decode cL_law 445 = .ok (.iload_n 3, 1) := by decide +kernel
theorem dL_law_446 : decode cL_law 446 = .ok (.iconst 1, 1) := by decide +kernel
theorem dL_law_447 : decode cL_law 447 = .ok (.iadd, 1) := by decide +kernel
theorem dL_law_448 : decode cL_law 448 = .ok (.iaload, 1) := by decide +kernel
theorem dL_law_449 : decode cL_law 449 = .ok (.aload_n 0, 1) := by decide +kernel
theorem dL_law_450 : decode cL_law 450 = .ok (.iload_n 3, 1) := by decide +kernel
theorem dL_law_451 : decode cL_law 451 = .ok (.iconst 2, 1) := by decide +kernel
theorem dL_law_452 : decode cL_law 452 = .ok (.iadd, 1) := by decide +kernel
theorem dL_law_453 : decode cL_law 453 = .ok (.iaload, 1) := by decide +kernel
theorem dL_law_454 : decode cL_law 454 = .ok (.invokevirtual 52, 3) := by decide +kernel
theorem dL_law_457 : decode cL_law 457 = .ok (.if_icmp .eq 601, 3) := by decide +kernel
theorem dL_law_460 : decode cL_law 460 = .ok (.iconst 0, 1) := by decide +kernel
theorem dL_law_461 : decode cL_law 461 = .ok (.ireturn, 1) := by decide +kernel
theorem dL_law_462 : decode cL_law 462 = .ok (.aload_n 1, 1) := by decide +kernel
theorem dL_law_463 : decode cL_law 463 = .ok (.aload_n 0, 1) := by decide +kernel
theorem dL_law_464 : decode cL_law 464 = .ok (.iload_n 3, 1) := by decide +kernel
theorem dL_law_465 : decode cL_law 465 = .ok (.iconst 1, 1) := by decide +kernel
theorem dL_law_466 : decode cL_law 466 = .ok (.iadd, 1) := by decide +kernel
theorem dL_law_467 : decode cL_law 467 = .ok (.iaload, 1) := by decide +kernel
theorem dL_law_468 : decode cL_law 468 = .ok (.aload_n 0, 1) := by decide +kernel
theorem dL_law_469 : decode cL_law 469 = .ok (.iload_n 3, 1) := by decide +kernel
theorem dL_law_470 : decode cL_law 470 = .ok (.iconst 2, 1) := by decide +kernel
theorem dL_law_471 : decode cL_law 471 = .ok (.iadd, 1) := by decide +kernel
theorem dL_law_472 : decode cL_law 472 = .ok (.iaload, 1) := by decide +kernel
theorem dL_law_473 : decode cL_law 473 = .ok (.invokevirtual 53, 3) := by decide +kernel
theorem dL_law_476 : decode cL_law 476 = .ok (.aload_n 2, 1) := by decide +kernel
theorem dL_law_477 : decode cL_law 477 = .ok (.aload_n 0, 1) := by decide +kernel
theorem dL_law_478 : decode cL_law 478 = .ok (.iload_n 3, 1) := by decide +kernel
theorem dL_law_479 : decode cL_law 479 = .ok (.iconst 1, 1) := by decide +kernel
theorem dL_law_480 : decode cL_law 480 = .ok (.iadd, 1) := by decide +kernel
theorem dL_law_481 : decode cL_law 481 = .ok (.iaload, 1) := by decide +kernel
theorem dL_law_482 : decode cL_law 482 = .ok (.aload_n 0, 1) := by decide +kernel
theorem dL_law_483 : decode cL_law 483 = .ok (.iload_n 3, 1) := by decide +kernel
theorem dL_law_484 : decode cL_law 484 = .ok (.iconst 2, 1) := by decide +kernel
theorem dL_law_485 : decode cL_law 485 = .ok (.iadd, 1) := by decide +kernel
theorem dL_law_486 : decode cL_law 486 = .ok (.iaload, 1) := by decide +kernel
theorem dL_law_487 : decode cL_law 487 = .ok (.invokevirtual 56, 3) := by decide +kernel
theorem dL_law_490 : decode cL_law 490 = .ok (.if_icmp .eq 568, 3) := by decide +kernel
theorem dL_law_493 : decode cL_law 493 = .ok (.iconst 0, 1) := by decide +kernel
theorem dL_law_494 : decode cL_law 494 = .ok (.ireturn, 1) := by decide +kernel
theorem dL_law_495 : decode cL_law 495 = .ok (.aload_n 1, 1) := by decide +kernel
theorem dL_law_496 : decode cL_law 496 = .ok (.aload_n 0, 1) := by decide +kernel
theorem dL_law_497 : decode cL_law 497 = .ok (.iload_n 3, 1) := by decide +kernel
theorem dL_law_498 : decode cL_law 498 = .ok (.iconst 1, 1) := by decide +kernel
theorem dL_law_499 : decode cL_law 499 = .ok (.iadd, 1) := by decide +kernel
theorem dL_law_500 : decode cL_law 500 = .ok (.iaload, 1) := by decide +kernel
theorem dL_law_501 : decode cL_law 501 = .ok (.invokevirtual 57, 3) := by decide +kernel
theorem dL_law_504 : decode cL_law 504 = .ok (.aload_n 2, 1) := by decide +kernel
theorem dL_law_505 : decode cL_law 505 = .ok (.aload_n 0, 1) := by decide +kernel
theorem dL_law_506 : decode cL_law 506 = .ok (.iload_n 3, 1) := by decide +kernel
theorem dL_law_507 : decode cL_law 507 = .ok (.iconst 1, 1) := by decide +kernel
theorem dL_law_508 : decode cL_law 508 = .ok (.iadd, 1) := by decide +kernel
theorem dL_law_509 : decode cL_law 509 = .ok (.iaload, 1) := by decide +kernel
theorem dL_law_510 : decode cL_law 510 = .ok (.invokevirtual 60, 3) := by decide +kernel
theorem dL_law_513 : decode cL_law 513 = .ok (.if_icmp .eq 545, 3) := by decide +kernel
theorem dL_law_516 : decode cL_law 516 = .ok (.iconst 0, 1) := by decide +kernel
theorem dL_law_517 : decode cL_law 517 = .ok (.ireturn, 1) := by decide +kernel
theorem dL_law_518 : decode cL_law 518 = .ok (.aload_n 1, 1) := by decide +kernel
theorem dL_law_519 : decode cL_law 519 = .ok (.aload_n 0, 1) := by decide +kernel
theorem dL_law_520 : decode cL_law 520 = .ok (.iload_n 3, 1) := by decide +kernel
theorem dL_law_521 : decode cL_law 521 = .ok (.iconst 1, 1) := by decide +kernel
theorem dL_law_522 : decode cL_law 522 = .ok (.iadd, 1) := by decide +kernel
theorem dL_law_523 : decode cL_law 523 = .ok (.iaload, 1) := by decide +kernel
theorem dL_law_524 : decode cL_law 524 = .ok (.aload_n 0, 1) := by decide +kernel
theorem dL_law_525 : decode cL_law 525 = .ok (.iload_n 3, 1) := by decide +kernel
theorem dL_law_526 : decode cL_law 526 = .ok (.iconst 2, 1) := by decide +kernel
theorem dL_law_527 : decode cL_law 527 = .ok (.iadd, 1) := by decide +kernel
theorem dL_law_528 : decode cL_law 528 = .ok (.iaload, 1) := by decide +kernel
theorem dL_law_529 : decode cL_law 529 = .ok (.invokevirtual 61, 3) := by decide +kernel
theorem dL_law_532 : decode cL_law 532 = .ok (.aload_n 2, 1) := by decide +kernel
theorem dL_law_533 : decode cL_law 533 = .ok (.aload_n 0, 1) := by decide +kernel
theorem dL_law_534 : decode cL_law 534 = .ok (.iload_n 3, 1) := by decide +kernel
theorem dL_law_535 : decode cL_law 535 = .ok (.iconst 1, 1) := by decide +kernel
theorem dL_law_536 : decode cL_law 536 = .ok (.iadd, 1) := by decide +kernel
theorem dL_law_537 : decode cL_law 537 = .ok (.iaload, 1) := by decide +kernel
theorem dL_law_538 : decode cL_law 538 = .ok (.aload_n 0, 1) := by decide +kernel
theorem dL_law_539 : decode cL_law 539 = .ok (.iload_n 3, 1) := by decide +kernel
theorem dL_law_540 : decode cL_law 540 = .ok (.iconst 2, 1) := by decide +kernel
theorem dL_law_541 : decode cL_law 541 = .ok (.iadd, 1) := by decide +kernel
theorem dL_law_542 : decode cL_law 542 = .ok (.iaload, 1) := by decide +kernel
theorem dL_law_543 : decode cL_law 543 = .ok (.invokevirtual 64, 3) := by decide +kernel
theorem dL_law_546 : decode cL_law 546 = .ok (.if_icmp .eq 512, 3) := by decide +kernel
theorem dL_law_549 : decode cL_law 549 = .ok (.iconst 0, 1) := by decide +kernel
theorem dL_law_550 : decode cL_law 550 = .ok (.ireturn, 1) := by decide +kernel
theorem dL_law_551 : decode cL_law 551 = .ok (.aload_n 1, 1) := by decide +kernel
theorem dL_law_552 : decode cL_law 552 = .ok (.invokevirtual 65, 3) := by decide +kernel
theorem dL_law_555 : decode cL_law 555 = .ok (.aload_n 2, 1) := by decide +kernel
theorem dL_law_556 : decode cL_law 556 = .ok (.invokevirtual 68, 3) := by decide +kernel
theorem dL_law_559 : decode cL_law 559 = .ok (.if_icmp .eq 499, 3) := by decide +kernel
theorem dL_law_562 : decode cL_law 562 = .ok (.iconst 0, 1) := by decide +kernel
theorem dL_law_563 : decode cL_law 563 = .ok (.ireturn, 1) := by decide +kernel
theorem dL_law_564 : decode cL_law 564 = .ok (.aload_n 1, 1) := by decide +kernel
theorem dL_law_565 : decode cL_law 565 = .ok (.aload_n 0, 1) := by decide +kernel
theorem dL_law_566 : decode cL_law 566 = .ok (.iload_n 3, 1) := by decide +kernel
theorem dL_law_567 : decode cL_law 567 = .ok (.iconst 1, 1) := by decide +kernel
theorem dL_law_568 : decode cL_law 568 = .ok (.iadd, 1) := by decide +kernel
theorem dL_law_569 : decode cL_law 569 = .ok (.iaload, 1) := by decide +kernel
theorem dL_law_570 : decode cL_law 570 = .ok (.aload_n 0, 1) := by decide +kernel
theorem dL_law_571 : decode cL_law 571 = .ok (.iload_n 3, 1) := by decide +kernel
theorem dL_law_572 : decode cL_law 572 = .ok (.iconst 2, 1) := by decide +kernel
theorem dL_law_573 : decode cL_law 573 = .ok (.iadd, 1) := by decide +kernel
theorem dL_law_574 : decode cL_law 574 = .ok (.iaload, 1) := by decide +kernel
theorem dL_law_575 : decode cL_law 575 = .ok (.invokevirtual 69, 3) := by decide +kernel
theorem dL_law_578 : decode cL_law 578 = .ok (.aload_n 2, 1) := by decide +kernel
theorem dL_law_579 : decode cL_law 579 = .ok (.aload_n 0, 1) := by decide +kernel
theorem dL_law_580 : decode cL_law 580 = .ok (.iload_n 3, 1) := by decide +kernel
theorem dL_law_581 : decode cL_law 581 = .ok (.iconst 1, 1) := by decide +kernel
theorem dL_law_582 : decode cL_law 582 = .ok (.iadd, 1) := by decide +kernel
theorem dL_law_583 : decode cL_law 583 = .ok (.iaload, 1) := by decide +kernel
theorem dL_law_584 : decode cL_law 584 = .ok (.aload_n 0, 1) := by decide +kernel
theorem dL_law_585 : decode cL_law 585 = .ok (.iload_n 3, 1) := by decide +kernel
theorem dL_law_586 : decode cL_law 586 = .ok (.iconst 2, 1) := by decide +kernel
theorem dL_law_587 : decode cL_law 587 = .ok (.iadd, 1) := by decide +kernel
theorem dL_law_588 : decode cL_law 588 = .ok (.iaload, 1) := by decide +kernel
theorem dL_law_589 : decode cL_law 589 = .ok (.invokevirtual 72, 3) := by decide +kernel
theorem dL_law_592 : decode cL_law 592 = .ok (.if_icmp .eq 466, 3) := by decide +kernel
theorem dL_law_595 : decode cL_law 595 = .ok (.iconst 0, 1) := by decide +kernel
theorem dL_law_596 : decode cL_law 596 = .ok (.ireturn, 1) := by decide +kernel
theorem dL_law_597 : decode cL_law 597 = .ok (.aload_n 1, 1) := by decide +kernel
theorem dL_law_598 : decode cL_law 598 = .ok (.invokevirtual 73, 3) := by decide +kernel
theorem dL_law_601 : decode cL_law 601 = .ok (.aload_n 2, 1) := by decide +kernel
theorem dL_law_602 : decode cL_law 602 = .ok (.invokevirtual 76, 3) := by decide +kernel
theorem dL_law_605 : decode cL_law 605 = .ok (.if_icmp .eq 453, 3) := by decide +kernel
theorem dL_law_608 : decode cL_law 608 = .ok (.iconst 0, 1) := by decide +kernel
theorem dL_law_609 : decode cL_law 609 = .ok (.ireturn, 1) := by decide +kernel
theorem dL_law_610 : decode cL_law 610 = .ok (.aload_n 1, 1) := by decide +kernel
theorem dL_law_611 : decode cL_law 611 = .ok (.aload_n 0, 1) := by decide +kernel
theorem dL_law_612 : decode cL_law 612 = .ok (.iload_n 3, 1) := by decide +kernel
theorem dL_law_613 : decode cL_law 613 = .ok (.iconst 1, 1) := by decide +kernel
theorem dL_law_614 : decode cL_law 614 = .ok (.iadd, 1) := by decide +kernel
theorem dL_law_615 : decode cL_law 615 = .ok (.iaload, 1) := by decide +kernel
theorem dL_law_616 : decode cL_law 616 = .ok (.aload_n 0, 1) := by decide +kernel
theorem dL_law_617 : decode cL_law 617 = .ok (.iload_n 3, 1) := by decide +kernel
theorem dL_law_618 : decode cL_law 618 = .ok (.iconst 2, 1) := by decide +kernel
theorem dL_law_619 : decode cL_law 619 = .ok (.iadd, 1) := by decide +kernel
theorem dL_law_620 : decode cL_law 620 = .ok (.iaload, 1) := by decide +kernel
theorem dL_law_621 : decode cL_law 621 = .ok (.invokevirtual 77, 3) := by decide +kernel
theorem dL_law_624 : decode cL_law 624 = .ok (.aload_n 2, 1) := by decide +kernel
theorem dL_law_625 : decode cL_law 625 = .ok (.aload_n 0, 1) := by decide +kernel
theorem dL_law_626 : decode cL_law 626 = .ok (.iload_n 3, 1) := by decide +kernel
theorem dL_law_627 : decode cL_law 627 = .ok (.iconst 1, 1) := by decide +kernel
theorem dL_law_628 : decode cL_law 628 = .ok (.iadd, 1) := by decide +kernel
theorem dL_law_629 : decode cL_law 629 = .ok (.iaload, 1) := by decide +kernel
theorem dL_law_630 : decode cL_law 630 = .ok (.aload_n 0, 1) := by decide +kernel
theorem dL_law_631 : decode cL_law 631 = .ok (.iload_n 3, 1) := by decide +kernel
theorem dL_law_632 : decode cL_law 632 = .ok (.iconst 2, 1) := by decide +kernel
theorem dL_law_633 : decode cL_law 633 = .ok (.iadd, 1) := by decide +kernel
theorem dL_law_634 : decode cL_law 634 = .ok (.iaload, 1) := by decide +kernel
theorem dL_law_635 : decode cL_law 635 = .ok (.invokevirtual 80, 3) := by decide +kernel
theorem dL_law_638 : decode cL_law 638 = .ok (.if_icmp .eq 420, 3) := by decide +kernel
theorem dL_law_641 : decode cL_law 641 = .ok (.iconst 0, 1) := by decide +kernel
theorem dL_law_642 : decode cL_law 642 = .ok (.ireturn, 1) := by decide +kernel
theorem dL_law_643 : decode cL_law 643 = .ok (.aload_n 1, 1) := by decide +kernel
theorem dL_law_644 : decode cL_law 644 = .ok (.aload_n 0, 1) := by decide +kernel
theorem dL_law_645 : decode cL_law 645 = .ok (.iload_n 3, 1) := by decide +kernel
theorem dL_law_646 : decode cL_law 646 = .ok (.iconst 1, 1) := by decide +kernel
theorem dL_law_647 : decode cL_law 647 = .ok (.iadd, 1) := by decide +kernel
theorem dL_law_648 : decode cL_law 648 = .ok (.iaload, 1) := by decide +kernel
theorem dL_law_649 : decode cL_law 649 = .ok (.aload_n 0, 1) := by decide +kernel
theorem dL_law_650 : decode cL_law 650 = .ok (.iload_n 3, 1) := by decide +kernel
theorem dL_law_651 : decode cL_law 651 = .ok (.iconst 2, 1) := by decide +kernel
theorem dL_law_652 : decode cL_law 652 = .ok (.iadd, 1) := by decide +kernel
theorem dL_law_653 : decode cL_law 653 = .ok (.iaload, 1) := by decide +kernel
theorem dL_law_654 : decode cL_law 654 = .ok (.invokevirtual 81, 3) := by decide +kernel
theorem dL_law_657 : decode cL_law 657 = .ok (.aload_n 2, 1) := by decide +kernel
theorem dL_law_658 : decode cL_law 658 = .ok (.aload_n 0, 1) := by decide +kernel
theorem dL_law_659 : decode cL_law 659 = .ok (.iload_n 3, 1) := by decide +kernel
theorem dL_law_660 : decode cL_law 660 = .ok (.iconst 1, 1) := by decide +kernel
theorem dL_law_661 : decode cL_law 661 = .ok (.iadd, 1) := by decide +kernel
theorem dL_law_662 : decode cL_law 662 = .ok (.iaload, 1) := by decide +kernel
theorem dL_law_663 : decode cL_law 663 = .ok (.aload_n 0, 1) := by decide +kernel
theorem dL_law_664 : decode cL_law 664 = .ok (.iload_n 3, 1) := by decide +kernel
theorem dL_law_665 : decode cL_law 665 = .ok (.iconst 2, 1) := by decide +kernel
theorem dL_law_666 : decode cL_law 666 = .ok (.iadd, 1) := by decide +kernel
theorem dL_law_667 : decode cL_law 667 = .ok (.iaload, 1) := by decide +kernel
theorem dL_law_668 : decode cL_law 668 = .ok (.invokevirtual 84, 3) := by decide +kernel
theorem dL_law_671 : decode cL_law 671 = .ok (.if_icmp .eq 387, 3) := by decide +kernel
theorem dL_law_674 : decode cL_law 674 = .ok (.iconst 0, 1) := by decide +kernel
theorem dL_law_675 : decode cL_law 675 = .ok (.ireturn, 1) := by decide +kernel
theorem dL_law_676 : decode cL_law 676 = .ok (.aload_n 1, 1) := by decide +kernel
theorem dL_law_677 : decode cL_law 677 = .ok (.aload_n 0, 1) := by decide +kernel
theorem dL_law_678 : decode cL_law 678 = .ok (.iload_n 3, 1) := by decide +kernel
theorem dL_law_679 : decode cL_law 679 = .ok (.iconst 1, 1) := by decide +kernel
theorem dL_law_680 : decode cL_law 680 = .ok (.iadd, 1) := by decide +kernel
theorem dL_law_681 : decode cL_law 681 = .ok (.iaload, 1) := by decide +kernel
theorem dL_law_682 : decode cL_law 682 = .ok (.aload_n 0, 1) := by decide +kernel
theorem dL_law_683 : decode cL_law 683 = .ok (.iload_n 3, 1) := by decide +kernel
theorem dL_law_684 : decode cL_law 684 = .ok (.iconst 2, 1) := by decide +kernel
theorem dL_law_685 : decode cL_law 685 = .ok (.iadd, 1) := by decide +kernel
theorem dL_law_686 : decode cL_law 686 = .ok (.iaload, 1) := by decide +kernel
theorem dL_law_687 : decode cL_law 687 = .ok (.invokevirtual 85, 3) := by decide +kernel
theorem dL_law_690 : decode cL_law 690 = .ok (.aload_n 2, 1) := by decide +kernel
theorem dL_law_691 : decode cL_law 691 = .ok (.aload_n 0, 1) := by decide +kernel
theorem dL_law_692 : decode cL_law 692 = .ok (.iload_n 3, 1) := by decide +kernel
theorem dL_law_693 : decode cL_law 693 = .ok (.iconst 1, 1) := by decide +kernel
theorem dL_law_694 : decode cL_law 694 = .ok (.iadd, 1) := by decide +kernel
theorem dL_law_695 : decode cL_law 695 = .ok (.iaload, 1) := by decide +kernel
theorem dL_law_696 : decode cL_law 696 = .ok (.aload_n 0, 1) := by decide +kernel
theorem dL_law_697 : decode cL_law 697 = .ok (.iload_n 3, 1) := by decide +kernel
theorem dL_law_698 : decode cL_law 698 = .ok (.iconst 2, 1) := by decide +kernel
theorem dL_law_699 : decode cL_law 699 = .ok (.iadd, 1) := by decide +kernel
theorem dL_law_700 : decode cL_law 700 = .ok (.iaload, 1) := by decide +kernel
theorem dL_law_701 : decode cL_law 701 = .ok (.invokevirtual 88, 3) := by decide +kernel
theorem dL_law_704 : decode cL_law 704 = .ok (.if_icmp .eq 354, 3) := by decide +kernel
theorem dL_law_707 : decode cL_law 707 = .ok (.iconst 0, 1) := by decide +kernel
theorem dL_law_708 : decode cL_law 708 = .ok (.ireturn, 1) := by decide +kernel
theorem dL_law_709 : decode cL_law 709 = .ok (.aload_n 1, 1) := by decide +kernel
theorem dL_law_710 : decode cL_law 710 = .ok (.aload_n 0, 1) := by decide +kernel
theorem dL_law_711 : decode cL_law 711 = .ok (.iload_n 3, 1) := by decide +kernel
theorem dL_law_712 : decode cL_law 712 = .ok (.iconst 1, 1) := by decide +kernel
theorem dL_law_713 : decode cL_law 713 = .ok (.iadd, 1) := by decide +kernel
theorem dL_law_714 : decode cL_law 714 = .ok (.iaload, 1) := by decide +kernel
theorem dL_law_715 : decode cL_law 715 = .ok (.invokevirtual 89, 3) := by decide +kernel
theorem dL_law_718 : decode cL_law 718 = .ok (.aload_n 2, 1) := by decide +kernel
theorem dL_law_719 : decode cL_law 719 = .ok (.aload_n 0, 1) := by decide +kernel
theorem dL_law_720 : decode cL_law 720 = .ok (.iload_n 3, 1) := by decide +kernel
theorem dL_law_721 : decode cL_law 721 = .ok (.iconst 1, 1) := by decide +kernel
theorem dL_law_722 : decode cL_law 722 = .ok (.iadd, 1) := by decide +kernel
theorem dL_law_723 : decode cL_law 723 = .ok (.iaload, 1) := by decide +kernel
theorem dL_law_724 : decode cL_law 724 = .ok (.invokevirtual 92, 3) := by decide +kernel
theorem dL_law_727 : decode cL_law 727 = .ok (.if_icmp .eq 331, 3) := by decide +kernel
theorem dL_law_730 : decode cL_law 730 = .ok (.iconst 0, 1) := by decide +kernel
theorem dL_law_731 : decode cL_law 731 = .ok (.ireturn, 1) := by decide +kernel
theorem dL_law_732 : decode cL_law 732 = .ok (.aload_n 1, 1) := by decide +kernel
theorem dL_law_733 : decode cL_law 733 = .ok (.aload_n 0, 1) := by decide +kernel
theorem dL_law_734 : decode cL_law 734 = .ok (.iload_n 3, 1) := by decide +kernel
theorem dL_law_735 : decode cL_law 735 = .ok (.iconst 1, 1) := by decide +kernel
theorem dL_law_736 : decode cL_law 736 = .ok (.iadd, 1) := by decide +kernel
theorem dL_law_737 : decode cL_law 737 = .ok (.iaload, 1) := by decide +kernel
theorem dL_law_738 : decode cL_law 738 = .ok (.aload_n 0, 1) := by decide +kernel
theorem dL_law_739 : decode cL_law 739 = .ok (.iload_n 3, 1) := by decide +kernel
theorem dL_law_740 : decode cL_law 740 = .ok (.iconst 2, 1) := by decide +kernel
theorem dL_law_741 : decode cL_law 741 = .ok (.iadd, 1) := by decide +kernel
theorem dL_law_742 : decode cL_law 742 = .ok (.iaload, 1) := by decide +kernel
theorem dL_law_743 : decode cL_law 743 = .ok (.invokevirtual 93, 3) := by decide +kernel
theorem dL_law_746 : decode cL_law 746 = .ok (.aload_n 2, 1) := by decide +kernel
theorem dL_law_747 : decode cL_law 747 = .ok (.aload_n 0, 1) := by decide +kernel
theorem dL_law_748 : decode cL_law 748 = .ok (.iload_n 3, 1) := by decide +kernel
theorem dL_law_749 : decode cL_law 749 = .ok (.iconst 1, 1) := by decide +kernel
theorem dL_law_750 : decode cL_law 750 = .ok (.iadd, 1) := by decide +kernel
theorem dL_law_751 : decode cL_law 751 = .ok (.iaload, 1) := by decide +kernel
theorem dL_law_752 : decode cL_law 752 = .ok (.aload_n 0, 1) := by decide +kernel
theorem dL_law_753 : decode cL_law 753 = .ok (.iload_n 3, 1) := by decide +kernel
theorem dL_law_754 : decode cL_law 754 = .ok (.iconst 2, 1) := by decide +kernel
theorem dL_law_755 : decode cL_law 755 = .ok (.iadd, 1) := by decide +kernel
theorem dL_law_756 : decode cL_law 756 = .ok (.iaload, 1) := by decide +kernel
theorem dL_law_757 : decode cL_law 757 = .ok (.invokevirtual 96, 3) := by decide +kernel
theorem dL_law_760 : decode cL_law 760 = .ok (.if_icmp .eq 298, 3) := by decide +kernel
theorem dL_law_763 : decode cL_law 763 = .ok (.iconst 0, 1) := by decide +kernel
theorem dL_law_764 : decode cL_law 764 = .ok (.ireturn, 1) := by decide +kernel
theorem dL_law_765 : decode cL_law 765 = .ok (.aload_n 1, 1) := by decide +kernel
theorem dL_law_766 : decode cL_law 766 = .ok (.aload_n 0, 1) := by decide +kernel
theorem dL_law_767 : decode cL_law 767 = .ok (.iload_n 3, 1) := by decide +kernel
theorem dL_law_768 : decode cL_law 768 = .ok (.iconst 1, 1) := by decide +kernel
theorem dL_law_769 : decode cL_law 769 = .ok (.iadd, 1) := by decide +kernel
theorem dL_law_770 : decode cL_law 770 = .ok (.iaload, 1) := by decide +kernel
theorem dL_law_771 : decode cL_law 771 = .ok (.invokevirtual 97, 3) := by decide +kernel
theorem dL_law_774 : decode cL_law 774 = .ok (.aload_n 2, 1) := by decide +kernel
theorem dL_law_775 : decode cL_law 775 = .ok (.aload_n 0, 1) := by decide +kernel
theorem dL_law_776 : decode cL_law 776 = .ok (.iload_n 3, 1) := by decide +kernel
theorem dL_law_777 : decode cL_law 777 = .ok (.iconst 1, 1) := by decide +kernel
theorem dL_law_778 : decode cL_law 778 = .ok (.iadd, 1) := by decide +kernel
theorem dL_law_779 : decode cL_law 779 = .ok (.iaload, 1) := by decide +kernel
theorem dL_law_780 : decode cL_law 780 = .ok (.invokevirtual 100, 3) := by decide +kernel
theorem dL_law_783 : decode cL_law 783 = .ok (.if_icmp .eq 275, 3) := by decide +kernel
theorem dL_law_786 : decode cL_law 786 = .ok (.iconst 0, 1) := by decide +kernel
theorem dL_law_787 : decode cL_law 787 = .ok (.ireturn, 1) := by decide +kernel
theorem dL_law_788 : decode cL_law 788 = .ok (.aload_n 1, 1) := by decide +kernel
theorem dL_law_789 : decode cL_law 789 = .ok (.aload_n 0, 1) := by decide +kernel
theorem dL_law_790 : decode cL_law 790 = .ok (.iload_n 3, 1) := by decide +kernel
theorem dL_law_791 : decode cL_law 791 = .ok (.iconst 1, 1) := by decide +kernel
theorem dL_law_792 : decode cL_law 792 = .ok (.iadd, 1) := by decide +kernel
theorem dL_law_793 : decode cL_law 793 = .ok (.iaload, 1) := by decide +kernel
theorem dL_law_794 : decode cL_law 794 = .ok (.aload_n 0, 1) := by decide +kernel
theorem dL_law_795 : decode cL_law 795 = .ok (.iload_n 3, 1) := by decide +kernel
theorem dL_law_796 : decode cL_law 796 = .ok (.iconst 2, 1) := by decide +kernel
theorem dL_law_797 : decode cL_law 797 = .ok (.iadd, 1) := by decide +kernel
theorem dL_law_798 : decode cL_law 798 = .ok (.iaload, 1) := by decide +kernel
theorem dL_law_799 : decode cL_law 799 = .ok (.invokevirtual 101, 3) := by decide +kernel
theorem dL_law_802 : decode cL_law 802 = .ok (.aload_n 2, 1) := by decide +kernel
theorem dL_law_803 : decode cL_law 803 = .ok (.aload_n 0, 1) := by decide +kernel
theorem dL_law_804 : decode cL_law 804 = .ok (.iload_n 3, 1) := by decide +kernel
theorem dL_law_805 : decode cL_law 805 = .ok (.iconst 1, 1) := by decide +kernel
theorem dL_law_806 : decode cL_law 806 = .ok (.iadd, 1) := by decide +kernel
theorem dL_law_807 : decode cL_law 807 = .ok (.iaload, 1) := by decide +kernel
theorem dL_law_808 : decode cL_law 808 = .ok (.aload_n 0, 1) := by decide +kernel
theorem dL_law_809 : decode cL_law 809 = .ok (.iload_n 3, 1) := by decide +kernel
theorem dL_law_810 : decode cL_law 810 = .ok (.iconst 2, 1) := by decide +kernel
theorem dL_law_811 : decode cL_law 811 = .ok (.iadd, 1) := by decide +kernel
theorem dL_law_812 : decode cL_law 812 = .ok (.iaload, 1) := by decide +kernel
theorem dL_law_813 : decode cL_law 813 = .ok (.invokevirtual 104, 3) := by decide +kernel
theorem dL_law_816 : decode cL_law 816 = .ok (.if_icmp .eq 242, 3) := by decide +kernel
theorem dL_law_819 : decode cL_law 819 = .ok (.iconst 0, 1) := by decide +kernel
theorem dL_law_820 : decode cL_law 820 = .ok (.ireturn, 1) := by decide +kernel
theorem dL_law_821 : decode cL_law 821 = .ok (.aload_n 1, 1) := by decide +kernel
theorem dL_law_822 : decode cL_law 822 = .ok (.aload_n 0, 1) := by decide +kernel
theorem dL_law_823 : decode cL_law 823 = .ok (.iload_n 3, 1) := by decide +kernel
theorem dL_law_824 : decode cL_law 824 = .ok (.iconst 1, 1) := by decide +kernel
theorem dL_law_825 : decode cL_law 825 = .ok (.iadd, 1) := by decide +kernel
theorem dL_law_826 : decode cL_law 826 = .ok (.iaload, 1) := by decide +kernel
theorem dL_law_827 : decode cL_law 827 = .ok (.aload_n 0, 1) := by decide +kernel
theorem dL_law_828 : decode cL_law 828 = .ok (.iload_n 3, 1) := by decide +kernel
theorem dL_law_829 : decode cL_law 829 = .ok (.iconst 2, 1) := by decide +kernel
theorem dL_law_830 : decode cL_law 830 = .ok (.iadd, 1) := by decide +kernel
theorem dL_law_831 : decode cL_law 831 = .ok (.iaload, 1) := by decide +kernel
theorem dL_law_832 : decode cL_law 832 = .ok (.aload_n 0, 1) := by decide +kernel
theorem dL_law_833 : decode cL_law 833 = .ok (.iload_n 3, 1) := by decide +kernel
theorem dL_law_834 : decode cL_law 834 = .ok (.iconst 3, 1) := by decide +kernel
theorem dL_law_835 : decode cL_law 835 = .ok (.iadd, 1) := by decide +kernel
theorem dL_law_836 : decode cL_law 836 = .ok (.iaload, 1) := by decide +kernel
theorem dL_law_837 : decode cL_law 837 = .ok (.invokevirtual 105, 3) := by decide +kernel
theorem dL_law_840 : decode cL_law 840 = .ok (.aload_n 2, 1) := by decide +kernel
theorem dL_law_841 : decode cL_law 841 = .ok (.aload_n 0, 1) := by decide +kernel
theorem dL_law_842 : decode cL_law 842 = .ok (.iload_n 3, 1) := by decide +kernel
theorem dL_law_843 : decode cL_law 843 = .ok (.iconst 1, 1) := by decide +kernel
theorem dL_law_844 : decode cL_law 844 = .ok (.iadd, 1) := by decide +kernel
theorem dL_law_845 : decode cL_law 845 = .ok (.iaload, 1) := by decide +kernel
theorem dL_law_846 : decode cL_law 846 = .ok (.aload_n 0, 1) := by decide +kernel
theorem dL_law_847 : decode cL_law 847 = .ok (.iload_n 3, 1) := by decide +kernel
theorem dL_law_848 : decode cL_law 848 = .ok (.iconst 2, 1) := by decide +kernel
theorem dL_law_849 : decode cL_law 849 = .ok (.iadd, 1) := by decide +kernel
theorem dL_law_850 : decode cL_law 850 = .ok (.iaload, 1) := by decide +kernel
theorem dL_law_851 : decode cL_law 851 = .ok (.aload_n 0, 1) := by decide +kernel
theorem dL_law_852 : decode cL_law 852 = .ok (.iload_n 3, 1) := by decide +kernel
theorem dL_law_853 : decode cL_law 853 = .ok (.iconst 3, 1) := by decide +kernel
theorem dL_law_854 : decode cL_law 854 = .ok (.iadd, 1) := by decide +kernel
theorem dL_law_855 : decode cL_law 855 = .ok (.iaload, 1) := by decide +kernel
theorem dL_law_856 : decode cL_law 856 = .ok (.invokevirtual 108, 3) := by decide +kernel
theorem dL_law_859 : decode cL_law 859 = .ok (.if_icmp .eq 199, 3) := by decide +kernel
theorem dL_law_862 : decode cL_law 862 = .ok (.iconst 0, 1) := by decide +kernel
theorem dL_law_863 : decode cL_law 863 = .ok (.ireturn, 1) := by decide +kernel
theorem dL_law_864 : decode cL_law 864 = .ok (.aload_n 1, 1) := by decide +kernel
theorem dL_law_865 : decode cL_law 865 = .ok (.aload_n 0, 1) := by decide +kernel
theorem dL_law_866 : decode cL_law 866 = .ok (.iload_n 3, 1) := by decide +kernel
theorem dL_law_867 : decode cL_law 867 = .ok (.iconst 1, 1) := by decide +kernel
theorem dL_law_868 : decode cL_law 868 = .ok (.iadd, 1) := by decide +kernel
theorem dL_law_869 : decode cL_law 869 = .ok (.iaload, 1) := by decide +kernel
theorem dL_law_870 : decode cL_law 870 = .ok (.invokevirtual 109, 3) := by decide +kernel
theorem dL_law_873 : decode cL_law 873 = .ok (.aload_n 2, 1) := by decide +kernel
theorem dL_law_874 : decode cL_law 874 = .ok (.aload_n 0, 1) := by decide +kernel
theorem dL_law_875 : decode cL_law 875 = .ok (.iload_n 3, 1) := by decide +kernel
theorem dL_law_876 : decode cL_law 876 = .ok (.iconst 1, 1) := by decide +kernel
theorem dL_law_877 : decode cL_law 877 = .ok (.iadd, 1) := by decide +kernel
theorem dL_law_878 : decode cL_law 878 = .ok (.iaload, 1) := by decide +kernel
theorem dL_law_879 : decode cL_law 879 = .ok (.invokevirtual 112, 3) := by decide +kernel
theorem dL_law_882 : decode cL_law 882 = .ok (.if_icmp .eq 176, 3) := by decide +kernel
theorem dL_law_885 : decode cL_law 885 = .ok (.iconst 0, 1) := by decide +kernel
theorem dL_law_886 : decode cL_law 886 = .ok (.ireturn, 1) := by decide +kernel
theorem dL_law_887 : decode cL_law 887 = .ok (.aload_n 1, 1) := by decide +kernel
theorem dL_law_888 : decode cL_law 888 = .ok (.aload_n 0, 1) := by decide +kernel
theorem dL_law_889 : decode cL_law 889 = .ok (.iload_n 3, 1) := by decide +kernel
theorem dL_law_890 : decode cL_law 890 = .ok (.iconst 1, 1) := by decide +kernel
theorem dL_law_891 : decode cL_law 891 = .ok (.iadd, 1) := by decide +kernel
theorem dL_law_892 : decode cL_law 892 = .ok (.iaload, 1) := by decide +kernel
theorem dL_law_893 : decode cL_law 893 = .ok (.invokevirtual 113, 3) := by decide +kernel
theorem dL_law_896 : decode cL_law 896 = .ok (.aload_n 2, 1) := by decide +kernel
theorem dL_law_897 : decode cL_law 897 = .ok (.aload_n 0, 1) := by decide +kernel
theorem dL_law_898 : decode cL_law 898 = .ok (.iload_n 3, 1) := by decide +kernel
theorem dL_law_899 : decode cL_law 899 = .ok (.iconst 1, 1) := by decide +kernel
theorem dL_law_900 : decode cL_law 900 = .ok (.iadd, 1) := by decide +kernel
theorem dL_law_901 : decode cL_law 901 = .ok (.iaload, 1) := by decide +kernel
theorem dL_law_902 : decode cL_law 902 = .ok (.invokevirtual 116, 3) := by decide +kernel
theorem dL_law_905 : decode cL_law 905 = .ok (.if_icmp .eq 153, 3) := by decide +kernel
theorem dL_law_908 : decode cL_law 908 = .ok (.iconst 0, 1) := by decide +kernel
theorem dL_law_909 : decode cL_law 909 = .ok (.ireturn, 1) := by decide +kernel
theorem dL_law_910 : decode cL_law 910 = .ok (.aload_n 1, 1) := by decide +kernel
theorem dL_law_911 : decode cL_law 911 = .ok (.aload_n 0, 1) := by decide +kernel
theorem dL_law_912 : decode cL_law 912 = .ok (.iload_n 3, 1) := by decide +kernel
theorem dL_law_913 : decode cL_law 913 = .ok (.iconst 1, 1) := by decide +kernel
theorem dL_law_914 : decode cL_law 914 = .ok (.iadd, 1) := by decide +kernel
theorem dL_law_915 : decode cL_law 915 = .ok (.iaload, 1) := by decide +kernel
theorem dL_law_916 : decode cL_law 916 = .ok (.invokevirtual 117, 3) := by decide +kernel
theorem dL_law_919 : decode cL_law 919 = .ok (.aload_n 2, 1) := by decide +kernel
theorem dL_law_920 : decode cL_law 920 = .ok (.aload_n 0, 1) := by decide +kernel
theorem dL_law_921 : decode cL_law 921 = .ok (.iload_n 3, 1) := by decide +kernel
theorem dL_law_922 : decode cL_law 922 = .ok (.iconst 1, 1) := by decide +kernel
theorem dL_law_923 : decode cL_law 923 = .ok (.iadd, 1) := by decide +kernel
theorem dL_law_924 : decode cL_law 924 = .ok (.iaload, 1) := by decide +kernel
theorem dL_law_925 : decode cL_law 925 = .ok (.invokevirtual 120, 3) := by decide +kernel
theorem dL_law_928 : decode cL_law 928 = .ok (.if_icmp .eq 130, 3) := by decide +kernel
theorem dL_law_931 : decode cL_law 931 = .ok (.iconst 0, 1) := by decide +kernel
theorem dL_law_932 : decode cL_law 932 = .ok (.ireturn, 1) := by decide +kernel
theorem dL_law_933 : decode cL_law 933 = .ok (.aload_n 1, 1) := by decide +kernel
theorem dL_law_934 : decode cL_law 934 = .ok (.aload_n 0, 1) := by decide +kernel
theorem dL_law_935 : decode cL_law 935 = .ok (.iload_n 3, 1) := by decide +kernel
theorem dL_law_936 : decode cL_law 936 = .ok (.iconst 1, 1) := by decide +kernel
theorem dL_law_937 : decode cL_law 937 = .ok (.iadd, 1) := by decide +kernel
theorem dL_law_938 : decode cL_law 938 = .ok (.iaload, 1) := by decide +kernel
theorem dL_law_939 : decode cL_law 939 = .ok (.aload_n 0, 1) := by decide +kernel
theorem dL_law_940 : decode cL_law 940 = .ok (.iload_n 3, 1) := by decide +kernel
theorem dL_law_941 : decode cL_law 941 = .ok (.iconst 2, 1) := by decide +kernel
theorem dL_law_942 : decode cL_law 942 = .ok (.iadd, 1) := by decide +kernel
theorem dL_law_943 : decode cL_law 943 = .ok (.iaload, 1) := by decide +kernel
theorem dL_law_944 : decode cL_law 944 = .ok (.invokevirtual 121, 3) := by decide +kernel
theorem dL_law_947 : decode cL_law 947 = .ok (.aload_n 2, 1) := by decide +kernel
theorem dL_law_948 : decode cL_law 948 = .ok (.aload_n 0, 1) := by decide +kernel
theorem dL_law_949 : decode cL_law 949 = .ok (.iload_n 3, 1) := by decide +kernel
theorem dL_law_950 : decode cL_law 950 = .ok (.iconst 1, 1) := by decide +kernel
theorem dL_law_951 : decode cL_law 951 = .ok (.iadd, 1) := by decide +kernel
theorem dL_law_952 : decode cL_law 952 = .ok (.iaload, 1) := by decide +kernel
theorem dL_law_953 : decode cL_law 953 = .ok (.aload_n 0, 1) := by decide +kernel
theorem dL_law_954 : decode cL_law 954 = .ok (.iload_n 3, 1) := by decide +kernel
theorem dL_law_955 : decode cL_law 955 = .ok (.iconst 2, 1) := by decide +kernel
theorem dL_law_956 : decode cL_law 956 = .ok (.iadd, 1) := by decide +kernel
theorem dL_law_957 : decode cL_law 957 = .ok (.iaload, 1) := by decide +kernel
theorem dL_law_958 : decode cL_law 958 = .ok (.invokevirtual 124, 3) := by decide +kernel
theorem dL_law_961 : decode cL_law 961 = .ok (.if_icmp .eq 97, 3) := by decide +kernel
theorem dL_law_964 : decode cL_law 964 = .ok (.iconst 0, 1) := by decide +kernel
theorem dL_law_965 : decode cL_law 965 = .ok (.ireturn, 1) := by decide +kernel
theorem dL_law_966 : decode cL_law 966 = .ok (.aload_n 1, 1) := by decide +kernel
theorem dL_law_967 : decode cL_law 967 = .ok (.aload_n 0, 1) := by decide +kernel
theorem dL_law_968 : decode cL_law 968 = .ok (.iload_n 3, 1) := by decide +kernel
theorem dL_law_969 : decode cL_law 969 = .ok (.iconst 1, 1) := by decide +kernel
theorem dL_law_970 : decode cL_law 970 = .ok (.iadd, 1) := by decide +kernel
theorem dL_law_971 : decode cL_law 971 = .ok (.iaload, 1) := by decide +kernel
theorem dL_law_972 : decode cL_law 972 = .ok (.aload_n 0, 1) := by decide +kernel
theorem dL_law_973 : decode cL_law 973 = .ok (.iload_n 3, 1) := by decide +kernel
theorem dL_law_974 : decode cL_law 974 = .ok (.iconst 2, 1) := by decide +kernel
theorem dL_law_975 : decode cL_law 975 = .ok (.iadd, 1) := by decide +kernel
theorem dL_law_976 : decode cL_law 976 = .ok (.iaload, 1) := by decide +kernel
theorem dL_law_977 : decode cL_law 977 = .ok (.invokevirtual 125, 3) := by decide +kernel
theorem dL_law_980 : decode cL_law 980 = .ok (.aload_n 2, 1) := by decide +kernel
theorem dL_law_981 : decode cL_law 981 = .ok (.aload_n 0, 1) := by decide +kernel
theorem dL_law_982 : decode cL_law 982 = .ok (.iload_n 3, 1) := by decide +kernel
theorem dL_law_983 : decode cL_law 983 = .ok (.iconst 1, 1) := by decide +kernel
theorem dL_law_984 : decode cL_law 984 = .ok (.iadd, 1) := by decide +kernel
theorem dL_law_985 : decode cL_law 985 = .ok (.iaload, 1) := by decide +kernel
theorem dL_law_986 : decode cL_law 986 = .ok (.aload_n 0, 1) := by decide +kernel
theorem dL_law_987 : decode cL_law 987 = .ok (.iload_n 3, 1) := by decide +kernel
theorem dL_law_988 : decode cL_law 988 = .ok (.iconst 2, 1) := by decide +kernel
theorem dL_law_989 : decode cL_law 989 = .ok (.iadd, 1) := by decide +kernel
theorem dL_law_990 : decode cL_law 990 = .ok (.iaload, 1) := by decide +kernel
theorem dL_law_991 : decode cL_law 991 = .ok (.invokevirtual 128, 3) := by decide +kernel
theorem dL_law_994 : decode cL_law 994 = .ok (.if_icmp .eq 64, 3) := by decide +kernel
theorem dL_law_997 : decode cL_law 997 = .ok (.iconst 0, 1) := by decide +kernel
theorem dL_law_998 : decode cL_law 998 = .ok (.ireturn, 1) := by decide +kernel
theorem dL_law_999 : decode cL_law 999 = .ok (.aload_n 1, 1) := by decide +kernel
theorem dL_law_1000 : decode cL_law 1000 = .ok (.aload_n 0, 1) := by decide +kernel
theorem dL_law_1001 : decode cL_law 1001 = .ok (.iload_n 3, 1) := by decide +kernel
theorem dL_law_1002 : decode cL_law 1002 = .ok (.iconst 1, 1) := by decide +kernel
theorem dL_law_1003 : decode cL_law 1003 = .ok (.iadd, 1) := by decide +kernel
theorem dL_law_1004 : decode cL_law 1004 = .ok (.iaload, 1) := by decide +kernel
theorem dL_law_1005 : decode cL_law 1005 = .ok (.invokevirtual 129, 3) := by decide +kernel
theorem dL_law_1008 : decode cL_law 1008 = .ok (.aload_n 2, 1) := by decide +kernel
theorem dL_law_1009 : decode cL_law 1009 = .ok (.aload_n 0, 1) := by decide +kernel
theorem dL_law_1010 : decode cL_law 1010 = .ok (.iload_n 3, 1) := by decide +kernel
theorem dL_law_1011 : decode cL_law 1011 = .ok (.iconst 1, 1) := by decide +kernel
theorem dL_law_1012 : decode cL_law 1012 = .ok (.iadd, 1) := by decide +kernel
theorem dL_law_1013 : decode cL_law 1013 = .ok (.iaload, 1) := by decide +kernel
theorem dL_law_1014 : decode cL_law 1014 = .ok (.invokevirtual 132, 3) := by decide +kernel
theorem dL_law_1017 : decode cL_law 1017 = .ok (.if_icmp .eq 41, 3) := by decide +kernel
theorem dL_law_1020 : decode cL_law 1020 = .ok (.iconst 0, 1) := by decide +kernel
theorem dL_law_1021 : decode cL_law 1021 = .ok (.ireturn, 1) := by decide +kernel
theorem dL_law_1022 : decode cL_law 1022 = .ok (.aload_n 1, 1) := by decide +kernel
theorem dL_law_1023 : decode cL_law 1023 = .ok (.aload_n 0, 1) := by decide +kernel
theorem dL_law_1024 : decode cL_law 1024 = .ok (.iload_n 3, 1) := by decide +kernel
theorem dL_law_1025 : decode cL_law 1025 = .ok (.iconst 1, 1) := by decide +kernel
theorem dL_law_1026 : decode cL_law 1026 = .ok (.iadd, 1) := by decide +kernel
theorem dL_law_1027 : decode cL_law 1027 = .ok (.iaload, 1) := by decide +kernel
theorem dL_law_1028 : decode cL_law 1028 = .ok (.invokevirtual 133, 3) := by decide +kernel
theorem dL_law_1031 : decode cL_law 1031 = .ok (.aload_n 2, 1) := by decide +kernel
theorem dL_law_1032 : decode cL_law 1032 = .ok (.aload_n 0, 1) := by decide +kernel
theorem dL_law_1033 : decode cL_law 1033 = .ok (.iload_n 3, 1) := by decide +kernel
theorem dL_law_1034 : decode cL_law 1034 = .ok (.iconst 1, 1) := by decide +kernel
theorem dL_law_1035 : decode cL_law 1035 = .ok (.iadd, 1) := by decide +kernel
theorem dL_law_1036 : decode cL_law 1036 = .ok (.iaload, 1) := by decide +kernel
theorem dL_law_1037 : decode cL_law 1037 = .ok (.invokevirtual 136, 3) := by decide +kernel
theorem dL_law_1040 : decode cL_law 1040 = .ok (.if_icmp .eq 18, 3) := by decide +kernel
theorem dL_law_1043 : decode cL_law 1043 = .ok (.iconst 0, 1) := by decide +kernel
theorem dL_law_1044 : decode cL_law 1044 = .ok (.ireturn, 1) := by decide +kernel
theorem dL_law_1045 : decode cL_law 1045 = .ok (.aload_n 1, 1) := by decide +kernel
theorem dL_law_1046 : decode cL_law 1046 = .ok (.invokevirtual 137, 3) := by decide +kernel
theorem dL_law_1049 : decode cL_law 1049 = .ok (.aload_n 2, 1) := by decide +kernel
theorem dL_law_1050 : decode cL_law 1050 = .ok (.invokevirtual 140, 3) := by decide +kernel
theorem dL_law_1053 : decode cL_law 1053 = .ok (.if_icmp .eq 5, 3) := by decide +kernel
theorem dL_law_1056 : decode cL_law 1056 = .ok (.iconst 0, 1) := by decide +kernel
theorem dL_law_1057 : decode cL_law 1057 = .ok (.ireturn, 1) := by decide +kernel
theorem dL_law_1058 : decode cL_law 1058 = .ok (.iinc 3 6, 3) := by decide +kernel
theorem dL_law_1061 : decode cL_law 1061 = .ok (.goto (-1043), 3) := by decide +kernel
theorem dL_law_1064 : decode cL_law 1064 = .ok (.iconst 1, 1) := by decide +kernel
theorem dL_law_1065 : decode cL_law 1065 = .ok (.ireturn, 1) := by decide +kernel
