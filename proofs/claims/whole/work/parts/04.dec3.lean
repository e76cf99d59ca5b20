theorem dX7_fill_8 : decode cX7_fill 8 = .ok (.aload_n 0, 1) := by decide +kernel
theorem dX7_fill_9 : decode cX7_fill 9 = .ok (.getfield 56, 3) := by decide +kernel
theorem dX7_fill_12 : decode cX7_fill 12 = .ok (.iload_n 2, 1) := by decide +kernel
theorem dX7_fill_13 : decode cX7_fill 13 = .ok (.iconst 0, 1) := by decide +kernel
theorem dX7_fill_14 : decode cX7_fill 14 = .ok (.iastore, 1) := by decide +kernel
theorem dX7_fill_15 : decode cX7_fill 15 = .ok (.iinc 2 1, 3) := by decide +kernel
theorem dX7_fill_18 : decode cX7_fill 18 = .ok (.goto (-16), 3) := by decide +kernel
theorem dX7_fill_21 : decode cX7_fill 21 = .ok (.aload_n 0, 1) := by decide +kernel
theorem dX7_fill_22 : decode cX7_fill 22 = .ok (.getfield 56, 3) := by decide +kernel
theorem dX7_fill_25 : decode cX7_fill 25 = .ok (.iconst 0, 1) := by decide +kernel
theorem dX7_fill_26 : decode cX7_fill 26 = .ok (.aload_n 0, 1) := by decide +kernel
theorem dX7_fill_27 : decode cX7_fill 27 = .ok (.getfield 25, 3) := by decide +kernel
theorem dX7_fill_30 : decode cX7_fill 30 = .ok (.iload_n 1, 1) := by decide +kernel
theorem dX7_fill_31 : decode cX7_fill 31 = .ok (.iaload, 1) := by decide +kernel
theorem dX7_fill_32 : decode cX7_fill 32 = .ok (.iastore, 1) := by decide +kernel
theorem dX7_fill_33 : decode cX7_fill 33 = .ok (.aload_n 0, 1) := by decide +kernel
theorem dX7_fill_34 : decode cX7_fill 34 = .ok (.getfield 56, 3) := by decide +kernel
theorem dX7_fill_37 : decode cX7_fill 37 = .ok (.iconst 1, 1) := by decide +kernel
theorem dX7_fill_38 : decode cX7_fill 38 = .ok (.aload_n 0, 1) := by decide +kernel
theorem dX7_fill_39 : decode cX7_fill 39 = .ok (.getfield 32, 3) := by decide +kernel
theorem dX7_fill_42 : decode cX7_fill 42 = .ok (.iload_n 1, 1) := by decide +kernel
theorem dX7_fill_43 : decode cX7_fill 43 = .ok (.iaload, 1) := by decide +kernel
theorem dX7_fill_44 : decode cX7_fill 44 = .ok (.iastore, 1) := by decide +kernel
theorem dX7_fill_45 : decode cX7_fill 45 = .ok (.iconst 2, 1) := by decide +kernel
theorem dX7_fill_46 : decode cX7_fill 46 = .ok (.istore_n 2, 1) := by decide +kernel
theorem dX7_fill_47 : decode cX7_fill 47 = .ok (.iconst 0, 1) := by decide +kernel
theorem dX7_fill_48 : decode cX7_fill 48 = .ok (.istore_n 3, 1) := by decide +kernel
theorem dX7_fill_49 : decode cX7_fill 49 = .ok (.iload_n 3, 1) := by decide +kernel
theorem dX7_fill_50 : decode cX7_fill 50 = .ok (.aload_n 0, 1) := by decide +kernel
theorem dX7_fill_51 : decode cX7_fill 51 = .ok (.getfield 32, 3) := by decide +kernel
theorem dX7_fill_54 : decode cX7_fill 54 = .ok (.iload_n 1, 1) := by decide +kernel
theorem dX7_fill_55 : decode cX7_fill 55 = .ok (.iaload, 1) := by decide +kernel
theorem dX7_fill_56 : decode cX7_fill 56 = .ok (.if_icmp .ge 119, 3) := by decide +kernel
theorem dX7_fill_59 : decode cX7_fill 59 = .ok (.aload_n 0, 1) := by decide +kernel
theorem dX7_fill_60 : decode cX7_fill 60 = .ok (.getfield 35, 3) := by decide +kernel
theorem dX7_fill_63 : decode cX7_fill 63 = .ok (.bipush 10, 2) := by decide +kernel
theorem dX7_fill_65 : decode cX7_fill 65 = .ok (.iload_n 1, 1) := by decide +kernel
theorem dX7_fill_66 : decode cX7_fill 66 = .ok (.imul, 1) := by decide +kernel
theorem dX7_fill_67 : decode cX7_fill 67 = .ok (.iload_n 3, 1) := by decide +kernel
theorem dX7_fill_68 : decode cX7_fill 68 = .ok (.iadd, 1) := by decide +kernel
theorem dX7_fill_69 : decode cX7_fill 69 = .ok (.iaload, 1) := by decide +kernel
theorem dX7_fill_70 : decode cX7_fill 70 = .ok (.istore 4, 2) := by decide +kernel
theorem dX7_fill_72 : decode cX7_fill 72 = .ok (.aload_n 0, 1) := by decide +kernel
theorem dX7_fill_73 : decode cX7_fill 73 = .ok (.getfield 56, 3) := by decide +kernel
theorem dX7_fill_76 : decode cX7_fill 76 = .ok (.iload_n 2, 1) := by decide +kernel
theorem dX7_fill_77 : decode cX7_fill 77 = .ok (.aload_n 0, 1) := by decide +kernel
theorem dX7_fill_78 : decode cX7_fill 78 = .ok (.getfield 13, 3) := by decide +kernel
theorem dX7_fill_81 : decode cX7_fill 81 = .ok (.iload 4, 2) := by decide +kernel
theorem dX7_fill_83 : decode cX7_fill 83 = .ok (.iaload, 1) := by decide +kernel
theorem dX7_fill_84 : decode cX7_fill 84 = .ok (.iastore, 1) := by decide +kernel
theorem dX7_fill_85 : decode cX7_fill 85 = .ok (.iinc 2 1, 3) := by decide +kernel
theorem dX7_fill_88 : decode cX7_fill 88 = .ok (.iconst 0, 1) := by decide +kernel
theorem dX7_fill_89 : decode cX7_fill 89 = .ok (.istore 5, 2) := by decide +kernel
theorem dX7_fill_91 : decode cX7_fill 91 = .ok (.iload 5, 2) := by decide +kernel
theorem dX7_fill_93 : decode cX7_fill 93 = .ok (.aload_n 0, 1) := by decide +kernel
theorem dX7_fill_94 : decode cX7_fill 94 = .ok (.getfield 13, 3) := by decide +kernel
theorem dX7_fill_97 : decode cX7_fill 97 = .ok (.iload 4, 2) := by decide +kernel
theorem dX7_fill_99 : decode cX7_fill 99 = .ok (.iaload, 1) := by decide +kernel
theorem dX7_fill_100 : decode cX7_fill 100 = .ok (.if_icmp .ge 31, 3) := by decide +kernel
theorem dX7_fill_103 : decode cX7_fill 103 = .ok (.aload_n 0, 1) := by decide +kernel
theorem dX7_fill_104 : decode cX7_fill 104 = .ok (.getfield 56, 3) := by decide +kernel
theorem dX7_fill_107 : decode cX7_fill 107 = .ok (.iload_n 2, 1) := by decide +kernel
theorem dX7_fill_108 : decode cX7_fill 108 = .ok (.aload_n 0, 1) := by decide +kernel
theorem dX7_fill_109 : decode cX7_fill 109 = .ok (.getfield 16, 3) := by decide +kernel
theorem dX7_fill_112 : decode cX7_fill 112 = .ok (.bipush 12, 2) := by decide +kernel
theorem dX7_fill_114 : decode cX7_fill 114 = .ok (.iload 4, 2) := by decide +kernel
theorem dX7_fill_116 : decode cX7_fill 116 = .ok (.imul, 1) := by decide +kernel
theorem dX7_fill_117 : decode cX7_fill 117 = .ok (.iload 5, 2) := by decide +kernel
theorem dX7_fill_119 : decode cX7_fill 119 = .ok (.iadd, 1) := by decide +kernel
theorem dX7_fill_120 : decode cX7_fill 120 = .ok (.iaload, 1) := by decide +kernel
theorem dX7_fill_121 : decode cX7_fill 121 = .ok (.iastore, 1) := by decide +kernel
theorem dX7_fill_122 : decode cX7_fill 122 = .ok (.iinc 2 1, 3) := by decide +kernel
theorem dX7_fill_125 : decode cX7_fill 125 = .ok (.iinc 5 1, 3) := by decide +kernel
theorem dX7_fill_128 : decode cX7_fill 128 = .ok (.goto (-37), 3) := by decide +kernel
theorem dX7_fill_131 : decode cX7_fill 131 = .ok (.bipush 24, 2) := by decide +kernel
theorem dX7_fill_133 : decode cX7_fill 133 = .ok (.istore 5, 2) := by decide +kernel
theorem dX7_fill_135 : decode cX7_fill 135 = .ok (.iload 5, 2) := by decide +kernel
theorem dX7_fill_137 : decode cX7_fill 137 = .ok (.ifCond .lt 32, 3) := by decide +kernel
theorem dX7_fill_140 : decode cX7_fill 140 = .ok (.aload_n 0, 1) := by decide +kernel
theorem dX7_fill_141 : decode cX7_fill 141 = .ok (.getfield 56, 3) := by decide +kernel
theorem dX7_fill_144 : decode cX7_fill 144 = .ok (.iload_n 2, 1) := by decide +kernel
theorem dX7_fill_145 : decode cX7_fill 145 = .ok (.aload_n 0, 1) := by decide +kernel
theorem dX7_fill_146 : decode cX7_fill 146 = .ok (.getfield 19, 3) := by decide +kernel
theorem dX7_fill_149 : decode cX7_fill 149 = .ok (.iload 4, 2) := by decide +kernel
theorem dX7_fill_151 : decode cX7_fill 151 = .ok (.iaload, 1) := by decide +kernel
theorem dX7_fill_152 : decode cX7_fill 152 = .ok (.iload 5, 2) := by decide +kernel
theorem dX7_fill_154 : decode cX7_fill 154 = .ok (.ishr, 1) := by decide +kernel
theorem dX7_fill_155 : decode cX7_fill 155 = .ok (.sipush 255, 3) := by decide +kernel
theorem dX7_fill_158 : decode cX7_fill 158 = .ok (.iand, 1) := by decide +kernel
theorem dX7_fill_159 : decode cX7_fill 159 = .ok (.iastore, 1) := by decide +kernel
theorem dX7_fill_160 : decode cX7_fill 160 = .ok (.iinc 2 1, 3) := by decide +kernel
theorem dX7_fill_163 : decode cX7_fill 163 = .ok (.iinc 5 (-8), 3) := by decide +kernel
theorem dX7_fill_166 : decode cX7_fill 166 = .ok (.goto (-31), 3) := by decide +kernel
theorem dX7_fill_169 : decode cX7_fill 169 = .ok (.iinc 3 1, 3) := by decide +kernel
theorem dX7_fill_172 : decode cX7_fill 172 = .ok (.goto (-123), 3) := by decide +kernel
theorem dX7_fill_175 : decode cX7_fill 175 = .ok (.iconst 0, 1) := by decide +kernel
theorem dX7_fill_176 : decode cX7_fill 176 = .ok (.istore_n 3, 1) := by decide +kernel
theorem dX7_fill_177 : decode cX7_fill 177 = .ok (.iconst 0, 1) := by decide +kernel
theorem dX7_fill_178 : decode cX7_fill 178 = .ok (.istore 4, 2) := by decide +kernel
theorem dX7_fill_180 : decode cX7_fill 180 = .ok (.iload 4, 2) := by decide +kernel
theorem dX7_fill_182 : decode cX7_fill 182 = .ok (.bipush 60, 2) := by decide +kernel
theorem dX7_fill_184 : decode cX7_fill 184 = .ok (.if_icmp .ge 21, 3) := by decide +kernel
theorem dX7_fill_187 : decode cX7_fill 187 = .ok (.iload_n 3, 1) := by decide +kernel
theorem dX7_fill_188 : decode cX7_fill 188 = .ok (.aload_n 0, 1) := by decide +kernel
theorem dX7_fill_189 : decode cX7_fill 189 = .ok (.getfield 56, 3) := by decide +kernel
theorem dX7_fill_192 : decode cX7_fill 192 = .ok (.iload 4, 2) := by decide +kernel
theorem dX7_fill_194 : decode cX7_fill 194 = .ok (.iaload, 1) := by decide +kernel
theorem dX7_fill_195 : decode cX7_fill 195 = .ok (.invokestatic 82, 3) := by decide +kernel
theorem dX7_fill_198 : decode cX7_fill 198 = .ok (.istore_n 3, 1) := by decide +kernel
theorem dX7_fill_199 : decode cX7_fill 199 = .ok (.iinc 4 1, 3) := by decide +kernel
theorem dX7_fill_202 : decode cX7_fill 202 = .ok (.goto (-22), 3) := by decide +kernel
theorem dX7_fill_205 : decode cX7_fill 205 = .ok (.iconst 0, 1) := by decide +kernel
theorem dX7_fill_206 : decode cX7_fill 206 = .ok (.istore 4, 2) := by decide +kernel
theorem dX7_fill_208 : decode cX7_fill 208 = .ok (.iload 4, 2) := by decide +kernel
theorem dX7_fill_210 : decode cX7_fill 210 = .ok (.iconst 4, 1) := by decide +kernel
theorem dX7_fill_211 : decode cX7_fill 211 = .ok (.if_icmp .ge 33, 3) := by decide +kernel
theorem dX7_fill_214 : decode cX7_fill 214 = .ok (.aload_n 0, 1) := by decide +kernel
theorem dX7_fill_215 : decode cX7_fill 215 = .ok (.getfield 56, 3) := by decide +kernel
theorem dX7_fill_218 : decode cX7_fill 218 = .ok (.bipush 60, 2) := by decide +kernel
theorem dX7_fill_220 : decode cX7_fill 220 = .ok (.iload 4, 2) := by decide +kernel
theorem dX7_fill_222 : decode cX7_fill 222 = .ok (.iadd, 1) := by decide +kernel
theorem dX7_fill_223 : decode cX7_fill 223 = .ok (.iload_n 3, 1) := by decide +kernel
theorem dX7_fill_224 : decode cX7_fill 224 = .ok (.bipush 24, 2) := by decide +kernel
theorem dX7_fill_226 : decode cX7_fill 226 = .ok (.bipush 8, 2) := by decide +kernel
theorem dX7_fill_228 : decode cX7_fill 228 = .ok (.iload 4, 2) := by decide +kernel
theorem dX7_fill_230 : decode cX7_fill 230 = .ok (.imul, 1) := by decide +kernel
theorem dX7_fill_231 : decode cX7_fill 231 = .ok (.isub, 1) := by decide +kernel
theorem dX7_fill_232 : decode cX7_fill 232 = .ok (.ishr, 1) := by decide +kernel
theorem dX7_fill_233 : decode cX7_fill 233 = .ok (.sipush 255, 3) := by decide +kernel
theorem dX7_fill_236 : decode cX7_fill 236 = .ok (.iand, 1) := by decide +kernel
theorem dX7_fill_237 : decode cX7_fill 237 = .ok (.iastore, 1) := by decide +kernel
theorem dX7_fill_238 : decode cX7_fill 238 = .ok (.iinc 4 1, 3) := by decide +kernel
theorem dX7_fill_241 : decode cX7_fill 241 = .ok (.goto (-33), 3) := by decide +kernel
theorem dX7_fill_244 : decode cX7_fill 244 = .ok (.return_, 1) := by decide +kernel
theorem dX7_badAt_0 : decode cX7_badAt 0 = .ok (.aload_n 0, 1) := by decide +kernel
theorem dX7_badAt_1 : decode cX7_badAt 1 = .ok (.iconst 0, 1) := by decide +kernel
theorem dX7_badAt_2 : decode cX7_badAt 2 = .ok (.putfield 67, 3) := by decide +kernel
theorem dX7_badAt_5 : decode cX7_badAt 5 = .ok (.iconst 0, 1) := by decide +kernel
theorem dX7_badAt_6 : decode cX7_badAt 6 = .ok (.istore_n 1, 1) := by decide +kernel
theorem dX7_badAt_7 : decode cX7_badAt 7 = .ok (.iload_n 1, 1) := by decide +kernel
theorem dX7_badAt_8 : decode cX7_badAt 8 = .ok (.aload_n 0, 1) := by decide +kernel
theorem dX7_badAt_9 : decode cX7_badAt 9 = .ok (.getfield 59, 3) := by decide +kernel
theorem dX7_badAt_12 : decode cX7_badAt 12 = .ok (.if_icmp .ge 108, 3) := by decide +kernel
theorem dX7_badAt_15 : decode cX7_badAt 15 = .ok (.aload_n 0, 1) := by decide +kernel
theorem dX7_badAt_16 : decode cX7_badAt 16 = .ok (.iload_n 1, 1) := by decide +kernel
theorem dX7_badAt_17 : decode cX7_badAt 17 = .ok (.invokevirtual 117, 3) := by decide +kernel
theorem dX7_badAt_20 : decode cX7_badAt 20 = .ok (.iconst 0, 1) := by decide +kernel
theorem dX7_badAt_21 : decode cX7_badAt 21 = .ok (.istore_n 2, 1) := by decide +kernel
theorem dX7_badAt_22 : decode cX7_badAt 22 = .ok (.iconst 0, 1) := by decide +kernel
theorem dX7_badAt_23 : decode cX7_badAt 23 = .ok (.istore_n 3, 1) := by decide +kernel
theorem dX7_badAt_24 : decode cX7_badAt 24 = .ok (.iload_n 3, 1) := by decide +kernel
theorem dX7_badAt_25 : decode cX7_badAt 25 = .ok (.bipush 60, 2) := by decide +kernel
theorem dX7_badAt_27 : decode cX7_badAt 27 = .ok (.if_icmp .ge 32, 3) := by decide +kernel
theorem dX7_badAt_30 : decode cX7_badAt 30 = .ok (.iload_n 2, 1) := by decide +kernel
theorem dX7_badAt_31 : decode cX7_badAt 31 = .ok (.aload_n 0, 1) := by decide +kernel
theorem dX7_badAt_32 : decode cX7_badAt 32 = .ok (.getfield 56, 3) := by decide +kernel
theorem dX7_badAt_35 : decode cX7_badAt 35 = .ok (.iload_n 3, 1) := by decide +kernel
theorem dX7_badAt_36 : decode cX7_badAt 36 = .ok (.iaload, 1) := by decide +kernel
theorem dX7_badAt_37 : decode cX7_badAt 37 = .ok (.aload_n 0, 1) := by decide +kernel
theorem dX7_badAt_38 : decode cX7_badAt 38 = .ok (.getfield 47, 3) := by decide +kernel
theorem dX7_badAt_41 : decode cX7_badAt 41 = .ok (.bipush 64, 2) := by decide +kernel
theorem dX7_badAt_43 : decode cX7_badAt 43 = .ok (.iload_n 1, 1) := by decide +kernel
theorem dX7_badAt_44 : decode cX7_badAt 44 = .ok (.imul, 1) := by decide +kernel
theorem dX7_badAt_45 : decode cX7_badAt 45 = .ok (.iload_n 3, 1) := by decide +kernel
theorem dX7_badAt_46 : decode cX7_badAt 46 = .ok (.iadd, 1) := by decide +kernel
theorem dX7_badAt_47 : decode cX7_badAt 47 = .ok (.iaload, 1) := by decide +kernel
theorem dX7_badAt_48 : decode cX7_badAt 48 = .ok (.ixor, 1) := by decide +kernel
theorem dX7_badAt_49 : decode cX7_badAt 49 = .ok (.invokestatic 82, 3) := by decide +kernel
theorem dX7_badAt_52 : decode cX7_badAt 52 = .ok (.istore_n 2, 1) := by decide +kernel
theorem dX7_badAt_53 : decode cX7_badAt 53 = .ok (.iinc 3 1, 3) := by decide +kernel
theorem dX7_badAt_56 : decode cX7_badAt 56 = .ok (.goto (-32), 3) := by decide +kernel
theorem dX7_badAt_59 : decode cX7_badAt 59 = .ok (.iconst 0, 1) := by decide +kernel
theorem dX7_badAt_60 : decode cX7_badAt 60 = .ok (.istore_n 3, 1) := by decide +kernel
theorem dX7_badAt_61 : decode cX7_badAt 61 = .ok (.iload_n 3, 1) := by decide +kernel
theorem dX7_badAt_62 : decode cX7_badAt 62 = .ok (.iconst 4, 1) := by decide +kernel
theorem dX7_badAt_63 : decode cX7_badAt 63 = .ok (.if_icmp .ge 51, 3) := by decide +kernel
theorem dX7_badAt_66 : decode cX7_badAt 66 = .ok (.iload_n 2, 1) := by decide +kernel
theorem dX7_badAt_67 : decode cX7_badAt 67 = .ok (.bipush 24, 2) := by decide +kernel
theorem dX7_badAt_69 : decode cX7_badAt 69 = .ok (.bipush 8, 2) := by decide +kernel
theorem dX7_badAt_71 : decode cX7_badAt 71 = .ok (.iload_n 3, 1) := by decide +kernel
theorem dX7_badAt_72 : decode cX7_badAt 72 = .ok (.imul, 1) := by decide +kernel
theorem dX7_badAt_73 : decode cX7_badAt 73 = .ok (.isub, 1) := by decide +kernel
theorem dX7_badAt_74 : decode cX7_badAt 74 = .ok (.ishr, 1) := by decide +kernel
theorem dX7_badAt_75 : decode cX7_badAt 75 = .ok (.sipush 255, 3) := by decide +kernel
theorem dX7_badAt_78 : decode cX7_badAt 78 = .ok (.iand, 1) := by decide +kernel
theorem dX7_badAt_79 : decode cX7_badAt 79 = .ok (.aload_n 0, 1) := by decide +kernel
theorem dX7_badAt_80 : decode cX7_badAt 80 = .ok (.getfield 56, 3) := by decide +kernel
theorem dX7_badAt_83 : decode cX7_badAt 83 = .ok (.bipush 60, 2) := by decide +kernel
theorem dX7_badAt_85 : decode cX7_badAt 85 = .ok (.iload_n 3, 1) := by decide +kernel
theorem dX7_badAt_86 : decode cX7_badAt 86 = .ok (.iadd, 1) := by decide +kernel
theorem dX7_badAt_87 : decode cX7_badAt 87 = .ok (.iaload, 1) := by decide +kernel
theorem dX7_badAt_88 : decode cX7_badAt 88 = .ok (.aload_n 0, 1) := by decide +kernel
theorem dX7_badAt_89 : decode cX7_badAt 89 = .ok (.getfield 47, 3) := by decide +kernel
theorem dX7_badAt_92 : decode cX7_badAt 92 = .ok (.bipush 64, 2) := by decide +kernel
theorem dX7_badAt_94 : decode cX7_badAt 94 = .ok (.iload_n 1, 1) := by decide +kernel
theorem dX7_badAt_95 : decode cX7_badAt 95 = .ok (.imul, 1) := by decide +kernel
theorem dX7_badAt_96 : decode cX7_badAt 96 = .ok (.bipush 60, 2) := by decide +kernel
theorem dX7_badAt_98 : decode cX7_badAt 98 = .ok (.iadd, 1) := by decide +kernel
theorem dX7_badAt_99 : decode cX7_badAt 99 = .ok (.iload_n 3, 1) := by decide +kernel
theorem dX7_badAt_100 : decode cX7_badAt 100 = .ok (.iadd, 1) := by decide +kernel
theorem dX7_badAt_101 : decode cX7_badAt 101 = .ok (.iaload, 1) := by decide +kernel
theorem dX7_badAt_102 : decode cX7_badAt 102 = .ok (.ixor, 1) := by decide +kernel
theorem dX7_badAt_103 : decode cX7_badAt 103 = .ok (.if_icmp .eq 5, 3) := by decide +kernel
theorem dX7_badAt_106 : decode cX7_badAt 106 = .ok (.iload_n 1, 1) := by decide +kernel
theorem dX7_badAt_107 : decode cX7_badAt 107 = .ok (.ireturn, 1) := by decide +kernel
theorem dX7_badAt_108 : decode cX7_badAt 108 = .ok (.iinc 3 1, 3) := by decide +kernel
theorem dX7_badAt_111 : decode cX7_badAt 111 = .ok (.goto (-50), 3) := by decide +kernel
theorem dX7_badAt_114 : decode cX7_badAt 114 = .ok (.iinc 1 1, 3) := by decide +kernel
theorem dX7_badAt_117 : decode cX7_badAt 117 = .ok (.goto (-110), 3) := by decide +kernel
theorem dX7_badAt_120 : decode cX7_badAt 120 = .ok (.iconst (-1), 1) := by decide +kernel
theorem dX7_badAt_121 : decode cX7_badAt 121 = .ok (.ireturn, 1) := by decide +kernel
theorem dX7_byteAt_0 : decode cX7_byteAt 0 = .ok (.aload_n 0, 1) := by decide +kernel
theorem dX7_byteAt_1 : decode cX7_byteAt 1 = .ok (.iload_n 1, 1) := by decide +kernel
theorem dX7_byteAt_2 : decode cX7_byteAt 2 = .ok (.iconst 0, 1) := by decide +kernel
theorem dX7_byteAt_3 : decode cX7_byteAt 3 = .ok (.aload_n 0, 1) := by decide +kernel
theorem dX7_byteAt_4 : decode cX7_byteAt 4 = .ok (.getfield 59, 3) := by decide +kernel
theorem dX7_byteAt_7 : decode cX7_byteAt 7 = .ok (.iconst 1, 1) := by decide +kernel
theorem dX7_byteAt_8 : decode cX7_byteAt 8 = .ok (.isub, 1) := by decide +kernel
theorem dX7_byteAt_9 : decode cX7_byteAt 9 = .ok (.invokestatic 71, 3) := by decide +kernel
theorem dX7_byteAt_12 : decode cX7_byteAt 12 = .ok (.ifCond .eq 13, 3) := by decide +kernel
theorem dX7_byteAt_15 : decode cX7_byteAt 15 = .ok (.iload_n 2, 1) := by decide +kernel
theorem dX7_byteAt_16 : decode cX7_byteAt 16 = .ok (.iconst 0, 1) := by decide +kernel
theorem dX7_byteAt_17 : decode cX7_byteAt 17 = .ok (.bipush 63, 2) := by decide +kernel
theorem dX7_byteAt_19 : decode cX7_byteAt 19 = .ok (.invokestatic 71, 3) := by decide +kernel
theorem dX7_byteAt_22 : decode cX7_byteAt 22 = .ok (.ifCond .ne 7, 3) := by decide +kernel
theorem dX7_byteAt_25 : decode cX7_byteAt 25 = .ok (.iconst 1, 1) := by decide +kernel
theorem dX7_byteAt_26 : decode cX7_byteAt 26 = .ok (.goto 4, 3) := by decide +kernel
theorem dX7_byteAt_29 : decode cX7_byteAt 29 = .ok (.iconst 0, 1) := by decide +kernel
theorem dX7_byteAt_30 : decode cX7_byteAt 30 = .ok (.putfield 67, 3) := by decide +kernel
theorem dX7_byteAt_33 : decode cX7_byteAt 33 = .ok (.aload_n 0, 1) := by decide +kernel
theorem dX7_byteAt_34 : decode cX7_byteAt 34 = .ok (.getfield 67, 3) := by decide +kernel
theorem dX7_byteAt_37 : decode cX7_byteAt 37 = .ok (.ifCond .le 5, 3) := by decide +kernel
theorem dX7_byteAt_40 : decode cX7_byteAt 40 = .ok (.iconst 0, 1) := by decide +kernel
theorem dX7_byteAt_41 : decode cX7_byteAt 41 = .ok (.ireturn, 1) := by decide +kernel
theorem dX7_byteAt_42 : decode cX7_byteAt 42 = .ok (.aload_n 0, 1) := by decide +kernel
theorem dX7_byteAt_43 : decode cX7_byteAt 43 = .ok (.iload_n 1, 1) := by decide +kernel
theorem dX7_byteAt_44 : decode cX7_byteAt 44 = .ok (.invokevirtual 117, 3) := by decide +kernel
theorem dX7_byteAt_47 : decode cX7_byteAt 47 = .ok (.aload_n 0, 1) := by decide +kernel
theorem dX7_byteAt_48 : decode cX7_byteAt 48 = .ok (.getfield 56, 3) := by decide +kernel
theorem dX7_byteAt_51 : decode cX7_byteAt 51 = .ok (.iload_n 2, 1) := by decide +kernel
theorem dX7_byteAt_52 : decode cX7_byteAt 52 = .ok (.iaload, 1) := by decide +kernel
theorem dX7_byteAt_53 : decode cX7_byteAt 53 = .ok (.aload_n 0, 1) := by decide +kernel
theorem dX7_byteAt_54 : decode cX7_byteAt 54 = .ok (.getfield 47, 3) := by decide +kernel
theorem dX7_byteAt_57 : decode cX7_byteAt 57 = .ok (.bipush 64, 2) := by decide +kernel
theorem dX7_byteAt_59 : decode cX7_byteAt 59 = .ok (.iload_n 1, 1) := by decide +kernel
theorem dX7_byteAt_60 : decode cX7_byteAt 60 = .ok (.imul, 1) := by decide +kernel
theorem dX7_byteAt_61 : decode cX7_byteAt 61 = .ok (.iload_n 2, 1) := by decide +kernel
theorem dX7_byteAt_62 : decode cX7_byteAt 62 = .ok (.iadd, 1) := by decide +kernel
theorem dX7_byteAt_63 : decode cX7_byteAt 63 = .ok (.iaload, 1) := by decide +kernel
theorem dX7_byteAt_64 : decode cX7_byteAt 64 = .ok (.ixor, 1) := by decide +kernel
theorem dX7_byteAt_65 : decode cX7_byteAt 65 = .ok (.ireturn, 1) := by decide +kernel
theorem dX7_entry_0 : decode cX7_entry 0 = .ok (.aload_n 0, 1) := by decide +kernel
theorem dX7_entry_1 : decode cX7_entry 1 = .ok (.iload_n 1, 1) := by decide +kernel
theorem dX7_entry_2 : decode cX7_entry 2 = .ok (.iconst 0, 1) := by decide +kernel
theorem dX7_entry_3 : decode cX7_entry 3 = .ok (.iconst 1, 1) := by decide +kernel
theorem dX7_entry_4 : decode cX7_entry 4 = .ok (.aload_n 0, 1) := by decide +kernel
theorem dX7_entry_5 : decode cX7_entry 5 = .ok (.getfield 38, 3) := by decide +kernel
theorem dX7_entry_8 : decode cX7_entry 8 = .ok (.iconst 0, 1) := by decide +kernel
theorem dX7_entry_9 : decode cX7_entry 9 = .ok (.iaload, 1) := by decide +kernel
theorem dX7_entry_10 : decode cX7_entry 10 = .ok (.ishl, 1) := by decide +kernel
theorem dX7_entry_11 : decode cX7_entry 11 = .ok (.iconst 1, 1) := by decide +kernel
theorem dX7_entry_12 : decode cX7_entry 12 = .ok (.isub, 1) := by decide +kernel
theorem dX7_entry_13 : decode cX7_entry 13 = .ok (.invokestatic 71, 3) := by decide +kernel
theorem dX7_entry_16 : decode cX7_entry 16 = .ok (.ifCond .eq 7, 3) := by decide +kernel
theorem dX7_entry_19 : decode cX7_entry 19 = .ok (.iconst 0, 1) := by decide +kernel
theorem dX7_entry_20 : decode cX7_entry 20 = .ok (.goto 4, 3) := by decide +kernel
theorem dX7_entry_23 : decode cX7_entry 23 = .ok (.iconst 1, 1) := by decide +kernel
theorem dX7_entry_24 : decode cX7_entry 24 = .ok (.putfield 67, 3) := by decide +kernel
theorem dX7_entry_27 : decode cX7_entry 27 = .ok (.aload_n 0, 1) := by decide +kernel
theorem dX7_entry_28 : decode cX7_entry 28 = .ok (.getfield 67, 3) := by decide +kernel
theorem dX7_entry_31 : decode cX7_entry 31 = .ok (.ifCond .le 7, 3) := by decide +kernel
theorem dX7_entry_34 : decode cX7_entry 34 = .ok (.iconst 0, 1) := by decide +kernel
theorem dX7_entry_35 : decode cX7_entry 35 = .ok (.goto 9, 3) := by decide +kernel
theorem dX7_entry_38 : decode cX7_entry 38 = .ok (.aload_n 0, 1) := by decide +kernel
theorem dX7_entry_39 : decode cX7_entry 39 = .ok (.getfield 41, 3) := by decide +kernel
theorem dX7_entry_42 : decode cX7_entry 42 = .ok (.iload_n 1, 1) := by decide +kernel
theorem dX7_entry_43 : decode cX7_entry 43 = .ok (.iaload, 1) := by decide +kernel
theorem dX7_entry_44 : decode cX7_entry 44 = .ok (.ireturn, 1) := by decide +kernel
theorem dX7_count_0 : decode cX7_count 0 = .ok (.aload_n 0, 1) := by decide +kernel
theorem dX7_count_1 : decode cX7_count 1 = .ok (.iconst 0, 1) := by decide +kernel
theorem dX7_count_2 : decode cX7_count 2 = .ok (.putfield 67, 3) := by decide +kernel
theorem dX7_count_5 : decode cX7_count 5 = .ok (.iconst 0, 1) := by decide +kernel
theorem dX7_count_6 : decode cX7_count 6 = .ok (.istore_n 2, 1) := by decide +kernel
theorem dX7_count_7 : decode cX7_count 7 = .ok (.iconst 0, 1) := by decide +kernel
theorem dX7_count_8 : decode cX7_count 8 = .ok (.istore_n 3, 1) := by decide +kernel
theorem dX7_count_9 : decode cX7_count 9 = .ok (.iload_n 3, 1) := by decide +kernel
theorem dX7_count_10 : decode cX7_count 10 = .ok (.aload_n 0, 1) := by decide +kernel
theorem dX7_count_11 : decode cX7_count 11 = .ok (.getfield 59, 3) := by decide +kernel
theorem dX7_count_14 : decode cX7_count 14 = .ok (.if_icmp .ge 26, 3) := by decide +kernel
theorem dX7_count_17 : decode cX7_count 17 = .ok (.iload_n 2, 1) := by decide +kernel
theorem dX7_count_18 : decode cX7_count 18 = .ok (.aload_n 0, 1) := by decide +kernel
theorem dX7_count_19 : decode cX7_count 19 = .ok (.getfield 28, 3) := by decide +kernel
theorem dX7_count_22 : decode cX7_count 22 = .ok (.iload_n 3, 1) := by decide +kernel
theorem dX7_count_23 : decode cX7_count 23 = .ok (.baload, 1) := by decide +kernel
theorem dX7_count_24 : decode cX7_count 24 = .ok (.ifCond .eq 7, 3) := by decide +kernel
theorem dX7_count_27 : decode cX7_count 27 = .ok (.iconst 1, 1) := by decide +kernel
theorem dX7_count_28 : decode cX7_count 28 = .ok (.goto 4, 3) := by decide +kernel
theorem dX7_count_31 : decode cX7_count 31 = .ok (.iconst 0, 1) := by decide +kernel
theorem dX7_count_32 : decode cX7_count 32 = .ok (.iadd, 1) := by decide +kernel
theorem dX7_count_33 : decode cX7_count 33 = .ok (.istore_n 2, 1) := by decide +kernel
theorem dX7_count_34 : decode cX7_count 34 = .ok (.iinc 3 1, 3) := by decide +kernel
theorem dX7_count_37 : decode cX7_count 37 = .ok (.goto (-28), 3) := by decide +kernel
theorem dX7_count_40 : decode cX7_count 40 = .ok (.iload_n 1, 1) := by decide +kernel
theorem dX7_count_41 : decode cX7_count 41 = .ok (.tableswitch 87 0 5 #[39, 46, 48, 70, 77, 82], 39) := by decide +kernel
theorem dX7_count_80 : decode cX7_count 80 = .ok (.aload_n 0, 1) := by decide +kernel
theorem dX7_count_81 : decode cX7_count 81 = .ok (.getfield 38, 3) := by decide +kernel
theorem dX7_count_84 : decode cX7_count 84 = .ok (.iconst 0, 1) := by decide +kernel
theorem dX7_count_85 : decode cX7_count 85 = .ok (.iaload, 1) := by decide +kernel
theorem dX7_count_86 : decode cX7_count 86 = .ok (.ireturn, 1) := by decide +kernel
theorem dX7_count_87 : decode cX7_count 87 = .ok (.iload_n 2, 1) := by decide +kernel
theorem dX7_count_88 : decode cX7_count 88 = .ok (.ireturn, 1) := by decide +kernel
theorem dX7_count_89 : decode cX7_count 89 = .ok (.aload_n 0, 1) := by decide +kernel
theorem dX7_count_90 : decode cX7_count 90 = .ok (.invokevirtual 78, 3) := by decide +kernel
theorem dX7_count_93 : decode cX7_count 93 = .ok (.ifCond .eq 11, 3) := by decide +kernel
theorem dX7_count_96 : decode cX7_count 96 = .ok (.aload_n 0, 1) := by decide +kernel
theorem dX7_count_97 : decode cX7_count 97 = .ok (.iconst 1, 1) := by decide +kernel
theorem dX7_count_98 : decode cX7_count 98 = .ok (.invokevirtual 121, 3) := by decide +kernel
theorem dX7_count_101 : decode cX7_count 101 = .ok (.goto 9, 3) := by decide +kernel
theorem dX7_count_104 : decode cX7_count 104 = .ok (.aload_n 0, 1) := by decide +kernel
theorem dX7_count_105 : decode cX7_count 105 = .ok (.getfield 7, 3) := by decide +kernel
theorem dX7_count_108 : decode cX7_count 108 = .ok (.iconst 0, 1) := by decide +kernel
theorem dX7_count_109 : decode cX7_count 109 = .ok (.iaload, 1) := by decide +kernel
theorem dX7_count_110 : decode cX7_count 110 = .ok (.ireturn, 1) := by decide +kernel
theorem dX7_count_111 : decode cX7_count 111 = .ok (.aload_n 0, 1) := by decide +kernel
theorem dX7_count_112 : decode cX7_count 112 = .ok (.getfield 44, 3) := by decide +kernel
theorem dX7_count_115 : decode cX7_count 115 = .ok (.iconst 0, 1) := by decide +kernel
theorem dX7_count_116 : decode cX7_count 116 = .ok (.iaload, 1) := by decide +kernel
theorem dX7_count_117 : decode cX7_count 117 = .ok (.ireturn, 1) := by decide +kernel
theorem dX7_count_118 : decode cX7_count 118 = .ok (.aload_n 0, 1) := by decide +kernel
theorem dX7_count_119 : decode cX7_count 119 = .ok (.getfield 101, 3) := by decide +kernel
theorem dX7_count_122 : decode cX7_count 122 = .ok (.ireturn, 1) := by decide +kernel
theorem dX7_count_123 : decode cX7_count 123 = .ok (.aload_n 0, 1) := by decide +kernel
theorem dX7_count_124 : decode cX7_count 124 = .ok (.getfield 59, 3) := by decide +kernel
theorem dX7_count_127 : decode cX7_count 127 = .ok (.ireturn, 1) := by decide +kernel
theorem dX7_count_128 : decode cX7_count 128 = .ok (.iconst (-1), 1) := by decide +kernel
theorem dX7_count_129 : decode cX7_count 129 = .ok (.ireturn, 1) := by decide +kernel
theorem dJ9_max_7cf53_0 : decode cJ9_max_7cf53 0 = .ok (.iload_n 0, 1) := by decide +kernel
theorem dJ9_max_7cf53_1 : decode cJ9_max_7cf53 1 = .ok (.iload_n 1, 1) := by decide +kernel
theorem dJ9_max_7cf53_2 : decode cJ9_max_7cf53 2 = .ok (.if_icmp .lt 7, 3) := by decide +kernel
theorem dJ9_max_7cf53_5 : decode cJ9_max_7cf53 5 = .ok (.iload_n 0, 1) := by decide +kernel
theorem dJ9_max_7cf53_6 : decode cJ9_max_7cf53 6 = .ok (.goto 4, 3) := by decide +kernel
theorem dJ9_max_7cf53_9 : decode cJ9_max_7cf53 9 = .ok (.iload_n 1, 1) := by decide +kernel
theorem dJ9_max_7cf53_10 : decode cJ9_max_7cf53 10 = .ok (.ireturn, 1) := by decide +kernel
theorem dJ9_min_7cf53_0 : decode cJ9_min_7cf53 0 = .ok (.iload_n 0, 1) := by decide +kernel
theorem dJ9_min_7cf53_1 : decode cJ9_min_7cf53 1 = .ok (.iload_n 1, 1) := by decide +kernel
theorem dJ9_min_7cf53_2 : decode cJ9_min_7cf53 2 = .ok (.if_icmp .gt 7, 3) := by decide +kernel
theorem dJ9_min_7cf53_5 : decode cJ9_min_7cf53 5 = .ok (.iload_n 0, 1) := by decide +kernel
theorem dJ9_min_7cf53_6 : decode cJ9_min_7cf53 6 = .ok (.goto 4, 3) := by decide +kernel
theorem dJ9_min_7cf53_9 : decode cJ9_min_7cf53 9 = .ok (.iload_n 1, 1) := by decide +kernel
theorem dJ9_min_7cf53_10 : decode cJ9_min_7cf53 10 = .ok (.ireturn, 1) := by decide +kernel
theorem dJ7_fill_53178_0 : decode cJ7_fill_53178 0 = .ok (.iconst 0, 1) := by decide +kernel
theorem dJ7_fill_53178_1 : decode cJ7_fill_53178 1 = .ok (.istore_n 2, 1) := by decide +kernel
theorem dJ7_fill_53178_2 : decode cJ7_fill_53178 2 = .ok (.aload_n 0, 1) := by decide +kernel
theorem dJ7_fill_53178_3 : decode cJ7_fill_53178 3 = .ok (.arraylength, 1) := by decide +kernel
theorem dJ7_fill_53178_4 : decode cJ7_fill_53178 4 = .ok (.istore_n 3, 1) := by decide +kernel
theorem dJ7_fill_53178_5 : decode cJ7_fill_53178 5 = .ok (.iload_n 2, 1) := by decide +kernel
theorem dJ7_fill_53178_6 : decode cJ7_fill_53178 6 = .ok (.iload_n 3, 1) := by decide +kernel
theorem dJ7_fill_53178_7 : decode cJ7_fill_53178 7 = .ok (.if_icmp .ge 13, 3) := by decide +kernel
theorem dJ7_fill_53178_10 : decode cJ7_fill_53178 10 = .ok (.aload_n 0, 1) := by decide +kernel
theorem dJ7_fill_53178_11 : decode cJ7_fill_53178 11 = .ok (.iload_n 2, 1) := by decide +kernel
theorem dJ7_fill_53178_12 : decode cJ7_fill_53178 12 = .ok (.iload_n 1, 1) := by decide +kernel
theorem dJ7_fill_53178_13 : decode cJ7_fill_53178 13 = .ok (.iastore, 1) := by decide +kernel
theorem dJ7_fill_53178_14 : decode cJ7_fill_53178 14 = .ok (.iinc 2 1, 3) := by decide +kernel
theorem dJ7_fill_53178_17 : decode cJ7_fill_53178 17 = .ok (.goto (-12), 3) := by decide +kernel
theorem dJ7_fill_53178_20 : decode cJ7_fill_53178 20 = .ok (.return_, 1) := by decide +kernel
theorem dL_cell_0 : decode cL_cell 0 = .ok (.iload_n 1, 1) := by decide +kernel
theorem dL_cell_1 : decode cL_cell 1 = .ok (.aload_n 0, 1) := by decide +kernel
theorem dL_cell_2 : decode cL_cell 2 = .ok (.arraylength, 1) := by decide +kernel
theorem dL_cell_3 : decode cL_cell 3 = .ok (.if_icmp .ge 9, 3) := by decide +kernel
theorem dL_cell_6 : decode cL_cell 6 = .ok (.aload_n 0, 1) := by decide +kernel
theorem dL_cell_7 : decode cL_cell 7 = .ok (.iload_n 1, 1) := by decide +kernel
theorem dL_cell_8 : decode cL_cell 8 = .ok (.iaload, 1) := by decide +kernel
theorem dL_cell_9 : decode cL_cell 9 = .ok (.goto 4, 3) := by decide +kernel
theorem dL_cell_12 : decode cL_cell 12 = .ok (.iconst 0, 1) := by decide +kernel
theorem dL_cell_13 : decode cL_cell 13 = .ok (.ireturn, 1) := by decide +kernel
theorem dL_feed_0 : decode cL_feed 0 = .ok (.aload_n 2, 1) := by decide +kernel
theorem dL_feed_1 : decode cL_feed 1 = .ok (.iconst 0, 1) := by decide +kernel
theorem dL_feed_2 : decode cL_feed 2 = .ok (.aload_n 0, 1) := by decide +kernel
theorem dL_feed_3 : decode cL_feed 3 = .ok (.iload_n 1, 1) := by decide +kernel
theorem dL_feed_4 : decode cL_feed 4 = .ok (.invokevirtual 7, 3) := by decide +kernel
theorem dL_feed_7 : decode cL_feed 7 = .ok (.ifCond .eq 7, 3) := by decide +kernel
theorem dL_feed_10 : decode cL_feed 10 = .ok (.lconst 1, 1) := by decide +kernel
theorem dL_feed_11 : decode cL_feed 11 = .ok (.goto 4, 3) := by decide +kernel
theorem dL_feed_14 : decode cL_feed 14 = .ok (.lconst 0, 1) := by decide +kernel
theorem dL_feed_15 : decode cL_feed 15 = .ok (.lastore, 1) := by decide +kernel
theorem dL_feed_16 : decode cL_feed 16 = .ok (.goto 6, 3) := by decide +kernel
theorem dL_feed_19 : decode cL_feed 19 = .ok (.astore_n 3, 1) := by decide +kernel
theorem dL_feed_20 : decode cL_feed 20 = .ok (.iconst 1, 1) := by decide +kernel
theorem dL_feed_21 : decode cL_feed 21 = .ok (.ireturn, 1) := by decide +kernel
theorem dL_feed_22 : decode cL_feed 22 = .ok (.iconst 0, 1) := by decide +kernel
theorem dL_feed_23 : decode cL_feed 23 = .ok (.ireturn, 1) := by decide +kernel
theorem dL_put_0 : decode cL_put 0 = .ok (.aload_n 2, 1) := by decide +kernel
theorem dL_put_1 : decode cL_put 1 = .ok (.iconst 0, 1) := by decide +kernel
theorem dL_put_2 : decode cL_put 2 = .ok (.aload_n 0, 1) := by decide +kernel
theorem dL_put_3 : decode cL_put 3 = .ok (.iload_n 1, 1) := by decide +kernel
theorem dL_put_4 : decode cL_put 4 = .ok (.invokevirtual 15, 3) := by decide +kernel
theorem dL_put_7 : decode cL_put 7 = .ok (.i2l, 1) := by decide +kernel
theorem dL_put_8 : decode cL_put 8 = .ok (.lastore, 1) := by decide +kernel
theorem dL_put_9 : decode cL_put 9 = .ok (.goto 6, 3) := by decide +kernel
theorem dL_put_12 : decode cL_put 12 = .ok (.astore_n 3, 1) := by decide +kernel
theorem dL_put_13 : decode cL_put 13 = .ok (.iconst 1, 1) := by decide +kernel
theorem dL_put_14 : decode cL_put 14 = .ok (.ireturn, 1) := by decide +kernel
theorem dL_put_15 : decode cL_put 15 = .ok (.iconst 0, 1) := by decide +kernel
theorem dL_put_16 : decode cL_put 16 = .ok (.ireturn, 1) := by decide +kernel
theorem dL_has_0 : decode cL_has 0 = .ok (.aload_n 1, 1) := by decide +kernel
theorem dL_has_1 : decode cL_has 1 = .ok (.iconst 0, 1) := by decide +kernel
theorem dL_has_2 : decode cL_has 2 = .ok (.aload_n 0, 1) := by decide +kernel
theorem dL_has_3 : decode cL_has 3 = .ok (.invokevirtual 21, 3) := by decide +kernel
theorem dL_has_6 : decode cL_has 6 = .ok (.ifCond .eq 7, 3) := by decide +kernel
theorem dL_has_9 : decode cL_has 9 = .ok (.lconst 1, 1) := by decide +kernel
theorem dL_has_10 : decode cL_has 10 = .ok (.goto 4, 3) := by decide +kernel
theorem dL_has_13 : decode cL_has 13 = .ok (.lconst 0, 1) := by decide +kernel
theorem dL_has_14 : decode cL_has 14 = .ok (.lastore, 1) := by decide +kernel
theorem dL_has_15 : decode cL_has 15 = .ok (.goto 6, 3) := by decide +kernel
theorem dL_has_18 : decode cL_has 18 = .ok (.astore_n 2, 1) := by decide +kernel
theorem dL_has_19 : decode cL_has 19 = .ok (.iconst 1, 1) := by decide +kernel
theorem dL_has_20 : decode cL_has 20 = .ok (.ireturn, 1) := by decide +kernel
theorem dL_has_21 : decode cL_has 21 = .ok (.iconst 0, 1) := by decide +kernel
theorem dL_has_22 : decode cL_has 22 = .ok (.ireturn, 1) := by decide +kernel
theorem dL_find_0 : decode cL_find 0 = .ok (.aload_n 1, 1) := by decide +kernel
theorem dL_find_1 : decode cL_find 1 = .ok (.iconst 0, 1) := by decide +kernel
theorem dL_find_2 : decode cL_find 2 = .ok (.aload_n 0, 1) := by decide +kernel
theorem dL_find_3 : decode cL_find 3 = .ok (.invokevirtual 25, 3) := by decide +kernel
theorem dL_find_6 : decode cL_find 6 = .ok (.i2l, 1) := by decide +kernel
theorem dL_find_7 : decode cL_find 7 = .ok (.lastore, 1) := by decide +kernel
theorem dL_find_8 : decode cL_find 8 = .ok (.goto 6, 3) := by decide +kernel
theorem dL_find_11 : decode cL_find 11 = .ok (.astore_n 2, 1) := by decide +kernel
theorem dL_find_12 : decode cL_find 12 = .ok (.iconst 1, 1) := by decide +kernel
theorem dL_find_13 : decode cL_find 13 = .ok (.ireturn, 1) := by decide +kernel
theorem dL_find_14 : decode cL_find 14 = .ok (.iconst 0, 1) := by decide +kernel
theorem dL_find_15 : decode cL_find 15 = .ok (.ireturn, 1) := by decide +kernel
theorem dL_save_0 : decode cL_save 0 = .ok (.aload_n 1, 1) := by decide +kernel
theorem dL_save_1 : decode cL_save 1 = .ok (.iconst 0, 1) := by decide +kernel
theorem dL_save_2 : decode cL_save 2 = .ok (.aload_n 0, 1) := by decide +kernel
theorem dL_save_3 : decode cL_save 3 = .ok (.invokevirtual 29, 3) := by decide +kernel
theorem dL_save_6 : decode cL_save 6 = .ok (.i2l, 1) := by decide +kernel
theorem dL_save_7 : decode cL_save 7 = .ok (.lastore, 1) := by decide +kernel
theorem dL_save_8 : decode cL_save 8 = .ok (.goto 6, 3) := by decide +kernel
theorem dL_save_11 : decode cL_save 11 = .ok (.astore_n 2, 1) := by decide +kernel
theorem dL_save_12 : decode cL_save 12 = .ok (.iconst 1, 1) := by decide +kernel
theorem dL_save_13 : decode cL_save 13 = .ok (.ireturn, 1) := by decide +kernel
theorem dL_save_14 : decode cL_save 14 = .ok (.iconst 0, 1) := by decide +kernel
theorem dL_save_15 : decode cL_save 15 = .ok (.ireturn, 1) := by decide +kernel
theorem dL_crash_0 : decode cL_crash 0 = .ok (.aload_n 2, 1) := by decide +kernel
theorem dL_crash_1 : decode cL_crash 1 = .ok (.iconst 0, 1) := by decide +kernel
theorem dL_crash_2 : decode cL_crash 2 = .ok (.aload_n 0, 1) := by decide +kernel
theorem dL_crash_3 : decode cL_crash 3 = .ok (.iload_n 1, 1) := by decide +kernel
theorem dL_crash_4 : decode cL_crash 4 = .ok (.invokevirtual 32, 3) := by decide +kernel
theorem dL_crash_7 : decode cL_crash 7 = .ok (.i2l, 1) := by decide +kernel
theorem dL_crash_8 : decode cL_crash 8 = .ok (.lastore, 1) := by decide +kernel
theorem dL_crash_9 : decode cL_crash 9 = .ok (.goto 6, 3) := by decide +kernel
theorem dL_crash_12 : decode cL_crash 12 = .ok (.astore_n 3, 1) := by decide +kernel
theorem dL_crash_13 : decode cL_crash 13 = .ok (.iconst 1, 1) := by decide +kernel
theorem dL_crash_14 : decode cL_crash 14 = .ok (.ireturn, 1) := by decide +kernel
theorem dL_crash_15 : decode cL_crash 15 = .ok (.iconst 0, 1) := by decide +kernel
theorem dL_crash_16 : decode cL_crash 16 = .ok (.ireturn, 1) := by decide +kernel
theorem dL_poke_0 : decode cL_poke 0 = .ok (.aload_n 0, 1) := by decide +kernel
theorem dL_poke_1 : decode cL_poke 1 = .ok (.iload_n 1, 1) := by decide +kernel
theorem dL_poke_2 : decode cL_poke 2 = .ok (.iload_n 2, 1) := by decide +kernel
theorem dL_poke_3 : decode cL_poke 3 = .ok (.iload_n 3, 1) := by decide +kernel
theorem dL_poke_4 : decode cL_poke 4 = .ok (.invokevirtual 35, 3) := by decide +kernel
theorem dL_poke_7 : decode cL_poke 7 = .ok (.goto 11, 3) := by decide +kernel
theorem dL_poke_10 : decode cL_poke 10 = .ok (.astore 4, 2) := by decide +kernel
theorem dL_poke_12 : decode cL_poke 12 = .ok (.iconst 1, 1) := by decide +kernel
theorem dL_poke_13 : decode cL_poke 13 = .ok (.ireturn, 1) := by decide +kernel
theorem dL_poke_14 : decode cL_poke 14 = .ok (.astore 4, 2) := by decide +kernel
theorem dL_poke_16 : decode cL_poke 16 = .ok (.iconst 2, 1) := by decide +kernel
theorem dL_poke_17 : decode cL_poke 17 = .ok (.ireturn, 1) := by decide +kernel
theorem dL_poke_18 : decode cL_poke 18 = .ok (.iconst 0, 1) := by decide +kernel
theorem dL_poke_19 : decode cL_poke 19 = .ok (.ireturn, 1) := by decide +kernel
theorem dL_pokeJournal_0 : decode cL_pokeJournal 0 = .ok (.aload_n 0, 1) := by decide +kernel
theorem dL_pokeJournal_1 : decode cL_pokeJournal 1 = .ok (.iload_n 1, 1) := by decide +kernel
theorem dL_pokeJournal_2 : decode cL_pokeJournal 2 = .ok (.iload_n 2, 1) := by decide +kernel
theorem dL_pokeJournal_3 : decode cL_pokeJournal 3 = .ok (.invokevirtual 41, 3) := by decide +kernel
theorem dL_pokeJournal_6 : decode cL_pokeJournal 6 = .ok (.goto 9, 3) := by decide +kernel
theorem dL_pokeJournal_9 : decode cL_pokeJournal 9 = .ok (.astore_n 3, 1) := by decide +kernel
theorem dL_pokeJournal_10 : decode cL_pokeJournal 10 = .ok (.iconst 1, 1) := by decide +kernel
theorem dL_pokeJournal_11 : decode cL_pokeJournal 11 = .ok (.ireturn, 1) := by decide +kernel
theorem dL_pokeJournal_12 : decode cL_pokeJournal 12 = .ok (.astore_n 3, 1) := by decide +kernel
theorem dL_pokeJournal_13 : decode cL_pokeJournal 13 = .ok (.iconst 2, 1) := by decide +kernel
theorem dL_pokeJournal_14 : decode cL_pokeJournal 14 = .ok (.ireturn, 1) := by decide +kernel
theorem dL_pokeJournal_15 : decode cL_pokeJournal 15 = .ok (.iconst 0, 1) := by decide +kernel
theorem dL_pokeJournal_16 : decode cL_pokeJournal 16 = .ok (.ireturn, 1) := by decide +kernel
theorem dL_byteAt_0 : decode cL_byteAt 0 = .ok (.aload_n 3, 1) := by decide +kernel
theorem dL_byteAt_1 : decode cL_byteAt 1 = .ok (.iconst 0, 1) := by decide +kernel
theorem dL_byteAt_2 : decode cL_byteAt 2 = .ok (.aload_n 0, 1) := by decide +kernel
theorem dL_byteAt_3 : decode cL_byteAt 3 = .ok (.iload_n 1, 1) := by decide +kernel
theorem dL_byteAt_4 : decode cL_byteAt 4 = .ok (.iload_n 2, 1) := by decide +kernel
theorem dL_byteAt_5 : decode cL_byteAt 5 = .ok (.invokevirtual 45, 3) := by decide +kernel
theorem dL_byteAt_8 : decode cL_byteAt 8 = .ok (.i2l, 1) := by decide +kernel
theorem dL_byteAt_9 : decode cL_byteAt 9 = .ok (.lastore, 1) := by decide +kernel
theorem dL_byteAt_10 : decode cL_byteAt 10 = .ok (.goto 7, 3) := by decide +kernel
theorem dL_byteAt_13 : decode cL_byteAt 13 = .ok (.astore 4, 2) := by decide +kernel
theorem dL_byteAt_15 : decode cL_byteAt 15 = .ok (.iconst 1, 1) := by decide +kernel
theorem dL_byteAt_16 : decode cL_byteAt 16 = .ok (.ireturn, 1) := by decide +kernel
theorem dL_byteAt_17 : decode cL_byteAt 17 = .ok (.iconst 0, 1) := by decide +kernel
theorem dL_byteAt_18 : decode cL_byteAt 18 = .ok (.ireturn, 1) := by decide +kernel
theorem dL_entry_0 : decode cL_entry 0 = .ok (.aload_n 2, 1) := by decide +kernel
theorem dL_entry_1 : decode cL_entry 1 = .ok (.iconst 0, 1) := by decide +kernel
theorem dL_entry_2 : decode cL_entry 2 = .ok (.aload_n 0, 1) := by decide +kernel
theorem dL_entry_3 : decode cL_entry 3 = .ok (.iload_n 1, 1) := by decide +kernel
theorem dL_entry_4 : decode cL_entry 4 = .ok (.invokevirtual 49, 3) := by decide +kernel
theorem dL_entry_7 : decode cL_entry 7 = .ok (.i2l, 1) := by decide +kernel
theorem dL_entry_8 : decode cL_entry 8 = .ok (.lastore, 1) := by decide +kernel
theorem dL_entry_9 : decode cL_entry 9 = .ok (.goto 6, 3) := by decide +kernel
theorem dL_entry_12 : decode cL_entry 12 = .ok (.astore_n 3, 1) := by decide +kernel
theorem dL_entry_13 : decode cL_entry 13 = .ok (.iconst 1, 1) := by decide +kernel
theorem dL_entry_14 : decode cL_entry 14 = .ok (.ireturn, 1) := by decide +kernel
theorem dL_entry_15 : decode cL_entry 15 = .ok (.iconst 0, 1) := by decide +kernel
theorem dL_entry_16 : decode cL_entry 16 = .ok (.ireturn, 1) := by decide +kernel
theorem dL_count_0 : decode cL_count 0 = .ok (.aload_n 2, 1) := by decide +kernel
theorem dL_count_1 : decode cL_count 1 = .ok (.iconst 0, 1) := by decide +kernel
theorem dL_count_2 : decode cL_count 2 = .ok (.aload_n 0, 1) := by decide +kernel
theorem dL_count_3 : decode cL_count 3 = .ok (.iload_n 1, 1) := by decide +kernel
theorem dL_count_4 : decode cL_count 4 = .ok (.invokevirtual 52, 3) := by decide +kernel
theorem dL_count_7 : decode cL_count 7 = .ok (.i2l, 1) := by decide +kernel
theorem dL_count_8 : decode cL_count 8 = .ok (.lastore, 1) := by decide +kernel
theorem dL_count_9 : decode cL_count 9 = .ok (.goto 6, 3) := by decide +kernel
theorem dL_count_12 : decode cL_count 12 = .ok (.astore_n 3, 1) := by decide +kernel
theorem dL_count_13 : decode cL_count 13 = .ok (.iconst 1, 1) := by decide +kernel
theorem dL_count_14 : decode cL_count 14 = .ok (.ireturn, 1) := by decide +kernel
theorem dL_count_15 : decode cL_count 15 = .ok (.iconst 0, 1) := by decide +kernel
theorem dL_count_16 : decode cL_count 16 = .ok (.ireturn, 1) := by decide +kernel
theorem dL_law_0 : decode cL_law 0 = .ok (.new 8, 3) := by decide +kernel
theorem dL_law_3 : decode cL_law 3 = .ok (.dup, 1) := by decide +kernel
theorem dL_law_4 : decode cL_law 4 = .ok (.aload_n 0, 1) := by decide +kernel
theorem dL_law_5 : decode cL_law 5 = .ok (.iconst 0, 1) := by decide +kernel
theorem dL_law_6 : decode cL_law 6 = .ok (.invokestatic 55, 3) := by decide +kernel
theorem dL_law_9 : decode cL_law 9 = .ok (.invokespecial 61, 3) := by decide +kernel
theorem dL_law_12 : decode cL_law 12 = .ok (.astore_n 1, 1) := by decide +kernel
theorem dL_law_13 : decode cL_law 13 = .ok (.new 64, 3) := by decide +kernel
theorem dL_law_16 : decode cL_law 16 = .ok (.dup, 1) := by decide +kernel
theorem dL_law_17 : decode cL_law 17 = .ok (.aload_n 0, 1) := by decide +kernel
theorem dL_law_18 : decode cL_law 18 = .ok (.iconst 0, 1) := by decide +kernel
theorem dL_law_19 : decode cL_law 19 = .ok (.invokestatic 55, 3) := by decide +kernel
theorem dL_law_22 : decode cL_law 22 = .ok (.invokespecial 66, 3) := by decide +kernel
theorem dL_law_25 : decode cL_law 25 = .ok (.astore_n 2, 1) := by decide +kernel
theorem dL_law_26 : decode cL_law 26 = .ok (.iconst 1, 1) := by decide +kernel
theorem dL_law_27 : decode cL_law 27 = .ok (.newarray .long, 2) := by decide +kernel
theorem dL_law_29 : decode cL_law 29 = .ok (.astore_n 3, 1) := by decide +kernel
theorem dL_law_30 : decode cL_law 30 = .ok (.iconst 1, 1) := by decide +kernel
theorem dL_law_31 : decode cL_law 31 = .ok (.istore 4, 2) := by decide +kernel
theorem dL_law_33 : decode cL_law 33 = .ok (.iload 4, 2) := by decide +kernel
theorem dL_law_35 : decode cL_law 35 = .ok (.aload_n 0, 1) := by decide +kernel
theorem dL_law_36 : decode cL_law 36 = .ok (.arraylength, 1) := by decide +kernel
theorem dL_law_37 : decode cL_law 37 = .ok (.iconst 4, 1) := by decide +kernel
theorem dL_law_38 : decode cL_law 38 = .ok (.isub, 1) := by decide +kernel
theorem dL_law_39 : decode cL_law 39 = .ok (.if_icmp .gt 694, 3) := by decide +kernel
theorem dL_law_42 : decode cL_law 42 = .ok (.aload_n 0, 1) := by decide +kernel
theorem dL_law_43 : decode cL_law 43 = .ok (.iload 4, 2) := by decide +kernel
theorem dL_law_45 : decode cL_law 45 = .ok (.iaload, 1) := by decide +kernel
theorem dL_law_46 : decode cL_law 46 = .ok (.bipush 15, 2) := by decide +kernel
theorem dL_law_48 : decode cL_law 48 = .ok (.iand, 1) := by decide +kernel
theorem dL_law_49 : decode cL_law 49 = .ok (.tableswitch 678 0 11 #[63, 126, 182, 233, 277, 321, 377, 437, 485, 498, 566, 622], 63) := by decide +kernel
theorem dL_law_112 : decode cL_law 112 = .ok (.aload_n 1, 1) := by decide +kernel
theorem dL_law_113 : decode cL_law 113 = .ok (.aload_n 0, 1) := by decide +kernel
theorem dL_law_114 : decode cL_law 114 = .ok (.iload 4, 2) := by decide +kernel
theorem dL_law_116 : decode cL_law 116 = .ok (.iconst 1, 1) := by decide +kernel
theorem dL_law_117 : decode cL_law 117 = .ok (.iadd, 1) := by decide +kernel
theorem dL_law_118 : decode cL_law 118 = .ok (.iaload, 1) := by decide +kernel
theorem dL_law_119 : decode cL_law 119 = .ok (.aload_n 3, 1) := by decide +kernel
theorem dL_law_120 : decode cL_law 120 = .ok (.invokestatic 67, 3) := by decide +kernel
theorem dL_law_123 : decode cL_law 123 = .ok (.istore 5, 2) := by decide +kernel
theorem dL_law_125 : decode cL_law 125 = .ok (.aload_n 2, 1) := by decide +kernel
theorem dL_law_126 : decode cL_law 126 = .ok (.aload_n 0, 1) := by decide +kernel
theorem dL_law_127 : decode cL_law 127 = .ok (.iload 4, 2) := by decide +kernel
theorem dL_law_129 : decode cL_law 129 = .ok (.iconst 1, 1) := by decide +kernel
theorem dL_law_130 : decode cL_law 130 = .ok (.iadd, 1) := by decide +kernel
theorem dL_law_131 : decode cL_law 131 = .ok (.iaload, 1) := by decide +kernel
theorem dL_law_132 : decode cL_law 132 = .ok (.invokevirtual 70, 3) := by decide +kernel
theorem dL_law_135 : decode cL_law 135 = .ok (.istore 6, 2) := by decide +kernel
theorem dL_law_137 : decode cL_law 137 = .ok (.aload_n 2, 1) := by decide +kernel
theorem dL_law_138 : decode cL_law 138 = .ok (.invokevirtual 71, 3) := by decide +kernel
theorem dL_law_141 : decode cL_law 141 = .ok (.iload 5, 2) := by decide +kernel
theorem dL_law_143 : decode cL_law 143 = .ok (.if_icmp .eq 5, 3) := by decide +kernel
theorem dL_law_146 : decode cL_law 146 = .ok (.iconst 0, 1) := by decide +kernel
theorem dL_law_147 : decode cL_law 147 = .ok (.ireturn, 1) := by decide +kernel
theorem dL_law_148 : decode cL_law 148 = .ok (.iload 5, 2) := by decide +kernel
theorem dL_law_150 : decode cL_law 150 = .ok (.ifCond .ne 22, 3) := by decide +kernel
theorem dL_law_153 : decode cL_law 153 = .ok (.aload_n 3, 1) := by decide +kernel
theorem dL_law_154 : decode cL_law 154 = .ok (.iconst 0, 1) := by decide +kernel
theorem dL_law_155 : decode cL_law 155 = .ok (.laload, 1) := by decide +kernel
theorem dL_law_156 : decode cL_law 156 = .ok (.iload 6, 2) := by decide +kernel
theorem dL_law_158 : decode cL_law 158 = .ok (.ifCond .eq 7, 3) := by decide +kernel
theorem dL_law_161 : decode cL_law 161 = .ok (.lconst 1, 1) := by decide +kernel
theorem dL_law_162 : decode cL_law 162 = .ok (.goto 4, 3) := by decide +kernel
theorem dL_law_165 : decode cL_law 165 = .ok (.lconst 0, 1) := by decide +kernel
theorem dL_law_166 : decode cL_law 166 = .ok (.lcmp, 1) := by decide +kernel
theorem dL_law_167 : decode cL_law 167 = .ok (.ifCond .eq 5, 3) := by decide +kernel
theorem dL_law_170 : decode cL_law 170 = .ok (.iconst 0, 1) := by decide +kernel
theorem dL_law_171 : decode cL_law 171 = .ok (.ireturn, 1) := by decide +kernel
theorem dL_law_172 : decode cL_law 172 = .ok (.goto 555, 3) := by decide +kernel
theorem dL_law_175 : decode cL_law 175 = .ok (.aload_n 1, 1) := by decide +kernel
theorem dL_law_176 : decode cL_law 176 = .ok (.aload_n 0, 1) := by decide +kernel
theorem dL_law_177 : decode cL_law 177 = .ok (.iload 4, 2) := by decide +kernel
theorem dL_law_179 : decode cL_law 179 = .ok (.iconst 1, 1) := by decide +kernel
theorem dL_law_180 : decode cL_law 180 = .ok (.iadd, 1) := by decide +kernel
theorem dL_law_181 : decode cL_law 181 = .ok (.iaload, 1) := by decide +kernel
theorem dL_law_182 : decode cL_law 182 = .ok (.aload_n 3, 1) := by decide +kernel
theorem dL_law_183 : decode cL_law 183 = .ok (.invokestatic 74, 3) := by decide +kernel
theorem dL_law_186 : decode cL_law 186 = .ok (.istore 5, 2) := by decide +kernel
theorem dL_law_188 : decode cL_law 188 = .ok (.aload_n 2, 1) := by decide +kernel
theorem dL_law_189 : decode cL_law 189 = .ok (.aload_n 0, 1) := by decide +kernel
theorem dL_law_190 : decode cL_law 190 = .ok (.iload 4, 2) := by decide +kernel
theorem dL_law_192 : decode cL_law 192 = .ok (.iconst 1, 1) := by decide +kernel
theorem dL_law_193 : decode cL_law 193 = .ok (.iadd, 1) := by decide +kernel
theorem dL_law_194 : decode cL_law 194 = .ok (.iaload, 1) := by decide +kernel
theorem dL_law_195 : decode cL_law 195 = .ok (.invokevirtual 76, 3) := by decide +kernel
theorem dL_law_198 : decode cL_law 198 = .ok (.istore 6, 2) := by decide +kernel
theorem dL_law_200 : decode cL_law 200 = .ok (.aload_n 2, 1) := by decide +kernel
theorem dL_law_201 : decode cL_law 201 = .ok (.invokevirtual 71, 3) := by decide +kernel
theorem dL_law_204 : decode cL_law 204 = .ok (.iload 5, 2) := by decide +kernel
theorem dL_law_206 : decode cL_law 206 = .ok (.if_icmp .eq 5, 3) := by decide +kernel
theorem dL_law_209 : decode cL_law 209 = .ok (.iconst 0, 1) := by decide +kernel
theorem dL_law_210 : decode cL_law 210 = .ok (.ireturn, 1) := by decide +kernel
theorem dL_law_211 : decode cL_law 211 = .ok (.iload 5, 2) := by decide +kernel
theorem dL_law_213 : decode cL_law 213 = .ok (.ifCond .ne 15, 3) := by decide +kernel
theorem dL_law_216 : decode cL_law 216 = .ok (.aload_n 3, 1) := by decide +kernel
theorem dL_law_217 : decode cL_law 217 = .ok (.iconst 0, 1) := by decide +kernel
theorem dL_law_218 : decode cL_law 218 = .ok (.laload, 1) := by decide +kernel
theorem dL_law_219 : decode cL_law 219 = .ok (.iload 6, 2) := by decide +kernel
theorem dL_law_221 : decode cL_law 221 = .ok (.i2l, 1) := by decide +kernel
theorem dL_law_222 : decode cL_law 222 = .ok (.lcmp, 1) := by decide +kernel
theorem dL_law_223 : decode cL_law 223 = .ok (.ifCond .eq 5, 3) := by decide +kernel
theorem dL_law_226 : decode cL_law 226 = .ok (.iconst 0, 1) := by decide +kernel
theorem dL_law_227 : decode cL_law 227 = .ok (.ireturn, 1) := by decide +kernel
theorem dL_law_228 : decode cL_law 228 = .ok (.goto 499, 3) := by decide +kernel
theorem dL_law_231 : decode cL_law 231 = .ok (.aload_n 1, 1) := by decide +kernel
theorem dL_law_232 : decode cL_law 232 = .ok (.aload_n 3, 1) := by decide +kernel
theorem dL_law_233 : decode cL_law 233 = .ok (.invokestatic 77, 3) := by decide +kernel
theorem dL_law_236 : decode cL_law 236 = .ok (.istore 5, 2) := by decide +kernel
theorem dL_law_238 : decode cL_law 238 = .ok (.aload_n 2, 1) := by decide +kernel
theorem dL_law_239 : decode cL_law 239 = .ok (.invokevirtual 80, 3) := by decide +kernel
theorem dL_law_242 : decode cL_law 242 = .ok (.istore 6, 2) := by decide +kernel
theorem dL_law_244 : decode cL_law 244 = .ok (.aload_n 2, 1) := by decide +kernel
theorem dL_law_245 : decode cL_law 245 = .ok (.invokevirtual 71, 3) := by decide +kernel
theorem dL_law_248 : decode cL_law 248 = .ok (.iload 5, 2) := by decide +kernel
theorem dL_law_250 : decode cL_law 250 = .ok (.if_icmp .eq 5, 3) := by decide +kernel
theorem dL_law_253 : decode cL_law 253 = .ok (.iconst 0, 1) := by decide +kernel
theorem dL_law_254 : decode cL_law 254 = .ok (.ireturn, 1) := by decide +kernel
theorem dL_law_255 : decode cL_law 255 = .ok (.iload 5, 2) := by decide +kernel
theorem dL_law_257 : decode cL_law 257 = .ok (.ifCond .ne 22, 3) := by decide +kernel
theorem dL_law_260 : decode cL_law 260 = .ok (.aload_n 3, 1) := by decide +kernel
theorem dL_law_261 : decode cL_law 261 = .ok (.iconst 0, 1) := by decide +kernel
theorem dL_law_262 : decode cL_law 262 = .ok (.laload, 1) := by decide +kernel
theorem dL_law_263 : decode cL_law 263 = .ok (.iload 6, 2) := by decide +kernel
theorem dL_law_265 : decode cL_law 265 = .ok (.ifCond .eq 7, 3) := by decide +kernel
theorem dL_law_268 : decode cL_law 268 = .ok (.lconst 1, 1) := by decide +kernel
theorem dL_law_269 : decode cL_law 269 = .ok (.goto 4, 3) := by decide +kernel
theorem dL_law_272 : decode cL_law 272 = .ok (.lconst 0, 1) := by decide +kernel
theorem dL_law_273 : decode cL_law 273 = .ok (.lcmp, 1) := by decide +kernel
theorem dL_law_274 : decode cL_law 274 = .ok (.ifCond .eq 5, 3) := by decide +kernel
theorem dL_law_277 : decode cL_law 277 = .ok (.iconst 0, 1) := by decide +kernel
theorem dL_law_278 : decode cL_law 278 = .ok (.ireturn, 1) := by decide +kernel
theorem dL_law_279 : decode cL_law 279 = .ok (.goto 448, 3) := by decide +kernel
theorem dL_law_282 : decode cL_law 282 = .ok (.aload_n 1, 1) := by decide +kernel
theorem dL_law_283 : decode cL_law 283 = .ok (.aload_n 3, 1) := by decide +kernel
theorem dL_law_284 : decode cL_law 284 = .ok (.invokestatic 81, 3) := by decide +kernel
theorem dL_law_287 : decode cL_law 287 = .ok (.istore 5, 2) := by decide +kernel
theorem dL_law_289 : decode cL_law 289 = .ok (.aload_n 2, 1) := by decide +kernel
theorem dL_law_290 : decode cL_law 290 = .ok (.invokevirtual 83, 3) := by decide +kernel
theorem dL_law_293 : decode cL_law 293 = .ok (.istore 6, 2) := by decide +kernel
theorem dL_law_295 : decode cL_law 295 = .ok (.aload_n 2, 1) := by decide +kernel
theorem dL_law_296 : decode cL_law 296 = .ok (.invokevirtual 71, 3) := by decide +kernel
theorem dL_law_299 : decode cL_law 299 = .ok (.iload 5, 2) := by decide +kernel
theorem dL_law_301 : decode cL_law 301 = .ok (.if_icmp .eq 5, 3) := by decide +kernel
theorem dL_law_304 : decode cL_law 304 = .ok (.iconst 0, 1) := by decide +kernel
theorem dL_law_305 : decode cL_law 305 = .ok (.ireturn, 1) := by decide +kernel
theorem dL_law_306 : decode cL_law 306 = .ok (.iload 5, 2) := by decide +kernel
theorem dL_law_308 : decode cL_law 308 = .ok (.ifCond .ne 15, 3) := by decide +kernel
theorem dL_law_311 : decode cL_law 311 = .ok (.aload_n 3, 1) := by decide +kernel
theorem dL_law_312 : decode cL_law 312 = .ok (.iconst 0, 1) := by decide +kernel
theorem dL_law_313 : decode cL_law 313 = .ok (.laload, 1) := by decide +kernel
theorem dL_law_314 : decode cL_law 314 = .ok (.iload 6, 2) := by decide +kernel
theorem dL_law_316 : decode cL_law 316 = .ok (.i2l, 1) := by decide +kernel
theorem dL_law_317 : decode cL_law 317 = .ok (.lcmp, 1) := by decide +kernel
theorem dL_law_318 : decode cL_law 318 = .ok (.ifCond .eq 5, 3) := by decide +kernel
theorem dL_law_321 : decode cL_law 321 = .ok (.iconst 0, 1) := by decide +kernel
theorem dL_law_322 : decode cL_law 322 = .ok (.ireturn, 1) := by decide +kernel
theorem dL_law_323 : decode cL_law 323 = .ok (.goto 404, 3) := by decide +kernel
theorem dL_law_326 : decode cL_law 326 = .ok (.aload_n 1, 1) := by decide +kernel
theorem dL_law_327 : decode cL_law 327 = .ok (.aload_n 3, 1) := by decide +kernel
theorem dL_law_328 : decode cL_law 328 = .ok (.invokestatic 84, 3) := by decide +kernel
theorem dL_law_331 : decode cL_law 331 = .ok (.istore 5, 2) := by decide +kernel
theorem dL_law_333 : decode cL_law 333 = .ok (.aload_n 2, 1) := by decide +kernel
theorem dL_law_334 : decode cL_law 334 = .ok (.invokevirtual 86, 3) := by decide +kernel
theorem dL_law_337 : decode cL_law 337 = .ok (.istore 6, 2) := by decide +kernel
theorem dL_law_339 : decode cL_law 339 = .ok (.aload_n 2, 1) := by decide +kernel
theorem dL_law_340 : decode cL_law 340 = .ok (.invokevirtual 71, 3) := by decide +kernel
theorem dL_law_343 : decode cL_law 343 = .ok (.iload 5, 2) := by decide +kernel
theorem dL_law_345 : decode cL_law 345 = .ok (.if_icmp .eq 5, 3) := by decide +kernel
theorem dL_law_348 : decode cL_law 348 = .ok (.iconst 0, 1) := by decide +kernel
theorem dL_law_349 : decode cL_law 349 = .ok (.ireturn, 1) := by decide +kernel
theorem dL_law_350 : decode cL_law 350 = .ok (.iload 5, 2) := by decide +kernel
theorem dL_law_352 : decode cL_law 352 = .ok (.ifCond .ne 15, 3) := by decide +kernel
theorem dL_law_355 : decode cL_law 355 = .ok (.aload_n 3, 1) := by decide +kernel
theorem dL_law_356 : decode cL_law 356 = .ok (.iconst 0, 1) := by decide +kernel
theorem dL_law_357 : decode cL_law 357 = .ok (.laload, 1) := by decide +kernel
theorem dL_law_358 : decode cL_law 358 = .ok (.iload 6, 2) := by decide +kernel
theorem dL_law_360 : decode cL_law 360 = .ok (.i2l, 1) := by decide +kernel
theorem dL_law_361 : decode cL_law 361 = .ok (.lcmp, 1) := by decide +kernel
theorem dL_law_362 : decode cL_law 362 = .ok (.ifCond .eq 5, 3) := by decide +kernel
theorem dL_law_365 : decode cL_law 365 = .ok (.iconst 0, 1) := by decide +kernel
theorem dL_law_366 : decode cL_law 366 = .ok (.ireturn, 1) := by decide +kernel
theorem dL_law_367 : decode cL_law 367 = .ok (.goto 360, 3) := by decide +kernel
theorem dL_law_370 : decode cL_law 370 = .ok (.aload_n 1, 1) := by decide +kernel
theorem dL_law_371 : decode cL_law 371 = .ok (.aload_n 0, 1) := by decide +kernel
theorem dL_law_372 : decode cL_law 372 = .ok (.iload 4, 2) := by decide +kernel
theorem dL_law_374 : decode cL_law 374 = .ok (.iconst 1, 1) := by decide +kernel
theorem dL_law_375 : decode cL_law 375 = .ok (.iadd, 1) := by decide +kernel
theorem dL_law_376 : decode cL_law 376 = .ok (.iaload, 1) := by decide +kernel
theorem dL_law_377 : decode cL_law 377 = .ok (.aload_n 3, 1) := by decide +kernel
theorem dL_law_378 : decode cL_law 378 = .ok (.invokestatic 87, 3) := by decide +kernel
theorem dL_law_381 : decode cL_law 381 = .ok (.istore 5, 2) := by decide +kernel
theorem dL_law_383 : decode cL_law 383 = .ok (.aload_n 2, 1) := by decide +kernel
theorem dL_law_384 : decode cL_law 384 = .ok (.aload_n 0, 1) := by decide +kernel
theorem dL_law_385 : decode cL_law 385 = .ok (.iload 4, 2) := by decide +kernel
theorem dL_law_387 : decode cL_law 387 = .ok (.iconst 1, 1) := by decide +kernel
theorem dL_law_388 : decode cL_law 388 = .ok (.iadd, 1) := by decide +kernel
theorem dL_law_389 : decode cL_law 389 = .ok (.iaload, 1) := by decide +kernel
theorem dL_law_390 : decode cL_law 390 = .ok (.invokevirtual 89, 3) := by decide +kernel
theorem dL_law_393 : decode cL_law 393 = .ok (.istore 6, 2) := by decide +kernel
theorem dL_law_395 : decode cL_law 395 = .ok (.aload_n 2, 1) := by decide +kernel
theorem dL_law_396 : decode cL_law 396 = .ok (.invokevirtual 71, 3) := by decide +kernel
theorem dL_law_399 : decode cL_law 399 = .ok (.iload 5, 2) := by decide +kernel
theorem dL_law_401 : decode cL_law 401 = .ok (.if_icmp .eq 5, 3) := by decide +kernel
theorem dL_law_404 : decode cL_law 404 = .ok (.iconst 0, 1) := by decide +kernel
theorem dL_law_405 : decode cL_law 405 = .ok (.ireturn, 1) := by decide +kernel
theorem dL_law_406 : decode cL_law 406 = .ok (.iload 5, 2) := by decide +kernel
theorem dL_law_408 : decode cL_law 408 = .ok (.ifCond .ne 15, 3) := by decide +kernel
theorem dL_law_411 : decode cL_law 411 = .ok (.aload_n 3, 1) := by decide +kernel
theorem dL_law_412 : decode cL_law 412 = .ok (.iconst 0, 1) := by decide +kernel
theorem dL_law_413 : decode cL_law 413 = .ok (.laload, 1) := by decide +kernel
theorem dL_law_414 : decode cL_law 414 = .ok (.iload 6, 2) := by decide +kernel
theorem dL_law_416 : decode cL_law 416 = .ok (.i2l, 1) := by decide +kernel
theorem dL_law_417 : decode cL_law 417 = .ok (.lcmp, 1) := by decide +kernel
theorem dL_law_418 : decode cL_law 418 = .ok (.ifCond .eq 5, 3) := by decide +kernel
theorem dL_law_421 : decode cL_law 421 = .ok (.iconst 0, 1) := by decide +kernel
theorem dL_law_422 : decode cL_law 422 = .ok (.ireturn, 1) := by decide +kernel
theorem dL_law_423 : decode cL_law 423 = .ok (.goto 304, 3) := by decide +kernel
theorem dL_law_426 : decode cL_law 426 = .ok (.aload_n 1, 1) := by decide +kernel
theorem dL_law_427 : decode cL_law 427 = .ok (.aload_n 0, 1) := by decide +kernel
theorem dL_law_428 : decode cL_law 428 = .ok (.iload 4, 2) := by decide +kernel
theorem dL_law_430 : decode cL_law 430 = .ok (.iconst 1, 1) := by decide +kernel
theorem dL_law_431 : decode cL_law 431 = .ok (.iadd, 1) := by decide +kernel
theorem dL_law_432 : decode cL_law 432 = .ok (.iaload, 1) := by decide +kernel
theorem dL_law_433 : decode cL_law 433 = .ok (.aload_n 0, 1) := by decide +kernel
theorem dL_law_434 : decode cL_law 434 = .ok (.iload 4, 2) := by decide +kernel
theorem dL_law_436 : decode cL_law 436 = .ok (.iconst 2, 1) := by decide +kernel
theorem dL_law_437 : decode cL_law 437 = .ok (.iadd, 1) := by decide +kernel
theorem dL_law_438 : decode cL_law 438 = .ok (.iaload, 1) := by decide +kernel
theorem dL_law_439 : decode cL_law 439 = .ok (.aload_n 0, 1) := by decide +kernel
theorem dL_law_440 : decode cL_law 440 = .ok (.iload 4, 2) := by decide +kernel
theorem dL_law_442 : decode cL_law 442 = .ok (.iconst 3, 1) := by decide +kernel
theorem dL_law_443 : decode cL_law 443 = .ok (.iadd, 1) := by decide +kernel
theorem dL_law_444 : decode cL_law 444 = .ok (.iaload, 1) := by decide +kernel
theorem dL_law_445 : decode cL_law 445 = .ok (.invokestatic 90, 3) := by decide +kernel
theorem dL_law_448 : decode cL_law 448 = .ok (.istore 5, 2) := by decide +kernel
theorem dL_law_450 : decode cL_law 450 = .ok (.aload_n 2, 1) := by decide +kernel
theorem dL_law_451 : decode cL_law 451 = .ok (.aload_n 0, 1) := by decide +kernel
theorem dL_law_452 : decode cL_law 452 = .ok (.iload 4, 2) := by decide +kernel
theorem dL_law_454 : decode cL_law 454 = .ok (.iconst 1, 1) := by decide +kernel
theorem dL_law_455 : decode cL_law 455 = .ok (.iadd, 1) := by decide +kernel
theorem dL_law_456 : decode cL_law 456 = .ok (.iaload, 1) := by decide +kernel
theorem dL_law_457 : decode cL_law 457 = .ok (.aload_n 0, 1) := by decide +kernel
theorem dL_law_458 : decode cL_law 458 = .ok (.iload 4, 2) := by decide +kernel
theorem dL_law_460 : decode cL_law 460 = .ok (.iconst 2, 1) := by decide +kernel
theorem dL_law_461 : decode cL_law 461 = .ok (.iadd, 1) := by decide +kernel
theorem dL_law_462 : decode cL_law 462 = .ok (.iaload, 1) := by decide +kernel
theorem dL_law_463 : decode cL_law 463 = .ok (.aload_n 0, 1) := by decide +kernel
theorem dL_law_464 : decode cL_law 464 = .ok (.iload 4, 2) := by decide +kernel
theorem dL_law_466 : decode cL_law 466 = .ok (.iconst 3, 1) := by decide +kernel
theorem dL_law_467 : decode cL_law 467 = .ok (.iadd, 1) := by decide +kernel
theorem dL_law_468 : decode cL_law 468 = .ok (.iaload, 1) := by decide +kernel
theorem dL_law_469 : decode cL_law 469 = .ok (.invokevirtual 93, 3) := by decide +kernel
theorem dL_law_472 : decode cL_law 472 = .ok (.aload_n 2, 1) := by decide +kernel
theorem dL_law_473 : decode cL_law 473 = .ok (.invokevirtual 71, 3) := by decide +kernel
theorem dL_law_476 : decode cL_law 476 = .ok (.iload 5, 2) := by decide +kernel
theorem dL_law_478 : decode cL_law 478 = .ok (.if_icmp .eq 5, 3) := by decide +kernel
theorem dL_law_481 : decode cL_law 481 = .ok (.iconst 0, 1) := by decide +kernel
theorem dL_law_482 : decode cL_law 482 = .ok (.ireturn, 1) := by decide +kernel
theorem dL_law_483 : decode cL_law 483 = .ok (.goto 244, 3) := by decide +kernel
theorem dL_law_486 : decode cL_law 486 = .ok (.aload_n 1, 1) := by decide +kernel
theorem dL_law_487 : decode cL_law 487 = .ok (.aload_n 0, 1) := by decide +kernel
theorem dL_law_488 : decode cL_law 488 = .ok (.iload 4, 2) := by decide +kernel
theorem dL_law_490 : decode cL_law 490 = .ok (.iconst 1, 1) := by decide +kernel
theorem dL_law_491 : decode cL_law 491 = .ok (.iadd, 1) := by decide +kernel
theorem dL_law_492 : decode cL_law 492 = .ok (.iaload, 1) := by decide +kernel
theorem dL_law_493 : decode cL_law 493 = .ok (.aload_n 0, 1) := by decide +kernel
theorem dL_law_494 : decode cL_law 494 = .ok (.iload 4, 2) := by decide +kernel
theorem dL_law_496 : decode cL_law 496 = .ok (.iconst 2, 1) := by decide +kernel
theorem dL_law_497 : decode cL_law 497 = .ok (.iadd, 1) := by decide +kernel
theorem dL_law_498 : decode cL_law 498 = .ok (.iaload, 1) := by decide +kernel
theorem dL_law_499 : decode cL_law 499 = .ok (.invokestatic 94, 3) := by decide +kernel
theorem dL_law_502 : decode cL_law 502 = .ok (.istore 5, 2) := by decide +kernel
theorem dL_law_504 : decode cL_law 504 = .ok (.aload_n 2, 1) := by decide +kernel
theorem dL_law_505 : decode cL_law 505 = .ok (.aload_n 0, 1) := by decide +kernel
theorem dL_law_506 : decode cL_law 506 = .ok (.iload 4, 2) := by decide +kernel
theorem dL_law_508 : decode cL_law 508 = .ok (.iconst 1, 1) := by decide +kernel
theorem dL_law_509 : decode cL_law 509 = .ok (.iadd, 1) := by decide +kernel
theorem dL_law_510 : decode cL_law 510 = .ok (.iaload, 1) := by decide +kernel
theorem dL_law_511 : decode cL_law 511 = .ok (.aload_n 0, 1) := by decide +kernel
theorem dL_law_512 : decode cL_law 512 = .ok (.iload 4, 2) := by decide +kernel
theorem dL_law_514 : decode cL_law 514 = .ok (.iconst 2, 1) := by decide +kernel
theorem dL_law_515 : decode cL_law 515 = .ok (.iadd, 1) := by decide +kernel
theorem dL_law_516 : decode cL_law 516 = .ok (.iaload, 1) := by decide +kernel
theorem dL_law_517 : decode cL_law 517 = .ok (.invokevirtual 97, 3) := by decide +kernel
theorem dL_law_520 : decode cL_law 520 = .ok (.aload_n 2, 1) := by decide +kernel
theorem dL_law_521 : decode cL_law 521 = .ok (.invokevirtual 71, 3) := by decide +kernel
theorem dL_law_524 : decode cL_law 524 = .ok (.iload 5, 2) := by decide +kernel
theorem dL_law_526 : decode cL_law 526 = .ok (.if_icmp .eq 5, 3) := by decide +kernel
theorem dL_law_529 : decode cL_law 529 = .ok (.iconst 0, 1) := by decide +kernel
theorem dL_law_530 : decode cL_law 530 = .ok (.ireturn, 1) := by decide +kernel
theorem dL_law_531 : decode cL_law 531 = .ok (.goto 196, 3) := by decide +kernel
theorem dL_law_534 : decode cL_law 534 = .ok (.aload_n 1, 1) := by decide +kernel
theorem dL_law_535 : decode cL_law 535 = .ok (.invokevirtual 98, 3) := by decide +kernel
theorem dL_law_538 : decode cL_law 538 = .ok (.aload_n 2, 1) := by decide +kernel
theorem dL_law_539 : decode cL_law 539 = .ok (.invokevirtual 101, 3) := by decide +kernel
theorem dL_law_542 : decode cL_law 542 = .ok (.if_icmp .eq 185, 3) := by decide +kernel
theorem dL_law_545 : decode cL_law 545 = .ok (.iconst 0, 1) := by decide +kernel
theorem dL_law_546 : decode cL_law 546 = .ok (.ireturn, 1) := by decide +kernel
theorem dL_law_547 : decode cL_law 547 = .ok (.aload_n 1, 1) := by decide +kernel
theorem dL_law_548 : decode cL_law 548 = .ok (.aload_n 0, 1) := by decide +kernel
theorem dL_law_549 : decode cL_law 549 = .ok (.iload 4, 2) := by decide +kernel
theorem dL_law_551 : decode cL_law 551 = .ok (.iconst 1, 1) := by decide +kernel
theorem dL_law_552 : decode cL_law 552 = .ok (.iadd, 1) := by decide +kernel
theorem dL_law_553 : decode cL_law 553 = .ok (.iaload, 1) := by decide +kernel
theorem dL_law_554 : decode cL_law 554 = .ok (.aload_n 0, 1) := by decide +kernel
theorem dL_law_555 : decode cL_law 555 = .ok (.iload 4, 2) := by decide +kernel
theorem dL_law_557 : decode cL_law 557 = .ok (.iconst 2, 1) := by decide +kernel
theorem dL_law_558 : decode cL_law 558 = .ok (.iadd, 1) := by decide +kernel
theorem dL_law_559 : decode cL_law 559 = .ok (.iaload, 1) := by decide +kernel
theorem dL_law_560 : decode cL_law 560 = .ok (.aload_n 3, 1) := by decide +kernel
theorem dL_law_561 : decode cL_law 561 = .ok (.invokestatic 102, 3) := by decide +kernel
theorem dL_law_564 : decode cL_law 564 = .ok (.istore 5, 2) := by decide +kernel
theorem dL_law_566 : decode cL_law 566 = .ok (.aload_n 2, 1) := by decide +kernel
theorem dL_law_567 : decode cL_law 567 = .ok (.aload_n 0, 1) := by decide +kernel
theorem dL_law_568 : decode cL_law 568 = .ok (.iload 4, 2) := by decide +kernel
theorem dL_law_570 : decode cL_law 570 = .ok (.iconst 1, 1) := by decide +kernel
theorem dL_law_571 : decode cL_law 571 = .ok (.iadd, 1) := by decide +kernel
theorem dL_law_572 : decode cL_law 572 = .ok (.iaload, 1) := by decide +kernel
theorem dL_law_573 : decode cL_law 573 = .ok (.aload_n 0, 1) := by decide +kernel
theorem dL_law_574 : decode cL_law 574 = .ok (.iload 4, 2) := by decide +kernel
theorem dL_law_576 : decode cL_law 576 = .ok (.iconst 2, 1) := by decide +kernel
theorem dL_law_577 : decode cL_law 577 = .ok (.iadd, 1) := by decide +kernel
theorem dL_law_578 : decode cL_law 578 = .ok (.iaload, 1) := by decide +kernel
theorem dL_law_579 : decode cL_law 579 = .ok (.invokevirtual 105, 3) := by decide +kernel
theorem dL_law_582 : decode cL_law 582 = .ok (.istore 6, 2) := by decide +kernel
theorem dL_law_584 : decode cL_law 584 = .ok (.aload_n 2, 1) := by decide +kernel
theorem dL_law_585 : decode cL_law 585 = .ok (.invokevirtual 71, 3) := by decide +kernel
theorem dL_law_588 : decode cL_law 588 = .ok (.iload 5, 2) := by decide +kernel
theorem dL_law_590 : decode cL_law 590 = .ok (.if_icmp .eq 5, 3) := by decide +kernel
theorem dL_law_593 : decode cL_law 593 = .ok (.iconst 0, 1) := by decide +kernel
theorem dL_law_594 : decode cL_law 594 = .ok (.ireturn, 1) := by decide +kernel
theorem dL_law_595 : decode cL_law 595 = .ok (.iload 5, 2) := by decide +kernel
theorem dL_law_597 : decode cL_law 597 = .ok (.ifCond .ne 15, 3) := by decide +kernel
theorem dL_law_600 : decode cL_law 600 = .ok (.aload_n 3, 1) := by decide +kernel
theorem dL_law_601 : decode cL_law 601 = .ok (.iconst 0, 1) := by decide +kernel
theorem dL_law_602 : decode cL_law 602 = .ok (.laload, 1) := by decide +kernel
theorem dL_law_603 : decode cL_law 603 = .ok (.iload 6, 2) := by decide +kernel
theorem dL_law_605 : decode cL_law 605 = .ok (.i2l, 1) := by decide +kernel
theorem dL_law_606 : decode cL_law 606 = .ok (.lcmp, 1) := by decide +kernel
theorem dL_law_607 : decode cL_law 607 = .ok (.ifCond .eq 5, 3) := by decide +kernel
theorem dL_law_610 : decode cL_law 610 = .ok (.iconst 0, 1) := by decide +kernel
theorem dL_law_611 : decode cL_law 611 = .ok (.ireturn, 1) := by decide +kernel
theorem dL_law_612 : decode cL_law 612 = .ok (.goto 115, 3) := by decide +kernel
theorem dL_law_615 : decode cL_law 615 = .ok (.aload_n 1, 1) := by decide +kernel
theorem dL_law_616 : decode cL_law 616 = .ok (.aload_n 0, 1) := by decide +kernel
theorem dL_law_617 : decode cL_law 617 = .ok (.iload 4, 2) := by decide +kernel
theorem dL_law_619 : decode cL_law 619 = .ok (.iconst 1, 1) := by decide +kernel
theorem dL_law_620 : decode cL_law 620 = .ok (.iadd, 1) := by decide +kernel
theorem dL_law_621 : decode cL_law 621 = .ok (.iaload, 1) := by decide +kernel
theorem dL_law_622 : decode cL_law 622 = .ok (.aload_n 3, 1) := by decide +kernel
theorem dL_law_623 : decode cL_law 623 = .ok (.invokestatic 106, 3) := by decide +kernel
theorem dL_law_626 : decode cL_law 626 = .ok (.istore 5, 2) := by decide +kernel
theorem dL_law_628 : decode cL_law 628 = .ok (.aload_n 2, 1) := by decide +kernel
theorem dL_law_629 : decode cL_law 629 = .ok (.aload_n 0, 1) := by decide +kernel
theorem dL_law_630 : decode cL_law 630 = .ok (.iload 4, 2) := by decide +kernel
theorem dL_law_632 : decode cL_law 632 = .ok (.iconst 1, 1) := by decide +kernel
theorem dL_law_633 : decode cL_law 633 = .ok (.iadd, 1) := by decide +kernel
theorem dL_law_634 : decode cL_law 634 = .ok (.iaload, 1) := by decide +kernel
theorem dL_law_635 : decode cL_law 635 = .ok (.invokevirtual 108, 3) := by decide +kernel
theorem dL_law_638 : decode cL_law 638 = .ok (.istore 6, 2) := by decide +kernel
theorem dL_law_640 : decode cL_law 640 = .ok (.aload_n 2, 1) := by decide +kernel
theorem dL_law_641 : decode cL_law 641 = .ok (.invokevirtual 71, 3) := by decide +kernel
theorem dL_law_644 : decode cL_law 644 = .ok (.iload 5, 2) := by decide +kernel
theorem dL_law_646 : decode cL_law 646 = .ok (.if_icmp .eq 5, 3) := by decide +kernel
theorem dL_law_649 : decode cL_law 649 = .ok (.iconst 0, 1) := by decide +kernel
theorem dL_law_650 : decode cL_law 650 = .ok (.ireturn, 1) := by decide +kernel
theorem dL_law_651 : decode cL_law 651 = .ok (.iload 5, 2) := by decide +kernel
theorem dL_law_653 : decode cL_law 653 = .ok (.ifCond .ne 15, 3) := by decide +kernel
theorem dL_law_656 : decode cL_law 656 = .ok (.aload_n 3, 1) := by decide +kernel
theorem dL_law_657 : decode cL_law 657 = .ok (.iconst 0, 1) := by decide +kernel
theorem dL_law_658 : decode cL_law 658 = .ok (.laload, 1) := by decide +kernel
theorem dL_law_659 : decode cL_law 659 = .ok (.iload 6, 2) := by decide +kernel
theorem dL_law_661 : decode cL_law 661 = .ok (.i2l, 1) := by decide +kernel
theorem dL_law_662 : decode cL_law 662 = .ok (.lcmp, 1) := by decide +kernel
theorem dL_law_663 : decode cL_law 663 = .ok (.ifCond .eq 5, 3) := by decide +kernel
theorem dL_law_666 : decode cL_law 666 = .ok (.iconst 0, 1) := by decide +kernel
theorem dL_law_667 : decode cL_law 667 = .ok (.ireturn, 1) := by decide +kernel
theorem dL_law_668 : decode cL_law 668 = .ok (.goto 59, 3) := by decide +kernel
theorem dL_law_671 : decode cL_law 671 = .ok (.aload_n 1, 1) := by decide +kernel
theorem dL_law_672 : decode cL_law 672 = .ok (.aload_n 0, 1) := by decide +kernel
theorem dL_law_673 : decode cL_law 673 = .ok (.iload 4, 2) := by decide +kernel
theorem dL_law_675 : decode cL_law 675 = .ok (.iconst 1, 1) := by decide +kernel
theorem dL_law_676 : decode cL_law 676 = .ok (.iadd, 1) := by decide +kernel
theorem dL_law_677 : decode cL_law 677 = .ok (.iaload, 1) := by decide +kernel
theorem dL_law_678 : decode cL_law 678 = .ok (.aload_n 3, 1) := by decide +kernel
theorem dL_law_679 : decode cL_law 679 = .ok (.invokestatic 109, 3) := by decide +kernel
theorem dL_law_682 : decode cL_law 682 = .ok (.istore 5, 2) := by decide +kernel
theorem dL_law_684 : decode cL_law 684 = .ok (.aload_n 2, 1) := by decide +kernel
theorem dL_law_685 : decode cL_law 685 = .ok (.aload_n 0, 1) := by decide +kernel
theorem dL_law_686 : decode cL_law 686 = .ok (.iload 4, 2) := by decide +kernel
theorem dL_law_688 : decode cL_law 688 = .ok (.iconst 1, 1) := by decide +kernel
theorem dL_law_689 : decode cL_law 689 = .ok (.iadd, 1) := by decide +kernel
theorem dL_law_690 : decode cL_law 690 = .ok (.iaload, 1) := by decide +kernel
theorem dL_law_691 : decode cL_law 691 = .ok (.invokevirtual 111, 3) := by decide +kernel
theorem dL_law_694 : decode cL_law 694 = .ok (.istore 6, 2) := by decide +kernel
theorem dL_law_696 : decode cL_law 696 = .ok (.aload_n 2, 1) := by decide +kernel
theorem dL_law_697 : decode cL_law 697 = .ok (.invokevirtual 71, 3) := by decide +kernel
theorem dL_law_700 : decode cL_law 700 = .ok (.iload 5, 2) := by decide +kernel
theorem dL_law_702 : decode cL_law 702 = .ok (.if_icmp .eq 5, 3) := by decide +kernel
theorem dL_law_705 : decode cL_law 705 = .ok (.iconst 0, 1) := by decide +kernel
theorem dL_law_706 : decode cL_law 706 = .ok (.ireturn, 1) := by decide +kernel
theorem dL_law_707 : decode cL_law 707 = .ok (.iload 5, 2) := by decide +kernel
theorem dL_law_709 : decode cL_law 709 = .ok (.ifCond .ne 15, 3) := by decide +kernel
theorem dL_law_712 : decode cL_law 712 = .ok (.aload_n 3, 1) := by decide +kernel
theorem dL_law_713 : decode cL_law 713 = .ok (.iconst 0, 1) := by decide +kernel
theorem dL_law_714 : decode cL_law 714 = .ok (.laload, 1) := by decide +kernel
theorem dL_law_715 : decode cL_law 715 = .ok (.iload 6, 2) := by decide +kernel
theorem dL_law_717 : decode cL_law 717 = .ok (.i2l, 1) := by decide +kernel
theorem dL_law_718 : decode cL_law 718 = .ok (.lcmp, 1) := by decide +kernel
theorem dL_law_719 : decode cL_law 719 = .ok (.ifCond .eq 5, 3) := by decide +kernel
theorem dL_law_722 : decode cL_law 722 = .ok (.iconst 0, 1) := by decide +kernel
theorem dL_law_723 : decode cL_law 723 = .ok (.ireturn, 1) := by decide +kernel
theorem dL_law_724 : decode cL_law 724 = .ok (.goto 3, 3) := by decide +kernel
theorem dL_law_727 : decode cL_law 727 = .ok (.iinc 4 4, 3) := by decide +kernel
theorem dL_law_730 : decode cL_law 730 = .ok (.goto (-697), 3) := by decide +kernel
theorem dL_law_733 : decode cL_law 733 = .ok (.iconst 1, 1) := by decide +kernel
theorem dL_law_734 : decode cL_law 734 = .ok (.ireturn, 1) := by decide +kernel
