theorem dX12_findBest_9 : decode cX12_findBest 9 = .ok (.isub, 1) := by decide +kernel
theorem dX12_findBest_10 : decode cX12_findBest 10 = .ok (.istore_n 3, 1) := by decide +kernel
theorem dX12_findBest_11 : decode cX12_findBest 11 = .ok (.iload_n 3, 1) := by decide +kernel
theorem dX12_findBest_12 : decode cX12_findBest 12 = .ok (.ifCond .lt 270, 3) := by decide +kernel
theorem dX12_findBest_15 : decode cX12_findBest 15 = .ok (.aload_n 0, 1) := by decide +kernel
theorem dX12_findBest_16 : decode cX12_findBest 16 = .ok (.getfield 41, 3) := by decide +kernel
theorem dX12_findBest_19 : decode cX12_findBest 19 = .ok (.iload_n 3, 1) := by decide +kernel
theorem dX12_findBest_20 : decode cX12_findBest 20 = .ok (.iaload, 1) := by decide +kernel
theorem dX12_findBest_21 : decode cX12_findBest 21 = .ok (.istore 4, 2) := by decide +kernel
theorem dX12_findBest_23 : decode cX12_findBest 23 = .ok (.aload_n 0, 1) := by decide +kernel
theorem dX12_findBest_24 : decode cX12_findBest 24 = .ok (.iload 4, 2) := by decide +kernel
theorem dX12_findBest_26 : decode cX12_findBest 26 = .ok (.invokevirtual 268, 3) := by decide +kernel
theorem dX12_findBest_29 : decode cX12_findBest 29 = .ok (.iload_n 1, 1) := by decide +kernel
theorem dX12_findBest_30 : decode cX12_findBest 30 = .ok (.if_icmp .ne 34, 3) := by decide +kernel
theorem dX12_findBest_33 : decode cX12_findBest 33 = .ok (.aload_n 0, 1) := by decide +kernel
theorem dX12_findBest_34 : decode cX12_findBest 34 = .ok (.getfield 19, 3) := by decide +kernel
theorem dX12_findBest_37 : decode cX12_findBest 37 = .ok (.iload 4, 2) := by decide +kernel
theorem dX12_findBest_39 : decode cX12_findBest 39 = .ok (.iconst 2, 1) := by decide +kernel
theorem dX12_findBest_40 : decode cX12_findBest 40 = .ok (.idiv, 1) := by decide +kernel
theorem dX12_findBest_41 : decode cX12_findBest 41 = .ok (.iaload, 1) := by decide +kernel
theorem dX12_findBest_42 : decode cX12_findBest 42 = .ok (.aload_n 0, 1) := by decide +kernel
theorem dX12_findBest_43 : decode cX12_findBest 43 = .ok (.getfield 51, 3) := by decide +kernel
theorem dX12_findBest_46 : decode cX12_findBest 46 = .ok (.if_icmp .gt 18, 3) := by decide +kernel
theorem dX12_findBest_49 : decode cX12_findBest 49 = .ok (.iload 4, 2) := by decide +kernel
theorem dX12_findBest_51 : decode cX12_findBest 51 = .ok (.iconst 2, 1) := by decide +kernel
theorem dX12_findBest_52 : decode cX12_findBest 52 = .ok (.idiv, 1) := by decide +kernel
theorem dX12_findBest_53 : decode cX12_findBest 53 = .ok (.aload_n 0, 1) := by decide +kernel
theorem dX12_findBest_54 : decode cX12_findBest 54 = .ok (.getfield 55, 3) := by decide +kernel
theorem dX12_findBest_57 : decode cX12_findBest 57 = .ok (.if_icmp .eq 7, 3) := by decide +kernel
theorem dX12_findBest_60 : decode cX12_findBest 60 = .ok (.iconst 1, 1) := by decide +kernel
theorem dX12_findBest_61 : decode cX12_findBest 61 = .ok (.goto 4, 3) := by decide +kernel
theorem dX12_findBest_64 : decode cX12_findBest 64 = .ok (.iconst 0, 1) := by decide +kernel
theorem dX12_findBest_65 : decode cX12_findBest 65 = .ok (.istore 5, 2) := by decide +kernel
theorem dX12_findBest_67 : decode cX12_findBest 67 = .ok (.aload_n 0, 1) := by decide +kernel
theorem dX12_findBest_68 : decode cX12_findBest 68 = .ok (.getfield 44, 3) := by decide +kernel
theorem dX12_findBest_71 : decode cX12_findBest 71 = .ok (.iload 4, 2) := by decide +kernel
theorem dX12_findBest_73 : decode cX12_findBest 73 = .ok (.iload 5, 2) := by decide +kernel
theorem dX12_findBest_75 : decode cX12_findBest 75 = .ok (.ifCond .eq 29, 3) := by decide +kernel
theorem dX12_findBest_78 : decode cX12_findBest 78 = .ok (.iload_n 2, 1) := by decide +kernel
theorem dX12_findBest_79 : decode cX12_findBest 79 = .ok (.ifCond .ne 15, 3) := by decide +kernel
theorem dX12_findBest_82 : decode cX12_findBest 82 = .ok (.aload_n 0, 1) := by decide +kernel
theorem dX12_findBest_83 : decode cX12_findBest 83 = .ok (.getfield 19, 3) := by decide +kernel
theorem dX12_findBest_86 : decode cX12_findBest 86 = .ok (.iload 4, 2) := by decide +kernel
theorem dX12_findBest_88 : decode cX12_findBest 88 = .ok (.iconst 2, 1) := by decide +kernel
theorem dX12_findBest_89 : decode cX12_findBest 89 = .ok (.idiv, 1) := by decide +kernel
theorem dX12_findBest_90 : decode cX12_findBest 90 = .ok (.iaload, 1) := by decide +kernel
theorem dX12_findBest_91 : decode cX12_findBest 91 = .ok (.goto 15, 3) := by decide +kernel
theorem dX12_findBest_94 : decode cX12_findBest 94 = .ok (.aload_n 0, 1) := by decide +kernel
theorem dX12_findBest_95 : decode cX12_findBest 95 = .ok (.iload 4, 2) := by decide +kernel
theorem dX12_findBest_97 : decode cX12_findBest 97 = .ok (.iload_n 2, 1) := by decide +kernel
theorem dX12_findBest_98 : decode cX12_findBest 98 = .ok (.invokevirtual 274, 3) := by decide +kernel
theorem dX12_findBest_101 : decode cX12_findBest 101 = .ok (.goto 5, 3) := by decide +kernel
theorem dX12_findBest_104 : decode cX12_findBest 104 = .ok (.ldc 50, 2) := by decide +kernel
theorem dX12_findBest_106 : decode cX12_findBest 106 = .ok (.iastore, 1) := by decide +kernel
theorem dX12_findBest_107 : decode cX12_findBest 107 = .ok (.aload_n 0, 1) := by decide +kernel
theorem dX12_findBest_108 : decode cX12_findBest 108 = .ok (.getfield 47, 3) := by decide +kernel
theorem dX12_findBest_111 : decode cX12_findBest 111 = .ok (.iload 4, 2) := by decide +kernel
theorem dX12_findBest_113 : decode cX12_findBest 113 = .ok (.iload 5, 2) := by decide +kernel
theorem dX12_findBest_115 : decode cX12_findBest 115 = .ok (.ifCond .eq 7, 3) := by decide +kernel
theorem dX12_findBest_118 : decode cX12_findBest 118 = .ok (.iconst 1, 1) := by decide +kernel
theorem dX12_findBest_119 : decode cX12_findBest 119 = .ok (.goto 5, 3) := by decide +kernel
theorem dX12_findBest_122 : decode cX12_findBest 122 = .ok (.ldc 50, 2) := by decide +kernel
theorem dX12_findBest_124 : decode cX12_findBest 124 = .ok (.iastore, 1) := by decide +kernel
theorem dX12_findBest_125 : decode cX12_findBest 125 = .ok (.aload_n 0, 1) := by decide +kernel
theorem dX12_findBest_126 : decode cX12_findBest 126 = .ok (.getfield 277, 3) := by decide +kernel
theorem dX12_findBest_129 : decode cX12_findBest 129 = .ok (.aload_n 0, 1) := by decide +kernel
theorem dX12_findBest_130 : decode cX12_findBest 130 = .ok (.iload 4, 2) := by decide +kernel
theorem dX12_findBest_132 : decode cX12_findBest 132 = .ok (.invokevirtual 268, 3) := by decide +kernel
theorem dX12_findBest_135 : decode cX12_findBest 135 = .ok (.invokestatic 259, 3) := by decide +kernel
theorem dX12_findBest_138 : decode cX12_findBest 138 = .ok (.ifCond .ne 138, 3) := by decide +kernel
theorem dX12_findBest_141 : decode cX12_findBest 141 = .ok (.iload 4, 2) := by decide +kernel
theorem dX12_findBest_143 : decode cX12_findBest 143 = .ok (.iconst 2, 1) := by decide +kernel
theorem dX12_findBest_144 : decode cX12_findBest 144 = .ok (.idiv, 1) := by decide +kernel
theorem dX12_findBest_145 : decode cX12_findBest 145 = .ok (.aload_n 0, 1) := by decide +kernel
theorem dX12_findBest_146 : decode cX12_findBest 146 = .ok (.getfield 55, 3) := by decide +kernel
theorem dX12_findBest_149 : decode cX12_findBest 149 = .ok (.if_icmp .ne 6, 3) := by decide +kernel
theorem dX12_findBest_152 : decode cX12_findBest 152 = .ok (.goto 124, 3) := by decide +kernel
theorem dX12_findBest_155 : decode cX12_findBest 155 = .ok (.iconst 0, 1) := by decide +kernel
theorem dX12_findBest_156 : decode cX12_findBest 156 = .ok (.istore 6, 2) := by decide +kernel
theorem dX12_findBest_158 : decode cX12_findBest 158 = .ok (.iload 6, 2) := by decide +kernel
theorem dX12_findBest_160 : decode cX12_findBest 160 = .ok (.aload_n 0, 1) := by decide +kernel
theorem dX12_findBest_161 : decode cX12_findBest 161 = .ok (.getfield 262, 3) := by decide +kernel
theorem dX12_findBest_164 : decode cX12_findBest 164 = .ok (.if_icmp .ge 112, 3) := by decide +kernel
theorem dX12_findBest_167 : decode cX12_findBest 167 = .ok (.aload_n 0, 1) := by decide +kernel
theorem dX12_findBest_168 : decode cX12_findBest 168 = .ok (.iload 6, 2) := by decide +kernel
theorem dX12_findBest_170 : decode cX12_findBest 170 = .ok (.iload 4, 2) := by decide +kernel
theorem dX12_findBest_172 : decode cX12_findBest 172 = .ok (.invokevirtual 280, 3) := by decide +kernel
theorem dX12_findBest_175 : decode cX12_findBest 175 = .ok (.ifCond .eq 95, 3) := by decide +kernel
theorem dX12_findBest_178 : decode cX12_findBest 178 = .ok (.aload_n 0, 1) := by decide +kernel
theorem dX12_findBest_179 : decode cX12_findBest 179 = .ok (.getfield 44, 3) := by decide +kernel
theorem dX12_findBest_182 : decode cX12_findBest 182 = .ok (.iload 6, 2) := by decide +kernel
theorem dX12_findBest_184 : decode cX12_findBest 184 = .ok (.iaload, 1) := by decide +kernel
theorem dX12_findBest_185 : decode cX12_findBest 185 = .ok (.ldc 50, 2) := by decide +kernel
theorem dX12_findBest_187 : decode cX12_findBest 187 = .ok (.if_icmp .lt 6, 3) := by decide +kernel
theorem dX12_findBest_190 : decode cX12_findBest 190 = .ok (.goto 80, 3) := by decide +kernel
theorem dX12_findBest_193 : decode cX12_findBest 193 = .ok (.aload_n 0, 1) := by decide +kernel
theorem dX12_findBest_194 : decode cX12_findBest 194 = .ok (.getfield 44, 3) := by decide +kernel
theorem dX12_findBest_197 : decode cX12_findBest 197 = .ok (.iload 6, 2) := by decide +kernel
theorem dX12_findBest_199 : decode cX12_findBest 199 = .ok (.iaload, 1) := by decide +kernel
theorem dX12_findBest_200 : decode cX12_findBest 200 = .ok (.aload_n 0, 1) := by decide +kernel
theorem dX12_findBest_201 : decode cX12_findBest 201 = .ok (.iload 4, 2) := by decide +kernel
theorem dX12_findBest_203 : decode cX12_findBest 203 = .ok (.iload_n 2, 1) := by decide +kernel
theorem dX12_findBest_204 : decode cX12_findBest 204 = .ok (.invokevirtual 274, 3) := by decide +kernel
theorem dX12_findBest_207 : decode cX12_findBest 207 = .ok (.iadd, 1) := by decide +kernel
theorem dX12_findBest_208 : decode cX12_findBest 208 = .ok (.istore 7, 2) := by decide +kernel
theorem dX12_findBest_210 : decode cX12_findBest 210 = .ok (.aload_n 0, 1) := by decide +kernel
theorem dX12_findBest_211 : decode cX12_findBest 211 = .ok (.iload 7, 2) := by decide +kernel
theorem dX12_findBest_213 : decode cX12_findBest 213 = .ok (.aload_n 0, 1) := by decide +kernel
theorem dX12_findBest_214 : decode cX12_findBest 214 = .ok (.getfield 47, 3) := by decide +kernel
theorem dX12_findBest_217 : decode cX12_findBest 217 = .ok (.iload 6, 2) := by decide +kernel
theorem dX12_findBest_219 : decode cX12_findBest 219 = .ok (.iaload, 1) := by decide +kernel
theorem dX12_findBest_220 : decode cX12_findBest 220 = .ok (.iconst 1, 1) := by decide +kernel
theorem dX12_findBest_221 : decode cX12_findBest 221 = .ok (.iadd, 1) := by decide +kernel
theorem dX12_findBest_222 : decode cX12_findBest 222 = .ok (.aload_n 0, 1) := by decide +kernel
theorem dX12_findBest_223 : decode cX12_findBest 223 = .ok (.getfield 44, 3) := by decide +kernel
theorem dX12_findBest_226 : decode cX12_findBest 226 = .ok (.iload 4, 2) := by decide +kernel
theorem dX12_findBest_228 : decode cX12_findBest 228 = .ok (.iaload, 1) := by decide +kernel
theorem dX12_findBest_229 : decode cX12_findBest 229 = .ok (.aload_n 0, 1) := by decide +kernel
theorem dX12_findBest_230 : decode cX12_findBest 230 = .ok (.getfield 47, 3) := by decide +kernel
theorem dX12_findBest_233 : decode cX12_findBest 233 = .ok (.iload 4, 2) := by decide +kernel
theorem dX12_findBest_235 : decode cX12_findBest 235 = .ok (.iaload, 1) := by decide +kernel
theorem dX12_findBest_236 : decode cX12_findBest 236 = .ok (.invokevirtual 283, 3) := by decide +kernel
theorem dX12_findBest_239 : decode cX12_findBest 239 = .ok (.ifCond .ne 6, 3) := by decide +kernel
theorem dX12_findBest_242 : decode cX12_findBest 242 = .ok (.goto 28, 3) := by decide +kernel
theorem dX12_findBest_245 : decode cX12_findBest 245 = .ok (.aload_n 0, 1) := by decide +kernel
theorem dX12_findBest_246 : decode cX12_findBest 246 = .ok (.getfield 44, 3) := by decide +kernel
theorem dX12_findBest_249 : decode cX12_findBest 249 = .ok (.iload 4, 2) := by decide +kernel
theorem dX12_findBest_251 : decode cX12_findBest 251 = .ok (.iload 7, 2) := by decide +kernel
theorem dX12_findBest_253 : decode cX12_findBest 253 = .ok (.iastore, 1) := by decide +kernel
theorem dX12_findBest_254 : decode cX12_findBest 254 = .ok (.aload_n 0, 1) := by decide +kernel
theorem dX12_findBest_255 : decode cX12_findBest 255 = .ok (.getfield 47, 3) := by decide +kernel
theorem dX12_findBest_258 : decode cX12_findBest 258 = .ok (.iload 4, 2) := by decide +kernel
theorem dX12_findBest_260 : decode cX12_findBest 260 = .ok (.aload_n 0, 1) := by decide +kernel
theorem dX12_findBest_261 : decode cX12_findBest 261 = .ok (.getfield 47, 3) := by decide +kernel
theorem dX12_findBest_264 : decode cX12_findBest 264 = .ok (.iload 6, 2) := by decide +kernel
theorem dX12_findBest_266 : decode cX12_findBest 266 = .ok (.iaload, 1) := by decide +kernel
theorem dX12_findBest_267 : decode cX12_findBest 267 = .ok (.iconst 1, 1) := by decide +kernel
theorem dX12_findBest_268 : decode cX12_findBest 268 = .ok (.iadd, 1) := by decide +kernel
theorem dX12_findBest_269 : decode cX12_findBest 269 = .ok (.iastore, 1) := by decide +kernel
theorem dX12_findBest_270 : decode cX12_findBest 270 = .ok (.iinc 6 1, 3) := by decide +kernel
theorem dX12_findBest_273 : decode cX12_findBest 273 = .ok (.goto (-115), 3) := by decide +kernel
theorem dX12_findBest_276 : decode cX12_findBest 276 = .ok (.iinc 3 (-1), 3) := by decide +kernel
theorem dX12_findBest_279 : decode cX12_findBest 279 = .ok (.goto (-268), 3) := by decide +kernel
theorem dX12_findBest_282 : decode cX12_findBest 282 = .ok (.return_, 1) := by decide +kernel
theorem dX12_tellBest_0 : decode cX12_tellBest 0 = .ok (.aload_n 0, 1) := by decide +kernel
theorem dX12_tellBest_1 : decode cX12_tellBest 1 = .ok (.iload_n 2, 1) := by decide +kernel
theorem dX12_tellBest_2 : decode cX12_tellBest 2 = .ok (.iload 4, 2) := by decide +kernel
theorem dX12_tellBest_4 : decode cX12_tellBest 4 = .ok (.invokevirtual 287, 3) := by decide +kernel
theorem dX12_tellBest_7 : decode cX12_tellBest 7 = .ok (.iconst (-1), 1) := by decide +kernel
theorem dX12_tellBest_8 : decode cX12_tellBest 8 = .ok (.istore 5, 2) := by decide +kernel
theorem dX12_tellBest_10 : decode cX12_tellBest 10 = .ok (.iconst 0, 1) := by decide +kernel
theorem dX12_tellBest_11 : decode cX12_tellBest 11 = .ok (.istore 6, 2) := by decide +kernel
theorem dX12_tellBest_13 : decode cX12_tellBest 13 = .ok (.iload 6, 2) := by decide +kernel
theorem dX12_tellBest_15 : decode cX12_tellBest 15 = .ok (.aload_n 0, 1) := by decide +kernel
theorem dX12_tellBest_16 : decode cX12_tellBest 16 = .ok (.getfield 262, 3) := by decide +kernel
theorem dX12_tellBest_19 : decode cX12_tellBest 19 = .ok (.if_icmp .ge 77, 3) := by decide +kernel
theorem dX12_tellBest_22 : decode cX12_tellBest 22 = .ok (.aload_n 0, 1) := by decide +kernel
theorem dX12_tellBest_23 : decode cX12_tellBest 23 = .ok (.iload 6, 2) := by decide +kernel
theorem dX12_tellBest_25 : decode cX12_tellBest 25 = .ok (.iload_n 1, 1) := by decide +kernel
theorem dX12_tellBest_26 : decode cX12_tellBest 26 = .ok (.iload_n 3, 1) := by decide +kernel
theorem dX12_tellBest_27 : decode cX12_tellBest 27 = .ok (.invokevirtual 291, 3) := by decide +kernel
theorem dX12_tellBest_30 : decode cX12_tellBest 30 = .ok (.ifCond .eq 60, 3) := by decide +kernel
theorem dX12_tellBest_33 : decode cX12_tellBest 33 = .ok (.aload_n 0, 1) := by decide +kernel
theorem dX12_tellBest_34 : decode cX12_tellBest 34 = .ok (.getfield 44, 3) := by decide +kernel
theorem dX12_tellBest_37 : decode cX12_tellBest 37 = .ok (.iload 6, 2) := by decide +kernel
theorem dX12_tellBest_39 : decode cX12_tellBest 39 = .ok (.iaload, 1) := by decide +kernel
theorem dX12_tellBest_40 : decode cX12_tellBest 40 = .ok (.ldc 50, 2) := by decide +kernel
theorem dX12_tellBest_42 : decode cX12_tellBest 42 = .ok (.if_icmp .ge 48, 3) := by decide +kernel
theorem dX12_tellBest_45 : decode cX12_tellBest 45 = .ok (.iload 5, 2) := by decide +kernel
theorem dX12_tellBest_47 : decode cX12_tellBest 47 = .ok (.iconst (-1), 1) := by decide +kernel
theorem dX12_tellBest_48 : decode cX12_tellBest 48 = .ok (.if_icmp .eq 38, 3) := by decide +kernel
theorem dX12_tellBest_51 : decode cX12_tellBest 51 = .ok (.aload_n 0, 1) := by decide +kernel
theorem dX12_tellBest_52 : decode cX12_tellBest 52 = .ok (.aload_n 0, 1) := by decide +kernel
theorem dX12_tellBest_53 : decode cX12_tellBest 53 = .ok (.getfield 44, 3) := by decide +kernel
theorem dX12_tellBest_56 : decode cX12_tellBest 56 = .ok (.iload 6, 2) := by decide +kernel
theorem dX12_tellBest_58 : decode cX12_tellBest 58 = .ok (.iaload, 1) := by decide +kernel
theorem dX12_tellBest_59 : decode cX12_tellBest 59 = .ok (.aload_n 0, 1) := by decide +kernel
theorem dX12_tellBest_60 : decode cX12_tellBest 60 = .ok (.getfield 47, 3) := by decide +kernel
theorem dX12_tellBest_63 : decode cX12_tellBest 63 = .ok (.iload 6, 2) := by decide +kernel
theorem dX12_tellBest_65 : decode cX12_tellBest 65 = .ok (.iaload, 1) := by decide +kernel
theorem dX12_tellBest_66 : decode cX12_tellBest 66 = .ok (.aload_n 0, 1) := by decide +kernel
theorem dX12_tellBest_67 : decode cX12_tellBest 67 = .ok (.getfield 44, 3) := by decide +kernel
theorem dX12_tellBest_70 : decode cX12_tellBest 70 = .ok (.iload 5, 2) := by decide +kernel
theorem dX12_tellBest_72 : decode cX12_tellBest 72 = .ok (.iaload, 1) := by decide +kernel
theorem dX12_tellBest_73 : decode cX12_tellBest 73 = .ok (.aload_n 0, 1) := by decide +kernel
theorem dX12_tellBest_74 : decode cX12_tellBest 74 = .ok (.getfield 47, 3) := by decide +kernel
theorem dX12_tellBest_77 : decode cX12_tellBest 77 = .ok (.iload 5, 2) := by decide +kernel
theorem dX12_tellBest_79 : decode cX12_tellBest 79 = .ok (.iaload, 1) := by decide +kernel
theorem dX12_tellBest_80 : decode cX12_tellBest 80 = .ok (.invokevirtual 283, 3) := by decide +kernel
theorem dX12_tellBest_83 : decode cX12_tellBest 83 = .ok (.ifCond .eq 7, 3) := by decide +kernel
theorem dX12_tellBest_86 : decode cX12_tellBest 86 = .ok (.iload 6, 2) := by decide +kernel
theorem dX12_tellBest_88 : decode cX12_tellBest 88 = .ok (.istore 5, 2) := by decide +kernel
theorem dX12_tellBest_90 : decode cX12_tellBest 90 = .ok (.iinc 6 1, 3) := by decide +kernel
theorem dX12_tellBest_93 : decode cX12_tellBest 93 = .ok (.goto (-80), 3) := by decide +kernel
theorem dX12_tellBest_96 : decode cX12_tellBest 96 = .ok (.iload 5, 2) := by decide +kernel
theorem dX12_tellBest_98 : decode cX12_tellBest 98 = .ok (.iconst (-1), 1) := by decide +kernel
theorem dX12_tellBest_99 : decode cX12_tellBest 99 = .ok (.if_icmp .ne 6, 3) := by decide +kernel
theorem dX12_tellBest_102 : decode cX12_tellBest 102 = .ok (.bipush (-2), 2) := by decide +kernel
theorem dX12_tellBest_104 : decode cX12_tellBest 104 = .ok (.ireturn, 1) := by decide +kernel
theorem dX12_tellBest_105 : decode cX12_tellBest 105 = .ok (.aload_n 0, 1) := by decide +kernel
theorem dX12_tellBest_106 : decode cX12_tellBest 106 = .ok (.getfield 44, 3) := by decide +kernel
theorem dX12_tellBest_109 : decode cX12_tellBest 109 = .ok (.iload 5, 2) := by decide +kernel
theorem dX12_tellBest_111 : decode cX12_tellBest 111 = .ok (.iaload, 1) := by decide +kernel
theorem dX12_tellBest_112 : decode cX12_tellBest 112 = .ok (.istore 6, 2) := by decide +kernel
theorem dX12_tellBest_114 : decode cX12_tellBest 114 = .ok (.aload_n 0, 1) := by decide +kernel
theorem dX12_tellBest_115 : decode cX12_tellBest 115 = .ok (.getfield 47, 3) := by decide +kernel
theorem dX12_tellBest_118 : decode cX12_tellBest 118 = .ok (.iload 5, 2) := by decide +kernel
theorem dX12_tellBest_120 : decode cX12_tellBest 120 = .ok (.iaload, 1) := by decide +kernel
theorem dX12_tellBest_121 : decode cX12_tellBest 121 = .ok (.istore 7, 2) := by decide +kernel
theorem dX12_tellBest_123 : decode cX12_tellBest 123 = .ok (.iload 6, 2) := by decide +kernel
theorem dX12_tellBest_125 : decode cX12_tellBest 125 = .ok (.istore 8, 2) := by decide +kernel
theorem dX12_tellBest_127 : decode cX12_tellBest 127 = .ok (.iconst (-1), 1) := by decide +kernel
theorem dX12_tellBest_128 : decode cX12_tellBest 128 = .ok (.istore 9, 2) := by decide +kernel
theorem dX12_tellBest_130 : decode cX12_tellBest 130 = .ok (.aload_n 0, 1) := by decide +kernel
theorem dX12_tellBest_131 : decode cX12_tellBest 131 = .ok (.iconst 0, 1) := by decide +kernel
theorem dX12_tellBest_132 : decode cX12_tellBest 132 = .ok (.putfield 99, 3) := by decide +kernel
theorem dX12_tellBest_135 : decode cX12_tellBest 135 = .ok (.iconst 0, 1) := by decide +kernel
theorem dX12_tellBest_136 : decode cX12_tellBest 136 = .ok (.istore 10, 2) := by decide +kernel
theorem dX12_tellBest_138 : decode cX12_tellBest 138 = .ok (.iload 10, 2) := by decide +kernel
theorem dX12_tellBest_140 : decode cX12_tellBest 140 = .ok (.iload 7, 2) := by decide +kernel
theorem dX12_tellBest_142 : decode cX12_tellBest 142 = .ok (.if_icmp .ge 143, 3) := by decide +kernel
theorem dX12_tellBest_145 : decode cX12_tellBest 145 = .ok (.iconst (-1), 1) := by decide +kernel
theorem dX12_tellBest_146 : decode cX12_tellBest 146 = .ok (.istore 11, 2) := by decide +kernel
theorem dX12_tellBest_148 : decode cX12_tellBest 148 = .ok (.iconst 0, 1) := by decide +kernel
theorem dX12_tellBest_149 : decode cX12_tellBest 149 = .ok (.istore 12, 2) := by decide +kernel
theorem dX12_tellBest_151 : decode cX12_tellBest 151 = .ok (.iload 12, 2) := by decide +kernel
theorem dX12_tellBest_153 : decode cX12_tellBest 153 = .ok (.aload_n 0, 1) := by decide +kernel
theorem dX12_tellBest_154 : decode cX12_tellBest 154 = .ok (.getfield 262, 3) := by decide +kernel
theorem dX12_tellBest_157 : decode cX12_tellBest 157 = .ok (.if_icmp .ge 88, 3) := by decide +kernel
theorem dX12_tellBest_160 : decode cX12_tellBest 160 = .ok (.iload 9, 2) := by decide +kernel
theorem dX12_tellBest_162 : decode cX12_tellBest 162 = .ok (.iconst (-1), 1) := by decide +kernel
theorem dX12_tellBest_163 : decode cX12_tellBest 163 = .ok (.if_icmp .ne 17, 3) := by decide +kernel
theorem dX12_tellBest_166 : decode cX12_tellBest 166 = .ok (.aload_n 0, 1) := by decide +kernel
theorem dX12_tellBest_167 : decode cX12_tellBest 167 = .ok (.iload 12, 2) := by decide +kernel
theorem dX12_tellBest_169 : decode cX12_tellBest 169 = .ok (.iload_n 1, 1) := by decide +kernel
theorem dX12_tellBest_170 : decode cX12_tellBest 170 = .ok (.iload_n 3, 1) := by decide +kernel
theorem dX12_tellBest_171 : decode cX12_tellBest 171 = .ok (.invokevirtual 291, 3) := by decide +kernel
theorem dX12_tellBest_174 : decode cX12_tellBest 174 = .ok (.ifCond .eq 65, 3) := by decide +kernel
theorem dX12_tellBest_177 : decode cX12_tellBest 177 = .ok (.goto 14, 3) := by decide +kernel
theorem dX12_tellBest_180 : decode cX12_tellBest 180 = .ok (.aload_n 0, 1) := by decide +kernel
theorem dX12_tellBest_181 : decode cX12_tellBest 181 = .ok (.iload 12, 2) := by decide +kernel
theorem dX12_tellBest_183 : decode cX12_tellBest 183 = .ok (.iload 9, 2) := by decide +kernel
theorem dX12_tellBest_185 : decode cX12_tellBest 185 = .ok (.invokevirtual 280, 3) := by decide +kernel
theorem dX12_tellBest_188 : decode cX12_tellBest 188 = .ok (.ifCond .eq 51, 3) := by decide +kernel
theorem dX12_tellBest_191 : decode cX12_tellBest 191 = .ok (.aload_n 0, 1) := by decide +kernel
theorem dX12_tellBest_192 : decode cX12_tellBest 192 = .ok (.getfield 44, 3) := by decide +kernel
theorem dX12_tellBest_195 : decode cX12_tellBest 195 = .ok (.iload 12, 2) := by decide +kernel
theorem dX12_tellBest_197 : decode cX12_tellBest 197 = .ok (.iaload, 1) := by decide +kernel
theorem dX12_tellBest_198 : decode cX12_tellBest 198 = .ok (.iload 8, 2) := by decide +kernel
theorem dX12_tellBest_200 : decode cX12_tellBest 200 = .ok (.if_icmp .ne 39, 3) := by decide +kernel
theorem dX12_tellBest_203 : decode cX12_tellBest 203 = .ok (.aload_n 0, 1) := by decide +kernel
theorem dX12_tellBest_204 : decode cX12_tellBest 204 = .ok (.getfield 47, 3) := by decide +kernel
theorem dX12_tellBest_207 : decode cX12_tellBest 207 = .ok (.iload 12, 2) := by decide +kernel
theorem dX12_tellBest_209 : decode cX12_tellBest 209 = .ok (.iaload, 1) := by decide +kernel
theorem dX12_tellBest_210 : decode cX12_tellBest 210 = .ok (.iload 7, 2) := by decide +kernel
theorem dX12_tellBest_212 : decode cX12_tellBest 212 = .ok (.iload 10, 2) := by decide +kernel
theorem dX12_tellBest_214 : decode cX12_tellBest 214 = .ok (.isub, 1) := by decide +kernel
theorem dX12_tellBest_215 : decode cX12_tellBest 215 = .ok (.if_icmp .ne 24, 3) := by decide +kernel
theorem dX12_tellBest_218 : decode cX12_tellBest 218 = .ok (.iload 11, 2) := by decide +kernel
theorem dX12_tellBest_220 : decode cX12_tellBest 220 = .ok (.iconst (-1), 1) := by decide +kernel
theorem dX12_tellBest_221 : decode cX12_tellBest 221 = .ok (.if_icmp .eq 14, 3) := by decide +kernel
theorem dX12_tellBest_224 : decode cX12_tellBest 224 = .ok (.iload 12, 2) := by decide +kernel
theorem dX12_tellBest_226 : decode cX12_tellBest 226 = .ok (.iconst 2, 1) := by decide +kernel
theorem dX12_tellBest_227 : decode cX12_tellBest 227 = .ok (.idiv, 1) := by decide +kernel
theorem dX12_tellBest_228 : decode cX12_tellBest 228 = .ok (.iload 11, 2) := by decide +kernel
theorem dX12_tellBest_230 : decode cX12_tellBest 230 = .ok (.iconst 2, 1) := by decide +kernel
theorem dX12_tellBest_231 : decode cX12_tellBest 231 = .ok (.idiv, 1) := by decide +kernel
theorem dX12_tellBest_232 : decode cX12_tellBest 232 = .ok (.if_icmp .ge 7, 3) := by decide +kernel
theorem dX12_tellBest_235 : decode cX12_tellBest 235 = .ok (.iload 12, 2) := by decide +kernel
theorem dX12_tellBest_237 : decode cX12_tellBest 237 = .ok (.istore 11, 2) := by decide +kernel
theorem dX12_tellBest_239 : decode cX12_tellBest 239 = .ok (.iinc 12 1, 3) := by decide +kernel
theorem dX12_tellBest_242 : decode cX12_tellBest 242 = .ok (.goto (-91), 3) := by decide +kernel
theorem dX12_tellBest_245 : decode cX12_tellBest 245 = .ok (.aload_n 0, 1) := by decide +kernel
theorem dX12_tellBest_246 : decode cX12_tellBest 246 = .ok (.getfield 99, 3) := by decide +kernel
theorem dX12_tellBest_249 : decode cX12_tellBest 249 = .ok (.bipush 12, 2) := by decide +kernel
theorem dX12_tellBest_251 : decode cX12_tellBest 251 = .ok (.if_icmp .ge 11, 3) := by decide +kernel
theorem dX12_tellBest_254 : decode cX12_tellBest 254 = .ok (.aload_n 0, 1) := by decide +kernel
theorem dX12_tellBest_255 : decode cX12_tellBest 255 = .ok (.iload 11, 2) := by decide +kernel
theorem dX12_tellBest_257 : decode cX12_tellBest 257 = .ok (.iconst 2, 1) := by decide +kernel
theorem dX12_tellBest_258 : decode cX12_tellBest 258 = .ok (.idiv, 1) := by decide +kernel
theorem dX12_tellBest_259 : decode cX12_tellBest 259 = .ok (.invokevirtual 250, 3) := by decide +kernel
theorem dX12_tellBest_262 : decode cX12_tellBest 262 = .ok (.iload 8, 2) := by decide +kernel
theorem dX12_tellBest_264 : decode cX12_tellBest 264 = .ok (.aload_n 0, 1) := by decide +kernel
theorem dX12_tellBest_265 : decode cX12_tellBest 265 = .ok (.iload 11, 2) := by decide +kernel
theorem dX12_tellBest_267 : decode cX12_tellBest 267 = .ok (.iload 4, 2) := by decide +kernel
theorem dX12_tellBest_269 : decode cX12_tellBest 269 = .ok (.invokevirtual 274, 3) := by decide +kernel
theorem dX12_tellBest_272 : decode cX12_tellBest 272 = .ok (.isub, 1) := by decide +kernel
theorem dX12_tellBest_273 : decode cX12_tellBest 273 = .ok (.istore 8, 2) := by decide +kernel
theorem dX12_tellBest_275 : decode cX12_tellBest 275 = .ok (.iload 11, 2) := by decide +kernel
theorem dX12_tellBest_277 : decode cX12_tellBest 277 = .ok (.istore 9, 2) := by decide +kernel
theorem dX12_tellBest_279 : decode cX12_tellBest 279 = .ok (.iinc 10 1, 3) := by decide +kernel
theorem dX12_tellBest_282 : decode cX12_tellBest 282 = .ok (.goto (-144), 3) := by decide +kernel
theorem dX12_tellBest_285 : decode cX12_tellBest 285 = .ok (.iload 6, 2) := by decide +kernel
theorem dX12_tellBest_287 : decode cX12_tellBest 287 = .ok (.ireturn, 1) := by decide +kernel
theorem dX12_isTrip_0 : decode cX12_isTrip 0 = .ok (.aload_n 0, 1) := by decide +kernel
theorem dX12_isTrip_1 : decode cX12_isTrip 1 = .ok (.iload_n 1, 1) := by decide +kernel
theorem dX12_isTrip_2 : decode cX12_isTrip 2 = .ok (.invokevirtual 197, 3) := by decide +kernel
theorem dX12_isTrip_5 : decode cX12_isTrip 5 = .ok (.ifCond .eq 22, 3) := by decide +kernel
theorem dX12_isTrip_8 : decode cX12_isTrip 8 = .ok (.aload_n 0, 1) := by decide +kernel
theorem dX12_isTrip_9 : decode cX12_isTrip 9 = .ok (.iload_n 2, 1) := by decide +kernel
theorem dX12_isTrip_10 : decode cX12_isTrip 10 = .ok (.invokevirtual 197, 3) := by decide +kernel
theorem dX12_isTrip_13 : decode cX12_isTrip 13 = .ok (.ifCond .eq 14, 3) := by decide +kernel
theorem dX12_isTrip_16 : decode cX12_isTrip 16 = .ok (.iload_n 3, 1) := by decide +kernel
theorem dX12_isTrip_17 : decode cX12_isTrip 17 = .ok (.invokestatic 221, 3) := by decide +kernel
theorem dX12_isTrip_20 : decode cX12_isTrip 20 = .ok (.ifCond .eq 7, 3) := by decide +kernel
theorem dX12_isTrip_23 : decode cX12_isTrip 23 = .ok (.iconst 1, 1) := by decide +kernel
theorem dX12_isTrip_24 : decode cX12_isTrip 24 = .ok (.goto 4, 3) := by decide +kernel
theorem dX12_isTrip_27 : decode cX12_isTrip 27 = .ok (.iconst 0, 1) := by decide +kernel
theorem dX12_isTrip_28 : decode cX12_isTrip 28 = .ok (.ireturn, 1) := by decide +kernel
theorem dX12_soonestBy_0 : decode cX12_soonestBy 0 = .ok (.aload_n 0, 1) := by decide +kernel
theorem dX12_soonestBy_1 : decode cX12_soonestBy 1 = .ok (.iload_n 2, 1) := by decide +kernel
theorem dX12_soonestBy_2 : decode cX12_soonestBy 2 = .ok (.iconst 0, 1) := by decide +kernel
theorem dX12_soonestBy_3 : decode cX12_soonestBy 3 = .ok (.invokevirtual 287, 3) := by decide +kernel
theorem dX12_soonestBy_6 : decode cX12_soonestBy 6 = .ok (.ldc 50, 2) := by decide +kernel
theorem dX12_soonestBy_8 : decode cX12_soonestBy 8 = .ok (.istore 4, 2) := by decide +kernel
theorem dX12_soonestBy_10 : decode cX12_soonestBy 10 = .ok (.iconst 0, 1) := by decide +kernel
theorem dX12_soonestBy_11 : decode cX12_soonestBy 11 = .ok (.istore 5, 2) := by decide +kernel
theorem dX12_soonestBy_13 : decode cX12_soonestBy 13 = .ok (.iload 5, 2) := by decide +kernel
theorem dX12_soonestBy_15 : decode cX12_soonestBy 15 = .ok (.aload_n 0, 1) := by decide +kernel
theorem dX12_soonestBy_16 : decode cX12_soonestBy 16 = .ok (.getfield 262, 3) := by decide +kernel
theorem dX12_soonestBy_19 : decode cX12_soonestBy 19 = .ok (.if_icmp .ge 34, 3) := by decide +kernel
theorem dX12_soonestBy_22 : decode cX12_soonestBy 22 = .ok (.aload_n 0, 1) := by decide +kernel
theorem dX12_soonestBy_23 : decode cX12_soonestBy 23 = .ok (.iload 5, 2) := by decide +kernel
theorem dX12_soonestBy_25 : decode cX12_soonestBy 25 = .ok (.iload_n 1, 1) := by decide +kernel
theorem dX12_soonestBy_26 : decode cX12_soonestBy 26 = .ok (.iload_n 3, 1) := by decide +kernel
theorem dX12_soonestBy_27 : decode cX12_soonestBy 27 = .ok (.invokevirtual 291, 3) := by decide +kernel
theorem dX12_soonestBy_30 : decode cX12_soonestBy 30 = .ok (.ifCond .eq 17, 3) := by decide +kernel
theorem dX12_soonestBy_33 : decode cX12_soonestBy 33 = .ok (.iload 4, 2) := by decide +kernel
theorem dX12_soonestBy_35 : decode cX12_soonestBy 35 = .ok (.aload_n 0, 1) := by decide +kernel
theorem dX12_soonestBy_36 : decode cX12_soonestBy 36 = .ok (.getfield 44, 3) := by decide +kernel
theorem dX12_soonestBy_39 : decode cX12_soonestBy 39 = .ok (.iload 5, 2) := by decide +kernel
theorem dX12_soonestBy_41 : decode cX12_soonestBy 41 = .ok (.iaload, 1) := by decide +kernel
theorem dX12_soonestBy_42 : decode cX12_soonestBy 42 = .ok (.invokestatic 207, 3) := by decide +kernel
theorem dX12_soonestBy_45 : decode cX12_soonestBy 45 = .ok (.istore 4, 2) := by decide +kernel
theorem dX12_soonestBy_47 : decode cX12_soonestBy 47 = .ok (.iinc 5 1, 3) := by decide +kernel
theorem dX12_soonestBy_50 : decode cX12_soonestBy 50 = .ok (.goto (-37), 3) := by decide +kernel
theorem dX12_soonestBy_53 : decode cX12_soonestBy 53 = .ok (.iload 4, 2) := by decide +kernel
theorem dX12_soonestBy_55 : decode cX12_soonestBy 55 = .ok (.ireturn, 1) := by decide +kernel
theorem dX12_soonest_0 : decode cX12_soonest 0 = .ok (.aload_n 0, 1) := by decide +kernel
theorem dX12_soonest_1 : decode cX12_soonest 1 = .ok (.iconst 0, 1) := by decide +kernel
theorem dX12_soonest_2 : decode cX12_soonest 2 = .ok (.putfield 96, 3) := by decide +kernel
theorem dX12_soonest_5 : decode cX12_soonest 5 = .ok (.aload_n 0, 1) := by decide +kernel
theorem dX12_soonest_6 : decode cX12_soonest 6 = .ok (.iload_n 1, 1) := by decide +kernel
theorem dX12_soonest_7 : decode cX12_soonest 7 = .ok (.iload_n 2, 1) := by decide +kernel
theorem dX12_soonest_8 : decode cX12_soonest 8 = .ok (.iload_n 3, 1) := by decide +kernel
theorem dX12_soonest_9 : decode cX12_soonest 9 = .ok (.invokevirtual 294, 3) := by decide +kernel
theorem dX12_soonest_12 : decode cX12_soonest 12 = .ok (.ifCond .ne 5, 3) := by decide +kernel
theorem dX12_soonest_15 : decode cX12_soonest 15 = .ok (.iconst (-1), 1) := by decide +kernel
theorem dX12_soonest_16 : decode cX12_soonest 16 = .ok (.ireturn, 1) := by decide +kernel
theorem dX12_soonest_17 : decode cX12_soonest 17 = .ok (.aload_n 0, 1) := by decide +kernel
theorem dX12_soonest_18 : decode cX12_soonest 18 = .ok (.iconst 0, 1) := by decide +kernel
theorem dX12_soonest_19 : decode cX12_soonest 19 = .ok (.putfield 277, 3) := by decide +kernel
theorem dX12_soonest_22 : decode cX12_soonest 22 = .ok (.aload_n 0, 1) := by decide +kernel
theorem dX12_soonest_23 : decode cX12_soonest 23 = .ok (.iload_n 1, 1) := by decide +kernel
theorem dX12_soonest_24 : decode cX12_soonest 24 = .ok (.iload_n 2, 1) := by decide +kernel
theorem dX12_soonest_25 : decode cX12_soonest 25 = .ok (.iload_n 3, 1) := by decide +kernel
theorem dX12_soonest_26 : decode cX12_soonest 26 = .ok (.iconst 0, 1) := by decide +kernel
theorem dX12_soonest_27 : decode cX12_soonest 27 = .ok (.invokevirtual 297, 3) := by decide +kernel
theorem dX12_soonest_30 : decode cX12_soonest 30 = .ok (.ireturn, 1) := by decide +kernel
theorem dX12_latest_0 : decode cX12_latest 0 = .ok (.aload_n 0, 1) := by decide +kernel
theorem dX12_latest_1 : decode cX12_latest 1 = .ok (.iconst 0, 1) := by decide +kernel
theorem dX12_latest_2 : decode cX12_latest 2 = .ok (.putfield 96, 3) := by decide +kernel
theorem dX12_latest_5 : decode cX12_latest 5 = .ok (.aload_n 0, 1) := by decide +kernel
theorem dX12_latest_6 : decode cX12_latest 6 = .ok (.iload_n 1, 1) := by decide +kernel
theorem dX12_latest_7 : decode cX12_latest 7 = .ok (.iload_n 2, 1) := by decide +kernel
theorem dX12_latest_8 : decode cX12_latest 8 = .ok (.iload_n 3, 1) := by decide +kernel
theorem dX12_latest_9 : decode cX12_latest 9 = .ok (.invokevirtual 294, 3) := by decide +kernel
theorem dX12_latest_12 : decode cX12_latest 12 = .ok (.ifCond .ne 5, 3) := by decide +kernel
theorem dX12_latest_15 : decode cX12_latest 15 = .ok (.iconst (-1), 1) := by decide +kernel
theorem dX12_latest_16 : decode cX12_latest 16 = .ok (.ireturn, 1) := by decide +kernel
theorem dX12_latest_17 : decode cX12_latest 17 = .ok (.aload_n 0, 1) := by decide +kernel
theorem dX12_latest_18 : decode cX12_latest 18 = .ok (.iconst 0, 1) := by decide +kernel
theorem dX12_latest_19 : decode cX12_latest 19 = .ok (.putfield 277, 3) := by decide +kernel
theorem dX12_latest_22 : decode cX12_latest 22 = .ok (.bipush 99, 2) := by decide +kernel
theorem dX12_latest_24 : decode cX12_latest 24 = .ok (.istore 4, 2) := by decide +kernel
theorem dX12_latest_26 : decode cX12_latest 26 = .ok (.iload 4, 2) := by decide +kernel
theorem dX12_latest_28 : decode cX12_latest 28 = .ok (.ifCond .lt 24, 3) := by decide +kernel
theorem dX12_latest_31 : decode cX12_latest 31 = .ok (.aload_n 0, 1) := by decide +kernel
theorem dX12_latest_32 : decode cX12_latest 32 = .ok (.iload_n 1, 1) := by decide +kernel
theorem dX12_latest_33 : decode cX12_latest 33 = .ok (.iload_n 2, 1) := by decide +kernel
theorem dX12_latest_34 : decode cX12_latest 34 = .ok (.iload 4, 2) := by decide +kernel
theorem dX12_latest_36 : decode cX12_latest 36 = .ok (.invokevirtual 301, 3) := by decide +kernel
theorem dX12_latest_39 : decode cX12_latest 39 = .ok (.iload_n 3, 1) := by decide +kernel
theorem dX12_latest_40 : decode cX12_latest 40 = .ok (.if_icmp .gt 6, 3) := by decide +kernel
theorem dX12_latest_43 : decode cX12_latest 43 = .ok (.iload 4, 2) := by decide +kernel
theorem dX12_latest_45 : decode cX12_latest 45 = .ok (.ireturn, 1) := by decide +kernel
theorem dX12_latest_46 : decode cX12_latest 46 = .ok (.iinc 4 (-1), 3) := by decide +kernel
theorem dX12_latest_49 : decode cX12_latest 49 = .ok (.goto (-23), 3) := by decide +kernel
theorem dX12_latest_52 : decode cX12_latest 52 = .ok (.bipush (-2), 2) := by decide +kernel
theorem dX12_latest_54 : decode cX12_latest 54 = .ok (.ireturn, 1) := by decide +kernel
theorem dX12_hands_0 : decode cX12_hands 0 = .ok (.aload_n 0, 1) := by decide +kernel
theorem dX12_hands_1 : decode cX12_hands 1 = .ok (.iconst 0, 1) := by decide +kernel
theorem dX12_hands_2 : decode cX12_hands 2 = .ok (.putfield 96, 3) := by decide +kernel
theorem dX12_hands_5 : decode cX12_hands 5 = .ok (.aload_n 0, 1) := by decide +kernel
theorem dX12_hands_6 : decode cX12_hands 6 = .ok (.iload_n 1, 1) := by decide +kernel
theorem dX12_hands_7 : decode cX12_hands 7 = .ok (.iload_n 2, 1) := by decide +kernel
theorem dX12_hands_8 : decode cX12_hands 8 = .ok (.iload_n 3, 1) := by decide +kernel
theorem dX12_hands_9 : decode cX12_hands 9 = .ok (.invokevirtual 294, 3) := by decide +kernel
theorem dX12_hands_12 : decode cX12_hands 12 = .ok (.ifCond .ne 5, 3) := by decide +kernel
theorem dX12_hands_15 : decode cX12_hands 15 = .ok (.iconst (-1), 1) := by decide +kernel
theorem dX12_hands_16 : decode cX12_hands 16 = .ok (.ireturn, 1) := by decide +kernel
theorem dX12_hands_17 : decode cX12_hands 17 = .ok (.aload_n 0, 1) := by decide +kernel
theorem dX12_hands_18 : decode cX12_hands 18 = .ok (.iconst 0, 1) := by decide +kernel
theorem dX12_hands_19 : decode cX12_hands 19 = .ok (.putfield 277, 3) := by decide +kernel
theorem dX12_hands_22 : decode cX12_hands 22 = .ok (.aload_n 0, 1) := by decide +kernel
theorem dX12_hands_23 : decode cX12_hands 23 = .ok (.iload_n 1, 1) := by decide +kernel
theorem dX12_hands_24 : decode cX12_hands 24 = .ok (.iload_n 2, 1) := by decide +kernel
theorem dX12_hands_25 : decode cX12_hands 25 = .ok (.iload_n 3, 1) := by decide +kernel
theorem dX12_hands_26 : decode cX12_hands 26 = .ok (.iconst 1, 1) := by decide +kernel
theorem dX12_hands_27 : decode cX12_hands 27 = .ok (.invokevirtual 297, 3) := by decide +kernel
theorem dX12_hands_30 : decode cX12_hands 30 = .ok (.ireturn, 1) := by decide +kernel
theorem dX12_cheapest_0 : decode cX12_cheapest 0 = .ok (.aload_n 0, 1) := by decide +kernel
theorem dX12_cheapest_1 : decode cX12_cheapest 1 = .ok (.iconst 0, 1) := by decide +kernel
theorem dX12_cheapest_2 : decode cX12_cheapest 2 = .ok (.putfield 96, 3) := by decide +kernel
theorem dX12_cheapest_5 : decode cX12_cheapest 5 = .ok (.aload_n 0, 1) := by decide +kernel
theorem dX12_cheapest_6 : decode cX12_cheapest 6 = .ok (.iload_n 1, 1) := by decide +kernel
theorem dX12_cheapest_7 : decode cX12_cheapest 7 = .ok (.iload_n 2, 1) := by decide +kernel
theorem dX12_cheapest_8 : decode cX12_cheapest 8 = .ok (.iload_n 3, 1) := by decide +kernel
theorem dX12_cheapest_9 : decode cX12_cheapest 9 = .ok (.invokevirtual 294, 3) := by decide +kernel
theorem dX12_cheapest_12 : decode cX12_cheapest 12 = .ok (.ifCond .ne 5, 3) := by decide +kernel
theorem dX12_cheapest_15 : decode cX12_cheapest 15 = .ok (.iconst (-1), 1) := by decide +kernel
theorem dX12_cheapest_16 : decode cX12_cheapest 16 = .ok (.ireturn, 1) := by decide +kernel
theorem dX12_cheapest_17 : decode cX12_cheapest 17 = .ok (.aload_n 0, 1) := by decide +kernel
theorem dX12_cheapest_18 : decode cX12_cheapest 18 = .ok (.iconst 0, 1) := by decide +kernel
theorem dX12_cheapest_19 : decode cX12_cheapest 19 = .ok (.putfield 277, 3) := by decide +kernel
theorem dX12_cheapest_22 : decode cX12_cheapest 22 = .ok (.aload_n 0, 1) := by decide +kernel
theorem dX12_cheapest_23 : decode cX12_cheapest 23 = .ok (.iload_n 1, 1) := by decide +kernel
theorem dX12_cheapest_24 : decode cX12_cheapest 24 = .ok (.iload_n 2, 1) := by decide +kernel
theorem dX12_cheapest_25 : decode cX12_cheapest 25 = .ok (.iload_n 3, 1) := by decide +kernel
theorem dX12_cheapest_26 : decode cX12_cheapest 26 = .ok (.iconst 2, 1) := by decide +kernel
theorem dX12_cheapest_27 : decode cX12_cheapest 27 = .ok (.invokevirtual 297, 3) := by decide +kernel
theorem dX12_cheapest_30 : decode cX12_cheapest 30 = .ok (.ireturn, 1) := by decide +kernel
theorem dX12_without_0 : decode cX12_without 0 = .ok (.aload_n 0, 1) := by decide +kernel
theorem dX12_without_1 : decode cX12_without 1 = .ok (.iconst 0, 1) := by decide +kernel
theorem dX12_without_2 : decode cX12_without 2 = .ok (.putfield 96, 3) := by decide +kernel
theorem dX12_without_5 : decode cX12_without 5 = .ok (.aload_n 0, 1) := by decide +kernel
theorem dX12_without_6 : decode cX12_without 6 = .ok (.iload_n 1, 1) := by decide +kernel
theorem dX12_without_7 : decode cX12_without 7 = .ok (.iload_n 2, 1) := by decide +kernel
theorem dX12_without_8 : decode cX12_without 8 = .ok (.iload_n 3, 1) := by decide +kernel
theorem dX12_without_9 : decode cX12_without 9 = .ok (.invokevirtual 294, 3) := by decide +kernel
theorem dX12_without_12 : decode cX12_without 12 = .ok (.ifCond .eq 20, 3) := by decide +kernel
theorem dX12_without_15 : decode cX12_without 15 = .ok (.iload 4, 2) := by decide +kernel
theorem dX12_without_17 : decode cX12_without 17 = .ok (.iconst 0, 1) := by decide +kernel
theorem dX12_without_18 : decode cX12_without 18 = .ok (.iconst 1, 1) := by decide +kernel
theorem dX12_without_19 : decode cX12_without 19 = .ok (.aload_n 0, 1) := by decide +kernel
theorem dX12_without_20 : decode cX12_without 20 = .ok (.getfield 102, 3) := by decide +kernel
theorem dX12_without_23 : decode cX12_without 23 = .ok (.ishl, 1) := by decide +kernel
theorem dX12_without_24 : decode cX12_without 24 = .ok (.iconst 1, 1) := by decide +kernel
theorem dX12_without_25 : decode cX12_without 25 = .ok (.isub, 1) := by decide +kernel
theorem dX12_without_26 : decode cX12_without 26 = .ok (.invokestatic 105, 3) := by decide +kernel
theorem dX12_without_29 : decode cX12_without 29 = .ok (.ifCond .ne 5, 3) := by decide +kernel
theorem dX12_without_32 : decode cX12_without 32 = .ok (.iconst (-1), 1) := by decide +kernel
theorem dX12_without_33 : decode cX12_without 33 = .ok (.ireturn, 1) := by decide +kernel
theorem dX12_without_34 : decode cX12_without 34 = .ok (.aload_n 0, 1) := by decide +kernel
theorem dX12_without_35 : decode cX12_without 35 = .ok (.iload 4, 2) := by decide +kernel
theorem dX12_without_37 : decode cX12_without 37 = .ok (.putfield 277, 3) := by decide +kernel
theorem dX12_without_40 : decode cX12_without 40 = .ok (.aload_n 0, 1) := by decide +kernel
theorem dX12_without_41 : decode cX12_without 41 = .ok (.iload_n 1, 1) := by decide +kernel
theorem dX12_without_42 : decode cX12_without 42 = .ok (.iload_n 2, 1) := by decide +kernel
theorem dX12_without_43 : decode cX12_without 43 = .ok (.iload_n 3, 1) := by decide +kernel
theorem dX12_without_44 : decode cX12_without 44 = .ok (.iconst 0, 1) := by decide +kernel
theorem dX12_without_45 : decode cX12_without 45 = .ok (.invokevirtual 297, 3) := by decide +kernel
theorem dX12_without_48 : decode cX12_without 48 = .ok (.istore 5, 2) := by decide +kernel
theorem dX12_without_50 : decode cX12_without 50 = .ok (.aload_n 0, 1) := by decide +kernel
theorem dX12_without_51 : decode cX12_without 51 = .ok (.iconst 0, 1) := by decide +kernel
theorem dX12_without_52 : decode cX12_without 52 = .ok (.putfield 277, 3) := by decide +kernel
theorem dX12_without_55 : decode cX12_without 55 = .ok (.iload 5, 2) := by decide +kernel
theorem dX12_without_57 : decode cX12_without 57 = .ok (.ireturn, 1) := by decide +kernel
theorem dX12_isFree_0 : decode cX12_isFree 0 = .ok (.iload_n 1, 1) := by decide +kernel
theorem dX12_isFree_1 : decode cX12_isFree 1 = .ok (.iconst 2, 1) := by decide +kernel
theorem dX12_isFree_2 : decode cX12_isFree 2 = .ok (.idiv, 1) := by decide +kernel
theorem dX12_isFree_3 : decode cX12_isFree 3 = .ok (.aload_n 0, 1) := by decide +kernel
theorem dX12_isFree_4 : decode cX12_isFree 4 = .ok (.getfield 55, 3) := by decide +kernel
theorem dX12_isFree_7 : decode cX12_isFree 7 = .ok (.if_icmp .eq 19, 3) := by decide +kernel
theorem dX12_isFree_10 : decode cX12_isFree 10 = .ok (.aload_n 0, 1) := by decide +kernel
theorem dX12_isFree_11 : decode cX12_isFree 11 = .ok (.iload_n 1, 1) := by decide +kernel
theorem dX12_isFree_12 : decode cX12_isFree 12 = .ok (.invokevirtual 268, 3) := by decide +kernel
theorem dX12_isFree_15 : decode cX12_isFree 15 = .ok (.aload_n 0, 1) := by decide +kernel
theorem dX12_isFree_16 : decode cX12_isFree 16 = .ok (.getfield 62, 3) := by decide +kernel
theorem dX12_isFree_19 : decode cX12_isFree 19 = .ok (.if_icmp .eq 7, 3) := by decide +kernel
theorem dX12_isFree_22 : decode cX12_isFree 22 = .ok (.iconst 1, 1) := by decide +kernel
theorem dX12_isFree_23 : decode cX12_isFree 23 = .ok (.goto 4, 3) := by decide +kernel
theorem dX12_isFree_26 : decode cX12_isFree 26 = .ok (.iconst 0, 1) := by decide +kernel
theorem dX12_isFree_27 : decode cX12_isFree 27 = .ok (.ireturn, 1) := by decide +kernel
theorem dX12_countWays_0 : decode cX12_countWays 0 = .ok (.aload_n 0, 1) := by decide +kernel
theorem dX12_countWays_1 : decode cX12_countWays 1 = .ok (.invokevirtual 271, 3) := by decide +kernel
theorem dX12_countWays_4 : decode cX12_countWays 4 = .ok (.lconst 0, 1) := by decide +kernel
theorem dX12_countWays_5 : decode cX12_countWays 5 = .ok (.lstore 4, 2) := by decide +kernel
theorem dX12_countWays_7 : decode cX12_countWays 7 = .ok (.iconst 0, 1) := by decide +kernel
theorem dX12_countWays_8 : decode cX12_countWays 8 = .ok (.istore 6, 2) := by decide +kernel
theorem dX12_countWays_10 : decode cX12_countWays 10 = .ok (.iload 6, 2) := by decide +kernel
theorem dX12_countWays_12 : decode cX12_countWays 12 = .ok (.aload_n 0, 1) := by decide +kernel
theorem dX12_countWays_13 : decode cX12_countWays 13 = .ok (.getfield 262, 3) := by decide +kernel
theorem dX12_countWays_16 : decode cX12_countWays 16 = .ok (.if_icmp .ge 131, 3) := by decide +kernel
theorem dX12_countWays_19 : decode cX12_countWays 19 = .ok (.aload_n 0, 1) := by decide +kernel
theorem dX12_countWays_20 : decode cX12_countWays 20 = .ok (.getfield 41, 3) := by decide +kernel
theorem dX12_countWays_23 : decode cX12_countWays 23 = .ok (.iload 6, 2) := by decide +kernel
theorem dX12_countWays_25 : decode cX12_countWays 25 = .ok (.iaload, 1) := by decide +kernel
theorem dX12_countWays_26 : decode cX12_countWays 26 = .ok (.istore 7, 2) := by decide +kernel
theorem dX12_countWays_28 : decode cX12_countWays 28 = .ok (.aload_n 0, 1) := by decide +kernel
theorem dX12_countWays_29 : decode cX12_countWays 29 = .ok (.getfield 58, 3) := by decide +kernel
theorem dX12_countWays_32 : decode cX12_countWays 32 = .ok (.iload 7, 2) := by decide +kernel
theorem dX12_countWays_34 : decode cX12_countWays 34 = .ok (.aload_n 0, 1) := by decide +kernel
theorem dX12_countWays_35 : decode cX12_countWays 35 = .ok (.iload 7, 2) := by decide +kernel
theorem dX12_countWays_37 : decode cX12_countWays 37 = .ok (.iload_n 1, 1) := by decide +kernel
theorem dX12_countWays_38 : decode cX12_countWays 38 = .ok (.iload_n 3, 1) := by decide +kernel
theorem dX12_countWays_39 : decode cX12_countWays 39 = .ok (.invokevirtual 291, 3) := by decide +kernel
theorem dX12_countWays_42 : decode cX12_countWays 42 = .ok (.ifCond .eq 16, 3) := by decide +kernel
theorem dX12_countWays_45 : decode cX12_countWays 45 = .ok (.aload_n 0, 1) := by decide +kernel
theorem dX12_countWays_46 : decode cX12_countWays 46 = .ok (.iload 7, 2) := by decide +kernel
theorem dX12_countWays_48 : decode cX12_countWays 48 = .ok (.invokevirtual 305, 3) := by decide +kernel
theorem dX12_countWays_51 : decode cX12_countWays 51 = .ok (.ifCond .eq 7, 3) := by decide +kernel
theorem dX12_countWays_54 : decode cX12_countWays 54 = .ok (.lconst 1, 1) := by decide +kernel
theorem dX12_countWays_55 : decode cX12_countWays 55 = .ok (.goto 4, 3) := by decide +kernel
theorem dX12_countWays_58 : decode cX12_countWays 58 = .ok (.lconst 0, 1) := by decide +kernel
theorem dX12_countWays_59 : decode cX12_countWays 59 = .ok (.lastore, 1) := by decide +kernel
theorem dX12_countWays_60 : decode cX12_countWays 60 = .ok (.iconst 0, 1) := by decide +kernel
theorem dX12_countWays_61 : decode cX12_countWays 61 = .ok (.istore 8, 2) := by decide +kernel
theorem dX12_countWays_63 : decode cX12_countWays 63 = .ok (.iload 8, 2) := by decide +kernel
theorem dX12_countWays_65 : decode cX12_countWays 65 = .ok (.aload_n 0, 1) := by decide +kernel
theorem dX12_countWays_66 : decode cX12_countWays 66 = .ok (.getfield 262, 3) := by decide +kernel
theorem dX12_countWays_69 : decode cX12_countWays 69 = .ok (.if_icmp .ge 46, 3) := by decide +kernel
theorem dX12_countWays_72 : decode cX12_countWays 72 = .ok (.aload_n 0, 1) := by decide +kernel
theorem dX12_countWays_73 : decode cX12_countWays 73 = .ok (.iload 7, 2) := by decide +kernel
theorem dX12_countWays_75 : decode cX12_countWays 75 = .ok (.invokevirtual 305, 3) := by decide +kernel
theorem dX12_countWays_78 : decode cX12_countWays 78 = .ok (.ifCond .eq 37, 3) := by decide +kernel
theorem dX12_countWays_81 : decode cX12_countWays 81 = .ok (.aload_n 0, 1) := by decide +kernel
theorem dX12_countWays_82 : decode cX12_countWays 82 = .ok (.iload 7, 2) := by decide +kernel
theorem dX12_countWays_84 : decode cX12_countWays 84 = .ok (.iload 8, 2) := by decide +kernel
theorem dX12_countWays_86 : decode cX12_countWays 86 = .ok (.invokevirtual 280, 3) := by decide +kernel
theorem dX12_countWays_89 : decode cX12_countWays 89 = .ok (.ifCond .eq 20, 3) := by decide +kernel
theorem dX12_countWays_92 : decode cX12_countWays 92 = .ok (.aload_n 0, 1) := by decide +kernel
theorem dX12_countWays_93 : decode cX12_countWays 93 = .ok (.getfield 58, 3) := by decide +kernel
theorem dX12_countWays_96 : decode cX12_countWays 96 = .ok (.iload 7, 2) := by decide +kernel
theorem dX12_countWays_98 : decode cX12_countWays 98 = .ok (.dup2, 1) := by decide +kernel
theorem dX12_countWays_99 : decode cX12_countWays 99 = .ok (.laload, 1) := by decide +kernel
theorem dX12_countWays_100 : decode cX12_countWays 100 = .ok (.aload_n 0, 1) := by decide +kernel
theorem dX12_countWays_101 : decode cX12_countWays 101 = .ok (.getfield 58, 3) := by decide +kernel
theorem dX12_countWays_104 : decode cX12_countWays 104 = .ok (.iload 8, 2) := by decide +kernel
theorem dX12_countWays_106 : decode cX12_countWays 106 = .ok (.laload, 1) := by decide +kernel
theorem dX12_countWays_107 : decode cX12_countWays 107 = .ok (.ladd, 1) := by decide +kernel
theorem dX12_countWays_108 : decode cX12_countWays 108 = .ok (.lastore, 1) := by decide +kernel
theorem dX12_countWays_109 : decode cX12_countWays 109 = .ok (.iinc 8 1, 3) := by decide +kernel
theorem dX12_countWays_112 : decode cX12_countWays 112 = .ok (.goto (-49), 3) := by decide +kernel
theorem dX12_countWays_115 : decode cX12_countWays 115 = .ok (.lload 4, 2) := by decide +kernel
theorem dX12_countWays_117 : decode cX12_countWays 117 = .ok (.aload_n 0, 1) := by decide +kernel
theorem dX12_countWays_118 : decode cX12_countWays 118 = .ok (.iload 7, 2) := by decide +kernel
theorem dX12_countWays_120 : decode cX12_countWays 120 = .ok (.invokevirtual 268, 3) := by decide +kernel
theorem dX12_countWays_123 : decode cX12_countWays 123 = .ok (.iload_n 2, 1) := by decide +kernel
theorem dX12_countWays_124 : decode cX12_countWays 124 = .ok (.if_icmp .ne 13, 3) := by decide +kernel
theorem dX12_countWays_127 : decode cX12_countWays 127 = .ok (.aload_n 0, 1) := by decide +kernel
theorem dX12_countWays_128 : decode cX12_countWays 128 = .ok (.getfield 58, 3) := by decide +kernel
theorem dX12_countWays_131 : decode cX12_countWays 131 = .ok (.iload 7, 2) := by decide +kernel
theorem dX12_countWays_133 : decode cX12_countWays 133 = .ok (.laload, 1) := by decide +kernel
theorem dX12_countWays_134 : decode cX12_countWays 134 = .ok (.goto 4, 3) := by decide +kernel
theorem dX12_countWays_137 : decode cX12_countWays 137 = .ok (.lconst 0, 1) := by decide +kernel
theorem dX12_countWays_138 : decode cX12_countWays 138 = .ok (.ladd, 1) := by decide +kernel
theorem dX12_countWays_139 : decode cX12_countWays 139 = .ok (.lstore 4, 2) := by decide +kernel
theorem dX12_countWays_141 : decode cX12_countWays 141 = .ok (.iinc 6 1, 3) := by decide +kernel
theorem dX12_countWays_144 : decode cX12_countWays 144 = .ok (.goto (-134), 3) := by decide +kernel
theorem dX12_countWays_147 : decode cX12_countWays 147 = .ok (.lload 4, 2) := by decide +kernel
theorem dX12_countWays_149 : decode cX12_countWays 149 = .ok (.lreturn, 1) := by decide +kernel
theorem dX12_ways_0 : decode cX12_ways 0 = .ok (.aload_n 0, 1) := by decide +kernel
theorem dX12_ways_1 : decode cX12_ways 1 = .ok (.iconst 0, 1) := by decide +kernel
theorem dX12_ways_2 : decode cX12_ways 2 = .ok (.putfield 96, 3) := by decide +kernel
theorem dX12_ways_5 : decode cX12_ways 5 = .ok (.aload_n 0, 1) := by decide +kernel
theorem dX12_ways_6 : decode cX12_ways 6 = .ok (.iload_n 1, 1) := by decide +kernel
theorem dX12_ways_7 : decode cX12_ways 7 = .ok (.iload_n 2, 1) := by decide +kernel
theorem dX12_ways_8 : decode cX12_ways 8 = .ok (.iload_n 3, 1) := by decide +kernel
theorem dX12_ways_9 : decode cX12_ways 9 = .ok (.invokevirtual 294, 3) := by decide +kernel
theorem dX12_ways_12 : decode cX12_ways 12 = .ok (.ifCond .eq 13, 3) := by decide +kernel
theorem dX12_ways_15 : decode cX12_ways 15 = .ok (.aload_n 0, 1) := by decide +kernel
theorem dX12_ways_16 : decode cX12_ways 16 = .ok (.iload_n 1, 1) := by decide +kernel
theorem dX12_ways_17 : decode cX12_ways 17 = .ok (.iload_n 2, 1) := by decide +kernel
theorem dX12_ways_18 : decode cX12_ways 18 = .ok (.iload_n 3, 1) := by decide +kernel
theorem dX12_ways_19 : decode cX12_ways 19 = .ok (.invokevirtual 308, 3) := by decide +kernel
theorem dX12_ways_22 : decode cX12_ways 22 = .ok (.goto 6, 3) := by decide +kernel
theorem dX12_ways_25 : decode cX12_ways 25 = .ok (.ldc2_w 312, 3) := by decide +kernel
theorem dX12_ways_28 : decode cX12_ways 28 = .ok (.lreturn, 1) := by decide +kernel
theorem dX12_needs_0 : decode cX12_needs 0 = .ok (.aload_n 0, 1) := by decide +kernel
theorem dX12_needs_1 : decode cX12_needs 1 = .ok (.iconst 0, 1) := by decide +kernel
theorem dX12_needs_2 : decode cX12_needs 2 = .ok (.putfield 96, 3) := by decide +kernel
theorem dX12_needs_5 : decode cX12_needs 5 = .ok (.aload_n 0, 1) := by decide +kernel
theorem dX12_needs_6 : decode cX12_needs 6 = .ok (.iload_n 1, 1) := by decide +kernel
theorem dX12_needs_7 : decode cX12_needs 7 = .ok (.iload_n 2, 1) := by decide +kernel
theorem dX12_needs_8 : decode cX12_needs 8 = .ok (.iload_n 3, 1) := by decide +kernel
theorem dX12_needs_9 : decode cX12_needs 9 = .ok (.invokevirtual 294, 3) := by decide +kernel
theorem dX12_needs_12 : decode cX12_needs 12 = .ok (.ifCond .ne 5, 3) := by decide +kernel
theorem dX12_needs_15 : decode cX12_needs 15 = .ok (.iconst (-1), 1) := by decide +kernel
theorem dX12_needs_16 : decode cX12_needs 16 = .ok (.ireturn, 1) := by decide +kernel
theorem dX12_needs_17 : decode cX12_needs 17 = .ok (.iconst 0, 1) := by decide +kernel
theorem dX12_needs_18 : decode cX12_needs 18 = .ok (.istore 4, 2) := by decide +kernel
theorem dX12_needs_20 : decode cX12_needs 20 = .ok (.aload_n 0, 1) := by decide +kernel
theorem dX12_needs_21 : decode cX12_needs 21 = .ok (.iload_n 1, 1) := by decide +kernel
theorem dX12_needs_22 : decode cX12_needs 22 = .ok (.iload_n 2, 1) := by decide +kernel
theorem dX12_needs_23 : decode cX12_needs 23 = .ok (.iload_n 3, 1) := by decide +kernel
theorem dX12_needs_24 : decode cX12_needs 24 = .ok (.invokevirtual 308, 3) := by decide +kernel
theorem dX12_needs_27 : decode cX12_needs 27 = .ok (.lconst 0, 1) := by decide +kernel
theorem dX12_needs_28 : decode cX12_needs 28 = .ok (.lcmp, 1) := by decide +kernel
theorem dX12_needs_29 : decode cX12_needs 29 = .ok (.ifCond .ne 5, 3) := by decide +kernel
theorem dX12_needs_32 : decode cX12_needs 32 = .ok (.iconst 0, 1) := by decide +kernel
theorem dX12_needs_33 : decode cX12_needs 33 = .ok (.ireturn, 1) := by decide +kernel
theorem dX12_needs_34 : decode cX12_needs 34 = .ok (.iconst 0, 1) := by decide +kernel
theorem dX12_needs_35 : decode cX12_needs 35 = .ok (.istore 5, 2) := by decide +kernel
theorem dX12_needs_37 : decode cX12_needs 37 = .ok (.iload 5, 2) := by decide +kernel
theorem dX12_needs_39 : decode cX12_needs 39 = .ok (.aload_n 0, 1) := by decide +kernel
theorem dX12_needs_40 : decode cX12_needs 40 = .ok (.getfield 109, 3) := by decide +kernel
theorem dX12_needs_43 : decode cX12_needs 43 = .ok (.if_icmp .ge 40, 3) := by decide +kernel
theorem dX12_needs_46 : decode cX12_needs 46 = .ok (.aload_n 0, 1) := by decide +kernel
theorem dX12_needs_47 : decode cX12_needs 47 = .ok (.iload 5, 2) := by decide +kernel
theorem dX12_needs_49 : decode cX12_needs 49 = .ok (.putfield 55, 3) := by decide +kernel
theorem dX12_needs_52 : decode cX12_needs 52 = .ok (.iload 4, 2) := by decide +kernel
theorem dX12_needs_54 : decode cX12_needs 54 = .ok (.aload_n 0, 1) := by decide +kernel
theorem dX12_needs_55 : decode cX12_needs 55 = .ok (.iload_n 1, 1) := by decide +kernel
theorem dX12_needs_56 : decode cX12_needs 56 = .ok (.iload_n 2, 1) := by decide +kernel
theorem dX12_needs_57 : decode cX12_needs 57 = .ok (.iload_n 3, 1) := by decide +kernel
theorem dX12_needs_58 : decode cX12_needs 58 = .ok (.invokevirtual 308, 3) := by decide +kernel
theorem dX12_needs_61 : decode cX12_needs 61 = .ok (.lconst 0, 1) := by decide +kernel
theorem dX12_needs_62 : decode cX12_needs 62 = .ok (.lcmp, 1) := by decide +kernel
theorem dX12_needs_63 : decode cX12_needs 63 = .ok (.ifCond .ne 10, 3) := by decide +kernel
theorem dX12_needs_66 : decode cX12_needs 66 = .ok (.iconst 1, 1) := by decide +kernel
theorem dX12_needs_67 : decode cX12_needs 67 = .ok (.iload 5, 2) := by decide +kernel
theorem dX12_needs_69 : decode cX12_needs 69 = .ok (.ishl, 1) := by decide +kernel
theorem dX12_needs_70 : decode cX12_needs 70 = .ok (.goto 4, 3) := by decide +kernel
theorem dX12_needs_73 : decode cX12_needs 73 = .ok (.iconst 0, 1) := by decide +kernel
theorem dX12_needs_74 : decode cX12_needs 74 = .ok (.ior, 1) := by decide +kernel
theorem dX12_needs_75 : decode cX12_needs 75 = .ok (.istore 4, 2) := by decide +kernel
theorem dX12_needs_77 : decode cX12_needs 77 = .ok (.iinc 5 1, 3) := by decide +kernel
theorem dX12_needs_80 : decode cX12_needs 80 = .ok (.goto (-43), 3) := by decide +kernel
theorem dX12_needs_83 : decode cX12_needs 83 = .ok (.aload_n 0, 1) := by decide +kernel
theorem dX12_needs_84 : decode cX12_needs 84 = .ok (.iconst (-1), 1) := by decide +kernel
theorem dX12_needs_85 : decode cX12_needs 85 = .ok (.putfield 55, 3) := by decide +kernel
theorem dX12_needs_88 : decode cX12_needs 88 = .ok (.iload 4, 2) := by decide +kernel
theorem dX12_needs_90 : decode cX12_needs 90 = .ok (.ireturn, 1) := by decide +kernel
theorem dX12_idle_0 : decode cX12_idle 0 = .ok (.aload_n 0, 1) := by decide +kernel
theorem dX12_idle_1 : decode cX12_idle 1 = .ok (.iconst 0, 1) := by decide +kernel
theorem dX12_idle_2 : decode cX12_idle 2 = .ok (.putfield 96, 3) := by decide +kernel
theorem dX12_idle_5 : decode cX12_idle 5 = .ok (.aload_n 0, 1) := by decide +kernel
theorem dX12_idle_6 : decode cX12_idle 6 = .ok (.iload_n 1, 1) := by decide +kernel
theorem dX12_idle_7 : decode cX12_idle 7 = .ok (.iload_n 2, 1) := by decide +kernel
theorem dX12_idle_8 : decode cX12_idle 8 = .ok (.iload_n 3, 1) := by decide +kernel
theorem dX12_idle_9 : decode cX12_idle 9 = .ok (.invokevirtual 294, 3) := by decide +kernel
theorem dX12_idle_12 : decode cX12_idle 12 = .ok (.ifCond .ne 5, 3) := by decide +kernel
theorem dX12_idle_15 : decode cX12_idle 15 = .ok (.iconst (-1), 1) := by decide +kernel
theorem dX12_idle_16 : decode cX12_idle 16 = .ok (.ireturn, 1) := by decide +kernel
theorem dX12_idle_17 : decode cX12_idle 17 = .ok (.aload_n 0, 1) := by decide +kernel
theorem dX12_idle_18 : decode cX12_idle 18 = .ok (.iload_n 1, 1) := by decide +kernel
theorem dX12_idle_19 : decode cX12_idle 19 = .ok (.iload_n 2, 1) := by decide +kernel
theorem dX12_idle_20 : decode cX12_idle 20 = .ok (.iload_n 3, 1) := by decide +kernel
theorem dX12_idle_21 : decode cX12_idle 21 = .ok (.invokevirtual 308, 3) := by decide +kernel
theorem dX12_idle_24 : decode cX12_idle 24 = .ok (.lstore 4, 2) := by decide +kernel
theorem dX12_idle_26 : decode cX12_idle 26 = .ok (.iconst 0, 1) := by decide +kernel
theorem dX12_idle_27 : decode cX12_idle 27 = .ok (.istore 6, 2) := by decide +kernel
theorem dX12_idle_29 : decode cX12_idle 29 = .ok (.iconst 0, 1) := by decide +kernel
theorem dX12_idle_30 : decode cX12_idle 30 = .ok (.istore 7, 2) := by decide +kernel
theorem dX12_idle_32 : decode cX12_idle 32 = .ok (.iload 7, 2) := by decide +kernel
theorem dX12_idle_34 : decode cX12_idle 34 = .ok (.aload_n 0, 1) := by decide +kernel
theorem dX12_idle_35 : decode cX12_idle 35 = .ok (.getfield 102, 3) := by decide +kernel
theorem dX12_idle_38 : decode cX12_idle 38 = .ok (.if_icmp .ge 56, 3) := by decide +kernel
theorem dX12_idle_41 : decode cX12_idle 41 = .ok (.iload 7, 2) := by decide +kernel
theorem dX12_idle_43 : decode cX12_idle 43 = .ok (.iload_n 1, 1) := by decide +kernel
theorem dX12_idle_44 : decode cX12_idle 44 = .ok (.if_icmp .eq 44, 3) := by decide +kernel
theorem dX12_idle_47 : decode cX12_idle 47 = .ok (.iload 7, 2) := by decide +kernel
theorem dX12_idle_49 : decode cX12_idle 49 = .ok (.iload_n 2, 1) := by decide +kernel
theorem dX12_idle_50 : decode cX12_idle 50 = .ok (.if_icmp .ne 6, 3) := by decide +kernel
theorem dX12_idle_53 : decode cX12_idle 53 = .ok (.goto 35, 3) := by decide +kernel
theorem dX12_idle_56 : decode cX12_idle 56 = .ok (.aload_n 0, 1) := by decide +kernel
theorem dX12_idle_57 : decode cX12_idle 57 = .ok (.iload 7, 2) := by decide +kernel
theorem dX12_idle_59 : decode cX12_idle 59 = .ok (.putfield 62, 3) := by decide +kernel
theorem dX12_idle_62 : decode cX12_idle 62 = .ok (.iload 6, 2) := by decide +kernel
theorem dX12_idle_64 : decode cX12_idle 64 = .ok (.aload_n 0, 1) := by decide +kernel
theorem dX12_idle_65 : decode cX12_idle 65 = .ok (.iload_n 1, 1) := by decide +kernel
theorem dX12_idle_66 : decode cX12_idle 66 = .ok (.iload_n 2, 1) := by decide +kernel
theorem dX12_idle_67 : decode cX12_idle 67 = .ok (.iload_n 3, 1) := by decide +kernel
theorem dX12_idle_68 : decode cX12_idle 68 = .ok (.invokevirtual 308, 3) := by decide +kernel
theorem dX12_idle_71 : decode cX12_idle 71 = .ok (.lload 4, 2) := by decide +kernel
theorem dX12_idle_73 : decode cX12_idle 73 = .ok (.lcmp, 1) := by decide +kernel
theorem dX12_idle_74 : decode cX12_idle 74 = .ok (.ifCond .ne 10, 3) := by decide +kernel
theorem dX12_idle_77 : decode cX12_idle 77 = .ok (.iconst 1, 1) := by decide +kernel
theorem dX12_idle_78 : decode cX12_idle 78 = .ok (.iload 7, 2) := by decide +kernel
theorem dX12_idle_80 : decode cX12_idle 80 = .ok (.ishl, 1) := by decide +kernel
theorem dX12_idle_81 : decode cX12_idle 81 = .ok (.goto 4, 3) := by decide +kernel
theorem dX12_idle_84 : decode cX12_idle 84 = .ok (.iconst 0, 1) := by decide +kernel
theorem dX12_idle_85 : decode cX12_idle 85 = .ok (.ior, 1) := by decide +kernel
theorem dX12_idle_86 : decode cX12_idle 86 = .ok (.istore 6, 2) := by decide +kernel
theorem dX12_idle_88 : decode cX12_idle 88 = .ok (.iinc 7 1, 3) := by decide +kernel
theorem dX12_idle_91 : decode cX12_idle 91 = .ok (.goto (-59), 3) := by decide +kernel
theorem dX12_idle_94 : decode cX12_idle 94 = .ok (.aload_n 0, 1) := by decide +kernel
theorem dX12_idle_95 : decode cX12_idle 95 = .ok (.iconst (-1), 1) := by decide +kernel
theorem dX12_idle_96 : decode cX12_idle 96 = .ok (.putfield 62, 3) := by decide +kernel
theorem dX12_idle_99 : decode cX12_idle 99 = .ok (.iload 6, 2) := by decide +kernel
theorem dX12_idle_101 : decode cX12_idle 101 = .ok (.ireturn, 1) := by decide +kernel
theorem dX12_longest_0 : decode cX12_longest 0 = .ok (.aload_n 0, 1) := by decide +kernel
theorem dX12_longest_1 : decode cX12_longest 1 = .ok (.iconst 0, 1) := by decide +kernel
theorem dX12_longest_2 : decode cX12_longest 2 = .ok (.putfield 96, 3) := by decide +kernel
theorem dX12_longest_5 : decode cX12_longest 5 = .ok (.aload_n 0, 1) := by decide +kernel
theorem dX12_longest_6 : decode cX12_longest 6 = .ok (.iload_n 1, 1) := by decide +kernel
theorem dX12_longest_7 : decode cX12_longest 7 = .ok (.iload_n 2, 1) := by decide +kernel
theorem dX12_longest_8 : decode cX12_longest 8 = .ok (.iload_n 3, 1) := by decide +kernel
theorem dX12_longest_9 : decode cX12_longest 9 = .ok (.invokevirtual 294, 3) := by decide +kernel
theorem dX12_longest_12 : decode cX12_longest 12 = .ok (.ifCond .ne 5, 3) := by decide +kernel
theorem dX12_longest_15 : decode cX12_longest 15 = .ok (.iconst (-1), 1) := by decide +kernel
theorem dX12_longest_16 : decode cX12_longest 16 = .ok (.ireturn, 1) := by decide +kernel
theorem dX12_longest_17 : decode cX12_longest 17 = .ok (.aload_n 0, 1) := by decide +kernel
theorem dX12_longest_18 : decode cX12_longest 18 = .ok (.invokevirtual 271, 3) := by decide +kernel
theorem dX12_longest_21 : decode cX12_longest 21 = .ok (.aload_n 0, 1) := by decide +kernel
theorem dX12_longest_22 : decode cX12_longest 22 = .ok (.getfield 262, 3) := by decide +kernel
theorem dX12_longest_25 : decode cX12_longest 25 = .ok (.iconst 1, 1) := by decide +kernel
theorem dX12_longest_26 : decode cX12_longest 26 = .ok (.isub, 1) := by decide +kernel
theorem dX12_longest_27 : decode cX12_longest 27 = .ok (.istore 4, 2) := by decide +kernel
theorem dX12_longest_29 : decode cX12_longest 29 = .ok (.iload 4, 2) := by decide +kernel
theorem dX12_longest_31 : decode cX12_longest 31 = .ok (.ifCond .lt 105, 3) := by decide +kernel
theorem dX12_longest_34 : decode cX12_longest 34 = .ok (.aload_n 0, 1) := by decide +kernel
theorem dX12_longest_35 : decode cX12_longest 35 = .ok (.getfield 41, 3) := by decide +kernel
theorem dX12_longest_38 : decode cX12_longest 38 = .ok (.iload 4, 2) := by decide +kernel
theorem dX12_longest_40 : decode cX12_longest 40 = .ok (.iaload, 1) := by decide +kernel
theorem dX12_longest_41 : decode cX12_longest 41 = .ok (.istore 5, 2) := by decide +kernel
theorem dX12_longest_43 : decode cX12_longest 43 = .ok (.aload_n 0, 1) := by decide +kernel
theorem dX12_longest_44 : decode cX12_longest 44 = .ok (.getfield 47, 3) := by decide +kernel
theorem dX12_longest_47 : decode cX12_longest 47 = .ok (.iload 5, 2) := by decide +kernel
theorem dX12_longest_49 : decode cX12_longest 49 = .ok (.aload_n 0, 1) := by decide +kernel
theorem dX12_longest_50 : decode cX12_longest 50 = .ok (.iload 5, 2) := by decide +kernel
theorem dX12_longest_52 : decode cX12_longest 52 = .ok (.invokevirtual 268, 3) := by decide +kernel
theorem dX12_longest_55 : decode cX12_longest 55 = .ok (.iload_n 2, 1) := by decide +kernel
theorem dX12_longest_56 : decode cX12_longest 56 = .ok (.if_icmp .ne 7, 3) := by decide +kernel
theorem dX12_longest_59 : decode cX12_longest 59 = .ok (.iconst 1, 1) := by decide +kernel
theorem dX12_longest_60 : decode cX12_longest 60 = .ok (.goto 4, 3) := by decide +kernel
theorem dX12_longest_63 : decode cX12_longest 63 = .ok (.iconst 0, 1) := by decide +kernel
theorem dX12_longest_64 : decode cX12_longest 64 = .ok (.iastore, 1) := by decide +kernel
theorem dX12_longest_65 : decode cX12_longest 65 = .ok (.iconst 0, 1) := by decide +kernel
theorem dX12_longest_66 : decode cX12_longest 66 = .ok (.istore 6, 2) := by decide +kernel
theorem dX12_longest_68 : decode cX12_longest 68 = .ok (.iload 6, 2) := by decide +kernel
theorem dX12_longest_70 : decode cX12_longest 70 = .ok (.aload_n 0, 1) := by decide +kernel
theorem dX12_longest_71 : decode cX12_longest 71 = .ok (.getfield 262, 3) := by decide +kernel
theorem dX12_longest_74 : decode cX12_longest 74 = .ok (.if_icmp .ge 56, 3) := by decide +kernel
theorem dX12_longest_77 : decode cX12_longest 77 = .ok (.aload_n 0, 1) := by decide +kernel
theorem dX12_longest_78 : decode cX12_longest 78 = .ok (.iload 6, 2) := by decide +kernel
theorem dX12_longest_80 : decode cX12_longest 80 = .ok (.iload 5, 2) := by decide +kernel
theorem dX12_longest_82 : decode cX12_longest 82 = .ok (.invokevirtual 280, 3) := by decide +kernel
theorem dX12_longest_85 : decode cX12_longest 85 = .ok (.ifCond .eq 39, 3) := by decide +kernel
theorem dX12_longest_88 : decode cX12_longest 88 = .ok (.aload_n 0, 1) := by decide +kernel
theorem dX12_longest_89 : decode cX12_longest 89 = .ok (.getfield 47, 3) := by decide +kernel
theorem dX12_longest_92 : decode cX12_longest 92 = .ok (.iload 6, 2) := by decide +kernel
theorem dX12_longest_94 : decode cX12_longest 94 = .ok (.iaload, 1) := by decide +kernel
theorem dX12_longest_95 : decode cX12_longest 95 = .ok (.ifCond .le 29, 3) := by decide +kernel
theorem dX12_longest_98 : decode cX12_longest 98 = .ok (.aload_n 0, 1) := by decide +kernel
theorem dX12_longest_99 : decode cX12_longest 99 = .ok (.getfield 47, 3) := by decide +kernel
theorem dX12_longest_102 : decode cX12_longest 102 = .ok (.iload 5, 2) := by decide +kernel
theorem dX12_longest_104 : decode cX12_longest 104 = .ok (.aload_n 0, 1) := by decide +kernel
theorem dX12_longest_105 : decode cX12_longest 105 = .ok (.getfield 47, 3) := by decide +kernel
theorem dX12_longest_108 : decode cX12_longest 108 = .ok (.iload 5, 2) := by decide +kernel
theorem dX12_longest_110 : decode cX12_longest 110 = .ok (.iaload, 1) := by decide +kernel
theorem dX12_longest_111 : decode cX12_longest 111 = .ok (.aload_n 0, 1) := by decide +kernel
theorem dX12_longest_112 : decode cX12_longest 112 = .ok (.getfield 47, 3) := by decide +kernel
theorem dX12_longest_115 : decode cX12_longest 115 = .ok (.iload 6, 2) := by decide +kernel
theorem dX12_longest_117 : decode cX12_longest 117 = .ok (.iaload, 1) := by decide +kernel
theorem dX12_longest_118 : decode cX12_longest 118 = .ok (.iconst 1, 1) := by decide +kernel
theorem dX12_longest_119 : decode cX12_longest 119 = .ok (.iadd, 1) := by decide +kernel
theorem dX12_longest_120 : decode cX12_longest 120 = .ok (.invokestatic 213, 3) := by decide +kernel
theorem dX12_longest_123 : decode cX12_longest 123 = .ok (.iastore, 1) := by decide +kernel
theorem dX12_longest_124 : decode cX12_longest 124 = .ok (.iinc 6 1, 3) := by decide +kernel
theorem dX12_longest_127 : decode cX12_longest 127 = .ok (.goto (-59), 3) := by decide +kernel
theorem dX12_longest_130 : decode cX12_longest 130 = .ok (.iinc 4 (-1), 3) := by decide +kernel
theorem dX12_longest_133 : decode cX12_longest 133 = .ok (.goto (-104), 3) := by decide +kernel
theorem dX12_longest_136 : decode cX12_longest 136 = .ok (.iconst 0, 1) := by decide +kernel
theorem dX12_longest_137 : decode cX12_longest 137 = .ok (.istore 4, 2) := by decide +kernel
theorem dX12_longest_139 : decode cX12_longest 139 = .ok (.iconst 0, 1) := by decide +kernel
theorem dX12_longest_140 : decode cX12_longest 140 = .ok (.istore 5, 2) := by decide +kernel
theorem dX12_longest_142 : decode cX12_longest 142 = .ok (.iload 5, 2) := by decide +kernel
theorem dX12_longest_144 : decode cX12_longest 144 = .ok (.aload_n 0, 1) := by decide +kernel
theorem dX12_longest_145 : decode cX12_longest 145 = .ok (.getfield 262, 3) := by decide +kernel
theorem dX12_longest_148 : decode cX12_longest 148 = .ok (.if_icmp .ge 34, 3) := by decide +kernel
theorem dX12_longest_151 : decode cX12_longest 151 = .ok (.aload_n 0, 1) := by decide +kernel
theorem dX12_longest_152 : decode cX12_longest 152 = .ok (.iload 5, 2) := by decide +kernel
theorem dX12_longest_154 : decode cX12_longest 154 = .ok (.iload_n 1, 1) := by decide +kernel
theorem dX12_longest_155 : decode cX12_longest 155 = .ok (.iload_n 3, 1) := by decide +kernel
theorem dX12_longest_156 : decode cX12_longest 156 = .ok (.invokevirtual 291, 3) := by decide +kernel
theorem dX12_longest_159 : decode cX12_longest 159 = .ok (.ifCond .eq 17, 3) := by decide +kernel
theorem dX12_longest_162 : decode cX12_longest 162 = .ok (.iload 4, 2) := by decide +kernel
theorem dX12_longest_164 : decode cX12_longest 164 = .ok (.aload_n 0, 1) := by decide +kernel
theorem dX12_longest_165 : decode cX12_longest 165 = .ok (.getfield 47, 3) := by decide +kernel
theorem dX12_longest_168 : decode cX12_longest 168 = .ok (.iload 5, 2) := by decide +kernel
theorem dX12_longest_170 : decode cX12_longest 170 = .ok (.iaload, 1) := by decide +kernel
theorem dX12_longest_171 : decode cX12_longest 171 = .ok (.invokestatic 213, 3) := by decide +kernel
theorem dX12_longest_174 : decode cX12_longest 174 = .ok (.istore 4, 2) := by decide +kernel
theorem dX12_longest_176 : decode cX12_longest 176 = .ok (.iinc 5 1, 3) := by decide +kernel
theorem dX12_longest_179 : decode cX12_longest 179 = .ok (.goto (-37), 3) := by decide +kernel
theorem dX12_longest_182 : decode cX12_longest 182 = .ok (.iload 4, 2) := by decide +kernel
theorem dX12_longest_184 : decode cX12_longest 184 = .ok (.ifCond .ne 6, 3) := by decide +kernel
theorem dX12_longest_187 : decode cX12_longest 187 = .ok (.bipush (-2), 2) := by decide +kernel
theorem dX12_longest_189 : decode cX12_longest 189 = .ok (.ireturn, 1) := by decide +kernel
theorem dX12_longest_190 : decode cX12_longest 190 = .ok (.iconst (-1), 1) := by decide +kernel
theorem dX12_longest_191 : decode cX12_longest 191 = .ok (.istore 5, 2) := by decide +kernel
theorem dX12_longest_193 : decode cX12_longest 193 = .ok (.aload_n 0, 1) := by decide +kernel
theorem dX12_longest_194 : decode cX12_longest 194 = .ok (.iconst 0, 1) := by decide +kernel
theorem dX12_longest_195 : decode cX12_longest 195 = .ok (.putfield 99, 3) := by decide +kernel
theorem dX12_longest_198 : decode cX12_longest 198 = .ok (.iload 4, 2) := by decide +kernel
theorem dX12_longest_200 : decode cX12_longest 200 = .ok (.istore 6, 2) := by decide +kernel
theorem dX12_longest_202 : decode cX12_longest 202 = .ok (.iload 6, 2) := by decide +kernel
theorem dX12_longest_204 : decode cX12_longest 204 = .ok (.ifCond .le 115, 3) := by decide +kernel
theorem dX12_longest_207 : decode cX12_longest 207 = .ok (.iconst (-1), 1) := by decide +kernel
theorem dX12_longest_208 : decode cX12_longest 208 = .ok (.istore 7, 2) := by decide +kernel
theorem dX12_longest_210 : decode cX12_longest 210 = .ok (.iconst 0, 1) := by decide +kernel
theorem dX12_longest_211 : decode cX12_longest 211 = .ok (.istore 8, 2) := by decide +kernel
theorem dX12_longest_213 : decode cX12_longest 213 = .ok (.iload 8, 2) := by decide +kernel
theorem dX12_longest_215 : decode cX12_longest 215 = .ok (.aload_n 0, 1) := by decide +kernel
theorem dX12_longest_216 : decode cX12_longest 216 = .ok (.getfield 262, 3) := by decide +kernel
theorem dX12_longest_219 : decode cX12_longest 219 = .ok (.if_icmp .ge 73, 3) := by decide +kernel
theorem dX12_longest_222 : decode cX12_longest 222 = .ok (.iload 5, 2) := by decide +kernel
theorem dX12_longest_224 : decode cX12_longest 224 = .ok (.iconst (-1), 1) := by decide +kernel
theorem dX12_longest_225 : decode cX12_longest 225 = .ok (.if_icmp .ne 17, 3) := by decide +kernel
theorem dX12_longest_228 : decode cX12_longest 228 = .ok (.aload_n 0, 1) := by decide +kernel
theorem dX12_longest_229 : decode cX12_longest 229 = .ok (.iload 8, 2) := by decide +kernel
theorem dX12_longest_231 : decode cX12_longest 231 = .ok (.iload_n 1, 1) := by decide +kernel
theorem dX12_longest_232 : decode cX12_longest 232 = .ok (.iload_n 3, 1) := by decide +kernel
theorem dX12_longest_233 : decode cX12_longest 233 = .ok (.invokevirtual 291, 3) := by decide +kernel
theorem dX12_longest_236 : decode cX12_longest 236 = .ok (.ifCond .eq 50, 3) := by decide +kernel
theorem dX12_longest_239 : decode cX12_longest 239 = .ok (.goto 14, 3) := by decide +kernel
theorem dX12_longest_242 : decode cX12_longest 242 = .ok (.aload_n 0, 1) := by decide +kernel
theorem dX12_longest_243 : decode cX12_longest 243 = .ok (.iload 8, 2) := by decide +kernel
theorem dX12_longest_245 : decode cX12_longest 245 = .ok (.iload 5, 2) := by decide +kernel
theorem dX12_longest_247 : decode cX12_longest 247 = .ok (.invokevirtual 280, 3) := by decide +kernel
theorem dX12_longest_250 : decode cX12_longest 250 = .ok (.ifCond .eq 36, 3) := by decide +kernel
theorem dX12_longest_253 : decode cX12_longest 253 = .ok (.aload_n 0, 1) := by decide +kernel
theorem dX12_longest_254 : decode cX12_longest 254 = .ok (.getfield 47, 3) := by decide +kernel
theorem dX12_longest_257 : decode cX12_longest 257 = .ok (.iload 8, 2) := by decide +kernel
theorem dX12_longest_259 : decode cX12_longest 259 = .ok (.iaload, 1) := by decide +kernel
theorem dX12_longest_260 : decode cX12_longest 260 = .ok (.iload 6, 2) := by decide +kernel
theorem dX12_longest_262 : decode cX12_longest 262 = .ok (.if_icmp .ne 24, 3) := by decide +kernel
theorem dX12_longest_265 : decode cX12_longest 265 = .ok (.iload 7, 2) := by decide +kernel
theorem dX12_longest_267 : decode cX12_longest 267 = .ok (.iconst (-1), 1) := by decide +kernel
theorem dX12_longest_268 : decode cX12_longest 268 = .ok (.if_icmp .eq 14, 3) := by decide +kernel
theorem dX12_longest_271 : decode cX12_longest 271 = .ok (.iload 8, 2) := by decide +kernel
theorem dX12_longest_273 : decode cX12_longest 273 = .ok (.iconst 2, 1) := by decide +kernel
theorem dX12_longest_274 : decode cX12_longest 274 = .ok (.idiv, 1) := by decide +kernel
theorem dX12_longest_275 : decode cX12_longest 275 = .ok (.iload 7, 2) := by decide +kernel
theorem dX12_longest_277 : decode cX12_longest 277 = .ok (.iconst 2, 1) := by decide +kernel
theorem dX12_longest_278 : decode cX12_longest 278 = .ok (.idiv, 1) := by decide +kernel
theorem dX12_longest_279 : decode cX12_longest 279 = .ok (.if_icmp .ge 7, 3) := by decide +kernel
theorem dX12_longest_282 : decode cX12_longest 282 = .ok (.iload 8, 2) := by decide +kernel
theorem dX12_longest_284 : decode cX12_longest 284 = .ok (.istore 7, 2) := by decide +kernel
theorem dX12_longest_286 : decode cX12_longest 286 = .ok (.iinc 8 1, 3) := by decide +kernel
theorem dX12_longest_289 : decode cX12_longest 289 = .ok (.goto (-76), 3) := by decide +kernel
theorem dX12_longest_292 : decode cX12_longest 292 = .ok (.aload_n 0, 1) := by decide +kernel
theorem dX12_longest_293 : decode cX12_longest 293 = .ok (.getfield 99, 3) := by decide +kernel
theorem dX12_longest_296 : decode cX12_longest 296 = .ok (.bipush 12, 2) := by decide +kernel
theorem dX12_longest_298 : decode cX12_longest 298 = .ok (.if_icmp .ge 11, 3) := by decide +kernel
theorem dX12_longest_301 : decode cX12_longest 301 = .ok (.aload_n 0, 1) := by decide +kernel
theorem dX12_longest_302 : decode cX12_longest 302 = .ok (.iload 7, 2) := by decide +kernel
theorem dX12_longest_304 : decode cX12_longest 304 = .ok (.iconst 2, 1) := by decide +kernel
theorem dX12_longest_305 : decode cX12_longest 305 = .ok (.idiv, 1) := by decide +kernel
theorem dX12_longest_306 : decode cX12_longest 306 = .ok (.invokevirtual 250, 3) := by decide +kernel
theorem dX12_longest_309 : decode cX12_longest 309 = .ok (.iload 7, 2) := by decide +kernel
theorem dX12_longest_311 : decode cX12_longest 311 = .ok (.istore 5, 2) := by decide +kernel
theorem dX12_longest_313 : decode cX12_longest 313 = .ok (.iinc 6 (-1), 3) := by decide +kernel
theorem dX12_longest_316 : decode cX12_longest 316 = .ok (.goto (-114), 3) := by decide +kernel
theorem dX12_longest_319 : decode cX12_longest 319 = .ok (.iload 4, 2) := by decide +kernel
theorem dX12_longest_321 : decode cX12_longest 321 = .ok (.ireturn, 1) := by decide +kernel
theorem dX12_pairs_0 : decode cX12_pairs 0 = .ok (.aload_n 0, 1) := by decide +kernel
theorem dX12_pairs_1 : decode cX12_pairs 1 = .ok (.iconst 0, 1) := by decide +kernel
theorem dX12_pairs_2 : decode cX12_pairs 2 = .ok (.putfield 96, 3) := by decide +kernel
theorem dX12_pairs_5 : decode cX12_pairs 5 = .ok (.iload_n 1, 1) := by decide +kernel
theorem dX12_pairs_6 : decode cX12_pairs 6 = .ok (.invokestatic 221, 3) := by decide +kernel
theorem dX12_pairs_9 : decode cX12_pairs 9 = .ok (.ifCond .ne 5, 3) := by decide +kernel
theorem dX12_pairs_12 : decode cX12_pairs 12 = .ok (.iconst (-1), 1) := by decide +kernel
theorem dX12_pairs_13 : decode cX12_pairs 13 = .ok (.ireturn, 1) := by decide +kernel
theorem dX12_pairs_14 : decode cX12_pairs 14 = .ok (.aload_n 0, 1) := by decide +kernel
theorem dX12_pairs_15 : decode cX12_pairs 15 = .ok (.iconst 0, 1) := by decide +kernel
theorem dX12_pairs_16 : decode cX12_pairs 16 = .ok (.putfield 277, 3) := by decide +kernel
theorem dX12_pairs_19 : decode cX12_pairs 19 = .ok (.iconst 0, 1) := by decide +kernel
theorem dX12_pairs_20 : decode cX12_pairs 20 = .ok (.istore_n 2, 1) := by decide +kernel
theorem dX12_pairs_21 : decode cX12_pairs 21 = .ok (.iconst 0, 1) := by decide +kernel
theorem dX12_pairs_22 : decode cX12_pairs 22 = .ok (.istore_n 3, 1) := by decide +kernel
theorem dX12_pairs_23 : decode cX12_pairs 23 = .ok (.iconst 0, 1) := by decide +kernel
theorem dX12_pairs_24 : decode cX12_pairs 24 = .ok (.istore 4, 2) := by decide +kernel
theorem dX12_pairs_26 : decode cX12_pairs 26 = .ok (.iconst (-1), 1) := by decide +kernel
theorem dX12_pairs_27 : decode cX12_pairs 27 = .ok (.istore 5, 2) := by decide +kernel
theorem dX12_pairs_29 : decode cX12_pairs 29 = .ok (.iconst 0, 1) := by decide +kernel
theorem dX12_pairs_30 : decode cX12_pairs 30 = .ok (.istore 6, 2) := by decide +kernel
theorem dX12_pairs_32 : decode cX12_pairs 32 = .ok (.iload 6, 2) := by decide +kernel
theorem dX12_pairs_34 : decode cX12_pairs 34 = .ok (.aload_n 0, 1) := by decide +kernel
theorem dX12_pairs_35 : decode cX12_pairs 35 = .ok (.getfield 102, 3) := by decide +kernel
theorem dX12_pairs_38 : decode cX12_pairs 38 = .ok (.if_icmp .ge 84, 3) := by decide +kernel
theorem dX12_pairs_41 : decode cX12_pairs 41 = .ok (.iconst 0, 1) := by decide +kernel
theorem dX12_pairs_42 : decode cX12_pairs 42 = .ok (.istore 7, 2) := by decide +kernel
theorem dX12_pairs_44 : decode cX12_pairs 44 = .ok (.iload 7, 2) := by decide +kernel
theorem dX12_pairs_46 : decode cX12_pairs 46 = .ok (.aload_n 0, 1) := by decide +kernel
theorem dX12_pairs_47 : decode cX12_pairs 47 = .ok (.getfield 102, 3) := by decide +kernel
theorem dX12_pairs_50 : decode cX12_pairs 50 = .ok (.if_icmp .ge 66, 3) := by decide +kernel
theorem dX12_pairs_53 : decode cX12_pairs 53 = .ok (.iload 6, 2) := by decide +kernel
theorem dX12_pairs_55 : decode cX12_pairs 55 = .ok (.iload 7, 2) := by decide +kernel
theorem dX12_pairs_57 : decode cX12_pairs 57 = .ok (.if_icmp .ne 8, 3) := by decide +kernel
theorem dX12_pairs_60 : decode cX12_pairs 60 = .ok (.ldc 50, 2) := by decide +kernel
theorem dX12_pairs_62 : decode cX12_pairs 62 = .ok (.goto 12, 3) := by decide +kernel
theorem dX12_pairs_65 : decode cX12_pairs 65 = .ok (.aload_n 0, 1) := by decide +kernel
theorem dX12_pairs_66 : decode cX12_pairs 66 = .ok (.iload 6, 2) := by decide +kernel
theorem dX12_pairs_68 : decode cX12_pairs 68 = .ok (.iload 7, 2) := by decide +kernel
theorem dX12_pairs_70 : decode cX12_pairs 70 = .ok (.iload_n 1, 1) := by decide +kernel
theorem dX12_pairs_71 : decode cX12_pairs 71 = .ok (.invokevirtual 301, 3) := by decide +kernel
theorem dX12_pairs_74 : decode cX12_pairs 74 = .ok (.istore 8, 2) := by decide +kernel
theorem dX12_pairs_76 : decode cX12_pairs 76 = .ok (.iload 8, 2) := by decide +kernel
theorem dX12_pairs_78 : decode cX12_pairs 78 = .ok (.ldc 50, 2) := by decide +kernel
theorem dX12_pairs_80 : decode cX12_pairs 80 = .ok (.if_icmp .lt 6, 3) := by decide +kernel
theorem dX12_pairs_83 : decode cX12_pairs 83 = .ok (.goto 27, 3) := by decide +kernel
theorem dX12_pairs_86 : decode cX12_pairs 86 = .ok (.iinc 2 1, 3) := by decide +kernel
theorem dX12_pairs_89 : decode cX12_pairs 89 = .ok (.iload 8, 2) := by decide +kernel
theorem dX12_pairs_91 : decode cX12_pairs 91 = .ok (.iload 5, 2) := by decide +kernel
theorem dX12_pairs_93 : decode cX12_pairs 93 = .ok (.if_icmp .gt 6, 3) := by decide +kernel
theorem dX12_pairs_96 : decode cX12_pairs 96 = .ok (.goto 14, 3) := by decide +kernel
theorem dX12_pairs_99 : decode cX12_pairs 99 = .ok (.iload 6, 2) := by decide +kernel
theorem dX12_pairs_101 : decode cX12_pairs 101 = .ok (.istore_n 3, 1) := by decide +kernel
theorem dX12_pairs_102 : decode cX12_pairs 102 = .ok (.iload 7, 2) := by decide +kernel
theorem dX12_pairs_104 : decode cX12_pairs 104 = .ok (.istore 4, 2) := by decide +kernel
theorem dX12_pairs_106 : decode cX12_pairs 106 = .ok (.iload 8, 2) := by decide +kernel
theorem dX12_pairs_108 : decode cX12_pairs 108 = .ok (.istore 5, 2) := by decide +kernel
theorem dX12_pairs_110 : decode cX12_pairs 110 = .ok (.iinc 7 1, 3) := by decide +kernel
theorem dX12_pairs_113 : decode cX12_pairs 113 = .ok (.goto (-69), 3) := by decide +kernel
theorem dX12_pairs_116 : decode cX12_pairs 116 = .ok (.iinc 6 1, 3) := by decide +kernel
theorem dX12_pairs_119 : decode cX12_pairs 119 = .ok (.goto (-87), 3) := by decide +kernel
theorem dX12_pairs_122 : decode cX12_pairs 122 = .ok (.aload_n 0, 1) := by decide +kernel
theorem dX12_pairs_123 : decode cX12_pairs 123 = .ok (.iconst 0, 1) := by decide +kernel
theorem dX12_pairs_124 : decode cX12_pairs 124 = .ok (.putfield 99, 3) := by decide +kernel
theorem dX12_pairs_127 : decode cX12_pairs 127 = .ok (.iload_n 2, 1) := by decide +kernel
theorem dX12_pairs_128 : decode cX12_pairs 128 = .ok (.ifCond .le 20, 3) := by decide +kernel
theorem dX12_pairs_131 : decode cX12_pairs 131 = .ok (.aload_n 0, 1) := by decide +kernel
theorem dX12_pairs_132 : decode cX12_pairs 132 = .ok (.iload_n 3, 1) := by decide +kernel
theorem dX12_pairs_133 : decode cX12_pairs 133 = .ok (.invokevirtual 250, 3) := by decide +kernel
theorem dX12_pairs_136 : decode cX12_pairs 136 = .ok (.aload_n 0, 1) := by decide +kernel
theorem dX12_pairs_137 : decode cX12_pairs 137 = .ok (.iload 4, 2) := by decide +kernel
theorem dX12_pairs_139 : decode cX12_pairs 139 = .ok (.invokevirtual 250, 3) := by decide +kernel
theorem dX12_pairs_142 : decode cX12_pairs 142 = .ok (.aload_n 0, 1) := by decide +kernel
theorem dX12_pairs_143 : decode cX12_pairs 143 = .ok (.iload 5, 2) := by decide +kernel
theorem dX12_pairs_145 : decode cX12_pairs 145 = .ok (.invokevirtual 250, 3) := by decide +kernel
theorem dX12_pairs_148 : decode cX12_pairs 148 = .ok (.iload_n 2, 1) := by decide +kernel
theorem dX12_pairs_149 : decode cX12_pairs 149 = .ok (.ireturn, 1) := by decide +kernel
theorem dX12_bargain_0 : decode cX12_bargain 0 = .ok (.aload_n 0, 1) := by decide +kernel
theorem dX12_bargain_1 : decode cX12_bargain 1 = .ok (.iconst 0, 1) := by decide +kernel
theorem dX12_bargain_2 : decode cX12_bargain 2 = .ok (.putfield 96, 3) := by decide +kernel
theorem dX12_bargain_5 : decode cX12_bargain 5 = .ok (.aload_n 0, 1) := by decide +kernel
theorem dX12_bargain_6 : decode cX12_bargain 6 = .ok (.iload_n 1, 1) := by decide +kernel
theorem dX12_bargain_7 : decode cX12_bargain 7 = .ok (.iload_n 2, 1) := by decide +kernel
theorem dX12_bargain_8 : decode cX12_bargain 8 = .ok (.iload_n 3, 1) := by decide +kernel
theorem dX12_bargain_9 : decode cX12_bargain 9 = .ok (.invokevirtual 294, 3) := by decide +kernel
theorem dX12_bargain_12 : decode cX12_bargain 12 = .ok (.ifCond .eq 11, 3) := by decide +kernel
theorem dX12_bargain_15 : decode cX12_bargain 15 = .ok (.iload 4, 2) := by decide +kernel
theorem dX12_bargain_17 : decode cX12_bargain 17 = .ok (.invokestatic 221, 3) := by decide +kernel
theorem dX12_bargain_20 : decode cX12_bargain 20 = .ok (.ifCond .ne 5, 3) := by decide +kernel
theorem dX12_bargain_23 : decode cX12_bargain 23 = .ok (.iconst (-1), 1) := by decide +kernel
theorem dX12_bargain_24 : decode cX12_bargain 24 = .ok (.ireturn, 1) := by decide +kernel
theorem dX12_bargain_25 : decode cX12_bargain 25 = .ok (.aload_n 0, 1) := by decide +kernel
theorem dX12_bargain_26 : decode cX12_bargain 26 = .ok (.iconst 0, 1) := by decide +kernel
theorem dX12_bargain_27 : decode cX12_bargain 27 = .ok (.putfield 277, 3) := by decide +kernel
theorem dX12_bargain_30 : decode cX12_bargain 30 = .ok (.aload_n 0, 1) := by decide +kernel
theorem dX12_bargain_31 : decode cX12_bargain 31 = .ok (.iload 4, 2) := by decide +kernel
theorem dX12_bargain_33 : decode cX12_bargain 33 = .ok (.putfield 51, 3) := by decide +kernel
theorem dX12_bargain_36 : decode cX12_bargain 36 = .ok (.aload_n 0, 1) := by decide +kernel
theorem dX12_bargain_37 : decode cX12_bargain 37 = .ok (.iload_n 1, 1) := by decide +kernel
theorem dX12_bargain_38 : decode cX12_bargain 38 = .ok (.iload_n 2, 1) := by decide +kernel
theorem dX12_bargain_39 : decode cX12_bargain 39 = .ok (.iload_n 3, 1) := by decide +kernel
theorem dX12_bargain_40 : decode cX12_bargain 40 = .ok (.iconst 2, 1) := by decide +kernel
theorem dX12_bargain_41 : decode cX12_bargain 41 = .ok (.invokevirtual 297, 3) := by decide +kernel
theorem dX12_bargain_44 : decode cX12_bargain 44 = .ok (.istore 5, 2) := by decide +kernel
theorem dX12_bargain_46 : decode cX12_bargain 46 = .ok (.aload_n 0, 1) := by decide +kernel
theorem dX12_bargain_47 : decode cX12_bargain 47 = .ok (.ldc 50, 2) := by decide +kernel
theorem dX12_bargain_49 : decode cX12_bargain 49 = .ok (.putfield 51, 3) := by decide +kernel
theorem dX12_bargain_52 : decode cX12_bargain 52 = .ok (.iload 5, 2) := by decide +kernel
theorem dX12_bargain_54 : decode cX12_bargain 54 = .ok (.ireturn, 1) := by decide +kernel
theorem dX12_apart_0 : decode cX12_apart 0 = .ok (.aload_n 0, 1) := by decide +kernel
theorem dX12_apart_1 : decode cX12_apart 1 = .ok (.iconst 0, 1) := by decide +kernel
theorem dX12_apart_2 : decode cX12_apart 2 = .ok (.putfield 96, 3) := by decide +kernel
theorem dX12_apart_5 : decode cX12_apart 5 = .ok (.aload_n 0, 1) := by decide +kernel
theorem dX12_apart_6 : decode cX12_apart 6 = .ok (.iload_n 1, 1) := by decide +kernel
theorem dX12_apart_7 : decode cX12_apart 7 = .ok (.iload_n 2, 1) := by decide +kernel
theorem dX12_apart_8 : decode cX12_apart 8 = .ok (.iload_n 3, 1) := by decide +kernel
theorem dX12_apart_9 : decode cX12_apart 9 = .ok (.invokevirtual 294, 3) := by decide +kernel
theorem dX12_apart_12 : decode cX12_apart 12 = .ok (.ifCond .eq 8, 3) := by decide +kernel
theorem dX12_apart_15 : decode cX12_apart 15 = .ok (.iload_n 1, 1) := by decide +kernel
theorem dX12_apart_16 : decode cX12_apart 16 = .ok (.iload_n 2, 1) := by decide +kernel
theorem dX12_apart_17 : decode cX12_apart 17 = .ok (.if_icmp .ne 5, 3) := by decide +kernel
theorem dX12_apart_20 : decode cX12_apart 20 = .ok (.iconst (-1), 1) := by decide +kernel
theorem dX12_apart_21 : decode cX12_apart 21 = .ok (.ireturn, 1) := by decide +kernel
theorem dX12_apart_22 : decode cX12_apart 22 = .ok (.iconst 1, 1) := by decide +kernel
theorem dX12_apart_23 : decode cX12_apart 23 = .ok (.aload_n 0, 1) := by decide +kernel
theorem dX12_apart_24 : decode cX12_apart 24 = .ok (.getfield 102, 3) := by decide +kernel
theorem dX12_apart_27 : decode cX12_apart 27 = .ok (.ishl, 1) := by decide +kernel
theorem dX12_apart_28 : decode cX12_apart 28 = .ok (.iconst 1, 1) := by decide +kernel
theorem dX12_apart_29 : decode cX12_apart 29 = .ok (.isub, 1) := by decide +kernel
theorem dX12_apart_30 : decode cX12_apart 30 = .ok (.istore 4, 2) := by decide +kernel
theorem dX12_apart_32 : decode cX12_apart 32 = .ok (.iload 4, 2) := by decide +kernel
theorem dX12_apart_34 : decode cX12_apart 34 = .ok (.iconst 1, 1) := by decide +kernel
theorem dX12_apart_35 : decode cX12_apart 35 = .ok (.iload_n 1, 1) := by decide +kernel
theorem dX12_apart_36 : decode cX12_apart 36 = .ok (.ishl, 1) := by decide +kernel
theorem dX12_apart_37 : decode cX12_apart 37 = .ok (.iconst (-1), 1) := by decide +kernel
theorem dX12_apart_38 : decode cX12_apart 38 = .ok (.ixor, 1) := by decide +kernel
theorem dX12_apart_39 : decode cX12_apart 39 = .ok (.iand, 1) := by decide +kernel
theorem dX12_apart_40 : decode cX12_apart 40 = .ok (.iconst 1, 1) := by decide +kernel
theorem dX12_apart_41 : decode cX12_apart 41 = .ok (.iload_n 2, 1) := by decide +kernel
theorem dX12_apart_42 : decode cX12_apart 42 = .ok (.ishl, 1) := by decide +kernel
theorem dX12_apart_43 : decode cX12_apart 43 = .ok (.iconst (-1), 1) := by decide +kernel
theorem dX12_apart_44 : decode cX12_apart 44 = .ok (.ixor, 1) := by decide +kernel
theorem dX12_apart_45 : decode cX12_apart 45 = .ok (.iand, 1) := by decide +kernel
theorem dX12_apart_46 : decode cX12_apart 46 = .ok (.istore 5, 2) := by decide +kernel
theorem dX12_apart_48 : decode cX12_apart 48 = .ok (.iconst (-1), 1) := by decide +kernel
theorem dX12_apart_49 : decode cX12_apart 49 = .ok (.istore 6, 2) := by decide +kernel
theorem dX12_apart_51 : decode cX12_apart 51 = .ok (.iconst 0, 1) := by decide +kernel
theorem dX12_apart_52 : decode cX12_apart 52 = .ok (.istore 7, 2) := by decide +kernel
theorem dX12_apart_54 : decode cX12_apart 54 = .ok (.iload 7, 2) := by decide +kernel
theorem dX12_apart_56 : decode cX12_apart 56 = .ok (.iload 5, 2) := by decide +kernel
theorem dX12_apart_58 : decode cX12_apart 58 = .ok (.if_icmp .gt 95, 3) := by decide +kernel
theorem dX12_apart_61 : decode cX12_apart 61 = .ok (.iload 6, 2) := by decide +kernel
theorem dX12_apart_63 : decode cX12_apart 63 = .ok (.iconst (-1), 1) := by decide +kernel
theorem dX12_apart_64 : decode cX12_apart 64 = .ok (.if_icmp .ne 89, 3) := by decide +kernel
theorem dX12_apart_67 : decode cX12_apart 67 = .ok (.iload 7, 2) := by decide +kernel
theorem dX12_apart_69 : decode cX12_apart 69 = .ok (.iload 5, 2) := by decide +kernel
theorem dX12_apart_71 : decode cX12_apart 71 = .ok (.iconst (-1), 1) := by decide +kernel
theorem dX12_apart_72 : decode cX12_apart 72 = .ok (.ixor, 1) := by decide +kernel
theorem dX12_apart_73 : decode cX12_apart 73 = .ok (.iand, 1) := by decide +kernel
theorem dX12_apart_74 : decode cX12_apart 74 = .ok (.ifCond .eq 6, 3) := by decide +kernel
theorem dX12_apart_77 : decode cX12_apart 77 = .ok (.goto 70, 3) := by decide +kernel
theorem dX12_apart_80 : decode cX12_apart 80 = .ok (.aload_n 0, 1) := by decide +kernel
theorem dX12_apart_81 : decode cX12_apart 81 = .ok (.iload 4, 2) := by decide +kernel
theorem dX12_apart_83 : decode cX12_apart 83 = .ok (.iload 7, 2) := by decide +kernel
theorem dX12_apart_85 : decode cX12_apart 85 = .ok (.iconst (-1), 1) := by decide +kernel
theorem dX12_apart_86 : decode cX12_apart 86 = .ok (.ixor, 1) := by decide +kernel
theorem dX12_apart_87 : decode cX12_apart 87 = .ok (.iand, 1) := by decide +kernel
theorem dX12_apart_88 : decode cX12_apart 88 = .ok (.putfield 277, 3) := by decide +kernel
theorem dX12_apart_91 : decode cX12_apart 91 = .ok (.aload_n 0, 1) := by decide +kernel
theorem dX12_apart_92 : decode cX12_apart 92 = .ok (.iload_n 1, 1) := by decide +kernel
theorem dX12_apart_93 : decode cX12_apart 93 = .ok (.iload_n 2, 1) := by decide +kernel
theorem dX12_apart_94 : decode cX12_apart 94 = .ok (.iload_n 3, 1) := by decide +kernel
theorem dX12_apart_95 : decode cX12_apart 95 = .ok (.invokevirtual 301, 3) := by decide +kernel
theorem dX12_apart_98 : decode cX12_apart 98 = .ok (.ldc 50, 2) := by decide +kernel
theorem dX12_apart_100 : decode cX12_apart 100 = .ok (.if_icmp .ge 7, 3) := by decide +kernel
theorem dX12_apart_103 : decode cX12_apart 103 = .ok (.iconst 1, 1) := by decide +kernel
theorem dX12_apart_104 : decode cX12_apart 104 = .ok (.goto 4, 3) := by decide +kernel
theorem dX12_apart_107 : decode cX12_apart 107 = .ok (.iconst 0, 1) := by decide +kernel
theorem dX12_apart_108 : decode cX12_apart 108 = .ok (.istore 8, 2) := by decide +kernel
theorem dX12_apart_110 : decode cX12_apart 110 = .ok (.aload_n 0, 1) := by decide +kernel
theorem dX12_apart_111 : decode cX12_apart 111 = .ok (.iload 4, 2) := by decide +kernel
theorem dX12_apart_113 : decode cX12_apart 113 = .ok (.iload 5, 2) := by decide +kernel
theorem dX12_apart_115 : decode cX12_apart 115 = .ok (.iload 7, 2) := by decide +kernel
theorem dX12_apart_117 : decode cX12_apart 117 = .ok (.iconst (-1), 1) := by decide +kernel
theorem dX12_apart_118 : decode cX12_apart 118 = .ok (.ixor, 1) := by decide +kernel
theorem dX12_apart_119 : decode cX12_apart 119 = .ok (.iand, 1) := by decide +kernel
theorem dX12_apart_120 : decode cX12_apart 120 = .ok (.iconst (-1), 1) := by decide +kernel
theorem dX12_apart_121 : decode cX12_apart 121 = .ok (.ixor, 1) := by decide +kernel
theorem dX12_apart_122 : decode cX12_apart 122 = .ok (.iand, 1) := by decide +kernel
theorem dX12_apart_123 : decode cX12_apart 123 = .ok (.putfield 277, 3) := by decide +kernel
theorem dX12_apart_126 : decode cX12_apart 126 = .ok (.iload 8, 2) := by decide +kernel
theorem dX12_apart_128 : decode cX12_apart 128 = .ok (.ifCond .eq 19, 3) := by decide +kernel
theorem dX12_apart_131 : decode cX12_apart 131 = .ok (.aload_n 0, 1) := by decide +kernel
theorem dX12_apart_132 : decode cX12_apart 132 = .ok (.iload_n 1, 1) := by decide +kernel
theorem dX12_apart_133 : decode cX12_apart 133 = .ok (.iload_n 2, 1) := by decide +kernel
theorem dX12_apart_134 : decode cX12_apart 134 = .ok (.iload_n 3, 1) := by decide +kernel
theorem dX12_apart_135 : decode cX12_apart 135 = .ok (.invokevirtual 301, 3) := by decide +kernel
theorem dX12_apart_138 : decode cX12_apart 138 = .ok (.ldc 50, 2) := by decide +kernel
theorem dX12_apart_140 : decode cX12_apart 140 = .ok (.if_icmp .ge 7, 3) := by decide +kernel
theorem dX12_apart_143 : decode cX12_apart 143 = .ok (.iload 7, 2) := by decide +kernel
theorem dX12_apart_145 : decode cX12_apart 145 = .ok (.istore 6, 2) := by decide +kernel
theorem dX12_apart_147 : decode cX12_apart 147 = .ok (.iinc 7 1, 3) := by decide +kernel
theorem dX12_apart_150 : decode cX12_apart 150 = .ok (.goto (-96), 3) := by decide +kernel
theorem dX12_apart_153 : decode cX12_apart 153 = .ok (.aload_n 0, 1) := by decide +kernel
theorem dX12_apart_154 : decode cX12_apart 154 = .ok (.iconst 0, 1) := by decide +kernel
theorem dX12_apart_155 : decode cX12_apart 155 = .ok (.putfield 277, 3) := by decide +kernel
theorem dX12_apart_158 : decode cX12_apart 158 = .ok (.aload_n 0, 1) := by decide +kernel
theorem dX12_apart_159 : decode cX12_apart 159 = .ok (.iconst 0, 1) := by decide +kernel
theorem dX12_apart_160 : decode cX12_apart 160 = .ok (.putfield 99, 3) := by decide +kernel
theorem dX12_apart_163 : decode cX12_apart 163 = .ok (.iload 6, 2) := by decide +kernel
theorem dX12_apart_165 : decode cX12_apart 165 = .ok (.iconst (-1), 1) := by decide +kernel
theorem dX12_apart_166 : decode cX12_apart 166 = .ok (.if_icmp .ne 5, 3) := by decide +kernel
theorem dX12_apart_169 : decode cX12_apart 169 = .ok (.iconst 0, 1) := by decide +kernel
theorem dX12_apart_170 : decode cX12_apart 170 = .ok (.ireturn, 1) := by decide +kernel
theorem dX12_apart_171 : decode cX12_apart 171 = .ok (.aload_n 0, 1) := by decide +kernel
theorem dX12_apart_172 : decode cX12_apart 172 = .ok (.iload 6, 2) := by decide +kernel
theorem dX12_apart_174 : decode cX12_apart 174 = .ok (.invokevirtual 250, 3) := by decide +kernel
theorem dX12_apart_177 : decode cX12_apart 177 = .ok (.iconst 1, 1) := by decide +kernel
theorem dX12_apart_178 : decode cX12_apart 178 = .ok (.ireturn, 1) := by decide +kernel
theorem dX12_far_0 : decode cX12_far 0 = .ok (.aload_n 0, 1) := by decide +kernel
theorem dX12_far_1 : decode cX12_far 1 = .ok (.iconst 0, 1) := by decide +kernel
theorem dX12_far_2 : decode cX12_far 2 = .ok (.putfield 96, 3) := by decide +kernel
theorem dX12_far_5 : decode cX12_far 5 = .ok (.aload_n 0, 1) := by decide +kernel
theorem dX12_far_6 : decode cX12_far 6 = .ok (.iload_n 1, 1) := by decide +kernel
theorem dX12_far_7 : decode cX12_far 7 = .ok (.iload_n 1, 1) := by decide +kernel
theorem dX12_far_8 : decode cX12_far 8 = .ok (.iload_n 2, 1) := by decide +kernel
theorem dX12_far_9 : decode cX12_far 9 = .ok (.invokevirtual 294, 3) := by decide +kernel
theorem dX12_far_12 : decode cX12_far 12 = .ok (.ifCond .ne 5, 3) := by decide +kernel
theorem dX12_far_15 : decode cX12_far 15 = .ok (.iconst (-1), 1) := by decide +kernel
theorem dX12_far_16 : decode cX12_far 16 = .ok (.ireturn, 1) := by decide +kernel
theorem dX12_far_17 : decode cX12_far 17 = .ok (.aload_n 0, 1) := by decide +kernel
theorem dX12_far_18 : decode cX12_far 18 = .ok (.iconst 0, 1) := by decide +kernel
theorem dX12_far_19 : decode cX12_far 19 = .ok (.putfield 277, 3) := by decide +kernel
theorem dX12_far_22 : decode cX12_far 22 = .ok (.aload_n 0, 1) := by decide +kernel
theorem dX12_far_23 : decode cX12_far 23 = .ok (.iconst 0, 1) := by decide +kernel
theorem dX12_far_24 : decode cX12_far 24 = .ok (.putfield 99, 3) := by decide +kernel
theorem dX12_far_27 : decode cX12_far 27 = .ok (.iconst 0, 1) := by decide +kernel
theorem dX12_far_28 : decode cX12_far 28 = .ok (.istore_n 3, 1) := by decide +kernel
theorem dX12_far_29 : decode cX12_far 29 = .ok (.iconst 0, 1) := by decide +kernel
theorem dX12_far_30 : decode cX12_far 30 = .ok (.istore 4, 2) := by decide +kernel
theorem dX12_far_32 : decode cX12_far 32 = .ok (.iload 4, 2) := by decide +kernel
theorem dX12_far_34 : decode cX12_far 34 = .ok (.aload_n 0, 1) := by decide +kernel
theorem dX12_far_35 : decode cX12_far 35 = .ok (.getfield 102, 3) := by decide +kernel
theorem dX12_far_38 : decode cX12_far 38 = .ok (.if_icmp .ge 57, 3) := by decide +kernel
theorem dX12_far_41 : decode cX12_far 41 = .ok (.aload_n 0, 1) := by decide +kernel
theorem dX12_far_42 : decode cX12_far 42 = .ok (.iload_n 1, 1) := by decide +kernel
theorem dX12_far_43 : decode cX12_far 43 = .ok (.iload 4, 2) := by decide +kernel
theorem dX12_far_45 : decode cX12_far 45 = .ok (.iload_n 2, 1) := by decide +kernel
theorem dX12_far_46 : decode cX12_far 46 = .ok (.invokevirtual 301, 3) := by decide +kernel
theorem dX12_far_49 : decode cX12_far 49 = .ok (.istore 5, 2) := by decide +kernel
theorem dX12_far_51 : decode cX12_far 51 = .ok (.aload_n 0, 1) := by decide +kernel
theorem dX12_far_52 : decode cX12_far 52 = .ok (.iload 5, 2) := by decide +kernel
theorem dX12_far_54 : decode cX12_far 54 = .ok (.ldc 50, 2) := by decide +kernel
theorem dX12_far_56 : decode cX12_far 56 = .ok (.if_icmp .ge 8, 3) := by decide +kernel
theorem dX12_far_59 : decode cX12_far 59 = .ok (.iload 5, 2) := by decide +kernel
theorem dX12_far_61 : decode cX12_far 61 = .ok (.goto 4, 3) := by decide +kernel
theorem dX12_far_64 : decode cX12_far 64 = .ok (.iconst (-1), 1) := by decide +kernel
theorem dX12_far_65 : decode cX12_far 65 = .ok (.invokevirtual 250, 3) := by decide +kernel
theorem dX12_far_68 : decode cX12_far 68 = .ok (.iload_n 3, 1) := by decide +kernel
theorem dX12_far_69 : decode cX12_far 69 = .ok (.iload 4, 2) := by decide +kernel
theorem dX12_far_71 : decode cX12_far 71 = .ok (.iload_n 1, 1) := by decide +kernel
theorem dX12_far_72 : decode cX12_far 72 = .ok (.if_icmp .eq 14, 3) := by decide +kernel
theorem dX12_far_75 : decode cX12_far 75 = .ok (.iload 5, 2) := by decide +kernel
theorem dX12_far_77 : decode cX12_far 77 = .ok (.ldc 50, 2) := by decide +kernel
theorem dX12_far_79 : decode cX12_far 79 = .ok (.if_icmp .ge 7, 3) := by decide +kernel
theorem dX12_far_82 : decode cX12_far 82 = .ok (.iconst 1, 1) := by decide +kernel
theorem dX12_far_83 : decode cX12_far 83 = .ok (.goto 4, 3) := by decide +kernel
theorem dX12_far_86 : decode cX12_far 86 = .ok (.iconst 0, 1) := by decide +kernel
theorem dX12_far_87 : decode cX12_far 87 = .ok (.iadd, 1) := by decide +kernel
theorem dX12_far_88 : decode cX12_far 88 = .ok (.istore_n 3, 1) := by decide +kernel
theorem dX12_far_89 : decode cX12_far 89 = .ok (.iinc 4 1, 3) := by decide +kernel
theorem dX12_far_92 : decode cX12_far 92 = .ok (.goto (-60), 3) := by decide +kernel
theorem dX12_far_95 : decode cX12_far 95 = .ok (.iload_n 3, 1) := by decide +kernel
theorem dX12_far_96 : decode cX12_far 96 = .ok (.ireturn, 1) := by decide +kernel
theorem dX12_worst_0 : decode cX12_worst 0 = .ok (.aload_n 0, 1) := by decide +kernel
theorem dX12_worst_1 : decode cX12_worst 1 = .ok (.iconst 0, 1) := by decide +kernel
theorem dX12_worst_2 : decode cX12_worst 2 = .ok (.putfield 96, 3) := by decide +kernel
theorem dX12_worst_5 : decode cX12_worst 5 = .ok (.aload_n 0, 1) := by decide +kernel
theorem dX12_worst_6 : decode cX12_worst 6 = .ok (.iload_n 1, 1) := by decide +kernel
theorem dX12_worst_7 : decode cX12_worst 7 = .ok (.iload_n 2, 1) := by decide +kernel
theorem dX12_worst_8 : decode cX12_worst 8 = .ok (.iload_n 3, 1) := by decide +kernel
theorem dX12_worst_9 : decode cX12_worst 9 = .ok (.invokevirtual 294, 3) := by decide +kernel
theorem dX12_worst_12 : decode cX12_worst 12 = .ok (.ifCond .ne 5, 3) := by decide +kernel
theorem dX12_worst_15 : decode cX12_worst 15 = .ok (.iconst (-1), 1) := by decide +kernel
theorem dX12_worst_16 : decode cX12_worst 16 = .ok (.ireturn, 1) := by decide +kernel
theorem dX12_worst_17 : decode cX12_worst 17 = .ok (.aload_n 0, 1) := by decide +kernel
theorem dX12_worst_18 : decode cX12_worst 18 = .ok (.iconst 0, 1) := by decide +kernel
theorem dX12_worst_19 : decode cX12_worst 19 = .ok (.putfield 277, 3) := by decide +kernel
theorem dX12_worst_22 : decode cX12_worst 22 = .ok (.aload_n 0, 1) := by decide +kernel
theorem dX12_worst_23 : decode cX12_worst 23 = .ok (.iload_n 1, 1) := by decide +kernel
theorem dX12_worst_24 : decode cX12_worst 24 = .ok (.iload_n 2, 1) := by decide +kernel
theorem dX12_worst_25 : decode cX12_worst 25 = .ok (.iload_n 3, 1) := by decide +kernel
theorem dX12_worst_26 : decode cX12_worst 26 = .ok (.invokevirtual 301, 3) := by decide +kernel
theorem dX12_worst_29 : decode cX12_worst 29 = .ok (.ldc 50, 2) := by decide +kernel
theorem dX12_worst_31 : decode cX12_worst 31 = .ok (.if_icmp .lt 6, 3) := by decide +kernel
theorem dX12_worst_34 : decode cX12_worst 34 = .ok (.bipush (-2), 2) := by decide +kernel
theorem dX12_worst_36 : decode cX12_worst 36 = .ok (.ireturn, 1) := by decide +kernel
theorem dX12_worst_37 : decode cX12_worst 37 = .ok (.iconst (-1), 1) := by decide +kernel
theorem dX12_worst_38 : decode cX12_worst 38 = .ok (.istore 4, 2) := by decide +kernel
theorem dX12_worst_40 : decode cX12_worst 40 = .ok (.iconst (-1), 1) := by decide +kernel
theorem dX12_worst_41 : decode cX12_worst 41 = .ok (.istore 5, 2) := by decide +kernel
theorem dX12_worst_43 : decode cX12_worst 43 = .ok (.iconst 0, 1) := by decide +kernel
theorem dX12_worst_44 : decode cX12_worst 44 = .ok (.istore 6, 2) := by decide +kernel
theorem dX12_worst_46 : decode cX12_worst 46 = .ok (.iload 6, 2) := by decide +kernel
theorem dX12_worst_48 : decode cX12_worst 48 = .ok (.aload_n 0, 1) := by decide +kernel
theorem dX12_worst_49 : decode cX12_worst 49 = .ok (.getfield 109, 3) := by decide +kernel
theorem dX12_worst_52 : decode cX12_worst 52 = .ok (.if_icmp .ge 42, 3) := by decide +kernel
theorem dX12_worst_55 : decode cX12_worst 55 = .ok (.aload_n 0, 1) := by decide +kernel
theorem dX12_worst_56 : decode cX12_worst 56 = .ok (.iload 6, 2) := by decide +kernel
theorem dX12_worst_58 : decode cX12_worst 58 = .ok (.putfield 55, 3) := by decide +kernel
theorem dX12_worst_61 : decode cX12_worst 61 = .ok (.aload_n 0, 1) := by decide +kernel
theorem dX12_worst_62 : decode cX12_worst 62 = .ok (.iload_n 1, 1) := by decide +kernel
theorem dX12_worst_63 : decode cX12_worst 63 = .ok (.iload_n 2, 1) := by decide +kernel
theorem dX12_worst_64 : decode cX12_worst 64 = .ok (.iload_n 3, 1) := by decide +kernel
theorem dX12_worst_65 : decode cX12_worst 65 = .ok (.invokevirtual 301, 3) := by decide +kernel
theorem dX12_worst_68 : decode cX12_worst 68 = .ok (.istore 7, 2) := by decide +kernel
theorem dX12_worst_70 : decode cX12_worst 70 = .ok (.iload 7, 2) := by decide +kernel
theorem dX12_worst_72 : decode cX12_worst 72 = .ok (.iload 5, 2) := by decide +kernel
theorem dX12_worst_74 : decode cX12_worst 74 = .ok (.if_icmp .gt 6, 3) := by decide +kernel
theorem dX12_worst_77 : decode cX12_worst 77 = .ok (.goto 11, 3) := by decide +kernel
theorem dX12_worst_80 : decode cX12_worst 80 = .ok (.iload 6, 2) := by decide +kernel
theorem dX12_worst_82 : decode cX12_worst 82 = .ok (.istore 4, 2) := by decide +kernel
theorem dX12_worst_84 : decode cX12_worst 84 = .ok (.iload 7, 2) := by decide +kernel
theorem dX12_worst_86 : decode cX12_worst 86 = .ok (.istore 5, 2) := by decide +kernel
theorem dX12_worst_88 : decode cX12_worst 88 = .ok (.iinc 6 1, 3) := by decide +kernel
theorem dX12_worst_91 : decode cX12_worst 91 = .ok (.goto (-45), 3) := by decide +kernel
theorem dX12_worst_94 : decode cX12_worst 94 = .ok (.aload_n 0, 1) := by decide +kernel
theorem dX12_worst_95 : decode cX12_worst 95 = .ok (.iconst (-1), 1) := by decide +kernel
theorem dX12_worst_96 : decode cX12_worst 96 = .ok (.putfield 55, 3) := by decide +kernel
theorem dX12_worst_99 : decode cX12_worst 99 = .ok (.aload_n 0, 1) := by decide +kernel
theorem dX12_worst_100 : decode cX12_worst 100 = .ok (.iconst 0, 1) := by decide +kernel
theorem dX12_worst_101 : decode cX12_worst 101 = .ok (.putfield 99, 3) := by decide +kernel
theorem dX12_worst_104 : decode cX12_worst 104 = .ok (.aload_n 0, 1) := by decide +kernel
theorem dX12_worst_105 : decode cX12_worst 105 = .ok (.iload 5, 2) := by decide +kernel
theorem dX12_worst_107 : decode cX12_worst 107 = .ok (.ldc 50, 2) := by decide +kernel
theorem dX12_worst_109 : decode cX12_worst 109 = .ok (.if_icmp .ge 8, 3) := by decide +kernel
theorem dX12_worst_112 : decode cX12_worst 112 = .ok (.iload 5, 2) := by decide +kernel
theorem dX12_worst_114 : decode cX12_worst 114 = .ok (.goto 4, 3) := by decide +kernel
theorem dX12_worst_117 : decode cX12_worst 117 = .ok (.iconst (-1), 1) := by decide +kernel
theorem dX12_worst_118 : decode cX12_worst 118 = .ok (.invokevirtual 250, 3) := by decide +kernel
theorem dX12_worst_121 : decode cX12_worst 121 = .ok (.iload 4, 2) := by decide +kernel
theorem dX12_worst_123 : decode cX12_worst 123 = .ok (.ireturn, 1) := by decide +kernel
theorem dX12_way_0 : decode cX12_way 0 = .ok (.aload_n 0, 1) := by decide +kernel
theorem dX12_way_1 : decode cX12_way 1 = .ok (.iconst 0, 1) := by decide +kernel
theorem dX12_way_2 : decode cX12_way 2 = .ok (.putfield 96, 3) := by decide +kernel
theorem dX12_way_5 : decode cX12_way 5 = .ok (.aload_n 0, 1) := by decide +kernel
theorem dX12_way_6 : decode cX12_way 6 = .ok (.aload_n 0, 1) := by decide +kernel
theorem dX12_way_7 : decode cX12_way 7 = .ok (.getfield 25, 3) := by decide +kernel
theorem dX12_way_10 : decode cX12_way 10 = .ok (.aload_n 0, 1) := by decide +kernel
theorem dX12_way_11 : decode cX12_way 11 = .ok (.getfield 112, 3) := by decide +kernel
theorem dX12_way_14 : decode cX12_way 14 = .ok (.bipush 30, 2) := by decide +kernel
theorem dX12_way_16 : decode cX12_way 16 = .ok (.invokevirtual 142, 3) := by decide +kernel
theorem dX12_way_19 : decode cX12_way 19 = .ok (.aload_n 0, 1) := by decide +kernel
theorem dX12_way_20 : decode cX12_way 20 = .ok (.iconst 0, 1) := by decide +kernel
theorem dX12_way_21 : decode cX12_way 21 = .ok (.putfield 112, 3) := by decide +kernel
theorem dX12_way_24 : decode cX12_way 24 = .ok (.aload_n 0, 1) := by decide +kernel
theorem dX12_way_25 : decode cX12_way 25 = .ok (.iload_n 1, 1) := by decide +kernel
theorem dX12_way_26 : decode cX12_way 26 = .ok (.invokevirtual 197, 3) := by decide +kernel
theorem dX12_way_29 : decode cX12_way 29 = .ok (.ifCond .eq 10, 3) := by decide +kernel
theorem dX12_way_32 : decode cX12_way 32 = .ok (.iload_n 2, 1) := by decide +kernel
theorem dX12_way_33 : decode cX12_way 33 = .ok (.invokestatic 221, 3) := by decide +kernel
theorem dX12_way_36 : decode cX12_way 36 = .ok (.ifCond .ne 7, 3) := by decide +kernel
theorem dX12_way_39 : decode cX12_way 39 = .ok (.sipush (-200), 3) := by decide +kernel
theorem dX12_way_42 : decode cX12_way 42 = .ok (.ireturn, 1) := by decide +kernel
theorem dX12_way_43 : decode cX12_way 43 = .ok (.iconst 0, 1) := by decide +kernel
theorem dX12_way_44 : decode cX12_way 44 = .ok (.istore_n 3, 1) := by decide +kernel
theorem dX12_way_45 : decode cX12_way 45 = .ok (.aload_n 0, 1) := by decide +kernel
theorem dX12_way_46 : decode cX12_way 46 = .ok (.invokevirtual 130, 3) := by decide +kernel
theorem dX12_way_49 : decode cX12_way 49 = .ok (.ifCond .eq 45, 3) := by decide +kernel
theorem dX12_way_52 : decode cX12_way 52 = .ok (.aload_n 0, 1) := by decide +kernel
theorem dX12_way_53 : decode cX12_way 53 = .ok (.getfield 124, 3) := by decide +kernel
theorem dX12_way_56 : decode cX12_way 56 = .ok (.aload_n 0, 1) := by decide +kernel
theorem dX12_way_57 : decode cX12_way 57 = .ok (.getfield 118, 3) := by decide +kernel
theorem dX12_way_60 : decode cX12_way 60 = .ok (.if_icmp .ge 34, 3) := by decide +kernel
theorem dX12_way_63 : decode cX12_way 63 = .ok (.aload_n 0, 1) := by decide +kernel
theorem dX12_way_64 : decode cX12_way 64 = .ok (.getfield 124, 3) := by decide +kernel
theorem dX12_way_67 : decode cX12_way 67 = .ok (.aload_n 0, 1) := by decide +kernel
theorem dX12_way_68 : decode cX12_way 68 = .ok (.getfield 121, 3) := by decide +kernel
theorem dX12_way_71 : decode cX12_way 71 = .ok (.if_icmp .ge 23, 3) := by decide +kernel
theorem dX12_way_74 : decode cX12_way 74 = .ok (.aload_n 0, 1) := by decide +kernel
theorem dX12_way_75 : decode cX12_way 75 = .ok (.getfield 65, 3) := by decide +kernel
theorem dX12_way_78 : decode cX12_way 78 = .ok (.iload_n 3, 1) := by decide +kernel
theorem dX12_way_79 : decode cX12_way 79 = .ok (.aload_n 0, 1) := by decide +kernel
theorem dX12_way_80 : decode cX12_way 80 = .ok (.aload_n 0, 1) := by decide +kernel
theorem dX12_way_81 : decode cX12_way 81 = .ok (.getfield 102, 3) := by decide +kernel
theorem dX12_way_84 : decode cX12_way 84 = .ok (.invokevirtual 150, 3) := by decide +kernel
theorem dX12_way_87 : decode cX12_way 87 = .ok (.iastore, 1) := by decide +kernel
theorem dX12_way_88 : decode cX12_way 88 = .ok (.iinc 3 1, 3) := by decide +kernel
theorem dX12_way_91 : decode cX12_way 91 = .ok (.goto (-46), 3) := by decide +kernel
theorem dX12_way_94 : decode cX12_way 94 = .ok (.aload_n 0, 1) := by decide +kernel
theorem dX12_way_95 : decode cX12_way 95 = .ok (.getfield 124, 3) := by decide +kernel
theorem dX12_way_98 : decode cX12_way 98 = .ok (.aload_n 0, 1) := by decide +kernel
theorem dX12_way_99 : decode cX12_way 99 = .ok (.getfield 118, 3) := by decide +kernel
theorem dX12_way_102 : decode cX12_way 102 = .ok (.if_icmp .ge 11, 3) := by decide +kernel
theorem dX12_way_105 : decode cX12_way 105 = .ok (.aload_n 0, 1) := by decide +kernel
theorem dX12_way_106 : decode cX12_way 106 = .ok (.aload_n 0, 1) := by decide +kernel
theorem dX12_way_107 : decode cX12_way 107 = .ok (.getfield 124, 3) := by decide +kernel
theorem dX12_way_110 : decode cX12_way 110 = .ok (.invokevirtual 138, 3) := by decide +kernel
theorem dX12_way_113 : decode cX12_way 113 = .ok (.aload_n 0, 1) := by decide +kernel
theorem dX12_way_114 : decode cX12_way 114 = .ok (.invokevirtual 130, 3) := by decide +kernel
theorem dX12_way_117 : decode cX12_way 117 = .ok (.ifCond .ne 10, 3) := by decide +kernel
theorem dX12_way_120 : decode cX12_way 120 = .ok (.iconst (-1), 1) := by decide +kernel
theorem dX12_way_121 : decode cX12_way 121 = .ok (.aload_n 0, 1) := by decide +kernel
theorem dX12_way_122 : decode cX12_way 122 = .ok (.getfield 127, 3) := by decide +kernel
theorem dX12_way_125 : decode cX12_way 125 = .ok (.isub, 1) := by decide +kernel
theorem dX12_way_126 : decode cX12_way 126 = .ok (.ireturn, 1) := by decide +kernel
theorem dX12_way_127 : decode cX12_way 127 = .ok (.iload_n 1, 1) := by decide +kernel
theorem dX12_way_128 : decode cX12_way 128 = .ok (.istore 4, 2) := by decide +kernel
theorem dX12_way_130 : decode cX12_way 130 = .ok (.iload_n 2, 1) := by decide +kernel
theorem dX12_way_131 : decode cX12_way 131 = .ok (.istore 5, 2) := by decide +kernel
theorem dX12_way_133 : decode cX12_way 133 = .ok (.iconst 1, 1) := by decide +kernel
theorem dX12_way_134 : decode cX12_way 134 = .ok (.istore 6, 2) := by decide +kernel
theorem dX12_way_136 : decode cX12_way 136 = .ok (.iconst 0, 1) := by decide +kernel
theorem dX12_way_137 : decode cX12_way 137 = .ok (.istore 7, 2) := by decide +kernel
theorem dX12_way_139 : decode cX12_way 139 = .ok (.iload 7, 2) := by decide +kernel
theorem dX12_way_141 : decode cX12_way 141 = .ok (.iload_n 3, 1) := by decide +kernel
theorem dX12_way_142 : decode cX12_way 142 = .ok (.if_icmp .ge 160, 3) := by decide +kernel
theorem dX12_way_145 : decode cX12_way 145 = .ok (.iconst (-1), 1) := by decide +kernel
theorem dX12_way_146 : decode cX12_way 146 = .ok (.istore 8, 2) := by decide +kernel
theorem dX12_way_148 : decode cX12_way 148 = .ok (.iconst 0, 1) := by decide +kernel
theorem dX12_way_149 : decode cX12_way 149 = .ok (.istore 9, 2) := by decide +kernel
theorem dX12_way_151 : decode cX12_way 151 = .ok (.iload 9, 2) := by decide +kernel
theorem dX12_way_153 : decode cX12_way 153 = .ok (.aload_n 0, 1) := by decide +kernel
theorem dX12_way_154 : decode cX12_way 154 = .ok (.getfield 109, 3) := by decide +kernel
theorem dX12_way_157 : decode cX12_way 157 = .ok (.if_icmp .ge 97, 3) := by decide +kernel
theorem dX12_way_160 : decode cX12_way 160 = .ok (.aload_n 0, 1) := by decide +kernel
theorem dX12_way_161 : decode cX12_way 161 = .ok (.iload 4, 2) := by decide +kernel
theorem dX12_way_163 : decode cX12_way 163 = .ok (.iload 9, 2) := by decide +kernel
theorem dX12_way_165 : decode cX12_way 165 = .ok (.invokevirtual 227, 3) := by decide +kernel
theorem dX12_way_168 : decode cX12_way 168 = .ok (.ifCond .eq 80, 3) := by decide +kernel
theorem dX12_way_171 : decode cX12_way 171 = .ok (.aload_n 0, 1) := by decide +kernel
theorem dX12_way_172 : decode cX12_way 172 = .ok (.iload 4, 2) := by decide +kernel
theorem dX12_way_174 : decode cX12_way 174 = .ok (.iload 9, 2) := by decide +kernel
theorem dX12_way_176 : decode cX12_way 176 = .ok (.invokevirtual 234, 3) := by decide +kernel
theorem dX12_way_179 : decode cX12_way 179 = .ok (.aload_n 0, 1) := by decide +kernel
theorem dX12_way_180 : decode cX12_way 180 = .ok (.getfield 65, 3) := by decide +kernel
theorem dX12_way_183 : decode cX12_way 183 = .ok (.iload 7, 2) := by decide +kernel
theorem dX12_way_185 : decode cX12_way 185 = .ok (.iaload, 1) := by decide +kernel
theorem dX12_way_186 : decode cX12_way 186 = .ok (.if_icmp .ne 62, 3) := by decide +kernel
theorem dX12_way_189 : decode cX12_way 189 = .ok (.aload_n 0, 1) := by decide +kernel
theorem dX12_way_190 : decode cX12_way 190 = .ok (.getfield 19, 3) := by decide +kernel
theorem dX12_way_193 : decode cX12_way 193 = .ok (.iload 9, 2) := by decide +kernel
theorem dX12_way_195 : decode cX12_way 195 = .ok (.iaload, 1) := by decide +kernel
theorem dX12_way_196 : decode cX12_way 196 = .ok (.iload 5, 2) := by decide +kernel
theorem dX12_way_198 : decode cX12_way 198 = .ok (.iload 6, 2) := by decide +kernel
theorem dX12_way_200 : decode cX12_way 200 = .ok (.ifCond .eq 7, 3) := by decide +kernel
theorem dX12_way_203 : decode cX12_way 203 = .ok (.iconst 0, 1) := by decide +kernel
theorem dX12_way_204 : decode cX12_way 204 = .ok (.goto 10, 3) := by decide +kernel
theorem dX12_way_207 : decode cX12_way 207 = .ok (.aload_n 0, 1) := by decide +kernel
theorem dX12_way_208 : decode cX12_way 208 = .ok (.getfield 9, 3) := by decide +kernel
theorem dX12_way_211 : decode cX12_way 211 = .ok (.iload 4, 2) := by decide +kernel
theorem dX12_way_213 : decode cX12_way 213 = .ok (.iaload, 1) := by decide +kernel
theorem dX12_way_214 : decode cX12_way 214 = .ok (.iadd, 1) := by decide +kernel
theorem dX12_way_215 : decode cX12_way 215 = .ok (.if_icmp .ge 6, 3) := by decide +kernel
theorem dX12_way_218 : decode cX12_way 218 = .ok (.goto 30, 3) := by decide +kernel
theorem dX12_way_221 : decode cX12_way 221 = .ok (.iload 8, 2) := by decide +kernel
theorem dX12_way_223 : decode cX12_way 223 = .ok (.iconst (-1), 1) := by decide +kernel
theorem dX12_way_224 : decode cX12_way 224 = .ok (.if_icmp .eq 20, 3) := by decide +kernel
theorem dX12_way_227 : decode cX12_way 227 = .ok (.aload_n 0, 1) := by decide +kernel
theorem dX12_way_228 : decode cX12_way 228 = .ok (.getfield 19, 3) := by decide +kernel
theorem dX12_way_231 : decode cX12_way 231 = .ok (.iload 9, 2) := by decide +kernel
theorem dX12_way_233 : decode cX12_way 233 = .ok (.iaload, 1) := by decide +kernel
theorem dX12_way_234 : decode cX12_way 234 = .ok (.aload_n 0, 1) := by decide +kernel
theorem dX12_way_235 : decode cX12_way 235 = .ok (.getfield 19, 3) := by decide +kernel
theorem dX12_way_238 : decode cX12_way 238 = .ok (.iload 8, 2) := by decide +kernel
theorem dX12_way_240 : decode cX12_way 240 = .ok (.iaload, 1) := by decide +kernel
theorem dX12_way_241 : decode cX12_way 241 = .ok (.if_icmp .ge 7, 3) := by decide +kernel
theorem dX12_way_244 : decode cX12_way 244 = .ok (.iload 9, 2) := by decide +kernel
theorem dX12_way_246 : decode cX12_way 246 = .ok (.istore 8, 2) := by decide +kernel
theorem dX12_way_248 : decode cX12_way 248 = .ok (.iinc 9 1, 3) := by decide +kernel
theorem dX12_way_251 : decode cX12_way 251 = .ok (.goto (-100), 3) := by decide +kernel
theorem dX12_way_254 : decode cX12_way 254 = .ok (.iload 8, 2) := by decide +kernel
theorem dX12_way_256 : decode cX12_way 256 = .ok (.iconst (-1), 1) := by decide +kernel
theorem dX12_way_257 : decode cX12_way 257 = .ok (.if_icmp .ne 9, 3) := by decide +kernel
theorem dX12_way_260 : decode cX12_way 260 = .ok (.bipush (-100), 2) := by decide +kernel
theorem dX12_way_262 : decode cX12_way 262 = .ok (.iload 7, 2) := by decide +kernel
theorem dX12_way_264 : decode cX12_way 264 = .ok (.isub, 1) := by decide +kernel
theorem dX12_way_265 : decode cX12_way 265 = .ok (.ireturn, 1) := by decide +kernel
theorem dX12_way_266 : decode cX12_way 266 = .ok (.aload_n 0, 1) := by decide +kernel
theorem dX12_way_267 : decode cX12_way 267 = .ok (.getfield 38, 3) := by decide +kernel
theorem dX12_way_270 : decode cX12_way 270 = .ok (.iload 7, 2) := by decide +kernel
theorem dX12_way_272 : decode cX12_way 272 = .ok (.iload 8, 2) := by decide +kernel
theorem dX12_way_274 : decode cX12_way 274 = .ok (.iastore, 1) := by decide +kernel
theorem dX12_way_275 : decode cX12_way 275 = .ok (.aload_n 0, 1) := by decide +kernel
theorem dX12_way_276 : decode cX12_way 276 = .ok (.getfield 65, 3) := by decide +kernel
theorem dX12_way_279 : decode cX12_way 279 = .ok (.iload 7, 2) := by decide +kernel
theorem dX12_way_281 : decode cX12_way 281 = .ok (.iaload, 1) := by decide +kernel
theorem dX12_way_282 : decode cX12_way 282 = .ok (.istore 4, 2) := by decide +kernel
theorem dX12_way_284 : decode cX12_way 284 = .ok (.aload_n 0, 1) := by decide +kernel
theorem dX12_way_285 : decode cX12_way 285 = .ok (.getfield 19, 3) := by decide +kernel
theorem dX12_way_288 : decode cX12_way 288 = .ok (.iload 8, 2) := by decide +kernel
theorem dX12_way_290 : decode cX12_way 290 = .ok (.iaload, 1) := by decide +kernel
theorem dX12_way_291 : decode cX12_way 291 = .ok (.istore 5, 2) := by decide +kernel
theorem dX12_way_293 : decode cX12_way 293 = .ok (.iconst 0, 1) := by decide +kernel
theorem dX12_way_294 : decode cX12_way 294 = .ok (.istore 6, 2) := by decide +kernel
theorem dX12_way_296 : decode cX12_way 296 = .ok (.iinc 7 1, 3) := by decide +kernel
theorem dX12_way_299 : decode cX12_way 299 = .ok (.goto (-160), 3) := by decide +kernel
theorem dX12_way_302 : decode cX12_way 302 = .ok (.aload_n 0, 1) := by decide +kernel
theorem dX12_way_303 : decode cX12_way 303 = .ok (.iconst 0, 1) := by decide +kernel
theorem dX12_way_304 : decode cX12_way 304 = .ok (.putfield 99, 3) := by decide +kernel
theorem dX12_way_307 : decode cX12_way 307 = .ok (.iconst 0, 1) := by decide +kernel
theorem dX12_way_308 : decode cX12_way 308 = .ok (.istore 7, 2) := by decide +kernel
theorem dX12_way_310 : decode cX12_way 310 = .ok (.iload 7, 2) := by decide +kernel
theorem dX12_way_312 : decode cX12_way 312 = .ok (.iload_n 3, 1) := by decide +kernel
theorem dX12_way_313 : decode cX12_way 313 = .ok (.if_icmp .ge 27, 3) := by decide +kernel
theorem dX12_way_316 : decode cX12_way 316 = .ok (.iload 7, 2) := by decide +kernel
theorem dX12_way_318 : decode cX12_way 318 = .ok (.bipush 12, 2) := by decide +kernel
theorem dX12_way_320 : decode cX12_way 320 = .ok (.if_icmp .ge 20, 3) := by decide +kernel
theorem dX12_way_323 : decode cX12_way 323 = .ok (.aload_n 0, 1) := by decide +kernel
theorem dX12_way_324 : decode cX12_way 324 = .ok (.aload_n 0, 1) := by decide +kernel
theorem dX12_way_325 : decode cX12_way 325 = .ok (.getfield 38, 3) := by decide +kernel
theorem dX12_way_328 : decode cX12_way 328 = .ok (.iload 7, 2) := by decide +kernel
theorem dX12_way_330 : decode cX12_way 330 = .ok (.iaload, 1) := by decide +kernel
theorem dX12_way_331 : decode cX12_way 331 = .ok (.invokevirtual 250, 3) := by decide +kernel
theorem dX12_way_334 : decode cX12_way 334 = .ok (.iinc 7 1, 3) := by decide +kernel
theorem dX12_way_337 : decode cX12_way 337 = .ok (.goto (-27), 3) := by decide +kernel
theorem dX12_way_340 : decode cX12_way 340 = .ok (.iload 5, 2) := by decide +kernel
theorem dX12_way_342 : decode cX12_way 342 = .ok (.ireturn, 1) := by decide +kernel
theorem dX12_tale_0 : decode cX12_tale 0 = .ok (.aload_n 0, 1) := by decide +kernel
theorem dX12_tale_1 : decode cX12_tale 1 = .ok (.iconst 0, 1) := by decide +kernel
theorem dX12_tale_2 : decode cX12_tale 2 = .ok (.putfield 96, 3) := by decide +kernel
theorem dX12_tale_5 : decode cX12_tale 5 = .ok (.aload_n 0, 1) := by decide +kernel
theorem dX12_tale_6 : decode cX12_tale 6 = .ok (.aload_n 0, 1) := by decide +kernel
theorem dX12_tale_7 : decode cX12_tale 7 = .ok (.getfield 25, 3) := by decide +kernel
theorem dX12_tale_10 : decode cX12_tale 10 = .ok (.aload_n 0, 1) := by decide +kernel
theorem dX12_tale_11 : decode cX12_tale 11 = .ok (.getfield 112, 3) := by decide +kernel
theorem dX12_tale_14 : decode cX12_tale 14 = .ok (.bipush 12, 2) := by decide +kernel
theorem dX12_tale_16 : decode cX12_tale 16 = .ok (.invokevirtual 142, 3) := by decide +kernel
theorem dX12_tale_19 : decode cX12_tale 19 = .ok (.aload_n 0, 1) := by decide +kernel
theorem dX12_tale_20 : decode cX12_tale 20 = .ok (.iconst 0, 1) := by decide +kernel
theorem dX12_tale_21 : decode cX12_tale 21 = .ok (.putfield 112, 3) := by decide +kernel
theorem dX12_tale_24 : decode cX12_tale 24 = .ok (.aload_n 0, 1) := by decide +kernel
theorem dX12_tale_25 : decode cX12_tale 25 = .ok (.invokevirtual 130, 3) := by decide +kernel
theorem dX12_tale_28 : decode cX12_tale 28 = .ok (.ifCond .eq 63, 3) := by decide +kernel
theorem dX12_tale_31 : decode cX12_tale 31 = .ok (.aload_n 0, 1) := by decide +kernel
theorem dX12_tale_32 : decode cX12_tale 32 = .ok (.getfield 124, 3) := by decide +kernel
theorem dX12_tale_35 : decode cX12_tale 35 = .ok (.aload_n 0, 1) := by decide +kernel
theorem dX12_tale_36 : decode cX12_tale 36 = .ok (.getfield 118, 3) := by decide +kernel
theorem dX12_tale_39 : decode cX12_tale 39 = .ok (.if_icmp .ge 52, 3) := by decide +kernel
theorem dX12_tale_42 : decode cX12_tale 42 = .ok (.aload_n 0, 1) := by decide +kernel
theorem dX12_tale_43 : decode cX12_tale 43 = .ok (.getfield 124, 3) := by decide +kernel
theorem dX12_tale_46 : decode cX12_tale 46 = .ok (.aload_n 0, 1) := by decide +kernel
theorem dX12_tale_47 : decode cX12_tale 47 = .ok (.getfield 121, 3) := by decide +kernel
theorem dX12_tale_50 : decode cX12_tale 50 = .ok (.if_icmp .ge 41, 3) := by decide +kernel
theorem dX12_tale_53 : decode cX12_tale 53 = .ok (.aload_n 0, 1) := by decide +kernel
theorem dX12_tale_54 : decode cX12_tale 54 = .ok (.invokevirtual 134, 3) := by decide +kernel
theorem dX12_tale_57 : decode cX12_tale 57 = .ok (.bipush 48, 2) := by decide +kernel
theorem dX12_tale_59 : decode cX12_tale 59 = .ok (.bipush 57, 2) := by decide +kernel
theorem dX12_tale_61 : decode cX12_tale 61 = .ok (.invokestatic 105, 3) := by decide +kernel
theorem dX12_tale_64 : decode cX12_tale 64 = .ok (.ifCond .eq 16, 3) := by decide +kernel
theorem dX12_tale_67 : decode cX12_tale 67 = .ok (.aload_n 0, 1) := by decide +kernel
theorem dX12_tale_68 : decode cX12_tale 68 = .ok (.dup, 1) := by decide +kernel
theorem dX12_tale_69 : decode cX12_tale 69 = .ok (.getfield 124, 3) := by decide +kernel
theorem dX12_tale_72 : decode cX12_tale 72 = .ok (.iconst 1, 1) := by decide +kernel
theorem dX12_tale_73 : decode cX12_tale 73 = .ok (.iadd, 1) := by decide +kernel
theorem dX12_tale_74 : decode cX12_tale 74 = .ok (.putfield 124, 3) := by decide +kernel
theorem dX12_tale_77 : decode cX12_tale 77 = .ok (.goto (-53), 3) := by decide +kernel
theorem dX12_tale_80 : decode cX12_tale 80 = .ok (.aload_n 0, 1) := by decide +kernel
theorem dX12_tale_81 : decode cX12_tale 81 = .ok (.aload_n 0, 1) := by decide +kernel
theorem dX12_tale_82 : decode cX12_tale 82 = .ok (.getfield 124, 3) := by decide +kernel
theorem dX12_tale_85 : decode cX12_tale 85 = .ok (.invokevirtual 138, 3) := by decide +kernel
theorem dX12_tale_88 : decode cX12_tale 88 = .ok (.goto (-64), 3) := by decide +kernel
theorem dX12_tale_91 : decode cX12_tale 91 = .ok (.aload_n 0, 1) := by decide +kernel
theorem dX12_tale_92 : decode cX12_tale 92 = .ok (.getfield 124, 3) := by decide +kernel
theorem dX12_tale_95 : decode cX12_tale 95 = .ok (.aload_n 0, 1) := by decide +kernel
theorem dX12_tale_96 : decode cX12_tale 96 = .ok (.getfield 118, 3) := by decide +kernel
theorem dX12_tale_99 : decode cX12_tale 99 = .ok (.if_icmp .ge 11, 3) := by decide +kernel
theorem dX12_tale_102 : decode cX12_tale 102 = .ok (.aload_n 0, 1) := by decide +kernel
theorem dX12_tale_103 : decode cX12_tale 103 = .ok (.aload_n 0, 1) := by decide +kernel
theorem dX12_tale_104 : decode cX12_tale 104 = .ok (.getfield 124, 3) := by decide +kernel
theorem dX12_tale_107 : decode cX12_tale 107 = .ok (.invokevirtual 138, 3) := by decide +kernel
theorem dX12_tale_110 : decode cX12_tale 110 = .ok (.aload_n 0, 1) := by decide +kernel
theorem dX12_tale_111 : decode cX12_tale 111 = .ok (.invokevirtual 130, 3) := by decide +kernel
theorem dX12_tale_114 : decode cX12_tale 114 = .ok (.ifCond .ne 10, 3) := by decide +kernel
theorem dX12_tale_117 : decode cX12_tale 117 = .ok (.iconst (-1), 1) := by decide +kernel
theorem dX12_tale_118 : decode cX12_tale 118 = .ok (.aload_n 0, 1) := by decide +kernel
theorem dX12_tale_119 : decode cX12_tale 119 = .ok (.getfield 127, 3) := by decide +kernel
theorem dX12_tale_122 : decode cX12_tale 122 = .ok (.isub, 1) := by decide +kernel
theorem dX12_tale_123 : decode cX12_tale 123 = .ok (.ireturn, 1) := by decide +kernel
theorem dX12_tale_124 : decode cX12_tale 124 = .ok (.iconst 0, 1) := by decide +kernel
theorem dX12_tale_125 : decode cX12_tale 125 = .ok (.istore_n 1, 1) := by decide +kernel
theorem dX12_tale_126 : decode cX12_tale 126 = .ok (.iload_n 1, 1) := by decide +kernel
theorem dX12_tale_127 : decode cX12_tale 127 = .ok (.aload_n 0, 1) := by decide +kernel
theorem dX12_tale_128 : decode cX12_tale 128 = .ok (.getfield 118, 3) := by decide +kernel
theorem dX12_tale_131 : decode cX12_tale 131 = .ok (.if_icmp .ge 24, 3) := by decide +kernel
theorem dX12_tale_134 : decode cX12_tale 134 = .ok (.aload_n 0, 1) := by decide +kernel
theorem dX12_tale_135 : decode cX12_tale 135 = .ok (.getfield 68, 3) := by decide +kernel
theorem dX12_tale_138 : decode cX12_tale 138 = .ok (.iload_n 1, 1) := by decide +kernel
theorem dX12_tale_139 : decode cX12_tale 139 = .ok (.aload_n 0, 1) := by decide +kernel
theorem dX12_tale_140 : decode cX12_tale 140 = .ok (.getfield 25, 3) := by decide +kernel
theorem dX12_tale_143 : decode cX12_tale 143 = .ok (.iload_n 1, 1) := by decide +kernel
theorem dX12_tale_144 : decode cX12_tale 144 = .ok (.baload, 1) := by decide +kernel
theorem dX12_tale_145 : decode cX12_tale 145 = .ok (.bipush 48, 2) := by decide +kernel
theorem dX12_tale_147 : decode cX12_tale 147 = .ok (.isub, 1) := by decide +kernel
theorem dX12_tale_148 : decode cX12_tale 148 = .ok (.iastore, 1) := by decide +kernel
theorem dX12_tale_149 : decode cX12_tale 149 = .ok (.iinc 1 1, 3) := by decide +kernel
theorem dX12_tale_152 : decode cX12_tale 152 = .ok (.goto (-26), 3) := by decide +kernel
theorem dX12_tale_155 : decode cX12_tale 155 = .ok (.aload_n 0, 1) := by decide +kernel
theorem dX12_tale_156 : decode cX12_tale 156 = .ok (.aload_n 0, 1) := by decide +kernel
theorem dX12_tale_157 : decode cX12_tale 157 = .ok (.getfield 118, 3) := by decide +kernel
theorem dX12_tale_160 : decode cX12_tale 160 = .ok (.putfield 314, 3) := by decide +kernel
theorem dX12_tale_163 : decode cX12_tale 163 = .ok (.aload_n 0, 1) := by decide +kernel
theorem dX12_tale_164 : decode cX12_tale 164 = .ok (.getfield 118, 3) := by decide +kernel
theorem dX12_tale_167 : decode cX12_tale 167 = .ok (.ireturn, 1) := by decide +kernel
theorem dX12_check_0 : decode cX12_check 0 = .ok (.aload_n 0, 1) := by decide +kernel
theorem dX12_check_1 : decode cX12_check 1 = .ok (.iconst 0, 1) := by decide +kernel
theorem dX12_check_2 : decode cX12_check 2 = .ok (.putfield 96, 3) := by decide +kernel
theorem dX12_check_5 : decode cX12_check 5 = .ok (.aload_n 0, 1) := by decide +kernel
theorem dX12_check_6 : decode cX12_check 6 = .ok (.iload_n 1, 1) := by decide +kernel
theorem dX12_check_7 : decode cX12_check 7 = .ok (.invokevirtual 241, 3) := by decide +kernel
theorem dX12_check_10 : decode cX12_check 10 = .ok (.ifCond .ne 5, 3) := by decide +kernel
theorem dX12_check_13 : decode cX12_check 13 = .ok (.iconst (-1), 1) := by decide +kernel
theorem dX12_check_14 : decode cX12_check 14 = .ok (.ireturn, 1) := by decide +kernel
theorem dX12_check_15 : decode cX12_check 15 = .ok (.iconst 0, 1) := by decide +kernel
theorem dX12_check_16 : decode cX12_check 16 = .ok (.istore_n 2, 1) := by decide +kernel
theorem dX12_check_17 : decode cX12_check 17 = .ok (.iload_n 2, 1) := by decide +kernel
theorem dX12_check_18 : decode cX12_check 18 = .ok (.aload_n 0, 1) := by decide +kernel
theorem dX12_check_19 : decode cX12_check 19 = .ok (.iload_n 1, 1) := by decide +kernel
theorem dX12_check_20 : decode cX12_check 20 = .ok (.invokevirtual 216, 3) := by decide +kernel
theorem dX12_check_23 : decode cX12_check 23 = .ok (.if_icmp .ge 25, 3) := by decide +kernel
theorem dX12_check_26 : decode cX12_check 26 = .ok (.aload_n 0, 1) := by decide +kernel
theorem dX12_check_27 : decode cX12_check 27 = .ok (.getfield 38, 3) := by decide +kernel
theorem dX12_check_30 : decode cX12_check 30 = .ok (.iload_n 2, 1) := by decide +kernel
theorem dX12_check_31 : decode cX12_check 31 = .ok (.aload_n 0, 1) := by decide +kernel
theorem dX12_check_32 : decode cX12_check 32 = .ok (.getfield 35, 3) := by decide +kernel
theorem dX12_check_35 : decode cX12_check 35 = .ok (.iload_n 1, 1) := by decide +kernel
theorem dX12_check_36 : decode cX12_check 36 = .ok (.iload_n 2, 1) := by decide +kernel
theorem dX12_check_37 : decode cX12_check 37 = .ok (.invokestatic 219, 3) := by decide +kernel
theorem dX12_check_40 : decode cX12_check 40 = .ok (.iaload, 1) := by decide +kernel
theorem dX12_check_41 : decode cX12_check 41 = .ok (.iastore, 1) := by decide +kernel
theorem dX12_check_42 : decode cX12_check 42 = .ok (.iinc 2 1, 3) := by decide +kernel
theorem dX12_check_45 : decode cX12_check 45 = .ok (.goto (-28), 3) := by decide +kernel
theorem dX12_check_48 : decode cX12_check 48 = .ok (.iconst 1, 1) := by decide +kernel
theorem dX12_check_49 : decode cX12_check 49 = .ok (.istore_n 2, 1) := by decide +kernel
theorem dX12_check_50 : decode cX12_check 50 = .ok (.iload_n 2, 1) := by decide +kernel
theorem dX12_check_51 : decode cX12_check 51 = .ok (.aload_n 0, 1) := by decide +kernel
theorem dX12_check_52 : decode cX12_check 52 = .ok (.iload_n 1, 1) := by decide +kernel
theorem dX12_check_53 : decode cX12_check 53 = .ok (.invokevirtual 216, 3) := by decide +kernel
theorem dX12_check_56 : decode cX12_check 56 = .ok (.if_icmp .ge 68, 3) := by decide +kernel
theorem dX12_check_59 : decode cX12_check 59 = .ok (.aload_n 0, 1) := by decide +kernel
theorem dX12_check_60 : decode cX12_check 60 = .ok (.aload_n 0, 1) := by decide +kernel
theorem dX12_check_61 : decode cX12_check 61 = .ok (.getfield 35, 3) := by decide +kernel
theorem dX12_check_64 : decode cX12_check 64 = .ok (.iload_n 1, 1) := by decide +kernel
theorem dX12_check_65 : decode cX12_check 65 = .ok (.iload_n 2, 1) := by decide +kernel
theorem dX12_check_66 : decode cX12_check 66 = .ok (.invokestatic 219, 3) := by decide +kernel
theorem dX12_check_69 : decode cX12_check 69 = .ok (.iconst 1, 1) := by decide +kernel
theorem dX12_check_70 : decode cX12_check 70 = .ok (.iadd, 1) := by decide +kernel
theorem dX12_check_71 : decode cX12_check 71 = .ok (.iaload, 1) := by decide +kernel
theorem dX12_check_72 : decode cX12_check 72 = .ok (.aload_n 0, 1) := by decide +kernel
theorem dX12_check_73 : decode cX12_check 73 = .ok (.getfield 35, 3) := by decide +kernel
theorem dX12_check_76 : decode cX12_check 76 = .ok (.iload_n 1, 1) := by decide +kernel
theorem dX12_check_77 : decode cX12_check 77 = .ok (.iload_n 2, 1) := by decide +kernel
theorem dX12_check_78 : decode cX12_check 78 = .ok (.iconst 1, 1) := by decide +kernel
theorem dX12_check_79 : decode cX12_check 79 = .ok (.isub, 1) := by decide +kernel
theorem dX12_check_80 : decode cX12_check 80 = .ok (.invokestatic 219, 3) := by decide +kernel
theorem dX12_check_83 : decode cX12_check 83 = .ok (.iconst 1, 1) := by decide +kernel
theorem dX12_check_84 : decode cX12_check 84 = .ok (.iadd, 1) := by decide +kernel
theorem dX12_check_85 : decode cX12_check 85 = .ok (.iaload, 1) := by decide +kernel
theorem dX12_check_86 : decode cX12_check 86 = .ok (.aload_n 0, 1) := by decide +kernel
theorem dX12_check_87 : decode cX12_check 87 = .ok (.getfield 35, 3) := by decide +kernel
theorem dX12_check_90 : decode cX12_check 90 = .ok (.iload_n 1, 1) := by decide +kernel
theorem dX12_check_91 : decode cX12_check 91 = .ok (.iload_n 2, 1) := by decide +kernel
theorem dX12_check_92 : decode cX12_check 92 = .ok (.invokestatic 219, 3) := by decide +kernel
theorem dX12_check_95 : decode cX12_check 95 = .ok (.iconst 2, 1) := by decide +kernel
theorem dX12_check_96 : decode cX12_check 96 = .ok (.iadd, 1) := by decide +kernel
theorem dX12_check_97 : decode cX12_check 97 = .ok (.iaload, 1) := by decide +kernel
theorem dX12_check_98 : decode cX12_check 98 = .ok (.aload_n 0, 1) := by decide +kernel
theorem dX12_check_99 : decode cX12_check 99 = .ok (.getfield 38, 3) := by decide +kernel
theorem dX12_check_102 : decode cX12_check 102 = .ok (.iconst 0, 1) := by decide +kernel
theorem dX12_check_103 : decode cX12_check 103 = .ok (.iload_n 2, 1) := by decide +kernel
theorem dX12_check_104 : decode cX12_check 104 = .ok (.invokevirtual 237, 3) := by decide +kernel
theorem dX12_check_107 : decode cX12_check 107 = .ok (.aload_n 0, 1) := by decide +kernel
theorem dX12_check_108 : decode cX12_check 108 = .ok (.getfield 38, 3) := by decide +kernel
theorem dX12_check_111 : decode cX12_check 111 = .ok (.iload_n 2, 1) := by decide +kernel
theorem dX12_check_112 : decode cX12_check 112 = .ok (.iaload, 1) := by decide +kernel
theorem dX12_check_113 : decode cX12_check 113 = .ok (.if_icmp .eq 5, 3) := by decide +kernel
theorem dX12_check_116 : decode cX12_check 116 = .ok (.iload_n 2, 1) := by decide +kernel
theorem dX12_check_117 : decode cX12_check 117 = .ok (.ireturn, 1) := by decide +kernel
theorem dX12_check_118 : decode cX12_check 118 = .ok (.iinc 2 1, 3) := by decide +kernel
theorem dX12_check_121 : decode cX12_check 121 = .ok (.goto (-71), 3) := by decide +kernel
theorem dX12_check_124 : decode cX12_check 124 = .ok (.bipush (-2), 2) := by decide +kernel
theorem dX12_check_126 : decode cX12_check 126 = .ok (.ireturn, 1) := by decide +kernel
theorem dX12_copy_0 : decode cX12_copy 0 = .ok (.aload_n 0, 1) := by decide +kernel
theorem dX12_copy_1 : decode cX12_copy 1 = .ok (.iconst 0, 1) := by decide +kernel
theorem dX12_copy_2 : decode cX12_copy 2 = .ok (.putfield 96, 3) := by decide +kernel
theorem dX12_copy_5 : decode cX12_copy 5 = .ok (.aload_n 0, 1) := by decide +kernel
theorem dX12_copy_6 : decode cX12_copy 6 = .ok (.iload_n 1, 1) := by decide +kernel
theorem dX12_copy_7 : decode cX12_copy 7 = .ok (.invokevirtual 241, 3) := by decide +kernel
theorem dX12_copy_10 : decode cX12_copy 10 = .ok (.ifCond .ne 5, 3) := by decide +kernel
theorem dX12_copy_13 : decode cX12_copy 13 = .ok (.iconst (-1), 1) := by decide +kernel
theorem dX12_copy_14 : decode cX12_copy 14 = .ok (.ireturn, 1) := by decide +kernel
theorem dX12_copy_15 : decode cX12_copy 15 = .ok (.aload_n 0, 1) := by decide +kernel
theorem dX12_copy_16 : decode cX12_copy 16 = .ok (.bipush 12, 2) := by decide +kernel
theorem dX12_copy_18 : decode cX12_copy 18 = .ok (.aload_n 0, 1) := by decide +kernel
theorem dX12_copy_19 : decode cX12_copy 19 = .ok (.iload_n 1, 1) := by decide +kernel
theorem dX12_copy_20 : decode cX12_copy 20 = .ok (.invokevirtual 216, 3) := by decide +kernel
theorem dX12_copy_23 : decode cX12_copy 23 = .ok (.invokestatic 207, 3) := by decide +kernel
theorem dX12_copy_26 : decode cX12_copy 26 = .ok (.putfield 314, 3) := by decide +kernel
theorem dX12_copy_29 : decode cX12_copy 29 = .ok (.iconst 0, 1) := by decide +kernel
theorem dX12_copy_30 : decode cX12_copy 30 = .ok (.istore_n 2, 1) := by decide +kernel
theorem dX12_copy_31 : decode cX12_copy 31 = .ok (.iload_n 2, 1) := by decide +kernel
theorem dX12_copy_32 : decode cX12_copy 32 = .ok (.aload_n 0, 1) := by decide +kernel
theorem dX12_copy_33 : decode cX12_copy 33 = .ok (.getfield 314, 3) := by decide +kernel
theorem dX12_copy_36 : decode cX12_copy 36 = .ok (.if_icmp .ge 25, 3) := by decide +kernel
theorem dX12_copy_39 : decode cX12_copy 39 = .ok (.aload_n 0, 1) := by decide +kernel
theorem dX12_copy_40 : decode cX12_copy 40 = .ok (.getfield 68, 3) := by decide +kernel
theorem dX12_copy_43 : decode cX12_copy 43 = .ok (.iload_n 2, 1) := by decide +kernel
theorem dX12_copy_44 : decode cX12_copy 44 = .ok (.aload_n 0, 1) := by decide +kernel
theorem dX12_copy_45 : decode cX12_copy 45 = .ok (.getfield 35, 3) := by decide +kernel
theorem dX12_copy_48 : decode cX12_copy 48 = .ok (.iload_n 1, 1) := by decide +kernel
theorem dX12_copy_49 : decode cX12_copy 49 = .ok (.iload_n 2, 1) := by decide +kernel
theorem dX12_copy_50 : decode cX12_copy 50 = .ok (.invokestatic 219, 3) := by decide +kernel
theorem dX12_copy_53 : decode cX12_copy 53 = .ok (.iaload, 1) := by decide +kernel
theorem dX12_copy_54 : decode cX12_copy 54 = .ok (.iastore, 1) := by decide +kernel
theorem dX12_copy_55 : decode cX12_copy 55 = .ok (.iinc 2 1, 3) := by decide +kernel
theorem dX12_copy_58 : decode cX12_copy 58 = .ok (.goto (-27), 3) := by decide +kernel
theorem dX12_copy_61 : decode cX12_copy 61 = .ok (.aload_n 0, 1) := by decide +kernel
theorem dX12_copy_62 : decode cX12_copy 62 = .ok (.getfield 314, 3) := by decide +kernel
theorem dX12_copy_65 : decode cX12_copy 65 = .ok (.ireturn, 1) := by decide +kernel
theorem dX12_isSo_0 : decode cX12_isSo 0 = .ok (.aload_n 0, 1) := by decide +kernel
theorem dX12_isSo_1 : decode cX12_isSo 1 = .ok (.aload_n 0, 1) := by decide +kernel
theorem dX12_isSo_2 : decode cX12_isSo 2 = .ok (.iload_n 1, 1) := by decide +kernel
theorem dX12_isSo_3 : decode cX12_isSo 3 = .ok (.invokevirtual 268, 3) := by decide +kernel
theorem dX12_isSo_6 : decode cX12_isSo 6 = .ok (.aload_n 0, 1) := by decide +kernel
theorem dX12_isSo_7 : decode cX12_isSo 7 = .ok (.iload_n 1, 1) := by decide +kernel
theorem dX12_isSo_8 : decode cX12_isSo 8 = .ok (.invokevirtual 265, 3) := by decide +kernel
theorem dX12_isSo_11 : decode cX12_isSo 11 = .ok (.aload_n 0, 1) := by decide +kernel
theorem dX12_isSo_12 : decode cX12_isSo 12 = .ok (.getfield 19, 3) := by decide +kernel
theorem dX12_isSo_15 : decode cX12_isSo 15 = .ok (.iload_n 1, 1) := by decide +kernel
theorem dX12_isSo_16 : decode cX12_isSo 16 = .ok (.iconst 2, 1) := by decide +kernel
theorem dX12_isSo_17 : decode cX12_isSo 17 = .ok (.idiv, 1) := by decide +kernel
theorem dX12_isSo_18 : decode cX12_isSo 18 = .ok (.iaload, 1) := by decide +kernel
theorem dX12_isSo_19 : decode cX12_isSo 19 = .ok (.aload_n 0, 1) := by decide +kernel
theorem dX12_isSo_20 : decode cX12_isSo 20 = .ok (.getfield 68, 3) := by decide +kernel
theorem dX12_isSo_23 : decode cX12_isSo 23 = .ok (.iload_n 2, 1) := by decide +kernel
theorem dX12_isSo_24 : decode cX12_isSo 24 = .ok (.iload_n 3, 1) := by decide +kernel
theorem dX12_isSo_25 : decode cX12_isSo 25 = .ok (.invokevirtual 237, 3) := by decide +kernel
theorem dX12_isSo_28 : decode cX12_isSo 28 = .ok (.aload_n 0, 1) := by decide +kernel
theorem dX12_isSo_29 : decode cX12_isSo 29 = .ok (.getfield 68, 3) := by decide +kernel
theorem dX12_isSo_32 : decode cX12_isSo 32 = .ok (.iload_n 2, 1) := by decide +kernel
theorem dX12_isSo_33 : decode cX12_isSo 33 = .ok (.iload_n 3, 1) := by decide +kernel
theorem dX12_isSo_34 : decode cX12_isSo 34 = .ok (.iadd, 1) := by decide +kernel
theorem dX12_isSo_35 : decode cX12_isSo 35 = .ok (.iaload, 1) := by decide +kernel
theorem dX12_isSo_36 : decode cX12_isSo 36 = .ok (.if_icmp .ne 7, 3) := by decide +kernel
theorem dX12_isSo_39 : decode cX12_isSo 39 = .ok (.iconst 1, 1) := by decide +kernel
theorem dX12_isSo_40 : decode cX12_isSo 40 = .ok (.goto 4, 3) := by decide +kernel
theorem dX12_isSo_43 : decode cX12_isSo 43 = .ok (.iconst 0, 1) := by decide +kernel
theorem dX12_isSo_44 : decode cX12_isSo 44 = .ok (.ireturn, 1) := by decide +kernel
theorem dX12_findFits_0 : decode cX12_findFits 0 = .ok (.aload_n 0, 1) := by decide +kernel
theorem dX12_findFits_1 : decode cX12_findFits 1 = .ok (.invokevirtual 271, 3) := by decide +kernel
theorem dX12_findFits_4 : decode cX12_findFits 4 = .ok (.iload_n 2, 1) := by decide +kernel
theorem dX12_findFits_5 : decode cX12_findFits 5 = .ok (.iconst 1, 1) := by decide +kernel
theorem dX12_findFits_6 : decode cX12_findFits 6 = .ok (.isub, 1) := by decide +kernel
theorem dX12_findFits_7 : decode cX12_findFits 7 = .ok (.istore 4, 2) := by decide +kernel
theorem dX12_findFits_9 : decode cX12_findFits 9 = .ok (.iload 4, 2) := by decide +kernel
theorem dX12_findFits_11 : decode cX12_findFits 11 = .ok (.ifCond .le 148, 3) := by decide +kernel
theorem dX12_findFits_14 : decode cX12_findFits 14 = .ok (.iconst 0, 1) := by decide +kernel
theorem dX12_findFits_15 : decode cX12_findFits 15 = .ok (.istore 5, 2) := by decide +kernel
theorem dX12_findFits_17 : decode cX12_findFits 17 = .ok (.iload 5, 2) := by decide +kernel
theorem dX12_findFits_19 : decode cX12_findFits 19 = .ok (.aload_n 0, 1) := by decide +kernel
theorem dX12_findFits_20 : decode cX12_findFits 20 = .ok (.getfield 262, 3) := by decide +kernel
theorem dX12_findFits_23 : decode cX12_findFits 23 = .ok (.if_icmp .ge 130, 3) := by decide +kernel
theorem dX12_findFits_26 : decode cX12_findFits 26 = .ok (.lconst 0, 1) := by decide +kernel
theorem dX12_findFits_27 : decode cX12_findFits 27 = .ok (.lstore 6, 2) := by decide +kernel
theorem dX12_findFits_29 : decode cX12_findFits 29 = .ok (.aload_n 0, 1) := by decide +kernel
theorem dX12_findFits_30 : decode cX12_findFits 30 = .ok (.iload 5, 2) := by decide +kernel
theorem dX12_findFits_32 : decode cX12_findFits 32 = .ok (.invokevirtual 305, 3) := by decide +kernel
theorem dX12_findFits_35 : decode cX12_findFits 35 = .ok (.ifCond .eq 97, 3) := by decide +kernel
theorem dX12_findFits_38 : decode cX12_findFits 38 = .ok (.aload_n 0, 1) := by decide +kernel
theorem dX12_findFits_39 : decode cX12_findFits 39 = .ok (.iload 5, 2) := by decide +kernel
theorem dX12_findFits_41 : decode cX12_findFits 41 = .ok (.iload_n 1, 1) := by decide +kernel
theorem dX12_findFits_42 : decode cX12_findFits 42 = .ok (.iload 4, 2) := by decide +kernel
theorem dX12_findFits_44 : decode cX12_findFits 44 = .ok (.invokevirtual 317, 3) := by decide +kernel
theorem dX12_findFits_47 : decode cX12_findFits 47 = .ok (.ifCond .eq 85, 3) := by decide +kernel
theorem dX12_findFits_50 : decode cX12_findFits 50 = .ok (.iload 4, 2) := by decide +kernel
theorem dX12_findFits_52 : decode cX12_findFits 52 = .ok (.iload_n 2, 1) := by decide +kernel
theorem dX12_findFits_53 : decode cX12_findFits 53 = .ok (.iconst 1, 1) := by decide +kernel
theorem dX12_findFits_54 : decode cX12_findFits 54 = .ok (.isub, 1) := by decide +kernel
theorem dX12_findFits_55 : decode cX12_findFits 55 = .ok (.if_icmp .ne 17, 3) := by decide +kernel
theorem dX12_findFits_58 : decode cX12_findFits 58 = .ok (.aload_n 0, 1) := by decide +kernel
theorem dX12_findFits_59 : decode cX12_findFits 59 = .ok (.iload 5, 2) := by decide +kernel
theorem dX12_findFits_61 : decode cX12_findFits 61 = .ok (.invokevirtual 268, 3) := by decide +kernel
theorem dX12_findFits_64 : decode cX12_findFits 64 = .ok (.iload_n 3, 1) := by decide +kernel
theorem dX12_findFits_65 : decode cX12_findFits 65 = .ok (.if_icmp .ne 7, 3) := by decide +kernel
theorem dX12_findFits_68 : decode cX12_findFits 68 = .ok (.lconst 1, 1) := by decide +kernel
theorem dX12_findFits_69 : decode cX12_findFits 69 = .ok (.goto 4, 3) := by decide +kernel
theorem dX12_findFits_72 : decode cX12_findFits 72 = .ok (.lconst 0, 1) := by decide +kernel
theorem dX12_findFits_73 : decode cX12_findFits 73 = .ok (.lstore 6, 2) := by decide +kernel
theorem dX12_findFits_75 : decode cX12_findFits 75 = .ok (.iconst 0, 1) := by decide +kernel
theorem dX12_findFits_76 : decode cX12_findFits 76 = .ok (.istore 8, 2) := by decide +kernel
theorem dX12_findFits_78 : decode cX12_findFits 78 = .ok (.iload 8, 2) := by decide +kernel
theorem dX12_findFits_80 : decode cX12_findFits 80 = .ok (.aload_n 0, 1) := by decide +kernel
theorem dX12_findFits_81 : decode cX12_findFits 81 = .ok (.getfield 262, 3) := by decide +kernel
theorem dX12_findFits_84 : decode cX12_findFits 84 = .ok (.if_icmp .ge 48, 3) := by decide +kernel
theorem dX12_findFits_87 : decode cX12_findFits 87 = .ok (.iload 4, 2) := by decide +kernel
theorem dX12_findFits_89 : decode cX12_findFits 89 = .ok (.iload_n 2, 1) := by decide +kernel
theorem dX12_findFits_90 : decode cX12_findFits 90 = .ok (.iconst 1, 1) := by decide +kernel
theorem dX12_findFits_91 : decode cX12_findFits 91 = .ok (.isub, 1) := by decide +kernel
theorem dX12_findFits_92 : decode cX12_findFits 92 = .ok (.if_icmp .ge 40, 3) := by decide +kernel
theorem dX12_findFits_95 : decode cX12_findFits 95 = .ok (.aload_n 0, 1) := by decide +kernel
theorem dX12_findFits_96 : decode cX12_findFits 96 = .ok (.iload 8, 2) := by decide +kernel
theorem dX12_findFits_98 : decode cX12_findFits 98 = .ok (.iload 5, 2) := by decide +kernel
theorem dX12_findFits_100 : decode cX12_findFits 100 = .ok (.invokevirtual 280, 3) := by decide +kernel
theorem dX12_findFits_103 : decode cX12_findFits 103 = .ok (.ifCond .eq 23, 3) := by decide +kernel
theorem dX12_findFits_106 : decode cX12_findFits 106 = .ok (.lload 6, 2) := by decide +kernel
theorem dX12_findFits_108 : decode cX12_findFits 108 = .ok (.aload_n 0, 1) := by decide +kernel
theorem dX12_findFits_109 : decode cX12_findFits 109 = .ok (.getfield 71, 3) := by decide +kernel
theorem dX12_findFits_112 : decode cX12_findFits 112 = .ok (.bipush 40, 2) := by decide +kernel
theorem dX12_findFits_114 : decode cX12_findFits 114 = .ok (.iload 4, 2) := by decide +kernel
theorem dX12_findFits_116 : decode cX12_findFits 116 = .ok (.iconst 1, 1) := by decide +kernel
theorem dX12_findFits_117 : decode cX12_findFits 117 = .ok (.iadd, 1) := by decide +kernel
theorem dX12_findFits_118 : decode cX12_findFits 118 = .ok (.imul, 1) := by decide +kernel
theorem dX12_findFits_119 : decode cX12_findFits 119 = .ok (.iload 8, 2) := by decide +kernel
theorem dX12_findFits_121 : decode cX12_findFits 121 = .ok (.iadd, 1) := by decide +kernel
theorem dX12_findFits_122 : decode cX12_findFits 122 = .ok (.laload, 1) := by decide +kernel
theorem dX12_findFits_123 : decode cX12_findFits 123 = .ok (.ladd, 1) := by decide +kernel
theorem dX12_findFits_124 : decode cX12_findFits 124 = .ok (.lstore 6, 2) := by decide +kernel
theorem dX12_findFits_126 : decode cX12_findFits 126 = .ok (.iinc 8 1, 3) := by decide +kernel
theorem dX12_findFits_129 : decode cX12_findFits 129 = .ok (.goto (-51), 3) := by decide +kernel
theorem dX12_findFits_132 : decode cX12_findFits 132 = .ok (.aload_n 0, 1) := by decide +kernel
theorem dX12_findFits_133 : decode cX12_findFits 133 = .ok (.getfield 71, 3) := by decide +kernel
theorem dX12_findFits_136 : decode cX12_findFits 136 = .ok (.bipush 40, 2) := by decide +kernel
theorem dX12_findFits_138 : decode cX12_findFits 138 = .ok (.iload 4, 2) := by decide +kernel
theorem dX12_findFits_140 : decode cX12_findFits 140 = .ok (.imul, 1) := by decide +kernel
theorem dX12_findFits_141 : decode cX12_findFits 141 = .ok (.iload 5, 2) := by decide +kernel
theorem dX12_findFits_143 : decode cX12_findFits 143 = .ok (.iadd, 1) := by decide +kernel
theorem dX12_findFits_144 : decode cX12_findFits 144 = .ok (.lload 6, 2) := by decide +kernel
theorem dX12_findFits_146 : decode cX12_findFits 146 = .ok (.lastore, 1) := by decide +kernel
theorem dX12_findFits_147 : decode cX12_findFits 147 = .ok (.iinc 5 1, 3) := by decide +kernel
theorem dX12_findFits_150 : decode cX12_findFits 150 = .ok (.goto (-133), 3) := by decide +kernel
theorem dX12_findFits_153 : decode cX12_findFits 153 = .ok (.iinc 4 (-1), 3) := by decide +kernel
theorem dX12_findFits_156 : decode cX12_findFits 156 = .ok (.goto (-147), 3) := by decide +kernel
theorem dX12_findFits_159 : decode cX12_findFits 159 = .ok (.return_, 1) := by decide +kernel
theorem dX12_countFits_0 : decode cX12_countFits 0 = .ok (.iload_n 2, 1) := by decide +kernel
theorem dX12_countFits_1 : decode cX12_countFits 1 = .ok (.iconst 1, 1) := by decide +kernel
theorem dX12_countFits_2 : decode cX12_countFits 2 = .ok (.if_icmp .ne 24, 3) := by decide +kernel
theorem dX12_countFits_5 : decode cX12_countFits 5 = .ok (.iload_n 3, 1) := by decide +kernel
theorem dX12_countFits_6 : decode cX12_countFits 6 = .ok (.iload 4, 2) := by decide +kernel
theorem dX12_countFits_8 : decode cX12_countFits 8 = .ok (.if_icmp .ne 16, 3) := by decide +kernel
theorem dX12_countFits_11 : decode cX12_countFits 11 = .ok (.aload_n 0, 1) := by decide +kernel
theorem dX12_countFits_12 : decode cX12_countFits 12 = .ok (.getfield 62, 3) := by decide +kernel
theorem dX12_countFits_15 : decode cX12_countFits 15 = .ok (.iload 4, 2) := by decide +kernel
theorem dX12_countFits_17 : decode cX12_countFits 17 = .ok (.if_icmp .eq 7, 3) := by decide +kernel
theorem dX12_countFits_20 : decode cX12_countFits 20 = .ok (.lconst 1, 1) := by decide +kernel
theorem dX12_countFits_21 : decode cX12_countFits 21 = .ok (.goto 4, 3) := by decide +kernel
theorem dX12_countFits_24 : decode cX12_countFits 24 = .ok (.lconst 0, 1) := by decide +kernel
theorem dX12_countFits_25 : decode cX12_countFits 25 = .ok (.lreturn, 1) := by decide +kernel
theorem dX12_countFits_26 : decode cX12_countFits 26 = .ok (.aload_n 0, 1) := by decide +kernel
theorem dX12_countFits_27 : decode cX12_countFits 27 = .ok (.iload_n 1, 1) := by decide +kernel
theorem dX12_countFits_28 : decode cX12_countFits 28 = .ok (.iload_n 2, 1) := by decide +kernel
theorem dX12_countFits_29 : decode cX12_countFits 29 = .ok (.iload 4, 2) := by decide +kernel
theorem dX12_countFits_31 : decode cX12_countFits 31 = .ok (.invokevirtual 320, 3) := by decide +kernel
theorem dX12_countFits_34 : decode cX12_countFits 34 = .ok (.lconst 0, 1) := by decide +kernel
theorem dX12_countFits_35 : decode cX12_countFits 35 = .ok (.lstore 6, 2) := by decide +kernel
theorem dX12_countFits_37 : decode cX12_countFits 37 = .ok (.iconst 0, 1) := by decide +kernel
theorem dX12_countFits_38 : decode cX12_countFits 38 = .ok (.istore 8, 2) := by decide +kernel
theorem dX12_countFits_40 : decode cX12_countFits 40 = .ok (.iload 8, 2) := by decide +kernel
theorem dX12_countFits_42 : decode cX12_countFits 42 = .ok (.aload_n 0, 1) := by decide +kernel
theorem dX12_countFits_43 : decode cX12_countFits 43 = .ok (.getfield 262, 3) := by decide +kernel
theorem dX12_countFits_46 : decode cX12_countFits 46 = .ok (.if_icmp .ge 36, 3) := by decide +kernel
theorem dX12_countFits_49 : decode cX12_countFits 49 = .ok (.aload_n 0, 1) := by decide +kernel
theorem dX12_countFits_50 : decode cX12_countFits 50 = .ok (.iload 8, 2) := by decide +kernel
theorem dX12_countFits_52 : decode cX12_countFits 52 = .ok (.iload_n 3, 1) := by decide +kernel
theorem dX12_countFits_53 : decode cX12_countFits 53 = .ok (.iload 5, 2) := by decide +kernel
theorem dX12_countFits_55 : decode cX12_countFits 55 = .ok (.invokevirtual 291, 3) := by decide +kernel
theorem dX12_countFits_58 : decode cX12_countFits 58 = .ok (.ifCond .eq 18, 3) := by decide +kernel
theorem dX12_countFits_61 : decode cX12_countFits 61 = .ok (.lload 6, 2) := by decide +kernel
theorem dX12_countFits_63 : decode cX12_countFits 63 = .ok (.aload_n 0, 1) := by decide +kernel
theorem dX12_countFits_64 : decode cX12_countFits 64 = .ok (.getfield 71, 3) := by decide +kernel
theorem dX12_countFits_67 : decode cX12_countFits 67 = .ok (.bipush 40, 2) := by decide +kernel
theorem dX12_countFits_69 : decode cX12_countFits 69 = .ok (.iload 8, 2) := by decide +kernel
theorem dX12_countFits_71 : decode cX12_countFits 71 = .ok (.iadd, 1) := by decide +kernel
theorem dX12_countFits_72 : decode cX12_countFits 72 = .ok (.laload, 1) := by decide +kernel
theorem dX12_countFits_73 : decode cX12_countFits 73 = .ok (.ladd, 1) := by decide +kernel
theorem dX12_countFits_74 : decode cX12_countFits 74 = .ok (.lstore 6, 2) := by decide +kernel
theorem dX12_countFits_76 : decode cX12_countFits 76 = .ok (.iinc 8 1, 3) := by decide +kernel
theorem dX12_countFits_79 : decode cX12_countFits 79 = .ok (.goto (-39), 3) := by decide +kernel
theorem dX12_countFits_82 : decode cX12_countFits 82 = .ok (.lload 6, 2) := by decide +kernel
theorem dX12_countFits_84 : decode cX12_countFits 84 = .ok (.lreturn, 1) := by decide +kernel
theorem dX12_fits_0 : decode cX12_fits 0 = .ok (.aload_n 0, 1) := by decide +kernel
theorem dX12_fits_1 : decode cX12_fits 1 = .ok (.iconst 0, 1) := by decide +kernel
theorem dX12_fits_2 : decode cX12_fits 2 = .ok (.putfield 96, 3) := by decide +kernel
theorem dX12_fits_5 : decode cX12_fits 5 = .ok (.aload_n 0, 1) := by decide +kernel
theorem dX12_fits_6 : decode cX12_fits 6 = .ok (.iload_n 1, 1) := by decide +kernel
theorem dX12_fits_7 : decode cX12_fits 7 = .ok (.iload_n 2, 1) := by decide +kernel
theorem dX12_fits_8 : decode cX12_fits 8 = .ok (.iload_n 3, 1) := by decide +kernel
theorem dX12_fits_9 : decode cX12_fits 9 = .ok (.invokevirtual 294, 3) := by decide +kernel
theorem dX12_fits_12 : decode cX12_fits 12 = .ok (.ifCond .ne 7, 3) := by decide +kernel
theorem dX12_fits_15 : decode cX12_fits 15 = .ok (.ldc2_w 312, 3) := by decide +kernel
theorem dX12_fits_18 : decode cX12_fits 18 = .ok (.lreturn, 1) := by decide +kernel
theorem dX12_fits_19 : decode cX12_fits 19 = .ok (.aload_n 0, 1) := by decide +kernel
theorem dX12_fits_20 : decode cX12_fits 20 = .ok (.getfield 314, 3) := by decide +kernel
theorem dX12_fits_23 : decode cX12_fits 23 = .ok (.ifCond .ne 7, 3) := by decide +kernel
theorem dX12_fits_26 : decode cX12_fits 26 = .ok (.ldc2_w 324, 3) := by decide +kernel
theorem dX12_fits_29 : decode cX12_fits 29 = .ok (.lreturn, 1) := by decide +kernel
theorem dX12_fits_30 : decode cX12_fits 30 = .ok (.aload_n 0, 1) := by decide +kernel
theorem dX12_fits_31 : decode cX12_fits 31 = .ok (.iconst 0, 1) := by decide +kernel
theorem dX12_fits_32 : decode cX12_fits 32 = .ok (.aload_n 0, 1) := by decide +kernel
theorem dX12_fits_33 : decode cX12_fits 33 = .ok (.getfield 314, 3) := by decide +kernel
theorem dX12_fits_36 : decode cX12_fits 36 = .ok (.iload_n 1, 1) := by decide +kernel
theorem dX12_fits_37 : decode cX12_fits 37 = .ok (.iload_n 2, 1) := by decide +kernel
theorem dX12_fits_38 : decode cX12_fits 38 = .ok (.iload_n 3, 1) := by decide +kernel
theorem dX12_fits_39 : decode cX12_fits 39 = .ok (.invokevirtual 326, 3) := by decide +kernel
theorem dX12_fits_42 : decode cX12_fits 42 = .ok (.lstore 4, 2) := by decide +kernel
theorem dX12_fits_44 : decode cX12_fits 44 = .ok (.aload_n 0, 1) := by decide +kernel
theorem dX12_fits_45 : decode cX12_fits 45 = .ok (.iconst 0, 1) := by decide +kernel
theorem dX12_fits_46 : decode cX12_fits 46 = .ok (.putfield 99, 3) := by decide +kernel
theorem dX12_fits_49 : decode cX12_fits 49 = .ok (.iconst (-1), 1) := by decide +kernel
theorem dX12_fits_50 : decode cX12_fits 50 = .ok (.istore 6, 2) := by decide +kernel
theorem dX12_fits_52 : decode cX12_fits 52 = .ok (.iconst 1, 1) := by decide +kernel
theorem dX12_fits_53 : decode cX12_fits 53 = .ok (.istore 7, 2) := by decide +kernel
theorem dX12_fits_55 : decode cX12_fits 55 = .ok (.iload 7, 2) := by decide +kernel
theorem dX12_fits_57 : decode cX12_fits 57 = .ok (.aload_n 0, 1) := by decide +kernel
theorem dX12_fits_58 : decode cX12_fits 58 = .ok (.getfield 314, 3) := by decide +kernel
theorem dX12_fits_61 : decode cX12_fits 61 = .ok (.if_icmp .ge 119, 3) := by decide +kernel
theorem dX12_fits_64 : decode cX12_fits 64 = .ok (.lload 4, 2) := by decide +kernel
theorem dX12_fits_66 : decode cX12_fits 66 = .ok (.lconst 0, 1) := by decide +kernel
theorem dX12_fits_67 : decode cX12_fits 67 = .ok (.lcmp, 1) := by decide +kernel
theorem dX12_fits_68 : decode cX12_fits 68 = .ok (.ifCond .le 112, 3) := by decide +kernel
theorem dX12_fits_71 : decode cX12_fits 71 = .ok (.iconst (-1), 1) := by decide +kernel
theorem dX12_fits_72 : decode cX12_fits 72 = .ok (.istore 8, 2) := by decide +kernel
theorem dX12_fits_74 : decode cX12_fits 74 = .ok (.iconst 0, 1) := by decide +kernel
theorem dX12_fits_75 : decode cX12_fits 75 = .ok (.istore 9, 2) := by decide +kernel
theorem dX12_fits_77 : decode cX12_fits 77 = .ok (.iload 9, 2) := by decide +kernel
theorem dX12_fits_79 : decode cX12_fits 79 = .ok (.aload_n 0, 1) := by decide +kernel
theorem dX12_fits_80 : decode cX12_fits 80 = .ok (.getfield 262, 3) := by decide +kernel
theorem dX12_fits_83 : decode cX12_fits 83 = .ok (.if_icmp .ge 79, 3) := by decide +kernel
theorem dX12_fits_86 : decode cX12_fits 86 = .ok (.iload 6, 2) := by decide +kernel
theorem dX12_fits_88 : decode cX12_fits 88 = .ok (.iconst (-1), 1) := by decide +kernel
theorem dX12_fits_89 : decode cX12_fits 89 = .ok (.if_icmp .ne 17, 3) := by decide +kernel
theorem dX12_fits_92 : decode cX12_fits 92 = .ok (.aload_n 0, 1) := by decide +kernel
theorem dX12_fits_93 : decode cX12_fits 93 = .ok (.iload 9, 2) := by decide +kernel
theorem dX12_fits_95 : decode cX12_fits 95 = .ok (.iload_n 1, 1) := by decide +kernel
theorem dX12_fits_96 : decode cX12_fits 96 = .ok (.iload_n 3, 1) := by decide +kernel
theorem dX12_fits_97 : decode cX12_fits 97 = .ok (.invokevirtual 291, 3) := by decide +kernel
theorem dX12_fits_100 : decode cX12_fits 100 = .ok (.ifCond .eq 56, 3) := by decide +kernel
theorem dX12_fits_103 : decode cX12_fits 103 = .ok (.goto 14, 3) := by decide +kernel
theorem dX12_fits_106 : decode cX12_fits 106 = .ok (.aload_n 0, 1) := by decide +kernel
theorem dX12_fits_107 : decode cX12_fits 107 = .ok (.iload 9, 2) := by decide +kernel
theorem dX12_fits_109 : decode cX12_fits 109 = .ok (.iload 6, 2) := by decide +kernel
theorem dX12_fits_111 : decode cX12_fits 111 = .ok (.invokevirtual 280, 3) := by decide +kernel
theorem dX12_fits_114 : decode cX12_fits 114 = .ok (.ifCond .eq 42, 3) := by decide +kernel
theorem dX12_fits_117 : decode cX12_fits 117 = .ok (.aload_n 0, 1) := by decide +kernel
theorem dX12_fits_118 : decode cX12_fits 118 = .ok (.getfield 71, 3) := by decide +kernel
theorem dX12_fits_121 : decode cX12_fits 121 = .ok (.bipush 40, 2) := by decide +kernel
theorem dX12_fits_123 : decode cX12_fits 123 = .ok (.iload 7, 2) := by decide +kernel
theorem dX12_fits_125 : decode cX12_fits 125 = .ok (.imul, 1) := by decide +kernel
theorem dX12_fits_126 : decode cX12_fits 126 = .ok (.iload 9, 2) := by decide +kernel
theorem dX12_fits_128 : decode cX12_fits 128 = .ok (.iadd, 1) := by decide +kernel
theorem dX12_fits_129 : decode cX12_fits 129 = .ok (.laload, 1) := by decide +kernel
theorem dX12_fits_130 : decode cX12_fits 130 = .ok (.lconst 0, 1) := by decide +kernel
theorem dX12_fits_131 : decode cX12_fits 131 = .ok (.lcmp, 1) := by decide +kernel
theorem dX12_fits_132 : decode cX12_fits 132 = .ok (.ifCond .le 24, 3) := by decide +kernel
theorem dX12_fits_135 : decode cX12_fits 135 = .ok (.iload 8, 2) := by decide +kernel
theorem dX12_fits_137 : decode cX12_fits 137 = .ok (.iconst (-1), 1) := by decide +kernel
theorem dX12_fits_138 : decode cX12_fits 138 = .ok (.if_icmp .eq 14, 3) := by decide +kernel
theorem dX12_fits_141 : decode cX12_fits 141 = .ok (.iload 9, 2) := by decide +kernel
theorem dX12_fits_143 : decode cX12_fits 143 = .ok (.iconst 2, 1) := by decide +kernel
theorem dX12_fits_144 : decode cX12_fits 144 = .ok (.idiv, 1) := by decide +kernel
theorem dX12_fits_145 : decode cX12_fits 145 = .ok (.iload 8, 2) := by decide +kernel
theorem dX12_fits_147 : decode cX12_fits 147 = .ok (.iconst 2, 1) := by decide +kernel
theorem dX12_fits_148 : decode cX12_fits 148 = .ok (.idiv, 1) := by decide +kernel
theorem dX12_fits_149 : decode cX12_fits 149 = .ok (.if_icmp .ge 7, 3) := by decide +kernel
theorem dX12_fits_152 : decode cX12_fits 152 = .ok (.iload 9, 2) := by decide +kernel
theorem dX12_fits_154 : decode cX12_fits 154 = .ok (.istore 8, 2) := by decide +kernel
theorem dX12_fits_156 : decode cX12_fits 156 = .ok (.iinc 9 1, 3) := by decide +kernel
theorem dX12_fits_159 : decode cX12_fits 159 = .ok (.goto (-82), 3) := by decide +kernel
theorem dX12_fits_162 : decode cX12_fits 162 = .ok (.aload_n 0, 1) := by decide +kernel
theorem dX12_fits_163 : decode cX12_fits 163 = .ok (.iload 8, 2) := by decide +kernel
theorem dX12_fits_165 : decode cX12_fits 165 = .ok (.iconst 2, 1) := by decide +kernel
theorem dX12_fits_166 : decode cX12_fits 166 = .ok (.idiv, 1) := by decide +kernel
theorem dX12_fits_167 : decode cX12_fits 167 = .ok (.invokevirtual 250, 3) := by decide +kernel
theorem dX12_fits_170 : decode cX12_fits 170 = .ok (.iload 8, 2) := by decide +kernel
theorem dX12_fits_172 : decode cX12_fits 172 = .ok (.istore 6, 2) := by decide +kernel
theorem dX12_fits_174 : decode cX12_fits 174 = .ok (.iinc 7 1, 3) := by decide +kernel
theorem dX12_fits_177 : decode cX12_fits 177 = .ok (.goto (-122), 3) := by decide +kernel
theorem dX12_fits_180 : decode cX12_fits 180 = .ok (.lload 4, 2) := by decide +kernel
theorem dX12_fits_182 : decode cX12_fits 182 = .ok (.lreturn, 1) := by decide +kernel
theorem dX12_sure_0 : decode cX12_sure 0 = .ok (.aload_n 0, 1) := by decide +kernel
theorem dX12_sure_1 : decode cX12_sure 1 = .ok (.iconst 0, 1) := by decide +kernel
theorem dX12_sure_2 : decode cX12_sure 2 = .ok (.putfield 96, 3) := by decide +kernel
theorem dX12_sure_5 : decode cX12_sure 5 = .ok (.aload_n 0, 1) := by decide +kernel
theorem dX12_sure_6 : decode cX12_sure 6 = .ok (.iload_n 1, 1) := by decide +kernel
theorem dX12_sure_7 : decode cX12_sure 7 = .ok (.iload_n 2, 1) := by decide +kernel
theorem dX12_sure_8 : decode cX12_sure 8 = .ok (.iload_n 3, 1) := by decide +kernel
theorem dX12_sure_9 : decode cX12_sure 9 = .ok (.invokevirtual 294, 3) := by decide +kernel
theorem dX12_sure_12 : decode cX12_sure 12 = .ok (.ifCond .ne 5, 3) := by decide +kernel
theorem dX12_sure_15 : decode cX12_sure 15 = .ok (.iconst (-1), 1) := by decide +kernel
theorem dX12_sure_16 : decode cX12_sure 16 = .ok (.ireturn, 1) := by decide +kernel
theorem dX12_sure_17 : decode cX12_sure 17 = .ok (.aload_n 0, 1) := by decide +kernel
theorem dX12_sure_18 : decode cX12_sure 18 = .ok (.getfield 314, 3) := by decide +kernel
theorem dX12_sure_21 : decode cX12_sure 21 = .ok (.ifCond .ne 6, 3) := by decide +kernel
theorem dX12_sure_24 : decode cX12_sure 24 = .ok (.bipush (-2), 2) := by decide +kernel
theorem dX12_sure_26 : decode cX12_sure 26 = .ok (.ireturn, 1) := by decide +kernel
theorem dX12_sure_27 : decode cX12_sure 27 = .ok (.aload_n 0, 1) := by decide +kernel
theorem dX12_sure_28 : decode cX12_sure 28 = .ok (.iconst 0, 1) := by decide +kernel
theorem dX12_sure_29 : decode cX12_sure 29 = .ok (.aload_n 0, 1) := by decide +kernel
theorem dX12_sure_30 : decode cX12_sure 30 = .ok (.getfield 314, 3) := by decide +kernel
theorem dX12_sure_33 : decode cX12_sure 33 = .ok (.iload_n 1, 1) := by decide +kernel
theorem dX12_sure_34 : decode cX12_sure 34 = .ok (.iload_n 2, 1) := by decide +kernel
theorem dX12_sure_35 : decode cX12_sure 35 = .ok (.iload_n 3, 1) := by decide +kernel
theorem dX12_sure_36 : decode cX12_sure 36 = .ok (.invokevirtual 326, 3) := by decide +kernel
theorem dX12_sure_39 : decode cX12_sure 39 = .ok (.lstore 4, 2) := by decide +kernel
theorem dX12_sure_41 : decode cX12_sure 41 = .ok (.iconst 0, 1) := by decide +kernel
theorem dX12_sure_42 : decode cX12_sure 42 = .ok (.istore 6, 2) := by decide +kernel
theorem dX12_sure_44 : decode cX12_sure 44 = .ok (.iconst 0, 1) := by decide +kernel
theorem dX12_sure_45 : decode cX12_sure 45 = .ok (.istore 7, 2) := by decide +kernel
theorem dX12_sure_47 : decode cX12_sure 47 = .ok (.iconst 0, 1) := by decide +kernel
theorem dX12_sure_48 : decode cX12_sure 48 = .ok (.istore 8, 2) := by decide +kernel
theorem dX12_sure_50 : decode cX12_sure 50 = .ok (.iload 8, 2) := by decide +kernel
theorem dX12_sure_52 : decode cX12_sure 52 = .ok (.aload_n 0, 1) := by decide +kernel
theorem dX12_sure_53 : decode cX12_sure 53 = .ok (.getfield 102, 3) := by decide +kernel
theorem dX12_sure_56 : decode cX12_sure 56 = .ok (.if_icmp .ge 91, 3) := by decide +kernel
theorem dX12_sure_59 : decode cX12_sure 59 = .ok (.lload 4, 2) := by decide +kernel
theorem dX12_sure_61 : decode cX12_sure 61 = .ok (.lconst 0, 1) := by decide +kernel
theorem dX12_sure_62 : decode cX12_sure 62 = .ok (.lcmp, 1) := by decide +kernel
theorem dX12_sure_63 : decode cX12_sure 63 = .ok (.ifCond .le 84, 3) := by decide +kernel
theorem dX12_sure_66 : decode cX12_sure 66 = .ok (.lconst 0, 1) := by decide +kernel
theorem dX12_sure_67 : decode cX12_sure 67 = .ok (.lstore 9, 2) := by decide +kernel
theorem dX12_sure_69 : decode cX12_sure 69 = .ok (.iload 8, 2) := by decide +kernel
theorem dX12_sure_71 : decode cX12_sure 71 = .ok (.iload_n 1, 1) := by decide +kernel
theorem dX12_sure_72 : decode cX12_sure 72 = .ok (.if_icmp .eq 28, 3) := by decide +kernel
theorem dX12_sure_75 : decode cX12_sure 75 = .ok (.aload_n 0, 1) := by decide +kernel
theorem dX12_sure_76 : decode cX12_sure 76 = .ok (.iload 8, 2) := by decide +kernel
theorem dX12_sure_78 : decode cX12_sure 78 = .ok (.putfield 62, 3) := by decide +kernel
theorem dX12_sure_81 : decode cX12_sure 81 = .ok (.aload_n 0, 1) := by decide +kernel
theorem dX12_sure_82 : decode cX12_sure 82 = .ok (.iconst 0, 1) := by decide +kernel
theorem dX12_sure_83 : decode cX12_sure 83 = .ok (.aload_n 0, 1) := by decide +kernel
theorem dX12_sure_84 : decode cX12_sure 84 = .ok (.getfield 314, 3) := by decide +kernel
theorem dX12_sure_87 : decode cX12_sure 87 = .ok (.iload_n 1, 1) := by decide +kernel
theorem dX12_sure_88 : decode cX12_sure 88 = .ok (.iload_n 2, 1) := by decide +kernel
theorem dX12_sure_89 : decode cX12_sure 89 = .ok (.iload_n 3, 1) := by decide +kernel
theorem dX12_sure_90 : decode cX12_sure 90 = .ok (.invokevirtual 326, 3) := by decide +kernel
theorem dX12_sure_93 : decode cX12_sure 93 = .ok (.lstore 9, 2) := by decide +kernel
theorem dX12_sure_95 : decode cX12_sure 95 = .ok (.aload_n 0, 1) := by decide +kernel
theorem dX12_sure_96 : decode cX12_sure 96 = .ok (.iconst (-1), 1) := by decide +kernel
theorem dX12_sure_97 : decode cX12_sure 97 = .ok (.putfield 62, 3) := by decide +kernel
theorem dX12_sure_100 : decode cX12_sure 100 = .ok (.iload 6, 2) := by decide +kernel
theorem dX12_sure_102 : decode cX12_sure 102 = .ok (.lload 9, 2) := by decide +kernel
theorem dX12_sure_104 : decode cX12_sure 104 = .ok (.lconst 0, 1) := by decide +kernel
theorem dX12_sure_105 : decode cX12_sure 105 = .ok (.lcmp, 1) := by decide +kernel
theorem dX12_sure_106 : decode cX12_sure 106 = .ok (.ifCond .ne 10, 3) := by decide +kernel
theorem dX12_sure_109 : decode cX12_sure 109 = .ok (.iconst 1, 1) := by decide +kernel
theorem dX12_sure_110 : decode cX12_sure 110 = .ok (.iload 8, 2) := by decide +kernel
theorem dX12_sure_112 : decode cX12_sure 112 = .ok (.ishl, 1) := by decide +kernel
theorem dX12_sure_113 : decode cX12_sure 113 = .ok (.goto 4, 3) := by decide +kernel
theorem dX12_sure_116 : decode cX12_sure 116 = .ok (.iconst 0, 1) := by decide +kernel
theorem dX12_sure_117 : decode cX12_sure 117 = .ok (.ior, 1) := by decide +kernel
theorem dX12_sure_118 : decode cX12_sure 118 = .ok (.istore 6, 2) := by decide +kernel
theorem dX12_sure_120 : decode cX12_sure 120 = .ok (.iload 7, 2) := by decide +kernel
theorem dX12_sure_122 : decode cX12_sure 122 = .ok (.lload 9, 2) := by decide +kernel
theorem dX12_sure_124 : decode cX12_sure 124 = .ok (.lload 4, 2) := by decide +kernel
theorem dX12_sure_126 : decode cX12_sure 126 = .ok (.lcmp, 1) := by decide +kernel
theorem dX12_sure_127 : decode cX12_sure 127 = .ok (.ifCond .ge 10, 3) := by decide +kernel
theorem dX12_sure_130 : decode cX12_sure 130 = .ok (.iconst 1, 1) := by decide +kernel
theorem dX12_sure_131 : decode cX12_sure 131 = .ok (.iload 8, 2) := by decide +kernel
theorem dX12_sure_133 : decode cX12_sure 133 = .ok (.ishl, 1) := by decide +kernel
theorem dX12_sure_134 : decode cX12_sure 134 = .ok (.goto 4, 3) := by decide +kernel
theorem dX12_sure_137 : decode cX12_sure 137 = .ok (.iconst 0, 1) := by decide +kernel
theorem dX12_sure_138 : decode cX12_sure 138 = .ok (.ior, 1) := by decide +kernel
theorem dX12_sure_139 : decode cX12_sure 139 = .ok (.istore 7, 2) := by decide +kernel
theorem dX12_sure_141 : decode cX12_sure 141 = .ok (.iinc 8 1, 3) := by decide +kernel
theorem dX12_sure_144 : decode cX12_sure 144 = .ok (.goto (-94), 3) := by decide +kernel
theorem dX12_sure_147 : decode cX12_sure 147 = .ok (.aload_n 0, 1) := by decide +kernel
theorem dX12_sure_148 : decode cX12_sure 148 = .ok (.iconst 0, 1) := by decide +kernel
theorem dX12_sure_149 : decode cX12_sure 149 = .ok (.putfield 99, 3) := by decide +kernel
theorem dX12_sure_152 : decode cX12_sure 152 = .ok (.aload_n 0, 1) := by decide +kernel
theorem dX12_sure_153 : decode cX12_sure 153 = .ok (.iload 7, 2) := by decide +kernel
theorem dX12_sure_155 : decode cX12_sure 155 = .ok (.invokevirtual 250, 3) := by decide +kernel
theorem dX12_sure_158 : decode cX12_sure 158 = .ok (.iload 6, 2) := by decide +kernel
theorem dX12_sure_160 : decode cX12_sure 160 = .ok (.ireturn, 1) := by decide +kernel
theorem dX12_writers_0 : decode cX12_writers 0 = .ok (.aload_n 0, 1) := by decide +kernel
theorem dX12_writers_1 : decode cX12_writers 1 = .ok (.iconst 0, 1) := by decide +kernel
theorem dX12_writers_2 : decode cX12_writers 2 = .ok (.putfield 96, 3) := by decide +kernel
theorem dX12_writers_5 : decode cX12_writers 5 = .ok (.aload_n 0, 1) := by decide +kernel
theorem dX12_writers_6 : decode cX12_writers 6 = .ok (.iload_n 1, 1) := by decide +kernel
theorem dX12_writers_7 : decode cX12_writers 7 = .ok (.iload_n 1, 1) := by decide +kernel
theorem dX12_writers_8 : decode cX12_writers 8 = .ok (.iload_n 2, 1) := by decide +kernel
theorem dX12_writers_9 : decode cX12_writers 9 = .ok (.invokevirtual 294, 3) := by decide +kernel
theorem dX12_writers_12 : decode cX12_writers 12 = .ok (.ifCond .ne 5, 3) := by decide +kernel
theorem dX12_writers_15 : decode cX12_writers 15 = .ok (.iconst (-1), 1) := by decide +kernel
theorem dX12_writers_16 : decode cX12_writers 16 = .ok (.ireturn, 1) := by decide +kernel
theorem dX12_writers_17 : decode cX12_writers 17 = .ok (.aload_n 0, 1) := by decide +kernel
theorem dX12_writers_18 : decode cX12_writers 18 = .ok (.getfield 314, 3) := by decide +kernel
theorem dX12_writers_21 : decode cX12_writers 21 = .ok (.ifCond .ne 6, 3) := by decide +kernel
theorem dX12_writers_24 : decode cX12_writers 24 = .ok (.bipush (-2), 2) := by decide +kernel
theorem dX12_writers_26 : decode cX12_writers 26 = .ok (.ireturn, 1) := by decide +kernel
theorem dX12_writers_27 : decode cX12_writers 27 = .ok (.iconst 0, 1) := by decide +kernel
theorem dX12_writers_28 : decode cX12_writers 28 = .ok (.istore_n 3, 1) := by decide +kernel
theorem dX12_writers_29 : decode cX12_writers 29 = .ok (.iconst 0, 1) := by decide +kernel
theorem dX12_writers_30 : decode cX12_writers 30 = .ok (.istore 4, 2) := by decide +kernel
theorem dX12_writers_32 : decode cX12_writers 32 = .ok (.iload 4, 2) := by decide +kernel
theorem dX12_writers_34 : decode cX12_writers 34 = .ok (.aload_n 0, 1) := by decide +kernel
theorem dX12_writers_35 : decode cX12_writers 35 = .ok (.getfield 102, 3) := by decide +kernel
theorem dX12_writers_38 : decode cX12_writers 38 = .ok (.if_icmp .ge 38, 3) := by decide +kernel
theorem dX12_writers_41 : decode cX12_writers 41 = .ok (.iload_n 3, 1) := by decide +kernel
theorem dX12_writers_42 : decode cX12_writers 42 = .ok (.aload_n 0, 1) := by decide +kernel
theorem dX12_writers_43 : decode cX12_writers 43 = .ok (.iconst 0, 1) := by decide +kernel
theorem dX12_writers_44 : decode cX12_writers 44 = .ok (.aload_n 0, 1) := by decide +kernel
theorem dX12_writers_45 : decode cX12_writers 45 = .ok (.getfield 314, 3) := by decide +kernel
theorem dX12_writers_48 : decode cX12_writers 48 = .ok (.iload 4, 2) := by decide +kernel
theorem dX12_writers_50 : decode cX12_writers 50 = .ok (.iload_n 1, 1) := by decide +kernel
theorem dX12_writers_51 : decode cX12_writers 51 = .ok (.iload_n 2, 1) := by decide +kernel
theorem dX12_writers_52 : decode cX12_writers 52 = .ok (.invokevirtual 326, 3) := by decide +kernel
theorem dX12_writers_55 : decode cX12_writers 55 = .ok (.lconst 0, 1) := by decide +kernel
theorem dX12_writers_56 : decode cX12_writers 56 = .ok (.lcmp, 1) := by decide +kernel
theorem dX12_writers_57 : decode cX12_writers 57 = .ok (.ifCond .le 10, 3) := by decide +kernel
theorem dX12_writers_60 : decode cX12_writers 60 = .ok (.iconst 1, 1) := by decide +kernel
theorem dX12_writers_61 : decode cX12_writers 61 = .ok (.iload 4, 2) := by decide +kernel
theorem dX12_writers_63 : decode cX12_writers 63 = .ok (.ishl, 1) := by decide +kernel
theorem dX12_writers_64 : decode cX12_writers 64 = .ok (.goto 4, 3) := by decide +kernel
theorem dX12_writers_67 : decode cX12_writers 67 = .ok (.iconst 0, 1) := by decide +kernel
theorem dX12_writers_68 : decode cX12_writers 68 = .ok (.ior, 1) := by decide +kernel
theorem dX12_writers_69 : decode cX12_writers 69 = .ok (.istore_n 3, 1) := by decide +kernel
theorem dX12_writers_70 : decode cX12_writers 70 = .ok (.iinc 4 1, 3) := by decide +kernel
theorem dX12_writers_73 : decode cX12_writers 73 = .ok (.goto (-41), 3) := by decide +kernel
theorem dX12_writers_76 : decode cX12_writers 76 = .ok (.iload_n 3, 1) := by decide +kernel
theorem dX12_writers_77 : decode cX12_writers 77 = .ok (.ireturn, 1) := by decide +kernel
theorem dX12_canLeave_0 : decode cX12_canLeave 0 = .ok (.aload_n 0, 1) := by decide +kernel
theorem dX12_canLeave_1 : decode cX12_canLeave 1 = .ok (.getfield 77, 3) := by decide +kernel
theorem dX12_canLeave_4 : decode cX12_canLeave 4 = .ok (.iconst (-1), 1) := by decide +kernel
theorem dX12_canLeave_5 : decode cX12_canLeave 5 = .ok (.if_icmp .eq 15, 3) := by decide +kernel
theorem dX12_canLeave_8 : decode cX12_canLeave 8 = .ok (.aload_n 0, 1) := by decide +kernel
theorem dX12_canLeave_9 : decode cX12_canLeave 9 = .ok (.iload_n 1, 1) := by decide +kernel
theorem dX12_canLeave_10 : decode cX12_canLeave 10 = .ok (.invokevirtual 268, 3) := by decide +kernel
theorem dX12_canLeave_13 : decode cX12_canLeave 13 = .ok (.aload_n 0, 1) := by decide +kernel
theorem dX12_canLeave_14 : decode cX12_canLeave 14 = .ok (.getfield 77, 3) := by decide +kernel
theorem dX12_canLeave_17 : decode cX12_canLeave 17 = .ok (.if_icmp .ne 7, 3) := by decide +kernel
theorem dX12_canLeave_20 : decode cX12_canLeave 20 = .ok (.iconst 1, 1) := by decide +kernel
theorem dX12_canLeave_21 : decode cX12_canLeave 21 = .ok (.goto 4, 3) := by decide +kernel
theorem dX12_canLeave_24 : decode cX12_canLeave 24 = .ok (.iconst 0, 1) := by decide +kernel
theorem dX12_canLeave_25 : decode cX12_canLeave 25 = .ok (.ireturn, 1) := by decide +kernel
theorem dX12_countMissing_0 : decode cX12_countMissing 0 = .ok (.aload_n 0, 1) := by decide +kernel
theorem dX12_countMissing_1 : decode cX12_countMissing 1 = .ok (.invokevirtual 271, 3) := by decide +kernel
theorem dX12_countMissing_4 : decode cX12_countMissing 4 = .ok (.aload_n 0, 1) := by decide +kernel
theorem dX12_countMissing_5 : decode cX12_countMissing 5 = .ok (.getfield 262, 3) := by decide +kernel
theorem dX12_countMissing_8 : decode cX12_countMissing 8 = .ok (.iconst 1, 1) := by decide +kernel
theorem dX12_countMissing_9 : decode cX12_countMissing 9 = .ok (.isub, 1) := by decide +kernel
theorem dX12_countMissing_10 : decode cX12_countMissing 10 = .ok (.istore 4, 2) := by decide +kernel
theorem dX12_countMissing_12 : decode cX12_countMissing 12 = .ok (.iload 4, 2) := by decide +kernel
theorem dX12_countMissing_14 : decode cX12_countMissing 14 = .ok (.ifCond .lt 243, 3) := by decide +kernel
theorem dX12_countMissing_17 : decode cX12_countMissing 17 = .ok (.aload_n 0, 1) := by decide +kernel
theorem dX12_countMissing_18 : decode cX12_countMissing 18 = .ok (.getfield 41, 3) := by decide +kernel
theorem dX12_countMissing_21 : decode cX12_countMissing 21 = .ok (.iload 4, 2) := by decide +kernel
theorem dX12_countMissing_23 : decode cX12_countMissing 23 = .ok (.iaload, 1) := by decide +kernel
theorem dX12_countMissing_24 : decode cX12_countMissing 24 = .ok (.istore 5, 2) := by decide +kernel
theorem dX12_countMissing_26 : decode cX12_countMissing 26 = .ok (.aload_n 0, 1) := by decide +kernel
theorem dX12_countMissing_27 : decode cX12_countMissing 27 = .ok (.getfield 314, 3) := by decide +kernel
theorem dX12_countMissing_30 : decode cX12_countMissing 30 = .ok (.istore 6, 2) := by decide +kernel
theorem dX12_countMissing_32 : decode cX12_countMissing 32 = .ok (.iload 6, 2) := by decide +kernel
theorem dX12_countMissing_34 : decode cX12_countMissing 34 = .ok (.ifCond .le 217, 3) := by decide +kernel
theorem dX12_countMissing_37 : decode cX12_countMissing 37 = .ok (.iload 6, 2) := by decide +kernel
theorem dX12_countMissing_39 : decode cX12_countMissing 39 = .ok (.aload_n 0, 1) := by decide +kernel
theorem dX12_countMissing_40 : decode cX12_countMissing 40 = .ok (.getfield 314, 3) := by decide +kernel
theorem dX12_countMissing_43 : decode cX12_countMissing 43 = .ok (.if_icmp .ne 17, 3) := by decide +kernel
theorem dX12_countMissing_46 : decode cX12_countMissing 46 = .ok (.aload_n 0, 1) := by decide +kernel
theorem dX12_countMissing_47 : decode cX12_countMissing 47 = .ok (.iload 5, 2) := by decide +kernel
theorem dX12_countMissing_49 : decode cX12_countMissing 49 = .ok (.invokevirtual 268, 3) := by decide +kernel
theorem dX12_countMissing_52 : decode cX12_countMissing 52 = .ok (.iload_n 2, 1) := by decide +kernel
theorem dX12_countMissing_53 : decode cX12_countMissing 53 = .ok (.if_icmp .ne 7, 3) := by decide +kernel
theorem dX12_countMissing_56 : decode cX12_countMissing 56 = .ok (.lconst 1, 1) := by decide +kernel
theorem dX12_countMissing_57 : decode cX12_countMissing 57 = .ok (.goto 4, 3) := by decide +kernel
theorem dX12_countMissing_60 : decode cX12_countMissing 60 = .ok (.lconst 0, 1) := by decide +kernel
theorem dX12_countMissing_61 : decode cX12_countMissing 61 = .ok (.lstore 7, 2) := by decide +kernel
theorem dX12_countMissing_63 : decode cX12_countMissing 63 = .ok (.lconst 0, 1) := by decide +kernel
theorem dX12_countMissing_64 : decode cX12_countMissing 64 = .ok (.lstore 9, 2) := by decide +kernel
theorem dX12_countMissing_66 : decode cX12_countMissing 66 = .ok (.iconst 0, 1) := by decide +kernel
theorem dX12_countMissing_67 : decode cX12_countMissing 67 = .ok (.istore 11, 2) := by decide +kernel
theorem dX12_countMissing_69 : decode cX12_countMissing 69 = .ok (.iload 11, 2) := by decide +kernel
theorem dX12_countMissing_71 : decode cX12_countMissing 71 = .ok (.aload_n 0, 1) := by decide +kernel
theorem dX12_countMissing_72 : decode cX12_countMissing 72 = .ok (.getfield 262, 3) := by decide +kernel
theorem dX12_countMissing_75 : decode cX12_countMissing 75 = .ok (.if_icmp .ge 140, 3) := by decide +kernel
theorem dX12_countMissing_78 : decode cX12_countMissing 78 = .ok (.aload_n 0, 1) := by decide +kernel
theorem dX12_countMissing_79 : decode cX12_countMissing 79 = .ok (.iload 11, 2) := by decide +kernel
theorem dX12_countMissing_81 : decode cX12_countMissing 81 = .ok (.iload 5, 2) := by decide +kernel
theorem dX12_countMissing_83 : decode cX12_countMissing 83 = .ok (.invokevirtual 280, 3) := by decide +kernel
theorem dX12_countMissing_86 : decode cX12_countMissing 86 = .ok (.ifCond .ne 6, 3) := by decide +kernel
theorem dX12_countMissing_89 : decode cX12_countMissing 89 = .ok (.goto 120, 3) := by decide +kernel
theorem dX12_countMissing_92 : decode cX12_countMissing 92 = .ok (.iload 6, 2) := by decide +kernel
theorem dX12_countMissing_94 : decode cX12_countMissing 94 = .ok (.aload_n 0, 1) := by decide +kernel
theorem dX12_countMissing_95 : decode cX12_countMissing 95 = .ok (.getfield 314, 3) := by decide +kernel
theorem dX12_countMissing_98 : decode cX12_countMissing 98 = .ok (.if_icmp .ge 19, 3) := by decide +kernel
theorem dX12_countMissing_101 : decode cX12_countMissing 101 = .ok (.aload_n 0, 1) := by decide +kernel
theorem dX12_countMissing_102 : decode cX12_countMissing 102 = .ok (.iload 11, 2) := by decide +kernel
theorem dX12_countMissing_104 : decode cX12_countMissing 104 = .ok (.iconst 0, 1) := by decide +kernel
theorem dX12_countMissing_105 : decode cX12_countMissing 105 = .ok (.iload 6, 2) := by decide +kernel
theorem dX12_countMissing_107 : decode cX12_countMissing 107 = .ok (.invokevirtual 317, 3) := by decide +kernel
theorem dX12_countMissing_110 : decode cX12_countMissing 110 = .ok (.ifCond .eq 7, 3) := by decide +kernel
theorem dX12_countMissing_113 : decode cX12_countMissing 113 = .ok (.iconst 1, 1) := by decide +kernel
theorem dX12_countMissing_114 : decode cX12_countMissing 114 = .ok (.goto 4, 3) := by decide +kernel
theorem dX12_countMissing_117 : decode cX12_countMissing 117 = .ok (.iconst 0, 1) := by decide +kernel
theorem dX12_countMissing_118 : decode cX12_countMissing 118 = .ok (.istore 12, 2) := by decide +kernel
theorem dX12_countMissing_120 : decode cX12_countMissing 120 = .ok (.lload 7, 2) := by decide +kernel
theorem dX12_countMissing_122 : decode cX12_countMissing 122 = .ok (.iload 12, 2) := by decide +kernel
theorem dX12_countMissing_124 : decode cX12_countMissing 124 = .ok (.ifCond .eq 21, 3) := by decide +kernel
theorem dX12_countMissing_127 : decode cX12_countMissing 127 = .ok (.aload_n 0, 1) := by decide +kernel
theorem dX12_countMissing_128 : decode cX12_countMissing 128 = .ok (.getfield 71, 3) := by decide +kernel
theorem dX12_countMissing_131 : decode cX12_countMissing 131 = .ok (.bipush 40, 2) := by decide +kernel
theorem dX12_countMissing_133 : decode cX12_countMissing 133 = .ok (.iload 6, 2) := by decide +kernel
theorem dX12_countMissing_135 : decode cX12_countMissing 135 = .ok (.iconst 1, 1) := by decide +kernel
theorem dX12_countMissing_136 : decode cX12_countMissing 136 = .ok (.iadd, 1) := by decide +kernel
theorem dX12_countMissing_137 : decode cX12_countMissing 137 = .ok (.imul, 1) := by decide +kernel
theorem dX12_countMissing_138 : decode cX12_countMissing 138 = .ok (.iload 11, 2) := by decide +kernel
theorem dX12_countMissing_140 : decode cX12_countMissing 140 = .ok (.iadd, 1) := by decide +kernel
theorem dX12_countMissing_141 : decode cX12_countMissing 141 = .ok (.laload, 1) := by decide +kernel
theorem dX12_countMissing_142 : decode cX12_countMissing 142 = .ok (.goto 4, 3) := by decide +kernel
theorem dX12_countMissing_145 : decode cX12_countMissing 145 = .ok (.lconst 0, 1) := by decide +kernel
theorem dX12_countMissing_146 : decode cX12_countMissing 146 = .ok (.ladd, 1) := by decide +kernel
theorem dX12_countMissing_147 : decode cX12_countMissing 147 = .ok (.lstore 7, 2) := by decide +kernel
theorem dX12_countMissing_149 : decode cX12_countMissing 149 = .ok (.lload 9, 2) := by decide +kernel
theorem dX12_countMissing_151 : decode cX12_countMissing 151 = .ok (.iload 12, 2) := by decide +kernel
theorem dX12_countMissing_153 : decode cX12_countMissing 153 = .ok (.ifCond .eq 21, 3) := by decide +kernel
theorem dX12_countMissing_156 : decode cX12_countMissing 156 = .ok (.aload_n 0, 1) := by decide +kernel
theorem dX12_countMissing_157 : decode cX12_countMissing 157 = .ok (.getfield 74, 3) := by decide +kernel
theorem dX12_countMissing_160 : decode cX12_countMissing 160 = .ok (.bipush 40, 2) := by decide +kernel
theorem dX12_countMissing_162 : decode cX12_countMissing 162 = .ok (.iload 6, 2) := by decide +kernel
theorem dX12_countMissing_164 : decode cX12_countMissing 164 = .ok (.iconst 1, 1) := by decide +kernel
theorem dX12_countMissing_165 : decode cX12_countMissing 165 = .ok (.iadd, 1) := by decide +kernel
theorem dX12_countMissing_166 : decode cX12_countMissing 166 = .ok (.imul, 1) := by decide +kernel
theorem dX12_countMissing_167 : decode cX12_countMissing 167 = .ok (.iload 11, 2) := by decide +kernel
theorem dX12_countMissing_169 : decode cX12_countMissing 169 = .ok (.iadd, 1) := by decide +kernel
theorem dX12_countMissing_170 : decode cX12_countMissing 170 = .ok (.laload, 1) := by decide +kernel
theorem dX12_countMissing_171 : decode cX12_countMissing 171 = .ok (.goto 4, 3) := by decide +kernel
theorem dX12_countMissing_174 : decode cX12_countMissing 174 = .ok (.lconst 0, 1) := by decide +kernel
theorem dX12_countMissing_175 : decode cX12_countMissing 175 = .ok (.ladd, 1) := by decide +kernel
theorem dX12_countMissing_176 : decode cX12_countMissing 176 = .ok (.lstore 9, 2) := by decide +kernel
theorem dX12_countMissing_178 : decode cX12_countMissing 178 = .ok (.lload 9, 2) := by decide +kernel
theorem dX12_countMissing_180 : decode cX12_countMissing 180 = .ok (.aload_n 0, 1) := by decide +kernel
theorem dX12_countMissing_181 : decode cX12_countMissing 181 = .ok (.iload 11, 2) := by decide +kernel
theorem dX12_countMissing_183 : decode cX12_countMissing 183 = .ok (.invokevirtual 330, 3) := by decide +kernel
theorem dX12_countMissing_186 : decode cX12_countMissing 186 = .ok (.ifCond .eq 19, 3) := by decide +kernel
theorem dX12_countMissing_189 : decode cX12_countMissing 189 = .ok (.aload_n 0, 1) := by decide +kernel
theorem dX12_countMissing_190 : decode cX12_countMissing 190 = .ok (.getfield 71, 3) := by decide +kernel
theorem dX12_countMissing_193 : decode cX12_countMissing 193 = .ok (.bipush 40, 2) := by decide +kernel
theorem dX12_countMissing_195 : decode cX12_countMissing 195 = .ok (.iload 6, 2) := by decide +kernel
theorem dX12_countMissing_197 : decode cX12_countMissing 197 = .ok (.imul, 1) := by decide +kernel
theorem dX12_countMissing_198 : decode cX12_countMissing 198 = .ok (.iload 11, 2) := by decide +kernel
theorem dX12_countMissing_200 : decode cX12_countMissing 200 = .ok (.iadd, 1) := by decide +kernel
theorem dX12_countMissing_201 : decode cX12_countMissing 201 = .ok (.laload, 1) := by decide +kernel
theorem dX12_countMissing_202 : decode cX12_countMissing 202 = .ok (.goto 4, 3) := by decide +kernel
theorem dX12_countMissing_205 : decode cX12_countMissing 205 = .ok (.lconst 0, 1) := by decide +kernel
theorem dX12_countMissing_206 : decode cX12_countMissing 206 = .ok (.ladd, 1) := by decide +kernel
theorem dX12_countMissing_207 : decode cX12_countMissing 207 = .ok (.lstore 9, 2) := by decide +kernel
theorem dX12_countMissing_209 : decode cX12_countMissing 209 = .ok (.iinc 11 1, 3) := by decide +kernel
theorem dX12_countMissing_212 : decode cX12_countMissing 212 = .ok (.goto (-143), 3) := by decide +kernel
theorem dX12_countMissing_215 : decode cX12_countMissing 215 = .ok (.aload_n 0, 1) := by decide +kernel
theorem dX12_countMissing_216 : decode cX12_countMissing 216 = .ok (.getfield 71, 3) := by decide +kernel
theorem dX12_countMissing_219 : decode cX12_countMissing 219 = .ok (.bipush 40, 2) := by decide +kernel
theorem dX12_countMissing_221 : decode cX12_countMissing 221 = .ok (.iload 6, 2) := by decide +kernel
theorem dX12_countMissing_223 : decode cX12_countMissing 223 = .ok (.imul, 1) := by decide +kernel
theorem dX12_countMissing_224 : decode cX12_countMissing 224 = .ok (.iload 5, 2) := by decide +kernel
theorem dX12_countMissing_226 : decode cX12_countMissing 226 = .ok (.iadd, 1) := by decide +kernel
theorem dX12_countMissing_227 : decode cX12_countMissing 227 = .ok (.lload 7, 2) := by decide +kernel
theorem dX12_countMissing_229 : decode cX12_countMissing 229 = .ok (.lastore, 1) := by decide +kernel
theorem dX12_countMissing_230 : decode cX12_countMissing 230 = .ok (.aload_n 0, 1) := by decide +kernel
theorem dX12_countMissing_231 : decode cX12_countMissing 231 = .ok (.getfield 74, 3) := by decide +kernel
theorem dX12_countMissing_234 : decode cX12_countMissing 234 = .ok (.bipush 40, 2) := by decide +kernel
theorem dX12_countMissing_236 : decode cX12_countMissing 236 = .ok (.iload 6, 2) := by decide +kernel
theorem dX12_countMissing_238 : decode cX12_countMissing 238 = .ok (.imul, 1) := by decide +kernel
theorem dX12_countMissing_239 : decode cX12_countMissing 239 = .ok (.iload 5, 2) := by decide +kernel
theorem dX12_countMissing_241 : decode cX12_countMissing 241 = .ok (.iadd, 1) := by decide +kernel
theorem dX12_countMissing_242 : decode cX12_countMissing 242 = .ok (.lload 9, 2) := by decide +kernel
theorem dX12_countMissing_244 : decode cX12_countMissing 244 = .ok (.lastore, 1) := by decide +kernel
theorem dX12_countMissing_245 : decode cX12_countMissing 245 = .ok (.iinc 6 (-1), 3) := by decide +kernel
theorem dX12_countMissing_248 : decode cX12_countMissing 248 = .ok (.goto (-216), 3) := by decide +kernel
theorem dX12_countMissing_251 : decode cX12_countMissing 251 = .ok (.iinc 4 (-1), 3) := by decide +kernel
theorem dX12_countMissing_254 : decode cX12_countMissing 254 = .ok (.goto (-242), 3) := by decide +kernel
theorem dX12_countMissing_257 : decode cX12_countMissing 257 = .ok (.lconst 0, 1) := by decide +kernel
theorem dX12_countMissing_258 : decode cX12_countMissing 258 = .ok (.lstore 4, 2) := by decide +kernel
theorem dX12_countMissing_260 : decode cX12_countMissing 260 = .ok (.iconst 0, 1) := by decide +kernel
theorem dX12_countMissing_261 : decode cX12_countMissing 261 = .ok (.istore 6, 2) := by decide +kernel
theorem dX12_countMissing_263 : decode cX12_countMissing 263 = .ok (.iload 6, 2) := by decide +kernel
theorem dX12_countMissing_265 : decode cX12_countMissing 265 = .ok (.aload_n 0, 1) := by decide +kernel
theorem dX12_countMissing_266 : decode cX12_countMissing 266 = .ok (.getfield 262, 3) := by decide +kernel
theorem dX12_countMissing_269 : decode cX12_countMissing 269 = .ok (.if_icmp .ge 81, 3) := by decide +kernel
theorem dX12_countMissing_272 : decode cX12_countMissing 272 = .ok (.aload_n 0, 1) := by decide +kernel
theorem dX12_countMissing_273 : decode cX12_countMissing 273 = .ok (.iload 6, 2) := by decide +kernel
theorem dX12_countMissing_275 : decode cX12_countMissing 275 = .ok (.iload_n 1, 1) := by decide +kernel
theorem dX12_countMissing_276 : decode cX12_countMissing 276 = .ok (.iload_n 3, 1) := by decide +kernel
theorem dX12_countMissing_277 : decode cX12_countMissing 277 = .ok (.invokevirtual 291, 3) := by decide +kernel
theorem dX12_countMissing_280 : decode cX12_countMissing 280 = .ok (.ifCond .ne 6, 3) := by decide +kernel
theorem dX12_countMissing_283 : decode cX12_countMissing 283 = .ok (.goto 61, 3) := by decide +kernel
theorem dX12_countMissing_286 : decode cX12_countMissing 286 = .ok (.aload_n 0, 1) := by decide +kernel
theorem dX12_countMissing_287 : decode cX12_countMissing 287 = .ok (.getfield 314, 3) := by decide +kernel
theorem dX12_countMissing_290 : decode cX12_countMissing 290 = .ok (.iconst 1, 1) := by decide +kernel
theorem dX12_countMissing_291 : decode cX12_countMissing 291 = .ok (.if_icmp .le 29, 3) := by decide +kernel
theorem dX12_countMissing_294 : decode cX12_countMissing 294 = .ok (.aload_n 0, 1) := by decide +kernel
theorem dX12_countMissing_295 : decode cX12_countMissing 295 = .ok (.iload 6, 2) := by decide +kernel
theorem dX12_countMissing_297 : decode cX12_countMissing 297 = .ok (.iconst 0, 1) := by decide +kernel
theorem dX12_countMissing_298 : decode cX12_countMissing 298 = .ok (.iconst 1, 1) := by decide +kernel
theorem dX12_countMissing_299 : decode cX12_countMissing 299 = .ok (.invokevirtual 317, 3) := by decide +kernel
theorem dX12_countMissing_302 : decode cX12_countMissing 302 = .ok (.ifCond .eq 18, 3) := by decide +kernel
theorem dX12_countMissing_305 : decode cX12_countMissing 305 = .ok (.lload 4, 2) := by decide +kernel
theorem dX12_countMissing_307 : decode cX12_countMissing 307 = .ok (.aload_n 0, 1) := by decide +kernel
theorem dX12_countMissing_308 : decode cX12_countMissing 308 = .ok (.getfield 74, 3) := by decide +kernel
theorem dX12_countMissing_311 : decode cX12_countMissing 311 = .ok (.bipush 80, 2) := by decide +kernel
theorem dX12_countMissing_313 : decode cX12_countMissing 313 = .ok (.iload 6, 2) := by decide +kernel
theorem dX12_countMissing_315 : decode cX12_countMissing 315 = .ok (.iadd, 1) := by decide +kernel
theorem dX12_countMissing_316 : decode cX12_countMissing 316 = .ok (.laload, 1) := by decide +kernel
theorem dX12_countMissing_317 : decode cX12_countMissing 317 = .ok (.ladd, 1) := by decide +kernel
theorem dX12_countMissing_318 : decode cX12_countMissing 318 = .ok (.lstore 4, 2) := by decide +kernel
theorem dX12_countMissing_320 : decode cX12_countMissing 320 = .ok (.aload_n 0, 1) := by decide +kernel
theorem dX12_countMissing_321 : decode cX12_countMissing 321 = .ok (.iload 6, 2) := by decide +kernel
theorem dX12_countMissing_323 : decode cX12_countMissing 323 = .ok (.invokevirtual 330, 3) := by decide +kernel
theorem dX12_countMissing_326 : decode cX12_countMissing 326 = .ok (.ifCond .eq 18, 3) := by decide +kernel
theorem dX12_countMissing_329 : decode cX12_countMissing 329 = .ok (.lload 4, 2) := by decide +kernel
theorem dX12_countMissing_331 : decode cX12_countMissing 331 = .ok (.aload_n 0, 1) := by decide +kernel
theorem dX12_countMissing_332 : decode cX12_countMissing 332 = .ok (.getfield 71, 3) := by decide +kernel
theorem dX12_countMissing_335 : decode cX12_countMissing 335 = .ok (.bipush 40, 2) := by decide +kernel
theorem dX12_countMissing_337 : decode cX12_countMissing 337 = .ok (.iload 6, 2) := by decide +kernel
theorem dX12_countMissing_339 : decode cX12_countMissing 339 = .ok (.iadd, 1) := by decide +kernel
theorem dX12_countMissing_340 : decode cX12_countMissing 340 = .ok (.laload, 1) := by decide +kernel
theorem dX12_countMissing_341 : decode cX12_countMissing 341 = .ok (.ladd, 1) := by decide +kernel
theorem dX12_countMissing_342 : decode cX12_countMissing 342 = .ok (.lstore 4, 2) := by decide +kernel
theorem dX12_countMissing_344 : decode cX12_countMissing 344 = .ok (.iinc 6 1, 3) := by decide +kernel
theorem dX12_countMissing_347 : decode cX12_countMissing 347 = .ok (.goto (-84), 3) := by decide +kernel
theorem dX12_countMissing_350 : decode cX12_countMissing 350 = .ok (.lload 4, 2) := by decide +kernel
theorem dX12_countMissing_352 : decode cX12_countMissing 352 = .ok (.lreturn, 1) := by decide +kernel
theorem dX12_missing_0 : decode cX12_missing 0 = .ok (.aload_n 0, 1) := by decide +kernel
theorem dX12_missing_1 : decode cX12_missing 1 = .ok (.iconst 0, 1) := by decide +kernel
theorem dX12_missing_2 : decode cX12_missing 2 = .ok (.putfield 96, 3) := by decide +kernel
theorem dX12_missing_5 : decode cX12_missing 5 = .ok (.aload_n 0, 1) := by decide +kernel
theorem dX12_missing_6 : decode cX12_missing 6 = .ok (.iload_n 1, 1) := by decide +kernel
theorem dX12_missing_7 : decode cX12_missing 7 = .ok (.iload_n 2, 1) := by decide +kernel
theorem dX12_missing_8 : decode cX12_missing 8 = .ok (.iload_n 3, 1) := by decide +kernel
theorem dX12_missing_9 : decode cX12_missing 9 = .ok (.invokevirtual 294, 3) := by decide +kernel
theorem dX12_missing_12 : decode cX12_missing 12 = .ok (.ifCond .ne 7, 3) := by decide +kernel
theorem dX12_missing_15 : decode cX12_missing 15 = .ok (.ldc2_w 312, 3) := by decide +kernel
theorem dX12_missing_18 : decode cX12_missing 18 = .ok (.lreturn, 1) := by decide +kernel
theorem dX12_missing_19 : decode cX12_missing 19 = .ok (.aload_n 0, 1) := by decide +kernel
theorem dX12_missing_20 : decode cX12_missing 20 = .ok (.getfield 314, 3) := by decide +kernel
theorem dX12_missing_23 : decode cX12_missing 23 = .ok (.ifCond .ne 7, 3) := by decide +kernel
theorem dX12_missing_26 : decode cX12_missing 26 = .ok (.ldc2_w 324, 3) := by decide +kernel
theorem dX12_missing_29 : decode cX12_missing 29 = .ok (.lreturn, 1) := by decide +kernel
theorem dX12_missing_30 : decode cX12_missing 30 = .ok (.aload_n 0, 1) := by decide +kernel
theorem dX12_missing_31 : decode cX12_missing 31 = .ok (.iload_n 1, 1) := by decide +kernel
theorem dX12_missing_32 : decode cX12_missing 32 = .ok (.iload_n 2, 1) := by decide +kernel
theorem dX12_missing_33 : decode cX12_missing 33 = .ok (.iload_n 3, 1) := by decide +kernel
theorem dX12_missing_34 : decode cX12_missing 34 = .ok (.invokevirtual 333, 3) := by decide +kernel
theorem dX12_missing_37 : decode cX12_missing 37 = .ok (.lstore 4, 2) := by decide +kernel
theorem dX12_missing_39 : decode cX12_missing 39 = .ok (.iconst 0, 1) := by decide +kernel
theorem dX12_missing_40 : decode cX12_missing 40 = .ok (.istore 6, 2) := by decide +kernel
theorem dX12_missing_42 : decode cX12_missing 42 = .ok (.iconst 0, 1) := by decide +kernel
theorem dX12_missing_43 : decode cX12_missing 43 = .ok (.istore 7, 2) := by decide +kernel
theorem dX12_missing_45 : decode cX12_missing 45 = .ok (.iload 7, 2) := by decide +kernel
theorem dX12_missing_47 : decode cX12_missing 47 = .ok (.aload_n 0, 1) := by decide +kernel
theorem dX12_missing_48 : decode cX12_missing 48 = .ok (.getfield 102, 3) := by decide +kernel
theorem dX12_missing_51 : decode cX12_missing 51 = .ok (.if_icmp .ge 40, 3) := by decide +kernel
theorem dX12_missing_54 : decode cX12_missing 54 = .ok (.aload_n 0, 1) := by decide +kernel
theorem dX12_missing_55 : decode cX12_missing 55 = .ok (.iload 7, 2) := by decide +kernel
theorem dX12_missing_57 : decode cX12_missing 57 = .ok (.putfield 77, 3) := by decide +kernel
theorem dX12_missing_60 : decode cX12_missing 60 = .ok (.iload 6, 2) := by decide +kernel
theorem dX12_missing_62 : decode cX12_missing 62 = .ok (.aload_n 0, 1) := by decide +kernel
theorem dX12_missing_63 : decode cX12_missing 63 = .ok (.iload_n 1, 1) := by decide +kernel
theorem dX12_missing_64 : decode cX12_missing 64 = .ok (.iload_n 2, 1) := by decide +kernel
theorem dX12_missing_65 : decode cX12_missing 65 = .ok (.iload_n 3, 1) := by decide +kernel
theorem dX12_missing_66 : decode cX12_missing 66 = .ok (.invokevirtual 333, 3) := by decide +kernel
theorem dX12_missing_69 : decode cX12_missing 69 = .ok (.lconst 0, 1) := by decide +kernel
theorem dX12_missing_70 : decode cX12_missing 70 = .ok (.lcmp, 1) := by decide +kernel
theorem dX12_missing_71 : decode cX12_missing 71 = .ok (.ifCond .le 10, 3) := by decide +kernel
theorem dX12_missing_74 : decode cX12_missing 74 = .ok (.iconst 1, 1) := by decide +kernel
theorem dX12_missing_75 : decode cX12_missing 75 = .ok (.iload 7, 2) := by decide +kernel
theorem dX12_missing_77 : decode cX12_missing 77 = .ok (.ishl, 1) := by decide +kernel
theorem dX12_missing_78 : decode cX12_missing 78 = .ok (.goto 4, 3) := by decide +kernel
theorem dX12_missing_81 : decode cX12_missing 81 = .ok (.iconst 0, 1) := by decide +kernel
theorem dX12_missing_82 : decode cX12_missing 82 = .ok (.ior, 1) := by decide +kernel
theorem dX12_missing_83 : decode cX12_missing 83 = .ok (.istore 6, 2) := by decide +kernel
theorem dX12_missing_85 : decode cX12_missing 85 = .ok (.iinc 7 1, 3) := by decide +kernel
theorem dX12_missing_88 : decode cX12_missing 88 = .ok (.goto (-43), 3) := by decide +kernel
theorem dX12_missing_91 : decode cX12_missing 91 = .ok (.aload_n 0, 1) := by decide +kernel
theorem dX12_missing_92 : decode cX12_missing 92 = .ok (.iconst (-1), 1) := by decide +kernel
theorem dX12_missing_93 : decode cX12_missing 93 = .ok (.putfield 77, 3) := by decide +kernel
theorem dX12_missing_96 : decode cX12_missing 96 = .ok (.aload_n 0, 1) := by decide +kernel
theorem dX12_missing_97 : decode cX12_missing 97 = .ok (.iconst 0, 1) := by decide +kernel
theorem dX12_missing_98 : decode cX12_missing 98 = .ok (.putfield 99, 3) := by decide +kernel
theorem dX12_missing_101 : decode cX12_missing 101 = .ok (.aload_n 0, 1) := by decide +kernel
theorem dX12_missing_102 : decode cX12_missing 102 = .ok (.iload 6, 2) := by decide +kernel
theorem dX12_missing_104 : decode cX12_missing 104 = .ok (.invokevirtual 250, 3) := by decide +kernel
theorem dX12_missing_107 : decode cX12_missing 107 = .ok (.lload 4, 2) := by decide +kernel
theorem dX12_missing_109 : decode cX12_missing 109 = .ok (.lreturn, 1) := by decide +kernel
theorem dX12_lies_0 : decode cX12_lies 0 = .ok (.aload_n 0, 1) := by decide +kernel
theorem dX12_lies_1 : decode cX12_lies 1 = .ok (.iconst 0, 1) := by decide +kernel
theorem dX12_lies_2 : decode cX12_lies 2 = .ok (.putfield 96, 3) := by decide +kernel
theorem dX12_lies_5 : decode cX12_lies 5 = .ok (.aload_n 0, 1) := by decide +kernel
theorem dX12_lies_6 : decode cX12_lies 6 = .ok (.iload_n 1, 1) := by decide +kernel
theorem dX12_lies_7 : decode cX12_lies 7 = .ok (.iload_n 2, 1) := by decide +kernel
theorem dX12_lies_8 : decode cX12_lies 8 = .ok (.iload_n 3, 1) := by decide +kernel
theorem dX12_lies_9 : decode cX12_lies 9 = .ok (.invokevirtual 294, 3) := by decide +kernel
theorem dX12_lies_12 : decode cX12_lies 12 = .ok (.ifCond .ne 5, 3) := by decide +kernel
theorem dX12_lies_15 : decode cX12_lies 15 = .ok (.iconst (-1), 1) := by decide +kernel
theorem dX12_lies_16 : decode cX12_lies 16 = .ok (.ireturn, 1) := by decide +kernel
theorem dX12_lies_17 : decode cX12_lies 17 = .ok (.aload_n 0, 1) := by decide +kernel
theorem dX12_lies_18 : decode cX12_lies 18 = .ok (.getfield 314, 3) := by decide +kernel
theorem dX12_lies_21 : decode cX12_lies 21 = .ok (.ifCond .ne 6, 3) := by decide +kernel
theorem dX12_lies_24 : decode cX12_lies 24 = .ok (.bipush (-2), 2) := by decide +kernel
theorem dX12_lies_26 : decode cX12_lies 26 = .ok (.ireturn, 1) := by decide +kernel
theorem dX12_lies_27 : decode cX12_lies 27 = .ok (.aload_n 0, 1) := by decide +kernel
theorem dX12_lies_28 : decode cX12_lies 28 = .ok (.getfield 314, 3) := by decide +kernel
theorem dX12_lies_31 : decode cX12_lies 31 = .ok (.iconst 1, 1) := by decide +kernel
theorem dX12_lies_32 : decode cX12_lies 32 = .ok (.if_icmp .ne 18, 3) := by decide +kernel
theorem dX12_lies_35 : decode cX12_lies 35 = .ok (.iload_n 1, 1) := by decide +kernel
theorem dX12_lies_36 : decode cX12_lies 36 = .ok (.iload_n 2, 1) := by decide +kernel
theorem dX12_lies_37 : decode cX12_lies 37 = .ok (.if_icmp .eq 6, 3) := by decide +kernel
theorem dX12_lies_40 : decode cX12_lies 40 = .ok (.bipush (-3), 2) := by decide +kernel
theorem dX12_lies_42 : decode cX12_lies 42 = .ok (.ireturn, 1) := by decide +kernel
theorem dX12_lies_43 : decode cX12_lies 43 = .ok (.aload_n 0, 1) := by decide +kernel
theorem dX12_lies_44 : decode cX12_lies 44 = .ok (.iconst 0, 1) := by decide +kernel
theorem dX12_lies_45 : decode cX12_lies 45 = .ok (.putfield 99, 3) := by decide +kernel
theorem dX12_lies_48 : decode cX12_lies 48 = .ok (.iconst 0, 1) := by decide +kernel
theorem dX12_lies_49 : decode cX12_lies 49 = .ok (.ireturn, 1) := by decide +kernel
theorem dX12_lies_50 : decode cX12_lies 50 = .ok (.aload_n 0, 1) := by decide +kernel
theorem dX12_lies_51 : decode cX12_lies 51 = .ok (.invokevirtual 271, 3) := by decide +kernel
theorem dX12_lies_54 : decode cX12_lies 54 = .ok (.aload_n 0, 1) := by decide +kernel
theorem dX12_lies_55 : decode cX12_lies 55 = .ok (.getfield 314, 3) := by decide +kernel
theorem dX12_lies_58 : decode cX12_lies 58 = .ok (.iconst 1, 1) := by decide +kernel
theorem dX12_lies_59 : decode cX12_lies 59 = .ok (.isub, 1) := by decide +kernel
theorem dX12_lies_60 : decode cX12_lies 60 = .ok (.istore 4, 2) := by decide +kernel
theorem dX12_lies_62 : decode cX12_lies 62 = .ok (.iload 4, 2) := by decide +kernel
theorem dX12_lies_64 : decode cX12_lies 64 = .ok (.ifCond .le 156, 3) := by decide +kernel
theorem dX12_lies_67 : decode cX12_lies 67 = .ok (.iconst 0, 1) := by decide +kernel
theorem dX12_lies_68 : decode cX12_lies 68 = .ok (.istore 5, 2) := by decide +kernel
theorem dX12_lies_70 : decode cX12_lies 70 = .ok (.iload 5, 2) := by decide +kernel
theorem dX12_lies_72 : decode cX12_lies 72 = .ok (.aload_n 0, 1) := by decide +kernel
theorem dX12_lies_73 : decode cX12_lies 73 = .ok (.getfield 262, 3) := by decide +kernel
theorem dX12_lies_76 : decode cX12_lies 76 = .ok (.if_icmp .ge 138, 3) := by decide +kernel
theorem dX12_lies_79 : decode cX12_lies 79 = .ok (.iload 4, 2) := by decide +kernel
theorem dX12_lies_81 : decode cX12_lies 81 = .ok (.aload_n 0, 1) := by decide +kernel
theorem dX12_lies_82 : decode cX12_lies 82 = .ok (.getfield 314, 3) := by decide +kernel
theorem dX12_lies_85 : decode cX12_lies 85 = .ok (.iconst 1, 1) := by decide +kernel
theorem dX12_lies_86 : decode cX12_lies 86 = .ok (.isub, 1) := by decide +kernel
theorem dX12_lies_87 : decode cX12_lies 87 = .ok (.if_icmp .ne 17, 3) := by decide +kernel
theorem dX12_lies_90 : decode cX12_lies 90 = .ok (.aload_n 0, 1) := by decide +kernel
theorem dX12_lies_91 : decode cX12_lies 91 = .ok (.iload 5, 2) := by decide +kernel
theorem dX12_lies_93 : decode cX12_lies 93 = .ok (.invokevirtual 268, 3) := by decide +kernel
theorem dX12_lies_96 : decode cX12_lies 96 = .ok (.iload_n 2, 1) := by decide +kernel
theorem dX12_lies_97 : decode cX12_lies 97 = .ok (.if_icmp .ne 7, 3) := by decide +kernel
theorem dX12_lies_100 : decode cX12_lies 100 = .ok (.iconst 0, 1) := by decide +kernel
theorem dX12_lies_101 : decode cX12_lies 101 = .ok (.goto 5, 3) := by decide +kernel
theorem dX12_lies_104 : decode cX12_lies 104 = .ok (.ldc 50, 2) := by decide +kernel
theorem dX12_lies_106 : decode cX12_lies 106 = .ok (.istore 6, 2) := by decide +kernel
theorem dX12_lies_108 : decode cX12_lies 108 = .ok (.iconst 0, 1) := by decide +kernel
theorem dX12_lies_109 : decode cX12_lies 109 = .ok (.istore 7, 2) := by decide +kernel
theorem dX12_lies_111 : decode cX12_lies 111 = .ok (.iload 7, 2) := by decide +kernel
theorem dX12_lies_113 : decode cX12_lies 113 = .ok (.aload_n 0, 1) := by decide +kernel
theorem dX12_lies_114 : decode cX12_lies 114 = .ok (.getfield 262, 3) := by decide +kernel
theorem dX12_lies_117 : decode cX12_lies 117 = .ok (.if_icmp .ge 53, 3) := by decide +kernel
theorem dX12_lies_120 : decode cX12_lies 120 = .ok (.iload 4, 2) := by decide +kernel
theorem dX12_lies_122 : decode cX12_lies 122 = .ok (.aload_n 0, 1) := by decide +kernel
theorem dX12_lies_123 : decode cX12_lies 123 = .ok (.getfield 314, 3) := by decide +kernel
theorem dX12_lies_126 : decode cX12_lies 126 = .ok (.iconst 1, 1) := by decide +kernel
theorem dX12_lies_127 : decode cX12_lies 127 = .ok (.isub, 1) := by decide +kernel
theorem dX12_lies_128 : decode cX12_lies 128 = .ok (.if_icmp .ge 42, 3) := by decide +kernel
theorem dX12_lies_131 : decode cX12_lies 131 = .ok (.aload_n 0, 1) := by decide +kernel
theorem dX12_lies_132 : decode cX12_lies 132 = .ok (.iload 7, 2) := by decide +kernel
theorem dX12_lies_134 : decode cX12_lies 134 = .ok (.iload 5, 2) := by decide +kernel
theorem dX12_lies_136 : decode cX12_lies 136 = .ok (.invokevirtual 280, 3) := by decide +kernel
theorem dX12_lies_139 : decode cX12_lies 139 = .ok (.ifCond .eq 25, 3) := by decide +kernel
theorem dX12_lies_142 : decode cX12_lies 142 = .ok (.iload 6, 2) := by decide +kernel
theorem dX12_lies_144 : decode cX12_lies 144 = .ok (.aload_n 0, 1) := by decide +kernel
theorem dX12_lies_145 : decode cX12_lies 145 = .ok (.getfield 80, 3) := by decide +kernel
theorem dX12_lies_148 : decode cX12_lies 148 = .ok (.bipush 40, 2) := by decide +kernel
theorem dX12_lies_150 : decode cX12_lies 150 = .ok (.iload 4, 2) := by decide +kernel
theorem dX12_lies_152 : decode cX12_lies 152 = .ok (.iconst 1, 1) := by decide +kernel
theorem dX12_lies_153 : decode cX12_lies 153 = .ok (.iadd, 1) := by decide +kernel
theorem dX12_lies_154 : decode cX12_lies 154 = .ok (.imul, 1) := by decide +kernel
theorem dX12_lies_155 : decode cX12_lies 155 = .ok (.iload 7, 2) := by decide +kernel
theorem dX12_lies_157 : decode cX12_lies 157 = .ok (.iadd, 1) := by decide +kernel
theorem dX12_lies_158 : decode cX12_lies 158 = .ok (.iaload, 1) := by decide +kernel
theorem dX12_lies_159 : decode cX12_lies 159 = .ok (.invokestatic 207, 3) := by decide +kernel
theorem dX12_lies_162 : decode cX12_lies 162 = .ok (.istore 6, 2) := by decide +kernel
theorem dX12_lies_164 : decode cX12_lies 164 = .ok (.iinc 7 1, 3) := by decide +kernel
theorem dX12_lies_167 : decode cX12_lies 167 = .ok (.goto (-56), 3) := by decide +kernel
theorem dX12_lies_170 : decode cX12_lies 170 = .ok (.aload_n 0, 1) := by decide +kernel
theorem dX12_lies_171 : decode cX12_lies 171 = .ok (.getfield 80, 3) := by decide +kernel
theorem dX12_lies_174 : decode cX12_lies 174 = .ok (.bipush 40, 2) := by decide +kernel
theorem dX12_lies_176 : decode cX12_lies 176 = .ok (.iload 4, 2) := by decide +kernel
theorem dX12_lies_178 : decode cX12_lies 178 = .ok (.imul, 1) := by decide +kernel
theorem dX12_lies_179 : decode cX12_lies 179 = .ok (.iload 5, 2) := by decide +kernel
theorem dX12_lies_181 : decode cX12_lies 181 = .ok (.iadd, 1) := by decide +kernel
theorem dX12_lies_182 : decode cX12_lies 182 = .ok (.ldc 50, 2) := by decide +kernel
theorem dX12_lies_184 : decode cX12_lies 184 = .ok (.iload 6, 2) := by decide +kernel
theorem dX12_lies_186 : decode cX12_lies 186 = .ok (.aload_n 0, 1) := by decide +kernel
theorem dX12_lies_187 : decode cX12_lies 187 = .ok (.iload 5, 2) := by decide +kernel
theorem dX12_lies_189 : decode cX12_lies 189 = .ok (.iconst 0, 1) := by decide +kernel
theorem dX12_lies_190 : decode cX12_lies 190 = .ok (.iload 4, 2) := by decide +kernel
theorem dX12_lies_192 : decode cX12_lies 192 = .ok (.invokevirtual 317, 3) := by decide +kernel
theorem dX12_lies_195 : decode cX12_lies 195 = .ok (.ifCond .eq 7, 3) := by decide +kernel
theorem dX12_lies_198 : decode cX12_lies 198 = .ok (.iconst 0, 1) := by decide +kernel
theorem dX12_lies_199 : decode cX12_lies 199 = .ok (.goto 4, 3) := by decide +kernel
theorem dX12_lies_202 : decode cX12_lies 202 = .ok (.iconst 1, 1) := by decide +kernel
theorem dX12_lies_203 : decode cX12_lies 203 = .ok (.iadd, 1) := by decide +kernel
theorem dX12_lies_204 : decode cX12_lies 204 = .ok (.invokestatic 207, 3) := by decide +kernel
theorem dX12_lies_207 : decode cX12_lies 207 = .ok (.iastore, 1) := by decide +kernel
theorem dX12_lies_208 : decode cX12_lies 208 = .ok (.iinc 5 1, 3) := by decide +kernel
theorem dX12_lies_211 : decode cX12_lies 211 = .ok (.goto (-141), 3) := by decide +kernel
theorem dX12_lies_214 : decode cX12_lies 214 = .ok (.iinc 4 (-1), 3) := by decide +kernel
theorem dX12_lies_217 : decode cX12_lies 217 = .ok (.goto (-155), 3) := by decide +kernel
theorem dX12_lies_220 : decode cX12_lies 220 = .ok (.ldc 50, 2) := by decide +kernel
theorem dX12_lies_222 : decode cX12_lies 222 = .ok (.istore 4, 2) := by decide +kernel
theorem dX12_lies_224 : decode cX12_lies 224 = .ok (.iconst 0, 1) := by decide +kernel
theorem dX12_lies_225 : decode cX12_lies 225 = .ok (.istore 5, 2) := by decide +kernel
theorem dX12_lies_227 : decode cX12_lies 227 = .ok (.iload 5, 2) := by decide +kernel
theorem dX12_lies_229 : decode cX12_lies 229 = .ok (.aload_n 0, 1) := by decide +kernel
theorem dX12_lies_230 : decode cX12_lies 230 = .ok (.getfield 262, 3) := by decide +kernel
theorem dX12_lies_233 : decode cX12_lies 233 = .ok (.if_icmp .ge 37, 3) := by decide +kernel
theorem dX12_lies_236 : decode cX12_lies 236 = .ok (.aload_n 0, 1) := by decide +kernel
theorem dX12_lies_237 : decode cX12_lies 237 = .ok (.iload 5, 2) := by decide +kernel
theorem dX12_lies_239 : decode cX12_lies 239 = .ok (.iload_n 1, 1) := by decide +kernel
theorem dX12_lies_240 : decode cX12_lies 240 = .ok (.iload_n 3, 1) := by decide +kernel
theorem dX12_lies_241 : decode cX12_lies 241 = .ok (.invokevirtual 291, 3) := by decide +kernel
theorem dX12_lies_244 : decode cX12_lies 244 = .ok (.ifCond .eq 20, 3) := by decide +kernel
theorem dX12_lies_247 : decode cX12_lies 247 = .ok (.iload 4, 2) := by decide +kernel
theorem dX12_lies_249 : decode cX12_lies 249 = .ok (.aload_n 0, 1) := by decide +kernel
theorem dX12_lies_250 : decode cX12_lies 250 = .ok (.getfield 80, 3) := by decide +kernel
theorem dX12_lies_253 : decode cX12_lies 253 = .ok (.bipush 40, 2) := by decide +kernel
theorem dX12_lies_255 : decode cX12_lies 255 = .ok (.iload 5, 2) := by decide +kernel
theorem dX12_lies_257 : decode cX12_lies 257 = .ok (.iadd, 1) := by decide +kernel
theorem dX12_lies_258 : decode cX12_lies 258 = .ok (.iaload, 1) := by decide +kernel
theorem dX12_lies_259 : decode cX12_lies 259 = .ok (.invokestatic 207, 3) := by decide +kernel
theorem dX12_lies_262 : decode cX12_lies 262 = .ok (.istore 4, 2) := by decide +kernel
theorem dX12_lies_264 : decode cX12_lies 264 = .ok (.iinc 5 1, 3) := by decide +kernel
theorem dX12_lies_267 : decode cX12_lies 267 = .ok (.goto (-40), 3) := by decide +kernel
theorem dX12_lies_270 : decode cX12_lies 270 = .ok (.iload 4, 2) := by decide +kernel
theorem dX12_lies_272 : decode cX12_lies 272 = .ok (.ldc 50, 2) := by decide +kernel
theorem dX12_lies_274 : decode cX12_lies 274 = .ok (.if_icmp .lt 6, 3) := by decide +kernel
theorem dX12_lies_277 : decode cX12_lies 277 = .ok (.bipush (-3), 2) := by decide +kernel
theorem dX12_lies_279 : decode cX12_lies 279 = .ok (.ireturn, 1) := by decide +kernel
theorem dX12_lies_280 : decode cX12_lies 280 = .ok (.aload_n 0, 1) := by decide +kernel
theorem dX12_lies_281 : decode cX12_lies 281 = .ok (.iconst 0, 1) := by decide +kernel
theorem dX12_lies_282 : decode cX12_lies 282 = .ok (.putfield 99, 3) := by decide +kernel
theorem dX12_lies_285 : decode cX12_lies 285 = .ok (.iconst (-1), 1) := by decide +kernel
theorem dX12_lies_286 : decode cX12_lies 286 = .ok (.istore 5, 2) := by decide +kernel
theorem dX12_lies_288 : decode cX12_lies 288 = .ok (.iload 4, 2) := by decide +kernel
theorem dX12_lies_290 : decode cX12_lies 290 = .ok (.istore 6, 2) := by decide +kernel
theorem dX12_lies_292 : decode cX12_lies 292 = .ok (.iconst 1, 1) := by decide +kernel
theorem dX12_lies_293 : decode cX12_lies 293 = .ok (.istore 7, 2) := by decide +kernel
theorem dX12_lies_295 : decode cX12_lies 295 = .ok (.iload 7, 2) := by decide +kernel
theorem dX12_lies_297 : decode cX12_lies 297 = .ok (.aload_n 0, 1) := by decide +kernel
theorem dX12_lies_298 : decode cX12_lies 298 = .ok (.getfield 314, 3) := by decide +kernel
theorem dX12_lies_301 : decode cX12_lies 301 = .ok (.if_icmp .ge 134, 3) := by decide +kernel
theorem dX12_lies_304 : decode cX12_lies 304 = .ok (.iconst (-1), 1) := by decide +kernel
theorem dX12_lies_305 : decode cX12_lies 305 = .ok (.istore 8, 2) := by decide +kernel
theorem dX12_lies_307 : decode cX12_lies 307 = .ok (.iconst 0, 1) := by decide +kernel
theorem dX12_lies_308 : decode cX12_lies 308 = .ok (.istore 9, 2) := by decide +kernel
theorem dX12_lies_310 : decode cX12_lies 310 = .ok (.iload 9, 2) := by decide +kernel
theorem dX12_lies_312 : decode cX12_lies 312 = .ok (.aload_n 0, 1) := by decide +kernel
theorem dX12_lies_313 : decode cX12_lies 313 = .ok (.getfield 262, 3) := by decide +kernel
theorem dX12_lies_316 : decode cX12_lies 316 = .ok (.if_icmp .ge 79, 3) := by decide +kernel
theorem dX12_lies_319 : decode cX12_lies 319 = .ok (.iload 5, 2) := by decide +kernel
theorem dX12_lies_321 : decode cX12_lies 321 = .ok (.iconst (-1), 1) := by decide +kernel
theorem dX12_lies_322 : decode cX12_lies 322 = .ok (.if_icmp .ne 17, 3) := by decide +kernel
theorem dX12_lies_325 : decode cX12_lies 325 = .ok (.aload_n 0, 1) := by decide +kernel
theorem dX12_lies_326 : decode cX12_lies 326 = .ok (.iload 9, 2) := by decide +kernel
theorem dX12_lies_328 : decode cX12_lies 328 = .ok (.iload_n 1, 1) := by decide +kernel
theorem dX12_lies_329 : decode cX12_lies 329 = .ok (.iload_n 3, 1) := by decide +kernel
theorem dX12_lies_330 : decode cX12_lies 330 = .ok (.invokevirtual 291, 3) := by decide +kernel
theorem dX12_lies_333 : decode cX12_lies 333 = .ok (.ifCond .eq 56, 3) := by decide +kernel
theorem dX12_lies_336 : decode cX12_lies 336 = .ok (.goto 14, 3) := by decide +kernel
theorem dX12_lies_339 : decode cX12_lies 339 = .ok (.aload_n 0, 1) := by decide +kernel
theorem dX12_lies_340 : decode cX12_lies 340 = .ok (.iload 9, 2) := by decide +kernel
theorem dX12_lies_342 : decode cX12_lies 342 = .ok (.iload 5, 2) := by decide +kernel
theorem dX12_lies_344 : decode cX12_lies 344 = .ok (.invokevirtual 280, 3) := by decide +kernel
theorem dX12_lies_347 : decode cX12_lies 347 = .ok (.ifCond .eq 42, 3) := by decide +kernel
theorem dX12_lies_350 : decode cX12_lies 350 = .ok (.aload_n 0, 1) := by decide +kernel
theorem dX12_lies_351 : decode cX12_lies 351 = .ok (.getfield 80, 3) := by decide +kernel
theorem dX12_lies_354 : decode cX12_lies 354 = .ok (.bipush 40, 2) := by decide +kernel
theorem dX12_lies_356 : decode cX12_lies 356 = .ok (.iload 7, 2) := by decide +kernel
theorem dX12_lies_358 : decode cX12_lies 358 = .ok (.imul, 1) := by decide +kernel
theorem dX12_lies_359 : decode cX12_lies 359 = .ok (.iload 9, 2) := by decide +kernel
theorem dX12_lies_361 : decode cX12_lies 361 = .ok (.iadd, 1) := by decide +kernel
theorem dX12_lies_362 : decode cX12_lies 362 = .ok (.iaload, 1) := by decide +kernel
theorem dX12_lies_363 : decode cX12_lies 363 = .ok (.iload 6, 2) := by decide +kernel
theorem dX12_lies_365 : decode cX12_lies 365 = .ok (.if_icmp .ne 24, 3) := by decide +kernel
theorem dX12_lies_368 : decode cX12_lies 368 = .ok (.iload 8, 2) := by decide +kernel
theorem dX12_lies_370 : decode cX12_lies 370 = .ok (.iconst (-1), 1) := by decide +kernel
theorem dX12_lies_371 : decode cX12_lies 371 = .ok (.if_icmp .eq 14, 3) := by decide +kernel
theorem dX12_lies_374 : decode cX12_lies 374 = .ok (.iload 9, 2) := by decide +kernel
theorem dX12_lies_376 : decode cX12_lies 376 = .ok (.iconst 2, 1) := by decide +kernel
theorem dX12_lies_377 : decode cX12_lies 377 = .ok (.idiv, 1) := by decide +kernel
theorem dX12_lies_378 : decode cX12_lies 378 = .ok (.iload 8, 2) := by decide +kernel
theorem dX12_lies_380 : decode cX12_lies 380 = .ok (.iconst 2, 1) := by decide +kernel
theorem dX12_lies_381 : decode cX12_lies 381 = .ok (.idiv, 1) := by decide +kernel
theorem dX12_lies_382 : decode cX12_lies 382 = .ok (.if_icmp .ge 7, 3) := by decide +kernel
theorem dX12_lies_385 : decode cX12_lies 385 = .ok (.iload 9, 2) := by decide +kernel
theorem dX12_lies_387 : decode cX12_lies 387 = .ok (.istore 8, 2) := by decide +kernel
theorem dX12_lies_389 : decode cX12_lies 389 = .ok (.iinc 9 1, 3) := by decide +kernel
theorem dX12_lies_392 : decode cX12_lies 392 = .ok (.goto (-82), 3) := by decide +kernel
theorem dX12_lies_395 : decode cX12_lies 395 = .ok (.aload_n 0, 1) := by decide +kernel
theorem dX12_lies_396 : decode cX12_lies 396 = .ok (.iload 8, 2) := by decide +kernel
theorem dX12_lies_398 : decode cX12_lies 398 = .ok (.iconst 2, 1) := by decide +kernel
theorem dX12_lies_399 : decode cX12_lies 399 = .ok (.idiv, 1) := by decide +kernel
theorem dX12_lies_400 : decode cX12_lies 400 = .ok (.invokevirtual 250, 3) := by decide +kernel
theorem dX12_lies_403 : decode cX12_lies 403 = .ok (.iload 6, 2) := by decide +kernel
theorem dX12_lies_405 : decode cX12_lies 405 = .ok (.aload_n 0, 1) := by decide +kernel
theorem dX12_lies_406 : decode cX12_lies 406 = .ok (.iload 8, 2) := by decide +kernel
theorem dX12_lies_408 : decode cX12_lies 408 = .ok (.iconst 0, 1) := by decide +kernel
theorem dX12_lies_409 : decode cX12_lies 409 = .ok (.iload 7, 2) := by decide +kernel
theorem dX12_lies_411 : decode cX12_lies 411 = .ok (.invokevirtual 317, 3) := by decide +kernel
theorem dX12_lies_414 : decode cX12_lies 414 = .ok (.ifCond .eq 7, 3) := by decide +kernel
theorem dX12_lies_417 : decode cX12_lies 417 = .ok (.iconst 0, 1) := by decide +kernel
theorem dX12_lies_418 : decode cX12_lies 418 = .ok (.goto 4, 3) := by decide +kernel
theorem dX12_lies_421 : decode cX12_lies 421 = .ok (.iconst 1, 1) := by decide +kernel
theorem dX12_lies_422 : decode cX12_lies 422 = .ok (.isub, 1) := by decide +kernel
theorem dX12_lies_423 : decode cX12_lies 423 = .ok (.istore 6, 2) := by decide +kernel
theorem dX12_lies_425 : decode cX12_lies 425 = .ok (.iload 8, 2) := by decide +kernel
theorem dX12_lies_427 : decode cX12_lies 427 = .ok (.istore 5, 2) := by decide +kernel
theorem dX12_lies_429 : decode cX12_lies 429 = .ok (.iinc 7 1, 3) := by decide +kernel
theorem dX12_lies_432 : decode cX12_lies 432 = .ok (.goto (-137), 3) := by decide +kernel
theorem dX12_lies_435 : decode cX12_lies 435 = .ok (.iload 4, 2) := by decide +kernel
theorem dX12_lies_437 : decode cX12_lies 437 = .ok (.ireturn, 1) := by decide +kernel
theorem dX12_lay_0 : decode cX12_lay 0 = .ok (.aload_n 0, 1) := by decide +kernel
theorem dX12_lay_1 : decode cX12_lay 1 = .ok (.iconst 0, 1) := by decide +kernel
theorem dX12_lay_2 : decode cX12_lay 2 = .ok (.putfield 96, 3) := by decide +kernel
theorem dX12_lay_5 : decode cX12_lay 5 = .ok (.iconst 0, 1) := by decide +kernel
theorem dX12_lay_6 : decode cX12_lay 6 = .ok (.istore_n 1, 1) := by decide +kernel
theorem dX12_lay_7 : decode cX12_lay 7 = .ok (.iload_n 1, 1) := by decide +kernel
theorem dX12_lay_8 : decode cX12_lay 8 = .ok (.bipush 12, 2) := by decide +kernel
theorem dX12_lay_10 : decode cX12_lay 10 = .ok (.if_icmp .ge 24, 3) := by decide +kernel
theorem dX12_lay_13 : decode cX12_lay 13 = .ok (.aload_n 0, 1) := by decide +kernel
theorem dX12_lay_14 : decode cX12_lay 14 = .ok (.getfield 68, 3) := by decide +kernel
theorem dX12_lay_17 : decode cX12_lay 17 = .ok (.bipush 12, 2) := by decide +kernel
theorem dX12_lay_19 : decode cX12_lay 19 = .ok (.iload_n 1, 1) := by decide +kernel
theorem dX12_lay_20 : decode cX12_lay 20 = .ok (.iadd, 1) := by decide +kernel
theorem dX12_lay_21 : decode cX12_lay 21 = .ok (.aload_n 0, 1) := by decide +kernel
theorem dX12_lay_22 : decode cX12_lay 22 = .ok (.getfield 68, 3) := by decide +kernel
theorem dX12_lay_25 : decode cX12_lay 25 = .ok (.iload_n 1, 1) := by decide +kernel
theorem dX12_lay_26 : decode cX12_lay 26 = .ok (.iaload, 1) := by decide +kernel
theorem dX12_lay_27 : decode cX12_lay 27 = .ok (.iastore, 1) := by decide +kernel
theorem dX12_lay_28 : decode cX12_lay 28 = .ok (.iinc 1 1, 3) := by decide +kernel
theorem dX12_lay_31 : decode cX12_lay 31 = .ok (.goto (-24), 3) := by decide +kernel
theorem dX12_lay_34 : decode cX12_lay 34 = .ok (.aload_n 0, 1) := by decide +kernel
theorem dX12_lay_35 : decode cX12_lay 35 = .ok (.aload_n 0, 1) := by decide +kernel
theorem dX12_lay_36 : decode cX12_lay 36 = .ok (.getfield 314, 3) := by decide +kernel
theorem dX12_lay_39 : decode cX12_lay 39 = .ok (.putfield 336, 3) := by decide +kernel
theorem dX12_lay_42 : decode cX12_lay 42 = .ok (.iconst 1, 1) := by decide +kernel
theorem dX12_lay_43 : decode cX12_lay 43 = .ok (.ireturn, 1) := by decide +kernel
theorem dX12_copies_0 : decode cX12_copies 0 = .ok (.aload_n 0, 1) := by decide +kernel
theorem dX12_copies_1 : decode cX12_copies 1 = .ok (.iconst 0, 1) := by decide +kernel
theorem dX12_copies_2 : decode cX12_copies 2 = .ok (.putfield 96, 3) := by decide +kernel
theorem dX12_copies_5 : decode cX12_copies 5 = .ok (.aload_n 0, 1) := by decide +kernel
theorem dX12_copies_6 : decode cX12_copies 6 = .ok (.iload_n 1, 1) := by decide +kernel
theorem dX12_copies_7 : decode cX12_copies 7 = .ok (.invokevirtual 197, 3) := by decide +kernel
theorem dX12_copies_10 : decode cX12_copies 10 = .ok (.ifCond .eq 19, 3) := by decide +kernel
theorem dX12_copies_13 : decode cX12_copies 13 = .ok (.aload_n 0, 1) := by decide +kernel
theorem dX12_copies_14 : decode cX12_copies 14 = .ok (.iload_n 2, 1) := by decide +kernel
theorem dX12_copies_15 : decode cX12_copies 15 = .ok (.invokevirtual 197, 3) := by decide +kernel
theorem dX12_copies_18 : decode cX12_copies 18 = .ok (.ifCond .eq 11, 3) := by decide +kernel
theorem dX12_copies_21 : decode cX12_copies 21 = .ok (.aload_n 0, 1) := by decide +kernel
theorem dX12_copies_22 : decode cX12_copies 22 = .ok (.iload_n 3, 1) := by decide +kernel
theorem dX12_copies_23 : decode cX12_copies 23 = .ok (.invokevirtual 197, 3) := by decide +kernel
theorem dX12_copies_26 : decode cX12_copies 26 = .ok (.ifCond .ne 5, 3) := by decide +kernel
theorem dX12_copies_29 : decode cX12_copies 29 = .ok (.iconst (-1), 1) := by decide +kernel
theorem dX12_copies_30 : decode cX12_copies 30 = .ok (.ireturn, 1) := by decide +kernel
theorem dX12_copies_31 : decode cX12_copies 31 = .ok (.aload_n 0, 1) := by decide +kernel
theorem dX12_copies_32 : decode cX12_copies 32 = .ok (.getfield 314, 3) := by decide +kernel
theorem dX12_copies_35 : decode cX12_copies 35 = .ok (.ifCond .eq 10, 3) := by decide +kernel
theorem dX12_copies_38 : decode cX12_copies 38 = .ok (.aload_n 0, 1) := by decide +kernel
theorem dX12_copies_39 : decode cX12_copies 39 = .ok (.getfield 336, 3) := by decide +kernel
theorem dX12_copies_42 : decode cX12_copies 42 = .ok (.ifCond .ne 6, 3) := by decide +kernel
theorem dX12_copies_45 : decode cX12_copies 45 = .ok (.bipush (-2), 2) := by decide +kernel
theorem dX12_copies_47 : decode cX12_copies 47 = .ok (.ireturn, 1) := by decide +kernel
theorem dX12_copies_48 : decode cX12_copies 48 = .ok (.iconst 0, 1) := by decide +kernel
theorem dX12_copies_49 : decode cX12_copies 49 = .ok (.istore 4, 2) := by decide +kernel
theorem dX12_copies_51 : decode cX12_copies 51 = .ok (.aload_n 0, 1) := by decide +kernel
theorem dX12_copies_52 : decode cX12_copies 52 = .ok (.iconst 0, 1) := by decide +kernel
theorem dX12_copies_53 : decode cX12_copies 53 = .ok (.putfield 99, 3) := by decide +kernel
theorem dX12_copies_56 : decode cX12_copies 56 = .ok (.iconst (-1), 1) := by decide +kernel
theorem dX12_copies_57 : decode cX12_copies 57 = .ok (.istore 5, 2) := by decide +kernel
theorem dX12_copies_59 : decode cX12_copies 59 = .ok (.iconst 0, 1) := by decide +kernel
theorem dX12_copies_60 : decode cX12_copies 60 = .ok (.istore 6, 2) := by decide +kernel
theorem dX12_copies_62 : decode cX12_copies 62 = .ok (.iload 6, 2) := by decide +kernel
theorem dX12_copies_64 : decode cX12_copies 64 = .ok (.bipush 99, 2) := by decide +kernel
theorem dX12_copies_66 : decode cX12_copies 66 = .ok (.if_icmp .gt 83, 3) := by decide +kernel
theorem dX12_copies_69 : decode cX12_copies 69 = .ok (.aload_n 0, 1) := by decide +kernel
theorem dX12_copies_70 : decode cX12_copies 70 = .ok (.getfield 68, 3) := by decide +kernel
theorem dX12_copies_73 : decode cX12_copies 73 = .ok (.iconst 0, 1) := by decide +kernel
theorem dX12_copies_74 : decode cX12_copies 74 = .ok (.iaload, 1) := by decide +kernel
theorem dX12_copies_75 : decode cX12_copies 75 = .ok (.aload_n 0, 1) := by decide +kernel
theorem dX12_copies_76 : decode cX12_copies 76 = .ok (.getfield 68, 3) := by decide +kernel
theorem dX12_copies_79 : decode cX12_copies 79 = .ok (.bipush 12, 2) := by decide +kernel
theorem dX12_copies_81 : decode cX12_copies 81 = .ok (.iaload, 1) := by decide +kernel
theorem dX12_copies_82 : decode cX12_copies 82 = .ok (.if_icmp .ne 67, 3) := by decide +kernel
theorem dX12_copies_85 : decode cX12_copies 85 = .ok (.aload_n 0, 1) := by decide +kernel
theorem dX12_copies_86 : decode cX12_copies 86 = .ok (.iconst 0, 1) := by decide +kernel
theorem dX12_copies_87 : decode cX12_copies 87 = .ok (.aload_n 0, 1) := by decide +kernel
theorem dX12_copies_88 : decode cX12_copies 88 = .ok (.getfield 314, 3) := by decide +kernel
theorem dX12_copies_91 : decode cX12_copies 91 = .ok (.iload_n 1, 1) := by decide +kernel
theorem dX12_copies_92 : decode cX12_copies 92 = .ok (.iload_n 2, 1) := by decide +kernel
theorem dX12_copies_93 : decode cX12_copies 93 = .ok (.iload 6, 2) := by decide +kernel
theorem dX12_copies_95 : decode cX12_copies 95 = .ok (.invokevirtual 326, 3) := by decide +kernel
theorem dX12_copies_98 : decode cX12_copies 98 = .ok (.lconst 0, 1) := by decide +kernel
theorem dX12_copies_99 : decode cX12_copies 99 = .ok (.lcmp, 1) := by decide +kernel
theorem dX12_copies_100 : decode cX12_copies 100 = .ok (.ifCond .eq 43, 3) := by decide +kernel
theorem dX12_copies_103 : decode cX12_copies 103 = .ok (.aload_n 0, 1) := by decide +kernel
theorem dX12_copies_104 : decode cX12_copies 104 = .ok (.bipush 12, 2) := by decide +kernel
theorem dX12_copies_106 : decode cX12_copies 106 = .ok (.aload_n 0, 1) := by decide +kernel
theorem dX12_copies_107 : decode cX12_copies 107 = .ok (.getfield 336, 3) := by decide +kernel
theorem dX12_copies_110 : decode cX12_copies 110 = .ok (.iload_n 1, 1) := by decide +kernel
theorem dX12_copies_111 : decode cX12_copies 111 = .ok (.iload_n 3, 1) := by decide +kernel
theorem dX12_copies_112 : decode cX12_copies 112 = .ok (.iload 6, 2) := by decide +kernel
theorem dX12_copies_114 : decode cX12_copies 114 = .ok (.invokevirtual 326, 3) := by decide +kernel
theorem dX12_copies_117 : decode cX12_copies 117 = .ok (.lconst 0, 1) := by decide +kernel
theorem dX12_copies_118 : decode cX12_copies 118 = .ok (.lcmp, 1) := by decide +kernel
theorem dX12_copies_119 : decode cX12_copies 119 = .ok (.ifCond .ne 6, 3) := by decide +kernel
theorem dX12_copies_122 : decode cX12_copies 122 = .ok (.goto 21, 3) := by decide +kernel
theorem dX12_copies_125 : decode cX12_copies 125 = .ok (.iload 4, 2) := by decide +kernel
theorem dX12_copies_127 : decode cX12_copies 127 = .ok (.ifCond .ne 9, 3) := by decide +kernel
theorem dX12_copies_130 : decode cX12_copies 130 = .ok (.aload_n 0, 1) := by decide +kernel
theorem dX12_copies_131 : decode cX12_copies 131 = .ok (.iload 6, 2) := by decide +kernel
theorem dX12_copies_133 : decode cX12_copies 133 = .ok (.invokevirtual 250, 3) := by decide +kernel
theorem dX12_copies_136 : decode cX12_copies 136 = .ok (.iload 6, 2) := by decide +kernel
theorem dX12_copies_138 : decode cX12_copies 138 = .ok (.istore 5, 2) := by decide +kernel
theorem dX12_copies_140 : decode cX12_copies 140 = .ok (.iinc 4 1, 3) := by decide +kernel
theorem dX12_copies_143 : decode cX12_copies 143 = .ok (.iinc 6 1, 3) := by decide +kernel
theorem dX12_copies_146 : decode cX12_copies 146 = .ok (.goto (-84), 3) := by decide +kernel
theorem dX12_copies_149 : decode cX12_copies 149 = .ok (.iload 4, 2) := by decide +kernel
theorem dX12_copies_151 : decode cX12_copies 151 = .ok (.ifCond .le 9, 3) := by decide +kernel
theorem dX12_copies_154 : decode cX12_copies 154 = .ok (.aload_n 0, 1) := by decide +kernel
theorem dX12_copies_155 : decode cX12_copies 155 = .ok (.iload 5, 2) := by decide +kernel
theorem dX12_copies_157 : decode cX12_copies 157 = .ok (.invokevirtual 250, 3) := by decide +kernel
theorem dX12_copies_160 : decode cX12_copies 160 = .ok (.iload 4, 2) := by decide +kernel
theorem dX12_copies_162 : decode cX12_copies 162 = .ok (.ireturn, 1) := by decide +kernel
theorem dX12_when_0 : decode cX12_when 0 = .ok (.aload_n 0, 1) := by decide +kernel
theorem dX12_when_1 : decode cX12_when 1 = .ok (.iconst 0, 1) := by decide +kernel
theorem dX12_when_2 : decode cX12_when 2 = .ok (.putfield 96, 3) := by decide +kernel
theorem dX12_when_5 : decode cX12_when 5 = .ok (.aload_n 0, 1) := by decide +kernel
theorem dX12_when_6 : decode cX12_when 6 = .ok (.iload_n 1, 1) := by decide +kernel
theorem dX12_when_7 : decode cX12_when 7 = .ok (.invokevirtual 197, 3) := by decide +kernel
theorem dX12_when_10 : decode cX12_when 10 = .ok (.ifCond .eq 11, 3) := by decide +kernel
theorem dX12_when_13 : decode cX12_when 13 = .ok (.aload_n 0, 1) := by decide +kernel
theorem dX12_when_14 : decode cX12_when 14 = .ok (.iload_n 2, 1) := by decide +kernel
theorem dX12_when_15 : decode cX12_when 15 = .ok (.invokevirtual 197, 3) := by decide +kernel
theorem dX12_when_18 : decode cX12_when 18 = .ok (.ifCond .ne 5, 3) := by decide +kernel
theorem dX12_when_21 : decode cX12_when 21 = .ok (.iconst (-1), 1) := by decide +kernel
theorem dX12_when_22 : decode cX12_when 22 = .ok (.ireturn, 1) := by decide +kernel
theorem dX12_when_23 : decode cX12_when 23 = .ok (.aload_n 0, 1) := by decide +kernel
theorem dX12_when_24 : decode cX12_when 24 = .ok (.getfield 314, 3) := by decide +kernel
theorem dX12_when_27 : decode cX12_when 27 = .ok (.ifCond .ne 6, 3) := by decide +kernel
theorem dX12_when_30 : decode cX12_when 30 = .ok (.bipush (-2), 2) := by decide +kernel
theorem dX12_when_32 : decode cX12_when 32 = .ok (.ireturn, 1) := by decide +kernel
theorem dX12_when_33 : decode cX12_when 33 = .ok (.iconst 0, 1) := by decide +kernel
theorem dX12_when_34 : decode cX12_when 34 = .ok (.istore_n 3, 1) := by decide +kernel
