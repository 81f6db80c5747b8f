theorem dX12_init_0 : decode cX12_init 0 = .ok (.aload_n 0, 1) := by decide +kernel
theorem dX12_init_1 : decode cX12_init 1 = .ok (.invokespecial 1, 3) := by decide +kernel
theorem dX12_init_4 : decode cX12_init 4 = .ok (.aload_n 0, 1) := by decide +kernel
theorem dX12_init_5 : decode cX12_init 5 = .ok (.sipush 150, 3) := by decide +kernel
theorem dX12_init_8 : decode cX12_init 8 = .ok (.newarray .int, 2) := by decide +kernel
theorem dX12_init_10 : decode cX12_init 10 = .ok (.putfield 7, 3) := by decide +kernel
theorem dX12_init_13 : decode cX12_init 13 = .ok (.aload_n 0, 1) := by decide +kernel
theorem dX12_init_14 : decode cX12_init 14 = .ok (.sipush 150, 3) := by decide +kernel
theorem dX12_init_17 : decode cX12_init 17 = .ok (.newarray .int, 2) := by decide +kernel
theorem dX12_init_19 : decode cX12_init 19 = .ok (.putfield 13, 3) := by decide +kernel
theorem dX12_init_22 : decode cX12_init 22 = .ok (.aload_n 0, 1) := by decide +kernel
theorem dX12_init_23 : decode cX12_init 23 = .ok (.sipush 150, 3) := by decide +kernel
theorem dX12_init_26 : decode cX12_init 26 = .ok (.newarray .int, 2) := by decide +kernel
theorem dX12_init_28 : decode cX12_init 28 = .ok (.putfield 16, 3) := by decide +kernel
theorem dX12_init_31 : decode cX12_init 31 = .ok (.aload_n 0, 1) := by decide +kernel
theorem dX12_init_32 : decode cX12_init 32 = .ok (.sipush 150, 3) := by decide +kernel
theorem dX12_init_35 : decode cX12_init 35 = .ok (.newarray .int, 2) := by decide +kernel
theorem dX12_init_37 : decode cX12_init 37 = .ok (.putfield 19, 3) := by decide +kernel
theorem dX12_init_40 : decode cX12_init 40 = .ok (.aload_n 0, 1) := by decide +kernel
theorem dX12_init_41 : decode cX12_init 41 = .ok (.sipush 150, 3) := by decide +kernel
theorem dX12_init_44 : decode cX12_init 44 = .ok (.newarray .boolean, 2) := by decide +kernel
theorem dX12_init_46 : decode cX12_init 46 = .ok (.putfield 22, 3) := by decide +kernel
theorem dX12_init_49 : decode cX12_init 49 = .ok (.aload_n 0, 1) := by decide +kernel
theorem dX12_init_50 : decode cX12_init 50 = .ok (.iconst (-1), 1) := by decide +kernel
theorem dX12_init_51 : decode cX12_init 51 = .ok (.putfield 26, 3) := by decide +kernel
theorem dX12_init_54 : decode cX12_init 54 = .ok (.aload_n 0, 1) := by decide +kernel
theorem dX12_init_55 : decode cX12_init 55 = .ok (.bipush 12, 2) := by decide +kernel
theorem dX12_init_57 : decode cX12_init 57 = .ok (.newarray .int, 2) := by decide +kernel
theorem dX12_init_59 : decode cX12_init 59 = .ok (.putfield 30, 3) := by decide +kernel
theorem dX12_init_62 : decode cX12_init 62 = .ok (.aload_n 0, 1) := by decide +kernel
theorem dX12_init_63 : decode cX12_init 63 = .ok (.bipush 12, 2) := by decide +kernel
theorem dX12_init_65 : decode cX12_init 65 = .ok (.newarray .int, 2) := by decide +kernel
theorem dX12_init_67 : decode cX12_init 67 = .ok (.putfield 33, 3) := by decide +kernel
theorem dX12_init_70 : decode cX12_init 70 = .ok (.aload_n 0, 1) := by decide +kernel
theorem dX12_init_71 : decode cX12_init 71 = .ok (.bipush 12, 2) := by decide +kernel
theorem dX12_init_73 : decode cX12_init 73 = .ok (.newarray .int, 2) := by decide +kernel
theorem dX12_init_75 : decode cX12_init 75 = .ok (.putfield 36, 3) := by decide +kernel
theorem dX12_init_78 : decode cX12_init 78 = .ok (.aload_n 0, 1) := by decide +kernel
theorem dX12_init_79 : decode cX12_init 79 = .ok (.bipush 12, 2) := by decide +kernel
theorem dX12_init_81 : decode cX12_init 81 = .ok (.newarray .int, 2) := by decide +kernel
theorem dX12_init_83 : decode cX12_init 83 = .ok (.putfield 39, 3) := by decide +kernel
theorem dX12_init_86 : decode cX12_init 86 = .ok (.aload_n 0, 1) := by decide +kernel
theorem dX12_init_87 : decode cX12_init 87 = .ok (.bipush 12, 2) := by decide +kernel
theorem dX12_init_89 : decode cX12_init 89 = .ok (.newarray .int, 2) := by decide +kernel
theorem dX12_init_91 : decode cX12_init 91 = .ok (.putfield 42, 3) := by decide +kernel
theorem dX12_init_94 : decode cX12_init 94 = .ok (.aload_n 0, 1) := by decide +kernel
theorem dX12_init_95 : decode cX12_init 95 = .ok (.bipush 12, 2) := by decide +kernel
theorem dX12_init_97 : decode cX12_init 97 = .ok (.newarray .int, 2) := by decide +kernel
theorem dX12_init_99 : decode cX12_init 99 = .ok (.putfield 45, 3) := by decide +kernel
theorem dX12_init_102 : decode cX12_init 102 = .ok (.aload_n 0, 1) := by decide +kernel
theorem dX12_init_103 : decode cX12_init 103 = .ok (.sipush 4800, 3) := by decide +kernel
theorem dX12_init_106 : decode cX12_init 106 = .ok (.newarray .int, 2) := by decide +kernel
theorem dX12_init_108 : decode cX12_init 108 = .ok (.putfield 48, 3) := by decide +kernel
theorem dX12_init_111 : decode cX12_init 111 = .ok (.aload_n 0, 1) := by decide +kernel
theorem dX12_init_112 : decode cX12_init 112 = .ok (.sipush 4800, 3) := by decide +kernel
theorem dX12_init_115 : decode cX12_init 115 = .ok (.newarray .int, 2) := by decide +kernel
theorem dX12_init_117 : decode cX12_init 117 = .ok (.putfield 51, 3) := by decide +kernel
theorem dX12_init_120 : decode cX12_init 120 = .ok (.aload_n 0, 1) := by decide +kernel
theorem dX12_init_121 : decode cX12_init 121 = .ok (.sipush 4800, 3) := by decide +kernel
theorem dX12_init_124 : decode cX12_init 124 = .ok (.newarray .int, 2) := by decide +kernel
theorem dX12_init_126 : decode cX12_init 126 = .ok (.putfield 54, 3) := by decide +kernel
theorem dX12_init_129 : decode cX12_init 129 = .ok (.aload_n 0, 1) := by decide +kernel
theorem dX12_init_130 : decode cX12_init 130 = .ok (.bipush 12, 2) := by decide +kernel
theorem dX12_init_132 : decode cX12_init 132 = .ok (.newarray .int, 2) := by decide +kernel
theorem dX12_init_134 : decode cX12_init 134 = .ok (.putfield 57, 3) := by decide +kernel
theorem dX12_init_137 : decode cX12_init 137 = .ok (.aload_n 0, 1) := by decide +kernel
theorem dX12_init_138 : decode cX12_init 138 = .ok (.sipush 4800, 3) := by decide +kernel
theorem dX12_init_141 : decode cX12_init 141 = .ok (.newarray .int, 2) := by decide +kernel
theorem dX12_init_143 : decode cX12_init 143 = .ok (.putfield 60, 3) := by decide +kernel
theorem dX12_init_146 : decode cX12_init 146 = .ok (.aload_n 0, 1) := by decide +kernel
theorem dX12_init_147 : decode cX12_init 147 = .ok (.sipush 4800, 3) := by decide +kernel
theorem dX12_init_150 : decode cX12_init 150 = .ok (.newarray .int, 2) := by decide +kernel
theorem dX12_init_152 : decode cX12_init 152 = .ok (.putfield 63, 3) := by decide +kernel
theorem dX12_init_155 : decode cX12_init 155 = .ok (.aload_n 0, 1) := by decide +kernel
theorem dX12_init_156 : decode cX12_init 156 = .ok (.sipush 4800, 3) := by decide +kernel
theorem dX12_init_159 : decode cX12_init 159 = .ok (.newarray .int, 2) := by decide +kernel
theorem dX12_init_161 : decode cX12_init 161 = .ok (.putfield 66, 3) := by decide +kernel
theorem dX12_init_164 : decode cX12_init 164 = .ok (.aload_n 0, 1) := by decide +kernel
theorem dX12_init_165 : decode cX12_init 165 = .ok (.sipush 4000, 3) := by decide +kernel
theorem dX12_init_168 : decode cX12_init 168 = .ok (.newarray .int, 2) := by decide +kernel
theorem dX12_init_170 : decode cX12_init 170 = .ok (.putfield 69, 3) := by decide +kernel
theorem dX12_init_173 : decode cX12_init 173 = .ok (.aload_n 0, 1) := by decide +kernel
theorem dX12_init_174 : decode cX12_init 174 = .ok (.sipush 4000, 3) := by decide +kernel
theorem dX12_init_177 : decode cX12_init 177 = .ok (.newarray .int, 2) := by decide +kernel
theorem dX12_init_179 : decode cX12_init 179 = .ok (.putfield 72, 3) := by decide +kernel
theorem dX12_init_182 : decode cX12_init 182 = .ok (.aload_n 0, 1) := by decide +kernel
theorem dX12_init_183 : decode cX12_init 183 = .ok (.sipush 4000, 3) := by decide +kernel
theorem dX12_init_186 : decode cX12_init 186 = .ok (.newarray .int, 2) := by decide +kernel
theorem dX12_init_188 : decode cX12_init 188 = .ok (.putfield 75, 3) := by decide +kernel
theorem dX12_init_191 : decode cX12_init 191 = .ok (.aload_n 0, 1) := by decide +kernel
theorem dX12_init_192 : decode cX12_init 192 = .ok (.sipush 4000, 3) := by decide +kernel
theorem dX12_init_195 : decode cX12_init 195 = .ok (.newarray .int, 2) := by decide +kernel
theorem dX12_init_197 : decode cX12_init 197 = .ok (.putfield 78, 3) := by decide +kernel
theorem dX12_init_200 : decode cX12_init 200 = .ok (.aload_n 0, 1) := by decide +kernel
theorem dX12_init_201 : decode cX12_init 201 = .ok (.sipush 4000, 3) := by decide +kernel
theorem dX12_init_204 : decode cX12_init 204 = .ok (.newarray .int, 2) := by decide +kernel
theorem dX12_init_206 : decode cX12_init 206 = .ok (.putfield 81, 3) := by decide +kernel
theorem dX12_init_209 : decode cX12_init 209 = .ok (.aload_n 0, 1) := by decide +kernel
theorem dX12_init_210 : decode cX12_init 210 = .ok (.sipush 4000, 3) := by decide +kernel
theorem dX12_init_213 : decode cX12_init 213 = .ok (.newarray .int, 2) := by decide +kernel
theorem dX12_init_215 : decode cX12_init 215 = .ok (.putfield 84, 3) := by decide +kernel
theorem dX12_init_218 : decode cX12_init 218 = .ok (.aload_n 0, 1) := by decide +kernel
theorem dX12_init_219 : decode cX12_init 219 = .ok (.sipush 4000, 3) := by decide +kernel
theorem dX12_init_222 : decode cX12_init 222 = .ok (.newarray .int, 2) := by decide +kernel
theorem dX12_init_224 : decode cX12_init 224 = .ok (.putfield 87, 3) := by decide +kernel
theorem dX12_init_227 : decode cX12_init 227 = .ok (.aload_n 0, 1) := by decide +kernel
theorem dX12_init_228 : decode cX12_init 228 = .ok (.sipush 4000, 3) := by decide +kernel
theorem dX12_init_231 : decode cX12_init 231 = .ok (.newarray .int, 2) := by decide +kernel
theorem dX12_init_233 : decode cX12_init 233 = .ok (.putfield 90, 3) := by decide +kernel
theorem dX12_init_236 : decode cX12_init 236 = .ok (.aload_n 0, 1) := by decide +kernel
theorem dX12_init_237 : decode cX12_init 237 = .ok (.bipush 12, 2) := by decide +kernel
theorem dX12_init_239 : decode cX12_init 239 = .ok (.newarray .int, 2) := by decide +kernel
theorem dX12_init_241 : decode cX12_init 241 = .ok (.putfield 93, 3) := by decide +kernel
theorem dX12_init_244 : decode cX12_init 244 = .ok (.aload_n 0, 1) := by decide +kernel
theorem dX12_init_245 : decode cX12_init 245 = .ok (.bipush 12, 2) := by decide +kernel
theorem dX12_init_247 : decode cX12_init 247 = .ok (.newarray .int, 2) := by decide +kernel
theorem dX12_init_249 : decode cX12_init 249 = .ok (.putfield 96, 3) := by decide +kernel
theorem dX12_init_252 : decode cX12_init 252 = .ok (.aload_n 0, 1) := by decide +kernel
theorem dX12_init_253 : decode cX12_init 253 = .ok (.bipush 12, 2) := by decide +kernel
theorem dX12_init_255 : decode cX12_init 255 = .ok (.newarray .int, 2) := by decide +kernel
theorem dX12_init_257 : decode cX12_init 257 = .ok (.putfield 99, 3) := by decide +kernel
theorem dX12_init_260 : decode cX12_init 260 = .ok (.aload_n 0, 1) := by decide +kernel
theorem dX12_init_261 : decode cX12_init 261 = .ok (.bipush 12, 2) := by decide +kernel
theorem dX12_init_263 : decode cX12_init 263 = .ok (.newarray .int, 2) := by decide +kernel
theorem dX12_init_265 : decode cX12_init 265 = .ok (.putfield 102, 3) := by decide +kernel
theorem dX12_init_268 : decode cX12_init 268 = .ok (.aload_n 0, 1) := by decide +kernel
theorem dX12_init_269 : decode cX12_init 269 = .ok (.bipush 12, 2) := by decide +kernel
theorem dX12_init_271 : decode cX12_init 271 = .ok (.newarray .int, 2) := by decide +kernel
theorem dX12_init_273 : decode cX12_init 273 = .ok (.putfield 105, 3) := by decide +kernel
theorem dX12_init_276 : decode cX12_init 276 = .ok (.aload_n 0, 1) := by decide +kernel
theorem dX12_init_277 : decode cX12_init 277 = .ok (.bipush 26, 2) := by decide +kernel
theorem dX12_init_279 : decode cX12_init 279 = .ok (.newarray .int, 2) := by decide +kernel
theorem dX12_init_281 : decode cX12_init 281 = .ok (.putfield 108, 3) := by decide +kernel
theorem dX12_init_284 : decode cX12_init 284 = .ok (.aload_n 0, 1) := by decide +kernel
theorem dX12_init_285 : decode cX12_init 285 = .ok (.sipush 300, 3) := by decide +kernel
theorem dX12_init_288 : decode cX12_init 288 = .ok (.newarray .int, 2) := by decide +kernel
theorem dX12_init_290 : decode cX12_init 290 = .ok (.putfield 111, 3) := by decide +kernel
theorem dX12_init_293 : decode cX12_init 293 = .ok (.aload_n 0, 1) := by decide +kernel
theorem dX12_init_294 : decode cX12_init 294 = .ok (.iconst (-1), 1) := by decide +kernel
theorem dX12_init_295 : decode cX12_init 295 = .ok (.putfield 114, 3) := by decide +kernel
theorem dX12_init_298 : decode cX12_init 298 = .ok (.aload_n 0, 1) := by decide +kernel
theorem dX12_init_299 : decode cX12_init 299 = .ok (.iconst 1, 1) := by decide +kernel
theorem dX12_init_300 : decode cX12_init 300 = .ok (.putfield 117, 3) := by decide +kernel
theorem dX12_init_303 : decode cX12_init 303 = .ok (.return_, 1) := by decide +kernel
theorem dX12_in_0 : decode cX12_in 0 = .ok (.lload_n 0, 1) := by decide +kernel
theorem dX12_in_1 : decode cX12_in 1 = .ok (.lload_n 2, 1) := by decide +kernel
theorem dX12_in_2 : decode cX12_in 2 = .ok (.lcmp, 1) := by decide +kernel
theorem dX12_in_3 : decode cX12_in 3 = .ok (.ifCond .lt 14, 3) := by decide +kernel
theorem dX12_in_6 : decode cX12_in 6 = .ok (.lload_n 0, 1) := by decide +kernel
theorem dX12_in_7 : decode cX12_in 7 = .ok (.lload 4, 2) := by decide +kernel
theorem dX12_in_9 : decode cX12_in 9 = .ok (.lcmp, 1) := by decide +kernel
theorem dX12_in_10 : decode cX12_in 10 = .ok (.ifCond .gt 7, 3) := by decide +kernel
theorem dX12_in_13 : decode cX12_in 13 = .ok (.iconst 1, 1) := by decide +kernel
theorem dX12_in_14 : decode cX12_in 14 = .ok (.goto 4, 3) := by decide +kernel
theorem dX12_in_17 : decode cX12_in 17 = .ok (.iconst 0, 1) := by decide +kernel
theorem dX12_in_18 : decode cX12_in 18 = .ok (.ireturn, 1) := by decide +kernel
theorem dX12_told_0 : decode cX12_told 0 = .ok (.aload_n 0, 1) := by decide +kernel
theorem dX12_told_1 : decode cX12_told 1 = .ok (.iload_n 1, 1) := by decide +kernel
theorem dX12_told_2 : decode cX12_told 2 = .ok (.ifCond .ge 7, 3) := by decide +kernel
theorem dX12_told_5 : decode cX12_told 5 = .ok (.iload_n 1, 1) := by decide +kernel
theorem dX12_told_6 : decode cX12_told 6 = .ok (.goto 4, 3) := by decide +kernel
theorem dX12_told_9 : decode cX12_told 9 = .ok (.iconst 0, 1) := by decide +kernel
theorem dX12_told_10 : decode cX12_told 10 = .ok (.putfield 123, 3) := by decide +kernel
theorem dX12_told_13 : decode cX12_told 13 = .ok (.iload_n 1, 1) := by decide +kernel
theorem dX12_told_14 : decode cX12_told 14 = .ok (.ireturn, 1) := by decide +kernel
theorem dX12_tell_0 : decode cX12_tell 0 = .ok (.aload_n 0, 1) := by decide +kernel
theorem dX12_tell_1 : decode cX12_tell 1 = .ok (.iconst 0, 1) := by decide +kernel
theorem dX12_tell_2 : decode cX12_tell 2 = .ok (.putfield 120, 3) := by decide +kernel
theorem dX12_tell_5 : decode cX12_tell 5 = .ok (.iload_n 1, 1) := by decide +kernel
theorem dX12_tell_6 : decode cX12_tell 6 = .ok (.i2l, 1) := by decide +kernel
theorem dX12_tell_7 : decode cX12_tell 7 = .ok (.lconst 0, 1) := by decide +kernel
theorem dX12_tell_8 : decode cX12_tell 8 = .ok (.ldc2_w 126, 3) := by decide +kernel
theorem dX12_tell_11 : decode cX12_tell 11 = .ok (.invokestatic 128, 3) := by decide +kernel
theorem dX12_tell_14 : decode cX12_tell 14 = .ok (.ifCond .eq 42, 3) := by decide +kernel
theorem dX12_tell_17 : decode cX12_tell 17 = .ok (.iload_n 2, 1) := by decide +kernel
theorem dX12_tell_18 : decode cX12_tell 18 = .ok (.i2l, 1) := by decide +kernel
theorem dX12_tell_19 : decode cX12_tell 19 = .ok (.lconst 0, 1) := by decide +kernel
theorem dX12_tell_20 : decode cX12_tell 20 = .ok (.ldc2_w 132, 3) := by decide +kernel
theorem dX12_tell_23 : decode cX12_tell 23 = .ok (.invokestatic 128, 3) := by decide +kernel
theorem dX12_tell_26 : decode cX12_tell 26 = .ok (.ifCond .eq 30, 3) := by decide +kernel
theorem dX12_tell_29 : decode cX12_tell 29 = .ok (.iload_n 3, 1) := by decide +kernel
theorem dX12_tell_30 : decode cX12_tell 30 = .ok (.i2l, 1) := by decide +kernel
theorem dX12_tell_31 : decode cX12_tell 31 = .ok (.ldc2_w 134, 3) := by decide +kernel
theorem dX12_tell_34 : decode cX12_tell 34 = .ok (.ldc2_w 136, 3) := by decide +kernel
theorem dX12_tell_37 : decode cX12_tell 37 = .ok (.invokestatic 128, 3) := by decide +kernel
theorem dX12_tell_40 : decode cX12_tell 40 = .ok (.ifCond .eq 16, 3) := by decide +kernel
theorem dX12_tell_43 : decode cX12_tell 43 = .ok (.iload 4, 2) := by decide +kernel
theorem dX12_tell_45 : decode cX12_tell 45 = .ok (.i2l, 1) := by decide +kernel
theorem dX12_tell_46 : decode cX12_tell 46 = .ok (.lconst 0, 1) := by decide +kernel
theorem dX12_tell_47 : decode cX12_tell 47 = .ok (.ldc2_w 138, 3) := by decide +kernel
theorem dX12_tell_50 : decode cX12_tell 50 = .ok (.invokestatic 128, 3) := by decide +kernel
theorem dX12_tell_53 : decode cX12_tell 53 = .ok (.ifCond .ne 9, 3) := by decide +kernel
theorem dX12_tell_56 : decode cX12_tell 56 = .ok (.aload_n 0, 1) := by decide +kernel
theorem dX12_tell_57 : decode cX12_tell 57 = .ok (.iconst (-1), 1) := by decide +kernel
theorem dX12_tell_58 : decode cX12_tell 58 = .ok (.invokevirtual 140, 3) := by decide +kernel
theorem dX12_tell_61 : decode cX12_tell 61 = .ok (.ireturn, 1) := by decide +kernel
theorem dX12_tell_62 : decode cX12_tell 62 = .ok (.aload_n 0, 1) := by decide +kernel
theorem dX12_tell_63 : decode cX12_tell 63 = .ok (.getfield 144, 3) := by decide +kernel
theorem dX12_tell_66 : decode cX12_tell 66 = .ok (.sipush 150, 3) := by decide +kernel
theorem dX12_tell_69 : decode cX12_tell 69 = .ok (.if_icmp .ne 10, 3) := by decide +kernel
theorem dX12_tell_72 : decode cX12_tell 72 = .ok (.aload_n 0, 1) := by decide +kernel
theorem dX12_tell_73 : decode cX12_tell 73 = .ok (.bipush (-5), 2) := by decide +kernel
theorem dX12_tell_75 : decode cX12_tell 75 = .ok (.invokevirtual 140, 3) := by decide +kernel
theorem dX12_tell_78 : decode cX12_tell 78 = .ok (.ireturn, 1) := by decide +kernel
theorem dX12_tell_79 : decode cX12_tell 79 = .ok (.aload_n 0, 1) := by decide +kernel
theorem dX12_tell_80 : decode cX12_tell 80 = .ok (.getfield 7, 3) := by decide +kernel
theorem dX12_tell_83 : decode cX12_tell 83 = .ok (.aload_n 0, 1) := by decide +kernel
theorem dX12_tell_84 : decode cX12_tell 84 = .ok (.getfield 144, 3) := by decide +kernel
theorem dX12_tell_87 : decode cX12_tell 87 = .ok (.iload_n 1, 1) := by decide +kernel
theorem dX12_tell_88 : decode cX12_tell 88 = .ok (.iastore, 1) := by decide +kernel
theorem dX12_tell_89 : decode cX12_tell 89 = .ok (.aload_n 0, 1) := by decide +kernel
theorem dX12_tell_90 : decode cX12_tell 90 = .ok (.getfield 13, 3) := by decide +kernel
theorem dX12_tell_93 : decode cX12_tell 93 = .ok (.aload_n 0, 1) := by decide +kernel
theorem dX12_tell_94 : decode cX12_tell 94 = .ok (.getfield 144, 3) := by decide +kernel
theorem dX12_tell_97 : decode cX12_tell 97 = .ok (.iload_n 2, 1) := by decide +kernel
theorem dX12_tell_98 : decode cX12_tell 98 = .ok (.iastore, 1) := by decide +kernel
theorem dX12_tell_99 : decode cX12_tell 99 = .ok (.aload_n 0, 1) := by decide +kernel
theorem dX12_tell_100 : decode cX12_tell 100 = .ok (.getfield 16, 3) := by decide +kernel
theorem dX12_tell_103 : decode cX12_tell 103 = .ok (.aload_n 0, 1) := by decide +kernel
theorem dX12_tell_104 : decode cX12_tell 104 = .ok (.getfield 144, 3) := by decide +kernel
theorem dX12_tell_107 : decode cX12_tell 107 = .ok (.iload_n 3, 1) := by decide +kernel
theorem dX12_tell_108 : decode cX12_tell 108 = .ok (.iastore, 1) := by decide +kernel
theorem dX12_tell_109 : decode cX12_tell 109 = .ok (.aload_n 0, 1) := by decide +kernel
theorem dX12_tell_110 : decode cX12_tell 110 = .ok (.getfield 19, 3) := by decide +kernel
theorem dX12_tell_113 : decode cX12_tell 113 = .ok (.aload_n 0, 1) := by decide +kernel
theorem dX12_tell_114 : decode cX12_tell 114 = .ok (.getfield 144, 3) := by decide +kernel
theorem dX12_tell_117 : decode cX12_tell 117 = .ok (.iload 4, 2) := by decide +kernel
theorem dX12_tell_119 : decode cX12_tell 119 = .ok (.iastore, 1) := by decide +kernel
theorem dX12_tell_120 : decode cX12_tell 120 = .ok (.aload_n 0, 1) := by decide +kernel
theorem dX12_tell_121 : decode cX12_tell 121 = .ok (.dup, 1) := by decide +kernel
theorem dX12_tell_122 : decode cX12_tell 122 = .ok (.getfield 144, 3) := by decide +kernel
theorem dX12_tell_125 : decode cX12_tell 125 = .ok (.iconst 1, 1) := by decide +kernel
theorem dX12_tell_126 : decode cX12_tell 126 = .ok (.iadd, 1) := by decide +kernel
theorem dX12_tell_127 : decode cX12_tell 127 = .ok (.putfield 144, 3) := by decide +kernel
theorem dX12_tell_130 : decode cX12_tell 130 = .ok (.aload_n 0, 1) := by decide +kernel
theorem dX12_tell_131 : decode cX12_tell 131 = .ok (.aload_n 0, 1) := by decide +kernel
theorem dX12_tell_132 : decode cX12_tell 132 = .ok (.getfield 144, 3) := by decide +kernel
theorem dX12_tell_135 : decode cX12_tell 135 = .ok (.invokevirtual 140, 3) := by decide +kernel
theorem dX12_tell_138 : decode cX12_tell 138 = .ok (.ireturn, 1) := by decide +kernel
theorem dX12_latest_0 : decode cX12_latest 0 = .ok (.iconst (-1), 1) := by decide +kernel
theorem dX12_latest_1 : decode cX12_latest 1 = .ok (.istore_n 2, 1) := by decide +kernel
theorem dX12_latest_2 : decode cX12_latest 2 = .ok (.iconst 0, 1) := by decide +kernel
theorem dX12_latest_3 : decode cX12_latest 3 = .ok (.istore_n 3, 1) := by decide +kernel
theorem dX12_latest_4 : decode cX12_latest 4 = .ok (.iload_n 3, 1) := by decide +kernel
theorem dX12_latest_5 : decode cX12_latest 5 = .ok (.iload_n 1, 1) := by decide +kernel
theorem dX12_latest_6 : decode cX12_latest 6 = .ok (.if_icmp .ge 30, 3) := by decide +kernel
theorem dX12_latest_9 : decode cX12_latest 9 = .ok (.aload_n 0, 1) := by decide +kernel
theorem dX12_latest_10 : decode cX12_latest 10 = .ok (.getfield 19, 3) := by decide +kernel
theorem dX12_latest_13 : decode cX12_latest 13 = .ok (.iload_n 3, 1) := by decide +kernel
theorem dX12_latest_14 : decode cX12_latest 14 = .ok (.iaload, 1) := by decide +kernel
theorem dX12_latest_15 : decode cX12_latest 15 = .ok (.iload_n 2, 1) := by decide +kernel
theorem dX12_latest_16 : decode cX12_latest 16 = .ok (.if_icmp .le 12, 3) := by decide +kernel
theorem dX12_latest_19 : decode cX12_latest 19 = .ok (.aload_n 0, 1) := by decide +kernel
theorem dX12_latest_20 : decode cX12_latest 20 = .ok (.getfield 19, 3) := by decide +kernel
theorem dX12_latest_23 : decode cX12_latest 23 = .ok (.iload_n 3, 1) := by decide +kernel
theorem dX12_latest_24 : decode cX12_latest 24 = .ok (.iaload, 1) := by decide +kernel
theorem dX12_latest_25 : decode cX12_latest 25 = .ok (.goto 4, 3) := by decide +kernel
theorem dX12_latest_28 : decode cX12_latest 28 = .ok (.iload_n 2, 1) := by decide +kernel
theorem dX12_latest_29 : decode cX12_latest 29 = .ok (.istore_n 2, 1) := by decide +kernel
theorem dX12_latest_30 : decode cX12_latest 30 = .ok (.iinc 3 1, 3) := by decide +kernel
theorem dX12_latest_33 : decode cX12_latest 33 = .ok (.goto (-29), 3) := by decide +kernel
theorem dX12_latest_36 : decode cX12_latest 36 = .ok (.iload_n 2, 1) := by decide +kernel
theorem dX12_latest_37 : decode cX12_latest 37 = .ok (.ireturn, 1) := by decide +kernel
theorem dX12_add_0 : decode cX12_add 0 = .ok (.aload_n 0, 1) := by decide +kernel
theorem dX12_add_1 : decode cX12_add 1 = .ok (.getfield 147, 3) := by decide +kernel
theorem dX12_add_4 : decode cX12_add 4 = .ok (.ifCond .ne 28, 3) := by decide +kernel
theorem dX12_add_7 : decode cX12_add 7 = .ok (.aload_n 0, 1) := by decide +kernel
theorem dX12_add_8 : decode cX12_add 8 = .ok (.getfield 57, 3) := by decide +kernel
theorem dX12_add_11 : decode cX12_add 11 = .ok (.iload_n 1, 1) := by decide +kernel
theorem dX12_add_12 : decode cX12_add 12 = .ok (.iaload, 1) := by decide +kernel
theorem dX12_add_13 : decode cX12_add 13 = .ok (.sipush 400, 3) := by decide +kernel
theorem dX12_add_16 : decode cX12_add 16 = .ok (.if_icmp .eq 16, 3) := by decide +kernel
theorem dX12_add_19 : decode cX12_add 19 = .ok (.lload_n 3, 1) := by decide +kernel
theorem dX12_add_20 : decode cX12_add 20 = .ok (.ldc2_w 151, 3) := by decide +kernel
theorem dX12_add_23 : decode cX12_add 23 = .ok (.ldc2_w 153, 3) := by decide +kernel
theorem dX12_add_26 : decode cX12_add 26 = .ok (.invokestatic 128, 3) := by decide +kernel
theorem dX12_add_29 : decode cX12_add 29 = .ok (.ifCond .ne 9, 3) := by decide +kernel
theorem dX12_add_32 : decode cX12_add 32 = .ok (.aload_n 0, 1) := by decide +kernel
theorem dX12_add_33 : decode cX12_add 33 = .ok (.iconst 1, 1) := by decide +kernel
theorem dX12_add_34 : decode cX12_add 34 = .ok (.putfield 147, 3) := by decide +kernel
theorem dX12_add_37 : decode cX12_add 37 = .ok (.return_, 1) := by decide +kernel
theorem dX12_add_38 : decode cX12_add 38 = .ok (.sipush 400, 3) := by decide +kernel
theorem dX12_add_41 : decode cX12_add 41 = .ok (.iload_n 1, 1) := by decide +kernel
theorem dX12_add_42 : decode cX12_add 42 = .ok (.imul, 1) := by decide +kernel
theorem dX12_add_43 : decode cX12_add 43 = .ok (.aload_n 0, 1) := by decide +kernel
theorem dX12_add_44 : decode cX12_add 44 = .ok (.getfield 57, 3) := by decide +kernel
theorem dX12_add_47 : decode cX12_add 47 = .ok (.iload_n 1, 1) := by decide +kernel
theorem dX12_add_48 : decode cX12_add 48 = .ok (.iaload, 1) := by decide +kernel
theorem dX12_add_49 : decode cX12_add 49 = .ok (.iadd, 1) := by decide +kernel
theorem dX12_add_50 : decode cX12_add 50 = .ok (.istore 6, 2) := by decide +kernel
theorem dX12_add_52 : decode cX12_add 52 = .ok (.iload 6, 2) := by decide +kernel
theorem dX12_add_54 : decode cX12_add 54 = .ok (.sipush 400, 3) := by decide +kernel
theorem dX12_add_57 : decode cX12_add 57 = .ok (.iload_n 1, 1) := by decide +kernel
theorem dX12_add_58 : decode cX12_add 58 = .ok (.imul, 1) := by decide +kernel
theorem dX12_add_59 : decode cX12_add 59 = .ok (.if_icmp .le 73, 3) := by decide +kernel
theorem dX12_add_62 : decode cX12_add 62 = .ok (.aload_n 0, 1) := by decide +kernel
theorem dX12_add_63 : decode cX12_add 63 = .ok (.iload_n 2, 1) := by decide +kernel
theorem dX12_add_64 : decode cX12_add 64 = .ok (.iload 5, 2) := by decide +kernel
theorem dX12_add_66 : decode cX12_add 66 = .ok (.lload_n 3, 1) := by decide +kernel
theorem dX12_add_67 : decode cX12_add 67 = .ok (.l2i, 1) := by decide +kernel
theorem dX12_add_68 : decode cX12_add 68 = .ok (.iload 6, 2) := by decide +kernel
theorem dX12_add_70 : decode cX12_add 70 = .ok (.iconst 1, 1) := by decide +kernel
theorem dX12_add_71 : decode cX12_add 71 = .ok (.isub, 1) := by decide +kernel
theorem dX12_add_72 : decode cX12_add 72 = .ok (.invokevirtual 155, 3) := by decide +kernel
theorem dX12_add_75 : decode cX12_add 75 = .ok (.ifCond .eq 57, 3) := by decide +kernel
theorem dX12_add_78 : decode cX12_add 78 = .ok (.aload_n 0, 1) := by decide +kernel
theorem dX12_add_79 : decode cX12_add 79 = .ok (.getfield 60, 3) := by decide +kernel
theorem dX12_add_82 : decode cX12_add 82 = .ok (.iload 6, 2) := by decide +kernel
theorem dX12_add_84 : decode cX12_add 84 = .ok (.aload_n 0, 1) := by decide +kernel
theorem dX12_add_85 : decode cX12_add 85 = .ok (.getfield 60, 3) := by decide +kernel
theorem dX12_add_88 : decode cX12_add 88 = .ok (.iload 6, 2) := by decide +kernel
theorem dX12_add_90 : decode cX12_add 90 = .ok (.iconst 1, 1) := by decide +kernel
theorem dX12_add_91 : decode cX12_add 91 = .ok (.isub, 1) := by decide +kernel
theorem dX12_add_92 : decode cX12_add 92 = .ok (.iaload, 1) := by decide +kernel
theorem dX12_add_93 : decode cX12_add 93 = .ok (.iastore, 1) := by decide +kernel
theorem dX12_add_94 : decode cX12_add 94 = .ok (.aload_n 0, 1) := by decide +kernel
theorem dX12_add_95 : decode cX12_add 95 = .ok (.getfield 63, 3) := by decide +kernel
theorem dX12_add_98 : decode cX12_add 98 = .ok (.iload 6, 2) := by decide +kernel
theorem dX12_add_100 : decode cX12_add 100 = .ok (.aload_n 0, 1) := by decide +kernel
theorem dX12_add_101 : decode cX12_add 101 = .ok (.getfield 63, 3) := by decide +kernel
theorem dX12_add_104 : decode cX12_add 104 = .ok (.iload 6, 2) := by decide +kernel
theorem dX12_add_106 : decode cX12_add 106 = .ok (.iconst 1, 1) := by decide +kernel
theorem dX12_add_107 : decode cX12_add 107 = .ok (.isub, 1) := by decide +kernel
theorem dX12_add_108 : decode cX12_add 108 = .ok (.iaload, 1) := by decide +kernel
theorem dX12_add_109 : decode cX12_add 109 = .ok (.iastore, 1) := by decide +kernel
theorem dX12_add_110 : decode cX12_add 110 = .ok (.aload_n 0, 1) := by decide +kernel
theorem dX12_add_111 : decode cX12_add 111 = .ok (.getfield 66, 3) := by decide +kernel
theorem dX12_add_114 : decode cX12_add 114 = .ok (.iload 6, 2) := by decide +kernel
theorem dX12_add_116 : decode cX12_add 116 = .ok (.aload_n 0, 1) := by decide +kernel
theorem dX12_add_117 : decode cX12_add 117 = .ok (.getfield 66, 3) := by decide +kernel
theorem dX12_add_120 : decode cX12_add 120 = .ok (.iload 6, 2) := by decide +kernel
theorem dX12_add_122 : decode cX12_add 122 = .ok (.iconst 1, 1) := by decide +kernel
theorem dX12_add_123 : decode cX12_add 123 = .ok (.isub, 1) := by decide +kernel
theorem dX12_add_124 : decode cX12_add 124 = .ok (.iaload, 1) := by decide +kernel
theorem dX12_add_125 : decode cX12_add 125 = .ok (.iastore, 1) := by decide +kernel
theorem dX12_add_126 : decode cX12_add 126 = .ok (.iinc 6 (-1), 3) := by decide +kernel
theorem dX12_add_129 : decode cX12_add 129 = .ok (.goto (-77), 3) := by decide +kernel
theorem dX12_add_132 : decode cX12_add 132 = .ok (.aload_n 0, 1) := by decide +kernel
theorem dX12_add_133 : decode cX12_add 133 = .ok (.getfield 60, 3) := by decide +kernel
theorem dX12_add_136 : decode cX12_add 136 = .ok (.iload 6, 2) := by decide +kernel
theorem dX12_add_138 : decode cX12_add 138 = .ok (.iload_n 2, 1) := by decide +kernel
theorem dX12_add_139 : decode cX12_add 139 = .ok (.iastore, 1) := by decide +kernel
theorem dX12_add_140 : decode cX12_add 140 = .ok (.aload_n 0, 1) := by decide +kernel
theorem dX12_add_141 : decode cX12_add 141 = .ok (.getfield 63, 3) := by decide +kernel
theorem dX12_add_144 : decode cX12_add 144 = .ok (.iload 6, 2) := by decide +kernel
theorem dX12_add_146 : decode cX12_add 146 = .ok (.lload_n 3, 1) := by decide +kernel
theorem dX12_add_147 : decode cX12_add 147 = .ok (.l2i, 1) := by decide +kernel
theorem dX12_add_148 : decode cX12_add 148 = .ok (.iastore, 1) := by decide +kernel
theorem dX12_add_149 : decode cX12_add 149 = .ok (.aload_n 0, 1) := by decide +kernel
theorem dX12_add_150 : decode cX12_add 150 = .ok (.getfield 66, 3) := by decide +kernel
theorem dX12_add_153 : decode cX12_add 153 = .ok (.iload 6, 2) := by decide +kernel
theorem dX12_add_155 : decode cX12_add 155 = .ok (.iload 5, 2) := by decide +kernel
theorem dX12_add_157 : decode cX12_add 157 = .ok (.iastore, 1) := by decide +kernel
theorem dX12_add_158 : decode cX12_add 158 = .ok (.aload_n 0, 1) := by decide +kernel
theorem dX12_add_159 : decode cX12_add 159 = .ok (.getfield 57, 3) := by decide +kernel
theorem dX12_add_162 : decode cX12_add 162 = .ok (.iload_n 1, 1) := by decide +kernel
theorem dX12_add_163 : decode cX12_add 163 = .ok (.dup2, 1) := by decide +kernel
theorem dX12_add_164 : decode cX12_add 164 = .ok (.iaload, 1) := by decide +kernel
theorem dX12_add_165 : decode cX12_add 165 = .ok (.iconst 1, 1) := by decide +kernel
theorem dX12_add_166 : decode cX12_add 166 = .ok (.iadd, 1) := by decide +kernel
theorem dX12_add_167 : decode cX12_add 167 = .ok (.iastore, 1) := by decide +kernel
theorem dX12_add_168 : decode cX12_add 168 = .ok (.return_, 1) := by decide +kernel
theorem dX12_isBefore_0 : decode cX12_isBefore 0 = .ok (.iload_n 1, 1) := by decide +kernel
theorem dX12_isBefore_1 : decode cX12_isBefore 1 = .ok (.aload_n 0, 1) := by decide +kernel
theorem dX12_isBefore_2 : decode cX12_isBefore 2 = .ok (.getfield 60, 3) := by decide +kernel
theorem dX12_isBefore_5 : decode cX12_isBefore 5 = .ok (.iload 4, 2) := by decide +kernel
theorem dX12_isBefore_7 : decode cX12_isBefore 7 = .ok (.iaload, 1) := by decide +kernel
theorem dX12_isBefore_8 : decode cX12_isBefore 8 = .ok (.if_icmp .eq 20, 3) := by decide +kernel
theorem dX12_isBefore_11 : decode cX12_isBefore 11 = .ok (.iload_n 1, 1) := by decide +kernel
theorem dX12_isBefore_12 : decode cX12_isBefore 12 = .ok (.aload_n 0, 1) := by decide +kernel
theorem dX12_isBefore_13 : decode cX12_isBefore 13 = .ok (.getfield 60, 3) := by decide +kernel
theorem dX12_isBefore_16 : decode cX12_isBefore 16 = .ok (.iload 4, 2) := by decide +kernel
theorem dX12_isBefore_18 : decode cX12_isBefore 18 = .ok (.iaload, 1) := by decide +kernel
theorem dX12_isBefore_19 : decode cX12_isBefore 19 = .ok (.if_icmp .ge 7, 3) := by decide +kernel
theorem dX12_isBefore_22 : decode cX12_isBefore 22 = .ok (.iconst 1, 1) := by decide +kernel
theorem dX12_isBefore_23 : decode cX12_isBefore 23 = .ok (.goto 4, 3) := by decide +kernel
theorem dX12_isBefore_26 : decode cX12_isBefore 26 = .ok (.iconst 0, 1) := by decide +kernel
theorem dX12_isBefore_27 : decode cX12_isBefore 27 = .ok (.ireturn, 1) := by decide +kernel
theorem dX12_isBefore_28 : decode cX12_isBefore 28 = .ok (.iload_n 2, 1) := by decide +kernel
theorem dX12_isBefore_29 : decode cX12_isBefore 29 = .ok (.aload_n 0, 1) := by decide +kernel
theorem dX12_isBefore_30 : decode cX12_isBefore 30 = .ok (.getfield 66, 3) := by decide +kernel
theorem dX12_isBefore_33 : decode cX12_isBefore 33 = .ok (.iload 4, 2) := by decide +kernel
theorem dX12_isBefore_35 : decode cX12_isBefore 35 = .ok (.iaload, 1) := by decide +kernel
theorem dX12_isBefore_36 : decode cX12_isBefore 36 = .ok (.if_icmp .eq 22, 3) := by decide +kernel
theorem dX12_isBefore_39 : decode cX12_isBefore 39 = .ok (.iload_n 2, 1) := by decide +kernel
theorem dX12_isBefore_40 : decode cX12_isBefore 40 = .ok (.aload_n 0, 1) := by decide +kernel
theorem dX12_isBefore_41 : decode cX12_isBefore 41 = .ok (.getfield 66, 3) := by decide +kernel
theorem dX12_isBefore_44 : decode cX12_isBefore 44 = .ok (.iload 4, 2) := by decide +kernel
theorem dX12_isBefore_46 : decode cX12_isBefore 46 = .ok (.iaload, 1) := by decide +kernel
theorem dX12_isBefore_47 : decode cX12_isBefore 47 = .ok (.if_icmp .ge 7, 3) := by decide +kernel
theorem dX12_isBefore_50 : decode cX12_isBefore 50 = .ok (.iconst 1, 1) := by decide +kernel
theorem dX12_isBefore_51 : decode cX12_isBefore 51 = .ok (.goto 23, 3) := by decide +kernel
theorem dX12_isBefore_54 : decode cX12_isBefore 54 = .ok (.iconst 0, 1) := by decide +kernel
theorem dX12_isBefore_55 : decode cX12_isBefore 55 = .ok (.goto 19, 3) := by decide +kernel
theorem dX12_isBefore_58 : decode cX12_isBefore 58 = .ok (.iload_n 3, 1) := by decide +kernel
theorem dX12_isBefore_59 : decode cX12_isBefore 59 = .ok (.aload_n 0, 1) := by decide +kernel
theorem dX12_isBefore_60 : decode cX12_isBefore 60 = .ok (.getfield 63, 3) := by decide +kernel
theorem dX12_isBefore_63 : decode cX12_isBefore 63 = .ok (.iload 4, 2) := by decide +kernel
theorem dX12_isBefore_65 : decode cX12_isBefore 65 = .ok (.iaload, 1) := by decide +kernel
theorem dX12_isBefore_66 : decode cX12_isBefore 66 = .ok (.if_icmp .ge 7, 3) := by decide +kernel
theorem dX12_isBefore_69 : decode cX12_isBefore 69 = .ok (.iconst 1, 1) := by decide +kernel
theorem dX12_isBefore_70 : decode cX12_isBefore 70 = .ok (.goto 4, 3) := by decide +kernel
theorem dX12_isBefore_73 : decode cX12_isBefore 73 = .ok (.iconst 0, 1) := by decide +kernel
theorem dX12_isBefore_74 : decode cX12_isBefore 74 = .ok (.ireturn, 1) := by decide +kernel
theorem dX12_make_0 : decode cX12_make 0 = .ok (.aload_n 0, 1) := by decide +kernel
theorem dX12_make_1 : decode cX12_make 1 = .ok (.getfield 57, 3) := by decide +kernel
theorem dX12_make_4 : decode cX12_make 4 = .ok (.iload_n 1, 1) := by decide +kernel
theorem dX12_make_5 : decode cX12_make 5 = .ok (.iconst 0, 1) := by decide +kernel
theorem dX12_make_6 : decode cX12_make 6 = .ok (.iastore, 1) := by decide +kernel
theorem dX12_make_7 : decode cX12_make 7 = .ok (.aload_n 0, 1) := by decide +kernel
theorem dX12_make_8 : decode cX12_make 8 = .ok (.getfield 30, 3) := by decide +kernel
theorem dX12_make_11 : decode cX12_make 11 = .ok (.iload_n 1, 1) := by decide +kernel
theorem dX12_make_12 : decode cX12_make 12 = .ok (.iaload, 1) := by decide +kernel
theorem dX12_make_13 : decode cX12_make 13 = .ok (.ifCond .ne 67, 3) := by decide +kernel
theorem dX12_make_16 : decode cX12_make 16 = .ok (.iconst 0, 1) := by decide +kernel
theorem dX12_make_17 : decode cX12_make 17 = .ok (.istore_n 3, 1) := by decide +kernel
theorem dX12_make_18 : decode cX12_make 18 = .ok (.iload_n 3, 1) := by decide +kernel
theorem dX12_make_19 : decode cX12_make 19 = .ok (.iload_n 2, 1) := by decide +kernel
theorem dX12_make_20 : decode cX12_make 20 = .ok (.if_icmp .ge 57, 3) := by decide +kernel
theorem dX12_make_23 : decode cX12_make 23 = .ok (.aload_n 0, 1) := by decide +kernel
theorem dX12_make_24 : decode cX12_make 24 = .ok (.getfield 7, 3) := by decide +kernel
theorem dX12_make_27 : decode cX12_make 27 = .ok (.iload_n 3, 1) := by decide +kernel
theorem dX12_make_28 : decode cX12_make 28 = .ok (.iaload, 1) := by decide +kernel
theorem dX12_make_29 : decode cX12_make 29 = .ok (.aload_n 0, 1) := by decide +kernel
theorem dX12_make_30 : decode cX12_make 30 = .ok (.getfield 33, 3) := by decide +kernel
theorem dX12_make_33 : decode cX12_make 33 = .ok (.iload_n 1, 1) := by decide +kernel
theorem dX12_make_34 : decode cX12_make 34 = .ok (.iaload, 1) := by decide +kernel
theorem dX12_make_35 : decode cX12_make 35 = .ok (.if_icmp .ne 36, 3) := by decide +kernel
theorem dX12_make_38 : decode cX12_make 38 = .ok (.aload_n 0, 1) := by decide +kernel
theorem dX12_make_39 : decode cX12_make 39 = .ok (.getfield 22, 3) := by decide +kernel
theorem dX12_make_42 : decode cX12_make 42 = .ok (.iload_n 3, 1) := by decide +kernel
theorem dX12_make_43 : decode cX12_make 43 = .ok (.baload, 1) := by decide +kernel
theorem dX12_make_44 : decode cX12_make 44 = .ok (.ifCond .ne 27, 3) := by decide +kernel
theorem dX12_make_47 : decode cX12_make 47 = .ok (.aload_n 0, 1) := by decide +kernel
theorem dX12_make_48 : decode cX12_make 48 = .ok (.iload_n 1, 1) := by decide +kernel
theorem dX12_make_49 : decode cX12_make 49 = .ok (.aload_n 0, 1) := by decide +kernel
theorem dX12_make_50 : decode cX12_make 50 = .ok (.getfield 13, 3) := by decide +kernel
theorem dX12_make_53 : decode cX12_make 53 = .ok (.iload_n 3, 1) := by decide +kernel
theorem dX12_make_54 : decode cX12_make 54 = .ok (.iaload, 1) := by decide +kernel
theorem dX12_make_55 : decode cX12_make 55 = .ok (.aload_n 0, 1) := by decide +kernel
theorem dX12_make_56 : decode cX12_make 56 = .ok (.getfield 16, 3) := by decide +kernel
theorem dX12_make_59 : decode cX12_make 59 = .ok (.iload_n 3, 1) := by decide +kernel
theorem dX12_make_60 : decode cX12_make 60 = .ok (.iaload, 1) := by decide +kernel
theorem dX12_make_61 : decode cX12_make 61 = .ok (.i2l, 1) := by decide +kernel
theorem dX12_make_62 : decode cX12_make 62 = .ok (.aload_n 0, 1) := by decide +kernel
theorem dX12_make_63 : decode cX12_make 63 = .ok (.getfield 19, 3) := by decide +kernel
theorem dX12_make_66 : decode cX12_make 66 = .ok (.iload_n 3, 1) := by decide +kernel
theorem dX12_make_67 : decode cX12_make 67 = .ok (.iaload, 1) := by decide +kernel
theorem dX12_make_68 : decode cX12_make 68 = .ok (.invokevirtual 159, 3) := by decide +kernel
theorem dX12_make_71 : decode cX12_make 71 = .ok (.iinc 3 1, 3) := by decide +kernel
theorem dX12_make_74 : decode cX12_make 74 = .ok (.goto (-56), 3) := by decide +kernel
theorem dX12_make_77 : decode cX12_make 77 = .ok (.goto 46, 3) := by decide +kernel
theorem dX12_make_80 : decode cX12_make 80 = .ok (.aload_n 0, 1) := by decide +kernel
theorem dX12_make_81 : decode cX12_make 81 = .ok (.getfield 30, 3) := by decide +kernel
theorem dX12_make_84 : decode cX12_make 84 = .ok (.iload_n 1, 1) := by decide +kernel
theorem dX12_make_85 : decode cX12_make 85 = .ok (.iaload, 1) := by decide +kernel
theorem dX12_make_86 : decode cX12_make 86 = .ok (.bipush 6, 2) := by decide +kernel
theorem dX12_make_88 : decode cX12_make 88 = .ok (.if_icmp .gt 11, 3) := by decide +kernel
theorem dX12_make_91 : decode cX12_make 91 = .ok (.aload_n 0, 1) := by decide +kernel
theorem dX12_make_92 : decode cX12_make 92 = .ok (.iload_n 1, 1) := by decide +kernel
theorem dX12_make_93 : decode cX12_make 93 = .ok (.invokevirtual 163, 3) := by decide +kernel
theorem dX12_make_96 : decode cX12_make 96 = .ok (.goto 27, 3) := by decide +kernel
theorem dX12_make_99 : decode cX12_make 99 = .ok (.aload_n 0, 1) := by decide +kernel
theorem dX12_make_100 : decode cX12_make 100 = .ok (.getfield 30, 3) := by decide +kernel
theorem dX12_make_103 : decode cX12_make 103 = .ok (.iload_n 1, 1) := by decide +kernel
theorem dX12_make_104 : decode cX12_make 104 = .ok (.iaload, 1) := by decide +kernel
theorem dX12_make_105 : decode cX12_make 105 = .ok (.bipush 10, 2) := by decide +kernel
theorem dX12_make_107 : decode cX12_make 107 = .ok (.if_icmp .gt 11, 3) := by decide +kernel
theorem dX12_make_110 : decode cX12_make 110 = .ok (.aload_n 0, 1) := by decide +kernel
theorem dX12_make_111 : decode cX12_make 111 = .ok (.iload_n 1, 1) := by decide +kernel
theorem dX12_make_112 : decode cX12_make 112 = .ok (.invokevirtual 167, 3) := by decide +kernel
theorem dX12_make_115 : decode cX12_make 115 = .ok (.goto 8, 3) := by decide +kernel
theorem dX12_make_118 : decode cX12_make 118 = .ok (.aload_n 0, 1) := by decide +kernel
theorem dX12_make_119 : decode cX12_make 119 = .ok (.iload_n 1, 1) := by decide +kernel
theorem dX12_make_120 : decode cX12_make 120 = .ok (.invokevirtual 170, 3) := by decide +kernel
theorem dX12_make_123 : decode cX12_make 123 = .ok (.return_, 1) := by decide +kernel
theorem dX12_makeEach_0 : decode cX12_makeEach 0 = .ok (.aload_n 0, 1) := by decide +kernel
theorem dX12_makeEach_1 : decode cX12_makeEach 1 = .ok (.getfield 33, 3) := by decide +kernel
theorem dX12_makeEach_4 : decode cX12_makeEach 4 = .ok (.iload_n 1, 1) := by decide +kernel
theorem dX12_makeEach_5 : decode cX12_makeEach 5 = .ok (.iaload, 1) := by decide +kernel
theorem dX12_makeEach_6 : decode cX12_makeEach 6 = .ok (.istore_n 2, 1) := by decide +kernel
theorem dX12_makeEach_7 : decode cX12_makeEach 7 = .ok (.sipush 400, 3) := by decide +kernel
theorem dX12_makeEach_10 : decode cX12_makeEach 10 = .ok (.iload_n 2, 1) := by decide +kernel
theorem dX12_makeEach_11 : decode cX12_makeEach 11 = .ok (.imul, 1) := by decide +kernel
theorem dX12_makeEach_12 : decode cX12_makeEach 12 = .ok (.istore_n 3, 1) := by decide +kernel
theorem dX12_makeEach_13 : decode cX12_makeEach 13 = .ok (.iload_n 3, 1) := by decide +kernel
theorem dX12_makeEach_14 : decode cX12_makeEach 14 = .ok (.sipush 400, 3) := by decide +kernel
theorem dX12_makeEach_17 : decode cX12_makeEach 17 = .ok (.iload_n 2, 1) := by decide +kernel
theorem dX12_makeEach_18 : decode cX12_makeEach 18 = .ok (.imul, 1) := by decide +kernel
theorem dX12_makeEach_19 : decode cX12_makeEach 19 = .ok (.aload_n 0, 1) := by decide +kernel
theorem dX12_makeEach_20 : decode cX12_makeEach 20 = .ok (.getfield 57, 3) := by decide +kernel
theorem dX12_makeEach_23 : decode cX12_makeEach 23 = .ok (.iload_n 2, 1) := by decide +kernel
theorem dX12_makeEach_24 : decode cX12_makeEach 24 = .ok (.iaload, 1) := by decide +kernel
theorem dX12_makeEach_25 : decode cX12_makeEach 25 = .ok (.iadd, 1) := by decide +kernel
theorem dX12_makeEach_26 : decode cX12_makeEach 26 = .ok (.if_icmp .ge 348, 3) := by decide +kernel
theorem dX12_makeEach_29 : decode cX12_makeEach 29 = .ok (.aload_n 0, 1) := by decide +kernel
theorem dX12_makeEach_30 : decode cX12_makeEach 30 = .ok (.getfield 30, 3) := by decide +kernel
theorem dX12_makeEach_33 : decode cX12_makeEach 33 = .ok (.iload_n 1, 1) := by decide +kernel
theorem dX12_makeEach_34 : decode cX12_makeEach 34 = .ok (.iaload, 1) := by decide +kernel
theorem dX12_makeEach_35 : decode cX12_makeEach 35 = .ok (.tableswitch 314 1 5 #[33, 166, 201, 236, 273], 33) := by decide +kernel
theorem dX12_makeEach_68 : decode cX12_makeEach 68 = .ok (.aload_n 0, 1) := by decide +kernel
theorem dX12_makeEach_69 : decode cX12_makeEach 69 = .ok (.getfield 39, 3) := by decide +kernel
theorem dX12_makeEach_72 : decode cX12_makeEach 72 = .ok (.iload_n 1, 1) := by decide +kernel
theorem dX12_makeEach_73 : decode cX12_makeEach 73 = .ok (.iaload, 1) := by decide +kernel
theorem dX12_makeEach_74 : decode cX12_makeEach 74 = .ok (.ifCond .ne 12, 3) := by decide +kernel
theorem dX12_makeEach_77 : decode cX12_makeEach 77 = .ok (.aload_n 0, 1) := by decide +kernel
theorem dX12_makeEach_78 : decode cX12_makeEach 78 = .ok (.getfield 60, 3) := by decide +kernel
theorem dX12_makeEach_81 : decode cX12_makeEach 81 = .ok (.iload_n 3, 1) := by decide +kernel
theorem dX12_makeEach_82 : decode cX12_makeEach 82 = .ok (.iaload, 1) := by decide +kernel
theorem dX12_makeEach_83 : decode cX12_makeEach 83 = .ok (.goto 28, 3) := by decide +kernel
theorem dX12_makeEach_86 : decode cX12_makeEach 86 = .ok (.aload_n 0, 1) := by decide +kernel
theorem dX12_makeEach_87 : decode cX12_makeEach 87 = .ok (.getfield 39, 3) := by decide +kernel
theorem dX12_makeEach_90 : decode cX12_makeEach 90 = .ok (.iload_n 1, 1) := by decide +kernel
theorem dX12_makeEach_91 : decode cX12_makeEach 91 = .ok (.iaload, 1) := by decide +kernel
theorem dX12_makeEach_92 : decode cX12_makeEach 92 = .ok (.iconst 1, 1) := by decide +kernel
theorem dX12_makeEach_93 : decode cX12_makeEach 93 = .ok (.if_icmp .ne 12, 3) := by decide +kernel
theorem dX12_makeEach_96 : decode cX12_makeEach 96 = .ok (.aload_n 0, 1) := by decide +kernel
theorem dX12_makeEach_97 : decode cX12_makeEach 97 = .ok (.getfield 63, 3) := by decide +kernel
theorem dX12_makeEach_100 : decode cX12_makeEach 100 = .ok (.iload_n 3, 1) := by decide +kernel
theorem dX12_makeEach_101 : decode cX12_makeEach 101 = .ok (.iaload, 1) := by decide +kernel
theorem dX12_makeEach_102 : decode cX12_makeEach 102 = .ok (.goto 9, 3) := by decide +kernel
theorem dX12_makeEach_105 : decode cX12_makeEach 105 = .ok (.aload_n 0, 1) := by decide +kernel
theorem dX12_makeEach_106 : decode cX12_makeEach 106 = .ok (.getfield 66, 3) := by decide +kernel
theorem dX12_makeEach_109 : decode cX12_makeEach 109 = .ok (.iload_n 3, 1) := by decide +kernel
theorem dX12_makeEach_110 : decode cX12_makeEach 110 = .ok (.iaload, 1) := by decide +kernel
theorem dX12_makeEach_111 : decode cX12_makeEach 111 = .ok (.istore 4, 2) := by decide +kernel
theorem dX12_makeEach_113 : decode cX12_makeEach 113 = .ok (.aload_n 0, 1) := by decide +kernel
theorem dX12_makeEach_114 : decode cX12_makeEach 114 = .ok (.getfield 42, 3) := by decide +kernel
theorem dX12_makeEach_117 : decode cX12_makeEach 117 = .ok (.iload_n 1, 1) := by decide +kernel
theorem dX12_makeEach_118 : decode cX12_makeEach 118 = .ok (.iaload, 1) := by decide +kernel
theorem dX12_makeEach_119 : decode cX12_makeEach 119 = .ok (.bipush 60, 2) := by decide +kernel
theorem dX12_makeEach_121 : decode cX12_makeEach 121 = .ok (.if_icmp .ne 17, 3) := by decide +kernel
theorem dX12_makeEach_124 : decode cX12_makeEach 124 = .ok (.iload 4, 2) := by decide +kernel
theorem dX12_makeEach_126 : decode cX12_makeEach 126 = .ok (.aload_n 0, 1) := by decide +kernel
theorem dX12_makeEach_127 : decode cX12_makeEach 127 = .ok (.getfield 36, 3) := by decide +kernel
theorem dX12_makeEach_130 : decode cX12_makeEach 130 = .ok (.iload_n 1, 1) := by decide +kernel
theorem dX12_makeEach_131 : decode cX12_makeEach 131 = .ok (.iaload, 1) := by decide +kernel
theorem dX12_makeEach_132 : decode cX12_makeEach 132 = .ok (.if_icmp .ge 236, 3) := by decide +kernel
theorem dX12_makeEach_135 : decode cX12_makeEach 135 = .ok (.goto 39, 3) := by decide +kernel
theorem dX12_makeEach_138 : decode cX12_makeEach 138 = .ok (.aload_n 0, 1) := by decide +kernel
theorem dX12_makeEach_139 : decode cX12_makeEach 139 = .ok (.getfield 42, 3) := by decide +kernel
theorem dX12_makeEach_142 : decode cX12_makeEach 142 = .ok (.iload_n 1, 1) := by decide +kernel
theorem dX12_makeEach_143 : decode cX12_makeEach 143 = .ok (.iaload, 1) := by decide +kernel
theorem dX12_makeEach_144 : decode cX12_makeEach 144 = .ok (.bipush 62, 2) := by decide +kernel
theorem dX12_makeEach_146 : decode cX12_makeEach 146 = .ok (.if_icmp .ne 17, 3) := by decide +kernel
theorem dX12_makeEach_149 : decode cX12_makeEach 149 = .ok (.iload 4, 2) := by decide +kernel
theorem dX12_makeEach_151 : decode cX12_makeEach 151 = .ok (.aload_n 0, 1) := by decide +kernel
theorem dX12_makeEach_152 : decode cX12_makeEach 152 = .ok (.getfield 36, 3) := by decide +kernel
theorem dX12_makeEach_155 : decode cX12_makeEach 155 = .ok (.iload_n 1, 1) := by decide +kernel
theorem dX12_makeEach_156 : decode cX12_makeEach 156 = .ok (.iaload, 1) := by decide +kernel
theorem dX12_makeEach_157 : decode cX12_makeEach 157 = .ok (.if_icmp .le 211, 3) := by decide +kernel
theorem dX12_makeEach_160 : decode cX12_makeEach 160 = .ok (.goto 14, 3) := by decide +kernel
theorem dX12_makeEach_163 : decode cX12_makeEach 163 = .ok (.iload 4, 2) := by decide +kernel
theorem dX12_makeEach_165 : decode cX12_makeEach 165 = .ok (.aload_n 0, 1) := by decide +kernel
theorem dX12_makeEach_166 : decode cX12_makeEach 166 = .ok (.getfield 36, 3) := by decide +kernel
theorem dX12_makeEach_169 : decode cX12_makeEach 169 = .ok (.iload_n 1, 1) := by decide +kernel
theorem dX12_makeEach_170 : decode cX12_makeEach 170 = .ok (.iaload, 1) := by decide +kernel
theorem dX12_makeEach_171 : decode cX12_makeEach 171 = .ok (.if_icmp .ne 197, 3) := by decide +kernel
theorem dX12_makeEach_174 : decode cX12_makeEach 174 = .ok (.aload_n 0, 1) := by decide +kernel
theorem dX12_makeEach_175 : decode cX12_makeEach 175 = .ok (.iload_n 1, 1) := by decide +kernel
theorem dX12_makeEach_176 : decode cX12_makeEach 176 = .ok (.aload_n 0, 1) := by decide +kernel
theorem dX12_makeEach_177 : decode cX12_makeEach 177 = .ok (.getfield 60, 3) := by decide +kernel
theorem dX12_makeEach_180 : decode cX12_makeEach 180 = .ok (.iload_n 3, 1) := by decide +kernel
theorem dX12_makeEach_181 : decode cX12_makeEach 181 = .ok (.iaload, 1) := by decide +kernel
theorem dX12_makeEach_182 : decode cX12_makeEach 182 = .ok (.aload_n 0, 1) := by decide +kernel
theorem dX12_makeEach_183 : decode cX12_makeEach 183 = .ok (.getfield 63, 3) := by decide +kernel
theorem dX12_makeEach_186 : decode cX12_makeEach 186 = .ok (.iload_n 3, 1) := by decide +kernel
theorem dX12_makeEach_187 : decode cX12_makeEach 187 = .ok (.iaload, 1) := by decide +kernel
theorem dX12_makeEach_188 : decode cX12_makeEach 188 = .ok (.i2l, 1) := by decide +kernel
theorem dX12_makeEach_189 : decode cX12_makeEach 189 = .ok (.aload_n 0, 1) := by decide +kernel
theorem dX12_makeEach_190 : decode cX12_makeEach 190 = .ok (.getfield 66, 3) := by decide +kernel
theorem dX12_makeEach_193 : decode cX12_makeEach 193 = .ok (.iload_n 3, 1) := by decide +kernel
theorem dX12_makeEach_194 : decode cX12_makeEach 194 = .ok (.iaload, 1) := by decide +kernel
theorem dX12_makeEach_195 : decode cX12_makeEach 195 = .ok (.invokevirtual 159, 3) := by decide +kernel
theorem dX12_makeEach_198 : decode cX12_makeEach 198 = .ok (.goto 170, 3) := by decide +kernel
theorem dX12_makeEach_201 : decode cX12_makeEach 201 = .ok (.aload_n 0, 1) := by decide +kernel
theorem dX12_makeEach_202 : decode cX12_makeEach 202 = .ok (.iload_n 1, 1) := by decide +kernel
theorem dX12_makeEach_203 : decode cX12_makeEach 203 = .ok (.aload_n 0, 1) := by decide +kernel
theorem dX12_makeEach_204 : decode cX12_makeEach 204 = .ok (.getfield 60, 3) := by decide +kernel
theorem dX12_makeEach_207 : decode cX12_makeEach 207 = .ok (.iload_n 3, 1) := by decide +kernel
theorem dX12_makeEach_208 : decode cX12_makeEach 208 = .ok (.iaload, 1) := by decide +kernel
theorem dX12_makeEach_209 : decode cX12_makeEach 209 = .ok (.aload_n 0, 1) := by decide +kernel
theorem dX12_makeEach_210 : decode cX12_makeEach 210 = .ok (.getfield 63, 3) := by decide +kernel
theorem dX12_makeEach_213 : decode cX12_makeEach 213 = .ok (.iload_n 3, 1) := by decide +kernel
theorem dX12_makeEach_214 : decode cX12_makeEach 214 = .ok (.iaload, 1) := by decide +kernel
theorem dX12_makeEach_215 : decode cX12_makeEach 215 = .ok (.i2l, 1) := by decide +kernel
theorem dX12_makeEach_216 : decode cX12_makeEach 216 = .ok (.aload_n 0, 1) := by decide +kernel
theorem dX12_makeEach_217 : decode cX12_makeEach 217 = .ok (.getfield 36, 3) := by decide +kernel
theorem dX12_makeEach_220 : decode cX12_makeEach 220 = .ok (.iload_n 1, 1) := by decide +kernel
theorem dX12_makeEach_221 : decode cX12_makeEach 221 = .ok (.iaload, 1) := by decide +kernel
theorem dX12_makeEach_222 : decode cX12_makeEach 222 = .ok (.i2l, 1) := by decide +kernel
theorem dX12_makeEach_223 : decode cX12_makeEach 223 = .ok (.ladd, 1) := by decide +kernel
theorem dX12_makeEach_224 : decode cX12_makeEach 224 = .ok (.aload_n 0, 1) := by decide +kernel
theorem dX12_makeEach_225 : decode cX12_makeEach 225 = .ok (.getfield 66, 3) := by decide +kernel
theorem dX12_makeEach_228 : decode cX12_makeEach 228 = .ok (.iload_n 3, 1) := by decide +kernel
theorem dX12_makeEach_229 : decode cX12_makeEach 229 = .ok (.iaload, 1) := by decide +kernel
theorem dX12_makeEach_230 : decode cX12_makeEach 230 = .ok (.invokevirtual 159, 3) := by decide +kernel
theorem dX12_makeEach_233 : decode cX12_makeEach 233 = .ok (.goto 135, 3) := by decide +kernel
theorem dX12_makeEach_236 : decode cX12_makeEach 236 = .ok (.aload_n 0, 1) := by decide +kernel
theorem dX12_makeEach_237 : decode cX12_makeEach 237 = .ok (.iload_n 1, 1) := by decide +kernel
theorem dX12_makeEach_238 : decode cX12_makeEach 238 = .ok (.aload_n 0, 1) := by decide +kernel
theorem dX12_makeEach_239 : decode cX12_makeEach 239 = .ok (.getfield 60, 3) := by decide +kernel
theorem dX12_makeEach_242 : decode cX12_makeEach 242 = .ok (.iload_n 3, 1) := by decide +kernel
theorem dX12_makeEach_243 : decode cX12_makeEach 243 = .ok (.iaload, 1) := by decide +kernel
theorem dX12_makeEach_244 : decode cX12_makeEach 244 = .ok (.aload_n 0, 1) := by decide +kernel
theorem dX12_makeEach_245 : decode cX12_makeEach 245 = .ok (.getfield 63, 3) := by decide +kernel
theorem dX12_makeEach_248 : decode cX12_makeEach 248 = .ok (.iload_n 3, 1) := by decide +kernel
theorem dX12_makeEach_249 : decode cX12_makeEach 249 = .ok (.iaload, 1) := by decide +kernel
theorem dX12_makeEach_250 : decode cX12_makeEach 250 = .ok (.i2l, 1) := by decide +kernel
theorem dX12_makeEach_251 : decode cX12_makeEach 251 = .ok (.aload_n 0, 1) := by decide +kernel
theorem dX12_makeEach_252 : decode cX12_makeEach 252 = .ok (.getfield 36, 3) := by decide +kernel
theorem dX12_makeEach_255 : decode cX12_makeEach 255 = .ok (.iload_n 1, 1) := by decide +kernel
theorem dX12_makeEach_256 : decode cX12_makeEach 256 = .ok (.iaload, 1) := by decide +kernel
theorem dX12_makeEach_257 : decode cX12_makeEach 257 = .ok (.i2l, 1) := by decide +kernel
theorem dX12_makeEach_258 : decode cX12_makeEach 258 = .ok (.lmul, 1) := by decide +kernel
theorem dX12_makeEach_259 : decode cX12_makeEach 259 = .ok (.aload_n 0, 1) := by decide +kernel
theorem dX12_makeEach_260 : decode cX12_makeEach 260 = .ok (.getfield 66, 3) := by decide +kernel
theorem dX12_makeEach_263 : decode cX12_makeEach 263 = .ok (.iload_n 3, 1) := by decide +kernel
theorem dX12_makeEach_264 : decode cX12_makeEach 264 = .ok (.iaload, 1) := by decide +kernel
theorem dX12_makeEach_265 : decode cX12_makeEach 265 = .ok (.invokevirtual 159, 3) := by decide +kernel
theorem dX12_makeEach_268 : decode cX12_makeEach 268 = .ok (.goto 100, 3) := by decide +kernel
theorem dX12_makeEach_271 : decode cX12_makeEach 271 = .ok (.aload_n 0, 1) := by decide +kernel
theorem dX12_makeEach_272 : decode cX12_makeEach 272 = .ok (.iload_n 1, 1) := by decide +kernel
theorem dX12_makeEach_273 : decode cX12_makeEach 273 = .ok (.aload_n 0, 1) := by decide +kernel
theorem dX12_makeEach_274 : decode cX12_makeEach 274 = .ok (.getfield 60, 3) := by decide +kernel
theorem dX12_makeEach_277 : decode cX12_makeEach 277 = .ok (.iload_n 3, 1) := by decide +kernel
theorem dX12_makeEach_278 : decode cX12_makeEach 278 = .ok (.iaload, 1) := by decide +kernel
theorem dX12_makeEach_279 : decode cX12_makeEach 279 = .ok (.aload_n 0, 1) := by decide +kernel
theorem dX12_makeEach_280 : decode cX12_makeEach 280 = .ok (.getfield 36, 3) := by decide +kernel
theorem dX12_makeEach_283 : decode cX12_makeEach 283 = .ok (.iload_n 1, 1) := by decide +kernel
theorem dX12_makeEach_284 : decode cX12_makeEach 284 = .ok (.iaload, 1) := by decide +kernel
theorem dX12_makeEach_285 : decode cX12_makeEach 285 = .ok (.iadd, 1) := by decide +kernel
theorem dX12_makeEach_286 : decode cX12_makeEach 286 = .ok (.bipush 32, 2) := by decide +kernel
theorem dX12_makeEach_288 : decode cX12_makeEach 288 = .ok (.irem, 1) := by decide +kernel
theorem dX12_makeEach_289 : decode cX12_makeEach 289 = .ok (.aload_n 0, 1) := by decide +kernel
theorem dX12_makeEach_290 : decode cX12_makeEach 290 = .ok (.getfield 63, 3) := by decide +kernel
theorem dX12_makeEach_293 : decode cX12_makeEach 293 = .ok (.iload_n 3, 1) := by decide +kernel
theorem dX12_makeEach_294 : decode cX12_makeEach 294 = .ok (.iaload, 1) := by decide +kernel
theorem dX12_makeEach_295 : decode cX12_makeEach 295 = .ok (.i2l, 1) := by decide +kernel
theorem dX12_makeEach_296 : decode cX12_makeEach 296 = .ok (.aload_n 0, 1) := by decide +kernel
theorem dX12_makeEach_297 : decode cX12_makeEach 297 = .ok (.getfield 66, 3) := by decide +kernel
theorem dX12_makeEach_300 : decode cX12_makeEach 300 = .ok (.iload_n 3, 1) := by decide +kernel
theorem dX12_makeEach_301 : decode cX12_makeEach 301 = .ok (.iaload, 1) := by decide +kernel
theorem dX12_makeEach_302 : decode cX12_makeEach 302 = .ok (.invokevirtual 159, 3) := by decide +kernel
theorem dX12_makeEach_305 : decode cX12_makeEach 305 = .ok (.goto 63, 3) := by decide +kernel
theorem dX12_makeEach_308 : decode cX12_makeEach 308 = .ok (.aload_n 0, 1) := by decide +kernel
theorem dX12_makeEach_309 : decode cX12_makeEach 309 = .ok (.iload_n 1, 1) := by decide +kernel
theorem dX12_makeEach_310 : decode cX12_makeEach 310 = .ok (.aload_n 0, 1) := by decide +kernel
theorem dX12_makeEach_311 : decode cX12_makeEach 311 = .ok (.getfield 60, 3) := by decide +kernel
theorem dX12_makeEach_314 : decode cX12_makeEach 314 = .ok (.iload_n 3, 1) := by decide +kernel
theorem dX12_makeEach_315 : decode cX12_makeEach 315 = .ok (.iaload, 1) := by decide +kernel
theorem dX12_makeEach_316 : decode cX12_makeEach 316 = .ok (.aload_n 0, 1) := by decide +kernel
theorem dX12_makeEach_317 : decode cX12_makeEach 317 = .ok (.getfield 63, 3) := by decide +kernel
theorem dX12_makeEach_320 : decode cX12_makeEach 320 = .ok (.iload_n 3, 1) := by decide +kernel
theorem dX12_makeEach_321 : decode cX12_makeEach 321 = .ok (.iaload, 1) := by decide +kernel
theorem dX12_makeEach_322 : decode cX12_makeEach 322 = .ok (.i2l, 1) := by decide +kernel
theorem dX12_makeEach_323 : decode cX12_makeEach 323 = .ok (.aload_n 0, 1) := by decide +kernel
theorem dX12_makeEach_324 : decode cX12_makeEach 324 = .ok (.getfield 66, 3) := by decide +kernel
theorem dX12_makeEach_327 : decode cX12_makeEach 327 = .ok (.iload_n 3, 1) := by decide +kernel
theorem dX12_makeEach_328 : decode cX12_makeEach 328 = .ok (.iaload, 1) := by decide +kernel
theorem dX12_makeEach_329 : decode cX12_makeEach 329 = .ok (.aload_n 0, 1) := by decide +kernel
theorem dX12_makeEach_330 : decode cX12_makeEach 330 = .ok (.getfield 66, 3) := by decide +kernel
theorem dX12_makeEach_333 : decode cX12_makeEach 333 = .ok (.iload_n 3, 1) := by decide +kernel
theorem dX12_makeEach_334 : decode cX12_makeEach 334 = .ok (.iaload, 1) := by decide +kernel
theorem dX12_makeEach_335 : decode cX12_makeEach 335 = .ok (.aload_n 0, 1) := by decide +kernel
theorem dX12_makeEach_336 : decode cX12_makeEach 336 = .ok (.getfield 36, 3) := by decide +kernel
theorem dX12_makeEach_339 : decode cX12_makeEach 339 = .ok (.iload_n 1, 1) := by decide +kernel
theorem dX12_makeEach_340 : decode cX12_makeEach 340 = .ok (.iaload, 1) := by decide +kernel
theorem dX12_makeEach_341 : decode cX12_makeEach 341 = .ok (.irem, 1) := by decide +kernel
theorem dX12_makeEach_342 : decode cX12_makeEach 342 = .ok (.isub, 1) := by decide +kernel
theorem dX12_makeEach_343 : decode cX12_makeEach 343 = .ok (.invokevirtual 159, 3) := by decide +kernel
theorem dX12_makeEach_346 : decode cX12_makeEach 346 = .ok (.goto 22, 3) := by decide +kernel
theorem dX12_makeEach_349 : decode cX12_makeEach 349 = .ok (.aload_n 0, 1) := by decide +kernel
theorem dX12_makeEach_350 : decode cX12_makeEach 350 = .ok (.iload_n 1, 1) := by decide +kernel
theorem dX12_makeEach_351 : decode cX12_makeEach 351 = .ok (.aload_n 0, 1) := by decide +kernel
theorem dX12_makeEach_352 : decode cX12_makeEach 352 = .ok (.getfield 60, 3) := by decide +kernel
theorem dX12_makeEach_355 : decode cX12_makeEach 355 = .ok (.iload_n 3, 1) := by decide +kernel
theorem dX12_makeEach_356 : decode cX12_makeEach 356 = .ok (.iaload, 1) := by decide +kernel
theorem dX12_makeEach_357 : decode cX12_makeEach 357 = .ok (.aload_n 0, 1) := by decide +kernel
theorem dX12_makeEach_358 : decode cX12_makeEach 358 = .ok (.getfield 63, 3) := by decide +kernel
theorem dX12_makeEach_361 : decode cX12_makeEach 361 = .ok (.iload_n 3, 1) := by decide +kernel
theorem dX12_makeEach_362 : decode cX12_makeEach 362 = .ok (.iaload, 1) := by decide +kernel
theorem dX12_makeEach_363 : decode cX12_makeEach 363 = .ok (.i2l, 1) := by decide +kernel
theorem dX12_makeEach_364 : decode cX12_makeEach 364 = .ok (.iconst 0, 1) := by decide +kernel
theorem dX12_makeEach_365 : decode cX12_makeEach 365 = .ok (.invokevirtual 159, 3) := by decide +kernel
theorem dX12_makeEach_368 : decode cX12_makeEach 368 = .ok (.iinc 3 1, 3) := by decide +kernel
theorem dX12_makeEach_371 : decode cX12_makeEach 371 = .ok (.goto (-358), 3) := by decide +kernel
theorem dX12_makeEach_374 : decode cX12_makeEach 374 = .ok (.return_, 1) := by decide +kernel
theorem dX12_makeHeaps_0 : decode cX12_makeHeaps 0 = .ok (.aload_n 0, 1) := by decide +kernel
theorem dX12_makeHeaps_1 : decode cX12_makeHeaps 1 = .ok (.getfield 33, 3) := by decide +kernel
theorem dX12_makeHeaps_4 : decode cX12_makeHeaps 4 = .ok (.iload_n 1, 1) := by decide +kernel
theorem dX12_makeHeaps_5 : decode cX12_makeHeaps 5 = .ok (.iaload, 1) := by decide +kernel
theorem dX12_makeHeaps_6 : decode cX12_makeHeaps 6 = .ok (.istore_n 2, 1) := by decide +kernel
theorem dX12_makeHeaps_7 : decode cX12_makeHeaps 7 = .ok (.sipush 400, 3) := by decide +kernel
theorem dX12_makeHeaps_10 : decode cX12_makeHeaps 10 = .ok (.iload_n 2, 1) := by decide +kernel
theorem dX12_makeHeaps_11 : decode cX12_makeHeaps 11 = .ok (.imul, 1) := by decide +kernel
theorem dX12_makeHeaps_12 : decode cX12_makeHeaps 12 = .ok (.aload_n 0, 1) := by decide +kernel
theorem dX12_makeHeaps_13 : decode cX12_makeHeaps 13 = .ok (.getfield 57, 3) := by decide +kernel
theorem dX12_makeHeaps_16 : decode cX12_makeHeaps 16 = .ok (.iload_n 2, 1) := by decide +kernel
theorem dX12_makeHeaps_17 : decode cX12_makeHeaps 17 = .ok (.iaload, 1) := by decide +kernel
theorem dX12_makeHeaps_18 : decode cX12_makeHeaps 18 = .ok (.iadd, 1) := by decide +kernel
theorem dX12_makeHeaps_19 : decode cX12_makeHeaps 19 = .ok (.istore_n 3, 1) := by decide +kernel
theorem dX12_makeHeaps_20 : decode cX12_makeHeaps 20 = .ok (.lconst 0, 1) := by decide +kernel
theorem dX12_makeHeaps_21 : decode cX12_makeHeaps 21 = .ok (.lstore 4, 2) := by decide +kernel
theorem dX12_makeHeaps_23 : decode cX12_makeHeaps 23 = .ok (.iconst 0, 1) := by decide +kernel
theorem dX12_makeHeaps_24 : decode cX12_makeHeaps 24 = .ok (.istore 6, 2) := by decide +kernel
theorem dX12_makeHeaps_26 : decode cX12_makeHeaps 26 = .ok (.sipush 400, 3) := by decide +kernel
theorem dX12_makeHeaps_29 : decode cX12_makeHeaps 29 = .ok (.iload_n 2, 1) := by decide +kernel
theorem dX12_makeHeaps_30 : decode cX12_makeHeaps 30 = .ok (.imul, 1) := by decide +kernel
theorem dX12_makeHeaps_31 : decode cX12_makeHeaps 31 = .ok (.istore 7, 2) := by decide +kernel
theorem dX12_makeHeaps_33 : decode cX12_makeHeaps 33 = .ok (.iload 7, 2) := by decide +kernel
theorem dX12_makeHeaps_35 : decode cX12_makeHeaps 35 = .ok (.iload_n 3, 1) := by decide +kernel
theorem dX12_makeHeaps_36 : decode cX12_makeHeaps 36 = .ok (.if_icmp .ge 172, 3) := by decide +kernel
theorem dX12_makeHeaps_39 : decode cX12_makeHeaps 39 = .ok (.lload 4, 2) := by decide +kernel
theorem dX12_makeHeaps_41 : decode cX12_makeHeaps 41 = .ok (.aload_n 0, 1) := by decide +kernel
theorem dX12_makeHeaps_42 : decode cX12_makeHeaps 42 = .ok (.getfield 63, 3) := by decide +kernel
theorem dX12_makeHeaps_45 : decode cX12_makeHeaps 45 = .ok (.iload 7, 2) := by decide +kernel
theorem dX12_makeHeaps_47 : decode cX12_makeHeaps 47 = .ok (.iaload, 1) := by decide +kernel
theorem dX12_makeHeaps_48 : decode cX12_makeHeaps 48 = .ok (.i2l, 1) := by decide +kernel
theorem dX12_makeHeaps_49 : decode cX12_makeHeaps 49 = .ok (.ladd, 1) := by decide +kernel
theorem dX12_makeHeaps_50 : decode cX12_makeHeaps 50 = .ok (.lstore 4, 2) := by decide +kernel
theorem dX12_makeHeaps_52 : decode cX12_makeHeaps 52 = .ok (.iinc 6 1, 3) := by decide +kernel
theorem dX12_makeHeaps_55 : decode cX12_makeHeaps 55 = .ok (.iload 7, 2) := by decide +kernel
theorem dX12_makeHeaps_57 : decode cX12_makeHeaps 57 = .ok (.iconst 1, 1) := by decide +kernel
theorem dX12_makeHeaps_58 : decode cX12_makeHeaps 58 = .ok (.iadd, 1) := by decide +kernel
theorem dX12_makeHeaps_59 : decode cX12_makeHeaps 59 = .ok (.iload_n 3, 1) := by decide +kernel
theorem dX12_makeHeaps_60 : decode cX12_makeHeaps 60 = .ok (.if_icmp .ge 26, 3) := by decide +kernel
theorem dX12_makeHeaps_63 : decode cX12_makeHeaps 63 = .ok (.aload_n 0, 1) := by decide +kernel
theorem dX12_makeHeaps_64 : decode cX12_makeHeaps 64 = .ok (.getfield 60, 3) := by decide +kernel
theorem dX12_makeHeaps_67 : decode cX12_makeHeaps 67 = .ok (.iload 7, 2) := by decide +kernel
theorem dX12_makeHeaps_69 : decode cX12_makeHeaps 69 = .ok (.iconst 1, 1) := by decide +kernel
theorem dX12_makeHeaps_70 : decode cX12_makeHeaps 70 = .ok (.iadd, 1) := by decide +kernel
theorem dX12_makeHeaps_71 : decode cX12_makeHeaps 71 = .ok (.iaload, 1) := by decide +kernel
theorem dX12_makeHeaps_72 : decode cX12_makeHeaps 72 = .ok (.aload_n 0, 1) := by decide +kernel
theorem dX12_makeHeaps_73 : decode cX12_makeHeaps 73 = .ok (.getfield 60, 3) := by decide +kernel
theorem dX12_makeHeaps_76 : decode cX12_makeHeaps 76 = .ok (.iload 7, 2) := by decide +kernel
theorem dX12_makeHeaps_78 : decode cX12_makeHeaps 78 = .ok (.iaload, 1) := by decide +kernel
theorem dX12_makeHeaps_79 : decode cX12_makeHeaps 79 = .ok (.if_icmp .ne 7, 3) := by decide +kernel
theorem dX12_makeHeaps_82 : decode cX12_makeHeaps 82 = .ok (.iconst 1, 1) := by decide +kernel
theorem dX12_makeHeaps_83 : decode cX12_makeHeaps 83 = .ok (.goto 4, 3) := by decide +kernel
theorem dX12_makeHeaps_86 : decode cX12_makeHeaps 86 = .ok (.iconst 0, 1) := by decide +kernel
theorem dX12_makeHeaps_87 : decode cX12_makeHeaps 87 = .ok (.istore 8, 2) := by decide +kernel
theorem dX12_makeHeaps_89 : decode cX12_makeHeaps 89 = .ok (.iload 8, 2) := by decide +kernel
theorem dX12_makeHeaps_91 : decode cX12_makeHeaps 91 = .ok (.ifCond .eq 37, 3) := by decide +kernel
theorem dX12_makeHeaps_94 : decode cX12_makeHeaps 94 = .ok (.aload_n 0, 1) := by decide +kernel
theorem dX12_makeHeaps_95 : decode cX12_makeHeaps 95 = .ok (.getfield 30, 3) := by decide +kernel
theorem dX12_makeHeaps_98 : decode cX12_makeHeaps 98 = .ok (.iload_n 1, 1) := by decide +kernel
theorem dX12_makeHeaps_99 : decode cX12_makeHeaps 99 = .ok (.iaload, 1) := by decide +kernel
theorem dX12_makeHeaps_100 : decode cX12_makeHeaps 100 = .ok (.bipush 10, 2) := by decide +kernel
theorem dX12_makeHeaps_102 : decode cX12_makeHeaps 102 = .ok (.if_icmp .eq 22, 3) := by decide +kernel
theorem dX12_makeHeaps_105 : decode cX12_makeHeaps 105 = .ok (.aload_n 0, 1) := by decide +kernel
theorem dX12_makeHeaps_106 : decode cX12_makeHeaps 106 = .ok (.getfield 66, 3) := by decide +kernel
theorem dX12_makeHeaps_109 : decode cX12_makeHeaps 109 = .ok (.iload 7, 2) := by decide +kernel
theorem dX12_makeHeaps_111 : decode cX12_makeHeaps 111 = .ok (.iconst 1, 1) := by decide +kernel
theorem dX12_makeHeaps_112 : decode cX12_makeHeaps 112 = .ok (.iadd, 1) := by decide +kernel
theorem dX12_makeHeaps_113 : decode cX12_makeHeaps 113 = .ok (.iaload, 1) := by decide +kernel
theorem dX12_makeHeaps_114 : decode cX12_makeHeaps 114 = .ok (.aload_n 0, 1) := by decide +kernel
theorem dX12_makeHeaps_115 : decode cX12_makeHeaps 115 = .ok (.getfield 66, 3) := by decide +kernel
theorem dX12_makeHeaps_118 : decode cX12_makeHeaps 118 = .ok (.iload 7, 2) := by decide +kernel
theorem dX12_makeHeaps_120 : decode cX12_makeHeaps 120 = .ok (.iaload, 1) := by decide +kernel
theorem dX12_makeHeaps_121 : decode cX12_makeHeaps 121 = .ok (.if_icmp .ne 7, 3) := by decide +kernel
theorem dX12_makeHeaps_124 : decode cX12_makeHeaps 124 = .ok (.iconst 1, 1) := by decide +kernel
theorem dX12_makeHeaps_125 : decode cX12_makeHeaps 125 = .ok (.goto 4, 3) := by decide +kernel
theorem dX12_makeHeaps_128 : decode cX12_makeHeaps 128 = .ok (.iconst 0, 1) := by decide +kernel
theorem dX12_makeHeaps_129 : decode cX12_makeHeaps 129 = .ok (.istore 9, 2) := by decide +kernel
theorem dX12_makeHeaps_131 : decode cX12_makeHeaps 131 = .ok (.iload 9, 2) := by decide +kernel
theorem dX12_makeHeaps_133 : decode cX12_makeHeaps 133 = .ok (.ifCond .ne 69, 3) := by decide +kernel
theorem dX12_makeHeaps_136 : decode cX12_makeHeaps 136 = .ok (.aload_n 0, 1) := by decide +kernel
theorem dX12_makeHeaps_137 : decode cX12_makeHeaps 137 = .ok (.iload_n 1, 1) := by decide +kernel
theorem dX12_makeHeaps_138 : decode cX12_makeHeaps 138 = .ok (.aload_n 0, 1) := by decide +kernel
theorem dX12_makeHeaps_139 : decode cX12_makeHeaps 139 = .ok (.getfield 60, 3) := by decide +kernel
theorem dX12_makeHeaps_142 : decode cX12_makeHeaps 142 = .ok (.iload 7, 2) := by decide +kernel
theorem dX12_makeHeaps_144 : decode cX12_makeHeaps 144 = .ok (.iaload, 1) := by decide +kernel
theorem dX12_makeHeaps_145 : decode cX12_makeHeaps 145 = .ok (.aload_n 0, 1) := by decide +kernel
theorem dX12_makeHeaps_146 : decode cX12_makeHeaps 146 = .ok (.getfield 30, 3) := by decide +kernel
theorem dX12_makeHeaps_149 : decode cX12_makeHeaps 149 = .ok (.iload_n 1, 1) := by decide +kernel
theorem dX12_makeHeaps_150 : decode cX12_makeHeaps 150 = .ok (.iaload, 1) := by decide +kernel
theorem dX12_makeHeaps_151 : decode cX12_makeHeaps 151 = .ok (.bipush 7, 2) := by decide +kernel
theorem dX12_makeHeaps_153 : decode cX12_makeHeaps 153 = .ok (.if_icmp .ne 8, 3) := by decide +kernel
theorem dX12_makeHeaps_156 : decode cX12_makeHeaps 156 = .ok (.lload 4, 2) := by decide +kernel
theorem dX12_makeHeaps_158 : decode cX12_makeHeaps 158 = .ok (.goto 28, 3) := by decide +kernel
theorem dX12_makeHeaps_161 : decode cX12_makeHeaps 161 = .ok (.aload_n 0, 1) := by decide +kernel
theorem dX12_makeHeaps_162 : decode cX12_makeHeaps 162 = .ok (.getfield 30, 3) := by decide +kernel
theorem dX12_makeHeaps_165 : decode cX12_makeHeaps 165 = .ok (.iload_n 1, 1) := by decide +kernel
theorem dX12_makeHeaps_166 : decode cX12_makeHeaps 166 = .ok (.iaload, 1) := by decide +kernel
theorem dX12_makeHeaps_167 : decode cX12_makeHeaps 167 = .ok (.bipush 8, 2) := by decide +kernel
theorem dX12_makeHeaps_169 : decode cX12_makeHeaps 169 = .ok (.if_icmp .ne 9, 3) := by decide +kernel
theorem dX12_makeHeaps_172 : decode cX12_makeHeaps 172 = .ok (.iload 6, 2) := by decide +kernel
theorem dX12_makeHeaps_174 : decode cX12_makeHeaps 174 = .ok (.i2l, 1) := by decide +kernel
theorem dX12_makeHeaps_175 : decode cX12_makeHeaps 175 = .ok (.goto 11, 3) := by decide +kernel
theorem dX12_makeHeaps_178 : decode cX12_makeHeaps 178 = .ok (.aload_n 0, 1) := by decide +kernel
theorem dX12_makeHeaps_179 : decode cX12_makeHeaps 179 = .ok (.getfield 63, 3) := by decide +kernel
theorem dX12_makeHeaps_182 : decode cX12_makeHeaps 182 = .ok (.iload 7, 2) := by decide +kernel
theorem dX12_makeHeaps_184 : decode cX12_makeHeaps 184 = .ok (.iaload, 1) := by decide +kernel
theorem dX12_makeHeaps_185 : decode cX12_makeHeaps 185 = .ok (.i2l, 1) := by decide +kernel
theorem dX12_makeHeaps_186 : decode cX12_makeHeaps 186 = .ok (.aload_n 0, 1) := by decide +kernel
theorem dX12_makeHeaps_187 : decode cX12_makeHeaps 187 = .ok (.getfield 66, 3) := by decide +kernel
theorem dX12_makeHeaps_190 : decode cX12_makeHeaps 190 = .ok (.iload 7, 2) := by decide +kernel
theorem dX12_makeHeaps_192 : decode cX12_makeHeaps 192 = .ok (.iaload, 1) := by decide +kernel
theorem dX12_makeHeaps_193 : decode cX12_makeHeaps 193 = .ok (.invokevirtual 159, 3) := by decide +kernel
theorem dX12_makeHeaps_196 : decode cX12_makeHeaps 196 = .ok (.lconst 0, 1) := by decide +kernel
theorem dX12_makeHeaps_197 : decode cX12_makeHeaps 197 = .ok (.lstore 4, 2) := by decide +kernel
theorem dX12_makeHeaps_199 : decode cX12_makeHeaps 199 = .ok (.iconst 0, 1) := by decide +kernel
theorem dX12_makeHeaps_200 : decode cX12_makeHeaps 200 = .ok (.istore 6, 2) := by decide +kernel
theorem dX12_makeHeaps_202 : decode cX12_makeHeaps 202 = .ok (.iinc 7 1, 3) := by decide +kernel
theorem dX12_makeHeaps_205 : decode cX12_makeHeaps 205 = .ok (.goto (-172), 3) := by decide +kernel
theorem dX12_makeHeaps_208 : decode cX12_makeHeaps 208 = .ok (.return_, 1) := by decide +kernel
theorem dX12_makeOfTwo_0 : decode cX12_makeOfTwo 0 = .ok (.aload_n 0, 1) := by decide +kernel
theorem dX12_makeOfTwo_1 : decode cX12_makeOfTwo 1 = .ok (.getfield 33, 3) := by decide +kernel
theorem dX12_makeOfTwo_4 : decode cX12_makeOfTwo 4 = .ok (.iload_n 1, 1) := by decide +kernel
theorem dX12_makeOfTwo_5 : decode cX12_makeOfTwo 5 = .ok (.iaload, 1) := by decide +kernel
theorem dX12_makeOfTwo_6 : decode cX12_makeOfTwo 6 = .ok (.istore_n 2, 1) := by decide +kernel
theorem dX12_makeOfTwo_7 : decode cX12_makeOfTwo 7 = .ok (.aload_n 0, 1) := by decide +kernel
theorem dX12_makeOfTwo_8 : decode cX12_makeOfTwo 8 = .ok (.getfield 36, 3) := by decide +kernel
theorem dX12_makeOfTwo_11 : decode cX12_makeOfTwo 11 = .ok (.iload_n 1, 1) := by decide +kernel
theorem dX12_makeOfTwo_12 : decode cX12_makeOfTwo 12 = .ok (.iaload, 1) := by decide +kernel
theorem dX12_makeOfTwo_13 : decode cX12_makeOfTwo 13 = .ok (.istore_n 3, 1) := by decide +kernel
theorem dX12_makeOfTwo_14 : decode cX12_makeOfTwo 14 = .ok (.sipush 400, 3) := by decide +kernel
theorem dX12_makeOfTwo_17 : decode cX12_makeOfTwo 17 = .ok (.iload_n 2, 1) := by decide +kernel
theorem dX12_makeOfTwo_18 : decode cX12_makeOfTwo 18 = .ok (.imul, 1) := by decide +kernel
theorem dX12_makeOfTwo_19 : decode cX12_makeOfTwo 19 = .ok (.istore 4, 2) := by decide +kernel
theorem dX12_makeOfTwo_21 : decode cX12_makeOfTwo 21 = .ok (.iload 4, 2) := by decide +kernel
theorem dX12_makeOfTwo_23 : decode cX12_makeOfTwo 23 = .ok (.sipush 400, 3) := by decide +kernel
theorem dX12_makeOfTwo_26 : decode cX12_makeOfTwo 26 = .ok (.iload_n 2, 1) := by decide +kernel
theorem dX12_makeOfTwo_27 : decode cX12_makeOfTwo 27 = .ok (.imul, 1) := by decide +kernel
theorem dX12_makeOfTwo_28 : decode cX12_makeOfTwo 28 = .ok (.aload_n 0, 1) := by decide +kernel
theorem dX12_makeOfTwo_29 : decode cX12_makeOfTwo 29 = .ok (.getfield 57, 3) := by decide +kernel
theorem dX12_makeOfTwo_32 : decode cX12_makeOfTwo 32 = .ok (.iload_n 2, 1) := by decide +kernel
theorem dX12_makeOfTwo_33 : decode cX12_makeOfTwo 33 = .ok (.iaload, 1) := by decide +kernel
theorem dX12_makeOfTwo_34 : decode cX12_makeOfTwo 34 = .ok (.iadd, 1) := by decide +kernel
theorem dX12_makeOfTwo_35 : decode cX12_makeOfTwo 35 = .ok (.if_icmp .ge 182, 3) := by decide +kernel
theorem dX12_makeOfTwo_38 : decode cX12_makeOfTwo 38 = .ok (.iconst 0, 1) := by decide +kernel
theorem dX12_makeOfTwo_39 : decode cX12_makeOfTwo 39 = .ok (.istore 5, 2) := by decide +kernel
theorem dX12_makeOfTwo_41 : decode cX12_makeOfTwo 41 = .ok (.sipush 400, 3) := by decide +kernel
theorem dX12_makeOfTwo_44 : decode cX12_makeOfTwo 44 = .ok (.iload_n 3, 1) := by decide +kernel
theorem dX12_makeOfTwo_45 : decode cX12_makeOfTwo 45 = .ok (.imul, 1) := by decide +kernel
theorem dX12_makeOfTwo_46 : decode cX12_makeOfTwo 46 = .ok (.istore 6, 2) := by decide +kernel
theorem dX12_makeOfTwo_48 : decode cX12_makeOfTwo 48 = .ok (.iload 6, 2) := by decide +kernel
theorem dX12_makeOfTwo_50 : decode cX12_makeOfTwo 50 = .ok (.sipush 400, 3) := by decide +kernel
theorem dX12_makeOfTwo_53 : decode cX12_makeOfTwo 53 = .ok (.iload_n 3, 1) := by decide +kernel
theorem dX12_makeOfTwo_54 : decode cX12_makeOfTwo 54 = .ok (.imul, 1) := by decide +kernel
theorem dX12_makeOfTwo_55 : decode cX12_makeOfTwo 55 = .ok (.aload_n 0, 1) := by decide +kernel
theorem dX12_makeOfTwo_56 : decode cX12_makeOfTwo 56 = .ok (.getfield 57, 3) := by decide +kernel
theorem dX12_makeOfTwo_59 : decode cX12_makeOfTwo 59 = .ok (.iload_n 3, 1) := by decide +kernel
theorem dX12_makeOfTwo_60 : decode cX12_makeOfTwo 60 = .ok (.iaload, 1) := by decide +kernel
theorem dX12_makeOfTwo_61 : decode cX12_makeOfTwo 61 = .ok (.iadd, 1) := by decide +kernel
theorem dX12_makeOfTwo_62 : decode cX12_makeOfTwo 62 = .ok (.if_icmp .ge 106, 3) := by decide +kernel
theorem dX12_makeOfTwo_65 : decode cX12_makeOfTwo 65 = .ok (.aload_n 0, 1) := by decide +kernel
theorem dX12_makeOfTwo_66 : decode cX12_makeOfTwo 66 = .ok (.getfield 60, 3) := by decide +kernel
theorem dX12_makeOfTwo_69 : decode cX12_makeOfTwo 69 = .ok (.iload 6, 2) := by decide +kernel
theorem dX12_makeOfTwo_71 : decode cX12_makeOfTwo 71 = .ok (.iaload, 1) := by decide +kernel
theorem dX12_makeOfTwo_72 : decode cX12_makeOfTwo 72 = .ok (.aload_n 0, 1) := by decide +kernel
theorem dX12_makeOfTwo_73 : decode cX12_makeOfTwo 73 = .ok (.getfield 60, 3) := by decide +kernel
theorem dX12_makeOfTwo_76 : decode cX12_makeOfTwo 76 = .ok (.iload 4, 2) := by decide +kernel
theorem dX12_makeOfTwo_78 : decode cX12_makeOfTwo 78 = .ok (.iaload, 1) := by decide +kernel
theorem dX12_makeOfTwo_79 : decode cX12_makeOfTwo 79 = .ok (.if_icmp .eq 6, 3) := by decide +kernel
theorem dX12_makeOfTwo_82 : decode cX12_makeOfTwo 82 = .ok (.goto 80, 3) := by decide +kernel
theorem dX12_makeOfTwo_85 : decode cX12_makeOfTwo 85 = .ok (.iconst 1, 1) := by decide +kernel
theorem dX12_makeOfTwo_86 : decode cX12_makeOfTwo 86 = .ok (.istore 5, 2) := by decide +kernel
theorem dX12_makeOfTwo_88 : decode cX12_makeOfTwo 88 = .ok (.aload_n 0, 1) := by decide +kernel
theorem dX12_makeOfTwo_89 : decode cX12_makeOfTwo 89 = .ok (.getfield 30, 3) := by decide +kernel
theorem dX12_makeOfTwo_92 : decode cX12_makeOfTwo 92 = .ok (.iload_n 1, 1) := by decide +kernel
theorem dX12_makeOfTwo_93 : decode cX12_makeOfTwo 93 = .ok (.iaload, 1) := by decide +kernel
theorem dX12_makeOfTwo_94 : decode cX12_makeOfTwo 94 = .ok (.bipush 11, 2) := by decide +kernel
theorem dX12_makeOfTwo_96 : decode cX12_makeOfTwo 96 = .ok (.if_icmp .ne 66, 3) := by decide +kernel
theorem dX12_makeOfTwo_99 : decode cX12_makeOfTwo 99 = .ok (.aload_n 0, 1) := by decide +kernel
theorem dX12_makeOfTwo_100 : decode cX12_makeOfTwo 100 = .ok (.iload_n 1, 1) := by decide +kernel
theorem dX12_makeOfTwo_101 : decode cX12_makeOfTwo 101 = .ok (.aload_n 0, 1) := by decide +kernel
theorem dX12_makeOfTwo_102 : decode cX12_makeOfTwo 102 = .ok (.getfield 60, 3) := by decide +kernel
theorem dX12_makeOfTwo_105 : decode cX12_makeOfTwo 105 = .ok (.iload 4, 2) := by decide +kernel
theorem dX12_makeOfTwo_107 : decode cX12_makeOfTwo 107 = .ok (.iaload, 1) := by decide +kernel
theorem dX12_makeOfTwo_108 : decode cX12_makeOfTwo 108 = .ok (.aload_n 0, 1) := by decide +kernel
theorem dX12_makeOfTwo_109 : decode cX12_makeOfTwo 109 = .ok (.getfield 63, 3) := by decide +kernel
theorem dX12_makeOfTwo_112 : decode cX12_makeOfTwo 112 = .ok (.iload 4, 2) := by decide +kernel
theorem dX12_makeOfTwo_114 : decode cX12_makeOfTwo 114 = .ok (.iaload, 1) := by decide +kernel
theorem dX12_makeOfTwo_115 : decode cX12_makeOfTwo 115 = .ok (.i2l, 1) := by decide +kernel
theorem dX12_makeOfTwo_116 : decode cX12_makeOfTwo 116 = .ok (.aload_n 0, 1) := by decide +kernel
theorem dX12_makeOfTwo_117 : decode cX12_makeOfTwo 117 = .ok (.getfield 63, 3) := by decide +kernel
theorem dX12_makeOfTwo_120 : decode cX12_makeOfTwo 120 = .ok (.iload 6, 2) := by decide +kernel
theorem dX12_makeOfTwo_122 : decode cX12_makeOfTwo 122 = .ok (.iaload, 1) := by decide +kernel
theorem dX12_makeOfTwo_123 : decode cX12_makeOfTwo 123 = .ok (.i2l, 1) := by decide +kernel
theorem dX12_makeOfTwo_124 : decode cX12_makeOfTwo 124 = .ok (.ladd, 1) := by decide +kernel
theorem dX12_makeOfTwo_125 : decode cX12_makeOfTwo 125 = .ok (.aload_n 0, 1) := by decide +kernel
theorem dX12_makeOfTwo_126 : decode cX12_makeOfTwo 126 = .ok (.getfield 66, 3) := by decide +kernel
theorem dX12_makeOfTwo_129 : decode cX12_makeOfTwo 129 = .ok (.iload 4, 2) := by decide +kernel
theorem dX12_makeOfTwo_131 : decode cX12_makeOfTwo 131 = .ok (.iaload, 1) := by decide +kernel
theorem dX12_makeOfTwo_132 : decode cX12_makeOfTwo 132 = .ok (.aload_n 0, 1) := by decide +kernel
theorem dX12_makeOfTwo_133 : decode cX12_makeOfTwo 133 = .ok (.getfield 66, 3) := by decide +kernel
theorem dX12_makeOfTwo_136 : decode cX12_makeOfTwo 136 = .ok (.iload 6, 2) := by decide +kernel
theorem dX12_makeOfTwo_138 : decode cX12_makeOfTwo 138 = .ok (.iaload, 1) := by decide +kernel
theorem dX12_makeOfTwo_139 : decode cX12_makeOfTwo 139 = .ok (.if_icmp .le 13, 3) := by decide +kernel
theorem dX12_makeOfTwo_142 : decode cX12_makeOfTwo 142 = .ok (.aload_n 0, 1) := by decide +kernel
theorem dX12_makeOfTwo_143 : decode cX12_makeOfTwo 143 = .ok (.getfield 66, 3) := by decide +kernel
theorem dX12_makeOfTwo_146 : decode cX12_makeOfTwo 146 = .ok (.iload 4, 2) := by decide +kernel
theorem dX12_makeOfTwo_148 : decode cX12_makeOfTwo 148 = .ok (.iaload, 1) := by decide +kernel
theorem dX12_makeOfTwo_149 : decode cX12_makeOfTwo 149 = .ok (.goto 10, 3) := by decide +kernel
theorem dX12_makeOfTwo_152 : decode cX12_makeOfTwo 152 = .ok (.aload_n 0, 1) := by decide +kernel
theorem dX12_makeOfTwo_153 : decode cX12_makeOfTwo 153 = .ok (.getfield 66, 3) := by decide +kernel
theorem dX12_makeOfTwo_156 : decode cX12_makeOfTwo 156 = .ok (.iload 6, 2) := by decide +kernel
theorem dX12_makeOfTwo_158 : decode cX12_makeOfTwo 158 = .ok (.iaload, 1) := by decide +kernel
theorem dX12_makeOfTwo_159 : decode cX12_makeOfTwo 159 = .ok (.invokevirtual 159, 3) := by decide +kernel
theorem dX12_makeOfTwo_162 : decode cX12_makeOfTwo 162 = .ok (.iinc 6 1, 3) := by decide +kernel
theorem dX12_makeOfTwo_165 : decode cX12_makeOfTwo 165 = .ok (.goto (-117), 3) := by decide +kernel
theorem dX12_makeOfTwo_168 : decode cX12_makeOfTwo 168 = .ok (.aload_n 0, 1) := by decide +kernel
theorem dX12_makeOfTwo_169 : decode cX12_makeOfTwo 169 = .ok (.getfield 30, 3) := by decide +kernel
theorem dX12_makeOfTwo_172 : decode cX12_makeOfTwo 172 = .ok (.iload_n 1, 1) := by decide +kernel
theorem dX12_makeOfTwo_173 : decode cX12_makeOfTwo 173 = .ok (.iaload, 1) := by decide +kernel
theorem dX12_makeOfTwo_174 : decode cX12_makeOfTwo 174 = .ok (.bipush 12, 2) := by decide +kernel
theorem dX12_makeOfTwo_176 : decode cX12_makeOfTwo 176 = .ok (.if_icmp .ne 35, 3) := by decide +kernel
theorem dX12_makeOfTwo_179 : decode cX12_makeOfTwo 179 = .ok (.iload 5, 2) := by decide +kernel
theorem dX12_makeOfTwo_181 : decode cX12_makeOfTwo 181 = .ok (.ifCond .ne 30, 3) := by decide +kernel
theorem dX12_makeOfTwo_184 : decode cX12_makeOfTwo 184 = .ok (.aload_n 0, 1) := by decide +kernel
theorem dX12_makeOfTwo_185 : decode cX12_makeOfTwo 185 = .ok (.iload_n 1, 1) := by decide +kernel
theorem dX12_makeOfTwo_186 : decode cX12_makeOfTwo 186 = .ok (.aload_n 0, 1) := by decide +kernel
theorem dX12_makeOfTwo_187 : decode cX12_makeOfTwo 187 = .ok (.getfield 60, 3) := by decide +kernel
theorem dX12_makeOfTwo_190 : decode cX12_makeOfTwo 190 = .ok (.iload 4, 2) := by decide +kernel
theorem dX12_makeOfTwo_192 : decode cX12_makeOfTwo 192 = .ok (.iaload, 1) := by decide +kernel
theorem dX12_makeOfTwo_193 : decode cX12_makeOfTwo 193 = .ok (.aload_n 0, 1) := by decide +kernel
theorem dX12_makeOfTwo_194 : decode cX12_makeOfTwo 194 = .ok (.getfield 63, 3) := by decide +kernel
theorem dX12_makeOfTwo_197 : decode cX12_makeOfTwo 197 = .ok (.iload 4, 2) := by decide +kernel
theorem dX12_makeOfTwo_199 : decode cX12_makeOfTwo 199 = .ok (.iaload, 1) := by decide +kernel
theorem dX12_makeOfTwo_200 : decode cX12_makeOfTwo 200 = .ok (.i2l, 1) := by decide +kernel
theorem dX12_makeOfTwo_201 : decode cX12_makeOfTwo 201 = .ok (.aload_n 0, 1) := by decide +kernel
theorem dX12_makeOfTwo_202 : decode cX12_makeOfTwo 202 = .ok (.getfield 66, 3) := by decide +kernel
theorem dX12_makeOfTwo_205 : decode cX12_makeOfTwo 205 = .ok (.iload 4, 2) := by decide +kernel
theorem dX12_makeOfTwo_207 : decode cX12_makeOfTwo 207 = .ok (.iaload, 1) := by decide +kernel
theorem dX12_makeOfTwo_208 : decode cX12_makeOfTwo 208 = .ok (.invokevirtual 159, 3) := by decide +kernel
theorem dX12_makeOfTwo_211 : decode cX12_makeOfTwo 211 = .ok (.iinc 4 1, 3) := by decide +kernel
theorem dX12_makeOfTwo_214 : decode cX12_makeOfTwo 214 = .ok (.goto (-193), 3) := by decide +kernel
theorem dX12_makeOfTwo_217 : decode cX12_makeOfTwo 217 = .ok (.return_, 1) := by decide +kernel
theorem dX12_makeAll_0 : decode cX12_makeAll 0 = .ok (.aload_n 0, 1) := by decide +kernel
theorem dX12_makeAll_1 : decode cX12_makeAll 1 = .ok (.iconst 0, 1) := by decide +kernel
theorem dX12_makeAll_2 : decode cX12_makeAll 2 = .ok (.putfield 147, 3) := by decide +kernel
theorem dX12_makeAll_5 : decode cX12_makeAll 5 = .ok (.iconst 0, 1) := by decide +kernel
theorem dX12_makeAll_6 : decode cX12_makeAll 6 = .ok (.istore_n 2, 1) := by decide +kernel
theorem dX12_makeAll_7 : decode cX12_makeAll 7 = .ok (.iload_n 2, 1) := by decide +kernel
theorem dX12_makeAll_8 : decode cX12_makeAll 8 = .ok (.aload_n 0, 1) := by decide +kernel
theorem dX12_makeAll_9 : decode cX12_makeAll 9 = .ok (.getfield 173, 3) := by decide +kernel
theorem dX12_makeAll_12 : decode cX12_makeAll 12 = .ok (.if_icmp .ge 22, 3) := by decide +kernel
theorem dX12_makeAll_15 : decode cX12_makeAll 15 = .ok (.aload_n 0, 1) := by decide +kernel
theorem dX12_makeAll_16 : decode cX12_makeAll 16 = .ok (.getfield 147, 3) := by decide +kernel
theorem dX12_makeAll_19 : decode cX12_makeAll 19 = .ok (.ifCond .ne 15, 3) := by decide +kernel
theorem dX12_makeAll_22 : decode cX12_makeAll 22 = .ok (.aload_n 0, 1) := by decide +kernel
theorem dX12_makeAll_23 : decode cX12_makeAll 23 = .ok (.iload_n 2, 1) := by decide +kernel
theorem dX12_makeAll_24 : decode cX12_makeAll 24 = .ok (.iload_n 1, 1) := by decide +kernel
theorem dX12_makeAll_25 : decode cX12_makeAll 25 = .ok (.invokevirtual 176, 3) := by decide +kernel
theorem dX12_makeAll_28 : decode cX12_makeAll 28 = .ok (.iinc 2 1, 3) := by decide +kernel
theorem dX12_makeAll_31 : decode cX12_makeAll 31 = .ok (.goto (-24), 3) := by decide +kernel
theorem dX12_makeAll_34 : decode cX12_makeAll 34 = .ok (.aload_n 0, 1) := by decide +kernel
theorem dX12_makeAll_35 : decode cX12_makeAll 35 = .ok (.getfield 147, 3) := by decide +kernel
theorem dX12_makeAll_38 : decode cX12_makeAll 38 = .ok (.ifCond .ne 7, 3) := by decide +kernel
theorem dX12_makeAll_41 : decode cX12_makeAll 41 = .ok (.iconst 1, 1) := by decide +kernel
theorem dX12_makeAll_42 : decode cX12_makeAll 42 = .ok (.goto 4, 3) := by decide +kernel
theorem dX12_makeAll_45 : decode cX12_makeAll 45 = .ok (.iconst 0, 1) := by decide +kernel
theorem dX12_makeAll_46 : decode cX12_makeAll 46 = .ok (.ireturn, 1) := by decide +kernel
theorem dX12_keep_0 : decode cX12_keep 0 = .ok (.iconst 0, 1) := by decide +kernel
theorem dX12_keep_1 : decode cX12_keep 1 = .ok (.istore_n 1, 1) := by decide +kernel
theorem dX12_keep_2 : decode cX12_keep 2 = .ok (.iload_n 1, 1) := by decide +kernel
theorem dX12_keep_3 : decode cX12_keep 3 = .ok (.aload_n 0, 1) := by decide +kernel
theorem dX12_keep_4 : decode cX12_keep 4 = .ok (.getfield 173, 3) := by decide +kernel
theorem dX12_keep_7 : decode cX12_keep 7 = .ok (.if_icmp .ge 85, 3) := by decide +kernel
theorem dX12_keep_10 : decode cX12_keep 10 = .ok (.aload_n 0, 1) := by decide +kernel
theorem dX12_keep_11 : decode cX12_keep 11 = .ok (.getfield 45, 3) := by decide +kernel
theorem dX12_keep_14 : decode cX12_keep 14 = .ok (.iload_n 1, 1) := by decide +kernel
theorem dX12_keep_15 : decode cX12_keep 15 = .ok (.aload_n 0, 1) := by decide +kernel
theorem dX12_keep_16 : decode cX12_keep 16 = .ok (.getfield 57, 3) := by decide +kernel
theorem dX12_keep_19 : decode cX12_keep 19 = .ok (.iload_n 1, 1) := by decide +kernel
theorem dX12_keep_20 : decode cX12_keep 20 = .ok (.iaload, 1) := by decide +kernel
theorem dX12_keep_21 : decode cX12_keep 21 = .ok (.iastore, 1) := by decide +kernel
theorem dX12_keep_22 : decode cX12_keep 22 = .ok (.sipush 400, 3) := by decide +kernel
theorem dX12_keep_25 : decode cX12_keep 25 = .ok (.iload_n 1, 1) := by decide +kernel
theorem dX12_keep_26 : decode cX12_keep 26 = .ok (.imul, 1) := by decide +kernel
theorem dX12_keep_27 : decode cX12_keep 27 = .ok (.istore_n 2, 1) := by decide +kernel
theorem dX12_keep_28 : decode cX12_keep 28 = .ok (.iload_n 2, 1) := by decide +kernel
theorem dX12_keep_29 : decode cX12_keep 29 = .ok (.sipush 400, 3) := by decide +kernel
theorem dX12_keep_32 : decode cX12_keep 32 = .ok (.iload_n 1, 1) := by decide +kernel
theorem dX12_keep_33 : decode cX12_keep 33 = .ok (.imul, 1) := by decide +kernel
theorem dX12_keep_34 : decode cX12_keep 34 = .ok (.aload_n 0, 1) := by decide +kernel
theorem dX12_keep_35 : decode cX12_keep 35 = .ok (.getfield 57, 3) := by decide +kernel
theorem dX12_keep_38 : decode cX12_keep 38 = .ok (.iload_n 1, 1) := by decide +kernel
theorem dX12_keep_39 : decode cX12_keep 39 = .ok (.iaload, 1) := by decide +kernel
theorem dX12_keep_40 : decode cX12_keep 40 = .ok (.iadd, 1) := by decide +kernel
theorem dX12_keep_41 : decode cX12_keep 41 = .ok (.if_icmp .ge 45, 3) := by decide +kernel
theorem dX12_keep_44 : decode cX12_keep 44 = .ok (.aload_n 0, 1) := by decide +kernel
theorem dX12_keep_45 : decode cX12_keep 45 = .ok (.getfield 48, 3) := by decide +kernel
theorem dX12_keep_48 : decode cX12_keep 48 = .ok (.iload_n 2, 1) := by decide +kernel
theorem dX12_keep_49 : decode cX12_keep 49 = .ok (.aload_n 0, 1) := by decide +kernel
theorem dX12_keep_50 : decode cX12_keep 50 = .ok (.getfield 60, 3) := by decide +kernel
theorem dX12_keep_53 : decode cX12_keep 53 = .ok (.iload_n 2, 1) := by decide +kernel
theorem dX12_keep_54 : decode cX12_keep 54 = .ok (.iaload, 1) := by decide +kernel
theorem dX12_keep_55 : decode cX12_keep 55 = .ok (.iastore, 1) := by decide +kernel
theorem dX12_keep_56 : decode cX12_keep 56 = .ok (.aload_n 0, 1) := by decide +kernel
theorem dX12_keep_57 : decode cX12_keep 57 = .ok (.getfield 51, 3) := by decide +kernel
theorem dX12_keep_60 : decode cX12_keep 60 = .ok (.iload_n 2, 1) := by decide +kernel
theorem dX12_keep_61 : decode cX12_keep 61 = .ok (.aload_n 0, 1) := by decide +kernel
theorem dX12_keep_62 : decode cX12_keep 62 = .ok (.getfield 63, 3) := by decide +kernel
theorem dX12_keep_65 : decode cX12_keep 65 = .ok (.iload_n 2, 1) := by decide +kernel
theorem dX12_keep_66 : decode cX12_keep 66 = .ok (.iaload, 1) := by decide +kernel
theorem dX12_keep_67 : decode cX12_keep 67 = .ok (.iastore, 1) := by decide +kernel
theorem dX12_keep_68 : decode cX12_keep 68 = .ok (.aload_n 0, 1) := by decide +kernel
theorem dX12_keep_69 : decode cX12_keep 69 = .ok (.getfield 54, 3) := by decide +kernel
theorem dX12_keep_72 : decode cX12_keep 72 = .ok (.iload_n 2, 1) := by decide +kernel
theorem dX12_keep_73 : decode cX12_keep 73 = .ok (.aload_n 0, 1) := by decide +kernel
theorem dX12_keep_74 : decode cX12_keep 74 = .ok (.getfield 66, 3) := by decide +kernel
theorem dX12_keep_77 : decode cX12_keep 77 = .ok (.iload_n 2, 1) := by decide +kernel
theorem dX12_keep_78 : decode cX12_keep 78 = .ok (.iaload, 1) := by decide +kernel
theorem dX12_keep_79 : decode cX12_keep 79 = .ok (.iastore, 1) := by decide +kernel
theorem dX12_keep_80 : decode cX12_keep 80 = .ok (.iinc 2 1, 3) := by decide +kernel
theorem dX12_keep_83 : decode cX12_keep 83 = .ok (.goto (-55), 3) := by decide +kernel
theorem dX12_keep_86 : decode cX12_keep 86 = .ok (.iinc 1 1, 3) := by decide +kernel
theorem dX12_keep_89 : decode cX12_keep 89 = .ok (.goto (-87), 3) := by decide +kernel
theorem dX12_keep_92 : decode cX12_keep 92 = .ok (.return_, 1) := by decide +kernel
theorem dX12_order_0 : decode cX12_order 0 = .ok (.aload_n 0, 1) := by decide +kernel
theorem dX12_order_1 : decode cX12_order 1 = .ok (.getfield 48, 3) := by decide +kernel
theorem dX12_order_4 : decode cX12_order 4 = .ok (.iload_n 1, 1) := by decide +kernel
theorem dX12_order_5 : decode cX12_order 5 = .ok (.iaload, 1) := by decide +kernel
theorem dX12_order_6 : decode cX12_order 6 = .ok (.aload_n 0, 1) := by decide +kernel
theorem dX12_order_7 : decode cX12_order 7 = .ok (.getfield 60, 3) := by decide +kernel
theorem dX12_order_10 : decode cX12_order 10 = .ok (.iload_n 2, 1) := by decide +kernel
theorem dX12_order_11 : decode cX12_order 11 = .ok (.iaload, 1) := by decide +kernel
theorem dX12_order_12 : decode cX12_order 12 = .ok (.if_icmp .eq 24, 3) := by decide +kernel
theorem dX12_order_15 : decode cX12_order 15 = .ok (.aload_n 0, 1) := by decide +kernel
theorem dX12_order_16 : decode cX12_order 16 = .ok (.getfield 48, 3) := by decide +kernel
theorem dX12_order_19 : decode cX12_order 19 = .ok (.iload_n 1, 1) := by decide +kernel
theorem dX12_order_20 : decode cX12_order 20 = .ok (.iaload, 1) := by decide +kernel
theorem dX12_order_21 : decode cX12_order 21 = .ok (.aload_n 0, 1) := by decide +kernel
theorem dX12_order_22 : decode cX12_order 22 = .ok (.getfield 60, 3) := by decide +kernel
theorem dX12_order_25 : decode cX12_order 25 = .ok (.iload_n 2, 1) := by decide +kernel
theorem dX12_order_26 : decode cX12_order 26 = .ok (.iaload, 1) := by decide +kernel
theorem dX12_order_27 : decode cX12_order 27 = .ok (.if_icmp .ge 7, 3) := by decide +kernel
theorem dX12_order_30 : decode cX12_order 30 = .ok (.iconst (-1), 1) := by decide +kernel
theorem dX12_order_31 : decode cX12_order 31 = .ok (.goto 4, 3) := by decide +kernel
theorem dX12_order_34 : decode cX12_order 34 = .ok (.iconst 1, 1) := by decide +kernel
theorem dX12_order_35 : decode cX12_order 35 = .ok (.ireturn, 1) := by decide +kernel
theorem dX12_order_36 : decode cX12_order 36 = .ok (.aload_n 0, 1) := by decide +kernel
theorem dX12_order_37 : decode cX12_order 37 = .ok (.getfield 54, 3) := by decide +kernel
theorem dX12_order_40 : decode cX12_order 40 = .ok (.iload_n 1, 1) := by decide +kernel
theorem dX12_order_41 : decode cX12_order 41 = .ok (.iaload, 1) := by decide +kernel
theorem dX12_order_42 : decode cX12_order 42 = .ok (.aload_n 0, 1) := by decide +kernel
theorem dX12_order_43 : decode cX12_order 43 = .ok (.getfield 66, 3) := by decide +kernel
theorem dX12_order_46 : decode cX12_order 46 = .ok (.iload_n 2, 1) := by decide +kernel
theorem dX12_order_47 : decode cX12_order 47 = .ok (.iaload, 1) := by decide +kernel
theorem dX12_order_48 : decode cX12_order 48 = .ok (.if_icmp .eq 24, 3) := by decide +kernel
theorem dX12_order_51 : decode cX12_order 51 = .ok (.aload_n 0, 1) := by decide +kernel
theorem dX12_order_52 : decode cX12_order 52 = .ok (.getfield 54, 3) := by decide +kernel
theorem dX12_order_55 : decode cX12_order 55 = .ok (.iload_n 1, 1) := by decide +kernel
theorem dX12_order_56 : decode cX12_order 56 = .ok (.iaload, 1) := by decide +kernel
theorem dX12_order_57 : decode cX12_order 57 = .ok (.aload_n 0, 1) := by decide +kernel
theorem dX12_order_58 : decode cX12_order 58 = .ok (.getfield 66, 3) := by decide +kernel
theorem dX12_order_61 : decode cX12_order 61 = .ok (.iload_n 2, 1) := by decide +kernel
theorem dX12_order_62 : decode cX12_order 62 = .ok (.iaload, 1) := by decide +kernel
theorem dX12_order_63 : decode cX12_order 63 = .ok (.if_icmp .ge 7, 3) := by decide +kernel
theorem dX12_order_66 : decode cX12_order 66 = .ok (.iconst (-1), 1) := by decide +kernel
theorem dX12_order_67 : decode cX12_order 67 = .ok (.goto 4, 3) := by decide +kernel
theorem dX12_order_70 : decode cX12_order 70 = .ok (.iconst 1, 1) := by decide +kernel
theorem dX12_order_71 : decode cX12_order 71 = .ok (.ireturn, 1) := by decide +kernel
theorem dX12_order_72 : decode cX12_order 72 = .ok (.aload_n 0, 1) := by decide +kernel
theorem dX12_order_73 : decode cX12_order 73 = .ok (.getfield 51, 3) := by decide +kernel
theorem dX12_order_76 : decode cX12_order 76 = .ok (.iload_n 1, 1) := by decide +kernel
theorem dX12_order_77 : decode cX12_order 77 = .ok (.iaload, 1) := by decide +kernel
theorem dX12_order_78 : decode cX12_order 78 = .ok (.aload_n 0, 1) := by decide +kernel
theorem dX12_order_79 : decode cX12_order 79 = .ok (.getfield 63, 3) := by decide +kernel
theorem dX12_order_82 : decode cX12_order 82 = .ok (.iload_n 2, 1) := by decide +kernel
theorem dX12_order_83 : decode cX12_order 83 = .ok (.iaload, 1) := by decide +kernel
theorem dX12_order_84 : decode cX12_order 84 = .ok (.if_icmp .eq 26, 3) := by decide +kernel
theorem dX12_order_87 : decode cX12_order 87 = .ok (.aload_n 0, 1) := by decide +kernel
theorem dX12_order_88 : decode cX12_order 88 = .ok (.getfield 51, 3) := by decide +kernel
theorem dX12_order_91 : decode cX12_order 91 = .ok (.iload_n 1, 1) := by decide +kernel
theorem dX12_order_92 : decode cX12_order 92 = .ok (.iaload, 1) := by decide +kernel
theorem dX12_order_93 : decode cX12_order 93 = .ok (.aload_n 0, 1) := by decide +kernel
theorem dX12_order_94 : decode cX12_order 94 = .ok (.getfield 63, 3) := by decide +kernel
theorem dX12_order_97 : decode cX12_order 97 = .ok (.iload_n 2, 1) := by decide +kernel
theorem dX12_order_98 : decode cX12_order 98 = .ok (.iaload, 1) := by decide +kernel
theorem dX12_order_99 : decode cX12_order 99 = .ok (.if_icmp .ge 7, 3) := by decide +kernel
theorem dX12_order_102 : decode cX12_order 102 = .ok (.iconst (-1), 1) := by decide +kernel
theorem dX12_order_103 : decode cX12_order 103 = .ok (.goto 8, 3) := by decide +kernel
theorem dX12_order_106 : decode cX12_order 106 = .ok (.iconst 1, 1) := by decide +kernel
theorem dX12_order_107 : decode cX12_order 107 = .ok (.goto 4, 3) := by decide +kernel
theorem dX12_order_110 : decode cX12_order 110 = .ok (.iconst 0, 1) := by decide +kernel
theorem dX12_order_111 : decode cX12_order 111 = .ok (.ireturn, 1) := by decide +kernel
theorem dX12_change_0 : decode cX12_change 0 = .ok (.aload_n 0, 1) := by decide +kernel
theorem dX12_change_1 : decode cX12_change 1 = .ok (.getfield 173, 3) := by decide +kernel
theorem dX12_change_4 : decode cX12_change 4 = .ok (.iconst 1, 1) := by decide +kernel
theorem dX12_change_5 : decode cX12_change 5 = .ok (.isub, 1) := by decide +kernel
theorem dX12_change_6 : decode cX12_change 6 = .ok (.istore_n 2, 1) := by decide +kernel
theorem dX12_change_7 : decode cX12_change 7 = .ok (.sipush 400, 3) := by decide +kernel
theorem dX12_change_10 : decode cX12_change 10 = .ok (.iload_n 2, 1) := by decide +kernel
theorem dX12_change_11 : decode cX12_change 11 = .ok (.imul, 1) := by decide +kernel
theorem dX12_change_12 : decode cX12_change 12 = .ok (.istore_n 3, 1) := by decide +kernel
theorem dX12_change_13 : decode cX12_change 13 = .ok (.sipush 400, 3) := by decide +kernel
theorem dX12_change_16 : decode cX12_change 16 = .ok (.iload_n 2, 1) := by decide +kernel
theorem dX12_change_17 : decode cX12_change 17 = .ok (.imul, 1) := by decide +kernel
theorem dX12_change_18 : decode cX12_change 18 = .ok (.istore 4, 2) := by decide +kernel
theorem dX12_change_20 : decode cX12_change 20 = .ok (.iload_n 3, 1) := by decide +kernel
theorem dX12_change_21 : decode cX12_change 21 = .ok (.sipush 400, 3) := by decide +kernel
theorem dX12_change_24 : decode cX12_change 24 = .ok (.iload_n 2, 1) := by decide +kernel
theorem dX12_change_25 : decode cX12_change 25 = .ok (.imul, 1) := by decide +kernel
theorem dX12_change_26 : decode cX12_change 26 = .ok (.aload_n 0, 1) := by decide +kernel
theorem dX12_change_27 : decode cX12_change 27 = .ok (.getfield 45, 3) := by decide +kernel
theorem dX12_change_30 : decode cX12_change 30 = .ok (.iload_n 2, 1) := by decide +kernel
theorem dX12_change_31 : decode cX12_change 31 = .ok (.iaload, 1) := by decide +kernel
theorem dX12_change_32 : decode cX12_change 32 = .ok (.iadd, 1) := by decide +kernel
theorem dX12_change_33 : decode cX12_change 33 = .ok (.if_icmp .lt 20, 3) := by decide +kernel
theorem dX12_change_36 : decode cX12_change 36 = .ok (.iload 4, 2) := by decide +kernel
theorem dX12_change_38 : decode cX12_change 38 = .ok (.sipush 400, 3) := by decide +kernel
theorem dX12_change_41 : decode cX12_change 41 = .ok (.iload_n 2, 1) := by decide +kernel
theorem dX12_change_42 : decode cX12_change 42 = .ok (.imul, 1) := by decide +kernel
theorem dX12_change_43 : decode cX12_change 43 = .ok (.aload_n 0, 1) := by decide +kernel
theorem dX12_change_44 : decode cX12_change 44 = .ok (.getfield 57, 3) := by decide +kernel
theorem dX12_change_47 : decode cX12_change 47 = .ok (.iload_n 2, 1) := by decide +kernel
theorem dX12_change_48 : decode cX12_change 48 = .ok (.iaload, 1) := by decide +kernel
theorem dX12_change_49 : decode cX12_change 49 = .ok (.iadd, 1) := by decide +kernel
theorem dX12_change_50 : decode cX12_change 50 = .ok (.if_icmp .ge 230, 3) := by decide +kernel
theorem dX12_change_53 : decode cX12_change 53 = .ok (.iload_n 3, 1) := by decide +kernel
theorem dX12_change_54 : decode cX12_change 54 = .ok (.sipush 400, 3) := by decide +kernel
theorem dX12_change_57 : decode cX12_change 57 = .ok (.iload_n 2, 1) := by decide +kernel
theorem dX12_change_58 : decode cX12_change 58 = .ok (.imul, 1) := by decide +kernel
theorem dX12_change_59 : decode cX12_change 59 = .ok (.aload_n 0, 1) := by decide +kernel
theorem dX12_change_60 : decode cX12_change 60 = .ok (.getfield 45, 3) := by decide +kernel
theorem dX12_change_63 : decode cX12_change 63 = .ok (.iload_n 2, 1) := by decide +kernel
theorem dX12_change_64 : decode cX12_change 64 = .ok (.iaload, 1) := by decide +kernel
theorem dX12_change_65 : decode cX12_change 65 = .ok (.iadd, 1) := by decide +kernel
theorem dX12_change_66 : decode cX12_change 66 = .ok (.if_icmp .ne 7, 3) := by decide +kernel
theorem dX12_change_69 : decode cX12_change 69 = .ok (.iconst 1, 1) := by decide +kernel
theorem dX12_change_70 : decode cX12_change 70 = .ok (.goto 31, 3) := by decide +kernel
theorem dX12_change_73 : decode cX12_change 73 = .ok (.iload 4, 2) := by decide +kernel
theorem dX12_change_75 : decode cX12_change 75 = .ok (.sipush 400, 3) := by decide +kernel
theorem dX12_change_78 : decode cX12_change 78 = .ok (.iload_n 2, 1) := by decide +kernel
theorem dX12_change_79 : decode cX12_change 79 = .ok (.imul, 1) := by decide +kernel
theorem dX12_change_80 : decode cX12_change 80 = .ok (.aload_n 0, 1) := by decide +kernel
theorem dX12_change_81 : decode cX12_change 81 = .ok (.getfield 57, 3) := by decide +kernel
theorem dX12_change_84 : decode cX12_change 84 = .ok (.iload_n 2, 1) := by decide +kernel
theorem dX12_change_85 : decode cX12_change 85 = .ok (.iaload, 1) := by decide +kernel
theorem dX12_change_86 : decode cX12_change 86 = .ok (.iadd, 1) := by decide +kernel
theorem dX12_change_87 : decode cX12_change 87 = .ok (.if_icmp .ne 7, 3) := by decide +kernel
theorem dX12_change_90 : decode cX12_change 90 = .ok (.iconst (-1), 1) := by decide +kernel
theorem dX12_change_91 : decode cX12_change 91 = .ok (.goto 10, 3) := by decide +kernel
theorem dX12_change_94 : decode cX12_change 94 = .ok (.aload_n 0, 1) := by decide +kernel
theorem dX12_change_95 : decode cX12_change 95 = .ok (.iload_n 3, 1) := by decide +kernel
theorem dX12_change_96 : decode cX12_change 96 = .ok (.iload 4, 2) := by decide +kernel
theorem dX12_change_98 : decode cX12_change 98 = .ok (.invokevirtual 180, 3) := by decide +kernel
theorem dX12_change_101 : decode cX12_change 101 = .ok (.istore 5, 2) := by decide +kernel
theorem dX12_change_103 : decode cX12_change 103 = .ok (.iload 5, 2) := by decide +kernel
theorem dX12_change_105 : decode cX12_change 105 = .ok (.ifCond .eq 144, 3) := by decide +kernel
theorem dX12_change_108 : decode cX12_change 108 = .ok (.iload 5, 2) := by decide +kernel
theorem dX12_change_110 : decode cX12_change 110 = .ok (.ifCond .ge 7, 3) := by decide +kernel
theorem dX12_change_113 : decode cX12_change 113 = .ok (.iconst 1, 1) := by decide +kernel
theorem dX12_change_114 : decode cX12_change 114 = .ok (.goto 4, 3) := by decide +kernel
theorem dX12_change_117 : decode cX12_change 117 = .ok (.iconst 0, 1) := by decide +kernel
theorem dX12_change_118 : decode cX12_change 118 = .ok (.iload_n 1, 1) := by decide +kernel
theorem dX12_change_119 : decode cX12_change 119 = .ok (.ifCond .ge 7, 3) := by decide +kernel
theorem dX12_change_122 : decode cX12_change 122 = .ok (.iconst 1, 1) := by decide +kernel
theorem dX12_change_123 : decode cX12_change 123 = .ok (.goto 4, 3) := by decide +kernel
theorem dX12_change_126 : decode cX12_change 126 = .ok (.iconst 0, 1) := by decide +kernel
theorem dX12_change_127 : decode cX12_change 127 = .ok (.if_icmp .ne 122, 3) := by decide +kernel
theorem dX12_change_130 : decode cX12_change 130 = .ok (.aload_n 0, 1) := by decide +kernel
theorem dX12_change_131 : decode cX12_change 131 = .ok (.getfield 184, 3) := by decide +kernel
theorem dX12_change_134 : decode cX12_change 134 = .ok (.sipush 4000, 3) := by decide +kernel
theorem dX12_change_137 : decode cX12_change 137 = .ok (.if_icmp .ne 5, 3) := by decide +kernel
theorem dX12_change_140 : decode cX12_change 140 = .ok (.iconst 0, 1) := by decide +kernel
theorem dX12_change_141 : decode cX12_change 141 = .ok (.ireturn, 1) := by decide +kernel
theorem dX12_change_142 : decode cX12_change 142 = .ok (.aload_n 0, 1) := by decide +kernel
theorem dX12_change_143 : decode cX12_change 143 = .ok (.getfield 69, 3) := by decide +kernel
theorem dX12_change_146 : decode cX12_change 146 = .ok (.aload_n 0, 1) := by decide +kernel
theorem dX12_change_147 : decode cX12_change 147 = .ok (.getfield 184, 3) := by decide +kernel
theorem dX12_change_150 : decode cX12_change 150 = .ok (.iload_n 1, 1) := by decide +kernel
theorem dX12_change_151 : decode cX12_change 151 = .ok (.ifCond .ge 12, 3) := by decide +kernel
theorem dX12_change_154 : decode cX12_change 154 = .ok (.aload_n 0, 1) := by decide +kernel
theorem dX12_change_155 : decode cX12_change 155 = .ok (.getfield 48, 3) := by decide +kernel
theorem dX12_change_158 : decode cX12_change 158 = .ok (.iload_n 3, 1) := by decide +kernel
theorem dX12_change_159 : decode cX12_change 159 = .ok (.iaload, 1) := by decide +kernel
theorem dX12_change_160 : decode cX12_change 160 = .ok (.goto 10, 3) := by decide +kernel
theorem dX12_change_163 : decode cX12_change 163 = .ok (.aload_n 0, 1) := by decide +kernel
theorem dX12_change_164 : decode cX12_change 164 = .ok (.getfield 60, 3) := by decide +kernel
theorem dX12_change_167 : decode cX12_change 167 = .ok (.iload 4, 2) := by decide +kernel
theorem dX12_change_169 : decode cX12_change 169 = .ok (.iaload, 1) := by decide +kernel
theorem dX12_change_170 : decode cX12_change 170 = .ok (.iastore, 1) := by decide +kernel
theorem dX12_change_171 : decode cX12_change 171 = .ok (.aload_n 0, 1) := by decide +kernel
theorem dX12_change_172 : decode cX12_change 172 = .ok (.getfield 72, 3) := by decide +kernel
theorem dX12_change_175 : decode cX12_change 175 = .ok (.aload_n 0, 1) := by decide +kernel
theorem dX12_change_176 : decode cX12_change 176 = .ok (.getfield 184, 3) := by decide +kernel
theorem dX12_change_179 : decode cX12_change 179 = .ok (.iload_n 1, 1) := by decide +kernel
theorem dX12_change_180 : decode cX12_change 180 = .ok (.ifCond .ge 12, 3) := by decide +kernel
theorem dX12_change_183 : decode cX12_change 183 = .ok (.aload_n 0, 1) := by decide +kernel
theorem dX12_change_184 : decode cX12_change 184 = .ok (.getfield 51, 3) := by decide +kernel
theorem dX12_change_187 : decode cX12_change 187 = .ok (.iload_n 3, 1) := by decide +kernel
theorem dX12_change_188 : decode cX12_change 188 = .ok (.iaload, 1) := by decide +kernel
theorem dX12_change_189 : decode cX12_change 189 = .ok (.goto 10, 3) := by decide +kernel
theorem dX12_change_192 : decode cX12_change 192 = .ok (.aload_n 0, 1) := by decide +kernel
theorem dX12_change_193 : decode cX12_change 193 = .ok (.getfield 63, 3) := by decide +kernel
theorem dX12_change_196 : decode cX12_change 196 = .ok (.iload 4, 2) := by decide +kernel
theorem dX12_change_198 : decode cX12_change 198 = .ok (.iaload, 1) := by decide +kernel
theorem dX12_change_199 : decode cX12_change 199 = .ok (.iastore, 1) := by decide +kernel
theorem dX12_change_200 : decode cX12_change 200 = .ok (.aload_n 0, 1) := by decide +kernel
theorem dX12_change_201 : decode cX12_change 201 = .ok (.getfield 75, 3) := by decide +kernel
theorem dX12_change_204 : decode cX12_change 204 = .ok (.aload_n 0, 1) := by decide +kernel
theorem dX12_change_205 : decode cX12_change 205 = .ok (.getfield 184, 3) := by decide +kernel
theorem dX12_change_208 : decode cX12_change 208 = .ok (.iload_n 1, 1) := by decide +kernel
theorem dX12_change_209 : decode cX12_change 209 = .ok (.ifCond .ge 12, 3) := by decide +kernel
theorem dX12_change_212 : decode cX12_change 212 = .ok (.aload_n 0, 1) := by decide +kernel
theorem dX12_change_213 : decode cX12_change 213 = .ok (.getfield 54, 3) := by decide +kernel
theorem dX12_change_216 : decode cX12_change 216 = .ok (.iload_n 3, 1) := by decide +kernel
theorem dX12_change_217 : decode cX12_change 217 = .ok (.iaload, 1) := by decide +kernel
theorem dX12_change_218 : decode cX12_change 218 = .ok (.goto 10, 3) := by decide +kernel
theorem dX12_change_221 : decode cX12_change 221 = .ok (.aload_n 0, 1) := by decide +kernel
theorem dX12_change_222 : decode cX12_change 222 = .ok (.getfield 66, 3) := by decide +kernel
theorem dX12_change_225 : decode cX12_change 225 = .ok (.iload 4, 2) := by decide +kernel
theorem dX12_change_227 : decode cX12_change 227 = .ok (.iaload, 1) := by decide +kernel
theorem dX12_change_228 : decode cX12_change 228 = .ok (.iastore, 1) := by decide +kernel
theorem dX12_change_229 : decode cX12_change 229 = .ok (.aload_n 0, 1) := by decide +kernel
theorem dX12_change_230 : decode cX12_change 230 = .ok (.getfield 78, 3) := by decide +kernel
theorem dX12_change_233 : decode cX12_change 233 = .ok (.aload_n 0, 1) := by decide +kernel
theorem dX12_change_234 : decode cX12_change 234 = .ok (.getfield 184, 3) := by decide +kernel
theorem dX12_change_237 : decode cX12_change 237 = .ok (.iload_n 1, 1) := by decide +kernel
theorem dX12_change_238 : decode cX12_change 238 = .ok (.iastore, 1) := by decide +kernel
theorem dX12_change_239 : decode cX12_change 239 = .ok (.aload_n 0, 1) := by decide +kernel
theorem dX12_change_240 : decode cX12_change 240 = .ok (.dup, 1) := by decide +kernel
theorem dX12_change_241 : decode cX12_change 241 = .ok (.getfield 184, 3) := by decide +kernel
theorem dX12_change_244 : decode cX12_change 244 = .ok (.iconst 1, 1) := by decide +kernel
theorem dX12_change_245 : decode cX12_change 245 = .ok (.iadd, 1) := by decide +kernel
theorem dX12_change_246 : decode cX12_change 246 = .ok (.putfield 184, 3) := by decide +kernel
theorem dX12_change_249 : decode cX12_change 249 = .ok (.iload_n 3, 1) := by decide +kernel
theorem dX12_change_250 : decode cX12_change 250 = .ok (.iload 5, 2) := by decide +kernel
theorem dX12_change_252 : decode cX12_change 252 = .ok (.ifCond .gt 7, 3) := by decide +kernel
theorem dX12_change_255 : decode cX12_change 255 = .ok (.iconst 1, 1) := by decide +kernel
theorem dX12_change_256 : decode cX12_change 256 = .ok (.goto 4, 3) := by decide +kernel
theorem dX12_change_259 : decode cX12_change 259 = .ok (.iconst 0, 1) := by decide +kernel
theorem dX12_change_260 : decode cX12_change 260 = .ok (.iadd, 1) := by decide +kernel
theorem dX12_change_261 : decode cX12_change 261 = .ok (.istore_n 3, 1) := by decide +kernel
theorem dX12_change_262 : decode cX12_change 262 = .ok (.iload 4, 2) := by decide +kernel
theorem dX12_change_264 : decode cX12_change 264 = .ok (.iload 5, 2) := by decide +kernel
theorem dX12_change_266 : decode cX12_change 266 = .ok (.ifCond .lt 7, 3) := by decide +kernel
theorem dX12_change_269 : decode cX12_change 269 = .ok (.iconst 1, 1) := by decide +kernel
theorem dX12_change_270 : decode cX12_change 270 = .ok (.goto 4, 3) := by decide +kernel
theorem dX12_change_273 : decode cX12_change 273 = .ok (.iconst 0, 1) := by decide +kernel
theorem dX12_change_274 : decode cX12_change 274 = .ok (.iadd, 1) := by decide +kernel
theorem dX12_change_275 : decode cX12_change 275 = .ok (.istore 4, 2) := by decide +kernel
theorem dX12_change_277 : decode cX12_change 277 = .ok (.goto (-257), 3) := by decide +kernel
theorem dX12_change_280 : decode cX12_change 280 = .ok (.iconst 1, 1) := by decide +kernel
theorem dX12_change_281 : decode cX12_change 281 = .ok (.ireturn, 1) := by decide +kernel
theorem dX12_readOne_0 : decode cX12_readOne 0 = .ok (.aload_n 0, 1) := by decide +kernel
theorem dX12_readOne_1 : decode cX12_readOne 1 = .ok (.getfield 187, 3) := by decide +kernel
theorem dX12_readOne_4 : decode cX12_readOne 4 = .ok (.istore_n 1, 1) := by decide +kernel
theorem dX12_readOne_5 : decode cX12_readOne 5 = .ok (.aload_n 0, 1) := by decide +kernel
theorem dX12_readOne_6 : decode cX12_readOne 6 = .ok (.getfield 22, 3) := by decide +kernel
theorem dX12_readOne_9 : decode cX12_readOne 9 = .ok (.iload_n 1, 1) := by decide +kernel
theorem dX12_readOne_10 : decode cX12_readOne 10 = .ok (.aload_n 0, 1) := by decide +kernel
theorem dX12_readOne_11 : decode cX12_readOne 11 = .ok (.getfield 26, 3) := by decide +kernel
theorem dX12_readOne_14 : decode cX12_readOne 14 = .ok (.iconst (-1), 1) := by decide +kernel
theorem dX12_readOne_15 : decode cX12_readOne 15 = .ok (.if_icmp .eq 26, 3) := by decide +kernel
theorem dX12_readOne_18 : decode cX12_readOne 18 = .ok (.aload_n 0, 1) := by decide +kernel
theorem dX12_readOne_19 : decode cX12_readOne 19 = .ok (.getfield 19, 3) := by decide +kernel
theorem dX12_readOne_22 : decode cX12_readOne 22 = .ok (.iload_n 1, 1) := by decide +kernel
theorem dX12_readOne_23 : decode cX12_readOne 23 = .ok (.iaload, 1) := by decide +kernel
theorem dX12_readOne_24 : decode cX12_readOne 24 = .ok (.aload_n 0, 1) := by decide +kernel
theorem dX12_readOne_25 : decode cX12_readOne 25 = .ok (.iload_n 1, 1) := by decide +kernel
theorem dX12_readOne_26 : decode cX12_readOne 26 = .ok (.invokevirtual 190, 3) := by decide +kernel
theorem dX12_readOne_29 : decode cX12_readOne 29 = .ok (.aload_n 0, 1) := by decide +kernel
theorem dX12_readOne_30 : decode cX12_readOne 30 = .ok (.getfield 26, 3) := by decide +kernel
theorem dX12_readOne_33 : decode cX12_readOne 33 = .ok (.isub, 1) := by decide +kernel
theorem dX12_readOne_34 : decode cX12_readOne 34 = .ok (.if_icmp .ge 7, 3) := by decide +kernel
theorem dX12_readOne_37 : decode cX12_readOne 37 = .ok (.iconst 1, 1) := by decide +kernel
theorem dX12_readOne_38 : decode cX12_readOne 38 = .ok (.goto 4, 3) := by decide +kernel
theorem dX12_readOne_41 : decode cX12_readOne 41 = .ok (.iconst 0, 1) := by decide +kernel
theorem dX12_readOne_42 : decode cX12_readOne 42 = .ok (.bastore, 1) := by decide +kernel
theorem dX12_readOne_43 : decode cX12_readOne 43 = .ok (.aload_n 0, 1) := by decide +kernel
theorem dX12_readOne_44 : decode cX12_readOne 44 = .ok (.iload_n 1, 1) := by decide +kernel
theorem dX12_readOne_45 : decode cX12_readOne 45 = .ok (.iconst 1, 1) := by decide +kernel
theorem dX12_readOne_46 : decode cX12_readOne 46 = .ok (.iadd, 1) := by decide +kernel
theorem dX12_readOne_47 : decode cX12_readOne 47 = .ok (.invokevirtual 193, 3) := by decide +kernel
theorem dX12_readOne_50 : decode cX12_readOne 50 = .ok (.ifCond .ne 5, 3) := by decide +kernel
theorem dX12_readOne_53 : decode cX12_readOne 53 = .ok (.iconst 0, 1) := by decide +kernel
theorem dX12_readOne_54 : decode cX12_readOne 54 = .ok (.ireturn, 1) := by decide +kernel
theorem dX12_readOne_55 : decode cX12_readOne 55 = .ok (.aload_n 0, 1) := by decide +kernel
theorem dX12_readOne_56 : decode cX12_readOne 56 = .ok (.getfield 184, 3) := by decide +kernel
theorem dX12_readOne_59 : decode cX12_readOne 59 = .ok (.istore_n 2, 1) := by decide +kernel
theorem dX12_readOne_60 : decode cX12_readOne 60 = .ok (.aload_n 0, 1) := by decide +kernel
theorem dX12_readOne_61 : decode cX12_readOne 61 = .ok (.iconst (-1), 1) := by decide +kernel
theorem dX12_readOne_62 : decode cX12_readOne 62 = .ok (.invokevirtual 197, 3) := by decide +kernel
theorem dX12_readOne_65 : decode cX12_readOne 65 = .ok (.ifCond .eq 11, 3) := by decide +kernel
theorem dX12_readOne_68 : decode cX12_readOne 68 = .ok (.aload_n 0, 1) := by decide +kernel
theorem dX12_readOne_69 : decode cX12_readOne 69 = .ok (.iconst 1, 1) := by decide +kernel
theorem dX12_readOne_70 : decode cX12_readOne 70 = .ok (.invokevirtual 197, 3) := by decide +kernel
theorem dX12_readOne_73 : decode cX12_readOne 73 = .ok (.ifCond .ne 10, 3) := by decide +kernel
theorem dX12_readOne_76 : decode cX12_readOne 76 = .ok (.aload_n 0, 1) := by decide +kernel
theorem dX12_readOne_77 : decode cX12_readOne 77 = .ok (.iload_n 2, 1) := by decide +kernel
theorem dX12_readOne_78 : decode cX12_readOne 78 = .ok (.putfield 184, 3) := by decide +kernel
theorem dX12_readOne_81 : decode cX12_readOne 81 = .ok (.iconst 0, 1) := by decide +kernel
theorem dX12_readOne_82 : decode cX12_readOne 82 = .ok (.ireturn, 1) := by decide +kernel
theorem dX12_readOne_83 : decode cX12_readOne 83 = .ok (.aload_n 0, 1) := by decide +kernel
theorem dX12_readOne_84 : decode cX12_readOne 84 = .ok (.invokevirtual 200, 3) := by decide +kernel
theorem dX12_readOne_87 : decode cX12_readOne 87 = .ok (.aload_n 0, 1) := by decide +kernel
theorem dX12_readOne_88 : decode cX12_readOne 88 = .ok (.dup, 1) := by decide +kernel
theorem dX12_readOne_89 : decode cX12_readOne 89 = .ok (.getfield 187, 3) := by decide +kernel
theorem dX12_readOne_92 : decode cX12_readOne 92 = .ok (.iconst 1, 1) := by decide +kernel
theorem dX12_readOne_93 : decode cX12_readOne 93 = .ok (.iadd, 1) := by decide +kernel
theorem dX12_readOne_94 : decode cX12_readOne 94 = .ok (.putfield 187, 3) := by decide +kernel
theorem dX12_readOne_97 : decode cX12_readOne 97 = .ok (.iconst 1, 1) := by decide +kernel
theorem dX12_readOne_98 : decode cX12_readOne 98 = .ok (.ireturn, 1) := by decide +kernel
theorem dX12_read_0 : decode cX12_read 0 = .ok (.aload_n 0, 1) := by decide +kernel
theorem dX12_read_1 : decode cX12_read 1 = .ok (.iconst 0, 1) := by decide +kernel
theorem dX12_read_2 : decode cX12_read 2 = .ok (.putfield 120, 3) := by decide +kernel
theorem dX12_read_5 : decode cX12_read 5 = .ok (.iload_n 1, 1) := by decide +kernel
theorem dX12_read_6 : decode cX12_read 6 = .ok (.i2l, 1) := by decide +kernel
theorem dX12_read_7 : decode cX12_read 7 = .ok (.lconst 0, 1) := by decide +kernel
theorem dX12_read_8 : decode cX12_read 8 = .ok (.ldc2_w 203, 3) := by decide +kernel
theorem dX12_read_11 : decode cX12_read 11 = .ok (.invokestatic 128, 3) := by decide +kernel
theorem dX12_read_14 : decode cX12_read 14 = .ok (.ifCond .ne 9, 3) := by decide +kernel
theorem dX12_read_17 : decode cX12_read 17 = .ok (.aload_n 0, 1) := by decide +kernel
theorem dX12_read_18 : decode cX12_read 18 = .ok (.iconst (-1), 1) := by decide +kernel
theorem dX12_read_19 : decode cX12_read 19 = .ok (.invokevirtual 140, 3) := by decide +kernel
theorem dX12_read_22 : decode cX12_read 22 = .ok (.ireturn, 1) := by decide +kernel
theorem dX12_read_23 : decode cX12_read 23 = .ok (.aload_n 0, 1) := by decide +kernel
theorem dX12_read_24 : decode cX12_read 24 = .ok (.getfield 173, 3) := by decide +kernel
theorem dX12_read_27 : decode cX12_read 27 = .ok (.ifCond .ne 10, 3) := by decide +kernel
theorem dX12_read_30 : decode cX12_read 30 = .ok (.aload_n 0, 1) := by decide +kernel
theorem dX12_read_31 : decode cX12_read 31 = .ok (.bipush (-6), 2) := by decide +kernel
theorem dX12_read_33 : decode cX12_read 33 = .ok (.invokevirtual 140, 3) := by decide +kernel
theorem dX12_read_36 : decode cX12_read 36 = .ok (.ireturn, 1) := by decide +kernel
theorem dX12_read_37 : decode cX12_read 37 = .ok (.iconst 0, 1) := by decide +kernel
theorem dX12_read_38 : decode cX12_read 38 = .ok (.istore_n 2, 1) := by decide +kernel
theorem dX12_read_39 : decode cX12_read 39 = .ok (.iconst 1, 1) := by decide +kernel
theorem dX12_read_40 : decode cX12_read 40 = .ok (.istore_n 3, 1) := by decide +kernel
theorem dX12_read_41 : decode cX12_read 41 = .ok (.iload_n 2, 1) := by decide +kernel
theorem dX12_read_42 : decode cX12_read 42 = .ok (.iload_n 1, 1) := by decide +kernel
theorem dX12_read_43 : decode cX12_read 43 = .ok (.if_icmp .ge 38, 3) := by decide +kernel
theorem dX12_read_46 : decode cX12_read 46 = .ok (.aload_n 0, 1) := by decide +kernel
theorem dX12_read_47 : decode cX12_read 47 = .ok (.getfield 187, 3) := by decide +kernel
theorem dX12_read_50 : decode cX12_read 50 = .ok (.aload_n 0, 1) := by decide +kernel
theorem dX12_read_51 : decode cX12_read 51 = .ok (.getfield 144, 3) := by decide +kernel
theorem dX12_read_54 : decode cX12_read 54 = .ok (.if_icmp .ge 27, 3) := by decide +kernel
theorem dX12_read_57 : decode cX12_read 57 = .ok (.iload_n 3, 1) := by decide +kernel
theorem dX12_read_58 : decode cX12_read 58 = .ok (.ifCond .eq 23, 3) := by decide +kernel
theorem dX12_read_61 : decode cX12_read 61 = .ok (.aload_n 0, 1) := by decide +kernel
theorem dX12_read_62 : decode cX12_read 62 = .ok (.invokevirtual 205, 3) := by decide +kernel
theorem dX12_read_65 : decode cX12_read 65 = .ok (.istore_n 3, 1) := by decide +kernel
theorem dX12_read_66 : decode cX12_read 66 = .ok (.iload_n 2, 1) := by decide +kernel
theorem dX12_read_67 : decode cX12_read 67 = .ok (.iload_n 3, 1) := by decide +kernel
theorem dX12_read_68 : decode cX12_read 68 = .ok (.ifCond .eq 7, 3) := by decide +kernel
theorem dX12_read_71 : decode cX12_read 71 = .ok (.iconst 1, 1) := by decide +kernel
theorem dX12_read_72 : decode cX12_read 72 = .ok (.goto 4, 3) := by decide +kernel
theorem dX12_read_75 : decode cX12_read 75 = .ok (.iconst 0, 1) := by decide +kernel
theorem dX12_read_76 : decode cX12_read 76 = .ok (.iadd, 1) := by decide +kernel
theorem dX12_read_77 : decode cX12_read 77 = .ok (.istore_n 2, 1) := by decide +kernel
theorem dX12_read_78 : decode cX12_read 78 = .ok (.goto (-37), 3) := by decide +kernel
theorem dX12_read_81 : decode cX12_read 81 = .ok (.aload_n 0, 1) := by decide +kernel
theorem dX12_read_82 : decode cX12_read 82 = .ok (.iload_n 3, 1) := by decide +kernel
theorem dX12_read_83 : decode cX12_read 83 = .ok (.ifCond .eq 7, 3) := by decide +kernel
theorem dX12_read_86 : decode cX12_read 86 = .ok (.iconst 0, 1) := by decide +kernel
theorem dX12_read_87 : decode cX12_read 87 = .ok (.goto 5, 3) := by decide +kernel
theorem dX12_read_90 : decode cX12_read 90 = .ok (.bipush (-5), 2) := by decide +kernel
theorem dX12_read_92 : decode cX12_read 92 = .ok (.putfield 123, 3) := by decide +kernel
theorem dX12_read_95 : decode cX12_read 95 = .ok (.iload_n 2, 1) := by decide +kernel
theorem dX12_read_96 : decode cX12_read 96 = .ok (.ireturn, 1) := by decide +kernel
theorem dX12_goTo_0 : decode cX12_goTo 0 = .ok (.aload_n 0, 1) := by decide +kernel
theorem dX12_goTo_1 : decode cX12_goTo 1 = .ok (.iload_n 1, 1) := by decide +kernel
theorem dX12_goTo_2 : decode cX12_goTo 2 = .ok (.putfield 187, 3) := by decide +kernel
theorem dX12_goTo_5 : decode cX12_goTo 5 = .ok (.aload_n 0, 1) := by decide +kernel
theorem dX12_goTo_6 : decode cX12_goTo 6 = .ok (.iconst 0, 1) := by decide +kernel
theorem dX12_goTo_7 : decode cX12_goTo 7 = .ok (.putfield 184, 3) := by decide +kernel
theorem dX12_goTo_10 : decode cX12_goTo 10 = .ok (.aload_n 0, 1) := by decide +kernel
theorem dX12_goTo_11 : decode cX12_goTo 11 = .ok (.iload_n 1, 1) := by decide +kernel
theorem dX12_goTo_12 : decode cX12_goTo 12 = .ok (.invokevirtual 193, 3) := by decide +kernel
theorem dX12_goTo_15 : decode cX12_goTo 15 = .ok (.pop, 1) := by decide +kernel
theorem dX12_goTo_16 : decode cX12_goTo 16 = .ok (.aload_n 0, 1) := by decide +kernel
theorem dX12_goTo_17 : decode cX12_goTo 17 = .ok (.invokevirtual 200, 3) := by decide +kernel
theorem dX12_goTo_20 : decode cX12_goTo 20 = .ok (.return_, 1) := by decide +kernel
theorem dX12_begin_0 : decode cX12_begin 0 = .ok (.aload_n 0, 1) := by decide +kernel
theorem dX12_begin_1 : decode cX12_begin 1 = .ok (.iconst 0, 1) := by decide +kernel
theorem dX12_begin_2 : decode cX12_begin 2 = .ok (.putfield 209, 3) := by decide +kernel
theorem dX12_begin_5 : decode cX12_begin 5 = .ok (.aload_n 0, 1) := by decide +kernel
theorem dX12_begin_6 : decode cX12_begin 6 = .ok (.iconst 0, 1) := by decide +kernel
theorem dX12_begin_7 : decode cX12_begin 7 = .ok (.putfield 212, 3) := by decide +kernel
theorem dX12_begin_10 : decode cX12_begin 10 = .ok (.aload_n 0, 1) := by decide +kernel
theorem dX12_begin_11 : decode cX12_begin 11 = .ok (.iconst 0, 1) := by decide +kernel
theorem dX12_begin_12 : decode cX12_begin 12 = .ok (.invokevirtual 215, 3) := by decide +kernel
theorem dX12_begin_15 : decode cX12_begin 15 = .ok (.return_, 1) := by decide +kernel
theorem dX12_mark_0 : decode cX12_mark 0 = .ok (.aload_n 0, 1) := by decide +kernel
theorem dX12_mark_1 : decode cX12_mark 1 = .ok (.iconst 0, 1) := by decide +kernel
theorem dX12_mark_2 : decode cX12_mark 2 = .ok (.putfield 120, 3) := by decide +kernel
theorem dX12_mark_5 : decode cX12_mark 5 = .ok (.aload_n 0, 1) := by decide +kernel
theorem dX12_mark_6 : decode cX12_mark 6 = .ok (.getfield 173, 3) := by decide +kernel
theorem dX12_mark_9 : decode cX12_mark 9 = .ok (.ifCond .ne 10, 3) := by decide +kernel
theorem dX12_mark_12 : decode cX12_mark 12 = .ok (.aload_n 0, 1) := by decide +kernel
theorem dX12_mark_13 : decode cX12_mark 13 = .ok (.bipush (-6), 2) := by decide +kernel
theorem dX12_mark_15 : decode cX12_mark 15 = .ok (.invokevirtual 140, 3) := by decide +kernel
theorem dX12_mark_18 : decode cX12_mark 18 = .ok (.ireturn, 1) := by decide +kernel
theorem dX12_mark_19 : decode cX12_mark 19 = .ok (.aload_n 0, 1) := by decide +kernel
theorem dX12_mark_20 : decode cX12_mark 20 = .ok (.getfield 212, 3) := by decide +kernel
theorem dX12_mark_23 : decode cX12_mark 23 = .ok (.aload_n 0, 1) := by decide +kernel
theorem dX12_mark_24 : decode cX12_mark 24 = .ok (.getfield 184, 3) := by decide +kernel
theorem dX12_mark_27 : decode cX12_mark 27 = .ok (.iadd, 1) := by decide +kernel
theorem dX12_mark_28 : decode cX12_mark 28 = .ok (.sipush 4000, 3) := by decide +kernel
theorem dX12_mark_31 : decode cX12_mark 31 = .ok (.if_icmp .le 10, 3) := by decide +kernel
theorem dX12_mark_34 : decode cX12_mark 34 = .ok (.aload_n 0, 1) := by decide +kernel
theorem dX12_mark_35 : decode cX12_mark 35 = .ok (.bipush (-5), 2) := by decide +kernel
theorem dX12_mark_37 : decode cX12_mark 37 = .ok (.invokevirtual 140, 3) := by decide +kernel
theorem dX12_mark_40 : decode cX12_mark 40 = .ok (.ireturn, 1) := by decide +kernel
theorem dX12_mark_41 : decode cX12_mark 41 = .ok (.iconst 0, 1) := by decide +kernel
theorem dX12_mark_42 : decode cX12_mark 42 = .ok (.istore_n 1, 1) := by decide +kernel
theorem dX12_mark_43 : decode cX12_mark 43 = .ok (.iload_n 1, 1) := by decide +kernel
theorem dX12_mark_44 : decode cX12_mark 44 = .ok (.aload_n 0, 1) := by decide +kernel
theorem dX12_mark_45 : decode cX12_mark 45 = .ok (.getfield 184, 3) := by decide +kernel
theorem dX12_mark_48 : decode cX12_mark 48 = .ok (.if_icmp .ge 79, 3) := by decide +kernel
theorem dX12_mark_51 : decode cX12_mark 51 = .ok (.aload_n 0, 1) := by decide +kernel
theorem dX12_mark_52 : decode cX12_mark 52 = .ok (.getfield 81, 3) := by decide +kernel
theorem dX12_mark_55 : decode cX12_mark 55 = .ok (.aload_n 0, 1) := by decide +kernel
theorem dX12_mark_56 : decode cX12_mark 56 = .ok (.getfield 212, 3) := by decide +kernel
theorem dX12_mark_59 : decode cX12_mark 59 = .ok (.aload_n 0, 1) := by decide +kernel
theorem dX12_mark_60 : decode cX12_mark 60 = .ok (.getfield 69, 3) := by decide +kernel
theorem dX12_mark_63 : decode cX12_mark 63 = .ok (.iload_n 1, 1) := by decide +kernel
theorem dX12_mark_64 : decode cX12_mark 64 = .ok (.iaload, 1) := by decide +kernel
theorem dX12_mark_65 : decode cX12_mark 65 = .ok (.iastore, 1) := by decide +kernel
theorem dX12_mark_66 : decode cX12_mark 66 = .ok (.aload_n 0, 1) := by decide +kernel
theorem dX12_mark_67 : decode cX12_mark 67 = .ok (.getfield 84, 3) := by decide +kernel
theorem dX12_mark_70 : decode cX12_mark 70 = .ok (.aload_n 0, 1) := by decide +kernel
theorem dX12_mark_71 : decode cX12_mark 71 = .ok (.getfield 212, 3) := by decide +kernel
theorem dX12_mark_74 : decode cX12_mark 74 = .ok (.aload_n 0, 1) := by decide +kernel
theorem dX12_mark_75 : decode cX12_mark 75 = .ok (.getfield 72, 3) := by decide +kernel
theorem dX12_mark_78 : decode cX12_mark 78 = .ok (.iload_n 1, 1) := by decide +kernel
theorem dX12_mark_79 : decode cX12_mark 79 = .ok (.iaload, 1) := by decide +kernel
theorem dX12_mark_80 : decode cX12_mark 80 = .ok (.iastore, 1) := by decide +kernel
theorem dX12_mark_81 : decode cX12_mark 81 = .ok (.aload_n 0, 1) := by decide +kernel
theorem dX12_mark_82 : decode cX12_mark 82 = .ok (.getfield 87, 3) := by decide +kernel
theorem dX12_mark_85 : decode cX12_mark 85 = .ok (.aload_n 0, 1) := by decide +kernel
theorem dX12_mark_86 : decode cX12_mark 86 = .ok (.getfield 212, 3) := by decide +kernel
theorem dX12_mark_89 : decode cX12_mark 89 = .ok (.aload_n 0, 1) := by decide +kernel
theorem dX12_mark_90 : decode cX12_mark 90 = .ok (.getfield 75, 3) := by decide +kernel
theorem dX12_mark_93 : decode cX12_mark 93 = .ok (.iload_n 1, 1) := by decide +kernel
theorem dX12_mark_94 : decode cX12_mark 94 = .ok (.iaload, 1) := by decide +kernel
theorem dX12_mark_95 : decode cX12_mark 95 = .ok (.iastore, 1) := by decide +kernel
theorem dX12_mark_96 : decode cX12_mark 96 = .ok (.aload_n 0, 1) := by decide +kernel
theorem dX12_mark_97 : decode cX12_mark 97 = .ok (.getfield 90, 3) := by decide +kernel
theorem dX12_mark_100 : decode cX12_mark 100 = .ok (.aload_n 0, 1) := by decide +kernel
theorem dX12_mark_101 : decode cX12_mark 101 = .ok (.getfield 212, 3) := by decide +kernel
theorem dX12_mark_104 : decode cX12_mark 104 = .ok (.aload_n 0, 1) := by decide +kernel
theorem dX12_mark_105 : decode cX12_mark 105 = .ok (.getfield 78, 3) := by decide +kernel
theorem dX12_mark_108 : decode cX12_mark 108 = .ok (.iload_n 1, 1) := by decide +kernel
theorem dX12_mark_109 : decode cX12_mark 109 = .ok (.iaload, 1) := by decide +kernel
theorem dX12_mark_110 : decode cX12_mark 110 = .ok (.iastore, 1) := by decide +kernel
theorem dX12_mark_111 : decode cX12_mark 111 = .ok (.aload_n 0, 1) := by decide +kernel
theorem dX12_mark_112 : decode cX12_mark 112 = .ok (.dup, 1) := by decide +kernel
theorem dX12_mark_113 : decode cX12_mark 113 = .ok (.getfield 212, 3) := by decide +kernel
theorem dX12_mark_116 : decode cX12_mark 116 = .ok (.iconst 1, 1) := by decide +kernel
theorem dX12_mark_117 : decode cX12_mark 117 = .ok (.iadd, 1) := by decide +kernel
theorem dX12_mark_118 : decode cX12_mark 118 = .ok (.putfield 212, 3) := by decide +kernel
theorem dX12_mark_121 : decode cX12_mark 121 = .ok (.iinc 1 1, 3) := by decide +kernel
theorem dX12_mark_124 : decode cX12_mark 124 = .ok (.goto (-81), 3) := by decide +kernel
theorem dX12_mark_127 : decode cX12_mark 127 = .ok (.aload_n 0, 1) := by decide +kernel
theorem dX12_mark_128 : decode cX12_mark 128 = .ok (.iconst 0, 1) := by decide +kernel
theorem dX12_mark_129 : decode cX12_mark 129 = .ok (.putfield 184, 3) := by decide +kernel
theorem dX12_mark_132 : decode cX12_mark 132 = .ok (.aload_n 0, 1) := by decide +kernel
theorem dX12_mark_133 : decode cX12_mark 133 = .ok (.aload_n 0, 1) := by decide +kernel
theorem dX12_mark_134 : decode cX12_mark 134 = .ok (.getfield 187, 3) := by decide +kernel
theorem dX12_mark_137 : decode cX12_mark 137 = .ok (.putfield 209, 3) := by decide +kernel
theorem dX12_mark_140 : decode cX12_mark 140 = .ok (.aload_n 0, 1) := by decide +kernel
theorem dX12_mark_141 : decode cX12_mark 141 = .ok (.aload_n 0, 1) := by decide +kernel
theorem dX12_mark_142 : decode cX12_mark 142 = .ok (.getfield 212, 3) := by decide +kernel
theorem dX12_mark_145 : decode cX12_mark 145 = .ok (.invokevirtual 140, 3) := by decide +kernel
theorem dX12_mark_148 : decode cX12_mark 148 = .ok (.ireturn, 1) := by decide +kernel
theorem dX12_fall_0 : decode cX12_fall 0 = .ok (.aload_n 0, 1) := by decide +kernel
theorem dX12_fall_1 : decode cX12_fall 1 = .ok (.iconst 0, 1) := by decide +kernel
theorem dX12_fall_2 : decode cX12_fall 2 = .ok (.putfield 120, 3) := by decide +kernel
theorem dX12_fall_5 : decode cX12_fall 5 = .ok (.aload_n 0, 1) := by decide +kernel
theorem dX12_fall_6 : decode cX12_fall 6 = .ok (.getfield 173, 3) := by decide +kernel
theorem dX12_fall_9 : decode cX12_fall 9 = .ok (.ifCond .ne 10, 3) := by decide +kernel
theorem dX12_fall_12 : decode cX12_fall 12 = .ok (.aload_n 0, 1) := by decide +kernel
theorem dX12_fall_13 : decode cX12_fall 13 = .ok (.bipush (-6), 2) := by decide +kernel
theorem dX12_fall_15 : decode cX12_fall 15 = .ok (.invokevirtual 140, 3) := by decide +kernel
theorem dX12_fall_18 : decode cX12_fall 18 = .ok (.ireturn, 1) := by decide +kernel
theorem dX12_fall_19 : decode cX12_fall 19 = .ok (.aload_n 0, 1) := by decide +kernel
theorem dX12_fall_20 : decode cX12_fall 20 = .ok (.aload_n 0, 1) := by decide +kernel
