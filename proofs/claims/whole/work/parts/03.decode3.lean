theorem dX7_on_52 : decode cX7_on 52 = .ok (.istore_n 1, 1) := by decide +kernel
theorem dX7_on_53 : decode cX7_on 53 = .ok (.iload_n 1, 1) := by decide +kernel
theorem dX7_on_54 : decode cX7_on 54 = .ok (.aload_n 0, 1) := by decide +kernel
theorem dX7_on_55 : decode cX7_on 55 = .ok (.getfield 20, 3) := by decide +kernel
theorem dX7_on_58 : decode cX7_on 58 = .ok (.iconst 0, 1) := by decide +kernel
theorem dX7_on_59 : decode cX7_on 59 = .ok (.iaload, 1) := by decide +kernel
theorem dX7_on_60 : decode cX7_on 60 = .ok (.if_icmp .gt 31, 3) := by decide +kernel
theorem dX7_on_63 : decode cX7_on 63 = .ok (.aload_n 0, 1) := by decide +kernel
theorem dX7_on_64 : decode cX7_on 64 = .ok (.getfield 54, 3) := by decide +kernel
theorem dX7_on_67 : decode cX7_on 67 = .ok (.aload_n 0, 1) := by decide +kernel
theorem dX7_on_68 : decode cX7_on 68 = .ok (.getfield 20, 3) := by decide +kernel
theorem dX7_on_71 : decode cX7_on 71 = .ok (.bipush 29, 2) := by decide +kernel
theorem dX7_on_73 : decode cX7_on 73 = .ok (.iload_n 1, 1) := by decide +kernel
theorem dX7_on_74 : decode cX7_on 74 = .ok (.iadd, 1) := by decide +kernel
theorem dX7_on_75 : decode cX7_on 75 = .ok (.iconst 1, 1) := by decide +kernel
theorem dX7_on_76 : decode cX7_on 76 = .ok (.isub, 1) := by decide +kernel
theorem dX7_on_77 : decode cX7_on 77 = .ok (.iaload, 1) := by decide +kernel
theorem dX7_on_78 : decode cX7_on 78 = .ok (.dup2, 1) := by decide +kernel
theorem dX7_on_79 : decode cX7_on 79 = .ok (.iaload, 1) := by decide +kernel
theorem dX7_on_80 : decode cX7_on 80 = .ok (.iconst 1, 1) := by decide +kernel
theorem dX7_on_81 : decode cX7_on 81 = .ok (.iload_n 1, 1) := by decide +kernel
theorem dX7_on_82 : decode cX7_on 82 = .ok (.ishl, 1) := by decide +kernel
theorem dX7_on_83 : decode cX7_on 83 = .ok (.ior, 1) := by decide +kernel
theorem dX7_on_84 : decode cX7_on 84 = .ok (.iastore, 1) := by decide +kernel
theorem dX7_on_85 : decode cX7_on 85 = .ok (.iinc 1 1, 3) := by decide +kernel
theorem dX7_on_88 : decode cX7_on 88 = .ok (.goto (-35), 3) := by decide +kernel
theorem dX7_on_91 : decode cX7_on 91 = .ok (.iconst 0, 1) := by decide +kernel
theorem dX7_on_92 : decode cX7_on 92 = .ok (.istore_n 1, 1) := by decide +kernel
theorem dX7_on_93 : decode cX7_on 93 = .ok (.iconst 0, 1) := by decide +kernel
theorem dX7_on_94 : decode cX7_on 94 = .ok (.istore_n 2, 1) := by decide +kernel
theorem dX7_on_95 : decode cX7_on 95 = .ok (.iload_n 2, 1) := by decide +kernel
theorem dX7_on_96 : decode cX7_on 96 = .ok (.aload_n 0, 1) := by decide +kernel
theorem dX7_on_97 : decode cX7_on 97 = .ok (.getfield 13, 3) := by decide +kernel
theorem dX7_on_100 : decode cX7_on 100 = .ok (.if_icmp .ge 35, 3) := by decide +kernel
theorem dX7_on_103 : decode cX7_on 103 = .ok (.iload_n 1, 1) := by decide +kernel
theorem dX7_on_104 : decode cX7_on 104 = .ok (.aload_n 0, 1) := by decide +kernel
theorem dX7_on_105 : decode cX7_on 105 = .ok (.aload_n 0, 1) := by decide +kernel
theorem dX7_on_106 : decode cX7_on 106 = .ok (.getfield 20, 3) := by decide +kernel
theorem dX7_on_109 : decode cX7_on 109 = .ok (.iconst 0, 1) := by decide +kernel
theorem dX7_on_110 : decode cX7_on 110 = .ok (.iaload, 1) := by decide +kernel
theorem dX7_on_111 : decode cX7_on 111 = .ok (.iconst 1, 1) := by decide +kernel
theorem dX7_on_112 : decode cX7_on 112 = .ok (.iadd, 1) := by decide +kernel
theorem dX7_on_113 : decode cX7_on 113 = .ok (.iload_n 2, 1) := by decide +kernel
theorem dX7_on_114 : decode cX7_on 114 = .ok (.invokevirtual 151, 3) := by decide +kernel
theorem dX7_on_117 : decode cX7_on 117 = .ok (.ifCond .eq 9, 3) := by decide +kernel
theorem dX7_on_120 : decode cX7_on 120 = .ok (.iconst 1, 1) := by decide +kernel
theorem dX7_on_121 : decode cX7_on 121 = .ok (.iload_n 2, 1) := by decide +kernel
theorem dX7_on_122 : decode cX7_on 122 = .ok (.ishl, 1) := by decide +kernel
theorem dX7_on_123 : decode cX7_on 123 = .ok (.goto 4, 3) := by decide +kernel
theorem dX7_on_126 : decode cX7_on 126 = .ok (.iconst 0, 1) := by decide +kernel
theorem dX7_on_127 : decode cX7_on 127 = .ok (.ior, 1) := by decide +kernel
theorem dX7_on_128 : decode cX7_on 128 = .ok (.istore_n 1, 1) := by decide +kernel
theorem dX7_on_129 : decode cX7_on 129 = .ok (.iinc 2 1, 3) := by decide +kernel
theorem dX7_on_132 : decode cX7_on 132 = .ok (.goto (-37), 3) := by decide +kernel
theorem dX7_on_135 : decode cX7_on 135 = .ok (.iload_n 1, 1) := by decide +kernel
theorem dX7_on_136 : decode cX7_on 136 = .ok (.ireturn, 1) := by decide +kernel
theorem dX7_does_0 : decode cX7_does 0 = .ok (.bipush 10, 2) := by decide +kernel
theorem dX7_does_2 : decode cX7_does 2 = .ok (.iload_n 2, 1) := by decide +kernel
theorem dX7_does_3 : decode cX7_does 3 = .ok (.imul, 1) := by decide +kernel
theorem dX7_does_4 : decode cX7_does 4 = .ok (.iload_n 3, 1) := by decide +kernel
theorem dX7_does_5 : decode cX7_does 5 = .ok (.iadd, 1) := by decide +kernel
theorem dX7_does_6 : decode cX7_does 6 = .ok (.istore 5, 2) := by decide +kernel
theorem dX7_does_8 : decode cX7_does 8 = .ok (.iload 5, 2) := by decide +kernel
theorem dX7_does_10 : decode cX7_does 10 = .ok (.i2l, 1) := by decide +kernel
theorem dX7_does_11 : decode cX7_does 11 = .ok (.lconst 1, 1) := by decide +kernel
theorem dX7_does_12 : decode cX7_does 12 = .ok (.aload_n 0, 1) := by decide +kernel
theorem dX7_does_13 : decode cX7_does 13 = .ok (.getfield 23, 3) := by decide +kernel
theorem dX7_does_16 : decode cX7_does 16 = .ok (.iconst 0, 1) := by decide +kernel
theorem dX7_does_17 : decode cX7_does 17 = .ok (.iaload, 1) := by decide +kernel
theorem dX7_does_18 : decode cX7_does 18 = .ok (.i2l, 1) := by decide +kernel
theorem dX7_does_19 : decode cX7_does 19 = .ok (.invokestatic 72, 3) := by decide +kernel
theorem dX7_does_22 : decode cX7_does 22 = .ok (.istore 6, 2) := by decide +kernel
theorem dX7_does_24 : decode cX7_does 24 = .ok (.iload_n 1, 1) := by decide +kernel
theorem dX7_does_25 : decode cX7_does 25 = .ok (.tableswitch 322 1 7 #[43, 78, 138, 179, 208, 245, 279], 43) := by decide +kernel
theorem dX7_does_68 : decode cX7_does 68 = .ok (.iload 6, 2) := by decide +kernel
theorem dX7_does_70 : decode cX7_does 70 = .ok (.ifCond .eq 31, 3) := by decide +kernel
theorem dX7_does_73 : decode cX7_does 73 = .ok (.iload 4, 2) := by decide +kernel
theorem dX7_does_75 : decode cX7_does 75 = .ok (.aload_n 0, 1) := by decide +kernel
theorem dX7_does_76 : decode cX7_does 76 = .ok (.getfield 13, 3) := by decide +kernel
theorem dX7_does_79 : decode cX7_does 79 = .ok (.if_icmp .ge 22, 3) := by decide +kernel
theorem dX7_does_82 : decode cX7_does 82 = .ok (.aload_n 0, 1) := by decide +kernel
theorem dX7_does_83 : decode cX7_does 83 = .ok (.aload_n 0, 1) := by decide +kernel
theorem dX7_does_84 : decode cX7_does 84 = .ok (.getfield 23, 3) := by decide +kernel
theorem dX7_does_87 : decode cX7_does 87 = .ok (.iload 5, 2) := by decide +kernel
theorem dX7_does_89 : decode cX7_does 89 = .ok (.iload 4, 2) := by decide +kernel
theorem dX7_does_91 : decode cX7_does 91 = .ok (.invokevirtual 211, 3) := by decide +kernel
theorem dX7_does_94 : decode cX7_does 94 = .ok (.ifCond .eq 7, 3) := by decide +kernel
theorem dX7_does_97 : decode cX7_does 97 = .ok (.iconst 1, 1) := by decide +kernel
theorem dX7_does_98 : decode cX7_does 98 = .ok (.goto 4, 3) := by decide +kernel
theorem dX7_does_101 : decode cX7_does 101 = .ok (.iconst 0, 1) := by decide +kernel
theorem dX7_does_102 : decode cX7_does 102 = .ok (.ireturn, 1) := by decide +kernel
theorem dX7_does_103 : decode cX7_does 103 = .ok (.iload 6, 2) := by decide +kernel
theorem dX7_does_105 : decode cX7_does 105 = .ok (.ifCond .eq 19, 3) := by decide +kernel
theorem dX7_does_108 : decode cX7_does 108 = .ok (.iload 4, 2) := by decide +kernel
theorem dX7_does_110 : decode cX7_does 110 = .ok (.aload_n 0, 1) := by decide +kernel
theorem dX7_does_111 : decode cX7_does 111 = .ok (.getfield 13, 3) := by decide +kernel
theorem dX7_does_114 : decode cX7_does 114 = .ok (.if_icmp .lt 12, 3) := by decide +kernel
theorem dX7_does_117 : decode cX7_does 117 = .ok (.iload 4, 2) := by decide +kernel
theorem dX7_does_119 : decode cX7_does 119 = .ok (.bipush 9, 2) := by decide +kernel
theorem dX7_does_121 : decode cX7_does 121 = .ok (.if_icmp .eq 5, 3) := by decide +kernel
theorem dX7_does_124 : decode cX7_does 124 = .ok (.iconst 0, 1) := by decide +kernel
theorem dX7_does_125 : decode cX7_does 125 = .ok (.ireturn, 1) := by decide +kernel
theorem dX7_does_126 : decode cX7_does 126 = .ok (.aload_n 0, 1) := by decide +kernel
theorem dX7_does_127 : decode cX7_does 127 = .ok (.getfield 23, 3) := by decide +kernel
theorem dX7_does_130 : decode cX7_does 130 = .ok (.bipush 18, 2) := by decide +kernel
theorem dX7_does_132 : decode cX7_does 132 = .ok (.iload 5, 2) := by decide +kernel
theorem dX7_does_134 : decode cX7_does 134 = .ok (.iadd, 1) := by decide +kernel
theorem dX7_does_135 : decode cX7_does 135 = .ok (.iconst 1, 1) := by decide +kernel
theorem dX7_does_136 : decode cX7_does 136 = .ok (.isub, 1) := by decide +kernel
theorem dX7_does_137 : decode cX7_does 137 = .ok (.iload 4, 2) := by decide +kernel
theorem dX7_does_139 : decode cX7_does 139 = .ok (.bipush 9, 2) := by decide +kernel
theorem dX7_does_141 : decode cX7_does 141 = .ok (.if_icmp .ne 7, 3) := by decide +kernel
theorem dX7_does_144 : decode cX7_does 144 = .ok (.iconst 0, 1) := by decide +kernel
theorem dX7_does_145 : decode cX7_does 145 = .ok (.goto 7, 3) := by decide +kernel
theorem dX7_does_148 : decode cX7_does 148 = .ok (.iload 4, 2) := by decide +kernel
theorem dX7_does_150 : decode cX7_does 150 = .ok (.iconst 1, 1) := by decide +kernel
theorem dX7_does_151 : decode cX7_does 151 = .ok (.iadd, 1) := by decide +kernel
theorem dX7_does_152 : decode cX7_does 152 = .ok (.iastore, 1) := by decide +kernel
theorem dX7_does_153 : decode cX7_does 153 = .ok (.aload_n 0, 1) := by decide +kernel
theorem dX7_does_154 : decode cX7_does 154 = .ok (.aload_n 0, 1) := by decide +kernel
theorem dX7_does_155 : decode cX7_does 155 = .ok (.getfield 23, 3) := by decide +kernel
theorem dX7_does_158 : decode cX7_does 158 = .ok (.invokevirtual 111, 3) := by decide +kernel
theorem dX7_does_161 : decode cX7_does 161 = .ok (.iconst 1, 1) := by decide +kernel
theorem dX7_does_162 : decode cX7_does 162 = .ok (.ireturn, 1) := by decide +kernel
theorem dX7_does_163 : decode cX7_does 163 = .ok (.iload_n 2, 1) := by decide +kernel
theorem dX7_does_164 : decode cX7_does 164 = .ok (.ifCond .ne 21, 3) := by decide +kernel
theorem dX7_does_167 : decode cX7_does 167 = .ok (.bipush 10, 2) := by decide +kernel
theorem dX7_does_169 : decode cX7_does 169 = .ok (.iload_n 3, 1) := by decide +kernel
theorem dX7_does_170 : decode cX7_does 170 = .ok (.imul, 1) := by decide +kernel
theorem dX7_does_171 : decode cX7_does 171 = .ok (.iload 4, 2) := by decide +kernel
theorem dX7_does_173 : decode cX7_does 173 = .ok (.iadd, 1) := by decide +kernel
theorem dX7_does_174 : decode cX7_does 174 = .ok (.i2l, 1) := by decide +kernel
theorem dX7_does_175 : decode cX7_does 175 = .ok (.lconst 1, 1) := by decide +kernel
theorem dX7_does_176 : decode cX7_does 176 = .ok (.ldc2_w 215, 3) := by decide +kernel
theorem dX7_does_179 : decode cX7_does 179 = .ok (.invokestatic 72, 3) := by decide +kernel
theorem dX7_does_182 : decode cX7_does 182 = .ok (.ifCond .ne 5, 3) := by decide +kernel
theorem dX7_does_185 : decode cX7_does 185 = .ok (.iconst 0, 1) := by decide +kernel
theorem dX7_does_186 : decode cX7_does 186 = .ok (.ireturn, 1) := by decide +kernel
theorem dX7_does_187 : decode cX7_does 187 = .ok (.aload_n 0, 1) := by decide +kernel
theorem dX7_does_188 : decode cX7_does 188 = .ok (.aload_n 0, 1) := by decide +kernel
theorem dX7_does_189 : decode cX7_does 189 = .ok (.getfield 23, 3) := by decide +kernel
theorem dX7_does_192 : decode cX7_does 192 = .ok (.bipush 10, 2) := by decide +kernel
theorem dX7_does_194 : decode cX7_does 194 = .ok (.iload_n 3, 1) := by decide +kernel
theorem dX7_does_195 : decode cX7_does 195 = .ok (.imul, 1) := by decide +kernel
theorem dX7_does_196 : decode cX7_does 196 = .ok (.iload 4, 2) := by decide +kernel
theorem dX7_does_198 : decode cX7_does 198 = .ok (.iadd, 1) := by decide +kernel
theorem dX7_does_199 : decode cX7_does 199 = .ok (.invokevirtual 217, 3) := by decide +kernel
theorem dX7_does_202 : decode cX7_does 202 = .ok (.iconst 1, 1) := by decide +kernel
theorem dX7_does_203 : decode cX7_does 203 = .ok (.ireturn, 1) := by decide +kernel
theorem dX7_does_204 : decode cX7_does 204 = .ok (.aload_n 0, 1) := by decide +kernel
theorem dX7_does_205 : decode cX7_does 205 = .ok (.aload_n 0, 1) := by decide +kernel
theorem dX7_does_206 : decode cX7_does 206 = .ok (.getfield 23, 3) := by decide +kernel
theorem dX7_does_209 : decode cX7_does 209 = .ok (.invokevirtual 118, 3) := by decide +kernel
theorem dX7_does_212 : decode cX7_does 212 = .ok (.bipush 100, 2) := by decide +kernel
theorem dX7_does_214 : decode cX7_does 214 = .ok (.iload_n 2, 1) := by decide +kernel
theorem dX7_does_215 : decode cX7_does 215 = .ok (.imul, 1) := by decide +kernel
theorem dX7_does_216 : decode cX7_does 216 = .ok (.bipush 10, 2) := by decide +kernel
theorem dX7_does_218 : decode cX7_does 218 = .ok (.iload_n 3, 1) := by decide +kernel
theorem dX7_does_219 : decode cX7_does 219 = .ok (.imul, 1) := by decide +kernel
theorem dX7_does_220 : decode cX7_does 220 = .ok (.iadd, 1) := by decide +kernel
theorem dX7_does_221 : decode cX7_does 221 = .ok (.iload 4, 2) := by decide +kernel
theorem dX7_does_223 : decode cX7_does 223 = .ok (.iadd, 1) := by decide +kernel
theorem dX7_does_224 : decode cX7_does 224 = .ok (.if_icmp .ne 7, 3) := by decide +kernel
theorem dX7_does_227 : decode cX7_does 227 = .ok (.iconst 1, 1) := by decide +kernel
theorem dX7_does_228 : decode cX7_does 228 = .ok (.goto 4, 3) := by decide +kernel
theorem dX7_does_231 : decode cX7_does 231 = .ok (.iconst 0, 1) := by decide +kernel
theorem dX7_does_232 : decode cX7_does 232 = .ok (.ireturn, 1) := by decide +kernel
theorem dX7_does_233 : decode cX7_does 233 = .ok (.iload 6, 2) := by decide +kernel
theorem dX7_does_235 : decode cX7_does 235 = .ok (.ifCond .eq 33, 3) := by decide +kernel
theorem dX7_does_238 : decode cX7_does 238 = .ok (.iload 4, 2) := by decide +kernel
theorem dX7_does_240 : decode cX7_does 240 = .ok (.aload_n 0, 1) := by decide +kernel
theorem dX7_does_241 : decode cX7_does 241 = .ok (.getfield 13, 3) := by decide +kernel
theorem dX7_does_244 : decode cX7_does 244 = .ok (.if_icmp .ge 24, 3) := by decide +kernel
theorem dX7_does_247 : decode cX7_does 247 = .ok (.aload_n 0, 1) := by decide +kernel
theorem dX7_does_248 : decode cX7_does 248 = .ok (.aload_n 0, 1) := by decide +kernel
theorem dX7_does_249 : decode cX7_does 249 = .ok (.getfield 23, 3) := by decide +kernel
theorem dX7_does_252 : decode cX7_does 252 = .ok (.iload 5, 2) := by decide +kernel
theorem dX7_does_254 : decode cX7_does 254 = .ok (.invokevirtual 198, 3) := by decide +kernel
theorem dX7_does_257 : decode cX7_does 257 = .ok (.iconst 1, 1) := by decide +kernel
theorem dX7_does_258 : decode cX7_does 258 = .ok (.iload 4, 2) := by decide +kernel
theorem dX7_does_260 : decode cX7_does 260 = .ok (.ishl, 1) := by decide +kernel
theorem dX7_does_261 : decode cX7_does 261 = .ok (.if_icmp .ne 7, 3) := by decide +kernel
theorem dX7_does_264 : decode cX7_does 264 = .ok (.iconst 1, 1) := by decide +kernel
theorem dX7_does_265 : decode cX7_does 265 = .ok (.goto 4, 3) := by decide +kernel
theorem dX7_does_268 : decode cX7_does 268 = .ok (.iconst 0, 1) := by decide +kernel
theorem dX7_does_269 : decode cX7_does 269 = .ok (.ireturn, 1) := by decide +kernel
theorem dX7_does_270 : decode cX7_does 270 = .ok (.iload 5, 2) := by decide +kernel
theorem dX7_does_272 : decode cX7_does 272 = .ok (.ifCond .ne 30, 3) := by decide +kernel
theorem dX7_does_275 : decode cX7_does 275 = .ok (.iload 4, 2) := by decide +kernel
theorem dX7_does_277 : decode cX7_does 277 = .ok (.aload_n 0, 1) := by decide +kernel
theorem dX7_does_278 : decode cX7_does 278 = .ok (.getfield 23, 3) := by decide +kernel
theorem dX7_does_281 : decode cX7_does 281 = .ok (.iconst 1, 1) := by decide +kernel
theorem dX7_does_282 : decode cX7_does 282 = .ok (.iaload, 1) := by decide +kernel
theorem dX7_does_283 : decode cX7_does 283 = .ok (.if_icmp .ge 19, 3) := by decide +kernel
theorem dX7_does_286 : decode cX7_does 286 = .ok (.aload_n 0, 1) := by decide +kernel
theorem dX7_does_287 : decode cX7_does 287 = .ok (.getfield 23, 3) := by decide +kernel
theorem dX7_does_290 : decode cX7_does 290 = .ok (.iload 4, 2) := by decide +kernel
theorem dX7_does_292 : decode cX7_does 292 = .ok (.invokestatic 188, 3) := by decide +kernel
theorem dX7_does_295 : decode cX7_does 295 = .ok (.ifCond .eq 7, 3) := by decide +kernel
theorem dX7_does_298 : decode cX7_does 298 = .ok (.iconst 1, 1) := by decide +kernel
theorem dX7_does_299 : decode cX7_does 299 = .ok (.goto 4, 3) := by decide +kernel
theorem dX7_does_302 : decode cX7_does 302 = .ok (.iconst 0, 1) := by decide +kernel
theorem dX7_does_303 : decode cX7_does 303 = .ok (.ireturn, 1) := by decide +kernel
theorem dX7_does_304 : decode cX7_does 304 = .ok (.aload_n 0, 1) := by decide +kernel
theorem dX7_does_305 : decode cX7_does 305 = .ok (.aload_n 0, 1) := by decide +kernel
theorem dX7_does_306 : decode cX7_does 306 = .ok (.getfield 23, 3) := by decide +kernel
theorem dX7_does_309 : decode cX7_does 309 = .ok (.invokevirtual 228, 3) := by decide +kernel
theorem dX7_does_312 : decode cX7_does 312 = .ok (.istore 7, 2) := by decide +kernel
theorem dX7_does_314 : decode cX7_does 314 = .ok (.iload_n 2, 1) := by decide +kernel
theorem dX7_does_315 : decode cX7_does 315 = .ok (.ifCond .ne 30, 3) := by decide +kernel
theorem dX7_does_318 : decode cX7_does 318 = .ok (.bipush 10, 2) := by decide +kernel
theorem dX7_does_320 : decode cX7_does 320 = .ok (.iload_n 3, 1) := by decide +kernel
theorem dX7_does_321 : decode cX7_does 321 = .ok (.imul, 1) := by decide +kernel
theorem dX7_does_322 : decode cX7_does 322 = .ok (.iload 4, 2) := by decide +kernel
theorem dX7_does_324 : decode cX7_does 324 = .ok (.iadd, 1) := by decide +kernel
theorem dX7_does_325 : decode cX7_does 325 = .ok (.iload 7, 2) := by decide +kernel
theorem dX7_does_327 : decode cX7_does 327 = .ok (.bipush (-9), 2) := by decide +kernel
theorem dX7_does_329 : decode cX7_does 329 = .ok (.if_icmp .ne 7, 3) := by decide +kernel
theorem dX7_does_332 : decode cX7_does 332 = .ok (.iconst 0, 1) := by decide +kernel
theorem dX7_does_333 : decode cX7_does 333 = .ok (.goto 5, 3) := by decide +kernel
theorem dX7_does_336 : decode cX7_does 336 = .ok (.iload 7, 2) := by decide +kernel
theorem dX7_does_338 : decode cX7_does 338 = .ok (.if_icmp .ne 7, 3) := by decide +kernel
theorem dX7_does_341 : decode cX7_does 341 = .ok (.iconst 1, 1) := by decide +kernel
theorem dX7_does_342 : decode cX7_does 342 = .ok (.goto 4, 3) := by decide +kernel
theorem dX7_does_345 : decode cX7_does 345 = .ok (.iconst 0, 1) := by decide +kernel
theorem dX7_does_346 : decode cX7_does 346 = .ok (.ireturn, 1) := by decide +kernel
theorem dX7_does_347 : decode cX7_does 347 = .ok (.iconst 0, 1) := by decide +kernel
theorem dX7_does_348 : decode cX7_does 348 = .ok (.ireturn, 1) := by decide +kernel
theorem dX7_longPower_0 : decode cX7_longPower 0 = .ok (.lconst 1, 1) := by decide +kernel
theorem dX7_longPower_1 : decode cX7_longPower 1 = .ok (.lstore_n 3, 1) := by decide +kernel
theorem dX7_longPower_2 : decode cX7_longPower 2 = .ok (.iconst 0, 1) := by decide +kernel
theorem dX7_longPower_3 : decode cX7_longPower 3 = .ok (.istore 5, 2) := by decide +kernel
theorem dX7_longPower_5 : decode cX7_longPower 5 = .ok (.iload 5, 2) := by decide +kernel
theorem dX7_longPower_7 : decode cX7_longPower 7 = .ok (.iload_n 2, 1) := by decide +kernel
theorem dX7_longPower_8 : decode cX7_longPower 8 = .ok (.if_icmp .ge 13, 3) := by decide +kernel
theorem dX7_longPower_11 : decode cX7_longPower 11 = .ok (.lload_n 3, 1) := by decide +kernel
theorem dX7_longPower_12 : decode cX7_longPower 12 = .ok (.lload_n 0, 1) := by decide +kernel
theorem dX7_longPower_13 : decode cX7_longPower 13 = .ok (.lmul, 1) := by decide +kernel
theorem dX7_longPower_14 : decode cX7_longPower 14 = .ok (.lstore_n 3, 1) := by decide +kernel
theorem dX7_longPower_15 : decode cX7_longPower 15 = .ok (.iinc 5 1, 3) := by decide +kernel
theorem dX7_longPower_18 : decode cX7_longPower 18 = .ok (.goto (-13), 3) := by decide +kernel
theorem dX7_longPower_21 : decode cX7_longPower 21 = .ok (.lload_n 3, 1) := by decide +kernel
theorem dX7_longPower_22 : decode cX7_longPower 22 = .ok (.lreturn, 1) := by decide +kernel
theorem dX7_judge_0 : decode cX7_judge 0 = .ok (.aload_n 0, 1) := by decide +kernel
theorem dX7_judge_1 : decode cX7_judge 1 = .ok (.iconst 0, 1) := by decide +kernel
theorem dX7_judge_2 : decode cX7_judge 2 = .ok (.putfield 67, 3) := by decide +kernel
theorem dX7_judge_5 : decode cX7_judge 5 = .ok (.iload_n 1, 1) := by decide +kernel
theorem dX7_judge_6 : decode cX7_judge 6 = .ok (.i2l, 1) := by decide +kernel
theorem dX7_judge_7 : decode cX7_judge 7 = .ok (.lconst 1, 1) := by decide +kernel
theorem dX7_judge_8 : decode cX7_judge 8 = .ok (.ldc2_w 82, 3) := by decide +kernel
theorem dX7_judge_11 : decode cX7_judge 11 = .ok (.invokestatic 72, 3) := by decide +kernel
theorem dX7_judge_14 : decode cX7_judge 14 = .ok (.ifCond .eq 20, 3) := by decide +kernel
theorem dX7_judge_17 : decode cX7_judge 17 = .ok (.lload_n 2, 1) := by decide +kernel
theorem dX7_judge_18 : decode cX7_judge 18 = .ok (.lconst 0, 1) := by decide +kernel
theorem dX7_judge_19 : decode cX7_judge 19 = .ok (.ldc2_w 243, 3) := by decide +kernel
theorem dX7_judge_22 : decode cX7_judge 22 = .ok (.iload_n 1, 1) := by decide +kernel
theorem dX7_judge_23 : decode cX7_judge 23 = .ok (.invokestatic 245, 3) := by decide +kernel
theorem dX7_judge_26 : decode cX7_judge 26 = .ok (.lconst 1, 1) := by decide +kernel
theorem dX7_judge_27 : decode cX7_judge 27 = .ok (.lsub, 1) := by decide +kernel
theorem dX7_judge_28 : decode cX7_judge 28 = .ok (.invokestatic 72, 3) := by decide +kernel
theorem dX7_judge_31 : decode cX7_judge 31 = .ok (.ifCond .ne 6, 3) := by decide +kernel
theorem dX7_judge_34 : decode cX7_judge 34 = .ok (.bipush (-2), 2) := by decide +kernel
theorem dX7_judge_36 : decode cX7_judge 36 = .ok (.ireturn, 1) := by decide +kernel
theorem dX7_judge_37 : decode cX7_judge 37 = .ok (.aload_n 0, 1) := by decide +kernel
theorem dX7_judge_38 : decode cX7_judge 38 = .ok (.invokevirtual 208, 3) := by decide +kernel
theorem dX7_judge_41 : decode cX7_judge 41 = .ok (.iconst 0, 1) := by decide +kernel
theorem dX7_judge_42 : decode cX7_judge 42 = .ok (.istore 4, 2) := by decide +kernel
theorem dX7_judge_44 : decode cX7_judge 44 = .ok (.iload 4, 2) := by decide +kernel
theorem dX7_judge_46 : decode cX7_judge 46 = .ok (.iload_n 1, 1) := by decide +kernel
theorem dX7_judge_47 : decode cX7_judge 47 = .ok (.if_icmp .ge 67, 3) := by decide +kernel
theorem dX7_judge_50 : decode cX7_judge 50 = .ok (.lload_n 2, 1) := by decide +kernel
theorem dX7_judge_51 : decode cX7_judge 51 = .ok (.ldc2_w 243, 3) := by decide +kernel
theorem dX7_judge_54 : decode cX7_judge 54 = .ok (.iload_n 1, 1) := by decide +kernel
theorem dX7_judge_55 : decode cX7_judge 55 = .ok (.iconst 1, 1) := by decide +kernel
theorem dX7_judge_56 : decode cX7_judge 56 = .ok (.isub, 1) := by decide +kernel
theorem dX7_judge_57 : decode cX7_judge 57 = .ok (.iload 4, 2) := by decide +kernel
theorem dX7_judge_59 : decode cX7_judge 59 = .ok (.isub, 1) := by decide +kernel
theorem dX7_judge_60 : decode cX7_judge 60 = .ok (.invokestatic 245, 3) := by decide +kernel
theorem dX7_judge_63 : decode cX7_judge 63 = .ok (.ldiv, 1) := by decide +kernel
theorem dX7_judge_64 : decode cX7_judge 64 = .ok (.ldc2_w 243, 3) := by decide +kernel
theorem dX7_judge_67 : decode cX7_judge 67 = .ok (.lrem, 1) := by decide +kernel
theorem dX7_judge_68 : decode cX7_judge 68 = .ok (.l2i, 1) := by decide +kernel
theorem dX7_judge_69 : decode cX7_judge 69 = .ok (.istore 5, 2) := by decide +kernel
theorem dX7_judge_71 : decode cX7_judge 71 = .ok (.aload_n 0, 1) := by decide +kernel
theorem dX7_judge_72 : decode cX7_judge 72 = .ok (.iload 5, 2) := by decide +kernel
theorem dX7_judge_74 : decode cX7_judge 74 = .ok (.sipush 1000, 3) := by decide +kernel
theorem dX7_judge_77 : decode cX7_judge 77 = .ok (.idiv, 1) := by decide +kernel
theorem dX7_judge_78 : decode cX7_judge 78 = .ok (.iload 5, 2) := by decide +kernel
theorem dX7_judge_80 : decode cX7_judge 80 = .ok (.bipush 100, 2) := by decide +kernel
theorem dX7_judge_82 : decode cX7_judge 82 = .ok (.idiv, 1) := by decide +kernel
theorem dX7_judge_83 : decode cX7_judge 83 = .ok (.bipush 10, 2) := by decide +kernel
theorem dX7_judge_85 : decode cX7_judge 85 = .ok (.irem, 1) := by decide +kernel
theorem dX7_judge_86 : decode cX7_judge 86 = .ok (.iload 5, 2) := by decide +kernel
theorem dX7_judge_88 : decode cX7_judge 88 = .ok (.bipush 10, 2) := by decide +kernel
theorem dX7_judge_90 : decode cX7_judge 90 = .ok (.idiv, 1) := by decide +kernel
theorem dX7_judge_91 : decode cX7_judge 91 = .ok (.bipush 10, 2) := by decide +kernel
theorem dX7_judge_93 : decode cX7_judge 93 = .ok (.irem, 1) := by decide +kernel
theorem dX7_judge_94 : decode cX7_judge 94 = .ok (.iload 5, 2) := by decide +kernel
theorem dX7_judge_96 : decode cX7_judge 96 = .ok (.bipush 10, 2) := by decide +kernel
theorem dX7_judge_98 : decode cX7_judge 98 = .ok (.irem, 1) := by decide +kernel
theorem dX7_judge_99 : decode cX7_judge 99 = .ok (.invokevirtual 249, 3) := by decide +kernel
theorem dX7_judge_102 : decode cX7_judge 102 = .ok (.ifCond .ne 6, 3) := by decide +kernel
theorem dX7_judge_105 : decode cX7_judge 105 = .ok (.iload 4, 2) := by decide +kernel
theorem dX7_judge_107 : decode cX7_judge 107 = .ok (.ireturn, 1) := by decide +kernel
theorem dX7_judge_108 : decode cX7_judge 108 = .ok (.iinc 4 1, 3) := by decide +kernel
theorem dX7_judge_111 : decode cX7_judge 111 = .ok (.goto (-67), 3) := by decide +kernel
theorem dX7_judge_114 : decode cX7_judge 114 = .ok (.bipush (-9), 2) := by decide +kernel
theorem dX7_judge_116 : decode cX7_judge 116 = .ok (.ireturn, 1) := by decide +kernel
theorem dX7_see_0 : decode cX7_see 0 = .ok (.aload_n 0, 1) := by decide +kernel
theorem dX7_see_1 : decode cX7_see 1 = .ok (.iconst 0, 1) := by decide +kernel
theorem dX7_see_2 : decode cX7_see 2 = .ok (.putfield 67, 3) := by decide +kernel
theorem dX7_see_5 : decode cX7_see 5 = .ok (.iload_n 1, 1) := by decide +kernel
theorem dX7_see_6 : decode cX7_see 6 = .ok (.i2l, 1) := by decide +kernel
theorem dX7_see_7 : decode cX7_see 7 = .ok (.lconst 1, 1) := by decide +kernel
theorem dX7_see_8 : decode cX7_see 8 = .ok (.ldc2_w 215, 3) := by decide +kernel
theorem dX7_see_11 : decode cX7_see 11 = .ok (.invokestatic 72, 3) := by decide +kernel
theorem dX7_see_14 : decode cX7_see 14 = .ok (.ifCond .eq 30, 3) := by decide +kernel
theorem dX7_see_17 : decode cX7_see 17 = .ok (.iload_n 2, 1) := by decide +kernel
theorem dX7_see_18 : decode cX7_see 18 = .ok (.i2l, 1) := by decide +kernel
theorem dX7_see_19 : decode cX7_see 19 = .ok (.lconst 1, 1) := by decide +kernel
theorem dX7_see_20 : decode cX7_see 20 = .ok (.ldc2_w 215, 3) := by decide +kernel
theorem dX7_see_23 : decode cX7_see 23 = .ok (.invokestatic 72, 3) := by decide +kernel
theorem dX7_see_26 : decode cX7_see 26 = .ok (.ifCond .eq 18, 3) := by decide +kernel
theorem dX7_see_29 : decode cX7_see 29 = .ok (.iload_n 1, 1) := by decide +kernel
theorem dX7_see_30 : decode cX7_see 30 = .ok (.iload_n 2, 1) := by decide +kernel
theorem dX7_see_31 : decode cX7_see 31 = .ok (.if_icmp .eq 13, 3) := by decide +kernel
theorem dX7_see_34 : decode cX7_see 34 = .ok (.iload_n 3, 1) := by decide +kernel
theorem dX7_see_35 : decode cX7_see 35 = .ok (.i2l, 1) := by decide +kernel
theorem dX7_see_36 : decode cX7_see 36 = .ok (.lconst 0, 1) := by decide +kernel
theorem dX7_see_37 : decode cX7_see 37 = .ok (.lconst 1, 1) := by decide +kernel
theorem dX7_see_38 : decode cX7_see 38 = .ok (.invokestatic 72, 3) := by decide +kernel
theorem dX7_see_41 : decode cX7_see 41 = .ok (.ifCond .ne 6, 3) := by decide +kernel
theorem dX7_see_44 : decode cX7_see 44 = .ok (.bipush (-2), 2) := by decide +kernel
theorem dX7_see_46 : decode cX7_see 46 = .ok (.ireturn, 1) := by decide +kernel
theorem dX7_see_47 : decode cX7_see 47 = .ok (.aload_n 0, 1) := by decide +kernel
theorem dX7_see_48 : decode cX7_see 48 = .ok (.getfield 253, 3) := by decide +kernel
theorem dX7_see_51 : decode cX7_see 51 = .ok (.bipush 6, 2) := by decide +kernel
theorem dX7_see_53 : decode cX7_see 53 = .ok (.if_icmp .ne 6, 3) := by decide +kernel
theorem dX7_see_56 : decode cX7_see 56 = .ok (.bipush (-4), 2) := by decide +kernel
theorem dX7_see_58 : decode cX7_see 58 = .ok (.ireturn, 1) := by decide +kernel
theorem dX7_see_59 : decode cX7_see 59 = .ok (.aload_n 0, 1) := by decide +kernel
theorem dX7_see_60 : decode cX7_see 60 = .ok (.getfield 36, 3) := by decide +kernel
theorem dX7_see_63 : decode cX7_see 63 = .ok (.aload_n 0, 1) := by decide +kernel
theorem dX7_see_64 : decode cX7_see 64 = .ok (.getfield 253, 3) := by decide +kernel
theorem dX7_see_67 : decode cX7_see 67 = .ok (.iload_n 1, 1) := by decide +kernel
theorem dX7_see_68 : decode cX7_see 68 = .ok (.iastore, 1) := by decide +kernel
theorem dX7_see_69 : decode cX7_see 69 = .ok (.aload_n 0, 1) := by decide +kernel
theorem dX7_see_70 : decode cX7_see 70 = .ok (.getfield 39, 3) := by decide +kernel
theorem dX7_see_73 : decode cX7_see 73 = .ok (.aload_n 0, 1) := by decide +kernel
theorem dX7_see_74 : decode cX7_see 74 = .ok (.getfield 253, 3) := by decide +kernel
theorem dX7_see_77 : decode cX7_see 77 = .ok (.iload_n 2, 1) := by decide +kernel
theorem dX7_see_78 : decode cX7_see 78 = .ok (.iastore, 1) := by decide +kernel
theorem dX7_see_79 : decode cX7_see 79 = .ok (.aload_n 0, 1) := by decide +kernel
theorem dX7_see_80 : decode cX7_see 80 = .ok (.getfield 42, 3) := by decide +kernel
theorem dX7_see_83 : decode cX7_see 83 = .ok (.aload_n 0, 1) := by decide +kernel
theorem dX7_see_84 : decode cX7_see 84 = .ok (.getfield 253, 3) := by decide +kernel
theorem dX7_see_87 : decode cX7_see 87 = .ok (.iload_n 3, 1) := by decide +kernel
theorem dX7_see_88 : decode cX7_see 88 = .ok (.iastore, 1) := by decide +kernel
theorem dX7_see_89 : decode cX7_see 89 = .ok (.aload_n 0, 1) := by decide +kernel
theorem dX7_see_90 : decode cX7_see 90 = .ok (.dup, 1) := by decide +kernel
theorem dX7_see_91 : decode cX7_see 91 = .ok (.getfield 253, 3) := by decide +kernel
theorem dX7_see_94 : decode cX7_see 94 = .ok (.iconst 1, 1) := by decide +kernel
theorem dX7_see_95 : decode cX7_see 95 = .ok (.iadd, 1) := by decide +kernel
theorem dX7_see_96 : decode cX7_see 96 = .ok (.putfield 253, 3) := by decide +kernel
theorem dX7_see_99 : decode cX7_see 99 = .ok (.aload_n 0, 1) := by decide +kernel
theorem dX7_see_100 : decode cX7_see 100 = .ok (.getfield 253, 3) := by decide +kernel
theorem dX7_see_103 : decode cX7_see 103 = .ok (.ireturn, 1) := by decide +kernel
theorem dX7_unsee_0 : decode cX7_unsee 0 = .ok (.aload_n 0, 1) := by decide +kernel
theorem dX7_unsee_1 : decode cX7_unsee 1 = .ok (.iconst 0, 1) := by decide +kernel
theorem dX7_unsee_2 : decode cX7_unsee 2 = .ok (.putfield 67, 3) := by decide +kernel
theorem dX7_unsee_5 : decode cX7_unsee 5 = .ok (.aload_n 0, 1) := by decide +kernel
theorem dX7_unsee_6 : decode cX7_unsee 6 = .ok (.getfield 253, 3) := by decide +kernel
theorem dX7_unsee_9 : decode cX7_unsee 9 = .ok (.istore_n 1, 1) := by decide +kernel
theorem dX7_unsee_10 : decode cX7_unsee 10 = .ok (.aload_n 0, 1) := by decide +kernel
theorem dX7_unsee_11 : decode cX7_unsee 11 = .ok (.iconst 0, 1) := by decide +kernel
theorem dX7_unsee_12 : decode cX7_unsee 12 = .ok (.putfield 253, 3) := by decide +kernel
theorem dX7_unsee_15 : decode cX7_unsee 15 = .ok (.iload_n 1, 1) := by decide +kernel
theorem dX7_unsee_16 : decode cX7_unsee 16 = .ok (.ireturn, 1) := by decide +kernel
theorem dX7_which_0 : decode cX7_which 0 = .ok (.aload_n 0, 1) := by decide +kernel
theorem dX7_which_1 : decode cX7_which 1 = .ok (.iconst 0, 1) := by decide +kernel
theorem dX7_which_2 : decode cX7_which 2 = .ok (.putfield 67, 3) := by decide +kernel
theorem dX7_which_5 : decode cX7_which 5 = .ok (.iload_n 1, 1) := by decide +kernel
theorem dX7_which_6 : decode cX7_which 6 = .ok (.i2l, 1) := by decide +kernel
theorem dX7_which_7 : decode cX7_which 7 = .ok (.lconst 0, 1) := by decide +kernel
theorem dX7_which_8 : decode cX7_which 8 = .ok (.lconst 1, 1) := by decide +kernel
theorem dX7_which_9 : decode cX7_which 9 = .ok (.invokestatic 72, 3) := by decide +kernel
theorem dX7_which_12 : decode cX7_which 12 = .ok (.ifCond .ne 6, 3) := by decide +kernel
theorem dX7_which_15 : decode cX7_which 15 = .ok (.bipush (-2), 2) := by decide +kernel
theorem dX7_which_17 : decode cX7_which 17 = .ok (.ireturn, 1) := by decide +kernel
theorem dX7_which_18 : decode cX7_which 18 = .ok (.iconst 0, 1) := by decide +kernel
theorem dX7_which_19 : decode cX7_which 19 = .ok (.istore_n 2, 1) := by decide +kernel
theorem dX7_which_20 : decode cX7_which 20 = .ok (.bipush (-9), 2) := by decide +kernel
theorem dX7_which_22 : decode cX7_which 22 = .ok (.istore_n 3, 1) := by decide +kernel
theorem dX7_which_23 : decode cX7_which 23 = .ok (.iconst 0, 1) := by decide +kernel
theorem dX7_which_24 : decode cX7_which 24 = .ok (.istore 4, 2) := by decide +kernel
theorem dX7_which_26 : decode cX7_which 26 = .ok (.aload_n 0, 1) := by decide +kernel
theorem dX7_which_27 : decode cX7_which 27 = .ok (.aload_n 0, 1) := by decide +kernel
theorem dX7_which_28 : decode cX7_which 28 = .ok (.getfield 20, 3) := by decide +kernel
theorem dX7_which_31 : decode cX7_which 31 = .ok (.invokevirtual 171, 3) := by decide +kernel
theorem dX7_which_34 : decode cX7_which 34 = .ok (.aload_n 0, 1) := by decide +kernel
theorem dX7_which_35 : decode cX7_which 35 = .ok (.invokevirtual 164, 3) := by decide +kernel
theorem dX7_which_38 : decode cX7_which 38 = .ok (.ifCond .eq 162, 3) := by decide +kernel
theorem dX7_which_41 : decode cX7_which 41 = .ok (.iconst 1, 1) := by decide +kernel
theorem dX7_which_42 : decode cX7_which 42 = .ok (.istore 5, 2) := by decide +kernel
theorem dX7_which_44 : decode cX7_which 44 = .ok (.iconst 0, 1) := by decide +kernel
theorem dX7_which_45 : decode cX7_which 45 = .ok (.istore 6, 2) := by decide +kernel
theorem dX7_which_47 : decode cX7_which 47 = .ok (.iload 6, 2) := by decide +kernel
theorem dX7_which_49 : decode cX7_which 49 = .ok (.aload_n 0, 1) := by decide +kernel
theorem dX7_which_50 : decode cX7_which 50 = .ok (.getfield 253, 3) := by decide +kernel
theorem dX7_which_53 : decode cX7_which 53 = .ok (.if_icmp .ge 112, 3) := by decide +kernel
theorem dX7_which_56 : decode cX7_which 56 = .ok (.aload_n 0, 1) := by decide +kernel
theorem dX7_which_57 : decode cX7_which 57 = .ok (.getfield 36, 3) := by decide +kernel
theorem dX7_which_60 : decode cX7_which 60 = .ok (.iload 6, 2) := by decide +kernel
theorem dX7_which_62 : decode cX7_which 62 = .ok (.iaload, 1) := by decide +kernel
theorem dX7_which_63 : decode cX7_which 63 = .ok (.aload_n 0, 1) := by decide +kernel
theorem dX7_which_64 : decode cX7_which 64 = .ok (.getfield 142, 3) := by decide +kernel
theorem dX7_which_67 : decode cX7_which 67 = .ok (.if_icmp .gt 21, 3) := by decide +kernel
theorem dX7_which_70 : decode cX7_which 70 = .ok (.aload_n 0, 1) := by decide +kernel
theorem dX7_which_71 : decode cX7_which 71 = .ok (.getfield 39, 3) := by decide +kernel
theorem dX7_which_74 : decode cX7_which 74 = .ok (.iload 6, 2) := by decide +kernel
theorem dX7_which_76 : decode cX7_which 76 = .ok (.iaload, 1) := by decide +kernel
theorem dX7_which_77 : decode cX7_which 77 = .ok (.aload_n 0, 1) := by decide +kernel
theorem dX7_which_78 : decode cX7_which 78 = .ok (.getfield 142, 3) := by decide +kernel
theorem dX7_which_81 : decode cX7_which 81 = .ok (.if_icmp .gt 7, 3) := by decide +kernel
theorem dX7_which_84 : decode cX7_which 84 = .ok (.iconst 1, 1) := by decide +kernel
theorem dX7_which_85 : decode cX7_which 85 = .ok (.goto 4, 3) := by decide +kernel
theorem dX7_which_88 : decode cX7_which 88 = .ok (.iconst 0, 1) := by decide +kernel
theorem dX7_which_89 : decode cX7_which 89 = .ok (.istore 7, 2) := by decide +kernel
theorem dX7_which_91 : decode cX7_which 91 = .ok (.iload 5, 2) := by decide +kernel
theorem dX7_which_93 : decode cX7_which 93 = .ok (.ifCond .eq 63, 3) := by decide +kernel
theorem dX7_which_96 : decode cX7_which 96 = .ok (.iload 7, 2) := by decide +kernel
theorem dX7_which_98 : decode cX7_which 98 = .ok (.ifCond .eq 54, 3) := by decide +kernel
theorem dX7_which_101 : decode cX7_which 101 = .ok (.aload_n 0, 1) := by decide +kernel
theorem dX7_which_102 : decode cX7_which 102 = .ok (.getfield 51, 3) := by decide +kernel
theorem dX7_which_105 : decode cX7_which 105 = .ok (.aload_n 0, 1) := by decide +kernel
theorem dX7_which_106 : decode cX7_which 106 = .ok (.getfield 36, 3) := by decide +kernel
theorem dX7_which_109 : decode cX7_which 109 = .ok (.iload 6, 2) := by decide +kernel
theorem dX7_which_111 : decode cX7_which 111 = .ok (.iaload, 1) := by decide +kernel
theorem dX7_which_112 : decode cX7_which 112 = .ok (.iaload, 1) := by decide +kernel
theorem dX7_which_113 : decode cX7_which 113 = .ok (.aload_n 0, 1) := by decide +kernel
theorem dX7_which_114 : decode cX7_which 114 = .ok (.getfield 51, 3) := by decide +kernel
theorem dX7_which_117 : decode cX7_which 117 = .ok (.aload_n 0, 1) := by decide +kernel
theorem dX7_which_118 : decode cX7_which 118 = .ok (.getfield 39, 3) := by decide +kernel
theorem dX7_which_121 : decode cX7_which 121 = .ok (.iload 6, 2) := by decide +kernel
theorem dX7_which_123 : decode cX7_which 123 = .ok (.iaload, 1) := by decide +kernel
theorem dX7_which_124 : decode cX7_which 124 = .ok (.iaload, 1) := by decide +kernel
theorem dX7_which_125 : decode cX7_which 125 = .ok (.if_icmp .ne 7, 3) := by decide +kernel
theorem dX7_which_128 : decode cX7_which 128 = .ok (.iconst 1, 1) := by decide +kernel
theorem dX7_which_129 : decode cX7_which 129 = .ok (.goto 4, 3) := by decide +kernel
theorem dX7_which_132 : decode cX7_which 132 = .ok (.iconst 0, 1) := by decide +kernel
theorem dX7_which_133 : decode cX7_which 133 = .ok (.aload_n 0, 1) := by decide +kernel
theorem dX7_which_134 : decode cX7_which 134 = .ok (.getfield 42, 3) := by decide +kernel
theorem dX7_which_137 : decode cX7_which 137 = .ok (.iload 6, 2) := by decide +kernel
theorem dX7_which_139 : decode cX7_which 139 = .ok (.iaload, 1) := by decide +kernel
theorem dX7_which_140 : decode cX7_which 140 = .ok (.iconst 1, 1) := by decide +kernel
theorem dX7_which_141 : decode cX7_which 141 = .ok (.if_icmp .ne 7, 3) := by decide +kernel
theorem dX7_which_144 : decode cX7_which 144 = .ok (.iconst 1, 1) := by decide +kernel
theorem dX7_which_145 : decode cX7_which 145 = .ok (.goto 4, 3) := by decide +kernel
theorem dX7_which_148 : decode cX7_which 148 = .ok (.iconst 0, 1) := by decide +kernel
theorem dX7_which_149 : decode cX7_which 149 = .ok (.if_icmp .ne 7, 3) := by decide +kernel
theorem dX7_which_152 : decode cX7_which 152 = .ok (.iconst 1, 1) := by decide +kernel
theorem dX7_which_153 : decode cX7_which 153 = .ok (.goto 4, 3) := by decide +kernel
theorem dX7_which_156 : decode cX7_which 156 = .ok (.iconst 0, 1) := by decide +kernel
theorem dX7_which_157 : decode cX7_which 157 = .ok (.istore 5, 2) := by decide +kernel
theorem dX7_which_159 : decode cX7_which 159 = .ok (.iinc 6 1, 3) := by decide +kernel
theorem dX7_which_162 : decode cX7_which 162 = .ok (.goto (-115), 3) := by decide +kernel
theorem dX7_which_165 : decode cX7_which 165 = .ok (.iload 5, 2) := by decide +kernel
theorem dX7_which_167 : decode cX7_which 167 = .ok (.ifCond .eq 12, 3) := by decide +kernel
theorem dX7_which_170 : decode cX7_which 170 = .ok (.iload_n 2, 1) := by decide +kernel
theorem dX7_which_171 : decode cX7_which 171 = .ok (.ifCond .ne 8, 3) := by decide +kernel
theorem dX7_which_174 : decode cX7_which 174 = .ok (.iload 4, 2) := by decide +kernel
theorem dX7_which_176 : decode cX7_which 176 = .ok (.goto 4, 3) := by decide +kernel
theorem dX7_which_179 : decode cX7_which 179 = .ok (.iload_n 3, 1) := by decide +kernel
theorem dX7_which_180 : decode cX7_which 180 = .ok (.istore_n 3, 1) := by decide +kernel
theorem dX7_which_181 : decode cX7_which 181 = .ok (.iload_n 2, 1) := by decide +kernel
theorem dX7_which_182 : decode cX7_which 182 = .ok (.iload 5, 2) := by decide +kernel
theorem dX7_which_184 : decode cX7_which 184 = .ok (.ifCond .eq 7, 3) := by decide +kernel
theorem dX7_which_187 : decode cX7_which 187 = .ok (.iconst 1, 1) := by decide +kernel
theorem dX7_which_188 : decode cX7_which 188 = .ok (.goto 4, 3) := by decide +kernel
theorem dX7_which_191 : decode cX7_which 191 = .ok (.iconst 0, 1) := by decide +kernel
theorem dX7_which_192 : decode cX7_which 192 = .ok (.iadd, 1) := by decide +kernel
theorem dX7_which_193 : decode cX7_which 193 = .ok (.istore_n 2, 1) := by decide +kernel
theorem dX7_which_194 : decode cX7_which 194 = .ok (.iinc 4 1, 3) := by decide +kernel
theorem dX7_which_197 : decode cX7_which 197 = .ok (.goto (-163), 3) := by decide +kernel
theorem dX7_which_200 : decode cX7_which 200 = .ok (.iload_n 1, 1) := by decide +kernel
theorem dX7_which_201 : decode cX7_which 201 = .ok (.ifCond .ne 7, 3) := by decide +kernel
theorem dX7_which_204 : decode cX7_which 204 = .ok (.iload_n 2, 1) := by decide +kernel
theorem dX7_which_205 : decode cX7_which 205 = .ok (.goto 4, 3) := by decide +kernel
theorem dX7_which_208 : decode cX7_which 208 = .ok (.iload_n 3, 1) := by decide +kernel
theorem dX7_which_209 : decode cX7_which 209 = .ok (.ireturn, 1) := by decide +kernel
theorem dX7_divisor_0 : decode cX7_divisor 0 = .ok (.iload_n 0, 1) := by decide +kernel
theorem dX7_divisor_1 : decode cX7_divisor 1 = .ok (.ifCond .ge 8, 3) := by decide +kernel
theorem dX7_divisor_4 : decode cX7_divisor 4 = .ok (.iload_n 0, 1) := by decide +kernel
theorem dX7_divisor_5 : decode cX7_divisor 5 = .ok (.ineg, 1) := by decide +kernel
theorem dX7_divisor_6 : decode cX7_divisor 6 = .ok (.goto 4, 3) := by decide +kernel
theorem dX7_divisor_9 : decode cX7_divisor 9 = .ok (.iload_n 0, 1) := by decide +kernel
theorem dX7_divisor_10 : decode cX7_divisor 10 = .ok (.istore_n 2, 1) := by decide +kernel
theorem dX7_divisor_11 : decode cX7_divisor 11 = .ok (.iload_n 1, 1) := by decide +kernel
theorem dX7_divisor_12 : decode cX7_divisor 12 = .ok (.istore_n 3, 1) := by decide +kernel
theorem dX7_divisor_13 : decode cX7_divisor 13 = .ok (.iload_n 3, 1) := by decide +kernel
theorem dX7_divisor_14 : decode cX7_divisor 14 = .ok (.ifCond .eq 16, 3) := by decide +kernel
theorem dX7_divisor_17 : decode cX7_divisor 17 = .ok (.iload_n 2, 1) := by decide +kernel
theorem dX7_divisor_18 : decode cX7_divisor 18 = .ok (.iload_n 3, 1) := by decide +kernel
theorem dX7_divisor_19 : decode cX7_divisor 19 = .ok (.irem, 1) := by decide +kernel
theorem dX7_divisor_20 : decode cX7_divisor 20 = .ok (.istore 4, 2) := by decide +kernel
theorem dX7_divisor_22 : decode cX7_divisor 22 = .ok (.iload_n 3, 1) := by decide +kernel
theorem dX7_divisor_23 : decode cX7_divisor 23 = .ok (.istore_n 2, 1) := by decide +kernel
theorem dX7_divisor_24 : decode cX7_divisor 24 = .ok (.iload 4, 2) := by decide +kernel
theorem dX7_divisor_26 : decode cX7_divisor 26 = .ok (.istore_n 3, 1) := by decide +kernel
theorem dX7_divisor_27 : decode cX7_divisor 27 = .ok (.goto (-14), 3) := by decide +kernel
theorem dX7_divisor_30 : decode cX7_divisor 30 = .ok (.iload_n 2, 1) := by decide +kernel
theorem dX7_divisor_31 : decode cX7_divisor 31 = .ok (.ireturn, 1) := by decide +kernel
theorem dX7_fraction_0 : decode cX7_fraction 0 = .ok (.iload_n 0, 1) := by decide +kernel
theorem dX7_fraction_1 : decode cX7_fraction 1 = .ok (.iload_n 1, 1) := by decide +kernel
theorem dX7_fraction_2 : decode cX7_fraction 2 = .ok (.invokestatic 256, 3) := by decide +kernel
theorem dX7_fraction_5 : decode cX7_fraction 5 = .ok (.istore_n 3, 1) := by decide +kernel
theorem dX7_fraction_6 : decode cX7_fraction 6 = .ok (.iload_n 2, 1) := by decide +kernel
theorem dX7_fraction_7 : decode cX7_fraction 7 = .ok (.ifCond .eq 9, 3) := by decide +kernel
theorem dX7_fraction_10 : decode cX7_fraction 10 = .ok (.iload_n 0, 1) := by decide +kernel
theorem dX7_fraction_11 : decode cX7_fraction 11 = .ok (.iload_n 3, 1) := by decide +kernel
theorem dX7_fraction_12 : decode cX7_fraction 12 = .ok (.idiv, 1) := by decide +kernel
theorem dX7_fraction_13 : decode cX7_fraction 13 = .ok (.goto 6, 3) := by decide +kernel
theorem dX7_fraction_16 : decode cX7_fraction 16 = .ok (.iload_n 1, 1) := by decide +kernel
theorem dX7_fraction_17 : decode cX7_fraction 17 = .ok (.iload_n 3, 1) := by decide +kernel
theorem dX7_fraction_18 : decode cX7_fraction 18 = .ok (.idiv, 1) := by decide +kernel
theorem dX7_fraction_19 : decode cX7_fraction 19 = .ok (.ireturn, 1) := by decide +kernel
theorem dX7_factorial_0 : decode cX7_factorial 0 = .ok (.iconst 1, 1) := by decide +kernel
theorem dX7_factorial_1 : decode cX7_factorial 1 = .ok (.istore_n 1, 1) := by decide +kernel
theorem dX7_factorial_2 : decode cX7_factorial 2 = .ok (.iconst 2, 1) := by decide +kernel
theorem dX7_factorial_3 : decode cX7_factorial 3 = .ok (.istore_n 2, 1) := by decide +kernel
theorem dX7_factorial_4 : decode cX7_factorial 4 = .ok (.iload_n 2, 1) := by decide +kernel
theorem dX7_factorial_5 : decode cX7_factorial 5 = .ok (.iload_n 0, 1) := by decide +kernel
theorem dX7_factorial_6 : decode cX7_factorial 6 = .ok (.if_icmp .gt 13, 3) := by decide +kernel
theorem dX7_factorial_9 : decode cX7_factorial 9 = .ok (.iload_n 1, 1) := by decide +kernel
theorem dX7_factorial_10 : decode cX7_factorial 10 = .ok (.iload_n 2, 1) := by decide +kernel
theorem dX7_factorial_11 : decode cX7_factorial 11 = .ok (.imul, 1) := by decide +kernel
theorem dX7_factorial_12 : decode cX7_factorial 12 = .ok (.istore_n 1, 1) := by decide +kernel
theorem dX7_factorial_13 : decode cX7_factorial 13 = .ok (.iinc 2 1, 3) := by decide +kernel
theorem dX7_factorial_16 : decode cX7_factorial 16 = .ok (.goto (-12), 3) := by decide +kernel
theorem dX7_factorial_19 : decode cX7_factorial 19 = .ok (.iload_n 1, 1) := by decide +kernel
theorem dX7_factorial_20 : decode cX7_factorial 20 = .ok (.ireturn, 1) := by decide +kernel
theorem dX7_share_0 : decode cX7_share 0 = .ok (.aload_n 0, 1) := by decide +kernel
theorem dX7_share_1 : decode cX7_share 1 = .ok (.iconst 0, 1) := by decide +kernel
theorem dX7_share_2 : decode cX7_share 2 = .ok (.putfield 67, 3) := by decide +kernel
theorem dX7_share_5 : decode cX7_share 5 = .ok (.aload_n 0, 1) := by decide +kernel
theorem dX7_share_6 : decode cX7_share 6 = .ok (.iload_n 1, 1) := by decide +kernel
theorem dX7_share_7 : decode cX7_share 7 = .ok (.invokevirtual 185, 3) := by decide +kernel
theorem dX7_share_10 : decode cX7_share 10 = .ok (.ifCond .eq 5, 3) := by decide +kernel
theorem dX7_share_13 : decode cX7_share 13 = .ok (.iconst (-1), 1) := by decide +kernel
theorem dX7_share_14 : decode cX7_share 14 = .ok (.ireturn, 1) := by decide +kernel
theorem dX7_share_15 : decode cX7_share 15 = .ok (.aload_n 0, 1) := by decide +kernel
theorem dX7_share_16 : decode cX7_share 16 = .ok (.getfield 20, 3) := by decide +kernel
theorem dX7_share_19 : decode cX7_share 19 = .ok (.iconst 1, 1) := by decide +kernel
theorem dX7_share_20 : decode cX7_share 20 = .ok (.iaload, 1) := by decide +kernel
theorem dX7_share_21 : decode cX7_share 21 = .ok (.istore_n 3, 1) := by decide +kernel
theorem dX7_share_22 : decode cX7_share 22 = .ok (.iconst 0, 1) := by decide +kernel
theorem dX7_share_23 : decode cX7_share 23 = .ok (.istore 4, 2) := by decide +kernel
theorem dX7_share_25 : decode cX7_share 25 = .ok (.iconst 0, 1) := by decide +kernel
theorem dX7_share_26 : decode cX7_share 26 = .ok (.istore 5, 2) := by decide +kernel
theorem dX7_share_28 : decode cX7_share 28 = .ok (.iload 5, 2) := by decide +kernel
theorem dX7_share_30 : decode cX7_share 30 = .ok (.iconst 1, 1) := by decide +kernel
theorem dX7_share_31 : decode cX7_share 31 = .ok (.iload_n 3, 1) := by decide +kernel
theorem dX7_share_32 : decode cX7_share 32 = .ok (.ishl, 1) := by decide +kernel
theorem dX7_share_33 : decode cX7_share 33 = .ok (.if_icmp .ge 71, 3) := by decide +kernel
theorem dX7_share_36 : decode cX7_share 36 = .ok (.iload 5, 2) := by decide +kernel
theorem dX7_share_38 : decode cX7_share 38 = .ok (.iload_n 1, 1) := by decide +kernel
theorem dX7_share_39 : decode cX7_share 39 = .ok (.invokestatic 122, 3) := by decide +kernel
theorem dX7_share_42 : decode cX7_share 42 = .ok (.ifCond .ne 56, 3) := by decide +kernel
theorem dX7_share_45 : decode cX7_share 45 = .ok (.iload 5, 2) := by decide +kernel
theorem dX7_share_47 : decode cX7_share 47 = .ok (.invokestatic 201, 3) := by decide +kernel
theorem dX7_share_50 : decode cX7_share 50 = .ok (.istore 6, 2) := by decide +kernel
theorem dX7_share_52 : decode cX7_share 52 = .ok (.iload 4, 2) := by decide +kernel
theorem dX7_share_54 : decode cX7_share 54 = .ok (.iload 6, 2) := by decide +kernel
theorem dX7_share_56 : decode cX7_share 56 = .ok (.invokestatic 259, 3) := by decide +kernel
theorem dX7_share_59 : decode cX7_share 59 = .ok (.iload_n 3, 1) := by decide +kernel
theorem dX7_share_60 : decode cX7_share 60 = .ok (.iconst 1, 1) := by decide +kernel
theorem dX7_share_61 : decode cX7_share 61 = .ok (.isub, 1) := by decide +kernel
theorem dX7_share_62 : decode cX7_share 62 = .ok (.iload 6, 2) := by decide +kernel
theorem dX7_share_64 : decode cX7_share 64 = .ok (.isub, 1) := by decide +kernel
theorem dX7_share_65 : decode cX7_share 65 = .ok (.invokestatic 259, 3) := by decide +kernel
theorem dX7_share_68 : decode cX7_share 68 = .ok (.imul, 1) := by decide +kernel
theorem dX7_share_69 : decode cX7_share 69 = .ok (.aload_n 0, 1) := by decide +kernel
theorem dX7_share_70 : decode cX7_share 70 = .ok (.aload_n 0, 1) := by decide +kernel
theorem dX7_share_71 : decode cX7_share 71 = .ok (.getfield 20, 3) := by decide +kernel
theorem dX7_share_74 : decode cX7_share 74 = .ok (.iload 5, 2) := by decide +kernel
theorem dX7_share_76 : decode cX7_share 76 = .ok (.invokevirtual 167, 3) := by decide +kernel
theorem dX7_share_79 : decode cX7_share 79 = .ok (.aload_n 0, 1) := by decide +kernel
theorem dX7_share_80 : decode cX7_share 80 = .ok (.aload_n 0, 1) := by decide +kernel
theorem dX7_share_81 : decode cX7_share 81 = .ok (.getfield 20, 3) := by decide +kernel
theorem dX7_share_84 : decode cX7_share 84 = .ok (.iload 5, 2) := by decide +kernel
theorem dX7_share_86 : decode cX7_share 86 = .ok (.iconst 1, 1) := by decide +kernel
theorem dX7_share_87 : decode cX7_share 87 = .ok (.iload_n 1, 1) := by decide +kernel
theorem dX7_share_88 : decode cX7_share 88 = .ok (.ishl, 1) := by decide +kernel
theorem dX7_share_89 : decode cX7_share 89 = .ok (.ior, 1) := by decide +kernel
theorem dX7_share_90 : decode cX7_share 90 = .ok (.invokevirtual 167, 3) := by decide +kernel
theorem dX7_share_93 : decode cX7_share 93 = .ok (.isub, 1) := by decide +kernel
theorem dX7_share_94 : decode cX7_share 94 = .ok (.imul, 1) := by decide +kernel
theorem dX7_share_95 : decode cX7_share 95 = .ok (.iadd, 1) := by decide +kernel
theorem dX7_share_96 : decode cX7_share 96 = .ok (.istore 4, 2) := by decide +kernel
theorem dX7_share_98 : decode cX7_share 98 = .ok (.iinc 5 1, 3) := by decide +kernel
theorem dX7_share_101 : decode cX7_share 101 = .ok (.goto (-73), 3) := by decide +kernel
theorem dX7_share_104 : decode cX7_share 104 = .ok (.iload 4, 2) := by decide +kernel
theorem dX7_share_106 : decode cX7_share 106 = .ok (.iload_n 3, 1) := by decide +kernel
theorem dX7_share_107 : decode cX7_share 107 = .ok (.invokestatic 259, 3) := by decide +kernel
theorem dX7_share_110 : decode cX7_share 110 = .ok (.iload_n 2, 1) := by decide +kernel
theorem dX7_share_111 : decode cX7_share 111 = .ok (.invokestatic 262, 3) := by decide +kernel
theorem dX7_share_114 : decode cX7_share 114 = .ok (.ireturn, 1) := by decide +kernel
theorem dX7_luck_0 : decode cX7_luck 0 = .ok (.aload_n 0, 1) := by decide +kernel
theorem dX7_luck_1 : decode cX7_luck 1 = .ok (.iconst 0, 1) := by decide +kernel
theorem dX7_luck_2 : decode cX7_luck 2 = .ok (.putfield 67, 3) := by decide +kernel
theorem dX7_luck_5 : decode cX7_luck 5 = .ok (.aload_n 0, 1) := by decide +kernel
theorem dX7_luck_6 : decode cX7_luck 6 = .ok (.aload_n 0, 1) := by decide +kernel
theorem dX7_luck_7 : decode cX7_luck 7 = .ok (.getfield 20, 3) := by decide +kernel
theorem dX7_luck_10 : decode cX7_luck 10 = .ok (.invokevirtual 118, 3) := by decide +kernel
theorem dX7_luck_13 : decode cX7_luck 13 = .ok (.aload_n 0, 1) := by decide +kernel
theorem dX7_luck_14 : decode cX7_luck 14 = .ok (.getfield 13, 3) := by decide +kernel
theorem dX7_luck_17 : decode cX7_luck 17 = .ok (.aload_n 0, 1) := by decide +kernel
theorem dX7_luck_18 : decode cX7_luck 18 = .ok (.getfield 20, 3) := by decide +kernel
theorem dX7_luck_21 : decode cX7_luck 21 = .ok (.iconst 0, 1) := by decide +kernel
theorem dX7_luck_22 : decode cX7_luck 22 = .ok (.iaload, 1) := by decide +kernel
theorem dX7_luck_23 : decode cX7_luck 23 = .ok (.invokestatic 266, 3) := by decide +kernel
theorem dX7_luck_26 : decode cX7_luck 26 = .ok (.iload_n 1, 1) := by decide +kernel
theorem dX7_luck_27 : decode cX7_luck 27 = .ok (.invokestatic 262, 3) := by decide +kernel
theorem dX7_luck_30 : decode cX7_luck 30 = .ok (.ireturn, 1) := by decide +kernel
theorem dX7_lost_0 : decode cX7_lost 0 = .ok (.aload_n 0, 1) := by decide +kernel
theorem dX7_lost_1 : decode cX7_lost 1 = .ok (.iconst 0, 1) := by decide +kernel
theorem dX7_lost_2 : decode cX7_lost 2 = .ok (.putfield 67, 3) := by decide +kernel
theorem dX7_lost_5 : decode cX7_lost 5 = .ok (.iload_n 1, 1) := by decide +kernel
theorem dX7_lost_6 : decode cX7_lost 6 = .ok (.i2l, 1) := by decide +kernel
theorem dX7_lost_7 : decode cX7_lost 7 = .ok (.lconst 0, 1) := by decide +kernel
theorem dX7_lost_8 : decode cX7_lost 8 = .ok (.ldc2_w 215, 3) := by decide +kernel
theorem dX7_lost_11 : decode cX7_lost 11 = .ok (.invokestatic 72, 3) := by decide +kernel
theorem dX7_lost_14 : decode cX7_lost 14 = .ok (.ifCond .ne 6, 3) := by decide +kernel
theorem dX7_lost_17 : decode cX7_lost 17 = .ok (.bipush (-2), 2) := by decide +kernel
theorem dX7_lost_19 : decode cX7_lost 19 = .ok (.ireturn, 1) := by decide +kernel
theorem dX7_lost_20 : decode cX7_lost 20 = .ok (.aload_n 0, 1) := by decide +kernel
theorem dX7_lost_21 : decode cX7_lost 21 = .ok (.getfield 20, 3) := by decide +kernel
theorem dX7_lost_24 : decode cX7_lost 24 = .ok (.iconst 1, 1) := by decide +kernel
theorem dX7_lost_25 : decode cX7_lost 25 = .ok (.iaload, 1) := by decide +kernel
theorem dX7_lost_26 : decode cX7_lost 26 = .ok (.istore_n 3, 1) := by decide +kernel
theorem dX7_lost_27 : decode cX7_lost 27 = .ok (.iconst 0, 1) := by decide +kernel
theorem dX7_lost_28 : decode cX7_lost 28 = .ok (.istore 4, 2) := by decide +kernel
theorem dX7_lost_30 : decode cX7_lost 30 = .ok (.iconst 0, 1) := by decide +kernel
theorem dX7_lost_31 : decode cX7_lost 31 = .ok (.istore 5, 2) := by decide +kernel
theorem dX7_lost_33 : decode cX7_lost 33 = .ok (.iload 5, 2) := by decide +kernel
theorem dX7_lost_35 : decode cX7_lost 35 = .ok (.iconst 1, 1) := by decide +kernel
theorem dX7_lost_36 : decode cX7_lost 36 = .ok (.iload_n 3, 1) := by decide +kernel
theorem dX7_lost_37 : decode cX7_lost 37 = .ok (.ishl, 1) := by decide +kernel
theorem dX7_lost_38 : decode cX7_lost 38 = .ok (.if_icmp .ge 66, 3) := by decide +kernel
theorem dX7_lost_41 : decode cX7_lost 41 = .ok (.aload_n 0, 1) := by decide +kernel
theorem dX7_lost_42 : decode cX7_lost 42 = .ok (.aload_n 0, 1) := by decide +kernel
theorem dX7_lost_43 : decode cX7_lost 43 = .ok (.getfield 20, 3) := by decide +kernel
theorem dX7_lost_46 : decode cX7_lost 46 = .ok (.iload 5, 2) := by decide +kernel
theorem dX7_lost_48 : decode cX7_lost 48 = .ok (.aload_n 0, 1) := by decide +kernel
theorem dX7_lost_49 : decode cX7_lost 49 = .ok (.getfield 20, 3) := by decide +kernel
theorem dX7_lost_52 : decode cX7_lost 52 = .ok (.iconst 0, 1) := by decide +kernel
theorem dX7_lost_53 : decode cX7_lost 53 = .ok (.iaload, 1) := by decide +kernel
theorem dX7_lost_54 : decode cX7_lost 54 = .ok (.iconst 1, 1) := by decide +kernel
theorem dX7_lost_55 : decode cX7_lost 55 = .ok (.invokevirtual 160, 3) := by decide +kernel
theorem dX7_lost_58 : decode cX7_lost 58 = .ok (.iload 4, 2) := by decide +kernel
theorem dX7_lost_60 : decode cX7_lost 60 = .ok (.aload_n 0, 1) := by decide +kernel
theorem dX7_lost_61 : decode cX7_lost 61 = .ok (.invokevirtual 164, 3) := by decide +kernel
theorem dX7_lost_64 : decode cX7_lost 64 = .ok (.ifCond .eq 30, 3) := by decide +kernel
theorem dX7_lost_67 : decode cX7_lost 67 = .ok (.bipush 10, 2) := by decide +kernel
theorem dX7_lost_69 : decode cX7_lost 69 = .ok (.iload_n 1, 1) := by decide +kernel
theorem dX7_lost_70 : decode cX7_lost 70 = .ok (.isub, 1) := by decide +kernel
theorem dX7_lost_71 : decode cX7_lost 71 = .ok (.iload 5, 2) := by decide +kernel
theorem dX7_lost_73 : decode cX7_lost 73 = .ok (.invokestatic 201, 3) := by decide +kernel
theorem dX7_lost_76 : decode cX7_lost 76 = .ok (.invokestatic 266, 3) := by decide +kernel
theorem dX7_lost_79 : decode cX7_lost 79 = .ok (.iload_n 1, 1) := by decide +kernel
theorem dX7_lost_80 : decode cX7_lost 80 = .ok (.iload_n 3, 1) := by decide +kernel
theorem dX7_lost_81 : decode cX7_lost 81 = .ok (.iload 5, 2) := by decide +kernel
theorem dX7_lost_83 : decode cX7_lost 83 = .ok (.invokestatic 201, 3) := by decide +kernel
theorem dX7_lost_86 : decode cX7_lost 86 = .ok (.isub, 1) := by decide +kernel
theorem dX7_lost_87 : decode cX7_lost 87 = .ok (.invokestatic 266, 3) := by decide +kernel
theorem dX7_lost_90 : decode cX7_lost 90 = .ok (.imul, 1) := by decide +kernel
theorem dX7_lost_91 : decode cX7_lost 91 = .ok (.goto 4, 3) := by decide +kernel
theorem dX7_lost_94 : decode cX7_lost 94 = .ok (.iconst 0, 1) := by decide +kernel
theorem dX7_lost_95 : decode cX7_lost 95 = .ok (.iadd, 1) := by decide +kernel
theorem dX7_lost_96 : decode cX7_lost 96 = .ok (.istore 4, 2) := by decide +kernel
theorem dX7_lost_98 : decode cX7_lost 98 = .ok (.iinc 5 1, 3) := by decide +kernel
theorem dX7_lost_101 : decode cX7_lost 101 = .ok (.goto (-68), 3) := by decide +kernel
theorem dX7_lost_104 : decode cX7_lost 104 = .ok (.iload 4, 2) := by decide +kernel
theorem dX7_lost_106 : decode cX7_lost 106 = .ok (.bipush 10, 2) := by decide +kernel
theorem dX7_lost_108 : decode cX7_lost 108 = .ok (.iload_n 3, 1) := by decide +kernel
theorem dX7_lost_109 : decode cX7_lost 109 = .ok (.invokestatic 266, 3) := by decide +kernel
theorem dX7_lost_112 : decode cX7_lost 112 = .ok (.iload_n 2, 1) := by decide +kernel
theorem dX7_lost_113 : decode cX7_lost 113 = .ok (.invokestatic 262, 3) := by decide +kernel
theorem dX7_lost_116 : decode cX7_lost 116 = .ok (.ireturn, 1) := by decide +kernel
theorem dX7_seed_0 : decode cX7_seed 0 = .ok (.aload_n 0, 1) := by decide +kernel
theorem dX7_seed_1 : decode cX7_seed 1 = .ok (.iconst 0, 1) := by decide +kernel
theorem dX7_seed_2 : decode cX7_seed 2 = .ok (.putfield 67, 3) := by decide +kernel
theorem dX7_seed_5 : decode cX7_seed 5 = .ok (.aload_n 0, 1) := by decide +kernel
theorem dX7_seed_6 : decode cX7_seed 6 = .ok (.getfield 269, 3) := by decide +kernel
theorem dX7_seed_9 : decode cX7_seed 9 = .ok (.lstore_n 3, 1) := by decide +kernel
theorem dX7_seed_10 : decode cX7_seed 10 = .ok (.aload_n 0, 1) := by decide +kernel
theorem dX7_seed_11 : decode cX7_seed 11 = .ok (.lload_n 1, 1) := by decide +kernel
theorem dX7_seed_12 : decode cX7_seed 12 = .ok (.putfield 269, 3) := by decide +kernel
theorem dX7_seed_15 : decode cX7_seed 15 = .ok (.lload_n 3, 1) := by decide +kernel
theorem dX7_seed_16 : decode cX7_seed 16 = .ok (.lreturn, 1) := by decide +kernel
theorem dX7_drawFor_0 : decode cX7_drawFor 0 = .ok (.aload_n 0, 1) := by decide +kernel
theorem dX7_drawFor_1 : decode cX7_drawFor 1 = .ok (.aload_n 0, 1) := by decide +kernel
theorem dX7_drawFor_2 : decode cX7_drawFor 2 = .ok (.getfield 269, 3) := by decide +kernel
theorem dX7_drawFor_5 : decode cX7_drawFor 5 = .ok (.ldc2_w 273, 3) := by decide +kernel
theorem dX7_drawFor_8 : decode cX7_drawFor 8 = .ok (.lmul, 1) := by decide +kernel
theorem dX7_drawFor_9 : decode cX7_drawFor 9 = .ok (.ldc2_w 275, 3) := by decide +kernel
theorem dX7_drawFor_12 : decode cX7_drawFor 12 = .ok (.ladd, 1) := by decide +kernel
theorem dX7_drawFor_13 : decode cX7_drawFor 13 = .ok (.putfield 269, 3) := by decide +kernel
theorem dX7_drawFor_16 : decode cX7_drawFor 16 = .ok (.aload_n 0, 1) := by decide +kernel
theorem dX7_drawFor_17 : decode cX7_drawFor 17 = .ok (.getfield 269, 3) := by decide +kernel
theorem dX7_drawFor_20 : decode cX7_drawFor 20 = .ok (.bipush 33, 2) := by decide +kernel
theorem dX7_drawFor_22 : decode cX7_drawFor 22 = .ok (.lushr, 1) := by decide +kernel
theorem dX7_drawFor_23 : decode cX7_drawFor 23 = .ok (.l2i, 1) := by decide +kernel
theorem dX7_drawFor_24 : decode cX7_drawFor 24 = .ok (.aload_n 0, 1) := by decide +kernel
theorem dX7_drawFor_25 : decode cX7_drawFor 25 = .ok (.getfield 13, 3) := by decide +kernel
theorem dX7_drawFor_28 : decode cX7_drawFor 28 = .ok (.irem, 1) := by decide +kernel
theorem dX7_drawFor_29 : decode cX7_drawFor 29 = .ok (.istore_n 2, 1) := by decide +kernel
theorem dX7_drawFor_30 : decode cX7_drawFor 30 = .ok (.iconst 0, 1) := by decide +kernel
theorem dX7_drawFor_31 : decode cX7_drawFor 31 = .ok (.istore_n 3, 1) := by decide +kernel
theorem dX7_drawFor_32 : decode cX7_drawFor 32 = .ok (.iload_n 3, 1) := by decide +kernel
theorem dX7_drawFor_33 : decode cX7_drawFor 33 = .ok (.aload_n 0, 1) := by decide +kernel
theorem dX7_drawFor_34 : decode cX7_drawFor 34 = .ok (.getfield 13, 3) := by decide +kernel
theorem dX7_drawFor_37 : decode cX7_drawFor 37 = .ok (.if_icmp .ge 54, 3) := by decide +kernel
theorem dX7_drawFor_40 : decode cX7_drawFor 40 = .ok (.iload_n 2, 1) := by decide +kernel
theorem dX7_drawFor_41 : decode cX7_drawFor 41 = .ok (.iload_n 3, 1) := by decide +kernel
theorem dX7_drawFor_42 : decode cX7_drawFor 42 = .ok (.iadd, 1) := by decide +kernel
theorem dX7_drawFor_43 : decode cX7_drawFor 43 = .ok (.aload_n 0, 1) := by decide +kernel
theorem dX7_drawFor_44 : decode cX7_drawFor 44 = .ok (.getfield 13, 3) := by decide +kernel
theorem dX7_drawFor_47 : decode cX7_drawFor 47 = .ok (.irem, 1) := by decide +kernel
theorem dX7_drawFor_48 : decode cX7_drawFor 48 = .ok (.istore 4, 2) := by decide +kernel
theorem dX7_drawFor_50 : decode cX7_drawFor 50 = .ok (.aload_n 0, 1) := by decide +kernel
theorem dX7_drawFor_51 : decode cX7_drawFor 51 = .ok (.iload_n 1, 1) := by decide +kernel
theorem dX7_drawFor_52 : decode cX7_drawFor 52 = .ok (.iload 4, 2) := by decide +kernel
theorem dX7_drawFor_54 : decode cX7_drawFor 54 = .ok (.invokevirtual 148, 3) := by decide +kernel
theorem dX7_drawFor_57 : decode cX7_drawFor 57 = .ok (.ifCond .eq 28, 3) := by decide +kernel
theorem dX7_drawFor_60 : decode cX7_drawFor 60 = .ok (.aload_n 0, 1) := by decide +kernel
theorem dX7_drawFor_61 : decode cX7_drawFor 61 = .ok (.iload_n 1, 1) := by decide +kernel
theorem dX7_drawFor_62 : decode cX7_drawFor 62 = .ok (.iload 4, 2) := by decide +kernel
theorem dX7_drawFor_64 : decode cX7_drawFor 64 = .ok (.invokevirtual 151, 3) := by decide +kernel
theorem dX7_drawFor_67 : decode cX7_drawFor 67 = .ok (.ifCond .eq 18, 3) := by decide +kernel
theorem dX7_drawFor_70 : decode cX7_drawFor 70 = .ok (.aload_n 0, 1) := by decide +kernel
theorem dX7_drawFor_71 : decode cX7_drawFor 71 = .ok (.getfield 54, 3) := by decide +kernel
theorem dX7_drawFor_74 : decode cX7_drawFor 74 = .ok (.iload 4, 2) := by decide +kernel
theorem dX7_drawFor_76 : decode cX7_drawFor 76 = .ok (.dup2, 1) := by decide +kernel
theorem dX7_drawFor_77 : decode cX7_drawFor 77 = .ok (.iaload, 1) := by decide +kernel
theorem dX7_drawFor_78 : decode cX7_drawFor 78 = .ok (.iconst 1, 1) := by decide +kernel
theorem dX7_drawFor_79 : decode cX7_drawFor 79 = .ok (.iload_n 1, 1) := by decide +kernel
theorem dX7_drawFor_80 : decode cX7_drawFor 80 = .ok (.ishl, 1) := by decide +kernel
theorem dX7_drawFor_81 : decode cX7_drawFor 81 = .ok (.ior, 1) := by decide +kernel
theorem dX7_drawFor_82 : decode cX7_drawFor 82 = .ok (.iastore, 1) := by decide +kernel
theorem dX7_drawFor_83 : decode cX7_drawFor 83 = .ok (.iconst 1, 1) := by decide +kernel
theorem dX7_drawFor_84 : decode cX7_drawFor 84 = .ok (.ireturn, 1) := by decide +kernel
theorem dX7_drawFor_85 : decode cX7_drawFor 85 = .ok (.iinc 3 1, 3) := by decide +kernel
theorem dX7_drawFor_88 : decode cX7_drawFor 88 = .ok (.goto (-56), 3) := by decide +kernel
theorem dX7_drawFor_91 : decode cX7_drawFor 91 = .ok (.iconst 0, 1) := by decide +kernel
theorem dX7_drawFor_92 : decode cX7_drawFor 92 = .ok (.ireturn, 1) := by decide +kernel
theorem dX7_drawn_0 : decode cX7_drawn 0 = .ok (.aload_n 0, 1) := by decide +kernel
theorem dX7_drawn_1 : decode cX7_drawn 1 = .ok (.iconst 0, 1) := by decide +kernel
theorem dX7_drawn_2 : decode cX7_drawn 2 = .ok (.putfield 67, 3) := by decide +kernel
theorem dX7_drawn_5 : decode cX7_drawn 5 = .ok (.iload_n 1, 1) := by decide +kernel
theorem dX7_drawn_6 : decode cX7_drawn 6 = .ok (.i2l, 1) := by decide +kernel
theorem dX7_drawn_7 : decode cX7_drawn 7 = .ok (.lconst 1, 1) := by decide +kernel
theorem dX7_drawn_8 : decode cX7_drawn 8 = .ok (.ldc2_w 96, 3) := by decide +kernel
theorem dX7_drawn_11 : decode cX7_drawn 11 = .ok (.invokestatic 72, 3) := by decide +kernel
theorem dX7_drawn_14 : decode cX7_drawn 14 = .ok (.ifCond .ne 6, 3) := by decide +kernel
theorem dX7_drawn_17 : decode cX7_drawn 17 = .ok (.bipush (-2), 2) := by decide +kernel
theorem dX7_drawn_19 : decode cX7_drawn 19 = .ok (.ireturn, 1) := by decide +kernel
theorem dX7_drawn_20 : decode cX7_drawn 20 = .ok (.iconst 0, 1) := by decide +kernel
theorem dX7_drawn_21 : decode cX7_drawn 21 = .ok (.istore_n 2, 1) := by decide +kernel
theorem dX7_drawn_22 : decode cX7_drawn 22 = .ok (.iconst 0, 1) := by decide +kernel
theorem dX7_drawn_23 : decode cX7_drawn 23 = .ok (.istore_n 3, 1) := by decide +kernel
theorem dX7_drawn_24 : decode cX7_drawn 24 = .ok (.iload_n 3, 1) := by decide +kernel
theorem dX7_drawn_25 : decode cX7_drawn 25 = .ok (.iload_n 1, 1) := by decide +kernel
theorem dX7_drawn_26 : decode cX7_drawn 26 = .ok (.if_icmp .ge 47, 3) := by decide +kernel
theorem dX7_drawn_29 : decode cX7_drawn 29 = .ok (.aload_n 0, 1) := by decide +kernel
theorem dX7_drawn_30 : decode cX7_drawn 30 = .ok (.aload_n 0, 1) := by decide +kernel
theorem dX7_drawn_31 : decode cX7_drawn 31 = .ok (.getfield 20, 3) := by decide +kernel
theorem dX7_drawn_34 : decode cX7_drawn 34 = .ok (.invokevirtual 171, 3) := by decide +kernel
theorem dX7_drawn_37 : decode cX7_drawn 37 = .ok (.iconst 1, 1) := by decide +kernel
theorem dX7_drawn_38 : decode cX7_drawn 38 = .ok (.istore 4, 2) := by decide +kernel
theorem dX7_drawn_40 : decode cX7_drawn 40 = .ok (.iload 4, 2) := by decide +kernel
theorem dX7_drawn_42 : decode cX7_drawn 42 = .ok (.aload_n 0, 1) := by decide +kernel
theorem dX7_drawn_43 : decode cX7_drawn 43 = .ok (.getfield 142, 3) := by decide +kernel
theorem dX7_drawn_46 : decode cX7_drawn 46 = .ok (.if_icmp .gt 21, 3) := by decide +kernel
theorem dX7_drawn_49 : decode cX7_drawn 49 = .ok (.aload_n 0, 1) := by decide +kernel
theorem dX7_drawn_50 : decode cX7_drawn 50 = .ok (.iload 4, 2) := by decide +kernel
theorem dX7_drawn_52 : decode cX7_drawn 52 = .ok (.invokevirtual 277, 3) := by decide +kernel
theorem dX7_drawn_55 : decode cX7_drawn 55 = .ok (.ifCond .eq 12, 3) := by decide +kernel
theorem dX7_drawn_58 : decode cX7_drawn 58 = .ok (.iinc 4 1, 3) := by decide +kernel
theorem dX7_drawn_61 : decode cX7_drawn 61 = .ok (.iinc 2 1, 3) := by decide +kernel
theorem dX7_drawn_64 : decode cX7_drawn 64 = .ok (.goto (-24), 3) := by decide +kernel
theorem dX7_drawn_67 : decode cX7_drawn 67 = .ok (.iinc 3 1, 3) := by decide +kernel
theorem dX7_drawn_70 : decode cX7_drawn 70 = .ok (.goto (-46), 3) := by decide +kernel
theorem dX7_drawn_73 : decode cX7_drawn 73 = .ok (.iload_n 2, 1) := by decide +kernel
theorem dX7_drawn_74 : decode cX7_drawn 74 = .ok (.ireturn, 1) := by decide +kernel
theorem dX7_keep_0 : decode cX7_keep 0 = .ok (.aload_n 0, 1) := by decide +kernel
theorem dX7_keep_1 : decode cX7_keep 1 = .ok (.iconst 0, 1) := by decide +kernel
theorem dX7_keep_2 : decode cX7_keep 2 = .ok (.putfield 67, 3) := by decide +kernel
theorem dX7_keep_5 : decode cX7_keep 5 = .ok (.iload_n 1, 1) := by decide +kernel
theorem dX7_keep_6 : decode cX7_keep 6 = .ok (.i2l, 1) := by decide +kernel
theorem dX7_keep_7 : decode cX7_keep 7 = .ok (.lconst 0, 1) := by decide +kernel
theorem dX7_keep_8 : decode cX7_keep 8 = .ok (.lconst 1, 1) := by decide +kernel
theorem dX7_keep_9 : decode cX7_keep 9 = .ok (.invokestatic 72, 3) := by decide +kernel
theorem dX7_keep_12 : decode cX7_keep 12 = .ok (.ifCond .ne 5, 3) := by decide +kernel
theorem dX7_keep_15 : decode cX7_keep 15 = .ok (.iconst (-1), 1) := by decide +kernel
theorem dX7_keep_16 : decode cX7_keep 16 = .ok (.ireturn, 1) := by decide +kernel
theorem dX7_keep_17 : decode cX7_keep 17 = .ok (.aload_n 0, 1) := by decide +kernel
theorem dX7_keep_18 : decode cX7_keep 18 = .ok (.getfield 32, 3) := by decide +kernel
theorem dX7_keep_21 : decode cX7_keep 21 = .ok (.iload_n 1, 1) := by decide +kernel
theorem dX7_keep_22 : decode cX7_keep 22 = .ok (.iconst 1, 1) := by decide +kernel
theorem dX7_keep_23 : decode cX7_keep 23 = .ok (.bastore, 1) := by decide +kernel
theorem dX7_keep_24 : decode cX7_keep 24 = .ok (.iconst 0, 1) := by decide +kernel
theorem dX7_keep_25 : decode cX7_keep 25 = .ok (.istore_n 2, 1) := by decide +kernel
theorem dX7_keep_26 : decode cX7_keep 26 = .ok (.iload_n 2, 1) := by decide +kernel
theorem dX7_keep_27 : decode cX7_keep 27 = .ok (.bipush 39, 2) := by decide +kernel
theorem dX7_keep_29 : decode cX7_keep 29 = .ok (.if_icmp .ge 26, 3) := by decide +kernel
theorem dX7_keep_32 : decode cX7_keep 32 = .ok (.aload_n 0, 1) := by decide +kernel
theorem dX7_keep_33 : decode cX7_keep 33 = .ok (.getfield 29, 3) := by decide +kernel
theorem dX7_keep_36 : decode cX7_keep 36 = .ok (.bipush 39, 2) := by decide +kernel
theorem dX7_keep_38 : decode cX7_keep 38 = .ok (.iload_n 1, 1) := by decide +kernel
theorem dX7_keep_39 : decode cX7_keep 39 = .ok (.imul, 1) := by decide +kernel
theorem dX7_keep_40 : decode cX7_keep 40 = .ok (.iload_n 2, 1) := by decide +kernel
theorem dX7_keep_41 : decode cX7_keep 41 = .ok (.iadd, 1) := by decide +kernel
theorem dX7_keep_42 : decode cX7_keep 42 = .ok (.aload_n 0, 1) := by decide +kernel
theorem dX7_keep_43 : decode cX7_keep 43 = .ok (.getfield 20, 3) := by decide +kernel
theorem dX7_keep_46 : decode cX7_keep 46 = .ok (.iload_n 2, 1) := by decide +kernel
theorem dX7_keep_47 : decode cX7_keep 47 = .ok (.iaload, 1) := by decide +kernel
theorem dX7_keep_48 : decode cX7_keep 48 = .ok (.iastore, 1) := by decide +kernel
theorem dX7_keep_49 : decode cX7_keep 49 = .ok (.iinc 2 1, 3) := by decide +kernel
theorem dX7_keep_52 : decode cX7_keep 52 = .ok (.goto (-26), 3) := by decide +kernel
theorem dX7_keep_55 : decode cX7_keep 55 = .ok (.aload_n 0, 1) := by decide +kernel
theorem dX7_keep_56 : decode cX7_keep 56 = .ok (.getfield 20, 3) := by decide +kernel
theorem dX7_keep_59 : decode cX7_keep 59 = .ok (.iconst 0, 1) := by decide +kernel
theorem dX7_keep_60 : decode cX7_keep 60 = .ok (.iaload, 1) := by decide +kernel
theorem dX7_keep_61 : decode cX7_keep 61 = .ok (.ireturn, 1) := by decide +kernel
theorem dX7_again_0 : decode cX7_again 0 = .ok (.aload_n 0, 1) := by decide +kernel
theorem dX7_again_1 : decode cX7_again 1 = .ok (.iconst 0, 1) := by decide +kernel
theorem dX7_again_2 : decode cX7_again 2 = .ok (.putfield 67, 3) := by decide +kernel
theorem dX7_again_5 : decode cX7_again 5 = .ok (.iload_n 1, 1) := by decide +kernel
theorem dX7_again_6 : decode cX7_again 6 = .ok (.i2l, 1) := by decide +kernel
theorem dX7_again_7 : decode cX7_again 7 = .ok (.lconst 0, 1) := by decide +kernel
theorem dX7_again_8 : decode cX7_again 8 = .ok (.lconst 1, 1) := by decide +kernel
theorem dX7_again_9 : decode cX7_again 9 = .ok (.invokestatic 72, 3) := by decide +kernel
theorem dX7_again_12 : decode cX7_again 12 = .ok (.ifCond .ne 5, 3) := by decide +kernel
theorem dX7_again_15 : decode cX7_again 15 = .ok (.iconst (-1), 1) := by decide +kernel
theorem dX7_again_16 : decode cX7_again 16 = .ok (.ireturn, 1) := by decide +kernel
theorem dX7_again_17 : decode cX7_again 17 = .ok (.aload_n 0, 1) := by decide +kernel
theorem dX7_again_18 : decode cX7_again 18 = .ok (.getfield 32, 3) := by decide +kernel
theorem dX7_again_21 : decode cX7_again 21 = .ok (.iload_n 1, 1) := by decide +kernel
theorem dX7_again_22 : decode cX7_again 22 = .ok (.baload, 1) := by decide +kernel
theorem dX7_again_23 : decode cX7_again 23 = .ok (.ifCond .ne 6, 3) := by decide +kernel
theorem dX7_again_26 : decode cX7_again 26 = .ok (.bipush (-3), 2) := by decide +kernel
theorem dX7_again_28 : decode cX7_again 28 = .ok (.ireturn, 1) := by decide +kernel
theorem dX7_again_29 : decode cX7_again 29 = .ok (.iconst 0, 1) := by decide +kernel
theorem dX7_again_30 : decode cX7_again 30 = .ok (.istore_n 2, 1) := by decide +kernel
theorem dX7_again_31 : decode cX7_again 31 = .ok (.iload_n 2, 1) := by decide +kernel
theorem dX7_again_32 : decode cX7_again 32 = .ok (.bipush 39, 2) := by decide +kernel
theorem dX7_again_34 : decode cX7_again 34 = .ok (.if_icmp .ge 26, 3) := by decide +kernel
theorem dX7_again_37 : decode cX7_again 37 = .ok (.aload_n 0, 1) := by decide +kernel
theorem dX7_again_38 : decode cX7_again 38 = .ok (.getfield 20, 3) := by decide +kernel
theorem dX7_again_41 : decode cX7_again 41 = .ok (.iload_n 2, 1) := by decide +kernel
theorem dX7_again_42 : decode cX7_again 42 = .ok (.aload_n 0, 1) := by decide +kernel
theorem dX7_again_43 : decode cX7_again 43 = .ok (.getfield 29, 3) := by decide +kernel
theorem dX7_again_46 : decode cX7_again 46 = .ok (.bipush 39, 2) := by decide +kernel
theorem dX7_again_48 : decode cX7_again 48 = .ok (.iload_n 1, 1) := by decide +kernel
theorem dX7_again_49 : decode cX7_again 49 = .ok (.imul, 1) := by decide +kernel
theorem dX7_again_50 : decode cX7_again 50 = .ok (.iload_n 2, 1) := by decide +kernel
theorem dX7_again_51 : decode cX7_again 51 = .ok (.iadd, 1) := by decide +kernel
theorem dX7_again_52 : decode cX7_again 52 = .ok (.iaload, 1) := by decide +kernel
theorem dX7_again_53 : decode cX7_again 53 = .ok (.iastore, 1) := by decide +kernel
theorem dX7_again_54 : decode cX7_again 54 = .ok (.iinc 2 1, 3) := by decide +kernel
theorem dX7_again_57 : decode cX7_again 57 = .ok (.goto (-26), 3) := by decide +kernel
theorem dX7_again_60 : decode cX7_again 60 = .ok (.aload_n 0, 1) := by decide +kernel
theorem dX7_again_61 : decode cX7_again 61 = .ok (.iconst 0, 1) := by decide +kernel
theorem dX7_again_62 : decode cX7_again 62 = .ok (.putfield 115, 3) := by decide +kernel
theorem dX7_again_65 : decode cX7_again 65 = .ok (.aload_n 0, 1) := by decide +kernel
theorem dX7_again_66 : decode cX7_again 66 = .ok (.getfield 20, 3) := by decide +kernel
theorem dX7_again_69 : decode cX7_again 69 = .ok (.iconst 0, 1) := by decide +kernel
theorem dX7_again_70 : decode cX7_again 70 = .ok (.iaload, 1) := by decide +kernel
theorem dX7_again_71 : decode cX7_again 71 = .ok (.ireturn, 1) := by decide +kernel
theorem dX7_pins_0 : decode cX7_pins 0 = .ok (.iconst 0, 1) := by decide +kernel
theorem dX7_pins_1 : decode cX7_pins 1 = .ok (.istore_n 1, 1) := by decide +kernel
theorem dX7_pins_2 : decode cX7_pins 2 = .ok (.iconst 0, 1) := by decide +kernel
theorem dX7_pins_3 : decode cX7_pins 3 = .ok (.istore_n 2, 1) := by decide +kernel
theorem dX7_pins_4 : decode cX7_pins 4 = .ok (.iload_n 2, 1) := by decide +kernel
theorem dX7_pins_5 : decode cX7_pins 5 = .ok (.bipush 10, 2) := by decide +kernel
theorem dX7_pins_7 : decode cX7_pins 7 = .ok (.if_icmp .ge 29, 3) := by decide +kernel
theorem dX7_pins_10 : decode cX7_pins 10 = .ok (.iload_n 1, 1) := by decide +kernel
theorem dX7_pins_11 : decode cX7_pins 11 = .ok (.aload_n 0, 1) := by decide +kernel
theorem dX7_pins_12 : decode cX7_pins 12 = .ok (.getfield 20, 3) := by decide +kernel
theorem dX7_pins_15 : decode cX7_pins 15 = .ok (.bipush 18, 2) := by decide +kernel
theorem dX7_pins_17 : decode cX7_pins 17 = .ok (.iload_n 2, 1) := by decide +kernel
theorem dX7_pins_18 : decode cX7_pins 18 = .ok (.iadd, 1) := by decide +kernel
theorem dX7_pins_19 : decode cX7_pins 19 = .ok (.iaload, 1) := by decide +kernel
theorem dX7_pins_20 : decode cX7_pins 20 = .ok (.ifCond .le 7, 3) := by decide +kernel
theorem dX7_pins_23 : decode cX7_pins 23 = .ok (.iconst 1, 1) := by decide +kernel
theorem dX7_pins_24 : decode cX7_pins 24 = .ok (.goto 4, 3) := by decide +kernel
theorem dX7_pins_27 : decode cX7_pins 27 = .ok (.iconst 0, 1) := by decide +kernel
theorem dX7_pins_28 : decode cX7_pins 28 = .ok (.iadd, 1) := by decide +kernel
theorem dX7_pins_29 : decode cX7_pins 29 = .ok (.istore_n 1, 1) := by decide +kernel
theorem dX7_pins_30 : decode cX7_pins 30 = .ok (.iinc 2 1, 3) := by decide +kernel
theorem dX7_pins_33 : decode cX7_pins 33 = .ok (.goto (-29), 3) := by decide +kernel
theorem dX7_pins_36 : decode cX7_pins 36 = .ok (.iload_n 1, 1) := by decide +kernel
theorem dX7_pins_37 : decode cX7_pins 37 = .ok (.ireturn, 1) := by decide +kernel
theorem dX7_count_0 : decode cX7_count 0 = .ok (.aload_n 0, 1) := by decide +kernel
theorem dX7_count_1 : decode cX7_count 1 = .ok (.iconst 0, 1) := by decide +kernel
theorem dX7_count_2 : decode cX7_count 2 = .ok (.putfield 67, 3) := by decide +kernel
theorem dX7_count_5 : decode cX7_count 5 = .ok (.iload_n 1, 1) := by decide +kernel
theorem dX7_count_6 : decode cX7_count 6 = .ok (.tableswitch 81 0 6 #[42, 47, 54, 59, 66, 71, 76], 42) := by decide +kernel
theorem dX7_count_48 : decode cX7_count 48 = .ok (.aload_n 0, 1) := by decide +kernel
theorem dX7_count_49 : decode cX7_count 49 = .ok (.getfield 76, 3) := by decide +kernel
theorem dX7_count_52 : decode cX7_count 52 = .ok (.ireturn, 1) := by decide +kernel
theorem dX7_count_53 : decode cX7_count 53 = .ok (.aload_n 0, 1) := by decide +kernel
theorem dX7_count_54 : decode cX7_count 54 = .ok (.getfield 20, 3) := by decide +kernel
theorem dX7_count_57 : decode cX7_count 57 = .ok (.iconst 0, 1) := by decide +kernel
theorem dX7_count_58 : decode cX7_count 58 = .ok (.iaload, 1) := by decide +kernel
theorem dX7_count_59 : decode cX7_count 59 = .ok (.ireturn, 1) := by decide +kernel
theorem dX7_count_60 : decode cX7_count 60 = .ok (.aload_n 0, 1) := by decide +kernel
theorem dX7_count_61 : decode cX7_count 61 = .ok (.getfield 13, 3) := by decide +kernel
theorem dX7_count_64 : decode cX7_count 64 = .ok (.ireturn, 1) := by decide +kernel
theorem dX7_count_65 : decode cX7_count 65 = .ok (.aload_n 0, 1) := by decide +kernel
theorem dX7_count_66 : decode cX7_count 66 = .ok (.getfield 20, 3) := by decide +kernel
theorem dX7_count_69 : decode cX7_count 69 = .ok (.iconst 1, 1) := by decide +kernel
theorem dX7_count_70 : decode cX7_count 70 = .ok (.iaload, 1) := by decide +kernel
theorem dX7_count_71 : decode cX7_count 71 = .ok (.ireturn, 1) := by decide +kernel
theorem dX7_count_72 : decode cX7_count 72 = .ok (.aload_n 0, 1) := by decide +kernel
theorem dX7_count_73 : decode cX7_count 73 = .ok (.invokevirtual 280, 3) := by decide +kernel
theorem dX7_count_76 : decode cX7_count 76 = .ok (.ireturn, 1) := by decide +kernel
theorem dX7_count_77 : decode cX7_count 77 = .ok (.aload_n 0, 1) := by decide +kernel
theorem dX7_count_78 : decode cX7_count 78 = .ok (.getfield 115, 3) := by decide +kernel
theorem dX7_count_81 : decode cX7_count 81 = .ok (.ireturn, 1) := by decide +kernel
theorem dX7_count_82 : decode cX7_count 82 = .ok (.aload_n 0, 1) := by decide +kernel
theorem dX7_count_83 : decode cX7_count 83 = .ok (.getfield 253, 3) := by decide +kernel
theorem dX7_count_86 : decode cX7_count 86 = .ok (.ireturn, 1) := by decide +kernel
theorem dX7_count_87 : decode cX7_count 87 = .ok (.bipush (-2), 2) := by decide +kernel
theorem dX7_count_89 : decode cX7_count 89 = .ok (.ireturn, 1) := by decide +kernel
theorem dJ6_bitCount_0f7a4_0 : decode cJ6_bitCount_0f7a4 0 = .ok (.iload_n 0, 1) := by decide +kernel
theorem dJ6_bitCount_0f7a4_1 : decode cJ6_bitCount_0f7a4 1 = .ok (.iload_n 0, 1) := by decide +kernel
theorem dJ6_bitCount_0f7a4_2 : decode cJ6_bitCount_0f7a4 2 = .ok (.iconst 1, 1) := by decide +kernel
theorem dJ6_bitCount_0f7a4_3 : decode cJ6_bitCount_0f7a4 3 = .ok (.iushr, 1) := by decide +kernel
theorem dJ6_bitCount_0f7a4_4 : decode cJ6_bitCount_0f7a4 4 = .ok (.ldc_w 265, 3) := by decide +kernel
theorem dJ6_bitCount_0f7a4_7 : decode cJ6_bitCount_0f7a4 7 = .ok (.iand, 1) := by decide +kernel
theorem dJ6_bitCount_0f7a4_8 : decode cJ6_bitCount_0f7a4 8 = .ok (.isub, 1) := by decide +kernel
theorem dJ6_bitCount_0f7a4_9 : decode cJ6_bitCount_0f7a4 9 = .ok (.istore_n 0, 1) := by decide +kernel
theorem dJ6_bitCount_0f7a4_10 : decode cJ6_bitCount_0f7a4 10 = .ok (.iload_n 0, 1) := by decide +kernel
theorem dJ6_bitCount_0f7a4_11 : decode cJ6_bitCount_0f7a4 11 = .ok (.ldc_w 266, 3) := by decide +kernel
theorem dJ6_bitCount_0f7a4_14 : decode cJ6_bitCount_0f7a4 14 = .ok (.iand, 1) := by decide +kernel
theorem dJ6_bitCount_0f7a4_15 : decode cJ6_bitCount_0f7a4 15 = .ok (.iload_n 0, 1) := by decide +kernel
theorem dJ6_bitCount_0f7a4_16 : decode cJ6_bitCount_0f7a4 16 = .ok (.iconst 2, 1) := by decide +kernel
theorem dJ6_bitCount_0f7a4_17 : decode cJ6_bitCount_0f7a4 17 = .ok (.iushr, 1) := by decide +kernel
theorem dJ6_bitCount_0f7a4_18 : decode cJ6_bitCount_0f7a4 18 = .ok (.ldc_w 266, 3) := by decide +kernel
theorem dJ6_bitCount_0f7a4_21 : decode cJ6_bitCount_0f7a4 21 = .ok (.iand, 1) := by decide +kernel
theorem dJ6_bitCount_0f7a4_22 : decode cJ6_bitCount_0f7a4 22 = .ok (.iadd, 1) := by decide +kernel
theorem dJ6_bitCount_0f7a4_23 : decode cJ6_bitCount_0f7a4 23 = .ok (.istore_n 0, 1) := by decide +kernel
theorem dJ6_bitCount_0f7a4_24 : decode cJ6_bitCount_0f7a4 24 = .ok (.iload_n 0, 1) := by decide +kernel
theorem dJ6_bitCount_0f7a4_25 : decode cJ6_bitCount_0f7a4 25 = .ok (.iload_n 0, 1) := by decide +kernel
theorem dJ6_bitCount_0f7a4_26 : decode cJ6_bitCount_0f7a4 26 = .ok (.iconst 4, 1) := by decide +kernel
theorem dJ6_bitCount_0f7a4_27 : decode cJ6_bitCount_0f7a4 27 = .ok (.iushr, 1) := by decide +kernel
theorem dJ6_bitCount_0f7a4_28 : decode cJ6_bitCount_0f7a4 28 = .ok (.iadd, 1) := by decide +kernel
theorem dJ6_bitCount_0f7a4_29 : decode cJ6_bitCount_0f7a4 29 = .ok (.ldc_w 267, 3) := by decide +kernel
theorem dJ6_bitCount_0f7a4_32 : decode cJ6_bitCount_0f7a4 32 = .ok (.iand, 1) := by decide +kernel
theorem dJ6_bitCount_0f7a4_33 : decode cJ6_bitCount_0f7a4 33 = .ok (.istore_n 0, 1) := by decide +kernel
theorem dJ6_bitCount_0f7a4_34 : decode cJ6_bitCount_0f7a4 34 = .ok (.iload_n 0, 1) := by decide +kernel
theorem dJ6_bitCount_0f7a4_35 : decode cJ6_bitCount_0f7a4 35 = .ok (.iload_n 0, 1) := by decide +kernel
theorem dJ6_bitCount_0f7a4_36 : decode cJ6_bitCount_0f7a4 36 = .ok (.bipush 8, 2) := by decide +kernel
theorem dJ6_bitCount_0f7a4_38 : decode cJ6_bitCount_0f7a4 38 = .ok (.iushr, 1) := by decide +kernel
theorem dJ6_bitCount_0f7a4_39 : decode cJ6_bitCount_0f7a4 39 = .ok (.iadd, 1) := by decide +kernel
theorem dJ6_bitCount_0f7a4_40 : decode cJ6_bitCount_0f7a4 40 = .ok (.istore_n 0, 1) := by decide +kernel
theorem dJ6_bitCount_0f7a4_41 : decode cJ6_bitCount_0f7a4 41 = .ok (.iload_n 0, 1) := by decide +kernel
theorem dJ6_bitCount_0f7a4_42 : decode cJ6_bitCount_0f7a4 42 = .ok (.iload_n 0, 1) := by decide +kernel
theorem dJ6_bitCount_0f7a4_43 : decode cJ6_bitCount_0f7a4 43 = .ok (.bipush 16, 2) := by decide +kernel
theorem dJ6_bitCount_0f7a4_45 : decode cJ6_bitCount_0f7a4 45 = .ok (.iushr, 1) := by decide +kernel
theorem dJ6_bitCount_0f7a4_46 : decode cJ6_bitCount_0f7a4 46 = .ok (.iadd, 1) := by decide +kernel
theorem dJ6_bitCount_0f7a4_47 : decode cJ6_bitCount_0f7a4 47 = .ok (.istore_n 0, 1) := by decide +kernel
theorem dJ6_bitCount_0f7a4_48 : decode cJ6_bitCount_0f7a4 48 = .ok (.iload_n 0, 1) := by decide +kernel
theorem dJ6_bitCount_0f7a4_49 : decode cJ6_bitCount_0f7a4 49 = .ok (.bipush 63, 2) := by decide +kernel
theorem dJ6_bitCount_0f7a4_51 : decode cJ6_bitCount_0f7a4 51 = .ok (.iand, 1) := by decide +kernel
theorem dJ6_bitCount_0f7a4_52 : decode cJ6_bitCount_0f7a4 52 = .ok (.ireturn, 1) := by decide +kernel
theorem dJ7_fill_53178_0 : decode cJ7_fill_53178 0 = .ok (.iconst 0, 1) := by decide +kernel
theorem dJ7_fill_53178_1 : decode cJ7_fill_53178 1 = .ok (.istore_n 2, 1) := by decide +kernel
theorem dJ7_fill_53178_2 : decode cJ7_fill_53178 2 = .ok (.aload_n 0, 1) := by decide +kernel
theorem dJ7_fill_53178_3 : decode cJ7_fill_53178 3 = .ok (.arraylength, 1) := by decide +kernel
theorem dJ7_fill_53178_4 : decode cJ7_fill_53178 4 = .ok (.istore_n 3, 1) := by decide +kernel
theorem dJ7_fill_53178_5 : decode cJ7_fill_53178 5 = .ok (.iload_n 2, 1) := by decide +kernel
theorem dJ7_fill_53178_6 : decode cJ7_fill_53178 6 = .ok (.iload_n 3, 1) := by decide +kernel
theorem dJ7_fill_53178_7 : decode cJ7_fill_53178 7 = .ok (.if_icmp .ge 13, 3) := by decide +kernel
theorem dJ7_fill_53178_10 : decode cJ7_fill_53178 10 = .ok (.aload_n 0, 1) := by decide +kernel
theorem dJ7_fill_53178_11 : decode cJ7_fill_53178 11 = .ok (.iload_n 2, 1) := by decide +kernel
theorem dJ7_fill_53178_12 : decode cJ7_fill_53178 12 = .ok (.iload_n 1, 1) := by decide +kernel
theorem dJ7_fill_53178_13 : decode cJ7_fill_53178 13 = .ok (.iastore, 1) := by decide +kernel
theorem dJ7_fill_53178_14 : decode cJ7_fill_53178 14 = .ok (.iinc 2 1, 3) := by decide +kernel
theorem dJ7_fill_53178_17 : decode cJ7_fill_53178 17 = .ok (.goto (-12), 3) := by decide +kernel
theorem dJ7_fill_53178_20 : decode cJ7_fill_53178 20 = .ok (.return_, 1) := by decide +kernel
theorem dL_law_0 : decode cL_law 0 = .ok (.new 7, 3) := by decide +kernel
theorem dL_law_3 : decode cL_law 3 = .ok (.dup, 1) := by decide +kernel
theorem dL_law_4 : decode cL_law 4 = .ok (.invokespecial 9, 3) := by decide +kernel
theorem dL_law_7 : decode cL_law 7 = .ok (.astore_n 1, 1) := by decide +kernel
theorem dL_law_8 : decode cL_law 8 = .ok (.new 10, 3) := by decide +kernel
theorem dL_law_11 : decode cL_law 11 = .ok (.dup, 1) := by decide +kernel
theorem dL_law_12 : decode cL_law 12 = .ok (.invokespecial 12, 3) := by decide +kernel
theorem dL_law_15 : decode cL_law 15 = .ok (.astore_n 2, 1) := by decide +kernel
theorem dL_law_16 : decode cL_law 16 = .ok (.iconst 0, 1) := by decide +kernel
theorem dL_law_17 : decode cL_law 17 = .ok (.istore_n 3, 1) := by decide +kernel
theorem dL_law_18 : decode cL_law 18 = .ok (.iload_n 3, 1) := by decide +kernel
theorem dL_law_19 : decode cL_law 19 = .ok (.aload_n 0, 1) := by decide +kernel
theorem dL_law_20 : decode cL_law 20 = .ok (.arraylength, 1) := by decide +kernel
theorem dL_law_21 : decode cL_law 21 = .ok (.iconst 5, 1) := by decide +kernel
theorem dL_law_22 : decode cL_law 22 = .ok (.isub, 1) := by decide +kernel
theorem dL_law_23 : decode cL_law 23 = .ok (.if_icmp .gt 956, 3) := by decide +kernel
theorem dL_law_26 : decode cL_law 26 = .ok (.aload_n 0, 1) := by decide +kernel
theorem dL_law_27 : decode cL_law 27 = .ok (.iload_n 3, 1) := by decide +kernel
theorem dL_law_28 : decode cL_law 28 = .ok (.iaload, 1) := by decide +kernel
theorem dL_law_29 : decode cL_law 29 = .ok (.bipush 31, 2) := by decide +kernel
theorem dL_law_31 : decode cL_law 31 = .ok (.iand, 1) := by decide +kernel
theorem dL_law_32 : decode cL_law 32 = .ok (.tableswitch 941 0 27 #[128, 151, 164, 177, 190, 223, 256, 289, 312, 345, 368, 421, 434, 467, 480, 503, 516, 579, 622, 635, 658, 707, 746, 795, 849, 872, 895, 918], 128) := by decide +kernel
theorem dL_law_160 : decode cL_law 160 = .ok (.aload_n 1, 1) := by decide +kernel
theorem dL_law_161 : decode cL_law 161 = .ok (.aload_n 0, 1) := by decide +kernel
theorem dL_law_162 : decode cL_law 162 = .ok (.iload_n 3, 1) := by decide +kernel
theorem dL_law_163 : decode cL_law 163 = .ok (.iconst 1, 1) := by decide +kernel
theorem dL_law_164 : decode cL_law 164 = .ok (.iadd, 1) := by decide +kernel
theorem dL_law_165 : decode cL_law 165 = .ok (.iaload, 1) := by decide +kernel
theorem dL_law_166 : decode cL_law 166 = .ok (.invokevirtual 13, 3) := by decide +kernel
theorem dL_law_169 : decode cL_law 169 = .ok (.aload_n 2, 1) := by decide +kernel
theorem dL_law_170 : decode cL_law 170 = .ok (.aload_n 0, 1) := by decide +kernel
theorem dL_law_171 : decode cL_law 171 = .ok (.iload_n 3, 1) := by decide +kernel
theorem dL_law_172 : decode cL_law 172 = .ok (.iconst 1, 1) := by decide +kernel
theorem dL_law_173 : decode cL_law 173 = .ok (.iadd, 1) := by decide +kernel
theorem dL_law_174 : decode cL_law 174 = .ok (.iaload, 1) := by decide +kernel
theorem dL_law_175 : decode cL_law 175 = .ok (.invokevirtual 17, 3) := by decide +kernel
theorem dL_law_178 : decode cL_law 178 = .ok (.if_icmp .eq 795, 3) := by decide +kernel
theorem dL_law_181 : decode cL_law 181 = .ok (.iconst 0, 1) := by decide +kernel
theorem dL_law_182 : decode cL_law 182 = .ok (.ireturn, 1) := by decide +kernel
theorem dL_law_183 : decode cL_law 183 = .ok (.aload_n 1, 1) := by decide +kernel
theorem dL_law_184 : decode cL_law 184 = .ok (.invokevirtual 18, 3) := by decide +kernel
theorem dL_law_187 : decode cL_law 187 = .ok (.aload_n 2, 1) := by decide +kernel
theorem dL_law_188 : decode cL_law 188 = .ok (.invokevirtual 22, 3) := by decide +kernel
theorem dL_law_191 : decode cL_law 191 = .ok (.if_icmp .eq 782, 3) := by decide +kernel
theorem dL_law_194 : decode cL_law 194 = .ok (.iconst 0, 1) := by decide +kernel
theorem dL_law_195 : decode cL_law 195 = .ok (.ireturn, 1) := by decide +kernel
theorem dL_law_196 : decode cL_law 196 = .ok (.aload_n 1, 1) := by decide +kernel
theorem dL_law_197 : decode cL_law 197 = .ok (.invokevirtual 23, 3) := by decide +kernel
theorem dL_law_200 : decode cL_law 200 = .ok (.aload_n 2, 1) := by decide +kernel
theorem dL_law_201 : decode cL_law 201 = .ok (.invokevirtual 26, 3) := by decide +kernel
theorem dL_law_204 : decode cL_law 204 = .ok (.if_icmp .eq 769, 3) := by decide +kernel
theorem dL_law_207 : decode cL_law 207 = .ok (.iconst 0, 1) := by decide +kernel
theorem dL_law_208 : decode cL_law 208 = .ok (.ireturn, 1) := by decide +kernel
theorem dL_law_209 : decode cL_law 209 = .ok (.aload_n 1, 1) := by decide +kernel
theorem dL_law_210 : decode cL_law 210 = .ok (.invokevirtual 27, 3) := by decide +kernel
theorem dL_law_213 : decode cL_law 213 = .ok (.aload_n 2, 1) := by decide +kernel
theorem dL_law_214 : decode cL_law 214 = .ok (.invokevirtual 30, 3) := by decide +kernel
theorem dL_law_217 : decode cL_law 217 = .ok (.if_icmp .eq 756, 3) := by decide +kernel
theorem dL_law_220 : decode cL_law 220 = .ok (.iconst 0, 1) := by decide +kernel
theorem dL_law_221 : decode cL_law 221 = .ok (.ireturn, 1) := by decide +kernel
theorem dL_law_222 : decode cL_law 222 = .ok (.aload_n 1, 1) := by decide +kernel
theorem dL_law_223 : decode cL_law 223 = .ok (.aload_n 0, 1) := by decide +kernel
theorem dL_law_224 : decode cL_law 224 = .ok (.iload_n 3, 1) := by decide +kernel
theorem dL_law_225 : decode cL_law 225 = .ok (.iconst 1, 1) := by decide +kernel
theorem dL_law_226 : decode cL_law 226 = .ok (.iadd, 1) := by decide +kernel
theorem dL_law_227 : decode cL_law 227 = .ok (.iaload, 1) := by decide +kernel
theorem dL_law_228 : decode cL_law 228 = .ok (.aload_n 0, 1) := by decide +kernel
theorem dL_law_229 : decode cL_law 229 = .ok (.iload_n 3, 1) := by decide +kernel
theorem dL_law_230 : decode cL_law 230 = .ok (.iconst 2, 1) := by decide +kernel
theorem dL_law_231 : decode cL_law 231 = .ok (.iadd, 1) := by decide +kernel
theorem dL_law_232 : decode cL_law 232 = .ok (.iaload, 1) := by decide +kernel
theorem dL_law_233 : decode cL_law 233 = .ok (.invokevirtual 31, 3) := by decide +kernel
theorem dL_law_236 : decode cL_law 236 = .ok (.aload_n 2, 1) := by decide +kernel
theorem dL_law_237 : decode cL_law 237 = .ok (.aload_n 0, 1) := by decide +kernel
theorem dL_law_238 : decode cL_law 238 = .ok (.iload_n 3, 1) := by decide +kernel
theorem dL_law_239 : decode cL_law 239 = .ok (.iconst 1, 1) := by decide +kernel
theorem dL_law_240 : decode cL_law 240 = .ok (.iadd, 1) := by decide +kernel
theorem dL_law_241 : decode cL_law 241 = .ok (.iaload, 1) := by decide +kernel
theorem dL_law_242 : decode cL_law 242 = .ok (.aload_n 0, 1) := by decide +kernel
theorem dL_law_243 : decode cL_law 243 = .ok (.iload_n 3, 1) := by decide +kernel
theorem dL_law_244 : decode cL_law 244 = .ok (.iconst 2, 1) := by decide +kernel
theorem dL_law_245 : decode cL_law 245 = .ok (.iadd, 1) := by decide +kernel
theorem dL_law_246 : decode cL_law 246 = .ok (.iaload, 1) := by decide +kernel
theorem dL_law_247 : decode cL_law 247 = .ok (.invokevirtual 35, 3) := by decide +kernel
theorem dL_law_250 : decode cL_law 250 = .ok (.if_icmp .eq 723, 3) := by decide +kernel
theorem dL_law_253 : decode cL_law 253 = .ok (.iconst 0, 1) := by decide +kernel
theorem dL_law_254 : decode cL_law 254 = .ok (.ireturn, 1) := by decide +kernel
theorem dL_law_255 : decode cL_law 255 = .ok (.aload_n 1, 1) := by decide +kernel
theorem dL_law_256 : decode cL_law 256 = .ok (.aload_n 0, 1) := by decide +kernel
theorem dL_law_257 : decode cL_law 257 = .ok (.iload_n 3, 1) := by decide +kernel
theorem dL_law_258 : decode cL_law 258 = .ok (.iconst 1, 1) := by decide +kernel
theorem dL_law_259 : decode cL_law 259 = .ok (.iadd, 1) := by decide +kernel
theorem dL_law_260 : decode cL_law 260 = .ok (.iaload, 1) := by decide +kernel
theorem dL_law_261 : decode cL_law 261 = .ok (.aload_n 0, 1) := by decide +kernel
theorem dL_law_262 : decode cL_law 262 = .ok (.iload_n 3, 1) := by decide +kernel
theorem dL_law_263 : decode cL_law 263 = .ok (.iconst 2, 1) := by decide +kernel
theorem dL_law_264 : decode cL_law 264 = .ok (.iadd, 1) := by decide +kernel
theorem dL_law_265 : decode cL_law 265 = .ok (.iaload, 1) := by decide +kernel
theorem dL_law_266 : decode cL_law 266 = .ok (.invokevirtual 36, 3) := by decide +kernel
theorem dL_law_269 : decode cL_law 269 = .ok (.aload_n 2, 1) := by decide +kernel
theorem dL_law_270 : decode cL_law 270 = .ok (.aload_n 0, 1) := by decide +kernel
theorem dL_law_271 : decode cL_law 271 = .ok (.iload_n 3, 1) := by decide +kernel
theorem dL_law_272 : decode cL_law 272 = .ok (.iconst 1, 1) := by decide +kernel
theorem dL_law_273 : decode cL_law 273 = .ok (.iadd, 1) := by decide +kernel
theorem dL_law_274 : decode cL_law 274 = .ok (.iaload, 1) := by decide +kernel
theorem dL_law_275 : decode cL_law 275 = .ok (.aload_n 0, 1) := by decide +kernel
theorem dL_law_276 : decode cL_law 276 = .ok (.iload_n 3, 1) := by decide +kernel
theorem dL_law_277 : decode cL_law 277 = .ok (.iconst 2, 1) := by decide +kernel
theorem dL_law_278 : decode cL_law 278 = .ok (.iadd, 1) := by decide +kernel
theorem dL_law_279 : decode cL_law 279 = .ok (.iaload, 1) := by decide +kernel
theorem dL_law_280 : decode cL_law 280 = .ok (.invokevirtual 39, 3) := by decide +kernel
theorem dL_law_283 : decode cL_law 283 = .ok (.if_icmp .eq 690, 3) := by decide +kernel
theorem dL_law_286 : decode cL_law 286 = .ok (.iconst 0, 1) := by decide +kernel
theorem dL_law_287 : decode cL_law 287 = .ok (.ireturn, 1) := by decide +kernel
theorem dL_law_288 : decode cL_law 288 = .ok (.aload_n 1, 1) := by decide +kernel
theorem dL_law_289 : decode cL_law 289 = .ok (.aload_n 0, 1) := by decide +kernel
theorem dL_law_290 : decode cL_law 290 = .ok (.iload_n 3, 1) := by decide +kernel
theorem dL_law_291 : decode cL_law 291 = .ok (.iconst 1, 1) := by decide +kernel
theorem dL_law_292 : decode cL_law 292 = .ok (.iadd, 1) := by decide +kernel
theorem dL_law_293 : decode cL_law 293 = .ok (.iaload, 1) := by decide +kernel
theorem dL_law_294 : decode cL_law 294 = .ok (.aload_n 0, 1) := by decide +kernel
theorem dL_law_295 : decode cL_law 295 = .ok (.iload_n 3, 1) := by decide +kernel
theorem dL_law_296 : decode cL_law 296 = .ok (.iconst 2, 1) := by decide +kernel
theorem dL_law_297 : decode cL_law 297 = .ok (.iadd, 1) := by decide +kernel
theorem dL_law_298 : decode cL_law 298 = .ok (.iaload, 1) := by decide +kernel
theorem dL_law_299 : decode cL_law 299 = .ok (.invokevirtual 40, 3) := by decide +kernel
theorem dL_law_302 : decode cL_law 302 = .ok (.aload_n 2, 1) := by decide +kernel
theorem dL_law_303 : decode cL_law 303 = .ok (.aload_n 0, 1) := by decide +kernel
theorem dL_law_304 : decode cL_law 304 = .ok (.iload_n 3, 1) := by decide +kernel
theorem dL_law_305 : decode cL_law 305 = .ok (.iconst 1, 1) := by decide +kernel
theorem dL_law_306 : decode cL_law 306 = .ok (.iadd, 1) := by decide +kernel
theorem dL_law_307 : decode cL_law 307 = .ok (.iaload, 1) := by decide +kernel
theorem dL_law_308 : decode cL_law 308 = .ok (.aload_n 0, 1) := by decide +kernel
theorem dL_law_309 : decode cL_law 309 = .ok (.iload_n 3, 1) := by decide +kernel
theorem dL_law_310 : decode cL_law 310 = .ok (.iconst 2, 1) := by decide +kernel
theorem dL_law_311 : decode cL_law 311 = .ok (.iadd, 1) := by decide +kernel
theorem dL_law_312 : decode cL_law 312 = .ok (.iaload, 1) := by decide +kernel
theorem dL_law_313 : decode cL_law 313 = .ok (.invokevirtual 43, 3) := by decide +kernel
theorem dL_law_316 : decode cL_law 316 = .ok (.if_icmp .eq 657, 3) := by decide +kernel
theorem dL_law_319 : decode cL_law 319 = .ok (.iconst 0, 1) := by decide +kernel
theorem dL_law_320 : decode cL_law 320 = .ok (.ireturn, 1) := by decide +kernel
theorem dL_law_321 : decode cL_law 321 = .ok (.aload_n 1, 1) := by decide +kernel
theorem dL_law_322 : decode cL_law 322 = .ok (.aload_n 0, 1) := by decide +kernel
theorem dL_law_323 : decode cL_law 323 = .ok (.iload_n 3, 1) := by decide +kernel
theorem dL_law_324 : decode cL_law 324 = .ok (.iconst 1, 1) := by decide +kernel
theorem dL_law_325 : decode cL_law 325 = .ok (.iadd, 1) := by decide +kernel
theorem dL_law_326 : decode cL_law 326 = .ok (.iaload, 1) := by decide +kernel
theorem dL_law_327 : decode cL_law 327 = .ok (.invokevirtual 44, 3) := by decide +kernel
theorem dL_law_330 : decode cL_law 330 = .ok (.aload_n 2, 1) := by decide +kernel
theorem dL_law_331 : decode cL_law 331 = .ok (.aload_n 0, 1) := by decide +kernel
theorem dL_law_332 : decode cL_law 332 = .ok (.iload_n 3, 1) := by decide +kernel
theorem dL_law_333 : decode cL_law 333 = .ok (.iconst 1, 1) := by decide +kernel
theorem dL_law_334 : decode cL_law 334 = .ok (.iadd, 1) := by decide +kernel
theorem dL_law_335 : decode cL_law 335 = .ok (.iaload, 1) := by decide +kernel
theorem dL_law_336 : decode cL_law 336 = .ok (.invokevirtual 47, 3) := by decide +kernel
theorem dL_law_339 : decode cL_law 339 = .ok (.if_icmp .eq 634, 3) := by decide +kernel
theorem dL_law_342 : decode cL_law 342 = .ok (.iconst 0, 1) := by decide +kernel
theorem dL_law_343 : decode cL_law 343 = .ok (.ireturn, 1) := by decide +kernel
theorem dL_law_344 : decode cL_law 344 = .ok (.aload_n 1, 1) := by decide +kernel
theorem dL_law_345 : decode cL_law 345 = .ok (.aload_n 0, 1) := by decide +kernel
theorem dL_law_346 : decode cL_law 346 = .ok (.iload_n 3, 1) := by decide +kernel
theorem dL_law_347 : decode cL_law 347 = .ok (.iconst 1, 1) := by decide +kernel
theorem dL_law_348 : decode cL_law 348 = .ok (.iadd, 1) := by decide +kernel
theorem dL_law_349 : decode cL_law 349 = .ok (.iaload, 1) := by decide +kernel
theorem dL_law_350 : decode cL_law 350 = .ok (.aload_n 0, 1) := by decide +kernel
theorem dL_law_351 : decode cL_law 351 = .ok (.iload_n 3, 1) := by decide +kernel
theorem dL_law_352 : decode cL_law 352 = .ok (.iconst 2, 1) := by decide +kernel
theorem dL_law_353 : decode cL_law 353 = .ok (.iadd, 1) := by decide +kernel
theorem dL_law_354 : decode cL_law 354 = .ok (.iaload, 1) := by decide +kernel
theorem dL_law_355 : decode cL_law 355 = .ok (.invokevirtual 48, 3) := by decide +kernel
theorem dL_law_358 : decode cL_law 358 = .ok (.aload_n 2, 1) := by decide +kernel
theorem dL_law_359 : decode cL_law 359 = .ok (.aload_n 0, 1) := by decide +kernel
theorem dL_law_360 : decode cL_law 360 = .ok (.iload_n 3, 1) := by decide +kernel
theorem dL_law_361 : decode cL_law 361 = .ok (.iconst 1, 1) := by decide +kernel
theorem dL_law_362 : decode cL_law 362 = .ok (.iadd, 1) := by decide +kernel
theorem dL_law_363 : decode cL_law 363 = .ok (.iaload, 1) := by decide +kernel
theorem dL_law_364 : decode cL_law 364 = .ok (.aload_n 0, 1) := by decide +kernel
theorem dL_law_365 : decode cL_law 365 = .ok (.iload_n 3, 1) := by decide +kernel
theorem dL_law_366 : decode cL_law 366 = .ok (.iconst 2, 1) := by decide +kernel
theorem dL_law_367 : decode cL_law 367 = .ok (.iadd, 1) := by decide +kernel
theorem dL_law_368 : decode cL_law 368 = .ok (.iaload, 1) := by decide +kernel
theorem dL_law_369 : decode cL_law 369 = .ok (.invokevirtual 51, 3) := by decide +kernel
theorem dL_law_372 : decode cL_law 372 = .ok (.if_icmp .eq 601, 3) := by decide +kernel
theorem dL_law_375 : decode cL_law 375 = .ok (.iconst 0, 1) := by decide +kernel
theorem dL_law_376 : decode cL_law 376 = .ok (.ireturn, 1) := by decide +kernel
theorem dL_law_377 : decode cL_law 377 = .ok (.aload_n 1, 1) := by decide +kernel
theorem dL_law_378 : decode cL_law 378 = .ok (.aload_n 0, 1) := by decide +kernel
theorem dL_law_379 : decode cL_law 379 = .ok (.iload_n 3, 1) := by decide +kernel
theorem dL_law_380 : decode cL_law 380 = .ok (.iconst 1, 1) := by decide +kernel
theorem dL_law_381 : decode cL_law 381 = .ok (.iadd, 1) := by decide +kernel
theorem dL_law_382 : decode cL_law 382 = .ok (.iaload, 1) := by decide +kernel
theorem dL_law_383 : decode cL_law 383 = .ok (.invokevirtual 52, 3) := by decide +kernel
theorem dL_law_386 : decode cL_law 386 = .ok (.aload_n 2, 1) := by decide +kernel
theorem dL_law_387 : decode cL_law 387 = .ok (.aload_n 0, 1) := by decide +kernel
theorem dL_law_388 : decode cL_law 388 = .ok (.iload_n 3, 1) := by decide +kernel
theorem dL_law_389 : decode cL_law 389 = .ok (.iconst 1, 1) := by decide +kernel
theorem dL_law_390 : decode cL_law 390 = .ok (.iadd, 1) := by decide +kernel
theorem dL_law_391 : decode cL_law 391 = .ok (.iaload, 1) := by decide +kernel
theorem dL_law_392 : decode cL_law 392 = .ok (.invokevirtual 55, 3) := by decide +kernel
theorem dL_law_395 : decode cL_law 395 = .ok (.if_icmp .eq 578, 3) := by decide +kernel
theorem dL_law_398 : decode cL_law 398 = .ok (.iconst 0, 1) := by decide +kernel
theorem dL_law_399 : decode cL_law 399 = .ok (.ireturn, 1) := by decide +kernel
theorem dL_law_400 : decode cL_law 400 = .ok (.aload_n 1, 1) := by decide +kernel
theorem dL_law_401 : decode cL_law 401 = .ok (.aload_n 0, 1) := by decide +kernel
theorem dL_law_402 : decode cL_law 402 = .ok (.iload_n 3, 1) := by decide +kernel
theorem dL_law_403 : decode cL_law 403 = .ok (.iconst 1, 1) := by decide +kernel
theorem dL_law_404 : decode cL_law 404 = .ok (.iadd, 1) := by decide +kernel
theorem dL_law_405 : decode cL_law 405 = .ok (.iaload, 1) := by decide +kernel
theorem dL_law_406 : decode cL_law 406 = .ok (.aload_n 0, 1) := by decide +kernel
theorem dL_law_407 : decode cL_law 407 = .ok (.iload_n 3, 1) := by decide +kernel
theorem dL_law_408 : decode cL_law 408 = .ok (.iconst 2, 1) := by decide +kernel
theorem dL_law_409 : decode cL_law 409 = .ok (.iadd, 1) := by decide +kernel
theorem dL_law_410 : decode cL_law 410 = .ok (.iaload, 1) := by decide +kernel
theorem dL_law_411 : decode cL_law 411 = .ok (.aload_n 0, 1) := by decide +kernel
theorem dL_law_412 : decode cL_law 412 = .ok (.iload_n 3, 1) := by decide +kernel
theorem dL_law_413 : decode cL_law 413 = .ok (.iconst 3, 1) := by decide +kernel
theorem dL_law_414 : decode cL_law 414 = .ok (.iadd, 1) := by decide +kernel
theorem dL_law_415 : decode cL_law 415 = .ok (.iaload, 1) := by decide +kernel
theorem dL_law_416 : decode cL_law 416 = .ok (.aload_n 0, 1) := by decide +kernel
theorem dL_law_417 : decode cL_law 417 = .ok (.iload_n 3, 1) := by decide +kernel
theorem dL_law_418 : decode cL_law 418 = .ok (.iconst 4, 1) := by decide +kernel
theorem dL_law_419 : decode cL_law 419 = .ok (.iadd, 1) := by decide +kernel
theorem dL_law_420 : decode cL_law 420 = .ok (.iaload, 1) := by decide +kernel
theorem dL_law_421 : decode cL_law 421 = .ok (.invokevirtual 56, 3) := by decide +kernel
theorem dL_law_424 : decode cL_law 424 = .ok (.aload_n 2, 1) := by decide +kernel
theorem dL_law_425 : decode cL_law 425 = .ok (.aload_n 0, 1) := by decide +kernel
theorem dL_law_426 : decode cL_law 426 = .ok (.iload_n 3, 1) := by decide +kernel
theorem dL_law_427 : decode cL_law 427 = .ok (.iconst 1, 1) := by decide +kernel
theorem dL_law_428 : decode cL_law 428 = .ok (.iadd, 1) := by decide +kernel
theorem dL_law_429 : decode cL_law 429 = .ok (.iaload, 1) := by decide +kernel
theorem dL_law_430 : decode cL_law 430 = .ok (.aload_n 0, 1) := by decide +kernel
theorem dL_law_431 : decode cL_law 431 = .ok (.iload_n 3, 1) := by decide +kernel
theorem dL_law_432 : decode cL_law 432 = .ok (.iconst 2, 1) := by decide +kernel
theorem dL_law_433 : decode cL_law 433 = .ok (.iadd, 1) := by decide +kernel
theorem dL_law_434 : decode cL_law 434 = .ok (.iaload, 1) := by decide +kernel
theorem dL_law_435 : decode cL_law 435 = .ok (.aload_n 0, 1) := by decide +kernel
theorem dL_law_436 : decode cL_law 436 = .ok (.iload_n 3, 1) := by decide +kernel
theorem dL_law_437 : decode cL_law 437 = .ok (.iconst 3, 1) := by decide +kernel
theorem dL_law_438 : decode cL_law 438 = .ok (.iadd, 1) := by decide +kernel
theorem dL_law_439 : decode cL_law 439 = .ok (.iaload, 1) := by decide +kernel
theorem dL_law_440 : decode cL_law 440 = .ok (.aload_n 0, 1) := by decide +kernel
theorem dL_law_441 : decode cL_law 441 = .ok (.iload_n 3, 1) := by decide +kernel
theorem dL_law_442 : decode cL_law 442 = .ok (.iconst 4, 1) := by decide +kernel
theorem dL_law_443 : decode cL_law 443 = .ok (.iadd, 1) := by decide +kernel
theorem dL_law_444 : decode cL_law 444 = .ok (.iaload, 1) := by decide +kernel
theorem dL_law_445 : decode cL_law 445 = .ok (.invokevirtual 60, 3) := by decide +kernel
theorem dL_law_448 : decode cL_law 448 = .ok (.if_icmp .eq 525, 3) := by decide +kernel
theorem dL_law_451 : decode cL_law 451 = .ok (.iconst 0, 1) := by decide +kernel
theorem dL_law_452 : decode cL_law 452 = .ok (.ireturn, 1) := by decide +kernel
theorem dL_law_453 : decode cL_law 453 = .ok (.aload_n 1, 1) := by decide +kernel
theorem dL_law_454 : decode cL_law 454 = .ok (.invokevirtual 61, 3) := by decide +kernel
theorem dL_law_457 : decode cL_law 457 = .ok (.aload_n 2, 1) := by decide +kernel
theorem dL_law_458 : decode cL_law 458 = .ok (.invokevirtual 64, 3) := by decide +kernel
theorem dL_law_461 : decode cL_law 461 = .ok (.if_icmp .eq 512, 3) := by decide +kernel
theorem dL_law_464 : decode cL_law 464 = .ok (.iconst 0, 1) := by decide +kernel
theorem dL_law_465 : decode cL_law 465 = .ok (.ireturn, 1) := by decide +kernel
theorem dL_law_466 : decode cL_law 466 = .ok (.aload_n 1, 1) := by decide +kernel
theorem dL_law_467 : decode cL_law 467 = .ok (.aload_n 0, 1) := by decide +kernel
theorem dL_law_468 : decode cL_law 468 = .ok (.iload_n 3, 1) := by decide +kernel
theorem dL_law_469 : decode cL_law 469 = .ok (.iconst 1, 1) := by decide +kernel
theorem dL_law_470 : decode cL_law 470 = .ok (.iadd, 1) := by decide +kernel
theorem dL_law_471 : decode cL_law 471 = .ok (.iaload, 1) := by decide +kernel
theorem dL_law_472 : decode cL_law 472 = .ok (.aload_n 0, 1) := by decide +kernel
theorem dL_law_473 : decode cL_law 473 = .ok (.iload_n 3, 1) := by decide +kernel
theorem dL_law_474 : decode cL_law 474 = .ok (.iconst 2, 1) := by decide +kernel
theorem dL_law_475 : decode cL_law 475 = .ok (.iadd, 1) := by decide +kernel
theorem dL_law_476 : decode cL_law 476 = .ok (.iaload, 1) := by decide +kernel
theorem dL_law_477 : decode cL_law 477 = .ok (.invokevirtual 65, 3) := by decide +kernel
theorem dL_law_480 : decode cL_law 480 = .ok (.aload_n 2, 1) := by decide +kernel
theorem dL_law_481 : decode cL_law 481 = .ok (.aload_n 0, 1) := by decide +kernel
theorem dL_law_482 : decode cL_law 482 = .ok (.iload_n 3, 1) := by decide +kernel
theorem dL_law_483 : decode cL_law 483 = .ok (.iconst 1, 1) := by decide +kernel
theorem dL_law_484 : decode cL_law 484 = .ok (.iadd, 1) := by decide +kernel
theorem dL_law_485 : decode cL_law 485 = .ok (.iaload, 1) := by decide +kernel
theorem dL_law_486 : decode cL_law 486 = .ok (.aload_n 0, 1) := by decide +kernel
theorem dL_law_487 : decode cL_law 487 = .ok (.iload_n 3, 1) := by decide +kernel
theorem dL_law_488 : decode cL_law 488 = .ok (.iconst 2, 1) := by decide +kernel
theorem dL_law_489 : decode cL_law 489 = .ok (.iadd, 1) := by decide +kernel
theorem dL_law_490 : decode cL_law 490 = .ok (.iaload, 1) := by decide +kernel
theorem dL_law_491 : decode cL_law 491 = .ok (.invokevirtual 68, 3) := by decide +kernel
theorem dL_law_494 : decode cL_law 494 = .ok (.if_icmp .eq 479, 3) := by decide +kernel
theorem dL_law_497 : decode cL_law 497 = .ok (.iconst 0, 1) := by decide +kernel
theorem dL_law_498 : decode cL_law 498 = .ok (.ireturn, 1) := by decide +kernel
theorem dL_law_499 : decode cL_law 499 = .ok (.aload_n 1, 1) := by decide +kernel
theorem dL_law_500 : decode cL_law 500 = .ok (.invokevirtual 69, 3) := by decide +kernel
theorem dL_law_503 : decode cL_law 503 = .ok (.aload_n 2, 1) := by decide +kernel
theorem dL_law_504 : decode cL_law 504 = .ok (.invokevirtual 72, 3) := by decide +kernel
theorem dL_law_507 : decode cL_law 507 = .ok (.if_icmp .eq 466, 3) := by decide +kernel
theorem dL_law_510 : decode cL_law 510 = .ok (.iconst 0, 1) := by decide +kernel
theorem dL_law_511 : decode cL_law 511 = .ok (.ireturn, 1) := by decide +kernel
theorem dL_law_512 : decode cL_law 512 = .ok (.aload_n 1, 1) := by decide +kernel
theorem dL_law_513 : decode cL_law 513 = .ok (.aload_n 0, 1) := by decide +kernel
theorem dL_law_514 : decode cL_law 514 = .ok (.iload_n 3, 1) := by decide +kernel
theorem dL_law_515 : decode cL_law 515 = .ok (.iconst 1, 1) := by decide +kernel
theorem dL_law_516 : decode cL_law 516 = .ok (.iadd, 1) := by decide +kernel
theorem dL_law_517 : decode cL_law 517 = .ok (.iaload, 1) := by decide +kernel
theorem dL_law_518 : decode cL_law 518 = .ok (.invokevirtual 73, 3) := by decide +kernel
theorem dL_law_521 : decode cL_law 521 = .ok (.aload_n 2, 1) := by decide +kernel
theorem dL_law_522 : decode cL_law 522 = .ok (.aload_n 0, 1) := by decide +kernel
theorem dL_law_523 : decode cL_law 523 = .ok (.iload_n 3, 1) := by decide +kernel
theorem dL_law_524 : decode cL_law 524 = .ok (.iconst 1, 1) := by decide +kernel
theorem dL_law_525 : decode cL_law 525 = .ok (.iadd, 1) := by decide +kernel
theorem dL_law_526 : decode cL_law 526 = .ok (.iaload, 1) := by decide +kernel
theorem dL_law_527 : decode cL_law 527 = .ok (.invokevirtual 76, 3) := by decide +kernel
theorem dL_law_530 : decode cL_law 530 = .ok (.if_icmp .eq 443, 3) := by decide +kernel
theorem dL_law_533 : decode cL_law 533 = .ok (.iconst 0, 1) := by decide +kernel
theorem dL_law_534 : decode cL_law 534 = .ok (.ireturn, 1) := by decide +kernel
theorem dL_law_535 : decode cL_law 535 = .ok (.aload_n 1, 1) := by decide +kernel
theorem dL_law_536 : decode cL_law 536 = .ok (.invokevirtual 77, 3) := by decide +kernel
theorem dL_law_539 : decode cL_law 539 = .ok (.aload_n 2, 1) := by decide +kernel
theorem dL_law_540 : decode cL_law 540 = .ok (.invokevirtual 80, 3) := by decide +kernel
theorem dL_law_543 : decode cL_law 543 = .ok (.if_icmp .eq 430, 3) := by decide +kernel
theorem dL_law_546 : decode cL_law 546 = .ok (.iconst 0, 1) := by decide +kernel
theorem dL_law_547 : decode cL_law 547 = .ok (.ireturn, 1) := by decide +kernel
theorem dL_law_548 : decode cL_law 548 = .ok (.aload_n 1, 1) := by decide +kernel
theorem dL_law_549 : decode cL_law 549 = .ok (.aload_n 0, 1) := by decide +kernel
theorem dL_law_550 : decode cL_law 550 = .ok (.iload_n 3, 1) := by decide +kernel
theorem dL_law_551 : decode cL_law 551 = .ok (.iconst 1, 1) := by decide +kernel
theorem dL_law_552 : decode cL_law 552 = .ok (.iadd, 1) := by decide +kernel
theorem dL_law_553 : decode cL_law 553 = .ok (.iaload, 1) := by decide +kernel
theorem dL_law_554 : decode cL_law 554 = .ok (.aload_n 0, 1) := by decide +kernel
theorem dL_law_555 : decode cL_law 555 = .ok (.iload_n 3, 1) := by decide +kernel
theorem dL_law_556 : decode cL_law 556 = .ok (.iconst 2, 1) := by decide +kernel
theorem dL_law_557 : decode cL_law 557 = .ok (.iadd, 1) := by decide +kernel
theorem dL_law_558 : decode cL_law 558 = .ok (.iaload, 1) := by decide +kernel
theorem dL_law_559 : decode cL_law 559 = .ok (.i2l, 1) := by decide +kernel
theorem dL_law_560 : decode cL_law 560 = .ok (.bipush 32, 2) := by decide +kernel
theorem dL_law_562 : decode cL_law 562 = .ok (.lshl, 1) := by decide +kernel
theorem dL_law_563 : decode cL_law 563 = .ok (.aload_n 0, 1) := by decide +kernel
theorem dL_law_564 : decode cL_law 564 = .ok (.iload_n 3, 1) := by decide +kernel
theorem dL_law_565 : decode cL_law 565 = .ok (.iconst 3, 1) := by decide +kernel
theorem dL_law_566 : decode cL_law 566 = .ok (.iadd, 1) := by decide +kernel
theorem dL_law_567 : decode cL_law 567 = .ok (.iaload, 1) := by decide +kernel
theorem dL_law_568 : decode cL_law 568 = .ok (.i2l, 1) := by decide +kernel
theorem dL_law_569 : decode cL_law 569 = .ok (.ldc2_w 81, 3) := by decide +kernel
theorem dL_law_572 : decode cL_law 572 = .ok (.land, 1) := by decide +kernel
theorem dL_law_573 : decode cL_law 573 = .ok (.lor, 1) := by decide +kernel
theorem dL_law_574 : decode cL_law 574 = .ok (.invokevirtual 83, 3) := by decide +kernel
theorem dL_law_577 : decode cL_law 577 = .ok (.aload_n 2, 1) := by decide +kernel
theorem dL_law_578 : decode cL_law 578 = .ok (.aload_n 0, 1) := by decide +kernel
theorem dL_law_579 : decode cL_law 579 = .ok (.iload_n 3, 1) := by decide +kernel
theorem dL_law_580 : decode cL_law 580 = .ok (.iconst 1, 1) := by decide +kernel
theorem dL_law_581 : decode cL_law 581 = .ok (.iadd, 1) := by decide +kernel
theorem dL_law_582 : decode cL_law 582 = .ok (.iaload, 1) := by decide +kernel
theorem dL_law_583 : decode cL_law 583 = .ok (.aload_n 0, 1) := by decide +kernel
theorem dL_law_584 : decode cL_law 584 = .ok (.iload_n 3, 1) := by decide +kernel
theorem dL_law_585 : decode cL_law 585 = .ok (.iconst 2, 1) := by decide +kernel
theorem dL_law_586 : decode cL_law 586 = .ok (.iadd, 1) := by decide +kernel
theorem dL_law_587 : decode cL_law 587 = .ok (.iaload, 1) := by decide +kernel
theorem dL_law_588 : decode cL_law 588 = .ok (.i2l, 1) := by decide +kernel
theorem dL_law_589 : decode cL_law 589 = .ok (.bipush 32, 2) := by decide +kernel
theorem dL_law_591 : decode cL_law 591 = .ok (.lshl, 1) := by decide +kernel
theorem dL_law_592 : decode cL_law 592 = .ok (.aload_n 0, 1) := by decide +kernel
theorem dL_law_593 : decode cL_law 593 = .ok (.iload_n 3, 1) := by decide +kernel
theorem dL_law_594 : decode cL_law 594 = .ok (.iconst 3, 1) := by decide +kernel
theorem dL_law_595 : decode cL_law 595 = .ok (.iadd, 1) := by decide +kernel
theorem dL_law_596 : decode cL_law 596 = .ok (.iaload, 1) := by decide +kernel
theorem dL_law_597 : decode cL_law 597 = .ok (.i2l, 1) := by decide +kernel
theorem dL_law_598 : decode cL_law 598 = .ok (.ldc2_w 81, 3) := by decide +kernel
theorem dL_law_601 : decode cL_law 601 = .ok (.land, 1) := by decide +kernel
theorem dL_law_602 : decode cL_law 602 = .ok (.lor, 1) := by decide +kernel
theorem dL_law_603 : decode cL_law 603 = .ok (.invokevirtual 87, 3) := by decide +kernel
theorem dL_law_606 : decode cL_law 606 = .ok (.if_icmp .eq 367, 3) := by decide +kernel
theorem dL_law_609 : decode cL_law 609 = .ok (.iconst 0, 1) := by decide +kernel
theorem dL_law_610 : decode cL_law 610 = .ok (.ireturn, 1) := by decide +kernel
theorem dL_law_611 : decode cL_law 611 = .ok (.aload_n 1, 1) := by decide +kernel
theorem dL_law_612 : decode cL_law 612 = .ok (.aload_n 0, 1) := by decide +kernel
theorem dL_law_613 : decode cL_law 613 = .ok (.iload_n 3, 1) := by decide +kernel
theorem dL_law_614 : decode cL_law 614 = .ok (.iconst 1, 1) := by decide +kernel
theorem dL_law_615 : decode cL_law 615 = .ok (.iadd, 1) := by decide +kernel
theorem dL_law_616 : decode cL_law 616 = .ok (.iaload, 1) := by decide +kernel
theorem dL_law_617 : decode cL_law 617 = .ok (.aload_n 0, 1) := by decide +kernel
theorem dL_law_618 : decode cL_law 618 = .ok (.iload_n 3, 1) := by decide +kernel
theorem dL_law_619 : decode cL_law 619 = .ok (.iconst 2, 1) := by decide +kernel
theorem dL_law_620 : decode cL_law 620 = .ok (.iadd, 1) := by decide +kernel
theorem dL_law_621 : decode cL_law 621 = .ok (.iaload, 1) := by decide +kernel
theorem dL_law_622 : decode cL_law 622 = .ok (.aload_n 0, 1) := by decide +kernel
theorem dL_law_623 : decode cL_law 623 = .ok (.iload_n 3, 1) := by decide +kernel
theorem dL_law_624 : decode cL_law 624 = .ok (.iconst 3, 1) := by decide +kernel
theorem dL_law_625 : decode cL_law 625 = .ok (.iadd, 1) := by decide +kernel
theorem dL_law_626 : decode cL_law 626 = .ok (.iaload, 1) := by decide +kernel
theorem dL_law_627 : decode cL_law 627 = .ok (.invokevirtual 88, 3) := by decide +kernel
theorem dL_law_630 : decode cL_law 630 = .ok (.aload_n 2, 1) := by decide +kernel
theorem dL_law_631 : decode cL_law 631 = .ok (.aload_n 0, 1) := by decide +kernel
theorem dL_law_632 : decode cL_law 632 = .ok (.iload_n 3, 1) := by decide +kernel
theorem dL_law_633 : decode cL_law 633 = .ok (.iconst 1, 1) := by decide +kernel
theorem dL_law_634 : decode cL_law 634 = .ok (.iadd, 1) := by decide +kernel
theorem dL_law_635 : decode cL_law 635 = .ok (.iaload, 1) := by decide +kernel
theorem dL_law_636 : decode cL_law 636 = .ok (.aload_n 0, 1) := by decide +kernel
theorem dL_law_637 : decode cL_law 637 = .ok (.iload_n 3, 1) := by decide +kernel
theorem dL_law_638 : decode cL_law 638 = .ok (.iconst 2, 1) := by decide +kernel
theorem dL_law_639 : decode cL_law 639 = .ok (.iadd, 1) := by decide +kernel
theorem dL_law_640 : decode cL_law 640 = .ok (.iaload, 1) := by decide +kernel
theorem dL_law_641 : decode cL_law 641 = .ok (.aload_n 0, 1) := by decide +kernel
theorem dL_law_642 : decode cL_law 642 = .ok (.iload_n 3, 1) := by decide +kernel
theorem dL_law_643 : decode cL_law 643 = .ok (.iconst 3, 1) := by decide +kernel
theorem dL_law_644 : decode cL_law 644 = .ok (.iadd, 1) := by decide +kernel
theorem dL_law_645 : decode cL_law 645 = .ok (.iaload, 1) := by decide +kernel
theorem dL_law_646 : decode cL_law 646 = .ok (.invokevirtual 92, 3) := by decide +kernel
theorem dL_law_649 : decode cL_law 649 = .ok (.if_icmp .eq 324, 3) := by decide +kernel
theorem dL_law_652 : decode cL_law 652 = .ok (.iconst 0, 1) := by decide +kernel
theorem dL_law_653 : decode cL_law 653 = .ok (.ireturn, 1) := by decide +kernel
theorem dL_law_654 : decode cL_law 654 = .ok (.aload_n 1, 1) := by decide +kernel
theorem dL_law_655 : decode cL_law 655 = .ok (.invokevirtual 93, 3) := by decide +kernel
theorem dL_law_658 : decode cL_law 658 = .ok (.aload_n 2, 1) := by decide +kernel
theorem dL_law_659 : decode cL_law 659 = .ok (.invokevirtual 96, 3) := by decide +kernel
theorem dL_law_662 : decode cL_law 662 = .ok (.if_icmp .eq 311, 3) := by decide +kernel
theorem dL_law_665 : decode cL_law 665 = .ok (.iconst 0, 1) := by decide +kernel
theorem dL_law_666 : decode cL_law 666 = .ok (.ireturn, 1) := by decide +kernel
theorem dL_law_667 : decode cL_law 667 = .ok (.aload_n 1, 1) := by decide +kernel
theorem dL_law_668 : decode cL_law 668 = .ok (.aload_n 0, 1) := by decide +kernel
theorem dL_law_669 : decode cL_law 669 = .ok (.iload_n 3, 1) := by decide +kernel
theorem dL_law_670 : decode cL_law 670 = .ok (.iconst 1, 1) := by decide +kernel
theorem dL_law_671 : decode cL_law 671 = .ok (.iadd, 1) := by decide +kernel
theorem dL_law_672 : decode cL_law 672 = .ok (.iaload, 1) := by decide +kernel
theorem dL_law_673 : decode cL_law 673 = .ok (.invokevirtual 97, 3) := by decide +kernel
theorem dL_law_676 : decode cL_law 676 = .ok (.aload_n 2, 1) := by decide +kernel
theorem dL_law_677 : decode cL_law 677 = .ok (.aload_n 0, 1) := by decide +kernel
theorem dL_law_678 : decode cL_law 678 = .ok (.iload_n 3, 1) := by decide +kernel
theorem dL_law_679 : decode cL_law 679 = .ok (.iconst 1, 1) := by decide +kernel
theorem dL_law_680 : decode cL_law 680 = .ok (.iadd, 1) := by decide +kernel
theorem dL_law_681 : decode cL_law 681 = .ok (.iaload, 1) := by decide +kernel
theorem dL_law_682 : decode cL_law 682 = .ok (.invokevirtual 100, 3) := by decide +kernel
theorem dL_law_685 : decode cL_law 685 = .ok (.if_icmp .eq 288, 3) := by decide +kernel
theorem dL_law_688 : decode cL_law 688 = .ok (.iconst 0, 1) := by decide +kernel
theorem dL_law_689 : decode cL_law 689 = .ok (.ireturn, 1) := by decide +kernel
theorem dL_law_690 : decode cL_law 690 = .ok (.aload_n 1, 1) := by decide +kernel
theorem dL_law_691 : decode cL_law 691 = .ok (.aload_n 0, 1) := by decide +kernel
theorem dL_law_692 : decode cL_law 692 = .ok (.iload_n 3, 1) := by decide +kernel
theorem dL_law_693 : decode cL_law 693 = .ok (.iconst 1, 1) := by decide +kernel
theorem dL_law_694 : decode cL_law 694 = .ok (.iadd, 1) := by decide +kernel
theorem dL_law_695 : decode cL_law 695 = .ok (.iaload, 1) := by decide +kernel
theorem dL_law_696 : decode cL_law 696 = .ok (.aload_n 0, 1) := by decide +kernel
theorem dL_law_697 : decode cL_law 697 = .ok (.iload_n 3, 1) := by decide +kernel
theorem dL_law_698 : decode cL_law 698 = .ok (.iconst 2, 1) := by decide +kernel
theorem dL_law_699 : decode cL_law 699 = .ok (.iadd, 1) := by decide +kernel
theorem dL_law_700 : decode cL_law 700 = .ok (.iaload, 1) := by decide +kernel
theorem dL_law_701 : decode cL_law 701 = .ok (.ifCond .eq 7, 3) := by decide +kernel
theorem dL_law_704 : decode cL_law 704 = .ok (.iconst 1, 1) := by decide +kernel
theorem dL_law_705 : decode cL_law 705 = .ok (.goto 4, 3) := by decide +kernel
theorem dL_law_708 : decode cL_law 708 = .ok (.iconst 0, 1) := by decide +kernel
theorem dL_law_709 : decode cL_law 709 = .ok (.invokevirtual 101, 3) := by decide +kernel
theorem dL_law_712 : decode cL_law 712 = .ok (.aload_n 2, 1) := by decide +kernel
theorem dL_law_713 : decode cL_law 713 = .ok (.aload_n 0, 1) := by decide +kernel
theorem dL_law_714 : decode cL_law 714 = .ok (.iload_n 3, 1) := by decide +kernel
theorem dL_law_715 : decode cL_law 715 = .ok (.iconst 1, 1) := by decide +kernel
theorem dL_law_716 : decode cL_law 716 = .ok (.iadd, 1) := by decide +kernel
theorem dL_law_717 : decode cL_law 717 = .ok (.iaload, 1) := by decide +kernel
theorem dL_law_718 : decode cL_law 718 = .ok (.aload_n 0, 1) := by decide +kernel
theorem dL_law_719 : decode cL_law 719 = .ok (.iload_n 3, 1) := by decide +kernel
theorem dL_law_720 : decode cL_law 720 = .ok (.iconst 2, 1) := by decide +kernel
theorem dL_law_721 : decode cL_law 721 = .ok (.iadd, 1) := by decide +kernel
theorem dL_law_722 : decode cL_law 722 = .ok (.iaload, 1) := by decide +kernel
theorem dL_law_723 : decode cL_law 723 = .ok (.ifCond .eq 7, 3) := by decide +kernel
theorem dL_law_726 : decode cL_law 726 = .ok (.iconst 1, 1) := by decide +kernel
theorem dL_law_727 : decode cL_law 727 = .ok (.goto 4, 3) := by decide +kernel
theorem dL_law_730 : decode cL_law 730 = .ok (.iconst 0, 1) := by decide +kernel
theorem dL_law_731 : decode cL_law 731 = .ok (.invokevirtual 105, 3) := by decide +kernel
theorem dL_law_734 : decode cL_law 734 = .ok (.if_icmp .eq 239, 3) := by decide +kernel
theorem dL_law_737 : decode cL_law 737 = .ok (.iconst 0, 1) := by decide +kernel
theorem dL_law_738 : decode cL_law 738 = .ok (.ireturn, 1) := by decide +kernel
theorem dL_law_739 : decode cL_law 739 = .ok (.aload_n 1, 1) := by decide +kernel
theorem dL_law_740 : decode cL_law 740 = .ok (.aload_n 0, 1) := by decide +kernel
theorem dL_law_741 : decode cL_law 741 = .ok (.iload_n 3, 1) := by decide +kernel
theorem dL_law_742 : decode cL_law 742 = .ok (.iconst 1, 1) := by decide +kernel
theorem dL_law_743 : decode cL_law 743 = .ok (.iadd, 1) := by decide +kernel
theorem dL_law_744 : decode cL_law 744 = .ok (.iaload, 1) := by decide +kernel
theorem dL_law_745 : decode cL_law 745 = .ok (.ifCond .eq 7, 3) := by decide +kernel
theorem dL_law_748 : decode cL_law 748 = .ok (.iconst 1, 1) := by decide +kernel
theorem dL_law_749 : decode cL_law 749 = .ok (.goto 4, 3) := by decide +kernel
theorem dL_law_752 : decode cL_law 752 = .ok (.iconst 0, 1) := by decide +kernel
theorem dL_law_753 : decode cL_law 753 = .ok (.invokevirtual 106, 3) := by decide +kernel
theorem dL_law_756 : decode cL_law 756 = .ok (.aload_n 2, 1) := by decide +kernel
theorem dL_law_757 : decode cL_law 757 = .ok (.aload_n 0, 1) := by decide +kernel
theorem dL_law_758 : decode cL_law 758 = .ok (.iload_n 3, 1) := by decide +kernel
theorem dL_law_759 : decode cL_law 759 = .ok (.iconst 1, 1) := by decide +kernel
theorem dL_law_760 : decode cL_law 760 = .ok (.iadd, 1) := by decide +kernel
theorem dL_law_761 : decode cL_law 761 = .ok (.iaload, 1) := by decide +kernel
theorem dL_law_762 : decode cL_law 762 = .ok (.ifCond .eq 7, 3) := by decide +kernel
theorem dL_law_765 : decode cL_law 765 = .ok (.iconst 1, 1) := by decide +kernel
theorem dL_law_766 : decode cL_law 766 = .ok (.goto 4, 3) := by decide +kernel
theorem dL_law_769 : decode cL_law 769 = .ok (.iconst 0, 1) := by decide +kernel
theorem dL_law_770 : decode cL_law 770 = .ok (.invokevirtual 110, 3) := by decide +kernel
theorem dL_law_773 : decode cL_law 773 = .ok (.if_icmp .eq 200, 3) := by decide +kernel
theorem dL_law_776 : decode cL_law 776 = .ok (.iconst 0, 1) := by decide +kernel
theorem dL_law_777 : decode cL_law 777 = .ok (.ireturn, 1) := by decide +kernel
theorem dL_law_778 : decode cL_law 778 = .ok (.aload_n 1, 1) := by decide +kernel
theorem dL_law_779 : decode cL_law 779 = .ok (.aload_n 0, 1) := by decide +kernel
theorem dL_law_780 : decode cL_law 780 = .ok (.iload_n 3, 1) := by decide +kernel
theorem dL_law_781 : decode cL_law 781 = .ok (.iconst 1, 1) := by decide +kernel
theorem dL_law_782 : decode cL_law 782 = .ok (.iadd, 1) := by decide +kernel
theorem dL_law_783 : decode cL_law 783 = .ok (.iaload, 1) := by decide +kernel
theorem dL_law_784 : decode cL_law 784 = .ok (.aload_n 0, 1) := by decide +kernel
theorem dL_law_785 : decode cL_law 785 = .ok (.iload_n 3, 1) := by decide +kernel
theorem dL_law_786 : decode cL_law 786 = .ok (.iconst 2, 1) := by decide +kernel
theorem dL_law_787 : decode cL_law 787 = .ok (.iadd, 1) := by decide +kernel
theorem dL_law_788 : decode cL_law 788 = .ok (.iaload, 1) := by decide +kernel
theorem dL_law_789 : decode cL_law 789 = .ok (.ifCond .eq 7, 3) := by decide +kernel
theorem dL_law_792 : decode cL_law 792 = .ok (.iconst 1, 1) := by decide +kernel
theorem dL_law_793 : decode cL_law 793 = .ok (.goto 4, 3) := by decide +kernel
theorem dL_law_796 : decode cL_law 796 = .ok (.iconst 0, 1) := by decide +kernel
theorem dL_law_797 : decode cL_law 797 = .ok (.invokevirtual 111, 3) := by decide +kernel
theorem dL_law_800 : decode cL_law 800 = .ok (.aload_n 2, 1) := by decide +kernel
theorem dL_law_801 : decode cL_law 801 = .ok (.aload_n 0, 1) := by decide +kernel
theorem dL_law_802 : decode cL_law 802 = .ok (.iload_n 3, 1) := by decide +kernel
theorem dL_law_803 : decode cL_law 803 = .ok (.iconst 1, 1) := by decide +kernel
theorem dL_law_804 : decode cL_law 804 = .ok (.iadd, 1) := by decide +kernel
theorem dL_law_805 : decode cL_law 805 = .ok (.iaload, 1) := by decide +kernel
theorem dL_law_806 : decode cL_law 806 = .ok (.aload_n 0, 1) := by decide +kernel
theorem dL_law_807 : decode cL_law 807 = .ok (.iload_n 3, 1) := by decide +kernel
theorem dL_law_808 : decode cL_law 808 = .ok (.iconst 2, 1) := by decide +kernel
theorem dL_law_809 : decode cL_law 809 = .ok (.iadd, 1) := by decide +kernel
theorem dL_law_810 : decode cL_law 810 = .ok (.iaload, 1) := by decide +kernel
theorem dL_law_811 : decode cL_law 811 = .ok (.ifCond .eq 7, 3) := by decide +kernel
theorem dL_law_814 : decode cL_law 814 = .ok (.iconst 1, 1) := by decide +kernel
theorem dL_law_815 : decode cL_law 815 = .ok (.goto 4, 3) := by decide +kernel
theorem dL_law_818 : decode cL_law 818 = .ok (.iconst 0, 1) := by decide +kernel
theorem dL_law_819 : decode cL_law 819 = .ok (.invokevirtual 114, 3) := by decide +kernel
theorem dL_law_822 : decode cL_law 822 = .ok (.if_icmp .eq 151, 3) := by decide +kernel
theorem dL_law_825 : decode cL_law 825 = .ok (.iconst 0, 1) := by decide +kernel
theorem dL_law_826 : decode cL_law 826 = .ok (.ireturn, 1) := by decide +kernel
theorem dL_law_827 : decode cL_law 827 = .ok (.aload_n 1, 1) := by decide +kernel
theorem dL_law_828 : decode cL_law 828 = .ok (.aload_n 0, 1) := by decide +kernel
theorem dL_law_829 : decode cL_law 829 = .ok (.iload_n 3, 1) := by decide +kernel
theorem dL_law_830 : decode cL_law 830 = .ok (.iconst 1, 1) := by decide +kernel
theorem dL_law_831 : decode cL_law 831 = .ok (.iadd, 1) := by decide +kernel
theorem dL_law_832 : decode cL_law 832 = .ok (.iaload, 1) := by decide +kernel
theorem dL_law_833 : decode cL_law 833 = .ok (.i2l, 1) := by decide +kernel
theorem dL_law_834 : decode cL_law 834 = .ok (.bipush 32, 2) := by decide +kernel
theorem dL_law_836 : decode cL_law 836 = .ok (.lshl, 1) := by decide +kernel
theorem dL_law_837 : decode cL_law 837 = .ok (.aload_n 0, 1) := by decide +kernel
theorem dL_law_838 : decode cL_law 838 = .ok (.iload_n 3, 1) := by decide +kernel
theorem dL_law_839 : decode cL_law 839 = .ok (.iconst 2, 1) := by decide +kernel
theorem dL_law_840 : decode cL_law 840 = .ok (.iadd, 1) := by decide +kernel
theorem dL_law_841 : decode cL_law 841 = .ok (.iaload, 1) := by decide +kernel
theorem dL_law_842 : decode cL_law 842 = .ok (.i2l, 1) := by decide +kernel
theorem dL_law_843 : decode cL_law 843 = .ok (.ldc2_w 81, 3) := by decide +kernel
theorem dL_law_846 : decode cL_law 846 = .ok (.land, 1) := by decide +kernel
theorem dL_law_847 : decode cL_law 847 = .ok (.lor, 1) := by decide +kernel
theorem dL_law_848 : decode cL_law 848 = .ok (.invokevirtual 115, 3) := by decide +kernel
theorem dL_law_851 : decode cL_law 851 = .ok (.aload_n 2, 1) := by decide +kernel
theorem dL_law_852 : decode cL_law 852 = .ok (.aload_n 0, 1) := by decide +kernel
theorem dL_law_853 : decode cL_law 853 = .ok (.iload_n 3, 1) := by decide +kernel
theorem dL_law_854 : decode cL_law 854 = .ok (.iconst 1, 1) := by decide +kernel
theorem dL_law_855 : decode cL_law 855 = .ok (.iadd, 1) := by decide +kernel
theorem dL_law_856 : decode cL_law 856 = .ok (.iaload, 1) := by decide +kernel
theorem dL_law_857 : decode cL_law 857 = .ok (.i2l, 1) := by decide +kernel
theorem dL_law_858 : decode cL_law 858 = .ok (.bipush 32, 2) := by decide +kernel
theorem dL_law_860 : decode cL_law 860 = .ok (.lshl, 1) := by decide +kernel
theorem dL_law_861 : decode cL_law 861 = .ok (.aload_n 0, 1) := by decide +kernel
theorem dL_law_862 : decode cL_law 862 = .ok (.iload_n 3, 1) := by decide +kernel
theorem dL_law_863 : decode cL_law 863 = .ok (.iconst 2, 1) := by decide +kernel
theorem dL_law_864 : decode cL_law 864 = .ok (.iadd, 1) := by decide +kernel
theorem dL_law_865 : decode cL_law 865 = .ok (.iaload, 1) := by decide +kernel
theorem dL_law_866 : decode cL_law 866 = .ok (.i2l, 1) := by decide +kernel
theorem dL_law_867 : decode cL_law 867 = .ok (.ldc2_w 81, 3) := by decide +kernel
theorem dL_law_870 : decode cL_law 870 = .ok (.land, 1) := by decide +kernel
theorem dL_law_871 : decode cL_law 871 = .ok (.lor, 1) := by decide +kernel
theorem dL_law_872 : decode cL_law 872 = .ok (.invokevirtual 119, 3) := by decide +kernel
theorem dL_law_875 : decode cL_law 875 = .ok (.lcmp, 1) := by decide +kernel
theorem dL_law_876 : decode cL_law 876 = .ok (.ifCond .eq 97, 3) := by decide +kernel
theorem dL_law_879 : decode cL_law 879 = .ok (.iconst 0, 1) := by decide +kernel
theorem dL_law_880 : decode cL_law 880 = .ok (.ireturn, 1) := by decide +kernel
theorem dL_law_881 : decode cL_law 881 = .ok (.aload_n 1, 1) := by decide +kernel
theorem dL_law_882 : decode cL_law 882 = .ok (.aload_n 0, 1) := by decide +kernel
theorem dL_law_883 : decode cL_law 883 = .ok (.iload_n 3, 1) := by decide +kernel
theorem dL_law_884 : decode cL_law 884 = .ok (.iconst 1, 1) := by decide +kernel
theorem dL_law_885 : decode cL_law 885 = .ok (.iadd, 1) := by decide +kernel
theorem dL_law_886 : decode cL_law 886 = .ok (.iaload, 1) := by decide +kernel
theorem dL_law_887 : decode cL_law 887 = .ok (.invokevirtual 120, 3) := by decide +kernel
theorem dL_law_890 : decode cL_law 890 = .ok (.aload_n 2, 1) := by decide +kernel
theorem dL_law_891 : decode cL_law 891 = .ok (.aload_n 0, 1) := by decide +kernel
theorem dL_law_892 : decode cL_law 892 = .ok (.iload_n 3, 1) := by decide +kernel
theorem dL_law_893 : decode cL_law 893 = .ok (.iconst 1, 1) := by decide +kernel
theorem dL_law_894 : decode cL_law 894 = .ok (.iadd, 1) := by decide +kernel
theorem dL_law_895 : decode cL_law 895 = .ok (.iaload, 1) := by decide +kernel
theorem dL_law_896 : decode cL_law 896 = .ok (.invokevirtual 123, 3) := by decide +kernel
theorem dL_law_899 : decode cL_law 899 = .ok (.if_icmp .eq 74, 3) := by decide +kernel
theorem dL_law_902 : decode cL_law 902 = .ok (.iconst 0, 1) := by decide +kernel
theorem dL_law_903 : decode cL_law 903 = .ok (.ireturn, 1) := by decide +kernel
theorem dL_law_904 : decode cL_law 904 = .ok (.aload_n 1, 1) := by decide +kernel
theorem dL_law_905 : decode cL_law 905 = .ok (.aload_n 0, 1) := by decide +kernel
theorem dL_law_906 : decode cL_law 906 = .ok (.iload_n 3, 1) := by decide +kernel
theorem dL_law_907 : decode cL_law 907 = .ok (.iconst 1, 1) := by decide +kernel
theorem dL_law_908 : decode cL_law 908 = .ok (.iadd, 1) := by decide +kernel
theorem dL_law_909 : decode cL_law 909 = .ok (.iaload, 1) := by decide +kernel
theorem dL_law_910 : decode cL_law 910 = .ok (.invokevirtual 124, 3) := by decide +kernel
theorem dL_law_913 : decode cL_law 913 = .ok (.aload_n 2, 1) := by decide +kernel
theorem dL_law_914 : decode cL_law 914 = .ok (.aload_n 0, 1) := by decide +kernel
theorem dL_law_915 : decode cL_law 915 = .ok (.iload_n 3, 1) := by decide +kernel
theorem dL_law_916 : decode cL_law 916 = .ok (.iconst 1, 1) := by decide +kernel
theorem dL_law_917 : decode cL_law 917 = .ok (.iadd, 1) := by decide +kernel
theorem dL_law_918 : decode cL_law 918 = .ok (.iaload, 1) := by decide +kernel
theorem dL_law_919 : decode cL_law 919 = .ok (.invokevirtual 127, 3) := by decide +kernel
theorem dL_law_922 : decode cL_law 922 = .ok (.if_icmp .eq 51, 3) := by decide +kernel
theorem dL_law_925 : decode cL_law 925 = .ok (.iconst 0, 1) := by decide +kernel
theorem dL_law_926 : decode cL_law 926 = .ok (.ireturn, 1) := by decide +kernel
theorem dL_law_927 : decode cL_law 927 = .ok (.aload_n 1, 1) := by decide +kernel
theorem dL_law_928 : decode cL_law 928 = .ok (.aload_n 0, 1) := by decide +kernel
theorem dL_law_929 : decode cL_law 929 = .ok (.iload_n 3, 1) := by decide +kernel
theorem dL_law_930 : decode cL_law 930 = .ok (.iconst 1, 1) := by decide +kernel
theorem dL_law_931 : decode cL_law 931 = .ok (.iadd, 1) := by decide +kernel
theorem dL_law_932 : decode cL_law 932 = .ok (.iaload, 1) := by decide +kernel
theorem dL_law_933 : decode cL_law 933 = .ok (.invokevirtual 128, 3) := by decide +kernel
theorem dL_law_936 : decode cL_law 936 = .ok (.aload_n 2, 1) := by decide +kernel
theorem dL_law_937 : decode cL_law 937 = .ok (.aload_n 0, 1) := by decide +kernel
theorem dL_law_938 : decode cL_law 938 = .ok (.iload_n 3, 1) := by decide +kernel
theorem dL_law_939 : decode cL_law 939 = .ok (.iconst 1, 1) := by decide +kernel
theorem dL_law_940 : decode cL_law 940 = .ok (.iadd, 1) := by decide +kernel
theorem dL_law_941 : decode cL_law 941 = .ok (.iaload, 1) := by decide +kernel
theorem dL_law_942 : decode cL_law 942 = .ok (.invokevirtual 131, 3) := by decide +kernel
theorem dL_law_945 : decode cL_law 945 = .ok (.if_icmp .eq 28, 3) := by decide +kernel
theorem dL_law_948 : decode cL_law 948 = .ok (.iconst 0, 1) := by decide +kernel
theorem dL_law_949 : decode cL_law 949 = .ok (.ireturn, 1) := by decide +kernel
theorem dL_law_950 : decode cL_law 950 = .ok (.aload_n 1, 1) := by decide +kernel
theorem dL_law_951 : decode cL_law 951 = .ok (.aload_n 0, 1) := by decide +kernel
theorem dL_law_952 : decode cL_law 952 = .ok (.iload_n 3, 1) := by decide +kernel
theorem dL_law_953 : decode cL_law 953 = .ok (.iconst 1, 1) := by decide +kernel
theorem dL_law_954 : decode cL_law 954 = .ok (.iadd, 1) := by decide +kernel
theorem dL_law_955 : decode cL_law 955 = .ok (.iaload, 1) := by decide +kernel
theorem dL_law_956 : decode cL_law 956 = .ok (.invokevirtual 132, 3) := by decide +kernel
theorem dL_law_959 : decode cL_law 959 = .ok (.aload_n 2, 1) := by decide +kernel
theorem dL_law_960 : decode cL_law 960 = .ok (.aload_n 0, 1) := by decide +kernel
theorem dL_law_961 : decode cL_law 961 = .ok (.iload_n 3, 1) := by decide +kernel
theorem dL_law_962 : decode cL_law 962 = .ok (.iconst 1, 1) := by decide +kernel
theorem dL_law_963 : decode cL_law 963 = .ok (.iadd, 1) := by decide +kernel
theorem dL_law_964 : decode cL_law 964 = .ok (.iaload, 1) := by decide +kernel
theorem dL_law_965 : decode cL_law 965 = .ok (.invokevirtual 135, 3) := by decide +kernel
theorem dL_law_968 : decode cL_law 968 = .ok (.if_icmp .eq 5, 3) := by decide +kernel
theorem dL_law_971 : decode cL_law 971 = .ok (.iconst 0, 1) := by decide +kernel
theorem dL_law_972 : decode cL_law 972 = .ok (.ireturn, 1) := by decide +kernel
theorem dL_law_973 : decode cL_law 973 = .ok (.iinc 3 5, 3) := by decide +kernel
theorem dL_law_976 : decode cL_law 976 = .ok (.goto (-958), 3) := by decide +kernel
theorem dL_law_979 : decode cL_law 979 = .ok (.iconst 1, 1) := by decide +kernel
theorem dL_law_980 : decode cL_law 980 = .ok (.ireturn, 1) := by decide +kernel
