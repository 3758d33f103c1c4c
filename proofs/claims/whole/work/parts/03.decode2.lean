theorem dX7_readPin_23 : decode cX7_readPin 23 = .ok (.goto 4, 3) := by decide +kernel
theorem dX7_readPin_26 : decode cX7_readPin 26 = .ok (.iconst 0, 1) := by decide +kernel
theorem dX7_readPin_27 : decode cX7_readPin 27 = .ok (.istore_n 1, 1) := by decide +kernel
theorem dX7_readPin_28 : decode cX7_readPin 28 = .ok (.iinc 2 1, 3) := by decide +kernel
theorem dX7_readPin_31 : decode cX7_readPin 31 = .ok (.goto (-27), 3) := by decide +kernel
theorem dX7_readPin_34 : decode cX7_readPin 34 = .ok (.iload_n 1, 1) := by decide +kernel
theorem dX7_readPin_35 : decode cX7_readPin 35 = .ok (.ifCond .ne 5, 3) := by decide +kernel
theorem dX7_readPin_38 : decode cX7_readPin 38 = .ok (.iconst 0, 1) := by decide +kernel
theorem dX7_readPin_39 : decode cX7_readPin 39 = .ok (.ireturn, 1) := by decide +kernel
theorem dX7_readPin_40 : decode cX7_readPin 40 = .ok (.aload_n 0, 1) := by decide +kernel
theorem dX7_readPin_41 : decode cX7_readPin 41 = .ok (.dup, 1) := by decide +kernel
theorem dX7_readPin_42 : decode cX7_readPin 42 = .ok (.getfield 79, 3) := by decide +kernel
theorem dX7_readPin_45 : decode cX7_readPin 45 = .ok (.iconst 1, 1) := by decide +kernel
theorem dX7_readPin_46 : decode cX7_readPin 46 = .ok (.iadd, 1) := by decide +kernel
theorem dX7_readPin_47 : decode cX7_readPin 47 = .ok (.putfield 79, 3) := by decide +kernel
theorem dX7_readPin_50 : decode cX7_readPin 50 = .ok (.aload_n 0, 1) := by decide +kernel
theorem dX7_readPin_51 : decode cX7_readPin 51 = .ok (.getfield 79, 3) := by decide +kernel
theorem dX7_readPin_54 : decode cX7_readPin 54 = .ok (.aload_n 0, 1) := by decide +kernel
theorem dX7_readPin_55 : decode cX7_readPin 55 = .ok (.getfield 76, 3) := by decide +kernel
theorem dX7_readPin_58 : decode cX7_readPin 58 = .ok (.if_icmp .ge 18, 3) := by decide +kernel
theorem dX7_readPin_61 : decode cX7_readPin 61 = .ok (.aload_n 0, 1) := by decide +kernel
theorem dX7_readPin_62 : decode cX7_readPin 62 = .ok (.getfield 7, 3) := by decide +kernel
theorem dX7_readPin_65 : decode cX7_readPin 65 = .ok (.aload_n 0, 1) := by decide +kernel
theorem dX7_readPin_66 : decode cX7_readPin 66 = .ok (.getfield 79, 3) := by decide +kernel
theorem dX7_readPin_69 : decode cX7_readPin 69 = .ok (.iaload, 1) := by decide +kernel
theorem dX7_readPin_70 : decode cX7_readPin 70 = .ok (.bipush 48, 2) := by decide +kernel
theorem dX7_readPin_72 : decode cX7_readPin 72 = .ok (.isub, 1) := by decide +kernel
theorem dX7_readPin_73 : decode cX7_readPin 73 = .ok (.goto 6, 3) := by decide +kernel
theorem dX7_readPin_76 : decode cX7_readPin 76 = .ok (.sipush 1000, 3) := by decide +kernel
theorem dX7_readPin_79 : decode cX7_readPin 79 = .ok (.istore_n 2, 1) := by decide +kernel
theorem dX7_readPin_80 : decode cX7_readPin 80 = .ok (.iconst 0, 1) := by decide +kernel
theorem dX7_readPin_81 : decode cX7_readPin 81 = .ok (.istore_n 3, 1) := by decide +kernel
theorem dX7_readPin_82 : decode cX7_readPin 82 = .ok (.iconst 0, 1) := by decide +kernel
theorem dX7_readPin_83 : decode cX7_readPin 83 = .ok (.istore 4, 2) := by decide +kernel
theorem dX7_readPin_85 : decode cX7_readPin 85 = .ok (.iload 4, 2) := by decide +kernel
theorem dX7_readPin_87 : decode cX7_readPin 87 = .ok (.bipush 10, 2) := by decide +kernel
theorem dX7_readPin_89 : decode cX7_readPin 89 = .ok (.if_icmp .ge 43, 3) := by decide +kernel
theorem dX7_readPin_92 : decode cX7_readPin 92 = .ok (.iload_n 3, 1) := by decide +kernel
theorem dX7_readPin_93 : decode cX7_readPin 93 = .ok (.ifCond .ne 27, 3) := by decide +kernel
theorem dX7_readPin_96 : decode cX7_readPin 96 = .ok (.iload_n 2, 1) := by decide +kernel
theorem dX7_readPin_97 : decode cX7_readPin 97 = .ok (.i2l, 1) := by decide +kernel
theorem dX7_readPin_98 : decode cX7_readPin 98 = .ok (.lconst 0, 1) := by decide +kernel
theorem dX7_readPin_99 : decode cX7_readPin 99 = .ok (.lconst 1, 1) := by decide +kernel
theorem dX7_readPin_100 : decode cX7_readPin 100 = .ok (.invokestatic 72, 3) := by decide +kernel
theorem dX7_readPin_103 : decode cX7_readPin 103 = .ok (.ifCond .eq 21, 3) := by decide +kernel
theorem dX7_readPin_106 : decode cX7_readPin 106 = .ok (.aload_n 0, 1) := by decide +kernel
theorem dX7_readPin_107 : decode cX7_readPin 107 = .ok (.bipush 10, 2) := by decide +kernel
theorem dX7_readPin_109 : decode cX7_readPin 109 = .ok (.iload_n 2, 1) := by decide +kernel
theorem dX7_readPin_110 : decode cX7_readPin 110 = .ok (.imul, 1) := by decide +kernel
theorem dX7_readPin_111 : decode cX7_readPin 111 = .ok (.iload 4, 2) := by decide +kernel
theorem dX7_readPin_113 : decode cX7_readPin 113 = .ok (.iadd, 1) := by decide +kernel
theorem dX7_readPin_114 : decode cX7_readPin 114 = .ok (.invokevirtual 92, 3) := by decide +kernel
theorem dX7_readPin_117 : decode cX7_readPin 117 = .ok (.ifCond .eq 7, 3) := by decide +kernel
theorem dX7_readPin_120 : decode cX7_readPin 120 = .ok (.iconst 1, 1) := by decide +kernel
theorem dX7_readPin_121 : decode cX7_readPin 121 = .ok (.goto 4, 3) := by decide +kernel
theorem dX7_readPin_124 : decode cX7_readPin 124 = .ok (.iconst 0, 1) := by decide +kernel
theorem dX7_readPin_125 : decode cX7_readPin 125 = .ok (.istore_n 3, 1) := by decide +kernel
theorem dX7_readPin_126 : decode cX7_readPin 126 = .ok (.iinc 4 1, 3) := by decide +kernel
theorem dX7_readPin_129 : decode cX7_readPin 129 = .ok (.goto (-44), 3) := by decide +kernel
theorem dX7_readPin_132 : decode cX7_readPin 132 = .ok (.iload_n 3, 1) := by decide +kernel
theorem dX7_readPin_133 : decode cX7_readPin 133 = .ok (.ifCond .ne 5, 3) := by decide +kernel
theorem dX7_readPin_136 : decode cX7_readPin 136 = .ok (.iconst 0, 1) := by decide +kernel
theorem dX7_readPin_137 : decode cX7_readPin 137 = .ok (.ireturn, 1) := by decide +kernel
theorem dX7_readPin_138 : decode cX7_readPin 138 = .ok (.aload_n 0, 1) := by decide +kernel
theorem dX7_readPin_139 : decode cX7_readPin 139 = .ok (.dup, 1) := by decide +kernel
theorem dX7_readPin_140 : decode cX7_readPin 140 = .ok (.getfield 79, 3) := by decide +kernel
theorem dX7_readPin_143 : decode cX7_readPin 143 = .ok (.iconst 1, 1) := by decide +kernel
theorem dX7_readPin_144 : decode cX7_readPin 144 = .ok (.iadd, 1) := by decide +kernel
theorem dX7_readPin_145 : decode cX7_readPin 145 = .ok (.putfield 79, 3) := by decide +kernel
theorem dX7_readPin_148 : decode cX7_readPin 148 = .ok (.aload_n 0, 1) := by decide +kernel
theorem dX7_readPin_149 : decode cX7_readPin 149 = .ok (.getfield 79, 3) := by decide +kernel
theorem dX7_readPin_152 : decode cX7_readPin 152 = .ok (.aload_n 0, 1) := by decide +kernel
theorem dX7_readPin_153 : decode cX7_readPin 153 = .ok (.getfield 76, 3) := by decide +kernel
theorem dX7_readPin_156 : decode cX7_readPin 156 = .ok (.if_icmp .ge 18, 3) := by decide +kernel
theorem dX7_readPin_159 : decode cX7_readPin 159 = .ok (.aload_n 0, 1) := by decide +kernel
theorem dX7_readPin_160 : decode cX7_readPin 160 = .ok (.getfield 7, 3) := by decide +kernel
theorem dX7_readPin_163 : decode cX7_readPin 163 = .ok (.aload_n 0, 1) := by decide +kernel
theorem dX7_readPin_164 : decode cX7_readPin 164 = .ok (.getfield 79, 3) := by decide +kernel
theorem dX7_readPin_167 : decode cX7_readPin 167 = .ok (.iaload, 1) := by decide +kernel
theorem dX7_readPin_168 : decode cX7_readPin 168 = .ok (.bipush 48, 2) := by decide +kernel
theorem dX7_readPin_170 : decode cX7_readPin 170 = .ok (.isub, 1) := by decide +kernel
theorem dX7_readPin_171 : decode cX7_readPin 171 = .ok (.goto 6, 3) := by decide +kernel
theorem dX7_readPin_174 : decode cX7_readPin 174 = .ok (.sipush 1000, 3) := by decide +kernel
theorem dX7_readPin_177 : decode cX7_readPin 177 = .ok (.istore 4, 2) := by decide +kernel
theorem dX7_readPin_179 : decode cX7_readPin 179 = .ok (.iload 4, 2) := by decide +kernel
theorem dX7_readPin_181 : decode cX7_readPin 181 = .ok (.i2l, 1) := by decide +kernel
theorem dX7_readPin_182 : decode cX7_readPin 182 = .ok (.lconst 0, 1) := by decide +kernel
theorem dX7_readPin_183 : decode cX7_readPin 183 = .ok (.ldc2_w 96, 3) := by decide +kernel
theorem dX7_readPin_186 : decode cX7_readPin 186 = .ok (.invokestatic 72, 3) := by decide +kernel
theorem dX7_readPin_189 : decode cX7_readPin 189 = .ok (.ifCond .eq 17, 3) := by decide +kernel
theorem dX7_readPin_192 : decode cX7_readPin 192 = .ok (.aload_n 0, 1) := by decide +kernel
theorem dX7_readPin_193 : decode cX7_readPin 193 = .ok (.bipush 10, 2) := by decide +kernel
theorem dX7_readPin_195 : decode cX7_readPin 195 = .ok (.iload_n 2, 1) := by decide +kernel
theorem dX7_readPin_196 : decode cX7_readPin 196 = .ok (.imul, 1) := by decide +kernel
theorem dX7_readPin_197 : decode cX7_readPin 197 = .ok (.iload 4, 2) := by decide +kernel
theorem dX7_readPin_199 : decode cX7_readPin 199 = .ok (.iadd, 1) := by decide +kernel
theorem dX7_readPin_200 : decode cX7_readPin 200 = .ok (.invokevirtual 92, 3) := by decide +kernel
theorem dX7_readPin_203 : decode cX7_readPin 203 = .ok (.ifCond .ne 5, 3) := by decide +kernel
theorem dX7_readPin_206 : decode cX7_readPin 206 = .ok (.iconst 0, 1) := by decide +kernel
theorem dX7_readPin_207 : decode cX7_readPin 207 = .ok (.ireturn, 1) := by decide +kernel
theorem dX7_readPin_208 : decode cX7_readPin 208 = .ok (.aload_n 0, 1) := by decide +kernel
theorem dX7_readPin_209 : decode cX7_readPin 209 = .ok (.dup, 1) := by decide +kernel
theorem dX7_readPin_210 : decode cX7_readPin 210 = .ok (.getfield 79, 3) := by decide +kernel
theorem dX7_readPin_213 : decode cX7_readPin 213 = .ok (.iconst 1, 1) := by decide +kernel
theorem dX7_readPin_214 : decode cX7_readPin 214 = .ok (.iadd, 1) := by decide +kernel
theorem dX7_readPin_215 : decode cX7_readPin 215 = .ok (.putfield 79, 3) := by decide +kernel
theorem dX7_readPin_218 : decode cX7_readPin 218 = .ok (.aload_n 0, 1) := by decide +kernel
theorem dX7_readPin_219 : decode cX7_readPin 219 = .ok (.iconst 0, 1) := by decide +kernel
theorem dX7_readPin_220 : decode cX7_readPin 220 = .ok (.aload_n 0, 1) := by decide +kernel
theorem dX7_readPin_221 : decode cX7_readPin 221 = .ok (.getfield 98, 3) := by decide +kernel
theorem dX7_readPin_224 : decode cX7_readPin 224 = .ok (.iconst 1, 1) := by decide +kernel
theorem dX7_readPin_225 : decode cX7_readPin 225 = .ok (.isub, 1) := by decide +kernel
theorem dX7_readPin_226 : decode cX7_readPin 226 = .ok (.invokevirtual 84, 3) := by decide +kernel
theorem dX7_readPin_229 : decode cX7_readPin 229 = .ok (.istore 5, 2) := by decide +kernel
theorem dX7_readPin_231 : decode cX7_readPin 231 = .ok (.iload 5, 2) := by decide +kernel
theorem dX7_readPin_233 : decode cX7_readPin 233 = .ok (.sipush 1000, 3) := by decide +kernel
theorem dX7_readPin_236 : decode cX7_readPin 236 = .ok (.if_icmp .ne 5, 3) := by decide +kernel
theorem dX7_readPin_239 : decode cX7_readPin 239 = .ok (.iconst 0, 1) := by decide +kernel
theorem dX7_readPin_240 : decode cX7_readPin 240 = .ok (.ireturn, 1) := by decide +kernel
theorem dX7_readPin_241 : decode cX7_readPin 241 = .ok (.aload_n 0, 1) := by decide +kernel
theorem dX7_readPin_242 : decode cX7_readPin 242 = .ok (.getfield 17, 3) := by decide +kernel
theorem dX7_readPin_245 : decode cX7_readPin 245 = .ok (.bipush 18, 2) := by decide +kernel
theorem dX7_readPin_247 : decode cX7_readPin 247 = .ok (.bipush 10, 2) := by decide +kernel
theorem dX7_readPin_249 : decode cX7_readPin 249 = .ok (.iload_n 2, 1) := by decide +kernel
theorem dX7_readPin_250 : decode cX7_readPin 250 = .ok (.imul, 1) := by decide +kernel
theorem dX7_readPin_251 : decode cX7_readPin 251 = .ok (.iadd, 1) := by decide +kernel
theorem dX7_readPin_252 : decode cX7_readPin 252 = .ok (.iload 4, 2) := by decide +kernel
theorem dX7_readPin_254 : decode cX7_readPin 254 = .ok (.iadd, 1) := by decide +kernel
theorem dX7_readPin_255 : decode cX7_readPin 255 = .ok (.iconst 1, 1) := by decide +kernel
theorem dX7_readPin_256 : decode cX7_readPin 256 = .ok (.isub, 1) := by decide +kernel
theorem dX7_readPin_257 : decode cX7_readPin 257 = .ok (.iload 5, 2) := by decide +kernel
theorem dX7_readPin_259 : decode cX7_readPin 259 = .ok (.iconst 1, 1) := by decide +kernel
theorem dX7_readPin_260 : decode cX7_readPin 260 = .ok (.iadd, 1) := by decide +kernel
theorem dX7_readPin_261 : decode cX7_readPin 261 = .ok (.iastore, 1) := by decide +kernel
theorem dX7_readPin_262 : decode cX7_readPin 262 = .ok (.iconst 1, 1) := by decide +kernel
theorem dX7_readPin_263 : decode cX7_readPin 263 = .ok (.ireturn, 1) := by decide +kernel
theorem dX7_readTask_0 : decode cX7_readTask 0 = .ok (.aload_n 0, 1) := by decide +kernel
theorem dX7_readTask_1 : decode cX7_readTask 1 = .ok (.iconst 0, 1) := by decide +kernel
theorem dX7_readTask_2 : decode cX7_readTask 2 = .ok (.putfield 79, 3) := by decide +kernel
theorem dX7_readTask_5 : decode cX7_readTask 5 = .ok (.iconst 0, 1) := by decide +kernel
theorem dX7_readTask_6 : decode cX7_readTask 6 = .ok (.istore_n 1, 1) := by decide +kernel
theorem dX7_readTask_7 : decode cX7_readTask 7 = .ok (.iload_n 1, 1) := by decide +kernel
theorem dX7_readTask_8 : decode cX7_readTask 8 = .ok (.bipush 39, 2) := by decide +kernel
theorem dX7_readTask_10 : decode cX7_readTask 10 = .ok (.if_icmp .ge 16, 3) := by decide +kernel
theorem dX7_readTask_13 : decode cX7_readTask 13 = .ok (.aload_n 0, 1) := by decide +kernel
theorem dX7_readTask_14 : decode cX7_readTask 14 = .ok (.getfield 17, 3) := by decide +kernel
theorem dX7_readTask_17 : decode cX7_readTask 17 = .ok (.iload_n 1, 1) := by decide +kernel
theorem dX7_readTask_18 : decode cX7_readTask 18 = .ok (.iconst 0, 1) := by decide +kernel
theorem dX7_readTask_19 : decode cX7_readTask 19 = .ok (.iastore, 1) := by decide +kernel
theorem dX7_readTask_20 : decode cX7_readTask 20 = .ok (.iinc 1 1, 3) := by decide +kernel
theorem dX7_readTask_23 : decode cX7_readTask 23 = .ok (.goto (-16), 3) := by decide +kernel
theorem dX7_readTask_26 : decode cX7_readTask 26 = .ok (.aload_n 0, 1) := by decide +kernel
theorem dX7_readTask_27 : decode cX7_readTask 27 = .ok (.getfield 76, 3) := by decide +kernel
theorem dX7_readTask_30 : decode cX7_readTask 30 = .ok (.ifCond .eq 14, 3) := by decide +kernel
theorem dX7_readTask_33 : decode cX7_readTask 33 = .ok (.aload_n 0, 1) := by decide +kernel
theorem dX7_readTask_34 : decode cX7_readTask 34 = .ok (.getfield 7, 3) := by decide +kernel
theorem dX7_readTask_37 : decode cX7_readTask 37 = .ok (.iconst 0, 1) := by decide +kernel
theorem dX7_readTask_38 : decode cX7_readTask 38 = .ok (.iaload, 1) := by decide +kernel
theorem dX7_readTask_39 : decode cX7_readTask 39 = .ok (.bipush 82, 2) := by decide +kernel
theorem dX7_readTask_41 : decode cX7_readTask 41 = .ok (.if_icmp .eq 5, 3) := by decide +kernel
theorem dX7_readTask_44 : decode cX7_readTask 44 = .ok (.iconst 0, 1) := by decide +kernel
theorem dX7_readTask_45 : decode cX7_readTask 45 = .ok (.ireturn, 1) := by decide +kernel
theorem dX7_readTask_46 : decode cX7_readTask 46 = .ok (.aload_n 0, 1) := by decide +kernel
theorem dX7_readTask_47 : decode cX7_readTask 47 = .ok (.iconst 1, 1) := by decide +kernel
theorem dX7_readTask_48 : decode cX7_readTask 48 = .ok (.putfield 79, 3) := by decide +kernel
theorem dX7_readTask_51 : decode cX7_readTask 51 = .ok (.aload_n 0, 1) := by decide +kernel
theorem dX7_readTask_52 : decode cX7_readTask 52 = .ok (.iconst 0, 1) := by decide +kernel
theorem dX7_readTask_53 : decode cX7_readTask 53 = .ok (.iconst 1, 1) := by decide +kernel
theorem dX7_readTask_54 : decode cX7_readTask 54 = .ok (.invokevirtual 84, 3) := by decide +kernel
theorem dX7_readTask_57 : decode cX7_readTask 57 = .ok (.istore_n 1, 1) := by decide +kernel
theorem dX7_readTask_58 : decode cX7_readTask 58 = .ok (.iload_n 1, 1) := by decide +kernel
theorem dX7_readTask_59 : decode cX7_readTask 59 = .ok (.sipush 1000, 3) := by decide +kernel
theorem dX7_readTask_62 : decode cX7_readTask 62 = .ok (.if_icmp .ne 9, 3) := by decide +kernel
theorem dX7_readTask_65 : decode cX7_readTask 65 = .ok (.sipush 1000, 3) := by decide +kernel
theorem dX7_readTask_68 : decode cX7_readTask 68 = .ok (.goto 26, 3) := by decide +kernel
theorem dX7_readTask_71 : decode cX7_readTask 71 = .ok (.aload_n 0, 1) := by decide +kernel
theorem dX7_readTask_72 : decode cX7_readTask 72 = .ok (.iload_n 1, 1) := by decide +kernel
theorem dX7_readTask_73 : decode cX7_readTask 73 = .ok (.ifCond .ne 7, 3) := by decide +kernel
theorem dX7_readTask_76 : decode cX7_readTask 76 = .ok (.iconst 1, 1) := by decide +kernel
theorem dX7_readTask_77 : decode cX7_readTask 77 = .ok (.goto 4, 3) := by decide +kernel
theorem dX7_readTask_80 : decode cX7_readTask 80 = .ok (.iconst 0, 1) := by decide +kernel
theorem dX7_readTask_81 : decode cX7_readTask 81 = .ok (.iload_n 1, 1) := by decide +kernel
theorem dX7_readTask_82 : decode cX7_readTask 82 = .ok (.ifCond .ne 8, 3) := by decide +kernel
theorem dX7_readTask_85 : decode cX7_readTask 85 = .ok (.bipush 9, 2) := by decide +kernel
theorem dX7_readTask_87 : decode cX7_readTask 87 = .ok (.goto 4, 3) := by decide +kernel
theorem dX7_readTask_90 : decode cX7_readTask 90 = .ok (.iconst 0, 1) := by decide +kernel
theorem dX7_readTask_91 : decode cX7_readTask 91 = .ok (.invokevirtual 84, 3) := by decide +kernel
theorem dX7_readTask_94 : decode cX7_readTask 94 = .ok (.istore_n 2, 1) := by decide +kernel
theorem dX7_readTask_95 : decode cX7_readTask 95 = .ok (.aload_n 0, 1) := by decide +kernel
theorem dX7_readTask_96 : decode cX7_readTask 96 = .ok (.iload_n 2, 1) := by decide +kernel
theorem dX7_readTask_97 : decode cX7_readTask 97 = .ok (.sipush 1000, 3) := by decide +kernel
theorem dX7_readTask_100 : decode cX7_readTask 100 = .ok (.if_icmp .ne 9, 3) := by decide +kernel
theorem dX7_readTask_103 : decode cX7_readTask 103 = .ok (.sipush 1000, 3) := by decide +kernel
theorem dX7_readTask_106 : decode cX7_readTask 106 = .ok (.goto 9, 3) := by decide +kernel
theorem dX7_readTask_109 : decode cX7_readTask 109 = .ok (.aload_n 0, 1) := by decide +kernel
theorem dX7_readTask_110 : decode cX7_readTask 110 = .ok (.iconst 2, 1) := by decide +kernel
theorem dX7_readTask_111 : decode cX7_readTask 111 = .ok (.iconst 3, 1) := by decide +kernel
theorem dX7_readTask_112 : decode cX7_readTask 112 = .ok (.invokevirtual 84, 3) := by decide +kernel
theorem dX7_readTask_115 : decode cX7_readTask 115 = .ok (.putfield 98, 3) := by decide +kernel
theorem dX7_readTask_118 : decode cX7_readTask 118 = .ok (.aload_n 0, 1) := by decide +kernel
theorem dX7_readTask_119 : decode cX7_readTask 119 = .ok (.getfield 98, 3) := by decide +kernel
theorem dX7_readTask_122 : decode cX7_readTask 122 = .ok (.sipush 1000, 3) := by decide +kernel
theorem dX7_readTask_125 : decode cX7_readTask 125 = .ok (.if_icmp .ne 8, 3) := by decide +kernel
theorem dX7_readTask_128 : decode cX7_readTask 128 = .ok (.aload_n 0, 1) := by decide +kernel
theorem dX7_readTask_129 : decode cX7_readTask 129 = .ok (.getfield 79, 3) := by decide +kernel
theorem dX7_readTask_132 : decode cX7_readTask 132 = .ok (.ireturn, 1) := by decide +kernel
theorem dX7_readTask_133 : decode cX7_readTask 133 = .ok (.aload_n 0, 1) := by decide +kernel
theorem dX7_readTask_134 : decode cX7_readTask 134 = .ok (.getfield 17, 3) := by decide +kernel
theorem dX7_readTask_137 : decode cX7_readTask 137 = .ok (.iconst 0, 1) := by decide +kernel
theorem dX7_readTask_138 : decode cX7_readTask 138 = .ok (.bipush 10, 2) := by decide +kernel
theorem dX7_readTask_140 : decode cX7_readTask 140 = .ok (.iload_n 1, 1) := by decide +kernel
theorem dX7_readTask_141 : decode cX7_readTask 141 = .ok (.imul, 1) := by decide +kernel
theorem dX7_readTask_142 : decode cX7_readTask 142 = .ok (.iload_n 2, 1) := by decide +kernel
theorem dX7_readTask_143 : decode cX7_readTask 143 = .ok (.iadd, 1) := by decide +kernel
theorem dX7_readTask_144 : decode cX7_readTask 144 = .ok (.iastore, 1) := by decide +kernel
theorem dX7_readTask_145 : decode cX7_readTask 145 = .ok (.aload_n 0, 1) := by decide +kernel
theorem dX7_readTask_146 : decode cX7_readTask 146 = .ok (.getfield 79, 3) := by decide +kernel
theorem dX7_readTask_149 : decode cX7_readTask 149 = .ok (.aload_n 0, 1) := by decide +kernel
theorem dX7_readTask_150 : decode cX7_readTask 150 = .ok (.getfield 76, 3) := by decide +kernel
theorem dX7_readTask_153 : decode cX7_readTask 153 = .ok (.if_icmp .ge 63, 3) := by decide +kernel
theorem dX7_readTask_156 : decode cX7_readTask 156 = .ok (.aload_n 0, 1) := by decide +kernel
theorem dX7_readTask_157 : decode cX7_readTask 157 = .ok (.getfield 7, 3) := by decide +kernel
theorem dX7_readTask_160 : decode cX7_readTask 160 = .ok (.aload_n 0, 1) := by decide +kernel
theorem dX7_readTask_161 : decode cX7_readTask 161 = .ok (.getfield 79, 3) := by decide +kernel
theorem dX7_readTask_164 : decode cX7_readTask 164 = .ok (.iaload, 1) := by decide +kernel
theorem dX7_readTask_165 : decode cX7_readTask 165 = .ok (.bipush 101, 2) := by decide +kernel
theorem dX7_readTask_167 : decode cX7_readTask 167 = .ok (.if_icmp .ne 10, 3) := by decide +kernel
theorem dX7_readTask_170 : decode cX7_readTask 170 = .ok (.aload_n 0, 1) := by decide +kernel
theorem dX7_readTask_171 : decode cX7_readTask 171 = .ok (.invokevirtual 101, 3) := by decide +kernel
theorem dX7_readTask_174 : decode cX7_readTask 174 = .ok (.goto 29, 3) := by decide +kernel
theorem dX7_readTask_177 : decode cX7_readTask 177 = .ok (.aload_n 0, 1) := by decide +kernel
theorem dX7_readTask_178 : decode cX7_readTask 178 = .ok (.getfield 7, 3) := by decide +kernel
theorem dX7_readTask_181 : decode cX7_readTask 181 = .ok (.aload_n 0, 1) := by decide +kernel
theorem dX7_readTask_182 : decode cX7_readTask 182 = .ok (.getfield 79, 3) := by decide +kernel
theorem dX7_readTask_185 : decode cX7_readTask 185 = .ok (.iaload, 1) := by decide +kernel
theorem dX7_readTask_186 : decode cX7_readTask 186 = .ok (.bipush 112, 2) := by decide +kernel
theorem dX7_readTask_188 : decode cX7_readTask 188 = .ok (.if_icmp .ne 14, 3) := by decide +kernel
theorem dX7_readTask_191 : decode cX7_readTask 191 = .ok (.aload_n 0, 1) := by decide +kernel
theorem dX7_readTask_192 : decode cX7_readTask 192 = .ok (.invokevirtual 105, 3) := by decide +kernel
theorem dX7_readTask_195 : decode cX7_readTask 195 = .ok (.ifCond .eq 7, 3) := by decide +kernel
theorem dX7_readTask_198 : decode cX7_readTask 198 = .ok (.iconst 1, 1) := by decide +kernel
theorem dX7_readTask_199 : decode cX7_readTask 199 = .ok (.goto 4, 3) := by decide +kernel
theorem dX7_readTask_202 : decode cX7_readTask 202 = .ok (.iconst 0, 1) := by decide +kernel
theorem dX7_readTask_203 : decode cX7_readTask 203 = .ok (.istore_n 3, 1) := by decide +kernel
theorem dX7_readTask_204 : decode cX7_readTask 204 = .ok (.iload_n 3, 1) := by decide +kernel
theorem dX7_readTask_205 : decode cX7_readTask 205 = .ok (.ifCond .ne 8, 3) := by decide +kernel
theorem dX7_readTask_208 : decode cX7_readTask 208 = .ok (.aload_n 0, 1) := by decide +kernel
theorem dX7_readTask_209 : decode cX7_readTask 209 = .ok (.getfield 79, 3) := by decide +kernel
theorem dX7_readTask_212 : decode cX7_readTask 212 = .ok (.ireturn, 1) := by decide +kernel
theorem dX7_readTask_213 : decode cX7_readTask 213 = .ok (.goto (-68), 3) := by decide +kernel
theorem dX7_readTask_216 : decode cX7_readTask 216 = .ok (.bipush (-9), 2) := by decide +kernel
theorem dX7_readTask_218 : decode cX7_readTask 218 = .ok (.ireturn, 1) := by decide +kernel
theorem dX7_fault_0 : decode cX7_fault 0 = .ok (.aload_n 0, 1) := by decide +kernel
theorem dX7_fault_1 : decode cX7_fault 1 = .ok (.iconst 0, 1) := by decide +kernel
theorem dX7_fault_2 : decode cX7_fault 2 = .ok (.putfield 67, 3) := by decide +kernel
theorem dX7_fault_5 : decode cX7_fault 5 = .ok (.aload_n 0, 1) := by decide +kernel
theorem dX7_fault_6 : decode cX7_fault 6 = .ok (.invokevirtual 108, 3) := by decide +kernel
theorem dX7_fault_9 : decode cX7_fault 9 = .ok (.ireturn, 1) := by decide +kernel
theorem dX7_task_0 : decode cX7_task 0 = .ok (.aload_n 0, 1) := by decide +kernel
theorem dX7_task_1 : decode cX7_task 1 = .ok (.iconst 0, 1) := by decide +kernel
theorem dX7_task_2 : decode cX7_task 2 = .ok (.putfield 67, 3) := by decide +kernel
theorem dX7_task_5 : decode cX7_task 5 = .ok (.aload_n 0, 1) := by decide +kernel
theorem dX7_task_6 : decode cX7_task 6 = .ok (.invokevirtual 108, 3) := by decide +kernel
theorem dX7_task_9 : decode cX7_task 9 = .ok (.bipush (-9), 2) := by decide +kernel
theorem dX7_task_11 : decode cX7_task 11 = .ok (.if_icmp .eq 6, 3) := by decide +kernel
theorem dX7_task_14 : decode cX7_task 14 = .ok (.bipush (-3), 2) := by decide +kernel
theorem dX7_task_16 : decode cX7_task 16 = .ok (.ireturn, 1) := by decide +kernel
theorem dX7_task_17 : decode cX7_task 17 = .ok (.aload_n 0, 1) := by decide +kernel
theorem dX7_task_18 : decode cX7_task 18 = .ok (.aload_n 0, 1) := by decide +kernel
theorem dX7_task_19 : decode cX7_task 19 = .ok (.getfield 98, 3) := by decide +kernel
theorem dX7_task_22 : decode cX7_task 22 = .ok (.putfield 13, 3) := by decide +kernel
theorem dX7_task_25 : decode cX7_task 25 = .ok (.iconst 0, 1) := by decide +kernel
theorem dX7_task_26 : decode cX7_task 26 = .ok (.istore_n 1, 1) := by decide +kernel
theorem dX7_task_27 : decode cX7_task 27 = .ok (.iload_n 1, 1) := by decide +kernel
theorem dX7_task_28 : decode cX7_task 28 = .ok (.bipush 39, 2) := by decide +kernel
theorem dX7_task_30 : decode cX7_task 30 = .ok (.if_icmp .ge 21, 3) := by decide +kernel
theorem dX7_task_33 : decode cX7_task 33 = .ok (.aload_n 0, 1) := by decide +kernel
theorem dX7_task_34 : decode cX7_task 34 = .ok (.getfield 20, 3) := by decide +kernel
theorem dX7_task_37 : decode cX7_task 37 = .ok (.iload_n 1, 1) := by decide +kernel
theorem dX7_task_38 : decode cX7_task 38 = .ok (.aload_n 0, 1) := by decide +kernel
theorem dX7_task_39 : decode cX7_task 39 = .ok (.getfield 17, 3) := by decide +kernel
theorem dX7_task_42 : decode cX7_task 42 = .ok (.iload_n 1, 1) := by decide +kernel
theorem dX7_task_43 : decode cX7_task 43 = .ok (.iaload, 1) := by decide +kernel
theorem dX7_task_44 : decode cX7_task 44 = .ok (.iastore, 1) := by decide +kernel
theorem dX7_task_45 : decode cX7_task 45 = .ok (.iinc 1 1, 3) := by decide +kernel
theorem dX7_task_48 : decode cX7_task 48 = .ok (.goto (-21), 3) := by decide +kernel
theorem dX7_task_51 : decode cX7_task 51 = .ok (.aload_n 0, 1) := by decide +kernel
theorem dX7_task_52 : decode cX7_task 52 = .ok (.aload_n 0, 1) := by decide +kernel
theorem dX7_task_53 : decode cX7_task 53 = .ok (.getfield 20, 3) := by decide +kernel
theorem dX7_task_56 : decode cX7_task 56 = .ok (.invokevirtual 111, 3) := by decide +kernel
theorem dX7_task_59 : decode cX7_task 59 = .ok (.aload_n 0, 1) := by decide +kernel
theorem dX7_task_60 : decode cX7_task 60 = .ok (.iconst 0, 1) := by decide +kernel
theorem dX7_task_61 : decode cX7_task 61 = .ok (.putfield 115, 3) := by decide +kernel
theorem dX7_task_64 : decode cX7_task 64 = .ok (.aload_n 0, 1) := by decide +kernel
theorem dX7_task_65 : decode cX7_task 65 = .ok (.getfield 32, 3) := by decide +kernel
theorem dX7_task_68 : decode cX7_task 68 = .ok (.iconst 0, 1) := by decide +kernel
theorem dX7_task_69 : decode cX7_task 69 = .ok (.iconst 0, 1) := by decide +kernel
theorem dX7_task_70 : decode cX7_task 70 = .ok (.bastore, 1) := by decide +kernel
theorem dX7_task_71 : decode cX7_task 71 = .ok (.aload_n 0, 1) := by decide +kernel
theorem dX7_task_72 : decode cX7_task 72 = .ok (.getfield 32, 3) := by decide +kernel
theorem dX7_task_75 : decode cX7_task 75 = .ok (.iconst 1, 1) := by decide +kernel
theorem dX7_task_76 : decode cX7_task 76 = .ok (.iconst 0, 1) := by decide +kernel
theorem dX7_task_77 : decode cX7_task 77 = .ok (.bastore, 1) := by decide +kernel
theorem dX7_task_78 : decode cX7_task 78 = .ok (.aload_n 0, 1) := by decide +kernel
theorem dX7_task_79 : decode cX7_task 79 = .ok (.aload_n 0, 1) := by decide +kernel
theorem dX7_task_80 : decode cX7_task 80 = .ok (.getfield 20, 3) := by decide +kernel
theorem dX7_task_83 : decode cX7_task 83 = .ok (.invokevirtual 118, 3) := by decide +kernel
theorem dX7_task_86 : decode cX7_task 86 = .ok (.ireturn, 1) := by decide +kernel
theorem dX7_third_0 : decode cX7_third 0 = .ok (.iconst 2, 1) := by decide +kernel
theorem dX7_third_1 : decode cX7_third 1 = .ok (.iconst 4, 1) := by decide +kernel
theorem dX7_third_2 : decode cX7_third 2 = .ok (.iload_n 1, 1) := by decide +kernel
theorem dX7_third_3 : decode cX7_third 3 = .ok (.imul, 1) := by decide +kernel
theorem dX7_third_4 : decode cX7_third 4 = .ok (.iadd, 1) := by decide +kernel
theorem dX7_third_5 : decode cX7_third 5 = .ok (.istore 5, 2) := by decide +kernel
theorem dX7_third_7 : decode cX7_third 7 = .ok (.aload_n 0, 1) := by decide +kernel
theorem dX7_third_8 : decode cX7_third 8 = .ok (.iload 5, 2) := by decide +kernel
theorem dX7_third_10 : decode cX7_third 10 = .ok (.iaload, 1) := by decide +kernel
theorem dX7_third_11 : decode cX7_third 11 = .ok (.iload_n 2, 1) := by decide +kernel
theorem dX7_third_12 : decode cX7_third 12 = .ok (.imul, 1) := by decide +kernel
theorem dX7_third_13 : decode cX7_third 13 = .ok (.aload_n 0, 1) := by decide +kernel
theorem dX7_third_14 : decode cX7_third 14 = .ok (.iload 5, 2) := by decide +kernel
theorem dX7_third_16 : decode cX7_third 16 = .ok (.iconst 1, 1) := by decide +kernel
theorem dX7_third_17 : decode cX7_third 17 = .ok (.iadd, 1) := by decide +kernel
theorem dX7_third_18 : decode cX7_third 18 = .ok (.iaload, 1) := by decide +kernel
theorem dX7_third_19 : decode cX7_third 19 = .ok (.iload_n 3, 1) := by decide +kernel
theorem dX7_third_20 : decode cX7_third 20 = .ok (.imul, 1) := by decide +kernel
theorem dX7_third_21 : decode cX7_third 21 = .ok (.iadd, 1) := by decide +kernel
theorem dX7_third_22 : decode cX7_third 22 = .ok (.istore 6, 2) := by decide +kernel
theorem dX7_third_24 : decode cX7_third 24 = .ok (.iload 6, 2) := by decide +kernel
theorem dX7_third_26 : decode cX7_third 26 = .ok (.aload_n 0, 1) := by decide +kernel
theorem dX7_third_27 : decode cX7_third 27 = .ok (.iload 5, 2) := by decide +kernel
theorem dX7_third_29 : decode cX7_third 29 = .ok (.iconst 2, 1) := by decide +kernel
theorem dX7_third_30 : decode cX7_third 30 = .ok (.iadd, 1) := by decide +kernel
theorem dX7_third_31 : decode cX7_third 31 = .ok (.iaload, 1) := by decide +kernel
theorem dX7_third_32 : decode cX7_third 32 = .ok (.irem, 1) := by decide +kernel
theorem dX7_third_33 : decode cX7_third 33 = .ok (.ifCond .ne 15, 3) := by decide +kernel
theorem dX7_third_36 : decode cX7_third 36 = .ok (.iload 6, 2) := by decide +kernel
theorem dX7_third_38 : decode cX7_third 38 = .ok (.aload_n 0, 1) := by decide +kernel
theorem dX7_third_39 : decode cX7_third 39 = .ok (.iload 5, 2) := by decide +kernel
theorem dX7_third_41 : decode cX7_third 41 = .ok (.iconst 2, 1) := by decide +kernel
theorem dX7_third_42 : decode cX7_third 42 = .ok (.iadd, 1) := by decide +kernel
theorem dX7_third_43 : decode cX7_third 43 = .ok (.iaload, 1) := by decide +kernel
theorem dX7_third_44 : decode cX7_third 44 = .ok (.idiv, 1) := by decide +kernel
theorem dX7_third_45 : decode cX7_third 45 = .ok (.goto 4, 3) := by decide +kernel
theorem dX7_third_48 : decode cX7_third 48 = .ok (.iconst 0, 1) := by decide +kernel
theorem dX7_third_49 : decode cX7_third 49 = .ok (.istore 7, 2) := by decide +kernel
theorem dX7_third_51 : decode cX7_third 51 = .ok (.aload_n 0, 1) := by decide +kernel
theorem dX7_third_52 : decode cX7_third 52 = .ok (.iload 5, 2) := by decide +kernel
theorem dX7_third_54 : decode cX7_third 54 = .ok (.iconst 3, 1) := by decide +kernel
theorem dX7_third_55 : decode cX7_third 55 = .ok (.iadd, 1) := by decide +kernel
theorem dX7_third_56 : decode cX7_third 56 = .ok (.iaload, 1) := by decide +kernel
theorem dX7_third_57 : decode cX7_third 57 = .ok (.iconst 1, 1) := by decide +kernel
theorem dX7_third_58 : decode cX7_third 58 = .ok (.if_icmp .ne 7, 3) := by decide +kernel
theorem dX7_third_61 : decode cX7_third 61 = .ok (.iconst 1, 1) := by decide +kernel
theorem dX7_third_62 : decode cX7_third 62 = .ok (.goto 4, 3) := by decide +kernel
theorem dX7_third_65 : decode cX7_third 65 = .ok (.iconst 0, 1) := by decide +kernel
theorem dX7_third_66 : decode cX7_third 66 = .ok (.istore 8, 2) := by decide +kernel
theorem dX7_third_68 : decode cX7_third 68 = .ok (.iload 7, 2) := by decide +kernel
theorem dX7_third_70 : decode cX7_third 70 = .ok (.i2l, 1) := by decide +kernel
theorem dX7_third_71 : decode cX7_third 71 = .ok (.lconst 1, 1) := by decide +kernel
theorem dX7_third_72 : decode cX7_third 72 = .ok (.iload 4, 2) := by decide +kernel
theorem dX7_third_74 : decode cX7_third 74 = .ok (.i2l, 1) := by decide +kernel
theorem dX7_third_75 : decode cX7_third 75 = .ok (.invokestatic 72, 3) := by decide +kernel
theorem dX7_third_78 : decode cX7_third 78 = .ok (.ifCond .eq 25, 3) := by decide +kernel
theorem dX7_third_81 : decode cX7_third 81 = .ok (.iload 8, 2) := by decide +kernel
theorem dX7_third_83 : decode cX7_third 83 = .ok (.ifCond .eq 24, 3) := by decide +kernel
theorem dX7_third_86 : decode cX7_third 86 = .ok (.iload_n 2, 1) := by decide +kernel
theorem dX7_third_87 : decode cX7_third 87 = .ok (.iload_n 3, 1) := by decide +kernel
theorem dX7_third_88 : decode cX7_third 88 = .ok (.if_icmp .eq 15, 3) := by decide +kernel
theorem dX7_third_91 : decode cX7_third 91 = .ok (.iload_n 3, 1) := by decide +kernel
theorem dX7_third_92 : decode cX7_third 92 = .ok (.iload 7, 2) := by decide +kernel
theorem dX7_third_94 : decode cX7_third 94 = .ok (.if_icmp .eq 9, 3) := by decide +kernel
theorem dX7_third_97 : decode cX7_third 97 = .ok (.iload_n 2, 1) := by decide +kernel
theorem dX7_third_98 : decode cX7_third 98 = .ok (.iload 7, 2) := by decide +kernel
theorem dX7_third_100 : decode cX7_third 100 = .ok (.if_icmp .ne 7, 3) := by decide +kernel
theorem dX7_third_103 : decode cX7_third 103 = .ok (.iconst 0, 1) := by decide +kernel
theorem dX7_third_104 : decode cX7_third 104 = .ok (.goto 5, 3) := by decide +kernel
theorem dX7_third_107 : decode cX7_third 107 = .ok (.iload 7, 2) := by decide +kernel
theorem dX7_third_109 : decode cX7_third 109 = .ok (.ireturn, 1) := by decide +kernel
theorem dX7_greatest_0 : decode cX7_greatest 0 = .ok (.iload_n 0, 1) := by decide +kernel
theorem dX7_greatest_1 : decode cX7_greatest 1 = .ok (.iload_n 1, 1) := by decide +kernel
theorem dX7_greatest_2 : decode cX7_greatest 2 = .ok (.if_icmp .le 7, 3) := by decide +kernel
theorem dX7_greatest_5 : decode cX7_greatest 5 = .ok (.iload_n 0, 1) := by decide +kernel
theorem dX7_greatest_6 : decode cX7_greatest 6 = .ok (.goto 4, 3) := by decide +kernel
theorem dX7_greatest_9 : decode cX7_greatest 9 = .ok (.iload_n 1, 1) := by decide +kernel
theorem dX7_greatest_10 : decode cX7_greatest 10 = .ok (.istore_n 3, 1) := by decide +kernel
theorem dX7_greatest_11 : decode cX7_greatest 11 = .ok (.iload_n 3, 1) := by decide +kernel
theorem dX7_greatest_12 : decode cX7_greatest 12 = .ok (.iload_n 2, 1) := by decide +kernel
theorem dX7_greatest_13 : decode cX7_greatest 13 = .ok (.if_icmp .le 7, 3) := by decide +kernel
theorem dX7_greatest_16 : decode cX7_greatest 16 = .ok (.iload_n 3, 1) := by decide +kernel
theorem dX7_greatest_17 : decode cX7_greatest 17 = .ok (.goto 4, 3) := by decide +kernel
theorem dX7_greatest_20 : decode cX7_greatest 20 = .ok (.iload_n 2, 1) := by decide +kernel
theorem dX7_greatest_21 : decode cX7_greatest 21 = .ok (.ireturn, 1) := by decide +kernel
theorem dX7_laySets_0 : decode cX7_laySets 0 = .ok (.iconst 0, 1) := by decide +kernel
theorem dX7_laySets_1 : decode cX7_laySets 1 = .ok (.istore_n 3, 1) := by decide +kernel
theorem dX7_laySets_2 : decode cX7_laySets 2 = .ok (.iconst 1, 1) := by decide +kernel
theorem dX7_laySets_3 : decode cX7_laySets 3 = .ok (.istore 4, 2) := by decide +kernel
theorem dX7_laySets_5 : decode cX7_laySets 5 = .ok (.iload 4, 2) := by decide +kernel
theorem dX7_laySets_7 : decode cX7_laySets 7 = .ok (.bipush 10, 2) := by decide +kernel
theorem dX7_laySets_9 : decode cX7_laySets 9 = .ok (.if_icmp .gt 131, 3) := by decide +kernel
theorem dX7_laySets_12 : decode cX7_laySets 12 = .ok (.aload_n 0, 1) := by decide +kernel
theorem dX7_laySets_13 : decode cX7_laySets 13 = .ok (.getfield 48, 3) := by decide +kernel
theorem dX7_laySets_16 : decode cX7_laySets 16 = .ok (.iload 4, 2) := by decide +kernel
theorem dX7_laySets_18 : decode cX7_laySets 18 = .ok (.iload_n 3, 1) := by decide +kernel
theorem dX7_laySets_19 : decode cX7_laySets 19 = .ok (.iastore, 1) := by decide +kernel
theorem dX7_laySets_20 : decode cX7_laySets 20 = .ok (.iconst 0, 1) := by decide +kernel
theorem dX7_laySets_21 : decode cX7_laySets 21 = .ok (.istore 5, 2) := by decide +kernel
theorem dX7_laySets_23 : decode cX7_laySets 23 = .ok (.iload 5, 2) := by decide +kernel
theorem dX7_laySets_25 : decode cX7_laySets 25 = .ok (.aload_n 1, 1) := by decide +kernel
theorem dX7_laySets_26 : decode cX7_laySets 26 = .ok (.iconst 1, 1) := by decide +kernel
theorem dX7_laySets_27 : decode cX7_laySets 27 = .ok (.iaload, 1) := by decide +kernel
theorem dX7_laySets_28 : decode cX7_laySets 28 = .ok (.if_icmp .ge 106, 3) := by decide +kernel
theorem dX7_laySets_31 : decode cX7_laySets 31 = .ok (.iconst 1, 1) := by decide +kernel
theorem dX7_laySets_32 : decode cX7_laySets 32 = .ok (.istore 6, 2) := by decide +kernel
theorem dX7_laySets_34 : decode cX7_laySets 34 = .ok (.iload 6, 2) := by decide +kernel
theorem dX7_laySets_36 : decode cX7_laySets 36 = .ok (.iload 4, 2) := by decide +kernel
theorem dX7_laySets_38 : decode cX7_laySets 38 = .ok (.if_icmp .gt 90, 3) := by decide +kernel
theorem dX7_laySets_41 : decode cX7_laySets 41 = .ok (.iload_n 2, 1) := by decide +kernel
theorem dX7_laySets_42 : decode cX7_laySets 42 = .ok (.iload 5, 2) := by decide +kernel
theorem dX7_laySets_44 : decode cX7_laySets 44 = .ok (.invokestatic 122, 3) := by decide +kernel
theorem dX7_laySets_47 : decode cX7_laySets 47 = .ok (.ifCond .eq 81, 3) := by decide +kernel
theorem dX7_laySets_50 : decode cX7_laySets 50 = .ok (.iconst 1, 1) := by decide +kernel
theorem dX7_laySets_51 : decode cX7_laySets 51 = .ok (.istore 7, 2) := by decide +kernel
theorem dX7_laySets_53 : decode cX7_laySets 53 = .ok (.iload 7, 2) := by decide +kernel
theorem dX7_laySets_55 : decode cX7_laySets 55 = .ok (.iload 4, 2) := by decide +kernel
theorem dX7_laySets_57 : decode cX7_laySets 57 = .ok (.if_icmp .gt 65, 3) := by decide +kernel
theorem dX7_laySets_60 : decode cX7_laySets 60 = .ok (.aload_n 1, 1) := by decide +kernel
theorem dX7_laySets_61 : decode cX7_laySets 61 = .ok (.iload 5, 2) := by decide +kernel
theorem dX7_laySets_63 : decode cX7_laySets 63 = .ok (.iload 6, 2) := by decide +kernel
theorem dX7_laySets_65 : decode cX7_laySets 65 = .ok (.iload 7, 2) := by decide +kernel
theorem dX7_laySets_67 : decode cX7_laySets 67 = .ok (.iload 4, 2) := by decide +kernel
theorem dX7_laySets_69 : decode cX7_laySets 69 = .ok (.invokestatic 126, 3) := by decide +kernel
theorem dX7_laySets_72 : decode cX7_laySets 72 = .ok (.istore 8, 2) := by decide +kernel
theorem dX7_laySets_74 : decode cX7_laySets 74 = .ok (.iload 8, 2) := by decide +kernel
theorem dX7_laySets_76 : decode cX7_laySets 76 = .ok (.ifCond .le 40, 3) := by decide +kernel
theorem dX7_laySets_79 : decode cX7_laySets 79 = .ok (.iload 6, 2) := by decide +kernel
theorem dX7_laySets_81 : decode cX7_laySets 81 = .ok (.iload 7, 2) := by decide +kernel
theorem dX7_laySets_83 : decode cX7_laySets 83 = .ok (.iload 8, 2) := by decide +kernel
theorem dX7_laySets_85 : decode cX7_laySets 85 = .ok (.invokestatic 130, 3) := by decide +kernel
theorem dX7_laySets_88 : decode cX7_laySets 88 = .ok (.iload 4, 2) := by decide +kernel
theorem dX7_laySets_90 : decode cX7_laySets 90 = .ok (.if_icmp .ne 26, 3) := by decide +kernel
theorem dX7_laySets_93 : decode cX7_laySets 93 = .ok (.aload_n 0, 1) := by decide +kernel
theorem dX7_laySets_94 : decode cX7_laySets 94 = .ok (.getfield 45, 3) := by decide +kernel
theorem dX7_laySets_97 : decode cX7_laySets 97 = .ok (.iload_n 3, 1) := by decide +kernel
theorem dX7_laySets_98 : decode cX7_laySets 98 = .ok (.iconst 1, 1) := by decide +kernel
theorem dX7_laySets_99 : decode cX7_laySets 99 = .ok (.iload 6, 2) := by decide +kernel
theorem dX7_laySets_101 : decode cX7_laySets 101 = .ok (.ishl, 1) := by decide +kernel
theorem dX7_laySets_102 : decode cX7_laySets 102 = .ok (.iconst 1, 1) := by decide +kernel
theorem dX7_laySets_103 : decode cX7_laySets 103 = .ok (.iload 7, 2) := by decide +kernel
theorem dX7_laySets_105 : decode cX7_laySets 105 = .ok (.ishl, 1) := by decide +kernel
theorem dX7_laySets_106 : decode cX7_laySets 106 = .ok (.ior, 1) := by decide +kernel
theorem dX7_laySets_107 : decode cX7_laySets 107 = .ok (.iconst 1, 1) := by decide +kernel
theorem dX7_laySets_108 : decode cX7_laySets 108 = .ok (.iload 8, 2) := by decide +kernel
theorem dX7_laySets_110 : decode cX7_laySets 110 = .ok (.ishl, 1) := by decide +kernel
theorem dX7_laySets_111 : decode cX7_laySets 111 = .ok (.ior, 1) := by decide +kernel
theorem dX7_laySets_112 : decode cX7_laySets 112 = .ok (.iastore, 1) := by decide +kernel
theorem dX7_laySets_113 : decode cX7_laySets 113 = .ok (.iinc 3 1, 3) := by decide +kernel
theorem dX7_laySets_116 : decode cX7_laySets 116 = .ok (.iinc 7 1, 3) := by decide +kernel
theorem dX7_laySets_119 : decode cX7_laySets 119 = .ok (.goto (-66), 3) := by decide +kernel
theorem dX7_laySets_122 : decode cX7_laySets 122 = .ok (.iinc 6 1, 3) := by decide +kernel
theorem dX7_laySets_125 : decode cX7_laySets 125 = .ok (.goto (-91), 3) := by decide +kernel
theorem dX7_laySets_128 : decode cX7_laySets 128 = .ok (.iinc 5 1, 3) := by decide +kernel
theorem dX7_laySets_131 : decode cX7_laySets 131 = .ok (.goto (-108), 3) := by decide +kernel
theorem dX7_laySets_134 : decode cX7_laySets 134 = .ok (.iinc 4 1, 3) := by decide +kernel
theorem dX7_laySets_137 : decode cX7_laySets 137 = .ok (.goto (-132), 3) := by decide +kernel
theorem dX7_laySets_140 : decode cX7_laySets 140 = .ok (.aload_n 0, 1) := by decide +kernel
theorem dX7_laySets_141 : decode cX7_laySets 141 = .ok (.getfield 48, 3) := by decide +kernel
theorem dX7_laySets_144 : decode cX7_laySets 144 = .ok (.bipush 11, 2) := by decide +kernel
theorem dX7_laySets_146 : decode cX7_laySets 146 = .ok (.iload_n 3, 1) := by decide +kernel
theorem dX7_laySets_147 : decode cX7_laySets 147 = .ok (.iastore, 1) := by decide +kernel
theorem dX7_laySets_148 : decode cX7_laySets 148 = .ok (.return_, 1) := by decide +kernel
theorem dX7_may_0 : decode cX7_may 0 = .ok (.aload_n 0, 1) := by decide +kernel
theorem dX7_may_1 : decode cX7_may 1 = .ok (.getfield 54, 3) := by decide +kernel
theorem dX7_may_4 : decode cX7_may 4 = .ok (.iload_n 2, 1) := by decide +kernel
theorem dX7_may_5 : decode cX7_may 5 = .ok (.iaload, 1) := by decide +kernel
theorem dX7_may_6 : decode cX7_may 6 = .ok (.iconst 1, 1) := by decide +kernel
theorem dX7_may_7 : decode cX7_may 7 = .ok (.iload_n 1, 1) := by decide +kernel
theorem dX7_may_8 : decode cX7_may 8 = .ok (.ishl, 1) := by decide +kernel
theorem dX7_may_9 : decode cX7_may 9 = .ok (.ior, 1) := by decide +kernel
theorem dX7_may_10 : decode cX7_may 10 = .ok (.istore_n 3, 1) := by decide +kernel
theorem dX7_may_11 : decode cX7_may 11 = .ok (.aload_n 0, 1) := by decide +kernel
theorem dX7_may_12 : decode cX7_may 12 = .ok (.getfield 48, 3) := by decide +kernel
theorem dX7_may_15 : decode cX7_may 15 = .ok (.iload_n 1, 1) := by decide +kernel
theorem dX7_may_16 : decode cX7_may 16 = .ok (.iaload, 1) := by decide +kernel
theorem dX7_may_17 : decode cX7_may 17 = .ok (.istore 4, 2) := by decide +kernel
theorem dX7_may_19 : decode cX7_may 19 = .ok (.iload 4, 2) := by decide +kernel
theorem dX7_may_21 : decode cX7_may 21 = .ok (.aload_n 0, 1) := by decide +kernel
theorem dX7_may_22 : decode cX7_may 22 = .ok (.getfield 48, 3) := by decide +kernel
theorem dX7_may_25 : decode cX7_may 25 = .ok (.iload_n 1, 1) := by decide +kernel
theorem dX7_may_26 : decode cX7_may 26 = .ok (.iconst 1, 1) := by decide +kernel
theorem dX7_may_27 : decode cX7_may 27 = .ok (.iadd, 1) := by decide +kernel
theorem dX7_may_28 : decode cX7_may 28 = .ok (.iaload, 1) := by decide +kernel
theorem dX7_may_29 : decode cX7_may 29 = .ok (.if_icmp .ge 25, 3) := by decide +kernel
theorem dX7_may_32 : decode cX7_may 32 = .ok (.aload_n 0, 1) := by decide +kernel
theorem dX7_may_33 : decode cX7_may 33 = .ok (.getfield 45, 3) := by decide +kernel
theorem dX7_may_36 : decode cX7_may 36 = .ok (.iload 4, 2) := by decide +kernel
theorem dX7_may_38 : decode cX7_may 38 = .ok (.iaload, 1) := by decide +kernel
theorem dX7_may_39 : decode cX7_may 39 = .ok (.iload_n 3, 1) := by decide +kernel
theorem dX7_may_40 : decode cX7_may 40 = .ok (.iconst (-1), 1) := by decide +kernel
theorem dX7_may_41 : decode cX7_may 41 = .ok (.ixor, 1) := by decide +kernel
theorem dX7_may_42 : decode cX7_may 42 = .ok (.iand, 1) := by decide +kernel
theorem dX7_may_43 : decode cX7_may 43 = .ok (.ifCond .ne 5, 3) := by decide +kernel
theorem dX7_may_46 : decode cX7_may 46 = .ok (.iconst 0, 1) := by decide +kernel
theorem dX7_may_47 : decode cX7_may 47 = .ok (.ireturn, 1) := by decide +kernel
theorem dX7_may_48 : decode cX7_may 48 = .ok (.iinc 4 1, 3) := by decide +kernel
theorem dX7_may_51 : decode cX7_may 51 = .ok (.goto (-32), 3) := by decide +kernel
theorem dX7_may_54 : decode cX7_may 54 = .ok (.iconst 1, 1) := by decide +kernel
theorem dX7_may_55 : decode cX7_may 55 = .ok (.ireturn, 1) := by decide +kernel
theorem dX7_allows_0 : decode cX7_allows 0 = .ok (.aload_n 0, 1) := by decide +kernel
theorem dX7_allows_1 : decode cX7_allows 1 = .ok (.getfield 57, 3) := by decide +kernel
theorem dX7_allows_4 : decode cX7_allows 4 = .ok (.bipush 18, 2) := by decide +kernel
theorem dX7_allows_6 : decode cX7_allows 6 = .ok (.iload_n 1, 1) := by decide +kernel
theorem dX7_allows_7 : decode cX7_allows 7 = .ok (.iadd, 1) := by decide +kernel
theorem dX7_allows_8 : decode cX7_allows 8 = .ok (.iconst 1, 1) := by decide +kernel
theorem dX7_allows_9 : decode cX7_allows 9 = .ok (.isub, 1) := by decide +kernel
theorem dX7_allows_10 : decode cX7_allows 10 = .ok (.iaload, 1) := by decide +kernel
theorem dX7_allows_11 : decode cX7_allows 11 = .ok (.istore_n 3, 1) := by decide +kernel
theorem dX7_allows_12 : decode cX7_allows 12 = .ok (.aload_n 0, 1) := by decide +kernel
theorem dX7_allows_13 : decode cX7_allows 13 = .ok (.getfield 134, 3) := by decide +kernel
theorem dX7_allows_16 : decode cX7_allows 16 = .ok (.ifCond .eq 14, 3) := by decide +kernel
theorem dX7_allows_19 : decode cX7_allows 19 = .ok (.iload_n 3, 1) := by decide +kernel
theorem dX7_allows_20 : decode cX7_allows 20 = .ok (.ifCond .eq 10, 3) := by decide +kernel
theorem dX7_allows_23 : decode cX7_allows 23 = .ok (.iload_n 3, 1) := by decide +kernel
theorem dX7_allows_24 : decode cX7_allows 24 = .ok (.iload_n 2, 1) := by decide +kernel
theorem dX7_allows_25 : decode cX7_allows 25 = .ok (.iconst 1, 1) := by decide +kernel
theorem dX7_allows_26 : decode cX7_allows 26 = .ok (.iadd, 1) := by decide +kernel
theorem dX7_allows_27 : decode cX7_allows 27 = .ok (.if_icmp .ne 7, 3) := by decide +kernel
theorem dX7_allows_30 : decode cX7_allows 30 = .ok (.iconst 1, 1) := by decide +kernel
theorem dX7_allows_31 : decode cX7_allows 31 = .ok (.goto 4, 3) := by decide +kernel
theorem dX7_allows_34 : decode cX7_allows 34 = .ok (.iconst 0, 1) := by decide +kernel
theorem dX7_allows_35 : decode cX7_allows 35 = .ok (.ireturn, 1) := by decide +kernel
theorem dX7_begin_0 : decode cX7_begin 0 = .ok (.aload_n 0, 1) := by decide +kernel
theorem dX7_begin_1 : decode cX7_begin 1 = .ok (.aload_n 1, 1) := by decide +kernel
theorem dX7_begin_2 : decode cX7_begin 2 = .ok (.putfield 57, 3) := by decide +kernel
theorem dX7_begin_5 : decode cX7_begin 5 = .ok (.aload_n 0, 1) := by decide +kernel
theorem dX7_begin_6 : decode cX7_begin 6 = .ok (.aload_n 1, 1) := by decide +kernel
theorem dX7_begin_7 : decode cX7_begin 7 = .ok (.iload_n 2, 1) := by decide +kernel
theorem dX7_begin_8 : decode cX7_begin 8 = .ok (.invokevirtual 138, 3) := by decide +kernel
theorem dX7_begin_11 : decode cX7_begin 11 = .ok (.aload_n 0, 1) := by decide +kernel
theorem dX7_begin_12 : decode cX7_begin 12 = .ok (.iload_n 3, 1) := by decide +kernel
theorem dX7_begin_13 : decode cX7_begin 13 = .ok (.putfield 142, 3) := by decide +kernel
theorem dX7_begin_16 : decode cX7_begin 16 = .ok (.aload_n 0, 1) := by decide +kernel
theorem dX7_begin_17 : decode cX7_begin 17 = .ok (.iload 4, 2) := by decide +kernel
theorem dX7_begin_19 : decode cX7_begin 19 = .ok (.putfield 134, 3) := by decide +kernel
theorem dX7_begin_22 : decode cX7_begin 22 = .ok (.aload_n 0, 1) := by decide +kernel
theorem dX7_begin_23 : decode cX7_begin 23 = .ok (.iconst 0, 1) := by decide +kernel
theorem dX7_begin_24 : decode cX7_begin 24 = .ok (.putfield 145, 3) := by decide +kernel
theorem dX7_begin_27 : decode cX7_begin 27 = .ok (.iconst 0, 1) := by decide +kernel
theorem dX7_begin_28 : decode cX7_begin 28 = .ok (.istore 5, 2) := by decide +kernel
theorem dX7_begin_30 : decode cX7_begin 30 = .ok (.iload 5, 2) := by decide +kernel
theorem dX7_begin_32 : decode cX7_begin 32 = .ok (.iconst 3, 1) := by decide +kernel
theorem dX7_begin_33 : decode cX7_begin 33 = .ok (.if_icmp .ge 17, 3) := by decide +kernel
theorem dX7_begin_36 : decode cX7_begin 36 = .ok (.aload_n 0, 1) := by decide +kernel
theorem dX7_begin_37 : decode cX7_begin 37 = .ok (.getfield 54, 3) := by decide +kernel
theorem dX7_begin_40 : decode cX7_begin 40 = .ok (.iload 5, 2) := by decide +kernel
theorem dX7_begin_42 : decode cX7_begin 42 = .ok (.iconst 0, 1) := by decide +kernel
theorem dX7_begin_43 : decode cX7_begin 43 = .ok (.iastore, 1) := by decide +kernel
theorem dX7_begin_44 : decode cX7_begin 44 = .ok (.iinc 5 1, 3) := by decide +kernel
theorem dX7_begin_47 : decode cX7_begin 47 = .ok (.goto (-17), 3) := by decide +kernel
theorem dX7_begin_50 : decode cX7_begin 50 = .ok (.return_, 1) := by decide +kernel
theorem dX7_all_0 : decode cX7_all 0 = .ok (.iconst 1, 1) := by decide +kernel
theorem dX7_all_1 : decode cX7_all 1 = .ok (.aload_n 0, 1) := by decide +kernel
theorem dX7_all_2 : decode cX7_all 2 = .ok (.iconst 1, 1) := by decide +kernel
theorem dX7_all_3 : decode cX7_all 3 = .ok (.iaload, 1) := by decide +kernel
theorem dX7_all_4 : decode cX7_all 4 = .ok (.ishl, 1) := by decide +kernel
theorem dX7_all_5 : decode cX7_all 5 = .ok (.iconst 1, 1) := by decide +kernel
theorem dX7_all_6 : decode cX7_all 6 = .ok (.isub, 1) := by decide +kernel
theorem dX7_all_7 : decode cX7_all 7 = .ok (.ireturn, 1) := by decide +kernel
theorem dX7_next_0 : decode cX7_next 0 = .ok (.aload_n 0, 1) := by decide +kernel
theorem dX7_next_1 : decode cX7_next 1 = .ok (.getfield 51, 3) := by decide +kernel
theorem dX7_next_4 : decode cX7_next 4 = .ok (.iload_n 1, 1) := by decide +kernel
theorem dX7_next_5 : decode cX7_next 5 = .ok (.iaload, 1) := by decide +kernel
theorem dX7_next_6 : decode cX7_next 6 = .ok (.istore_n 2, 1) := by decide +kernel
theorem dX7_next_7 : decode cX7_next 7 = .ok (.iload_n 2, 1) := by decide +kernel
theorem dX7_next_8 : decode cX7_next 8 = .ok (.ifCond .lt 17, 3) := by decide +kernel
theorem dX7_next_11 : decode cX7_next 11 = .ok (.aload_n 0, 1) := by decide +kernel
theorem dX7_next_12 : decode cX7_next 12 = .ok (.getfield 54, 3) := by decide +kernel
theorem dX7_next_15 : decode cX7_next 15 = .ok (.iload_n 2, 1) := by decide +kernel
theorem dX7_next_16 : decode cX7_next 16 = .ok (.dup2, 1) := by decide +kernel
theorem dX7_next_17 : decode cX7_next 17 = .ok (.iaload, 1) := by decide +kernel
theorem dX7_next_18 : decode cX7_next 18 = .ok (.iconst 1, 1) := by decide +kernel
theorem dX7_next_19 : decode cX7_next 19 = .ok (.iload_n 1, 1) := by decide +kernel
theorem dX7_next_20 : decode cX7_next 20 = .ok (.ishl, 1) := by decide +kernel
theorem dX7_next_21 : decode cX7_next 21 = .ok (.iconst (-1), 1) := by decide +kernel
theorem dX7_next_22 : decode cX7_next 22 = .ok (.ixor, 1) := by decide +kernel
theorem dX7_next_23 : decode cX7_next 23 = .ok (.iand, 1) := by decide +kernel
theorem dX7_next_24 : decode cX7_next 24 = .ok (.iastore, 1) := by decide +kernel
theorem dX7_next_25 : decode cX7_next 25 = .ok (.iinc 2 1, 3) := by decide +kernel
theorem dX7_next_28 : decode cX7_next 28 = .ok (.iload_n 2, 1) := by decide +kernel
theorem dX7_next_29 : decode cX7_next 29 = .ok (.aload_n 0, 1) := by decide +kernel
theorem dX7_next_30 : decode cX7_next 30 = .ok (.getfield 13, 3) := by decide +kernel
theorem dX7_next_33 : decode cX7_next 33 = .ok (.if_icmp .ge 27, 3) := by decide +kernel
theorem dX7_next_36 : decode cX7_next 36 = .ok (.aload_n 0, 1) := by decide +kernel
theorem dX7_next_37 : decode cX7_next 37 = .ok (.iload_n 1, 1) := by decide +kernel
theorem dX7_next_38 : decode cX7_next 38 = .ok (.iload_n 2, 1) := by decide +kernel
theorem dX7_next_39 : decode cX7_next 39 = .ok (.invokevirtual 148, 3) := by decide +kernel
theorem dX7_next_42 : decode cX7_next 42 = .ok (.ifCond .eq 12, 3) := by decide +kernel
theorem dX7_next_45 : decode cX7_next 45 = .ok (.aload_n 0, 1) := by decide +kernel
theorem dX7_next_46 : decode cX7_next 46 = .ok (.iload_n 1, 1) := by decide +kernel
theorem dX7_next_47 : decode cX7_next 47 = .ok (.iload_n 2, 1) := by decide +kernel
theorem dX7_next_48 : decode cX7_next 48 = .ok (.invokevirtual 151, 3) := by decide +kernel
theorem dX7_next_51 : decode cX7_next 51 = .ok (.ifCond .ne 9, 3) := by decide +kernel
theorem dX7_next_54 : decode cX7_next 54 = .ok (.iinc 2 1, 3) := by decide +kernel
theorem dX7_next_57 : decode cX7_next 57 = .ok (.goto (-29), 3) := by decide +kernel
theorem dX7_next_60 : decode cX7_next 60 = .ok (.aload_n 0, 1) := by decide +kernel
theorem dX7_next_61 : decode cX7_next 61 = .ok (.getfield 51, 3) := by decide +kernel
theorem dX7_next_64 : decode cX7_next 64 = .ok (.iload_n 1, 1) := by decide +kernel
theorem dX7_next_65 : decode cX7_next 65 = .ok (.iload_n 2, 1) := by decide +kernel
theorem dX7_next_66 : decode cX7_next 66 = .ok (.aload_n 0, 1) := by decide +kernel
theorem dX7_next_67 : decode cX7_next 67 = .ok (.getfield 13, 3) := by decide +kernel
theorem dX7_next_70 : decode cX7_next 70 = .ok (.if_icmp .ge 7, 3) := by decide +kernel
theorem dX7_next_73 : decode cX7_next 73 = .ok (.iload_n 2, 1) := by decide +kernel
theorem dX7_next_74 : decode cX7_next 74 = .ok (.goto 4, 3) := by decide +kernel
theorem dX7_next_77 : decode cX7_next 77 = .ok (.iconst (-1), 1) := by decide +kernel
theorem dX7_next_78 : decode cX7_next 78 = .ok (.iastore, 1) := by decide +kernel
theorem dX7_next_79 : decode cX7_next 79 = .ok (.iload_n 2, 1) := by decide +kernel
theorem dX7_next_80 : decode cX7_next 80 = .ok (.aload_n 0, 1) := by decide +kernel
theorem dX7_next_81 : decode cX7_next 81 = .ok (.getfield 13, 3) := by decide +kernel
theorem dX7_next_84 : decode cX7_next 84 = .ok (.if_icmp .ge 15, 3) := by decide +kernel
theorem dX7_next_87 : decode cX7_next 87 = .ok (.aload_n 0, 1) := by decide +kernel
theorem dX7_next_88 : decode cX7_next 88 = .ok (.getfield 54, 3) := by decide +kernel
theorem dX7_next_91 : decode cX7_next 91 = .ok (.iload_n 2, 1) := by decide +kernel
theorem dX7_next_92 : decode cX7_next 92 = .ok (.dup2, 1) := by decide +kernel
theorem dX7_next_93 : decode cX7_next 93 = .ok (.iaload, 1) := by decide +kernel
theorem dX7_next_94 : decode cX7_next 94 = .ok (.iconst 1, 1) := by decide +kernel
theorem dX7_next_95 : decode cX7_next 95 = .ok (.iload_n 1, 1) := by decide +kernel
theorem dX7_next_96 : decode cX7_next 96 = .ok (.ishl, 1) := by decide +kernel
theorem dX7_next_97 : decode cX7_next 97 = .ok (.ior, 1) := by decide +kernel
theorem dX7_next_98 : decode cX7_next 98 = .ok (.iastore, 1) := by decide +kernel
theorem dX7_next_99 : decode cX7_next 99 = .ok (.iload_n 2, 1) := by decide +kernel
theorem dX7_next_100 : decode cX7_next 100 = .ok (.aload_n 0, 1) := by decide +kernel
theorem dX7_next_101 : decode cX7_next 101 = .ok (.getfield 13, 3) := by decide +kernel
theorem dX7_next_104 : decode cX7_next 104 = .ok (.if_icmp .ge 7, 3) := by decide +kernel
theorem dX7_next_107 : decode cX7_next 107 = .ok (.iconst 1, 1) := by decide +kernel
theorem dX7_next_108 : decode cX7_next 108 = .ok (.goto 4, 3) := by decide +kernel
theorem dX7_next_111 : decode cX7_next 111 = .ok (.iconst 0, 1) := by decide +kernel
theorem dX7_next_112 : decode cX7_next 112 = .ok (.ireturn, 1) := by decide +kernel
theorem dX7_more_0 : decode cX7_more 0 = .ok (.aload_n 0, 1) := by decide +kernel
theorem dX7_more_1 : decode cX7_more 1 = .ok (.getfield 145, 3) := by decide +kernel
theorem dX7_more_4 : decode cX7_more 4 = .ok (.ifCond .eq 10, 3) := by decide +kernel
theorem dX7_more_7 : decode cX7_more 7 = .ok (.aload_n 0, 1) := by decide +kernel
theorem dX7_more_8 : decode cX7_more 8 = .ok (.getfield 142, 3) := by decide +kernel
theorem dX7_more_11 : decode cX7_more 11 = .ok (.goto 4, 3) := by decide +kernel
theorem dX7_more_14 : decode cX7_more 14 = .ok (.iconst 1, 1) := by decide +kernel
theorem dX7_more_15 : decode cX7_more 15 = .ok (.istore_n 1, 1) := by decide +kernel
theorem dX7_more_16 : decode cX7_more 16 = .ok (.aload_n 0, 1) := by decide +kernel
theorem dX7_more_17 : decode cX7_more 17 = .ok (.getfield 145, 3) := by decide +kernel
theorem dX7_more_20 : decode cX7_more 20 = .ok (.ifCond .ne 10, 3) := by decide +kernel
theorem dX7_more_23 : decode cX7_more 23 = .ok (.aload_n 0, 1) := by decide +kernel
theorem dX7_more_24 : decode cX7_more 24 = .ok (.getfield 51, 3) := by decide +kernel
theorem dX7_more_27 : decode cX7_more 27 = .ok (.iconst 1, 1) := by decide +kernel
theorem dX7_more_28 : decode cX7_more 28 = .ok (.iconst (-1), 1) := by decide +kernel
theorem dX7_more_29 : decode cX7_more 29 = .ok (.iastore, 1) := by decide +kernel
theorem dX7_more_30 : decode cX7_more 30 = .ok (.aload_n 0, 1) := by decide +kernel
theorem dX7_more_31 : decode cX7_more 31 = .ok (.iconst 1, 1) := by decide +kernel
theorem dX7_more_32 : decode cX7_more 32 = .ok (.putfield 145, 3) := by decide +kernel
theorem dX7_more_35 : decode cX7_more 35 = .ok (.iload_n 1, 1) := by decide +kernel
theorem dX7_more_36 : decode cX7_more 36 = .ok (.ifCond .le 40, 3) := by decide +kernel
theorem dX7_more_39 : decode cX7_more 39 = .ok (.aload_n 0, 1) := by decide +kernel
theorem dX7_more_40 : decode cX7_more 40 = .ok (.iload_n 1, 1) := by decide +kernel
theorem dX7_more_41 : decode cX7_more 41 = .ok (.invokevirtual 154, 3) := by decide +kernel
theorem dX7_more_44 : decode cX7_more 44 = .ok (.ifCond .ne 9, 3) := by decide +kernel
theorem dX7_more_47 : decode cX7_more 47 = .ok (.iinc 1 (-1), 3) := by decide +kernel
theorem dX7_more_50 : decode cX7_more 50 = .ok (.goto (-15), 3) := by decide +kernel
theorem dX7_more_53 : decode cX7_more 53 = .ok (.iload_n 1, 1) := by decide +kernel
theorem dX7_more_54 : decode cX7_more 54 = .ok (.aload_n 0, 1) := by decide +kernel
theorem dX7_more_55 : decode cX7_more 55 = .ok (.getfield 142, 3) := by decide +kernel
theorem dX7_more_58 : decode cX7_more 58 = .ok (.if_icmp .ne 5, 3) := by decide +kernel
theorem dX7_more_61 : decode cX7_more 61 = .ok (.iconst 1, 1) := by decide +kernel
theorem dX7_more_62 : decode cX7_more 62 = .ok (.ireturn, 1) := by decide +kernel
theorem dX7_more_63 : decode cX7_more 63 = .ok (.iinc 1 1, 3) := by decide +kernel
theorem dX7_more_66 : decode cX7_more 66 = .ok (.aload_n 0, 1) := by decide +kernel
theorem dX7_more_67 : decode cX7_more 67 = .ok (.getfield 51, 3) := by decide +kernel
theorem dX7_more_70 : decode cX7_more 70 = .ok (.iload_n 1, 1) := by decide +kernel
theorem dX7_more_71 : decode cX7_more 71 = .ok (.iconst (-1), 1) := by decide +kernel
theorem dX7_more_72 : decode cX7_more 72 = .ok (.iastore, 1) := by decide +kernel
theorem dX7_more_73 : decode cX7_more 73 = .ok (.goto (-38), 3) := by decide +kernel
theorem dX7_more_76 : decode cX7_more 76 = .ok (.iconst 0, 1) := by decide +kernel
theorem dX7_more_77 : decode cX7_more 77 = .ok (.ireturn, 1) := by decide +kernel
theorem dX7_beginAll_0 : decode cX7_beginAll 0 = .ok (.aload_n 0, 1) := by decide +kernel
theorem dX7_beginAll_1 : decode cX7_beginAll 1 = .ok (.aload_n 1, 1) := by decide +kernel
theorem dX7_beginAll_2 : decode cX7_beginAll 2 = .ok (.aload_n 1, 1) := by decide +kernel
theorem dX7_beginAll_3 : decode cX7_beginAll 3 = .ok (.invokestatic 157, 3) := by decide +kernel
theorem dX7_beginAll_6 : decode cX7_beginAll 6 = .ok (.aload_n 1, 1) := by decide +kernel
theorem dX7_beginAll_7 : decode cX7_beginAll 7 = .ok (.iconst 0, 1) := by decide +kernel
theorem dX7_beginAll_8 : decode cX7_beginAll 8 = .ok (.iaload, 1) := by decide +kernel
theorem dX7_beginAll_9 : decode cX7_beginAll 9 = .ok (.iconst 1, 1) := by decide +kernel
theorem dX7_beginAll_10 : decode cX7_beginAll 10 = .ok (.invokevirtual 160, 3) := by decide +kernel
theorem dX7_beginAll_13 : decode cX7_beginAll 13 = .ok (.return_, 1) := by decide +kernel
theorem dX7_manyBy_0 : decode cX7_manyBy 0 = .ok (.aload_n 0, 1) := by decide +kernel
theorem dX7_manyBy_1 : decode cX7_manyBy 1 = .ok (.aload_n 1, 1) := by decide +kernel
theorem dX7_manyBy_2 : decode cX7_manyBy 2 = .ok (.iload_n 2, 1) := by decide +kernel
theorem dX7_manyBy_3 : decode cX7_manyBy 3 = .ok (.aload_n 1, 1) := by decide +kernel
theorem dX7_manyBy_4 : decode cX7_manyBy 4 = .ok (.iconst 0, 1) := by decide +kernel
theorem dX7_manyBy_5 : decode cX7_manyBy 5 = .ok (.iaload, 1) := by decide +kernel
theorem dX7_manyBy_6 : decode cX7_manyBy 6 = .ok (.iconst 1, 1) := by decide +kernel
theorem dX7_manyBy_7 : decode cX7_manyBy 7 = .ok (.invokevirtual 160, 3) := by decide +kernel
theorem dX7_manyBy_10 : decode cX7_manyBy 10 = .ok (.iconst 0, 1) := by decide +kernel
theorem dX7_manyBy_11 : decode cX7_manyBy 11 = .ok (.istore_n 3, 1) := by decide +kernel
theorem dX7_manyBy_12 : decode cX7_manyBy 12 = .ok (.aload_n 0, 1) := by decide +kernel
theorem dX7_manyBy_13 : decode cX7_manyBy 13 = .ok (.invokevirtual 164, 3) := by decide +kernel
theorem dX7_manyBy_16 : decode cX7_manyBy 16 = .ok (.ifCond .eq 9, 3) := by decide +kernel
theorem dX7_manyBy_19 : decode cX7_manyBy 19 = .ok (.iinc 3 1, 3) := by decide +kernel
theorem dX7_manyBy_22 : decode cX7_manyBy 22 = .ok (.goto (-10), 3) := by decide +kernel
theorem dX7_manyBy_25 : decode cX7_manyBy 25 = .ok (.iload_n 3, 1) := by decide +kernel
theorem dX7_manyBy_26 : decode cX7_manyBy 26 = .ok (.ireturn, 1) := by decide +kernel
theorem dX7_manyOf_0 : decode cX7_manyOf 0 = .ok (.aload_n 0, 1) := by decide +kernel
theorem dX7_manyOf_1 : decode cX7_manyOf 1 = .ok (.aload_n 1, 1) := by decide +kernel
theorem dX7_manyOf_2 : decode cX7_manyOf 2 = .ok (.aload_n 1, 1) := by decide +kernel
theorem dX7_manyOf_3 : decode cX7_manyOf 3 = .ok (.invokestatic 157, 3) := by decide +kernel
theorem dX7_manyOf_6 : decode cX7_manyOf 6 = .ok (.invokevirtual 167, 3) := by decide +kernel
theorem dX7_manyOf_9 : decode cX7_manyOf 9 = .ok (.ireturn, 1) := by decide +kernel
theorem dX7_isWay_0 : decode cX7_isWay 0 = .ok (.iconst 1, 1) := by decide +kernel
theorem dX7_isWay_1 : decode cX7_isWay 1 = .ok (.istore_n 2, 1) := by decide +kernel
theorem dX7_isWay_2 : decode cX7_isWay 2 = .ok (.iconst 1, 1) := by decide +kernel
theorem dX7_isWay_3 : decode cX7_isWay 3 = .ok (.istore_n 3, 1) := by decide +kernel
theorem dX7_isWay_4 : decode cX7_isWay 4 = .ok (.iload_n 3, 1) := by decide +kernel
theorem dX7_isWay_5 : decode cX7_isWay 5 = .ok (.aload_n 1, 1) := by decide +kernel
theorem dX7_isWay_6 : decode cX7_isWay 6 = .ok (.iconst 0, 1) := by decide +kernel
theorem dX7_isWay_7 : decode cX7_isWay 7 = .ok (.iaload, 1) := by decide +kernel
theorem dX7_isWay_8 : decode cX7_isWay 8 = .ok (.if_icmp .gt 36, 3) := by decide +kernel
theorem dX7_isWay_11 : decode cX7_isWay 11 = .ok (.iload_n 2, 1) := by decide +kernel
theorem dX7_isWay_12 : decode cX7_isWay 12 = .ok (.ifCond .eq 24, 3) := by decide +kernel
theorem dX7_isWay_15 : decode cX7_isWay 15 = .ok (.aload_n 0, 1) := by decide +kernel
theorem dX7_isWay_16 : decode cX7_isWay 16 = .ok (.getfield 51, 3) := by decide +kernel
theorem dX7_isWay_19 : decode cX7_isWay 19 = .ok (.iload_n 3, 1) := by decide +kernel
theorem dX7_isWay_20 : decode cX7_isWay 20 = .ok (.iaload, 1) := by decide +kernel
theorem dX7_isWay_21 : decode cX7_isWay 21 = .ok (.aload_n 1, 1) := by decide +kernel
theorem dX7_isWay_22 : decode cX7_isWay 22 = .ok (.bipush 29, 2) := by decide +kernel
theorem dX7_isWay_24 : decode cX7_isWay 24 = .ok (.iload_n 3, 1) := by decide +kernel
theorem dX7_isWay_25 : decode cX7_isWay 25 = .ok (.iadd, 1) := by decide +kernel
theorem dX7_isWay_26 : decode cX7_isWay 26 = .ok (.iconst 1, 1) := by decide +kernel
theorem dX7_isWay_27 : decode cX7_isWay 27 = .ok (.isub, 1) := by decide +kernel
theorem dX7_isWay_28 : decode cX7_isWay 28 = .ok (.iaload, 1) := by decide +kernel
theorem dX7_isWay_29 : decode cX7_isWay 29 = .ok (.if_icmp .ne 7, 3) := by decide +kernel
theorem dX7_isWay_32 : decode cX7_isWay 32 = .ok (.iconst 1, 1) := by decide +kernel
theorem dX7_isWay_33 : decode cX7_isWay 33 = .ok (.goto 4, 3) := by decide +kernel
theorem dX7_isWay_36 : decode cX7_isWay 36 = .ok (.iconst 0, 1) := by decide +kernel
theorem dX7_isWay_37 : decode cX7_isWay 37 = .ok (.istore_n 2, 1) := by decide +kernel
theorem dX7_isWay_38 : decode cX7_isWay 38 = .ok (.iinc 3 1, 3) := by decide +kernel
theorem dX7_isWay_41 : decode cX7_isWay 41 = .ok (.goto (-37), 3) := by decide +kernel
theorem dX7_isWay_44 : decode cX7_isWay 44 = .ok (.iload_n 2, 1) := by decide +kernel
theorem dX7_isWay_45 : decode cX7_isWay 45 = .ok (.ireturn, 1) := by decide +kernel
theorem dX7_numberOf_0 : decode cX7_numberOf 0 = .ok (.aload_n 1, 1) := by decide +kernel
theorem dX7_numberOf_1 : decode cX7_numberOf 1 = .ok (.bipush 28, 2) := by decide +kernel
theorem dX7_numberOf_3 : decode cX7_numberOf 3 = .ok (.iaload, 1) := by decide +kernel
theorem dX7_numberOf_4 : decode cX7_numberOf 4 = .ok (.ifCond .ne 6, 3) := by decide +kernel
theorem dX7_numberOf_7 : decode cX7_numberOf 7 = .ok (.bipush (-9), 2) := by decide +kernel
theorem dX7_numberOf_9 : decode cX7_numberOf 9 = .ok (.ireturn, 1) := by decide +kernel
theorem dX7_numberOf_10 : decode cX7_numberOf 10 = .ok (.aload_n 0, 1) := by decide +kernel
theorem dX7_numberOf_11 : decode cX7_numberOf 11 = .ok (.aload_n 1, 1) := by decide +kernel
theorem dX7_numberOf_12 : decode cX7_numberOf 12 = .ok (.invokevirtual 171, 3) := by decide +kernel
theorem dX7_numberOf_15 : decode cX7_numberOf 15 = .ok (.iconst 0, 1) := by decide +kernel
theorem dX7_numberOf_16 : decode cX7_numberOf 16 = .ok (.istore_n 2, 1) := by decide +kernel
theorem dX7_numberOf_17 : decode cX7_numberOf 17 = .ok (.aload_n 0, 1) := by decide +kernel
theorem dX7_numberOf_18 : decode cX7_numberOf 18 = .ok (.invokevirtual 164, 3) := by decide +kernel
theorem dX7_numberOf_21 : decode cX7_numberOf 21 = .ok (.ifCond .eq 19, 3) := by decide +kernel
theorem dX7_numberOf_24 : decode cX7_numberOf 24 = .ok (.aload_n 0, 1) := by decide +kernel
theorem dX7_numberOf_25 : decode cX7_numberOf 25 = .ok (.aload_n 1, 1) := by decide +kernel
theorem dX7_numberOf_26 : decode cX7_numberOf 26 = .ok (.invokevirtual 174, 3) := by decide +kernel
theorem dX7_numberOf_29 : decode cX7_numberOf 29 = .ok (.ifCond .eq 5, 3) := by decide +kernel
theorem dX7_numberOf_32 : decode cX7_numberOf 32 = .ok (.iload_n 2, 1) := by decide +kernel
theorem dX7_numberOf_33 : decode cX7_numberOf 33 = .ok (.ireturn, 1) := by decide +kernel
theorem dX7_numberOf_34 : decode cX7_numberOf 34 = .ok (.iinc 2 1, 3) := by decide +kernel
theorem dX7_numberOf_37 : decode cX7_numberOf 37 = .ok (.goto (-20), 3) := by decide +kernel
theorem dX7_numberOf_40 : decode cX7_numberOf 40 = .ok (.bipush (-9), 2) := by decide +kernel
theorem dX7_numberOf_42 : decode cX7_numberOf 42 = .ok (.ireturn, 1) := by decide +kernel
theorem dX7_take_0 : decode cX7_take 0 = .ok (.aload_n 1, 1) := by decide +kernel
theorem dX7_take_1 : decode cX7_take 1 = .ok (.bipush 28, 2) := by decide +kernel
theorem dX7_take_3 : decode cX7_take 3 = .ok (.iload_n 2, 1) := by decide +kernel
theorem dX7_take_4 : decode cX7_take 4 = .ok (.ifCond .eq 7, 3) := by decide +kernel
theorem dX7_take_7 : decode cX7_take 7 = .ok (.iconst 1, 1) := by decide +kernel
theorem dX7_take_8 : decode cX7_take 8 = .ok (.goto 4, 3) := by decide +kernel
theorem dX7_take_11 : decode cX7_take 11 = .ok (.iconst 0, 1) := by decide +kernel
theorem dX7_take_12 : decode cX7_take 12 = .ok (.iastore, 1) := by decide +kernel
theorem dX7_take_13 : decode cX7_take 13 = .ok (.iconst 1, 1) := by decide +kernel
theorem dX7_take_14 : decode cX7_take 14 = .ok (.istore_n 3, 1) := by decide +kernel
theorem dX7_take_15 : decode cX7_take 15 = .ok (.iload_n 3, 1) := by decide +kernel
theorem dX7_take_16 : decode cX7_take 16 = .ok (.bipush 10, 2) := by decide +kernel
theorem dX7_take_18 : decode cX7_take 18 = .ok (.if_icmp .gt 38, 3) := by decide +kernel
theorem dX7_take_21 : decode cX7_take 21 = .ok (.aload_n 1, 1) := by decide +kernel
theorem dX7_take_22 : decode cX7_take 22 = .ok (.bipush 29, 2) := by decide +kernel
theorem dX7_take_24 : decode cX7_take 24 = .ok (.iload_n 3, 1) := by decide +kernel
theorem dX7_take_25 : decode cX7_take 25 = .ok (.iadd, 1) := by decide +kernel
theorem dX7_take_26 : decode cX7_take 26 = .ok (.iconst 1, 1) := by decide +kernel
theorem dX7_take_27 : decode cX7_take 27 = .ok (.isub, 1) := by decide +kernel
theorem dX7_take_28 : decode cX7_take 28 = .ok (.iload_n 2, 1) := by decide +kernel
theorem dX7_take_29 : decode cX7_take 29 = .ok (.ifCond .eq 19, 3) := by decide +kernel
theorem dX7_take_32 : decode cX7_take 32 = .ok (.iload_n 3, 1) := by decide +kernel
theorem dX7_take_33 : decode cX7_take 33 = .ok (.aload_n 1, 1) := by decide +kernel
theorem dX7_take_34 : decode cX7_take 34 = .ok (.iconst 0, 1) := by decide +kernel
theorem dX7_take_35 : decode cX7_take 35 = .ok (.iaload, 1) := by decide +kernel
theorem dX7_take_36 : decode cX7_take 36 = .ok (.if_icmp .gt 12, 3) := by decide +kernel
theorem dX7_take_39 : decode cX7_take 39 = .ok (.aload_n 0, 1) := by decide +kernel
theorem dX7_take_40 : decode cX7_take 40 = .ok (.getfield 51, 3) := by decide +kernel
theorem dX7_take_43 : decode cX7_take 43 = .ok (.iload_n 3, 1) := by decide +kernel
theorem dX7_take_44 : decode cX7_take 44 = .ok (.iaload, 1) := by decide +kernel
theorem dX7_take_45 : decode cX7_take 45 = .ok (.goto 4, 3) := by decide +kernel
theorem dX7_take_48 : decode cX7_take 48 = .ok (.iconst 0, 1) := by decide +kernel
theorem dX7_take_49 : decode cX7_take 49 = .ok (.iastore, 1) := by decide +kernel
theorem dX7_take_50 : decode cX7_take 50 = .ok (.iinc 3 1, 3) := by decide +kernel
theorem dX7_take_53 : decode cX7_take 53 = .ok (.goto (-38), 3) := by decide +kernel
theorem dX7_take_56 : decode cX7_take 56 = .ok (.return_, 1) := by decide +kernel
theorem dX7_settleOn_0 : decode cX7_settleOn 0 = .ok (.aload_n 0, 1) := by decide +kernel
theorem dX7_settleOn_1 : decode cX7_settleOn 1 = .ok (.aload_n 1, 1) := by decide +kernel
theorem dX7_settleOn_2 : decode cX7_settleOn 2 = .ok (.invokevirtual 178, 3) := by decide +kernel
theorem dX7_settleOn_5 : decode cX7_settleOn 5 = .ok (.bipush (-9), 2) := by decide +kernel
theorem dX7_settleOn_7 : decode cX7_settleOn 7 = .ok (.if_icmp .ne 17, 3) := by decide +kernel
theorem dX7_settleOn_10 : decode cX7_settleOn 10 = .ok (.aload_n 0, 1) := by decide +kernel
theorem dX7_settleOn_11 : decode cX7_settleOn 11 = .ok (.aload_n 1, 1) := by decide +kernel
theorem dX7_settleOn_12 : decode cX7_settleOn 12 = .ok (.invokevirtual 171, 3) := by decide +kernel
theorem dX7_settleOn_15 : decode cX7_settleOn 15 = .ok (.aload_n 0, 1) := by decide +kernel
theorem dX7_settleOn_16 : decode cX7_settleOn 16 = .ok (.aload_n 1, 1) := by decide +kernel
theorem dX7_settleOn_17 : decode cX7_settleOn 17 = .ok (.aload_n 0, 1) := by decide +kernel
theorem dX7_settleOn_18 : decode cX7_settleOn 18 = .ok (.invokevirtual 164, 3) := by decide +kernel
theorem dX7_settleOn_21 : decode cX7_settleOn 21 = .ok (.invokevirtual 181, 3) := by decide +kernel
theorem dX7_settleOn_24 : decode cX7_settleOn 24 = .ok (.return_, 1) := by decide +kernel
theorem dX7_isRegular_0 : decode cX7_isRegular 0 = .ok (.iconst 2, 1) := by decide +kernel
theorem dX7_isRegular_1 : decode cX7_isRegular 1 = .ok (.iconst 4, 1) := by decide +kernel
theorem dX7_isRegular_2 : decode cX7_isRegular 2 = .ok (.iload_n 1, 1) := by decide +kernel
theorem dX7_isRegular_3 : decode cX7_isRegular 3 = .ok (.imul, 1) := by decide +kernel
theorem dX7_isRegular_4 : decode cX7_isRegular 4 = .ok (.iadd, 1) := by decide +kernel
theorem dX7_isRegular_5 : decode cX7_isRegular 5 = .ok (.istore_n 2, 1) := by decide +kernel
theorem dX7_isRegular_6 : decode cX7_isRegular 6 = .ok (.aload_n 0, 1) := by decide +kernel
theorem dX7_isRegular_7 : decode cX7_isRegular 7 = .ok (.iload_n 2, 1) := by decide +kernel
theorem dX7_isRegular_8 : decode cX7_isRegular 8 = .ok (.iaload, 1) := by decide +kernel
theorem dX7_isRegular_9 : decode cX7_isRegular 9 = .ok (.istore_n 3, 1) := by decide +kernel
theorem dX7_isRegular_10 : decode cX7_isRegular 10 = .ok (.aload_n 0, 1) := by decide +kernel
theorem dX7_isRegular_11 : decode cX7_isRegular 11 = .ok (.iload_n 2, 1) := by decide +kernel
theorem dX7_isRegular_12 : decode cX7_isRegular 12 = .ok (.iconst 1, 1) := by decide +kernel
theorem dX7_isRegular_13 : decode cX7_isRegular 13 = .ok (.iadd, 1) := by decide +kernel
theorem dX7_isRegular_14 : decode cX7_isRegular 14 = .ok (.iaload, 1) := by decide +kernel
theorem dX7_isRegular_15 : decode cX7_isRegular 15 = .ok (.istore 4, 2) := by decide +kernel
theorem dX7_isRegular_17 : decode cX7_isRegular 17 = .ok (.aload_n 0, 1) := by decide +kernel
theorem dX7_isRegular_18 : decode cX7_isRegular 18 = .ok (.iload_n 2, 1) := by decide +kernel
theorem dX7_isRegular_19 : decode cX7_isRegular 19 = .ok (.iconst 2, 1) := by decide +kernel
theorem dX7_isRegular_20 : decode cX7_isRegular 20 = .ok (.iadd, 1) := by decide +kernel
theorem dX7_isRegular_21 : decode cX7_isRegular 21 = .ok (.iaload, 1) := by decide +kernel
theorem dX7_isRegular_22 : decode cX7_isRegular 22 = .ok (.ineg, 1) := by decide +kernel
theorem dX7_isRegular_23 : decode cX7_isRegular 23 = .ok (.istore 5, 2) := by decide +kernel
theorem dX7_isRegular_25 : decode cX7_isRegular 25 = .ok (.iload_n 3, 1) := by decide +kernel
theorem dX7_isRegular_26 : decode cX7_isRegular 26 = .ok (.iload 4, 2) := by decide +kernel
theorem dX7_isRegular_28 : decode cX7_isRegular 28 = .ok (.iadd, 1) := by decide +kernel
theorem dX7_isRegular_29 : decode cX7_isRegular 29 = .ok (.ifCond .eq 28, 3) := by decide +kernel
theorem dX7_isRegular_32 : decode cX7_isRegular 32 = .ok (.iload_n 3, 1) := by decide +kernel
theorem dX7_isRegular_33 : decode cX7_isRegular 33 = .ok (.iload 5, 2) := by decide +kernel
theorem dX7_isRegular_35 : decode cX7_isRegular 35 = .ok (.iadd, 1) := by decide +kernel
theorem dX7_isRegular_36 : decode cX7_isRegular 36 = .ok (.ifCond .eq 21, 3) := by decide +kernel
theorem dX7_isRegular_39 : decode cX7_isRegular 39 = .ok (.iload 4, 2) := by decide +kernel
theorem dX7_isRegular_41 : decode cX7_isRegular 41 = .ok (.iload 5, 2) := by decide +kernel
theorem dX7_isRegular_43 : decode cX7_isRegular 43 = .ok (.iadd, 1) := by decide +kernel
theorem dX7_isRegular_44 : decode cX7_isRegular 44 = .ok (.ifCond .eq 13, 3) := by decide +kernel
theorem dX7_isRegular_47 : decode cX7_isRegular 47 = .ok (.iload_n 3, 1) := by decide +kernel
theorem dX7_isRegular_48 : decode cX7_isRegular 48 = .ok (.iload 4, 2) := by decide +kernel
theorem dX7_isRegular_50 : decode cX7_isRegular 50 = .ok (.iadd, 1) := by decide +kernel
theorem dX7_isRegular_51 : decode cX7_isRegular 51 = .ok (.iload 5, 2) := by decide +kernel
theorem dX7_isRegular_53 : decode cX7_isRegular 53 = .ok (.iadd, 1) := by decide +kernel
theorem dX7_isRegular_54 : decode cX7_isRegular 54 = .ok (.ifCond .ne 7, 3) := by decide +kernel
theorem dX7_isRegular_57 : decode cX7_isRegular 57 = .ok (.iconst 1, 1) := by decide +kernel
theorem dX7_isRegular_58 : decode cX7_isRegular 58 = .ok (.goto 4, 3) := by decide +kernel
theorem dX7_isRegular_61 : decode cX7_isRegular 61 = .ok (.iconst 0, 1) := by decide +kernel
theorem dX7_isRegular_62 : decode cX7_isRegular 62 = .ok (.ireturn, 1) := by decide +kernel
theorem dX7_solutionAt_0 : decode cX7_solutionAt 0 = .ok (.iconst 0, 1) := by decide +kernel
theorem dX7_solutionAt_1 : decode cX7_solutionAt 1 = .ok (.istore_n 3, 1) := by decide +kernel
theorem dX7_solutionAt_2 : decode cX7_solutionAt 2 = .ok (.iconst 1, 1) := by decide +kernel
theorem dX7_solutionAt_3 : decode cX7_solutionAt 3 = .ok (.istore 4, 2) := by decide +kernel
theorem dX7_solutionAt_5 : decode cX7_solutionAt 5 = .ok (.iload 4, 2) := by decide +kernel
theorem dX7_solutionAt_7 : decode cX7_solutionAt 7 = .ok (.aload_n 0, 1) := by decide +kernel
theorem dX7_solutionAt_8 : decode cX7_solutionAt 8 = .ok (.getfield 20, 3) := by decide +kernel
theorem dX7_solutionAt_11 : decode cX7_solutionAt 11 = .ok (.iconst 0, 1) := by decide +kernel
theorem dX7_solutionAt_12 : decode cX7_solutionAt 12 = .ok (.iaload, 1) := by decide +kernel
theorem dX7_solutionAt_13 : decode cX7_solutionAt 13 = .ok (.if_icmp .gt 78, 3) := by decide +kernel
theorem dX7_solutionAt_16 : decode cX7_solutionAt 16 = .ok (.iconst 1, 1) := by decide +kernel
theorem dX7_solutionAt_17 : decode cX7_solutionAt 17 = .ok (.istore 5, 2) := by decide +kernel
theorem dX7_solutionAt_19 : decode cX7_solutionAt 19 = .ok (.iload 5, 2) := by decide +kernel
theorem dX7_solutionAt_21 : decode cX7_solutionAt 21 = .ok (.aload_n 0, 1) := by decide +kernel
theorem dX7_solutionAt_22 : decode cX7_solutionAt 22 = .ok (.getfield 20, 3) := by decide +kernel
theorem dX7_solutionAt_25 : decode cX7_solutionAt 25 = .ok (.iconst 0, 1) := by decide +kernel
theorem dX7_solutionAt_26 : decode cX7_solutionAt 26 = .ok (.iaload, 1) := by decide +kernel
theorem dX7_solutionAt_27 : decode cX7_solutionAt 27 = .ok (.if_icmp .gt 58, 3) := by decide +kernel
theorem dX7_solutionAt_30 : decode cX7_solutionAt 30 = .ok (.aload_n 0, 1) := by decide +kernel
theorem dX7_solutionAt_31 : decode cX7_solutionAt 31 = .ok (.getfield 20, 3) := by decide +kernel
theorem dX7_solutionAt_34 : decode cX7_solutionAt 34 = .ok (.iload_n 1, 1) := by decide +kernel
theorem dX7_solutionAt_35 : decode cX7_solutionAt 35 = .ok (.iload 4, 2) := by decide +kernel
theorem dX7_solutionAt_37 : decode cX7_solutionAt 37 = .ok (.iload 5, 2) := by decide +kernel
theorem dX7_solutionAt_39 : decode cX7_solutionAt 39 = .ok (.aload_n 0, 1) := by decide +kernel
theorem dX7_solutionAt_40 : decode cX7_solutionAt 40 = .ok (.getfield 20, 3) := by decide +kernel
theorem dX7_solutionAt_43 : decode cX7_solutionAt 43 = .ok (.iconst 0, 1) := by decide +kernel
theorem dX7_solutionAt_44 : decode cX7_solutionAt 44 = .ok (.iaload, 1) := by decide +kernel
theorem dX7_solutionAt_45 : decode cX7_solutionAt 45 = .ok (.invokestatic 126, 3) := by decide +kernel
theorem dX7_solutionAt_48 : decode cX7_solutionAt 48 = .ok (.istore 6, 2) := by decide +kernel
theorem dX7_solutionAt_50 : decode cX7_solutionAt 50 = .ok (.iload 6, 2) := by decide +kernel
theorem dX7_solutionAt_52 : decode cX7_solutionAt 52 = .ok (.ifCond .le 27, 3) := by decide +kernel
theorem dX7_solutionAt_55 : decode cX7_solutionAt 55 = .ok (.iload_n 3, 1) := by decide +kernel
theorem dX7_solutionAt_56 : decode cX7_solutionAt 56 = .ok (.iload_n 2, 1) := by decide +kernel
theorem dX7_solutionAt_57 : decode cX7_solutionAt 57 = .ok (.if_icmp .ne 19, 3) := by decide +kernel
theorem dX7_solutionAt_60 : decode cX7_solutionAt 60 = .ok (.sipush 10000, 3) := by decide +kernel
theorem dX7_solutionAt_63 : decode cX7_solutionAt 63 = .ok (.iload 4, 2) := by decide +kernel
theorem dX7_solutionAt_65 : decode cX7_solutionAt 65 = .ok (.imul, 1) := by decide +kernel
theorem dX7_solutionAt_66 : decode cX7_solutionAt 66 = .ok (.bipush 100, 2) := by decide +kernel
theorem dX7_solutionAt_68 : decode cX7_solutionAt 68 = .ok (.iload 5, 2) := by decide +kernel
theorem dX7_solutionAt_70 : decode cX7_solutionAt 70 = .ok (.imul, 1) := by decide +kernel
theorem dX7_solutionAt_71 : decode cX7_solutionAt 71 = .ok (.iadd, 1) := by decide +kernel
theorem dX7_solutionAt_72 : decode cX7_solutionAt 72 = .ok (.iload 6, 2) := by decide +kernel
theorem dX7_solutionAt_74 : decode cX7_solutionAt 74 = .ok (.iadd, 1) := by decide +kernel
theorem dX7_solutionAt_75 : decode cX7_solutionAt 75 = .ok (.ireturn, 1) := by decide +kernel
theorem dX7_solutionAt_76 : decode cX7_solutionAt 76 = .ok (.iinc 3 1, 3) := by decide +kernel
theorem dX7_solutionAt_79 : decode cX7_solutionAt 79 = .ok (.iinc 5 1, 3) := by decide +kernel
theorem dX7_solutionAt_82 : decode cX7_solutionAt 82 = .ok (.goto (-63), 3) := by decide +kernel
theorem dX7_solutionAt_85 : decode cX7_solutionAt 85 = .ok (.iinc 4 1, 3) := by decide +kernel
theorem dX7_solutionAt_88 : decode cX7_solutionAt 88 = .ok (.goto (-83), 3) := by decide +kernel
theorem dX7_solutionAt_91 : decode cX7_solutionAt 91 = .ok (.iload_n 3, 1) := by decide +kernel
theorem dX7_solutionAt_92 : decode cX7_solutionAt 92 = .ok (.ireturn, 1) := by decide +kernel
theorem dX7_noEquation_0 : decode cX7_noEquation 0 = .ok (.iload_n 1, 1) := by decide +kernel
theorem dX7_noEquation_1 : decode cX7_noEquation 1 = .ok (.i2l, 1) := by decide +kernel
theorem dX7_noEquation_2 : decode cX7_noEquation 2 = .ok (.lconst 0, 1) := by decide +kernel
theorem dX7_noEquation_3 : decode cX7_noEquation 3 = .ok (.aload_n 0, 1) := by decide +kernel
theorem dX7_noEquation_4 : decode cX7_noEquation 4 = .ok (.getfield 20, 3) := by decide +kernel
theorem dX7_noEquation_7 : decode cX7_noEquation 7 = .ok (.iconst 1, 1) := by decide +kernel
theorem dX7_noEquation_8 : decode cX7_noEquation 8 = .ok (.iaload, 1) := by decide +kernel
theorem dX7_noEquation_9 : decode cX7_noEquation 9 = .ok (.iconst 1, 1) := by decide +kernel
theorem dX7_noEquation_10 : decode cX7_noEquation 10 = .ok (.isub, 1) := by decide +kernel
theorem dX7_noEquation_11 : decode cX7_noEquation 11 = .ok (.i2l, 1) := by decide +kernel
theorem dX7_noEquation_12 : decode cX7_noEquation 12 = .ok (.invokestatic 72, 3) := by decide +kernel
theorem dX7_noEquation_15 : decode cX7_noEquation 15 = .ok (.ifCond .ne 7, 3) := by decide +kernel
theorem dX7_noEquation_18 : decode cX7_noEquation 18 = .ok (.iconst 1, 1) := by decide +kernel
theorem dX7_noEquation_19 : decode cX7_noEquation 19 = .ok (.goto 4, 3) := by decide +kernel
theorem dX7_noEquation_22 : decode cX7_noEquation 22 = .ok (.iconst 0, 1) := by decide +kernel
theorem dX7_noEquation_23 : decode cX7_noEquation 23 = .ok (.ireturn, 1) := by decide +kernel
theorem dX7_equation_0 : decode cX7_equation 0 = .ok (.aload_n 0, 1) := by decide +kernel
theorem dX7_equation_1 : decode cX7_equation 1 = .ok (.iconst 0, 1) := by decide +kernel
theorem dX7_equation_2 : decode cX7_equation 2 = .ok (.putfield 67, 3) := by decide +kernel
theorem dX7_equation_5 : decode cX7_equation 5 = .ok (.aload_n 0, 1) := by decide +kernel
theorem dX7_equation_6 : decode cX7_equation 6 = .ok (.iload_n 1, 1) := by decide +kernel
theorem dX7_equation_7 : decode cX7_equation 7 = .ok (.invokevirtual 185, 3) := by decide +kernel
theorem dX7_equation_10 : decode cX7_equation 10 = .ok (.ifCond .eq 5, 3) := by decide +kernel
theorem dX7_equation_13 : decode cX7_equation 13 = .ok (.iconst (-1), 1) := by decide +kernel
theorem dX7_equation_14 : decode cX7_equation 14 = .ok (.ireturn, 1) := by decide +kernel
theorem dX7_equation_15 : decode cX7_equation 15 = .ok (.iconst 2, 1) := by decide +kernel
theorem dX7_equation_16 : decode cX7_equation 16 = .ok (.iconst 4, 1) := by decide +kernel
theorem dX7_equation_17 : decode cX7_equation 17 = .ok (.iload_n 1, 1) := by decide +kernel
theorem dX7_equation_18 : decode cX7_equation 18 = .ok (.imul, 1) := by decide +kernel
theorem dX7_equation_19 : decode cX7_equation 19 = .ok (.iadd, 1) := by decide +kernel
theorem dX7_equation_20 : decode cX7_equation 20 = .ok (.istore_n 3, 1) := by decide +kernel
theorem dX7_equation_21 : decode cX7_equation 21 = .ok (.iload_n 2, 1) := by decide +kernel
theorem dX7_equation_22 : decode cX7_equation 22 = .ok (.tableswitch 83 0 5 #[38, 38, 38, 50, 59, 76], 38) := by decide +kernel
theorem dX7_equation_60 : decode cX7_equation 60 = .ok (.aload_n 0, 1) := by decide +kernel
theorem dX7_equation_61 : decode cX7_equation 61 = .ok (.getfield 20, 3) := by decide +kernel
theorem dX7_equation_64 : decode cX7_equation 64 = .ok (.iload_n 3, 1) := by decide +kernel
theorem dX7_equation_65 : decode cX7_equation 65 = .ok (.iload_n 2, 1) := by decide +kernel
theorem dX7_equation_66 : decode cX7_equation 66 = .ok (.iadd, 1) := by decide +kernel
theorem dX7_equation_67 : decode cX7_equation 67 = .ok (.iaload, 1) := by decide +kernel
theorem dX7_equation_68 : decode cX7_equation 68 = .ok (.bipush 10, 2) := by decide +kernel
theorem dX7_equation_70 : decode cX7_equation 70 = .ok (.iadd, 1) := by decide +kernel
theorem dX7_equation_71 : decode cX7_equation 71 = .ok (.ireturn, 1) := by decide +kernel
theorem dX7_equation_72 : decode cX7_equation 72 = .ok (.aload_n 0, 1) := by decide +kernel
theorem dX7_equation_73 : decode cX7_equation 73 = .ok (.getfield 20, 3) := by decide +kernel
theorem dX7_equation_76 : decode cX7_equation 76 = .ok (.iload_n 3, 1) := by decide +kernel
theorem dX7_equation_77 : decode cX7_equation 77 = .ok (.iconst 3, 1) := by decide +kernel
theorem dX7_equation_78 : decode cX7_equation 78 = .ok (.iadd, 1) := by decide +kernel
theorem dX7_equation_79 : decode cX7_equation 79 = .ok (.iaload, 1) := by decide +kernel
theorem dX7_equation_80 : decode cX7_equation 80 = .ok (.ireturn, 1) := by decide +kernel
theorem dX7_equation_81 : decode cX7_equation 81 = .ok (.aload_n 0, 1) := by decide +kernel
theorem dX7_equation_82 : decode cX7_equation 82 = .ok (.getfield 20, 3) := by decide +kernel
theorem dX7_equation_85 : decode cX7_equation 85 = .ok (.iload_n 1, 1) := by decide +kernel
theorem dX7_equation_86 : decode cX7_equation 86 = .ok (.invokestatic 188, 3) := by decide +kernel
theorem dX7_equation_89 : decode cX7_equation 89 = .ok (.ifCond .eq 7, 3) := by decide +kernel
theorem dX7_equation_92 : decode cX7_equation 92 = .ok (.iconst 1, 1) := by decide +kernel
theorem dX7_equation_93 : decode cX7_equation 93 = .ok (.goto 4, 3) := by decide +kernel
theorem dX7_equation_96 : decode cX7_equation 96 = .ok (.iconst 0, 1) := by decide +kernel
theorem dX7_equation_97 : decode cX7_equation 97 = .ok (.ireturn, 1) := by decide +kernel
theorem dX7_equation_98 : decode cX7_equation 98 = .ok (.aload_n 0, 1) := by decide +kernel
theorem dX7_equation_99 : decode cX7_equation 99 = .ok (.iload_n 1, 1) := by decide +kernel
theorem dX7_equation_100 : decode cX7_equation 100 = .ok (.iconst (-1), 1) := by decide +kernel
theorem dX7_equation_101 : decode cX7_equation 101 = .ok (.invokevirtual 192, 3) := by decide +kernel
theorem dX7_equation_104 : decode cX7_equation 104 = .ok (.ireturn, 1) := by decide +kernel
theorem dX7_equation_105 : decode cX7_equation 105 = .ok (.bipush (-2), 2) := by decide +kernel
theorem dX7_equation_107 : decode cX7_equation 107 = .ok (.ireturn, 1) := by decide +kernel
theorem dX7_solution_0 : decode cX7_solution 0 = .ok (.aload_n 0, 1) := by decide +kernel
theorem dX7_solution_1 : decode cX7_solution 1 = .ok (.iconst 0, 1) := by decide +kernel
theorem dX7_solution_2 : decode cX7_solution 2 = .ok (.putfield 67, 3) := by decide +kernel
theorem dX7_solution_5 : decode cX7_solution 5 = .ok (.aload_n 0, 1) := by decide +kernel
theorem dX7_solution_6 : decode cX7_solution 6 = .ok (.iload_n 1, 1) := by decide +kernel
theorem dX7_solution_7 : decode cX7_solution 7 = .ok (.invokevirtual 185, 3) := by decide +kernel
theorem dX7_solution_10 : decode cX7_solution 10 = .ok (.ifCond .eq 5, 3) := by decide +kernel
theorem dX7_solution_13 : decode cX7_solution 13 = .ok (.iconst (-1), 1) := by decide +kernel
theorem dX7_solution_14 : decode cX7_solution 14 = .ok (.ireturn, 1) := by decide +kernel
theorem dX7_solution_15 : decode cX7_solution 15 = .ok (.iload_n 2, 1) := by decide +kernel
theorem dX7_solution_16 : decode cX7_solution 16 = .ok (.i2l, 1) := by decide +kernel
theorem dX7_solution_17 : decode cX7_solution 17 = .ok (.lconst 0, 1) := by decide +kernel
theorem dX7_solution_18 : decode cX7_solution 18 = .ok (.aload_n 0, 1) := by decide +kernel
theorem dX7_solution_19 : decode cX7_solution 19 = .ok (.iload_n 1, 1) := by decide +kernel
theorem dX7_solution_20 : decode cX7_solution 20 = .ok (.iconst (-1), 1) := by decide +kernel
theorem dX7_solution_21 : decode cX7_solution 21 = .ok (.invokevirtual 192, 3) := by decide +kernel
theorem dX7_solution_24 : decode cX7_solution 24 = .ok (.iconst 1, 1) := by decide +kernel
theorem dX7_solution_25 : decode cX7_solution 25 = .ok (.isub, 1) := by decide +kernel
theorem dX7_solution_26 : decode cX7_solution 26 = .ok (.i2l, 1) := by decide +kernel
theorem dX7_solution_27 : decode cX7_solution 27 = .ok (.invokestatic 72, 3) := by decide +kernel
theorem dX7_solution_30 : decode cX7_solution 30 = .ok (.ifCond .eq 12, 3) := by decide +kernel
theorem dX7_solution_33 : decode cX7_solution 33 = .ok (.aload_n 0, 1) := by decide +kernel
theorem dX7_solution_34 : decode cX7_solution 34 = .ok (.iload_n 1, 1) := by decide +kernel
theorem dX7_solution_35 : decode cX7_solution 35 = .ok (.iload_n 2, 1) := by decide +kernel
theorem dX7_solution_36 : decode cX7_solution 36 = .ok (.invokevirtual 192, 3) := by decide +kernel
theorem dX7_solution_39 : decode cX7_solution 39 = .ok (.goto 5, 3) := by decide +kernel
theorem dX7_solution_42 : decode cX7_solution 42 = .ok (.bipush (-9), 2) := by decide +kernel
theorem dX7_solution_44 : decode cX7_solution 44 = .ok (.ireturn, 1) := by decide +kernel
theorem dX7_noNumber_0 : decode cX7_noNumber 0 = .ok (.iload_n 1, 1) := by decide +kernel
theorem dX7_noNumber_1 : decode cX7_noNumber 1 = .ok (.i2l, 1) := by decide +kernel
theorem dX7_noNumber_2 : decode cX7_noNumber 2 = .ok (.lconst 1, 1) := by decide +kernel
theorem dX7_noNumber_3 : decode cX7_noNumber 3 = .ok (.aload_n 0, 1) := by decide +kernel
theorem dX7_noNumber_4 : decode cX7_noNumber 4 = .ok (.getfield 20, 3) := by decide +kernel
theorem dX7_noNumber_7 : decode cX7_noNumber 7 = .ok (.iconst 0, 1) := by decide +kernel
theorem dX7_noNumber_8 : decode cX7_noNumber 8 = .ok (.iaload, 1) := by decide +kernel
theorem dX7_noNumber_9 : decode cX7_noNumber 9 = .ok (.i2l, 1) := by decide +kernel
theorem dX7_noNumber_10 : decode cX7_noNumber 10 = .ok (.invokestatic 72, 3) := by decide +kernel
theorem dX7_noNumber_13 : decode cX7_noNumber 13 = .ok (.ifCond .ne 7, 3) := by decide +kernel
theorem dX7_noNumber_16 : decode cX7_noNumber 16 = .ok (.iconst 1, 1) := by decide +kernel
theorem dX7_noNumber_17 : decode cX7_noNumber 17 = .ok (.goto 4, 3) := by decide +kernel
theorem dX7_noNumber_20 : decode cX7_noNumber 20 = .ok (.iconst 0, 1) := by decide +kernel
theorem dX7_noNumber_21 : decode cX7_noNumber 21 = .ok (.ireturn, 1) := by decide +kernel
theorem dX7_mayBe_0 : decode cX7_mayBe 0 = .ok (.iconst 0, 1) := by decide +kernel
theorem dX7_mayBe_1 : decode cX7_mayBe 1 = .ok (.istore_n 3, 1) := by decide +kernel
theorem dX7_mayBe_2 : decode cX7_mayBe 2 = .ok (.aload_n 0, 1) := by decide +kernel
theorem dX7_mayBe_3 : decode cX7_mayBe 3 = .ok (.aload_n 1, 1) := by decide +kernel
theorem dX7_mayBe_4 : decode cX7_mayBe 4 = .ok (.invokevirtual 171, 3) := by decide +kernel
theorem dX7_mayBe_7 : decode cX7_mayBe 7 = .ok (.aload_n 0, 1) := by decide +kernel
theorem dX7_mayBe_8 : decode cX7_mayBe 8 = .ok (.invokevirtual 164, 3) := by decide +kernel
theorem dX7_mayBe_11 : decode cX7_mayBe 11 = .ok (.ifCond .eq 17, 3) := by decide +kernel
theorem dX7_mayBe_14 : decode cX7_mayBe 14 = .ok (.iload_n 3, 1) := by decide +kernel
theorem dX7_mayBe_15 : decode cX7_mayBe 15 = .ok (.iconst 1, 1) := by decide +kernel
theorem dX7_mayBe_16 : decode cX7_mayBe 16 = .ok (.aload_n 0, 1) := by decide +kernel
theorem dX7_mayBe_17 : decode cX7_mayBe 17 = .ok (.getfield 51, 3) := by decide +kernel
theorem dX7_mayBe_20 : decode cX7_mayBe 20 = .ok (.iload_n 2, 1) := by decide +kernel
theorem dX7_mayBe_21 : decode cX7_mayBe 21 = .ok (.iaload, 1) := by decide +kernel
theorem dX7_mayBe_22 : decode cX7_mayBe 22 = .ok (.ishl, 1) := by decide +kernel
theorem dX7_mayBe_23 : decode cX7_mayBe 23 = .ok (.ior, 1) := by decide +kernel
theorem dX7_mayBe_24 : decode cX7_mayBe 24 = .ok (.istore_n 3, 1) := by decide +kernel
theorem dX7_mayBe_25 : decode cX7_mayBe 25 = .ok (.goto (-18), 3) := by decide +kernel
theorem dX7_mayBe_28 : decode cX7_mayBe 28 = .ok (.iload_n 3, 1) := by decide +kernel
theorem dX7_mayBe_29 : decode cX7_mayBe 29 = .ok (.ireturn, 1) := by decide +kernel
theorem dX7_number_0 : decode cX7_number 0 = .ok (.aload_n 0, 1) := by decide +kernel
theorem dX7_number_1 : decode cX7_number 1 = .ok (.iconst 0, 1) := by decide +kernel
theorem dX7_number_2 : decode cX7_number 2 = .ok (.putfield 67, 3) := by decide +kernel
theorem dX7_number_5 : decode cX7_number 5 = .ok (.aload_n 0, 1) := by decide +kernel
theorem dX7_number_6 : decode cX7_number 6 = .ok (.iload_n 1, 1) := by decide +kernel
theorem dX7_number_7 : decode cX7_number 7 = .ok (.invokevirtual 195, 3) := by decide +kernel
theorem dX7_number_10 : decode cX7_number 10 = .ok (.ifCond .eq 5, 3) := by decide +kernel
theorem dX7_number_13 : decode cX7_number 13 = .ok (.iconst (-1), 1) := by decide +kernel
theorem dX7_number_14 : decode cX7_number 14 = .ok (.ireturn, 1) := by decide +kernel
theorem dX7_number_15 : decode cX7_number 15 = .ok (.iload_n 2, 1) := by decide +kernel
theorem dX7_number_16 : decode cX7_number 16 = .ok (.tableswitch 125 0 3 #[32, 60, 93, 103], 32) := by decide +kernel
theorem dX7_number_48 : decode cX7_number 48 = .ok (.aload_n 0, 1) := by decide +kernel
theorem dX7_number_49 : decode cX7_number 49 = .ok (.getfield 20, 3) := by decide +kernel
theorem dX7_number_52 : decode cX7_number 52 = .ok (.bipush 28, 2) := by decide +kernel
theorem dX7_number_54 : decode cX7_number 54 = .ok (.iaload, 1) := by decide +kernel
theorem dX7_number_55 : decode cX7_number 55 = .ok (.iconst 1, 1) := by decide +kernel
theorem dX7_number_56 : decode cX7_number 56 = .ok (.if_icmp .ne 17, 3) := by decide +kernel
theorem dX7_number_59 : decode cX7_number 59 = .ok (.aload_n 0, 1) := by decide +kernel
theorem dX7_number_60 : decode cX7_number 60 = .ok (.getfield 20, 3) := by decide +kernel
theorem dX7_number_63 : decode cX7_number 63 = .ok (.bipush 29, 2) := by decide +kernel
theorem dX7_number_65 : decode cX7_number 65 = .ok (.iload_n 1, 1) := by decide +kernel
theorem dX7_number_66 : decode cX7_number 66 = .ok (.iadd, 1) := by decide +kernel
theorem dX7_number_67 : decode cX7_number 67 = .ok (.iconst 1, 1) := by decide +kernel
theorem dX7_number_68 : decode cX7_number 68 = .ok (.isub, 1) := by decide +kernel
theorem dX7_number_69 : decode cX7_number 69 = .ok (.iaload, 1) := by decide +kernel
theorem dX7_number_70 : decode cX7_number 70 = .ok (.goto 5, 3) := by decide +kernel
theorem dX7_number_73 : decode cX7_number 73 = .ok (.bipush (-9), 2) := by decide +kernel
theorem dX7_number_75 : decode cX7_number 75 = .ok (.ireturn, 1) := by decide +kernel
theorem dX7_number_76 : decode cX7_number 76 = .ok (.aload_n 0, 1) := by decide +kernel
theorem dX7_number_77 : decode cX7_number 77 = .ok (.getfield 20, 3) := by decide +kernel
theorem dX7_number_80 : decode cX7_number 80 = .ok (.bipush 18, 2) := by decide +kernel
theorem dX7_number_82 : decode cX7_number 82 = .ok (.iload_n 1, 1) := by decide +kernel
theorem dX7_number_83 : decode cX7_number 83 = .ok (.iadd, 1) := by decide +kernel
theorem dX7_number_84 : decode cX7_number 84 = .ok (.iconst 1, 1) := by decide +kernel
theorem dX7_number_85 : decode cX7_number 85 = .ok (.isub, 1) := by decide +kernel
theorem dX7_number_86 : decode cX7_number 86 = .ok (.iaload, 1) := by decide +kernel
theorem dX7_number_87 : decode cX7_number 87 = .ok (.ifCond .ne 8, 3) := by decide +kernel
theorem dX7_number_90 : decode cX7_number 90 = .ok (.bipush (-9), 2) := by decide +kernel
theorem dX7_number_92 : decode cX7_number 92 = .ok (.goto 16, 3) := by decide +kernel
theorem dX7_number_95 : decode cX7_number 95 = .ok (.aload_n 0, 1) := by decide +kernel
theorem dX7_number_96 : decode cX7_number 96 = .ok (.getfield 20, 3) := by decide +kernel
theorem dX7_number_99 : decode cX7_number 99 = .ok (.bipush 18, 2) := by decide +kernel
theorem dX7_number_101 : decode cX7_number 101 = .ok (.iload_n 1, 1) := by decide +kernel
theorem dX7_number_102 : decode cX7_number 102 = .ok (.iadd, 1) := by decide +kernel
theorem dX7_number_103 : decode cX7_number 103 = .ok (.iconst 1, 1) := by decide +kernel
theorem dX7_number_104 : decode cX7_number 104 = .ok (.isub, 1) := by decide +kernel
theorem dX7_number_105 : decode cX7_number 105 = .ok (.iaload, 1) := by decide +kernel
theorem dX7_number_106 : decode cX7_number 106 = .ok (.iconst 1, 1) := by decide +kernel
theorem dX7_number_107 : decode cX7_number 107 = .ok (.isub, 1) := by decide +kernel
theorem dX7_number_108 : decode cX7_number 108 = .ok (.ireturn, 1) := by decide +kernel
theorem dX7_number_109 : decode cX7_number 109 = .ok (.aload_n 0, 1) := by decide +kernel
theorem dX7_number_110 : decode cX7_number 110 = .ok (.aload_n 0, 1) := by decide +kernel
theorem dX7_number_111 : decode cX7_number 111 = .ok (.getfield 20, 3) := by decide +kernel
theorem dX7_number_114 : decode cX7_number 114 = .ok (.iload_n 1, 1) := by decide +kernel
theorem dX7_number_115 : decode cX7_number 115 = .ok (.invokevirtual 198, 3) := by decide +kernel
theorem dX7_number_118 : decode cX7_number 118 = .ok (.ireturn, 1) := by decide +kernel
theorem dX7_number_119 : decode cX7_number 119 = .ok (.aload_n 0, 1) := by decide +kernel
theorem dX7_number_120 : decode cX7_number 120 = .ok (.aload_n 0, 1) := by decide +kernel
theorem dX7_number_121 : decode cX7_number 121 = .ok (.getfield 20, 3) := by decide +kernel
theorem dX7_number_124 : decode cX7_number 124 = .ok (.iload_n 1, 1) := by decide +kernel
theorem dX7_number_125 : decode cX7_number 125 = .ok (.invokevirtual 198, 3) := by decide +kernel
theorem dX7_number_128 : decode cX7_number 128 = .ok (.invokestatic 201, 3) := by decide +kernel
theorem dX7_number_131 : decode cX7_number 131 = .ok (.iconst 1, 1) := by decide +kernel
theorem dX7_number_132 : decode cX7_number 132 = .ok (.if_icmp .ne 7, 3) := by decide +kernel
theorem dX7_number_135 : decode cX7_number 135 = .ok (.iconst 1, 1) := by decide +kernel
theorem dX7_number_136 : decode cX7_number 136 = .ok (.goto 4, 3) := by decide +kernel
theorem dX7_number_139 : decode cX7_number 139 = .ok (.iconst 0, 1) := by decide +kernel
theorem dX7_number_140 : decode cX7_number 140 = .ok (.ireturn, 1) := by decide +kernel
theorem dX7_number_141 : decode cX7_number 141 = .ok (.bipush (-2), 2) := by decide +kernel
theorem dX7_number_143 : decode cX7_number 143 = .ok (.ireturn, 1) := by decide +kernel
theorem dX7_note_0 : decode cX7_note 0 = .ok (.aload_n 0, 1) := by decide +kernel
theorem dX7_note_1 : decode cX7_note 1 = .ok (.getfield 115, 3) := by decide +kernel
theorem dX7_note_4 : decode cX7_note 4 = .ok (.bipush 14, 2) := by decide +kernel
theorem dX7_note_6 : decode cX7_note 6 = .ok (.if_icmp .ne 43, 3) := by decide +kernel
theorem dX7_note_9 : decode cX7_note 9 = .ok (.iconst 0, 1) := by decide +kernel
theorem dX7_note_10 : decode cX7_note 10 = .ok (.istore_n 1, 1) := by decide +kernel
theorem dX7_note_11 : decode cX7_note 11 = .ok (.iload_n 1, 1) := by decide +kernel
theorem dX7_note_12 : decode cX7_note 12 = .ok (.sipush 507, 3) := by decide +kernel
theorem dX7_note_15 : decode cX7_note 15 = .ok (.if_icmp .ge 24, 3) := by decide +kernel
theorem dX7_note_18 : decode cX7_note 18 = .ok (.aload_n 0, 1) := by decide +kernel
theorem dX7_note_19 : decode cX7_note 19 = .ok (.getfield 26, 3) := by decide +kernel
theorem dX7_note_22 : decode cX7_note 22 = .ok (.iload_n 1, 1) := by decide +kernel
theorem dX7_note_23 : decode cX7_note 23 = .ok (.aload_n 0, 1) := by decide +kernel
theorem dX7_note_24 : decode cX7_note 24 = .ok (.getfield 26, 3) := by decide +kernel
theorem dX7_note_27 : decode cX7_note 27 = .ok (.iload_n 1, 1) := by decide +kernel
theorem dX7_note_28 : decode cX7_note 28 = .ok (.bipush 39, 2) := by decide +kernel
theorem dX7_note_30 : decode cX7_note 30 = .ok (.iadd, 1) := by decide +kernel
theorem dX7_note_31 : decode cX7_note 31 = .ok (.iaload, 1) := by decide +kernel
theorem dX7_note_32 : decode cX7_note 32 = .ok (.iastore, 1) := by decide +kernel
theorem dX7_note_33 : decode cX7_note 33 = .ok (.iinc 1 1, 3) := by decide +kernel
theorem dX7_note_36 : decode cX7_note 36 = .ok (.goto (-25), 3) := by decide +kernel
theorem dX7_note_39 : decode cX7_note 39 = .ok (.aload_n 0, 1) := by decide +kernel
theorem dX7_note_40 : decode cX7_note 40 = .ok (.dup, 1) := by decide +kernel
theorem dX7_note_41 : decode cX7_note 41 = .ok (.getfield 115, 3) := by decide +kernel
theorem dX7_note_44 : decode cX7_note 44 = .ok (.iconst 1, 1) := by decide +kernel
theorem dX7_note_45 : decode cX7_note 45 = .ok (.isub, 1) := by decide +kernel
theorem dX7_note_46 : decode cX7_note 46 = .ok (.putfield 115, 3) := by decide +kernel
theorem dX7_note_49 : decode cX7_note 49 = .ok (.iconst 0, 1) := by decide +kernel
theorem dX7_note_50 : decode cX7_note 50 = .ok (.istore_n 1, 1) := by decide +kernel
theorem dX7_note_51 : decode cX7_note 51 = .ok (.iload_n 1, 1) := by decide +kernel
theorem dX7_note_52 : decode cX7_note 52 = .ok (.bipush 39, 2) := by decide +kernel
theorem dX7_note_54 : decode cX7_note 54 = .ok (.if_icmp .ge 29, 3) := by decide +kernel
theorem dX7_note_57 : decode cX7_note 57 = .ok (.aload_n 0, 1) := by decide +kernel
theorem dX7_note_58 : decode cX7_note 58 = .ok (.getfield 26, 3) := by decide +kernel
theorem dX7_note_61 : decode cX7_note 61 = .ok (.bipush 39, 2) := by decide +kernel
theorem dX7_note_63 : decode cX7_note 63 = .ok (.aload_n 0, 1) := by decide +kernel
theorem dX7_note_64 : decode cX7_note 64 = .ok (.getfield 115, 3) := by decide +kernel
theorem dX7_note_67 : decode cX7_note 67 = .ok (.imul, 1) := by decide +kernel
theorem dX7_note_68 : decode cX7_note 68 = .ok (.iload_n 1, 1) := by decide +kernel
theorem dX7_note_69 : decode cX7_note 69 = .ok (.iadd, 1) := by decide +kernel
theorem dX7_note_70 : decode cX7_note 70 = .ok (.aload_n 0, 1) := by decide +kernel
theorem dX7_note_71 : decode cX7_note 71 = .ok (.getfield 20, 3) := by decide +kernel
theorem dX7_note_74 : decode cX7_note 74 = .ok (.iload_n 1, 1) := by decide +kernel
theorem dX7_note_75 : decode cX7_note 75 = .ok (.iaload, 1) := by decide +kernel
theorem dX7_note_76 : decode cX7_note 76 = .ok (.iastore, 1) := by decide +kernel
theorem dX7_note_77 : decode cX7_note 77 = .ok (.iinc 1 1, 3) := by decide +kernel
theorem dX7_note_80 : decode cX7_note 80 = .ok (.goto (-29), 3) := by decide +kernel
theorem dX7_note_83 : decode cX7_note 83 = .ok (.aload_n 0, 1) := by decide +kernel
theorem dX7_note_84 : decode cX7_note 84 = .ok (.dup, 1) := by decide +kernel
theorem dX7_note_85 : decode cX7_note 85 = .ok (.getfield 115, 3) := by decide +kernel
theorem dX7_note_88 : decode cX7_note 88 = .ok (.iconst 1, 1) := by decide +kernel
theorem dX7_note_89 : decode cX7_note 89 = .ok (.iadd, 1) := by decide +kernel
theorem dX7_note_90 : decode cX7_note 90 = .ok (.putfield 115, 3) := by decide +kernel
theorem dX7_note_93 : decode cX7_note 93 = .ok (.return_, 1) := by decide +kernel
theorem dX7_go_0 : decode cX7_go 0 = .ok (.aload_n 0, 1) := by decide +kernel
theorem dX7_go_1 : decode cX7_go 1 = .ok (.iconst 0, 1) := by decide +kernel
theorem dX7_go_2 : decode cX7_go 2 = .ok (.putfield 67, 3) := by decide +kernel
theorem dX7_go_5 : decode cX7_go 5 = .ok (.iload_n 1, 1) := by decide +kernel
theorem dX7_go_6 : decode cX7_go 6 = .ok (.i2l, 1) := by decide +kernel
theorem dX7_go_7 : decode cX7_go 7 = .ok (.lconst 0, 1) := by decide +kernel
theorem dX7_go_8 : decode cX7_go 8 = .ok (.aload_n 0, 1) := by decide +kernel
theorem dX7_go_9 : decode cX7_go 9 = .ok (.aload_n 0, 1) := by decide +kernel
theorem dX7_go_10 : decode cX7_go 10 = .ok (.getfield 20, 3) := by decide +kernel
theorem dX7_go_13 : decode cX7_go 13 = .ok (.invokevirtual 118, 3) := by decide +kernel
theorem dX7_go_16 : decode cX7_go 16 = .ok (.iconst 1, 1) := by decide +kernel
theorem dX7_go_17 : decode cX7_go 17 = .ok (.isub, 1) := by decide +kernel
theorem dX7_go_18 : decode cX7_go 18 = .ok (.i2l, 1) := by decide +kernel
theorem dX7_go_19 : decode cX7_go 19 = .ok (.invokestatic 72, 3) := by decide +kernel
theorem dX7_go_22 : decode cX7_go 22 = .ok (.ifCond .ne 5, 3) := by decide +kernel
theorem dX7_go_25 : decode cX7_go 25 = .ok (.iconst (-1), 1) := by decide +kernel
theorem dX7_go_26 : decode cX7_go 26 = .ok (.ireturn, 1) := by decide +kernel
theorem dX7_go_27 : decode cX7_go 27 = .ok (.aload_n 0, 1) := by decide +kernel
theorem dX7_go_28 : decode cX7_go 28 = .ok (.invokevirtual 205, 3) := by decide +kernel
theorem dX7_go_31 : decode cX7_go 31 = .ok (.aload_n 0, 1) := by decide +kernel
theorem dX7_go_32 : decode cX7_go 32 = .ok (.aload_n 0, 1) := by decide +kernel
theorem dX7_go_33 : decode cX7_go 33 = .ok (.getfield 20, 3) := by decide +kernel
theorem dX7_go_36 : decode cX7_go 36 = .ok (.invokevirtual 171, 3) := by decide +kernel
theorem dX7_go_39 : decode cX7_go 39 = .ok (.iconst 0, 1) := by decide +kernel
theorem dX7_go_40 : decode cX7_go 40 = .ok (.istore_n 2, 1) := by decide +kernel
theorem dX7_go_41 : decode cX7_go 41 = .ok (.iload_n 2, 1) := by decide +kernel
theorem dX7_go_42 : decode cX7_go 42 = .ok (.iload_n 1, 1) := by decide +kernel
theorem dX7_go_43 : decode cX7_go 43 = .ok (.if_icmp .gt 14, 3) := by decide +kernel
theorem dX7_go_46 : decode cX7_go 46 = .ok (.aload_n 0, 1) := by decide +kernel
theorem dX7_go_47 : decode cX7_go 47 = .ok (.invokevirtual 164, 3) := by decide +kernel
theorem dX7_go_50 : decode cX7_go 50 = .ok (.pop, 1) := by decide +kernel
theorem dX7_go_51 : decode cX7_go 51 = .ok (.iinc 2 1, 3) := by decide +kernel
theorem dX7_go_54 : decode cX7_go 54 = .ok (.goto (-13), 3) := by decide +kernel
theorem dX7_go_57 : decode cX7_go 57 = .ok (.iconst 0, 1) := by decide +kernel
theorem dX7_go_58 : decode cX7_go 58 = .ok (.istore_n 2, 1) := by decide +kernel
theorem dX7_go_59 : decode cX7_go 59 = .ok (.iconst 1, 1) := by decide +kernel
theorem dX7_go_60 : decode cX7_go 60 = .ok (.istore_n 3, 1) := by decide +kernel
theorem dX7_go_61 : decode cX7_go 61 = .ok (.iload_n 3, 1) := by decide +kernel
theorem dX7_go_62 : decode cX7_go 62 = .ok (.aload_n 0, 1) := by decide +kernel
theorem dX7_go_63 : decode cX7_go 63 = .ok (.getfield 20, 3) := by decide +kernel
theorem dX7_go_66 : decode cX7_go 66 = .ok (.iconst 0, 1) := by decide +kernel
theorem dX7_go_67 : decode cX7_go 67 = .ok (.iaload, 1) := by decide +kernel
theorem dX7_go_68 : decode cX7_go 68 = .ok (.if_icmp .gt 37, 3) := by decide +kernel
theorem dX7_go_71 : decode cX7_go 71 = .ok (.iload_n 2, 1) := by decide +kernel
theorem dX7_go_72 : decode cX7_go 72 = .ok (.aload_n 0, 1) := by decide +kernel
theorem dX7_go_73 : decode cX7_go 73 = .ok (.getfield 51, 3) := by decide +kernel
theorem dX7_go_76 : decode cX7_go 76 = .ok (.iload_n 3, 1) := by decide +kernel
theorem dX7_go_77 : decode cX7_go 77 = .ok (.iaload, 1) := by decide +kernel
theorem dX7_go_78 : decode cX7_go 78 = .ok (.aload_n 0, 1) := by decide +kernel
theorem dX7_go_79 : decode cX7_go 79 = .ok (.getfield 20, 3) := by decide +kernel
theorem dX7_go_82 : decode cX7_go 82 = .ok (.bipush 29, 2) := by decide +kernel
theorem dX7_go_84 : decode cX7_go 84 = .ok (.iload_n 3, 1) := by decide +kernel
theorem dX7_go_85 : decode cX7_go 85 = .ok (.iadd, 1) := by decide +kernel
theorem dX7_go_86 : decode cX7_go 86 = .ok (.iconst 1, 1) := by decide +kernel
theorem dX7_go_87 : decode cX7_go 87 = .ok (.isub, 1) := by decide +kernel
theorem dX7_go_88 : decode cX7_go 88 = .ok (.iaload, 1) := by decide +kernel
theorem dX7_go_89 : decode cX7_go 89 = .ok (.if_icmp .eq 7, 3) := by decide +kernel
theorem dX7_go_92 : decode cX7_go 92 = .ok (.iconst 1, 1) := by decide +kernel
theorem dX7_go_93 : decode cX7_go 93 = .ok (.goto 4, 3) := by decide +kernel
theorem dX7_go_96 : decode cX7_go 96 = .ok (.iconst 0, 1) := by decide +kernel
theorem dX7_go_97 : decode cX7_go 97 = .ok (.iadd, 1) := by decide +kernel
theorem dX7_go_98 : decode cX7_go 98 = .ok (.istore_n 2, 1) := by decide +kernel
theorem dX7_go_99 : decode cX7_go 99 = .ok (.iinc 3 1, 3) := by decide +kernel
theorem dX7_go_102 : decode cX7_go 102 = .ok (.goto (-41), 3) := by decide +kernel
theorem dX7_go_105 : decode cX7_go 105 = .ok (.aload_n 0, 1) := by decide +kernel
theorem dX7_go_106 : decode cX7_go 106 = .ok (.aload_n 0, 1) := by decide +kernel
theorem dX7_go_107 : decode cX7_go 107 = .ok (.getfield 20, 3) := by decide +kernel
theorem dX7_go_110 : decode cX7_go 110 = .ok (.iconst 1, 1) := by decide +kernel
theorem dX7_go_111 : decode cX7_go 111 = .ok (.invokevirtual 181, 3) := by decide +kernel
theorem dX7_go_114 : decode cX7_go 114 = .ok (.iload_n 2, 1) := by decide +kernel
theorem dX7_go_115 : decode cX7_go 115 = .ok (.ireturn, 1) := by decide +kernel
theorem dX7_paintOn_0 : decode cX7_paintOn 0 = .ok (.aload_n 1, 1) := by decide +kernel
theorem dX7_paintOn_1 : decode cX7_paintOn 1 = .ok (.bipush 29, 2) := by decide +kernel
theorem dX7_paintOn_3 : decode cX7_paintOn 3 = .ok (.iload_n 2, 1) := by decide +kernel
theorem dX7_paintOn_4 : decode cX7_paintOn 4 = .ok (.iadd, 1) := by decide +kernel
theorem dX7_paintOn_5 : decode cX7_paintOn 5 = .ok (.iconst 1, 1) := by decide +kernel
theorem dX7_paintOn_6 : decode cX7_paintOn 6 = .ok (.isub, 1) := by decide +kernel
theorem dX7_paintOn_7 : decode cX7_paintOn 7 = .ok (.iaload, 1) := by decide +kernel
theorem dX7_paintOn_8 : decode cX7_paintOn 8 = .ok (.istore 4, 2) := by decide +kernel
theorem dX7_paintOn_10 : decode cX7_paintOn 10 = .ok (.aload_n 1, 1) := by decide +kernel
theorem dX7_paintOn_11 : decode cX7_paintOn 11 = .ok (.bipush 28, 2) := by decide +kernel
theorem dX7_paintOn_13 : decode cX7_paintOn 13 = .ok (.iaload, 1) := by decide +kernel
theorem dX7_paintOn_14 : decode cX7_paintOn 14 = .ok (.ifCond .eq 9, 3) := by decide +kernel
theorem dX7_paintOn_17 : decode cX7_paintOn 17 = .ok (.iload 4, 2) := by decide +kernel
theorem dX7_paintOn_19 : decode cX7_paintOn 19 = .ok (.iload_n 3, 1) := by decide +kernel
theorem dX7_paintOn_20 : decode cX7_paintOn 20 = .ok (.if_icmp .ne 5, 3) := by decide +kernel
theorem dX7_paintOn_23 : decode cX7_paintOn 23 = .ok (.iconst 0, 1) := by decide +kernel
theorem dX7_paintOn_24 : decode cX7_paintOn 24 = .ok (.ireturn, 1) := by decide +kernel
theorem dX7_paintOn_25 : decode cX7_paintOn 25 = .ok (.aload_n 1, 1) := by decide +kernel
theorem dX7_paintOn_26 : decode cX7_paintOn 26 = .ok (.bipush 29, 2) := by decide +kernel
theorem dX7_paintOn_28 : decode cX7_paintOn 28 = .ok (.iload_n 2, 1) := by decide +kernel
theorem dX7_paintOn_29 : decode cX7_paintOn 29 = .ok (.iadd, 1) := by decide +kernel
theorem dX7_paintOn_30 : decode cX7_paintOn 30 = .ok (.iconst 1, 1) := by decide +kernel
theorem dX7_paintOn_31 : decode cX7_paintOn 31 = .ok (.isub, 1) := by decide +kernel
theorem dX7_paintOn_32 : decode cX7_paintOn 32 = .ok (.iload_n 3, 1) := by decide +kernel
theorem dX7_paintOn_33 : decode cX7_paintOn 33 = .ok (.iastore, 1) := by decide +kernel
theorem dX7_paintOn_34 : decode cX7_paintOn 34 = .ok (.aload_n 0, 1) := by decide +kernel
theorem dX7_paintOn_35 : decode cX7_paintOn 35 = .ok (.aload_n 1, 1) := by decide +kernel
theorem dX7_paintOn_36 : decode cX7_paintOn 36 = .ok (.invokevirtual 178, 3) := by decide +kernel
theorem dX7_paintOn_39 : decode cX7_paintOn 39 = .ok (.bipush (-9), 2) := by decide +kernel
theorem dX7_paintOn_41 : decode cX7_paintOn 41 = .ok (.if_icmp .eq 5, 3) := by decide +kernel
theorem dX7_paintOn_44 : decode cX7_paintOn 44 = .ok (.iconst 1, 1) := by decide +kernel
theorem dX7_paintOn_45 : decode cX7_paintOn 45 = .ok (.ireturn, 1) := by decide +kernel
theorem dX7_paintOn_46 : decode cX7_paintOn 46 = .ok (.aload_n 1, 1) := by decide +kernel
theorem dX7_paintOn_47 : decode cX7_paintOn 47 = .ok (.bipush 29, 2) := by decide +kernel
theorem dX7_paintOn_49 : decode cX7_paintOn 49 = .ok (.iload_n 2, 1) := by decide +kernel
theorem dX7_paintOn_50 : decode cX7_paintOn 50 = .ok (.iadd, 1) := by decide +kernel
theorem dX7_paintOn_51 : decode cX7_paintOn 51 = .ok (.iconst 1, 1) := by decide +kernel
theorem dX7_paintOn_52 : decode cX7_paintOn 52 = .ok (.isub, 1) := by decide +kernel
theorem dX7_paintOn_53 : decode cX7_paintOn 53 = .ok (.iload 4, 2) := by decide +kernel
theorem dX7_paintOn_55 : decode cX7_paintOn 55 = .ok (.iastore, 1) := by decide +kernel
theorem dX7_paintOn_56 : decode cX7_paintOn 56 = .ok (.iconst 0, 1) := by decide +kernel
theorem dX7_paintOn_57 : decode cX7_paintOn 57 = .ok (.ireturn, 1) := by decide +kernel
theorem dX7_paint_0 : decode cX7_paint 0 = .ok (.aload_n 0, 1) := by decide +kernel
theorem dX7_paint_1 : decode cX7_paint 1 = .ok (.iconst 0, 1) := by decide +kernel
theorem dX7_paint_2 : decode cX7_paint 2 = .ok (.putfield 67, 3) := by decide +kernel
theorem dX7_paint_5 : decode cX7_paint 5 = .ok (.aload_n 0, 1) := by decide +kernel
theorem dX7_paint_6 : decode cX7_paint 6 = .ok (.iload_n 1, 1) := by decide +kernel
theorem dX7_paint_7 : decode cX7_paint 7 = .ok (.invokevirtual 195, 3) := by decide +kernel
theorem dX7_paint_10 : decode cX7_paint 10 = .ok (.ifCond .eq 5, 3) := by decide +kernel
theorem dX7_paint_13 : decode cX7_paint 13 = .ok (.iconst (-1), 1) := by decide +kernel
theorem dX7_paint_14 : decode cX7_paint 14 = .ok (.ireturn, 1) := by decide +kernel
theorem dX7_paint_15 : decode cX7_paint 15 = .ok (.iload_n 2, 1) := by decide +kernel
theorem dX7_paint_16 : decode cX7_paint 16 = .ok (.i2l, 1) := by decide +kernel
theorem dX7_paint_17 : decode cX7_paint 17 = .ok (.lconst 0, 1) := by decide +kernel
theorem dX7_paint_18 : decode cX7_paint 18 = .ok (.aload_n 0, 1) := by decide +kernel
theorem dX7_paint_19 : decode cX7_paint 19 = .ok (.getfield 13, 3) := by decide +kernel
theorem dX7_paint_22 : decode cX7_paint 22 = .ok (.iconst 1, 1) := by decide +kernel
theorem dX7_paint_23 : decode cX7_paint 23 = .ok (.isub, 1) := by decide +kernel
theorem dX7_paint_24 : decode cX7_paint 24 = .ok (.i2l, 1) := by decide +kernel
theorem dX7_paint_25 : decode cX7_paint 25 = .ok (.invokestatic 72, 3) := by decide +kernel
theorem dX7_paint_28 : decode cX7_paint 28 = .ok (.ifCond .ne 6, 3) := by decide +kernel
theorem dX7_paint_31 : decode cX7_paint 31 = .ok (.bipush (-2), 2) := by decide +kernel
theorem dX7_paint_33 : decode cX7_paint 33 = .ok (.ireturn, 1) := by decide +kernel
theorem dX7_paint_34 : decode cX7_paint 34 = .ok (.aload_n 0, 1) := by decide +kernel
theorem dX7_paint_35 : decode cX7_paint 35 = .ok (.invokevirtual 208, 3) := by decide +kernel
theorem dX7_paint_38 : decode cX7_paint 38 = .ok (.aload_n 0, 1) := by decide +kernel
theorem dX7_paint_39 : decode cX7_paint 39 = .ok (.aload_n 0, 1) := by decide +kernel
theorem dX7_paint_40 : decode cX7_paint 40 = .ok (.getfield 23, 3) := by decide +kernel
theorem dX7_paint_43 : decode cX7_paint 43 = .ok (.iload_n 1, 1) := by decide +kernel
theorem dX7_paint_44 : decode cX7_paint 44 = .ok (.iload_n 2, 1) := by decide +kernel
theorem dX7_paint_45 : decode cX7_paint 45 = .ok (.invokevirtual 211, 3) := by decide +kernel
theorem dX7_paint_48 : decode cX7_paint 48 = .ok (.ifCond .ne 6, 3) := by decide +kernel
theorem dX7_paint_51 : decode cX7_paint 51 = .ok (.bipush (-3), 2) := by decide +kernel
theorem dX7_paint_53 : decode cX7_paint 53 = .ok (.ireturn, 1) := by decide +kernel
theorem dX7_paint_54 : decode cX7_paint 54 = .ok (.aload_n 0, 1) := by decide +kernel
theorem dX7_paint_55 : decode cX7_paint 55 = .ok (.invokevirtual 205, 3) := by decide +kernel
theorem dX7_paint_58 : decode cX7_paint 58 = .ok (.aload_n 0, 1) := by decide +kernel
theorem dX7_paint_59 : decode cX7_paint 59 = .ok (.aload_n 0, 1) := by decide +kernel
theorem dX7_paint_60 : decode cX7_paint 60 = .ok (.getfield 20, 3) := by decide +kernel
theorem dX7_paint_63 : decode cX7_paint 63 = .ok (.iload_n 1, 1) := by decide +kernel
theorem dX7_paint_64 : decode cX7_paint 64 = .ok (.iload_n 2, 1) := by decide +kernel
theorem dX7_paint_65 : decode cX7_paint 65 = .ok (.invokevirtual 211, 3) := by decide +kernel
theorem dX7_paint_68 : decode cX7_paint 68 = .ok (.pop, 1) := by decide +kernel
theorem dX7_paint_69 : decode cX7_paint 69 = .ok (.aload_n 0, 1) := by decide +kernel
theorem dX7_paint_70 : decode cX7_paint 70 = .ok (.aload_n 0, 1) := by decide +kernel
theorem dX7_paint_71 : decode cX7_paint 71 = .ok (.getfield 20, 3) := by decide +kernel
theorem dX7_paint_74 : decode cX7_paint 74 = .ok (.invokevirtual 178, 3) := by decide +kernel
theorem dX7_paint_77 : decode cX7_paint 77 = .ok (.ireturn, 1) := by decide +kernel
theorem dX7_reachOn_0 : decode cX7_reachOn 0 = .ok (.iload_n 2, 1) := by decide +kernel
theorem dX7_reachOn_1 : decode cX7_reachOn 1 = .ok (.aload_n 1, 1) := by decide +kernel
theorem dX7_reachOn_2 : decode cX7_reachOn 2 = .ok (.iconst 0, 1) := by decide +kernel
theorem dX7_reachOn_3 : decode cX7_reachOn 3 = .ok (.iaload, 1) := by decide +kernel
theorem dX7_reachOn_4 : decode cX7_reachOn 4 = .ok (.if_icmp .eq 12, 3) := by decide +kernel
theorem dX7_reachOn_7 : decode cX7_reachOn 7 = .ok (.aload_n 1, 1) := by decide +kernel
theorem dX7_reachOn_8 : decode cX7_reachOn 8 = .ok (.iconst 0, 1) := by decide +kernel
theorem dX7_reachOn_9 : decode cX7_reachOn 9 = .ok (.iload_n 2, 1) := by decide +kernel
theorem dX7_reachOn_10 : decode cX7_reachOn 10 = .ok (.iastore, 1) := by decide +kernel
theorem dX7_reachOn_11 : decode cX7_reachOn 11 = .ok (.aload_n 1, 1) := by decide +kernel
theorem dX7_reachOn_12 : decode cX7_reachOn 12 = .ok (.bipush 28, 2) := by decide +kernel
theorem dX7_reachOn_14 : decode cX7_reachOn 14 = .ok (.iconst 0, 1) := by decide +kernel
theorem dX7_reachOn_15 : decode cX7_reachOn 15 = .ok (.iastore, 1) := by decide +kernel
theorem dX7_reachOn_16 : decode cX7_reachOn 16 = .ok (.iload_n 2, 1) := by decide +kernel
theorem dX7_reachOn_17 : decode cX7_reachOn 17 = .ok (.istore_n 3, 1) := by decide +kernel
theorem dX7_reachOn_18 : decode cX7_reachOn 18 = .ok (.iload_n 3, 1) := by decide +kernel
theorem dX7_reachOn_19 : decode cX7_reachOn 19 = .ok (.bipush 10, 2) := by decide +kernel
theorem dX7_reachOn_21 : decode cX7_reachOn 21 = .ok (.if_icmp .ge 16, 3) := by decide +kernel
theorem dX7_reachOn_24 : decode cX7_reachOn 24 = .ok (.aload_n 1, 1) := by decide +kernel
theorem dX7_reachOn_25 : decode cX7_reachOn 25 = .ok (.bipush 18, 2) := by decide +kernel
theorem dX7_reachOn_27 : decode cX7_reachOn 27 = .ok (.iload_n 3, 1) := by decide +kernel
theorem dX7_reachOn_28 : decode cX7_reachOn 28 = .ok (.iadd, 1) := by decide +kernel
theorem dX7_reachOn_29 : decode cX7_reachOn 29 = .ok (.iconst 0, 1) := by decide +kernel
theorem dX7_reachOn_30 : decode cX7_reachOn 30 = .ok (.iastore, 1) := by decide +kernel
theorem dX7_reachOn_31 : decode cX7_reachOn 31 = .ok (.iinc 3 1, 3) := by decide +kernel
theorem dX7_reachOn_34 : decode cX7_reachOn 34 = .ok (.goto (-16), 3) := by decide +kernel
theorem dX7_reachOn_37 : decode cX7_reachOn 37 = .ok (.aload_n 0, 1) := by decide +kernel
theorem dX7_reachOn_38 : decode cX7_reachOn 38 = .ok (.aload_n 1, 1) := by decide +kernel
theorem dX7_reachOn_39 : decode cX7_reachOn 39 = .ok (.invokevirtual 111, 3) := by decide +kernel
theorem dX7_reachOn_42 : decode cX7_reachOn 42 = .ok (.return_, 1) := by decide +kernel
theorem dX7_reach_0 : decode cX7_reach 0 = .ok (.aload_n 0, 1) := by decide +kernel
theorem dX7_reach_1 : decode cX7_reach 1 = .ok (.iconst 0, 1) := by decide +kernel
theorem dX7_reach_2 : decode cX7_reach 2 = .ok (.putfield 67, 3) := by decide +kernel
theorem dX7_reach_5 : decode cX7_reach 5 = .ok (.iload_n 1, 1) := by decide +kernel
theorem dX7_reach_6 : decode cX7_reach 6 = .ok (.i2l, 1) := by decide +kernel
theorem dX7_reach_7 : decode cX7_reach 7 = .ok (.lconst 1, 1) := by decide +kernel
theorem dX7_reach_8 : decode cX7_reach 8 = .ok (.ldc2_w 215, 3) := by decide +kernel
theorem dX7_reach_11 : decode cX7_reach 11 = .ok (.invokestatic 72, 3) := by decide +kernel
theorem dX7_reach_14 : decode cX7_reach 14 = .ok (.ifCond .ne 6, 3) := by decide +kernel
theorem dX7_reach_17 : decode cX7_reach 17 = .ok (.bipush (-2), 2) := by decide +kernel
theorem dX7_reach_19 : decode cX7_reach 19 = .ok (.ireturn, 1) := by decide +kernel
theorem dX7_reach_20 : decode cX7_reach 20 = .ok (.aload_n 0, 1) := by decide +kernel
theorem dX7_reach_21 : decode cX7_reach 21 = .ok (.invokevirtual 205, 3) := by decide +kernel
theorem dX7_reach_24 : decode cX7_reach 24 = .ok (.aload_n 0, 1) := by decide +kernel
theorem dX7_reach_25 : decode cX7_reach 25 = .ok (.aload_n 0, 1) := by decide +kernel
theorem dX7_reach_26 : decode cX7_reach 26 = .ok (.getfield 20, 3) := by decide +kernel
theorem dX7_reach_29 : decode cX7_reach 29 = .ok (.iload_n 1, 1) := by decide +kernel
theorem dX7_reach_30 : decode cX7_reach 30 = .ok (.invokevirtual 217, 3) := by decide +kernel
theorem dX7_reach_33 : decode cX7_reach 33 = .ok (.aload_n 0, 1) := by decide +kernel
theorem dX7_reach_34 : decode cX7_reach 34 = .ok (.aload_n 0, 1) := by decide +kernel
theorem dX7_reach_35 : decode cX7_reach 35 = .ok (.getfield 20, 3) := by decide +kernel
theorem dX7_reach_38 : decode cX7_reach 38 = .ok (.invokevirtual 118, 3) := by decide +kernel
theorem dX7_reach_41 : decode cX7_reach 41 = .ok (.ireturn, 1) := by decide +kernel
theorem dX7_isFactor_0 : decode cX7_isFactor 0 = .ok (.iload_n 0, 1) := by decide +kernel
theorem dX7_isFactor_1 : decode cX7_isFactor 1 = .ok (.i2l, 1) := by decide +kernel
theorem dX7_isFactor_2 : decode cX7_isFactor 2 = .ok (.ldc2_w 220, 3) := by decide +kernel
theorem dX7_isFactor_5 : decode cX7_isFactor 5 = .ok (.ldc2_w 82, 3) := by decide +kernel
theorem dX7_isFactor_8 : decode cX7_isFactor 8 = .ok (.invokestatic 72, 3) := by decide +kernel
theorem dX7_isFactor_11 : decode cX7_isFactor 11 = .ok (.ifCond .eq 11, 3) := by decide +kernel
theorem dX7_isFactor_14 : decode cX7_isFactor 14 = .ok (.iload_n 0, 1) := by decide +kernel
theorem dX7_isFactor_15 : decode cX7_isFactor 15 = .ok (.ifCond .eq 7, 3) := by decide +kernel
theorem dX7_isFactor_18 : decode cX7_isFactor 18 = .ok (.iconst 1, 1) := by decide +kernel
theorem dX7_isFactor_19 : decode cX7_isFactor 19 = .ok (.goto 4, 3) := by decide +kernel
theorem dX7_isFactor_22 : decode cX7_isFactor 22 = .ok (.iconst 0, 1) := by decide +kernel
theorem dX7_isFactor_23 : decode cX7_isFactor 23 = .ok (.ireturn, 1) := by decide +kernel
theorem dX7_add_0 : decode cX7_add 0 = .ok (.aload_n 0, 1) := by decide +kernel
theorem dX7_add_1 : decode cX7_add 1 = .ok (.iconst 0, 1) := by decide +kernel
theorem dX7_add_2 : decode cX7_add 2 = .ok (.putfield 67, 3) := by decide +kernel
theorem dX7_add_5 : decode cX7_add 5 = .ok (.iload_n 1, 1) := by decide +kernel
theorem dX7_add_6 : decode cX7_add 6 = .ok (.invokestatic 222, 3) := by decide +kernel
theorem dX7_add_9 : decode cX7_add 9 = .ok (.ifCond .eq 28, 3) := by decide +kernel
theorem dX7_add_12 : decode cX7_add 12 = .ok (.iload_n 2, 1) := by decide +kernel
theorem dX7_add_13 : decode cX7_add 13 = .ok (.invokestatic 222, 3) := by decide +kernel
theorem dX7_add_16 : decode cX7_add 16 = .ok (.ifCond .eq 21, 3) := by decide +kernel
theorem dX7_add_19 : decode cX7_add 19 = .ok (.iload_n 3, 1) := by decide +kernel
theorem dX7_add_20 : decode cX7_add 20 = .ok (.invokestatic 222, 3) := by decide +kernel
theorem dX7_add_23 : decode cX7_add 23 = .ok (.ifCond .eq 14, 3) := by decide +kernel
theorem dX7_add_26 : decode cX7_add 26 = .ok (.iload 4, 2) := by decide +kernel
theorem dX7_add_28 : decode cX7_add 28 = .ok (.i2l, 1) := by decide +kernel
theorem dX7_add_29 : decode cX7_add 29 = .ok (.lconst 0, 1) := by decide +kernel
theorem dX7_add_30 : decode cX7_add 30 = .ok (.lconst 1, 1) := by decide +kernel
theorem dX7_add_31 : decode cX7_add 31 = .ok (.invokestatic 72, 3) := by decide +kernel
theorem dX7_add_34 : decode cX7_add 34 = .ok (.ifCond .ne 6, 3) := by decide +kernel
theorem dX7_add_37 : decode cX7_add 37 = .ok (.bipush (-2), 2) := by decide +kernel
theorem dX7_add_39 : decode cX7_add 39 = .ok (.ireturn, 1) := by decide +kernel
theorem dX7_add_40 : decode cX7_add 40 = .ok (.aload_n 0, 1) := by decide +kernel
theorem dX7_add_41 : decode cX7_add 41 = .ok (.getfield 20, 3) := by decide +kernel
theorem dX7_add_44 : decode cX7_add 44 = .ok (.iconst 1, 1) := by decide +kernel
theorem dX7_add_45 : decode cX7_add 45 = .ok (.iaload, 1) := by decide +kernel
theorem dX7_add_46 : decode cX7_add 46 = .ok (.iconst 4, 1) := by decide +kernel
theorem dX7_add_47 : decode cX7_add 47 = .ok (.if_icmp .ne 6, 3) := by decide +kernel
theorem dX7_add_50 : decode cX7_add 50 = .ok (.bipush (-4), 2) := by decide +kernel
theorem dX7_add_52 : decode cX7_add 52 = .ok (.ireturn, 1) := by decide +kernel
theorem dX7_add_53 : decode cX7_add 53 = .ok (.aload_n 0, 1) := by decide +kernel
theorem dX7_add_54 : decode cX7_add 54 = .ok (.invokevirtual 205, 3) := by decide +kernel
theorem dX7_add_57 : decode cX7_add 57 = .ok (.iconst 2, 1) := by decide +kernel
theorem dX7_add_58 : decode cX7_add 58 = .ok (.iconst 4, 1) := by decide +kernel
theorem dX7_add_59 : decode cX7_add 59 = .ok (.aload_n 0, 1) := by decide +kernel
theorem dX7_add_60 : decode cX7_add 60 = .ok (.getfield 20, 3) := by decide +kernel
theorem dX7_add_63 : decode cX7_add 63 = .ok (.iconst 1, 1) := by decide +kernel
theorem dX7_add_64 : decode cX7_add 64 = .ok (.iaload, 1) := by decide +kernel
theorem dX7_add_65 : decode cX7_add 65 = .ok (.imul, 1) := by decide +kernel
theorem dX7_add_66 : decode cX7_add 66 = .ok (.iadd, 1) := by decide +kernel
theorem dX7_add_67 : decode cX7_add 67 = .ok (.istore 5, 2) := by decide +kernel
theorem dX7_add_69 : decode cX7_add 69 = .ok (.aload_n 0, 1) := by decide +kernel
theorem dX7_add_70 : decode cX7_add 70 = .ok (.getfield 20, 3) := by decide +kernel
theorem dX7_add_73 : decode cX7_add 73 = .ok (.iload 5, 2) := by decide +kernel
theorem dX7_add_75 : decode cX7_add 75 = .ok (.iload_n 1, 1) := by decide +kernel
theorem dX7_add_76 : decode cX7_add 76 = .ok (.iastore, 1) := by decide +kernel
theorem dX7_add_77 : decode cX7_add 77 = .ok (.aload_n 0, 1) := by decide +kernel
theorem dX7_add_78 : decode cX7_add 78 = .ok (.getfield 20, 3) := by decide +kernel
theorem dX7_add_81 : decode cX7_add 81 = .ok (.iload 5, 2) := by decide +kernel
theorem dX7_add_83 : decode cX7_add 83 = .ok (.iconst 1, 1) := by decide +kernel
theorem dX7_add_84 : decode cX7_add 84 = .ok (.iadd, 1) := by decide +kernel
theorem dX7_add_85 : decode cX7_add 85 = .ok (.iload_n 2, 1) := by decide +kernel
theorem dX7_add_86 : decode cX7_add 86 = .ok (.iastore, 1) := by decide +kernel
theorem dX7_add_87 : decode cX7_add 87 = .ok (.aload_n 0, 1) := by decide +kernel
theorem dX7_add_88 : decode cX7_add 88 = .ok (.getfield 20, 3) := by decide +kernel
theorem dX7_add_91 : decode cX7_add 91 = .ok (.iload 5, 2) := by decide +kernel
theorem dX7_add_93 : decode cX7_add 93 = .ok (.iconst 2, 1) := by decide +kernel
theorem dX7_add_94 : decode cX7_add 94 = .ok (.iadd, 1) := by decide +kernel
theorem dX7_add_95 : decode cX7_add 95 = .ok (.iload_n 3, 1) := by decide +kernel
theorem dX7_add_96 : decode cX7_add 96 = .ok (.iastore, 1) := by decide +kernel
theorem dX7_add_97 : decode cX7_add 97 = .ok (.aload_n 0, 1) := by decide +kernel
theorem dX7_add_98 : decode cX7_add 98 = .ok (.getfield 20, 3) := by decide +kernel
theorem dX7_add_101 : decode cX7_add 101 = .ok (.iload 5, 2) := by decide +kernel
theorem dX7_add_103 : decode cX7_add 103 = .ok (.iconst 3, 1) := by decide +kernel
theorem dX7_add_104 : decode cX7_add 104 = .ok (.iadd, 1) := by decide +kernel
theorem dX7_add_105 : decode cX7_add 105 = .ok (.iload 4, 2) := by decide +kernel
theorem dX7_add_107 : decode cX7_add 107 = .ok (.iastore, 1) := by decide +kernel
theorem dX7_add_108 : decode cX7_add 108 = .ok (.aload_n 0, 1) := by decide +kernel
theorem dX7_add_109 : decode cX7_add 109 = .ok (.getfield 20, 3) := by decide +kernel
theorem dX7_add_112 : decode cX7_add 112 = .ok (.iconst 1, 1) := by decide +kernel
theorem dX7_add_113 : decode cX7_add 113 = .ok (.dup2, 1) := by decide +kernel
theorem dX7_add_114 : decode cX7_add 114 = .ok (.iaload, 1) := by decide +kernel
theorem dX7_add_115 : decode cX7_add 115 = .ok (.iconst 1, 1) := by decide +kernel
theorem dX7_add_116 : decode cX7_add 116 = .ok (.iadd, 1) := by decide +kernel
theorem dX7_add_117 : decode cX7_add 117 = .ok (.iastore, 1) := by decide +kernel
theorem dX7_add_118 : decode cX7_add 118 = .ok (.aload_n 0, 1) := by decide +kernel
theorem dX7_add_119 : decode cX7_add 119 = .ok (.aload_n 0, 1) := by decide +kernel
theorem dX7_add_120 : decode cX7_add 120 = .ok (.getfield 20, 3) := by decide +kernel
theorem dX7_add_123 : decode cX7_add 123 = .ok (.invokevirtual 111, 3) := by decide +kernel
theorem dX7_add_126 : decode cX7_add 126 = .ok (.aload_n 0, 1) := by decide +kernel
theorem dX7_add_127 : decode cX7_add 127 = .ok (.aload_n 0, 1) := by decide +kernel
theorem dX7_add_128 : decode cX7_add 128 = .ok (.getfield 20, 3) := by decide +kernel
theorem dX7_add_131 : decode cX7_add 131 = .ok (.invokevirtual 118, 3) := by decide +kernel
theorem dX7_add_134 : decode cX7_add 134 = .ok (.ireturn, 1) := by decide +kernel
theorem dX7_drop_0 : decode cX7_drop 0 = .ok (.aload_n 0, 1) := by decide +kernel
theorem dX7_drop_1 : decode cX7_drop 1 = .ok (.iconst 0, 1) := by decide +kernel
theorem dX7_drop_2 : decode cX7_drop 2 = .ok (.putfield 67, 3) := by decide +kernel
theorem dX7_drop_5 : decode cX7_drop 5 = .ok (.aload_n 0, 1) := by decide +kernel
theorem dX7_drop_6 : decode cX7_drop 6 = .ok (.getfield 20, 3) := by decide +kernel
theorem dX7_drop_9 : decode cX7_drop 9 = .ok (.iconst 1, 1) := by decide +kernel
theorem dX7_drop_10 : decode cX7_drop 10 = .ok (.iaload, 1) := by decide +kernel
theorem dX7_drop_11 : decode cX7_drop 11 = .ok (.ifCond .ne 6, 3) := by decide +kernel
theorem dX7_drop_14 : decode cX7_drop 14 = .ok (.bipush (-3), 2) := by decide +kernel
theorem dX7_drop_16 : decode cX7_drop 16 = .ok (.ireturn, 1) := by decide +kernel
theorem dX7_drop_17 : decode cX7_drop 17 = .ok (.aload_n 0, 1) := by decide +kernel
theorem dX7_drop_18 : decode cX7_drop 18 = .ok (.invokevirtual 205, 3) := by decide +kernel
theorem dX7_drop_21 : decode cX7_drop 21 = .ok (.aload_n 0, 1) := by decide +kernel
theorem dX7_drop_22 : decode cX7_drop 22 = .ok (.getfield 20, 3) := by decide +kernel
theorem dX7_drop_25 : decode cX7_drop 25 = .ok (.iconst 1, 1) := by decide +kernel
theorem dX7_drop_26 : decode cX7_drop 26 = .ok (.dup2, 1) := by decide +kernel
theorem dX7_drop_27 : decode cX7_drop 27 = .ok (.iaload, 1) := by decide +kernel
theorem dX7_drop_28 : decode cX7_drop 28 = .ok (.iconst 1, 1) := by decide +kernel
theorem dX7_drop_29 : decode cX7_drop 29 = .ok (.isub, 1) := by decide +kernel
theorem dX7_drop_30 : decode cX7_drop 30 = .ok (.iastore, 1) := by decide +kernel
theorem dX7_drop_31 : decode cX7_drop 31 = .ok (.aload_n 0, 1) := by decide +kernel
theorem dX7_drop_32 : decode cX7_drop 32 = .ok (.aload_n 0, 1) := by decide +kernel
theorem dX7_drop_33 : decode cX7_drop 33 = .ok (.getfield 20, 3) := by decide +kernel
theorem dX7_drop_36 : decode cX7_drop 36 = .ok (.invokevirtual 111, 3) := by decide +kernel
theorem dX7_drop_39 : decode cX7_drop 39 = .ok (.aload_n 0, 1) := by decide +kernel
theorem dX7_drop_40 : decode cX7_drop 40 = .ok (.aload_n 0, 1) := by decide +kernel
theorem dX7_drop_41 : decode cX7_drop 41 = .ok (.getfield 20, 3) := by decide +kernel
theorem dX7_drop_44 : decode cX7_drop 44 = .ok (.invokevirtual 118, 3) := by decide +kernel
theorem dX7_drop_47 : decode cX7_drop 47 = .ok (.ireturn, 1) := by decide +kernel
theorem dX7_pin_0 : decode cX7_pin 0 = .ok (.aload_n 0, 1) := by decide +kernel
theorem dX7_pin_1 : decode cX7_pin 1 = .ok (.iconst 0, 1) := by decide +kernel
theorem dX7_pin_2 : decode cX7_pin 2 = .ok (.putfield 67, 3) := by decide +kernel
theorem dX7_pin_5 : decode cX7_pin 5 = .ok (.aload_n 0, 1) := by decide +kernel
theorem dX7_pin_6 : decode cX7_pin 6 = .ok (.iload_n 1, 1) := by decide +kernel
theorem dX7_pin_7 : decode cX7_pin 7 = .ok (.invokevirtual 195, 3) := by decide +kernel
theorem dX7_pin_10 : decode cX7_pin 10 = .ok (.ifCond .eq 5, 3) := by decide +kernel
theorem dX7_pin_13 : decode cX7_pin 13 = .ok (.iconst (-1), 1) := by decide +kernel
theorem dX7_pin_14 : decode cX7_pin 14 = .ok (.ireturn, 1) := by decide +kernel
theorem dX7_pin_15 : decode cX7_pin 15 = .ok (.iload_n 2, 1) := by decide +kernel
theorem dX7_pin_16 : decode cX7_pin 16 = .ok (.i2l, 1) := by decide +kernel
theorem dX7_pin_17 : decode cX7_pin 17 = .ok (.lconst 0, 1) := by decide +kernel
theorem dX7_pin_18 : decode cX7_pin 18 = .ok (.aload_n 0, 1) := by decide +kernel
theorem dX7_pin_19 : decode cX7_pin 19 = .ok (.getfield 13, 3) := by decide +kernel
theorem dX7_pin_22 : decode cX7_pin 22 = .ok (.iconst 1, 1) := by decide +kernel
theorem dX7_pin_23 : decode cX7_pin 23 = .ok (.isub, 1) := by decide +kernel
theorem dX7_pin_24 : decode cX7_pin 24 = .ok (.i2l, 1) := by decide +kernel
theorem dX7_pin_25 : decode cX7_pin 25 = .ok (.invokestatic 72, 3) := by decide +kernel
theorem dX7_pin_28 : decode cX7_pin 28 = .ok (.ifCond .ne 12, 3) := by decide +kernel
theorem dX7_pin_31 : decode cX7_pin 31 = .ok (.iload_n 2, 1) := by decide +kernel
theorem dX7_pin_32 : decode cX7_pin 32 = .ok (.bipush 9, 2) := by decide +kernel
theorem dX7_pin_34 : decode cX7_pin 34 = .ok (.if_icmp .eq 6, 3) := by decide +kernel
theorem dX7_pin_37 : decode cX7_pin 37 = .ok (.bipush (-2), 2) := by decide +kernel
theorem dX7_pin_39 : decode cX7_pin 39 = .ok (.ireturn, 1) := by decide +kernel
theorem dX7_pin_40 : decode cX7_pin 40 = .ok (.aload_n 0, 1) := by decide +kernel
theorem dX7_pin_41 : decode cX7_pin 41 = .ok (.invokevirtual 205, 3) := by decide +kernel
theorem dX7_pin_44 : decode cX7_pin 44 = .ok (.aload_n 0, 1) := by decide +kernel
theorem dX7_pin_45 : decode cX7_pin 45 = .ok (.getfield 20, 3) := by decide +kernel
theorem dX7_pin_48 : decode cX7_pin 48 = .ok (.bipush 18, 2) := by decide +kernel
theorem dX7_pin_50 : decode cX7_pin 50 = .ok (.iload_n 1, 1) := by decide +kernel
theorem dX7_pin_51 : decode cX7_pin 51 = .ok (.iadd, 1) := by decide +kernel
theorem dX7_pin_52 : decode cX7_pin 52 = .ok (.iconst 1, 1) := by decide +kernel
theorem dX7_pin_53 : decode cX7_pin 53 = .ok (.isub, 1) := by decide +kernel
theorem dX7_pin_54 : decode cX7_pin 54 = .ok (.iload_n 2, 1) := by decide +kernel
theorem dX7_pin_55 : decode cX7_pin 55 = .ok (.bipush 9, 2) := by decide +kernel
theorem dX7_pin_57 : decode cX7_pin 57 = .ok (.if_icmp .ne 7, 3) := by decide +kernel
theorem dX7_pin_60 : decode cX7_pin 60 = .ok (.iconst 0, 1) := by decide +kernel
theorem dX7_pin_61 : decode cX7_pin 61 = .ok (.goto 6, 3) := by decide +kernel
theorem dX7_pin_64 : decode cX7_pin 64 = .ok (.iload_n 2, 1) := by decide +kernel
theorem dX7_pin_65 : decode cX7_pin 65 = .ok (.iconst 1, 1) := by decide +kernel
theorem dX7_pin_66 : decode cX7_pin 66 = .ok (.iadd, 1) := by decide +kernel
theorem dX7_pin_67 : decode cX7_pin 67 = .ok (.iastore, 1) := by decide +kernel
theorem dX7_pin_68 : decode cX7_pin 68 = .ok (.aload_n 0, 1) := by decide +kernel
theorem dX7_pin_69 : decode cX7_pin 69 = .ok (.aload_n 0, 1) := by decide +kernel
theorem dX7_pin_70 : decode cX7_pin 70 = .ok (.getfield 20, 3) := by decide +kernel
theorem dX7_pin_73 : decode cX7_pin 73 = .ok (.invokevirtual 111, 3) := by decide +kernel
theorem dX7_pin_76 : decode cX7_pin 76 = .ok (.aload_n 0, 1) := by decide +kernel
theorem dX7_pin_77 : decode cX7_pin 77 = .ok (.aload_n 0, 1) := by decide +kernel
theorem dX7_pin_78 : decode cX7_pin 78 = .ok (.getfield 20, 3) := by decide +kernel
theorem dX7_pin_81 : decode cX7_pin 81 = .ok (.invokevirtual 118, 3) := by decide +kernel
theorem dX7_pin_84 : decode cX7_pin 84 = .ok (.ireturn, 1) := by decide +kernel
theorem dX7_undo_0 : decode cX7_undo 0 = .ok (.aload_n 0, 1) := by decide +kernel
theorem dX7_undo_1 : decode cX7_undo 1 = .ok (.iconst 0, 1) := by decide +kernel
theorem dX7_undo_2 : decode cX7_undo 2 = .ok (.putfield 67, 3) := by decide +kernel
theorem dX7_undo_5 : decode cX7_undo 5 = .ok (.aload_n 0, 1) := by decide +kernel
theorem dX7_undo_6 : decode cX7_undo 6 = .ok (.getfield 115, 3) := by decide +kernel
theorem dX7_undo_9 : decode cX7_undo 9 = .ok (.ifCond .ne 6, 3) := by decide +kernel
theorem dX7_undo_12 : decode cX7_undo 12 = .ok (.bipush (-3), 2) := by decide +kernel
theorem dX7_undo_14 : decode cX7_undo 14 = .ok (.ireturn, 1) := by decide +kernel
theorem dX7_undo_15 : decode cX7_undo 15 = .ok (.aload_n 0, 1) := by decide +kernel
theorem dX7_undo_16 : decode cX7_undo 16 = .ok (.dup, 1) := by decide +kernel
theorem dX7_undo_17 : decode cX7_undo 17 = .ok (.getfield 115, 3) := by decide +kernel
theorem dX7_undo_20 : decode cX7_undo 20 = .ok (.iconst 1, 1) := by decide +kernel
theorem dX7_undo_21 : decode cX7_undo 21 = .ok (.isub, 1) := by decide +kernel
theorem dX7_undo_22 : decode cX7_undo 22 = .ok (.putfield 115, 3) := by decide +kernel
theorem dX7_undo_25 : decode cX7_undo 25 = .ok (.iconst 0, 1) := by decide +kernel
theorem dX7_undo_26 : decode cX7_undo 26 = .ok (.istore_n 1, 1) := by decide +kernel
theorem dX7_undo_27 : decode cX7_undo 27 = .ok (.iload_n 1, 1) := by decide +kernel
theorem dX7_undo_28 : decode cX7_undo 28 = .ok (.bipush 39, 2) := by decide +kernel
theorem dX7_undo_30 : decode cX7_undo 30 = .ok (.if_icmp .ge 29, 3) := by decide +kernel
theorem dX7_undo_33 : decode cX7_undo 33 = .ok (.aload_n 0, 1) := by decide +kernel
theorem dX7_undo_34 : decode cX7_undo 34 = .ok (.getfield 20, 3) := by decide +kernel
theorem dX7_undo_37 : decode cX7_undo 37 = .ok (.iload_n 1, 1) := by decide +kernel
theorem dX7_undo_38 : decode cX7_undo 38 = .ok (.aload_n 0, 1) := by decide +kernel
theorem dX7_undo_39 : decode cX7_undo 39 = .ok (.getfield 26, 3) := by decide +kernel
theorem dX7_undo_42 : decode cX7_undo 42 = .ok (.bipush 39, 2) := by decide +kernel
theorem dX7_undo_44 : decode cX7_undo 44 = .ok (.aload_n 0, 1) := by decide +kernel
theorem dX7_undo_45 : decode cX7_undo 45 = .ok (.getfield 115, 3) := by decide +kernel
theorem dX7_undo_48 : decode cX7_undo 48 = .ok (.imul, 1) := by decide +kernel
theorem dX7_undo_49 : decode cX7_undo 49 = .ok (.iload_n 1, 1) := by decide +kernel
theorem dX7_undo_50 : decode cX7_undo 50 = .ok (.iadd, 1) := by decide +kernel
theorem dX7_undo_51 : decode cX7_undo 51 = .ok (.iaload, 1) := by decide +kernel
theorem dX7_undo_52 : decode cX7_undo 52 = .ok (.iastore, 1) := by decide +kernel
theorem dX7_undo_53 : decode cX7_undo 53 = .ok (.iinc 1 1, 3) := by decide +kernel
theorem dX7_undo_56 : decode cX7_undo 56 = .ok (.goto (-29), 3) := by decide +kernel
theorem dX7_undo_59 : decode cX7_undo 59 = .ok (.aload_n 0, 1) := by decide +kernel
theorem dX7_undo_60 : decode cX7_undo 60 = .ok (.getfield 115, 3) := by decide +kernel
theorem dX7_undo_63 : decode cX7_undo 63 = .ok (.ireturn, 1) := by decide +kernel
theorem dX7_least_0 : decode cX7_least 0 = .ok (.iconst 1, 1) := by decide +kernel
theorem dX7_least_1 : decode cX7_least 1 = .ok (.istore_n 2, 1) := by decide +kernel
theorem dX7_least_2 : decode cX7_least 2 = .ok (.iload_n 2, 1) := by decide +kernel
theorem dX7_least_3 : decode cX7_least 3 = .ok (.bipush 10, 2) := by decide +kernel
theorem dX7_least_5 : decode cX7_least 5 = .ok (.if_icmp .gt 29, 3) := by decide +kernel
theorem dX7_least_8 : decode cX7_least 8 = .ok (.aload_n 0, 1) := by decide +kernel
theorem dX7_least_9 : decode cX7_least 9 = .ok (.aload_n 1, 1) := by decide +kernel
theorem dX7_least_10 : decode cX7_least 10 = .ok (.aload_n 1, 1) := by decide +kernel
theorem dX7_least_11 : decode cX7_least 11 = .ok (.invokestatic 157, 3) := by decide +kernel
theorem dX7_least_14 : decode cX7_least 14 = .ok (.iload_n 2, 1) := by decide +kernel
theorem dX7_least_15 : decode cX7_least 15 = .ok (.iconst 0, 1) := by decide +kernel
theorem dX7_least_16 : decode cX7_least 16 = .ok (.invokevirtual 160, 3) := by decide +kernel
theorem dX7_least_19 : decode cX7_least 19 = .ok (.aload_n 0, 1) := by decide +kernel
theorem dX7_least_20 : decode cX7_least 20 = .ok (.invokevirtual 164, 3) := by decide +kernel
theorem dX7_least_23 : decode cX7_least 23 = .ok (.ifCond .ne 5, 3) := by decide +kernel
theorem dX7_least_26 : decode cX7_least 26 = .ok (.iload_n 2, 1) := by decide +kernel
theorem dX7_least_27 : decode cX7_least 27 = .ok (.ireturn, 1) := by decide +kernel
theorem dX7_least_28 : decode cX7_least 28 = .ok (.iinc 2 1, 3) := by decide +kernel
theorem dX7_least_31 : decode cX7_least 31 = .ok (.goto (-29), 3) := by decide +kernel
theorem dX7_least_34 : decode cX7_least 34 = .ok (.bipush (-9), 2) := by decide +kernel
theorem dX7_least_36 : decode cX7_least 36 = .ok (.ireturn, 1) := by decide +kernel
theorem dX7_forced_0 : decode cX7_forced 0 = .ok (.iconst 0, 1) := by decide +kernel
theorem dX7_forced_1 : decode cX7_forced 1 = .ok (.istore_n 2, 1) := by decide +kernel
theorem dX7_forced_2 : decode cX7_forced 2 = .ok (.iconst 1, 1) := by decide +kernel
theorem dX7_forced_3 : decode cX7_forced 3 = .ok (.istore_n 3, 1) := by decide +kernel
theorem dX7_forced_4 : decode cX7_forced 4 = .ok (.iload_n 3, 1) := by decide +kernel
theorem dX7_forced_5 : decode cX7_forced 5 = .ok (.aload_n 1, 1) := by decide +kernel
theorem dX7_forced_6 : decode cX7_forced 6 = .ok (.iconst 0, 1) := by decide +kernel
theorem dX7_forced_7 : decode cX7_forced 7 = .ok (.iaload, 1) := by decide +kernel
theorem dX7_forced_8 : decode cX7_forced 8 = .ok (.if_icmp .gt 32, 3) := by decide +kernel
theorem dX7_forced_11 : decode cX7_forced 11 = .ok (.iload_n 2, 1) := by decide +kernel
theorem dX7_forced_12 : decode cX7_forced 12 = .ok (.aload_n 0, 1) := by decide +kernel
theorem dX7_forced_13 : decode cX7_forced 13 = .ok (.aload_n 1, 1) := by decide +kernel
theorem dX7_forced_14 : decode cX7_forced 14 = .ok (.iload_n 3, 1) := by decide +kernel
theorem dX7_forced_15 : decode cX7_forced 15 = .ok (.invokevirtual 198, 3) := by decide +kernel
theorem dX7_forced_18 : decode cX7_forced 18 = .ok (.invokestatic 201, 3) := by decide +kernel
theorem dX7_forced_21 : decode cX7_forced 21 = .ok (.iconst 1, 1) := by decide +kernel
theorem dX7_forced_22 : decode cX7_forced 22 = .ok (.if_icmp .ne 9, 3) := by decide +kernel
theorem dX7_forced_25 : decode cX7_forced 25 = .ok (.iconst 1, 1) := by decide +kernel
theorem dX7_forced_26 : decode cX7_forced 26 = .ok (.iload_n 3, 1) := by decide +kernel
theorem dX7_forced_27 : decode cX7_forced 27 = .ok (.ishl, 1) := by decide +kernel
theorem dX7_forced_28 : decode cX7_forced 28 = .ok (.goto 4, 3) := by decide +kernel
theorem dX7_forced_31 : decode cX7_forced 31 = .ok (.iconst 0, 1) := by decide +kernel
theorem dX7_forced_32 : decode cX7_forced 32 = .ok (.ior, 1) := by decide +kernel
theorem dX7_forced_33 : decode cX7_forced 33 = .ok (.istore_n 2, 1) := by decide +kernel
theorem dX7_forced_34 : decode cX7_forced 34 = .ok (.iinc 3 1, 3) := by decide +kernel
theorem dX7_forced_37 : decode cX7_forced 37 = .ok (.goto (-33), 3) := by decide +kernel
theorem dX7_forced_40 : decode cX7_forced 40 = .ok (.iload_n 2, 1) := by decide +kernel
theorem dX7_forced_41 : decode cX7_forced 41 = .ok (.ireturn, 1) := by decide +kernel
theorem dX7_paints_0 : decode cX7_paints 0 = .ok (.iconst 0, 1) := by decide +kernel
theorem dX7_paints_1 : decode cX7_paints 1 = .ok (.istore_n 1, 1) := by decide +kernel
theorem dX7_paints_2 : decode cX7_paints 2 = .ok (.iconst 1, 1) := by decide +kernel
theorem dX7_paints_3 : decode cX7_paints 3 = .ok (.istore_n 2, 1) := by decide +kernel
theorem dX7_paints_4 : decode cX7_paints 4 = .ok (.iload_n 2, 1) := by decide +kernel
theorem dX7_paints_5 : decode cX7_paints 5 = .ok (.aload_n 0, 1) := by decide +kernel
theorem dX7_paints_6 : decode cX7_paints 6 = .ok (.getfield 20, 3) := by decide +kernel
theorem dX7_paints_9 : decode cX7_paints 9 = .ok (.iconst 0, 1) := by decide +kernel
theorem dX7_paints_10 : decode cX7_paints 10 = .ok (.iaload, 1) := by decide +kernel
theorem dX7_paints_11 : decode cX7_paints 11 = .ok (.if_icmp .gt 50, 3) := by decide +kernel
theorem dX7_paints_14 : decode cX7_paints 14 = .ok (.iconst 0, 1) := by decide +kernel
theorem dX7_paints_15 : decode cX7_paints 15 = .ok (.istore_n 3, 1) := by decide +kernel
theorem dX7_paints_16 : decode cX7_paints 16 = .ok (.iload_n 3, 1) := by decide +kernel
theorem dX7_paints_17 : decode cX7_paints 17 = .ok (.aload_n 0, 1) := by decide +kernel
theorem dX7_paints_18 : decode cX7_paints 18 = .ok (.getfield 13, 3) := by decide +kernel
theorem dX7_paints_21 : decode cX7_paints 21 = .ok (.if_icmp .ge 34, 3) := by decide +kernel
theorem dX7_paints_24 : decode cX7_paints 24 = .ok (.aload_n 0, 1) := by decide +kernel
theorem dX7_paints_25 : decode cX7_paints 25 = .ok (.invokevirtual 208, 3) := by decide +kernel
theorem dX7_paints_28 : decode cX7_paints 28 = .ok (.iload_n 1, 1) := by decide +kernel
theorem dX7_paints_29 : decode cX7_paints 29 = .ok (.aload_n 0, 1) := by decide +kernel
theorem dX7_paints_30 : decode cX7_paints 30 = .ok (.aload_n 0, 1) := by decide +kernel
theorem dX7_paints_31 : decode cX7_paints 31 = .ok (.getfield 23, 3) := by decide +kernel
theorem dX7_paints_34 : decode cX7_paints 34 = .ok (.iload_n 2, 1) := by decide +kernel
theorem dX7_paints_35 : decode cX7_paints 35 = .ok (.iload_n 3, 1) := by decide +kernel
theorem dX7_paints_36 : decode cX7_paints 36 = .ok (.invokevirtual 211, 3) := by decide +kernel
theorem dX7_paints_39 : decode cX7_paints 39 = .ok (.ifCond .eq 7, 3) := by decide +kernel
theorem dX7_paints_42 : decode cX7_paints 42 = .ok (.iconst 1, 1) := by decide +kernel
theorem dX7_paints_43 : decode cX7_paints 43 = .ok (.goto 4, 3) := by decide +kernel
theorem dX7_paints_46 : decode cX7_paints 46 = .ok (.iconst 0, 1) := by decide +kernel
theorem dX7_paints_47 : decode cX7_paints 47 = .ok (.iadd, 1) := by decide +kernel
theorem dX7_paints_48 : decode cX7_paints 48 = .ok (.istore_n 1, 1) := by decide +kernel
theorem dX7_paints_49 : decode cX7_paints 49 = .ok (.iinc 3 1, 3) := by decide +kernel
theorem dX7_paints_52 : decode cX7_paints 52 = .ok (.goto (-36), 3) := by decide +kernel
theorem dX7_paints_55 : decode cX7_paints 55 = .ok (.iinc 2 1, 3) := by decide +kernel
theorem dX7_paints_58 : decode cX7_paints 58 = .ok (.goto (-54), 3) := by decide +kernel
theorem dX7_paints_61 : decode cX7_paints 61 = .ok (.iload_n 1, 1) := by decide +kernel
theorem dX7_paints_62 : decode cX7_paints 62 = .ok (.ireturn, 1) := by decide +kernel
theorem dX7_codeOf_0 : decode cX7_codeOf 0 = .ok (.iconst 0, 1) := by decide +kernel
theorem dX7_codeOf_1 : decode cX7_codeOf 1 = .ok (.istore_n 1, 1) := by decide +kernel
theorem dX7_codeOf_2 : decode cX7_codeOf 2 = .ok (.iconst 0, 1) := by decide +kernel
theorem dX7_codeOf_3 : decode cX7_codeOf 3 = .ok (.istore_n 2, 1) := by decide +kernel
theorem dX7_codeOf_4 : decode cX7_codeOf 4 = .ok (.iconst 0, 1) := by decide +kernel
theorem dX7_codeOf_5 : decode cX7_codeOf 5 = .ok (.istore_n 3, 1) := by decide +kernel
theorem dX7_codeOf_6 : decode cX7_codeOf 6 = .ok (.iconst 0, 1) := by decide +kernel
theorem dX7_codeOf_7 : decode cX7_codeOf 7 = .ok (.istore 4, 2) := by decide +kernel
theorem dX7_codeOf_9 : decode cX7_codeOf 9 = .ok (.iconst 1, 1) := by decide +kernel
theorem dX7_codeOf_10 : decode cX7_codeOf 10 = .ok (.istore 5, 2) := by decide +kernel
theorem dX7_codeOf_12 : decode cX7_codeOf 12 = .ok (.iload 5, 2) := by decide +kernel
theorem dX7_codeOf_14 : decode cX7_codeOf 14 = .ok (.aload_n 0, 1) := by decide +kernel
theorem dX7_codeOf_15 : decode cX7_codeOf 15 = .ok (.getfield 142, 3) := by decide +kernel
theorem dX7_codeOf_18 : decode cX7_codeOf 18 = .ok (.if_icmp .gt 79, 3) := by decide +kernel
theorem dX7_codeOf_21 : decode cX7_codeOf 21 = .ok (.aload_n 0, 1) := by decide +kernel
theorem dX7_codeOf_22 : decode cX7_codeOf 22 = .ok (.getfield 51, 3) := by decide +kernel
theorem dX7_codeOf_25 : decode cX7_codeOf 25 = .ok (.iload 5, 2) := by decide +kernel
theorem dX7_codeOf_27 : decode cX7_codeOf 27 = .ok (.iaload, 1) := by decide +kernel
theorem dX7_codeOf_28 : decode cX7_codeOf 28 = .ok (.istore 6, 2) := by decide +kernel
theorem dX7_codeOf_30 : decode cX7_codeOf 30 = .ok (.iload_n 2, 1) := by decide +kernel
theorem dX7_codeOf_31 : decode cX7_codeOf 31 = .ok (.ifCond .ne 11, 3) := by decide +kernel
theorem dX7_codeOf_34 : decode cX7_codeOf 34 = .ok (.iload 6, 2) := by decide +kernel
theorem dX7_codeOf_36 : decode cX7_codeOf 36 = .ok (.istore_n 3, 1) := by decide +kernel
theorem dX7_codeOf_37 : decode cX7_codeOf 37 = .ok (.iconst 1, 1) := by decide +kernel
theorem dX7_codeOf_38 : decode cX7_codeOf 38 = .ok (.istore_n 2, 1) := by decide +kernel
theorem dX7_codeOf_39 : decode cX7_codeOf 39 = .ok (.goto 20, 3) := by decide +kernel
theorem dX7_codeOf_42 : decode cX7_codeOf 42 = .ok (.iload_n 2, 1) := by decide +kernel
theorem dX7_codeOf_43 : decode cX7_codeOf 43 = .ok (.iconst 1, 1) := by decide +kernel
theorem dX7_codeOf_44 : decode cX7_codeOf 44 = .ok (.if_icmp .ne 15, 3) := by decide +kernel
theorem dX7_codeOf_47 : decode cX7_codeOf 47 = .ok (.iload 6, 2) := by decide +kernel
theorem dX7_codeOf_49 : decode cX7_codeOf 49 = .ok (.iload_n 3, 1) := by decide +kernel
theorem dX7_codeOf_50 : decode cX7_codeOf 50 = .ok (.if_icmp .eq 9, 3) := by decide +kernel
theorem dX7_codeOf_53 : decode cX7_codeOf 53 = .ok (.iload 6, 2) := by decide +kernel
theorem dX7_codeOf_55 : decode cX7_codeOf 55 = .ok (.istore 4, 2) := by decide +kernel
theorem dX7_codeOf_57 : decode cX7_codeOf 57 = .ok (.iconst 2, 1) := by decide +kernel
theorem dX7_codeOf_58 : decode cX7_codeOf 58 = .ok (.istore_n 2, 1) := by decide +kernel
theorem dX7_codeOf_59 : decode cX7_codeOf 59 = .ok (.iconst 3, 1) := by decide +kernel
theorem dX7_codeOf_60 : decode cX7_codeOf 60 = .ok (.iload_n 1, 1) := by decide +kernel
theorem dX7_codeOf_61 : decode cX7_codeOf 61 = .ok (.imul, 1) := by decide +kernel
theorem dX7_codeOf_62 : decode cX7_codeOf 62 = .ok (.iload 6, 2) := by decide +kernel
theorem dX7_codeOf_64 : decode cX7_codeOf 64 = .ok (.iload_n 3, 1) := by decide +kernel
theorem dX7_codeOf_65 : decode cX7_codeOf 65 = .ok (.if_icmp .ne 7, 3) := by decide +kernel
theorem dX7_codeOf_68 : decode cX7_codeOf 68 = .ok (.iconst 0, 1) := by decide +kernel
theorem dX7_codeOf_69 : decode cX7_codeOf 69 = .ok (.goto 20, 3) := by decide +kernel
theorem dX7_codeOf_72 : decode cX7_codeOf 72 = .ok (.iload_n 2, 1) := by decide +kernel
theorem dX7_codeOf_73 : decode cX7_codeOf 73 = .ok (.iconst 1, 1) := by decide +kernel
theorem dX7_codeOf_74 : decode cX7_codeOf 74 = .ok (.if_icmp .le 14, 3) := by decide +kernel
theorem dX7_codeOf_77 : decode cX7_codeOf 77 = .ok (.iload 6, 2) := by decide +kernel
theorem dX7_codeOf_79 : decode cX7_codeOf 79 = .ok (.iload 4, 2) := by decide +kernel
theorem dX7_codeOf_81 : decode cX7_codeOf 81 = .ok (.if_icmp .ne 7, 3) := by decide +kernel
theorem dX7_codeOf_84 : decode cX7_codeOf 84 = .ok (.iconst 1, 1) := by decide +kernel
theorem dX7_codeOf_85 : decode cX7_codeOf 85 = .ok (.goto 4, 3) := by decide +kernel
theorem dX7_codeOf_88 : decode cX7_codeOf 88 = .ok (.iconst 2, 1) := by decide +kernel
theorem dX7_codeOf_89 : decode cX7_codeOf 89 = .ok (.iadd, 1) := by decide +kernel
theorem dX7_codeOf_90 : decode cX7_codeOf 90 = .ok (.istore_n 1, 1) := by decide +kernel
theorem dX7_codeOf_91 : decode cX7_codeOf 91 = .ok (.iinc 5 1, 3) := by decide +kernel
theorem dX7_codeOf_94 : decode cX7_codeOf 94 = .ok (.goto (-82), 3) := by decide +kernel
theorem dX7_codeOf_97 : decode cX7_codeOf 97 = .ok (.iload_n 1, 1) := by decide +kernel
theorem dX7_codeOf_98 : decode cX7_codeOf 98 = .ok (.ireturn, 1) := by decide +kernel
theorem dX7_kinds_0 : decode cX7_kinds 0 = .ok (.iconst 0, 1) := by decide +kernel
theorem dX7_kinds_1 : decode cX7_kinds 1 = .ok (.istore_n 1, 1) := by decide +kernel
theorem dX7_kinds_2 : decode cX7_kinds 2 = .ok (.iload_n 1, 1) := by decide +kernel
theorem dX7_kinds_3 : decode cX7_kinds 3 = .ok (.ldc 60, 2) := by decide +kernel
theorem dX7_kinds_5 : decode cX7_kinds 5 = .ok (.if_icmp .ge 16, 3) := by decide +kernel
theorem dX7_kinds_8 : decode cX7_kinds 8 = .ok (.aload_n 0, 1) := by decide +kernel
theorem dX7_kinds_9 : decode cX7_kinds 9 = .ok (.getfield 61, 3) := by decide +kernel
theorem dX7_kinds_12 : decode cX7_kinds 12 = .ok (.iload_n 1, 1) := by decide +kernel
theorem dX7_kinds_13 : decode cX7_kinds 13 = .ok (.iconst 0, 1) := by decide +kernel
theorem dX7_kinds_14 : decode cX7_kinds 14 = .ok (.bastore, 1) := by decide +kernel
theorem dX7_kinds_15 : decode cX7_kinds 15 = .ok (.iinc 1 1, 3) := by decide +kernel
theorem dX7_kinds_18 : decode cX7_kinds 18 = .ok (.goto (-16), 3) := by decide +kernel
theorem dX7_kinds_21 : decode cX7_kinds 21 = .ok (.iconst 0, 1) := by decide +kernel
theorem dX7_kinds_22 : decode cX7_kinds 22 = .ok (.istore_n 1, 1) := by decide +kernel
theorem dX7_kinds_23 : decode cX7_kinds 23 = .ok (.aload_n 0, 1) := by decide +kernel
theorem dX7_kinds_24 : decode cX7_kinds 24 = .ok (.aload_n 0, 1) := by decide +kernel
theorem dX7_kinds_25 : decode cX7_kinds 25 = .ok (.getfield 20, 3) := by decide +kernel
theorem dX7_kinds_28 : decode cX7_kinds 28 = .ok (.invokevirtual 171, 3) := by decide +kernel
theorem dX7_kinds_31 : decode cX7_kinds 31 = .ok (.aload_n 0, 1) := by decide +kernel
theorem dX7_kinds_32 : decode cX7_kinds 32 = .ok (.invokevirtual 164, 3) := by decide +kernel
theorem dX7_kinds_35 : decode cX7_kinds 35 = .ok (.ifCond .eq 35, 3) := by decide +kernel
theorem dX7_kinds_38 : decode cX7_kinds 38 = .ok (.aload_n 0, 1) := by decide +kernel
theorem dX7_kinds_39 : decode cX7_kinds 39 = .ok (.invokevirtual 225, 3) := by decide +kernel
theorem dX7_kinds_42 : decode cX7_kinds 42 = .ok (.istore_n 2, 1) := by decide +kernel
theorem dX7_kinds_43 : decode cX7_kinds 43 = .ok (.iload_n 1, 1) := by decide +kernel
theorem dX7_kinds_44 : decode cX7_kinds 44 = .ok (.aload_n 0, 1) := by decide +kernel
theorem dX7_kinds_45 : decode cX7_kinds 45 = .ok (.getfield 61, 3) := by decide +kernel
theorem dX7_kinds_48 : decode cX7_kinds 48 = .ok (.iload_n 2, 1) := by decide +kernel
theorem dX7_kinds_49 : decode cX7_kinds 49 = .ok (.baload, 1) := by decide +kernel
theorem dX7_kinds_50 : decode cX7_kinds 50 = .ok (.ifCond .eq 7, 3) := by decide +kernel
theorem dX7_kinds_53 : decode cX7_kinds 53 = .ok (.iconst 0, 1) := by decide +kernel
theorem dX7_kinds_54 : decode cX7_kinds 54 = .ok (.goto 4, 3) := by decide +kernel
theorem dX7_kinds_57 : decode cX7_kinds 57 = .ok (.iconst 1, 1) := by decide +kernel
theorem dX7_kinds_58 : decode cX7_kinds 58 = .ok (.iadd, 1) := by decide +kernel
theorem dX7_kinds_59 : decode cX7_kinds 59 = .ok (.istore_n 1, 1) := by decide +kernel
theorem dX7_kinds_60 : decode cX7_kinds 60 = .ok (.aload_n 0, 1) := by decide +kernel
theorem dX7_kinds_61 : decode cX7_kinds 61 = .ok (.getfield 61, 3) := by decide +kernel
theorem dX7_kinds_64 : decode cX7_kinds 64 = .ok (.iload_n 2, 1) := by decide +kernel
theorem dX7_kinds_65 : decode cX7_kinds 65 = .ok (.iconst 1, 1) := by decide +kernel
theorem dX7_kinds_66 : decode cX7_kinds 66 = .ok (.bastore, 1) := by decide +kernel
theorem dX7_kinds_67 : decode cX7_kinds 67 = .ok (.goto (-36), 3) := by decide +kernel
theorem dX7_kinds_70 : decode cX7_kinds 70 = .ok (.iload_n 1, 1) := by decide +kernel
theorem dX7_kinds_71 : decode cX7_kinds 71 = .ok (.ireturn, 1) := by decide +kernel
theorem dX7_ends_0 : decode cX7_ends 0 = .ok (.aload_n 0, 1) := by decide +kernel
theorem dX7_ends_1 : decode cX7_ends 1 = .ok (.aload_n 0, 1) := by decide +kernel
theorem dX7_ends_2 : decode cX7_ends 2 = .ok (.getfield 20, 3) := by decide +kernel
theorem dX7_ends_5 : decode cX7_ends 5 = .ok (.invokevirtual 171, 3) := by decide +kernel
theorem dX7_ends_8 : decode cX7_ends 8 = .ok (.iconst 0, 1) := by decide +kernel
theorem dX7_ends_9 : decode cX7_ends 9 = .ok (.istore_n 1, 1) := by decide +kernel
theorem dX7_ends_10 : decode cX7_ends 10 = .ok (.iconst 1, 1) := by decide +kernel
theorem dX7_ends_11 : decode cX7_ends 11 = .ok (.istore_n 2, 1) := by decide +kernel
theorem dX7_ends_12 : decode cX7_ends 12 = .ok (.aload_n 0, 1) := by decide +kernel
theorem dX7_ends_13 : decode cX7_ends 13 = .ok (.getfield 51, 3) := by decide +kernel
theorem dX7_ends_16 : decode cX7_ends 16 = .ok (.iconst 1, 1) := by decide +kernel
theorem dX7_ends_17 : decode cX7_ends 17 = .ok (.iconst (-1), 1) := by decide +kernel
theorem dX7_ends_18 : decode cX7_ends 18 = .ok (.iastore, 1) := by decide +kernel
theorem dX7_ends_19 : decode cX7_ends 19 = .ok (.aload_n 0, 1) := by decide +kernel
theorem dX7_ends_20 : decode cX7_ends 20 = .ok (.getfield 64, 3) := by decide +kernel
theorem dX7_ends_23 : decode cX7_ends 23 = .ok (.iconst 1, 1) := by decide +kernel
theorem dX7_ends_24 : decode cX7_ends 24 = .ok (.iconst 0, 1) := by decide +kernel
theorem dX7_ends_25 : decode cX7_ends 25 = .ok (.bastore, 1) := by decide +kernel
theorem dX7_ends_26 : decode cX7_ends 26 = .ok (.iload_n 2, 1) := by decide +kernel
theorem dX7_ends_27 : decode cX7_ends 27 = .ok (.ifCond .le 69, 3) := by decide +kernel
theorem dX7_ends_30 : decode cX7_ends 30 = .ok (.aload_n 0, 1) := by decide +kernel
theorem dX7_ends_31 : decode cX7_ends 31 = .ok (.iload_n 2, 1) := by decide +kernel
theorem dX7_ends_32 : decode cX7_ends 32 = .ok (.invokevirtual 154, 3) := by decide +kernel
theorem dX7_ends_35 : decode cX7_ends 35 = .ok (.ifCond .eq 38, 3) := by decide +kernel
theorem dX7_ends_38 : decode cX7_ends 38 = .ok (.aload_n 0, 1) := by decide +kernel
theorem dX7_ends_39 : decode cX7_ends 39 = .ok (.getfield 64, 3) := by decide +kernel
theorem dX7_ends_42 : decode cX7_ends 42 = .ok (.iload_n 2, 1) := by decide +kernel
theorem dX7_ends_43 : decode cX7_ends 43 = .ok (.iconst 1, 1) := by decide +kernel
theorem dX7_ends_44 : decode cX7_ends 44 = .ok (.bastore, 1) := by decide +kernel
theorem dX7_ends_45 : decode cX7_ends 45 = .ok (.iload_n 2, 1) := by decide +kernel
theorem dX7_ends_46 : decode cX7_ends 46 = .ok (.aload_n 0, 1) := by decide +kernel
theorem dX7_ends_47 : decode cX7_ends 47 = .ok (.getfield 142, 3) := by decide +kernel
theorem dX7_ends_50 : decode cX7_ends 50 = .ok (.if_icmp .ge (-24), 3) := by decide +kernel
theorem dX7_ends_53 : decode cX7_ends 53 = .ok (.iinc 2 1, 3) := by decide +kernel
theorem dX7_ends_56 : decode cX7_ends 56 = .ok (.aload_n 0, 1) := by decide +kernel
theorem dX7_ends_57 : decode cX7_ends 57 = .ok (.getfield 51, 3) := by decide +kernel
theorem dX7_ends_60 : decode cX7_ends 60 = .ok (.iload_n 2, 1) := by decide +kernel
theorem dX7_ends_61 : decode cX7_ends 61 = .ok (.iconst (-1), 1) := by decide +kernel
theorem dX7_ends_62 : decode cX7_ends 62 = .ok (.iastore, 1) := by decide +kernel
theorem dX7_ends_63 : decode cX7_ends 63 = .ok (.aload_n 0, 1) := by decide +kernel
theorem dX7_ends_64 : decode cX7_ends 64 = .ok (.getfield 64, 3) := by decide +kernel
theorem dX7_ends_67 : decode cX7_ends 67 = .ok (.iload_n 2, 1) := by decide +kernel
theorem dX7_ends_68 : decode cX7_ends 68 = .ok (.iconst 0, 1) := by decide +kernel
theorem dX7_ends_69 : decode cX7_ends 69 = .ok (.bastore, 1) := by decide +kernel
theorem dX7_ends_70 : decode cX7_ends 70 = .ok (.goto (-44), 3) := by decide +kernel
theorem dX7_ends_73 : decode cX7_ends 73 = .ok (.iload_n 1, 1) := by decide +kernel
theorem dX7_ends_74 : decode cX7_ends 74 = .ok (.aload_n 0, 1) := by decide +kernel
theorem dX7_ends_75 : decode cX7_ends 75 = .ok (.getfield 64, 3) := by decide +kernel
theorem dX7_ends_78 : decode cX7_ends 78 = .ok (.iload_n 2, 1) := by decide +kernel
theorem dX7_ends_79 : decode cX7_ends 79 = .ok (.baload, 1) := by decide +kernel
theorem dX7_ends_80 : decode cX7_ends 80 = .ok (.ifCond .eq 7, 3) := by decide +kernel
theorem dX7_ends_83 : decode cX7_ends 83 = .ok (.iconst 0, 1) := by decide +kernel
theorem dX7_ends_84 : decode cX7_ends 84 = .ok (.goto 4, 3) := by decide +kernel
theorem dX7_ends_87 : decode cX7_ends 87 = .ok (.iconst 1, 1) := by decide +kernel
theorem dX7_ends_88 : decode cX7_ends 88 = .ok (.iadd, 1) := by decide +kernel
theorem dX7_ends_89 : decode cX7_ends 89 = .ok (.istore_n 1, 1) := by decide +kernel
theorem dX7_ends_90 : decode cX7_ends 90 = .ok (.iinc 2 (-1), 3) := by decide +kernel
theorem dX7_ends_93 : decode cX7_ends 93 = .ok (.goto (-67), 3) := by decide +kernel
theorem dX7_ends_96 : decode cX7_ends 96 = .ok (.iload_n 1, 1) := by decide +kernel
theorem dX7_ends_97 : decode cX7_ends 97 = .ok (.ireturn, 1) := by decide +kernel
theorem dX7_ask_0 : decode cX7_ask 0 = .ok (.aload_n 0, 1) := by decide +kernel
theorem dX7_ask_1 : decode cX7_ask 1 = .ok (.iconst 0, 1) := by decide +kernel
theorem dX7_ask_2 : decode cX7_ask 2 = .ok (.putfield 67, 3) := by decide +kernel
theorem dX7_ask_5 : decode cX7_ask 5 = .ok (.iload_n 1, 1) := by decide +kernel
theorem dX7_ask_6 : decode cX7_ask 6 = .ok (.tableswitch 93 0 6 #[42, 51, 60, 69, 78, 83, 88], 42) := by decide +kernel
theorem dX7_ask_48 : decode cX7_ask 48 = .ok (.aload_n 0, 1) := by decide +kernel
theorem dX7_ask_49 : decode cX7_ask 49 = .ok (.aload_n 0, 1) := by decide +kernel
theorem dX7_ask_50 : decode cX7_ask 50 = .ok (.getfield 20, 3) := by decide +kernel
theorem dX7_ask_53 : decode cX7_ask 53 = .ok (.invokevirtual 118, 3) := by decide +kernel
theorem dX7_ask_56 : decode cX7_ask 56 = .ok (.ireturn, 1) := by decide +kernel
theorem dX7_ask_57 : decode cX7_ask 57 = .ok (.aload_n 0, 1) := by decide +kernel
theorem dX7_ask_58 : decode cX7_ask 58 = .ok (.aload_n 0, 1) := by decide +kernel
theorem dX7_ask_59 : decode cX7_ask 59 = .ok (.getfield 20, 3) := by decide +kernel
theorem dX7_ask_62 : decode cX7_ask 62 = .ok (.invokevirtual 178, 3) := by decide +kernel
theorem dX7_ask_65 : decode cX7_ask 65 = .ok (.ireturn, 1) := by decide +kernel
theorem dX7_ask_66 : decode cX7_ask 66 = .ok (.aload_n 0, 1) := by decide +kernel
theorem dX7_ask_67 : decode cX7_ask 67 = .ok (.aload_n 0, 1) := by decide +kernel
theorem dX7_ask_68 : decode cX7_ask 68 = .ok (.getfield 20, 3) := by decide +kernel
theorem dX7_ask_71 : decode cX7_ask 71 = .ok (.invokevirtual 228, 3) := by decide +kernel
theorem dX7_ask_74 : decode cX7_ask 74 = .ok (.ireturn, 1) := by decide +kernel
theorem dX7_ask_75 : decode cX7_ask 75 = .ok (.aload_n 0, 1) := by decide +kernel
theorem dX7_ask_76 : decode cX7_ask 76 = .ok (.aload_n 0, 1) := by decide +kernel
theorem dX7_ask_77 : decode cX7_ask 77 = .ok (.getfield 20, 3) := by decide +kernel
theorem dX7_ask_80 : decode cX7_ask 80 = .ok (.invokevirtual 231, 3) := by decide +kernel
theorem dX7_ask_83 : decode cX7_ask 83 = .ok (.ireturn, 1) := by decide +kernel
theorem dX7_ask_84 : decode cX7_ask 84 = .ok (.aload_n 0, 1) := by decide +kernel
theorem dX7_ask_85 : decode cX7_ask 85 = .ok (.invokevirtual 234, 3) := by decide +kernel
theorem dX7_ask_88 : decode cX7_ask 88 = .ok (.ireturn, 1) := by decide +kernel
theorem dX7_ask_89 : decode cX7_ask 89 = .ok (.aload_n 0, 1) := by decide +kernel
theorem dX7_ask_90 : decode cX7_ask 90 = .ok (.invokevirtual 237, 3) := by decide +kernel
theorem dX7_ask_93 : decode cX7_ask 93 = .ok (.ireturn, 1) := by decide +kernel
theorem dX7_ask_94 : decode cX7_ask 94 = .ok (.aload_n 0, 1) := by decide +kernel
theorem dX7_ask_95 : decode cX7_ask 95 = .ok (.invokevirtual 240, 3) := by decide +kernel
theorem dX7_ask_98 : decode cX7_ask 98 = .ok (.ireturn, 1) := by decide +kernel
theorem dX7_ask_99 : decode cX7_ask 99 = .ok (.bipush (-2), 2) := by decide +kernel
theorem dX7_ask_101 : decode cX7_ask 101 = .ok (.ireturn, 1) := by decide +kernel
theorem dX7_on_0 : decode cX7_on 0 = .ok (.aload_n 0, 1) := by decide +kernel
theorem dX7_on_1 : decode cX7_on 1 = .ok (.iconst 0, 1) := by decide +kernel
theorem dX7_on_2 : decode cX7_on 2 = .ok (.putfield 67, 3) := by decide +kernel
theorem dX7_on_5 : decode cX7_on 5 = .ok (.aload_n 0, 1) := by decide +kernel
theorem dX7_on_6 : decode cX7_on 6 = .ok (.getfield 20, 3) := by decide +kernel
theorem dX7_on_9 : decode cX7_on 9 = .ok (.iconst 0, 1) := by decide +kernel
theorem dX7_on_10 : decode cX7_on 10 = .ok (.iaload, 1) := by decide +kernel
theorem dX7_on_11 : decode cX7_on 11 = .ok (.bipush 10, 2) := by decide +kernel
theorem dX7_on_13 : decode cX7_on 13 = .ok (.if_icmp .eq 13, 3) := by decide +kernel
theorem dX7_on_16 : decode cX7_on 16 = .ok (.aload_n 0, 1) := by decide +kernel
theorem dX7_on_17 : decode cX7_on 17 = .ok (.getfield 20, 3) := by decide +kernel
theorem dX7_on_20 : decode cX7_on 20 = .ok (.bipush 28, 2) := by decide +kernel
theorem dX7_on_22 : decode cX7_on 22 = .ok (.iaload, 1) := by decide +kernel
theorem dX7_on_23 : decode cX7_on 23 = .ok (.ifCond .ne 6, 3) := by decide +kernel
theorem dX7_on_26 : decode cX7_on 26 = .ok (.bipush (-3), 2) := by decide +kernel
theorem dX7_on_28 : decode cX7_on 28 = .ok (.ireturn, 1) := by decide +kernel
theorem dX7_on_29 : decode cX7_on 29 = .ok (.aload_n 0, 1) := by decide +kernel
theorem dX7_on_30 : decode cX7_on 30 = .ok (.aload_n 0, 1) := by decide +kernel
theorem dX7_on_31 : decode cX7_on 31 = .ok (.getfield 20, 3) := by decide +kernel
theorem dX7_on_34 : decode cX7_on 34 = .ok (.aload_n 0, 1) := by decide +kernel
theorem dX7_on_35 : decode cX7_on 35 = .ok (.getfield 20, 3) := by decide +kernel
theorem dX7_on_38 : decode cX7_on 38 = .ok (.invokestatic 157, 3) := by decide +kernel
theorem dX7_on_41 : decode cX7_on 41 = .ok (.aload_n 0, 1) := by decide +kernel
theorem dX7_on_42 : decode cX7_on 42 = .ok (.getfield 20, 3) := by decide +kernel
theorem dX7_on_45 : decode cX7_on 45 = .ok (.iconst 0, 1) := by decide +kernel
theorem dX7_on_46 : decode cX7_on 46 = .ok (.iaload, 1) := by decide +kernel
theorem dX7_on_47 : decode cX7_on 47 = .ok (.iconst 0, 1) := by decide +kernel
theorem dX7_on_48 : decode cX7_on 48 = .ok (.invokevirtual 160, 3) := by decide +kernel
theorem dX7_on_51 : decode cX7_on 51 = .ok (.iconst 1, 1) := by decide +kernel
