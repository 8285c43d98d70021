theorem dL_isBest_205 : decode cL_isBest 205 = .ok (.if_icmp .ne 65, 3) := by decide +kernel
theorem dL_isBest_208 : decode cL_isBest 208 = .ok (.aload_n 0, 1) := by decide +kernel
theorem dL_isBest_209 : decode cL_isBest 209 = .ok (.bipush 11, 2) := by decide +kernel
theorem dL_isBest_211 : decode cL_isBest 211 = .ok (.iconst 0, 1) := by decide +kernel
theorem dL_isBest_212 : decode cL_isBest 212 = .ok (.iconst 0, 1) := by decide +kernel
theorem dL_isBest_213 : decode cL_isBest 213 = .ok (.iconst 0, 1) := by decide +kernel
theorem dL_isBest_214 : decode cL_isBest 214 = .ok (.iconst 0, 1) := by decide +kernel
theorem dL_isBest_215 : decode cL_isBest 215 = .ok (.iconst 0, 1) := by decide +kernel
theorem dL_isBest_216 : decode cL_isBest 216 = .ok (.invokestatic 117, 3) := by decide +kernel
theorem dL_isBest_219 : decode cL_isBest 219 = .ok (.iload 7, 2) := by decide +kernel
theorem dL_isBest_221 : decode cL_isBest 221 = .ok (.ifCond .ge 9, 3) := by decide +kernel
theorem dL_isBest_224 : decode cL_isBest 224 = .ok (.sipush (-1000), 3) := by decide +kernel
theorem dL_isBest_227 : decode cL_isBest 227 = .ok (.goto 7, 3) := by decide +kernel
theorem dL_isBest_230 : decode cL_isBest 230 = .ok (.iload 8, 2) := by decide +kernel
theorem dL_isBest_232 : decode cL_isBest 232 = .ok (.iconst 4, 1) := by decide +kernel
theorem dL_isBest_233 : decode cL_isBest 233 = .ok (.idiv, 1) := by decide +kernel
theorem dL_isBest_234 : decode cL_isBest 234 = .ok (.if_icmp .ne 36, 3) := by decide +kernel
theorem dL_isBest_237 : decode cL_isBest 237 = .ok (.aload_n 0, 1) := by decide +kernel
theorem dL_isBest_238 : decode cL_isBest 238 = .ok (.bipush 12, 2) := by decide +kernel
theorem dL_isBest_240 : decode cL_isBest 240 = .ok (.iconst 0, 1) := by decide +kernel
theorem dL_isBest_241 : decode cL_isBest 241 = .ok (.iconst 0, 1) := by decide +kernel
theorem dL_isBest_242 : decode cL_isBest 242 = .ok (.iconst 0, 1) := by decide +kernel
theorem dL_isBest_243 : decode cL_isBest 243 = .ok (.iconst 0, 1) := by decide +kernel
theorem dL_isBest_244 : decode cL_isBest 244 = .ok (.iconst 0, 1) := by decide +kernel
theorem dL_isBest_245 : decode cL_isBest 245 = .ok (.invokestatic 117, 3) := by decide +kernel
theorem dL_isBest_248 : decode cL_isBest 248 = .ok (.iload 7, 2) := by decide +kernel
theorem dL_isBest_250 : decode cL_isBest 250 = .ok (.ifCond .ge 9, 3) := by decide +kernel
theorem dL_isBest_253 : decode cL_isBest 253 = .ok (.sipush (-1000), 3) := by decide +kernel
theorem dL_isBest_256 : decode cL_isBest 256 = .ok (.goto 7, 3) := by decide +kernel
theorem dL_isBest_259 : decode cL_isBest 259 = .ok (.iload 8, 2) := by decide +kernel
theorem dL_isBest_261 : decode cL_isBest 261 = .ok (.iconst 4, 1) := by decide +kernel
theorem dL_isBest_262 : decode cL_isBest 262 = .ok (.irem, 1) := by decide +kernel
theorem dL_isBest_263 : decode cL_isBest 263 = .ok (.if_icmp .ne 7, 3) := by decide +kernel
theorem dL_isBest_266 : decode cL_isBest 266 = .ok (.iconst 1, 1) := by decide +kernel
theorem dL_isBest_267 : decode cL_isBest 267 = .ok (.goto 4, 3) := by decide +kernel
theorem dL_isBest_270 : decode cL_isBest 270 = .ok (.iconst 0, 1) := by decide +kernel
theorem dL_isBest_271 : decode cL_isBest 271 = .ok (.ireturn, 1) := by decide +kernel
theorem dL_isProgram_0 : decode cL_isProgram 0 = .ok (.iload 6, 2) := by decide +kernel
theorem dL_isProgram_2 : decode cL_isProgram 2 = .ok (.aload_n 1, 1) := by decide +kernel
theorem dL_isProgram_3 : decode cL_isProgram 3 = .ok (.iconst 2, 1) := by decide +kernel
theorem dL_isProgram_4 : decode cL_isProgram 4 = .ok (.iaload, 1) := by decide +kernel
theorem dL_isProgram_5 : decode cL_isProgram 5 = .ok (.iconst 1, 1) := by decide +kernel
theorem dL_isProgram_6 : decode cL_isProgram 6 = .ok (.iadd, 1) := by decide +kernel
theorem dL_isProgram_7 : decode cL_isProgram 7 = .ok (.irem, 1) := by decide +kernel
theorem dL_isProgram_8 : decode cL_isProgram 8 = .ok (.istore 8, 2) := by decide +kernel
theorem dL_isProgram_10 : decode cL_isProgram 10 = .ok (.iload 8, 2) := by decide +kernel
theorem dL_isProgram_12 : decode cL_isProgram 12 = .ok (.aload_n 1, 1) := by decide +kernel
theorem dL_isProgram_13 : decode cL_isProgram 13 = .ok (.iconst 2, 1) := by decide +kernel
theorem dL_isProgram_14 : decode cL_isProgram 14 = .ok (.iaload, 1) := by decide +kernel
theorem dL_isProgram_15 : decode cL_isProgram 15 = .ok (.if_icmp .ge 7, 3) := by decide +kernel
theorem dL_isProgram_18 : decode cL_isProgram 18 = .ok (.iconst 1, 1) := by decide +kernel
theorem dL_isProgram_19 : decode cL_isProgram 19 = .ok (.goto 4, 3) := by decide +kernel
theorem dL_isProgram_22 : decode cL_isProgram 22 = .ok (.iconst 0, 1) := by decide +kernel
theorem dL_isProgram_23 : decode cL_isProgram 23 = .ok (.istore 9, 2) := by decide +kernel
theorem dL_isProgram_25 : decode cL_isProgram 25 = .ok (.iload 5, 2) := by decide +kernel
theorem dL_isProgram_27 : decode cL_isProgram 27 = .ok (.ifCond .ne 116, 3) := by decide +kernel
theorem dL_isProgram_30 : decode cL_isProgram 30 = .ok (.iload 7, 2) := by decide +kernel
theorem dL_isProgram_32 : decode cL_isProgram 32 = .ok (.bipush 101, 2) := by decide +kernel
theorem dL_isProgram_34 : decode cL_isProgram 34 = .ok (.irem, 1) := by decide +kernel
theorem dL_isProgram_35 : decode cL_isProgram 35 = .ok (.istore 10, 2) := by decide +kernel
theorem dL_isProgram_37 : decode cL_isProgram 37 = .ok (.iload 10, 2) := by decide +kernel
theorem dL_isProgram_39 : decode cL_isProgram 39 = .ok (.bipush 100, 2) := by decide +kernel
theorem dL_isProgram_41 : decode cL_isProgram 41 = .ok (.if_icmp .ge 14, 3) := by decide +kernel
theorem dL_isProgram_44 : decode cL_isProgram 44 = .ok (.aload_n 1, 1) := by decide +kernel
theorem dL_isProgram_45 : decode cL_isProgram 45 = .ok (.iconst 2, 1) := by decide +kernel
theorem dL_isProgram_46 : decode cL_isProgram 46 = .ok (.iaload, 1) := by decide +kernel
theorem dL_isProgram_47 : decode cL_isProgram 47 = .ok (.iconst 4, 1) := by decide +kernel
theorem dL_isProgram_48 : decode cL_isProgram 48 = .ok (.if_icmp .ge 7, 3) := by decide +kernel
theorem dL_isProgram_51 : decode cL_isProgram 51 = .ok (.iconst 1, 1) := by decide +kernel
theorem dL_isProgram_52 : decode cL_isProgram 52 = .ok (.goto 4, 3) := by decide +kernel
theorem dL_isProgram_55 : decode cL_isProgram 55 = .ok (.iconst 0, 1) := by decide +kernel
theorem dL_isProgram_56 : decode cL_isProgram 56 = .ok (.istore 11, 2) := by decide +kernel
theorem dL_isProgram_58 : decode cL_isProgram 58 = .ok (.iload 11, 2) := by decide +kernel
theorem dL_isProgram_60 : decode cL_isProgram 60 = .ok (.ifCond .eq 34, 3) := by decide +kernel
theorem dL_isProgram_63 : decode cL_isProgram 63 = .ok (.aload_n 2, 1) := by decide +kernel
theorem dL_isProgram_64 : decode cL_isProgram 64 = .ok (.aload_n 1, 1) := by decide +kernel
theorem dL_isProgram_65 : decode cL_isProgram 65 = .ok (.iconst 2, 1) := by decide +kernel
theorem dL_isProgram_66 : decode cL_isProgram 66 = .ok (.iaload, 1) := by decide +kernel
theorem dL_isProgram_67 : decode cL_isProgram 67 = .ok (.iload 10, 2) := by decide +kernel
theorem dL_isProgram_69 : decode cL_isProgram 69 = .ok (.iastore, 1) := by decide +kernel
theorem dL_isProgram_70 : decode cL_isProgram 70 = .ok (.aload_n 2, 1) := by decide +kernel
theorem dL_isProgram_71 : decode cL_isProgram 71 = .ok (.iconst 4, 1) := by decide +kernel
theorem dL_isProgram_72 : decode cL_isProgram 72 = .ok (.aload_n 1, 1) := by decide +kernel
theorem dL_isProgram_73 : decode cL_isProgram 73 = .ok (.iconst 2, 1) := by decide +kernel
theorem dL_isProgram_74 : decode cL_isProgram 74 = .ok (.iaload, 1) := by decide +kernel
theorem dL_isProgram_75 : decode cL_isProgram 75 = .ok (.iadd, 1) := by decide +kernel
theorem dL_isProgram_76 : decode cL_isProgram 76 = .ok (.iconst 0, 1) := by decide +kernel
theorem dL_isProgram_77 : decode cL_isProgram 77 = .ok (.iastore, 1) := by decide +kernel
theorem dL_isProgram_78 : decode cL_isProgram 78 = .ok (.aload_n 2, 1) := by decide +kernel
theorem dL_isProgram_79 : decode cL_isProgram 79 = .ok (.bipush 16, 2) := by decide +kernel
theorem dL_isProgram_81 : decode cL_isProgram 81 = .ok (.aload_n 1, 1) := by decide +kernel
theorem dL_isProgram_82 : decode cL_isProgram 82 = .ok (.iconst 2, 1) := by decide +kernel
theorem dL_isProgram_83 : decode cL_isProgram 83 = .ok (.iaload, 1) := by decide +kernel
theorem dL_isProgram_84 : decode cL_isProgram 84 = .ok (.iadd, 1) := by decide +kernel
theorem dL_isProgram_85 : decode cL_isProgram 85 = .ok (.iconst 0, 1) := by decide +kernel
theorem dL_isProgram_86 : decode cL_isProgram 86 = .ok (.iastore, 1) := by decide +kernel
theorem dL_isProgram_87 : decode cL_isProgram 87 = .ok (.aload_n 1, 1) := by decide +kernel
theorem dL_isProgram_88 : decode cL_isProgram 88 = .ok (.iconst 2, 1) := by decide +kernel
theorem dL_isProgram_89 : decode cL_isProgram 89 = .ok (.dup2, 1) := by decide +kernel
theorem dL_isProgram_90 : decode cL_isProgram 90 = .ok (.iaload, 1) := by decide +kernel
theorem dL_isProgram_91 : decode cL_isProgram 91 = .ok (.iconst 1, 1) := by decide +kernel
theorem dL_isProgram_92 : decode cL_isProgram 92 = .ok (.iadd, 1) := by decide +kernel
theorem dL_isProgram_93 : decode cL_isProgram 93 = .ok (.iastore, 1) := by decide +kernel
theorem dL_isProgram_94 : decode cL_isProgram 94 = .ok (.aload_n 0, 1) := by decide +kernel
theorem dL_isProgram_95 : decode cL_isProgram 95 = .ok (.iconst 0, 1) := by decide +kernel
theorem dL_isProgram_96 : decode cL_isProgram 96 = .ok (.iload 10, 2) := by decide +kernel
theorem dL_isProgram_98 : decode cL_isProgram 98 = .ok (.iconst 0, 1) := by decide +kernel
theorem dL_isProgram_99 : decode cL_isProgram 99 = .ok (.iconst 0, 1) := by decide +kernel
theorem dL_isProgram_100 : decode cL_isProgram 100 = .ok (.iconst 0, 1) := by decide +kernel
theorem dL_isProgram_101 : decode cL_isProgram 101 = .ok (.iconst 0, 1) := by decide +kernel
theorem dL_isProgram_102 : decode cL_isProgram 102 = .ok (.invokestatic 117, 3) := by decide +kernel
theorem dL_isProgram_105 : decode cL_isProgram 105 = .ok (.iload 10, 2) := by decide +kernel
theorem dL_isProgram_107 : decode cL_isProgram 107 = .ok (.bipush 100, 2) := by decide +kernel
theorem dL_isProgram_109 : decode cL_isProgram 109 = .ok (.if_icmp .ne 9, 3) := by decide +kernel
theorem dL_isProgram_112 : decode cL_isProgram 112 = .ok (.sipush (-2000), 3) := by decide +kernel
theorem dL_isProgram_115 : decode cL_isProgram 115 = .ok (.goto 19, 3) := by decide +kernel
theorem dL_isProgram_118 : decode cL_isProgram 118 = .ok (.iload 11, 2) := by decide +kernel
theorem dL_isProgram_120 : decode cL_isProgram 120 = .ok (.ifCond .eq 11, 3) := by decide +kernel
theorem dL_isProgram_123 : decode cL_isProgram 123 = .ok (.aload_n 1, 1) := by decide +kernel
theorem dL_isProgram_124 : decode cL_isProgram 124 = .ok (.iconst 2, 1) := by decide +kernel
theorem dL_isProgram_125 : decode cL_isProgram 125 = .ok (.iaload, 1) := by decide +kernel
theorem dL_isProgram_126 : decode cL_isProgram 126 = .ok (.iconst 1, 1) := by decide +kernel
theorem dL_isProgram_127 : decode cL_isProgram 127 = .ok (.isub, 1) := by decide +kernel
theorem dL_isProgram_128 : decode cL_isProgram 128 = .ok (.goto 6, 3) := by decide +kernel
theorem dL_isProgram_131 : decode cL_isProgram 131 = .ok (.sipush (-1000), 3) := by decide +kernel
theorem dL_isProgram_134 : decode cL_isProgram 134 = .ok (.if_icmp .ne 7, 3) := by decide +kernel
theorem dL_isProgram_137 : decode cL_isProgram 137 = .ok (.iconst 1, 1) := by decide +kernel
theorem dL_isProgram_138 : decode cL_isProgram 138 = .ok (.goto 4, 3) := by decide +kernel
theorem dL_isProgram_141 : decode cL_isProgram 141 = .ok (.iconst 0, 1) := by decide +kernel
theorem dL_isProgram_142 : decode cL_isProgram 142 = .ok (.ireturn, 1) := by decide +kernel
theorem dL_isProgram_143 : decode cL_isProgram 143 = .ok (.iload 5, 2) := by decide +kernel
theorem dL_isProgram_145 : decode cL_isProgram 145 = .ok (.iconst 5, 1) := by decide +kernel
theorem dL_isProgram_146 : decode cL_isProgram 146 = .ok (.if_icmp .ge 238, 3) := by decide +kernel
theorem dL_isProgram_149 : decode cL_isProgram 149 = .ok (.iload 7, 2) := by decide +kernel
theorem dL_isProgram_151 : decode cL_isProgram 151 = .ok (.aload_n 1, 1) := by decide +kernel
theorem dL_isProgram_152 : decode cL_isProgram 152 = .ok (.iconst 2, 1) := by decide +kernel
theorem dL_isProgram_153 : decode cL_isProgram 153 = .ok (.iaload, 1) := by decide +kernel
theorem dL_isProgram_154 : decode cL_isProgram 154 = .ok (.iconst 1, 1) := by decide +kernel
theorem dL_isProgram_155 : decode cL_isProgram 155 = .ok (.iadd, 1) := by decide +kernel
theorem dL_isProgram_156 : decode cL_isProgram 156 = .ok (.irem, 1) := by decide +kernel
theorem dL_isProgram_157 : decode cL_isProgram 157 = .ok (.istore 10, 2) := by decide +kernel
theorem dL_isProgram_159 : decode cL_isProgram 159 = .ok (.iconst 1, 1) := by decide +kernel
theorem dL_isProgram_160 : decode cL_isProgram 160 = .ok (.iload 7, 2) := by decide +kernel
theorem dL_isProgram_162 : decode cL_isProgram 162 = .ok (.iconst 5, 1) := by decide +kernel
theorem dL_isProgram_163 : decode cL_isProgram 163 = .ok (.idiv, 1) := by decide +kernel
theorem dL_isProgram_164 : decode cL_isProgram 164 = .ok (.bipush 9, 2) := by decide +kernel
theorem dL_isProgram_166 : decode cL_isProgram 166 = .ok (.irem, 1) := by decide +kernel
theorem dL_isProgram_167 : decode cL_isProgram 167 = .ok (.iadd, 1) := by decide +kernel
theorem dL_isProgram_168 : decode cL_isProgram 168 = .ok (.istore 11, 2) := by decide +kernel
theorem dL_isProgram_170 : decode cL_isProgram 170 = .ok (.iload 7, 2) := by decide +kernel
theorem dL_isProgram_172 : decode cL_isProgram 172 = .ok (.bipush 45, 2) := by decide +kernel
theorem dL_isProgram_174 : decode cL_isProgram 174 = .ok (.idiv, 1) := by decide +kernel
theorem dL_isProgram_175 : decode cL_isProgram 175 = .ok (.iconst 5, 1) := by decide +kernel
theorem dL_isProgram_176 : decode cL_isProgram 176 = .ok (.irem, 1) := by decide +kernel
theorem dL_isProgram_177 : decode cL_isProgram 177 = .ok (.istore 12, 2) := by decide +kernel
theorem dL_isProgram_179 : decode cL_isProgram 179 = .ok (.iload 7, 2) := by decide +kernel
theorem dL_isProgram_181 : decode cL_isProgram 181 = .ok (.sipush 225, 3) := by decide +kernel
theorem dL_isProgram_184 : decode cL_isProgram 184 = .ok (.idiv, 1) := by decide +kernel
theorem dL_isProgram_185 : decode cL_isProgram 185 = .ok (.bipush 8, 2) := by decide +kernel
theorem dL_isProgram_187 : decode cL_isProgram 187 = .ok (.irem, 1) := by decide +kernel
theorem dL_isProgram_188 : decode cL_isProgram 188 = .ok (.iconst 3, 1) := by decide +kernel
theorem dL_isProgram_189 : decode cL_isProgram 189 = .ok (.isub, 1) := by decide +kernel
theorem dL_isProgram_190 : decode cL_isProgram 190 = .ok (.istore 13, 2) := by decide +kernel
theorem dL_isProgram_192 : decode cL_isProgram 192 = .ok (.iload 9, 2) := by decide +kernel
theorem dL_isProgram_194 : decode cL_isProgram 194 = .ok (.ifCond .eq 15, 3) := by decide +kernel
theorem dL_isProgram_197 : decode cL_isProgram 197 = .ok (.iload 10, 2) := by decide +kernel
theorem dL_isProgram_199 : decode cL_isProgram 199 = .ok (.aload_n 1, 1) := by decide +kernel
theorem dL_isProgram_200 : decode cL_isProgram 200 = .ok (.iconst 2, 1) := by decide +kernel
theorem dL_isProgram_201 : decode cL_isProgram 201 = .ok (.iaload, 1) := by decide +kernel
theorem dL_isProgram_202 : decode cL_isProgram 202 = .ok (.if_icmp .ge 7, 3) := by decide +kernel
theorem dL_isProgram_205 : decode cL_isProgram 205 = .ok (.iconst 1, 1) := by decide +kernel
theorem dL_isProgram_206 : decode cL_isProgram 206 = .ok (.goto 4, 3) := by decide +kernel
theorem dL_isProgram_209 : decode cL_isProgram 209 = .ok (.iconst 0, 1) := by decide +kernel
theorem dL_isProgram_210 : decode cL_isProgram 210 = .ok (.istore 14, 2) := by decide +kernel
theorem dL_isProgram_212 : decode cL_isProgram 212 = .ok (.iload 12, 2) := by decide +kernel
theorem dL_isProgram_214 : decode cL_isProgram 214 = .ok (.iconst 4, 1) := by decide +kernel
theorem dL_isProgram_215 : decode cL_isProgram 215 = .ok (.if_icmp .ge 13, 3) := by decide +kernel
theorem dL_isProgram_218 : decode cL_isProgram 218 = .ok (.iload 13, 2) := by decide +kernel
theorem dL_isProgram_220 : decode cL_isProgram 220 = .ok (.iconst 4, 1) := by decide +kernel
theorem dL_isProgram_221 : decode cL_isProgram 221 = .ok (.if_icmp .ge 7, 3) := by decide +kernel
theorem dL_isProgram_224 : decode cL_isProgram 224 = .ok (.iconst 1, 1) := by decide +kernel
theorem dL_isProgram_225 : decode cL_isProgram 225 = .ok (.goto 4, 3) := by decide +kernel
theorem dL_isProgram_228 : decode cL_isProgram 228 = .ok (.iconst 0, 1) := by decide +kernel
theorem dL_isProgram_229 : decode cL_isProgram 229 = .ok (.istore 15, 2) := by decide +kernel
theorem dL_isProgram_231 : decode cL_isProgram 231 = .ok (.iload 14, 2) := by decide +kernel
theorem dL_isProgram_233 : decode cL_isProgram 233 = .ok (.ifCond .eq 31, 3) := by decide +kernel
theorem dL_isProgram_236 : decode cL_isProgram 236 = .ok (.iload 15, 2) := by decide +kernel
theorem dL_isProgram_238 : decode cL_isProgram 238 = .ok (.ifCond .eq 26, 3) := by decide +kernel
theorem dL_isProgram_241 : decode cL_isProgram 241 = .ok (.aload_n 2, 1) := by decide +kernel
theorem dL_isProgram_242 : decode cL_isProgram 242 = .ok (.iconst 4, 1) := by decide +kernel
theorem dL_isProgram_243 : decode cL_isProgram 243 = .ok (.iload 9, 2) := by decide +kernel
theorem dL_isProgram_245 : decode cL_isProgram 245 = .ok (.ifCond .eq 8, 3) := by decide +kernel
theorem dL_isProgram_248 : decode cL_isProgram 248 = .ok (.iload 8, 2) := by decide +kernel
theorem dL_isProgram_250 : decode cL_isProgram 250 = .ok (.goto 4, 3) := by decide +kernel
theorem dL_isProgram_253 : decode cL_isProgram 253 = .ok (.iconst 0, 1) := by decide +kernel
theorem dL_isProgram_254 : decode cL_isProgram 254 = .ok (.iadd, 1) := by decide +kernel
theorem dL_isProgram_255 : decode cL_isProgram 255 = .ok (.iaload, 1) := by decide +kernel
theorem dL_isProgram_256 : decode cL_isProgram 256 = .ok (.iconst 4, 1) := by decide +kernel
theorem dL_isProgram_257 : decode cL_isProgram 257 = .ok (.if_icmp .ge 7, 3) := by decide +kernel
theorem dL_isProgram_260 : decode cL_isProgram 260 = .ok (.iconst 1, 1) := by decide +kernel
theorem dL_isProgram_261 : decode cL_isProgram 261 = .ok (.goto 4, 3) := by decide +kernel
theorem dL_isProgram_264 : decode cL_isProgram 264 = .ok (.iconst 0, 1) := by decide +kernel
theorem dL_isProgram_265 : decode cL_isProgram 265 = .ok (.istore 16, 2) := by decide +kernel
theorem dL_isProgram_267 : decode cL_isProgram 267 = .ok (.iload 16, 2) := by decide +kernel
theorem dL_isProgram_269 : decode cL_isProgram 269 = .ok (.ifCond .eq 50, 3) := by decide +kernel
theorem dL_isProgram_272 : decode cL_isProgram 272 = .ok (.aload_n 3, 1) := by decide +kernel
theorem dL_isProgram_273 : decode cL_isProgram 273 = .ok (.iconst 4, 1) := by decide +kernel
theorem dL_isProgram_274 : decode cL_isProgram 274 = .ok (.iload 8, 2) := by decide +kernel
theorem dL_isProgram_276 : decode cL_isProgram 276 = .ok (.imul, 1) := by decide +kernel
theorem dL_isProgram_277 : decode cL_isProgram 277 = .ok (.aload_n 2, 1) := by decide +kernel
theorem dL_isProgram_278 : decode cL_isProgram 278 = .ok (.iconst 4, 1) := by decide +kernel
theorem dL_isProgram_279 : decode cL_isProgram 279 = .ok (.iload 8, 2) := by decide +kernel
theorem dL_isProgram_281 : decode cL_isProgram 281 = .ok (.iadd, 1) := by decide +kernel
theorem dL_isProgram_282 : decode cL_isProgram 282 = .ok (.iaload, 1) := by decide +kernel
theorem dL_isProgram_283 : decode cL_isProgram 283 = .ok (.iadd, 1) := by decide +kernel
theorem dL_isProgram_284 : decode cL_isProgram 284 = .ok (.iload 10, 2) := by decide +kernel
theorem dL_isProgram_286 : decode cL_isProgram 286 = .ok (.bipush 8, 2) := by decide +kernel
theorem dL_isProgram_288 : decode cL_isProgram 288 = .ok (.iload 11, 2) := by decide +kernel
theorem dL_isProgram_290 : decode cL_isProgram 290 = .ok (.imul, 1) := by decide +kernel
theorem dL_isProgram_291 : decode cL_isProgram 291 = .ok (.iadd, 1) := by decide +kernel
theorem dL_isProgram_292 : decode cL_isProgram 292 = .ok (.sipush 128, 3) := by decide +kernel
theorem dL_isProgram_295 : decode cL_isProgram 295 = .ok (.iload 12, 2) := by decide +kernel
theorem dL_isProgram_297 : decode cL_isProgram 297 = .ok (.imul, 1) := by decide +kernel
theorem dL_isProgram_298 : decode cL_isProgram 298 = .ok (.iadd, 1) := by decide +kernel
theorem dL_isProgram_299 : decode cL_isProgram 299 = .ok (.sipush 1024, 3) := by decide +kernel
theorem dL_isProgram_302 : decode cL_isProgram 302 = .ok (.iload 13, 2) := by decide +kernel
theorem dL_isProgram_304 : decode cL_isProgram 304 = .ok (.iconst 3, 1) := by decide +kernel
theorem dL_isProgram_305 : decode cL_isProgram 305 = .ok (.iadd, 1) := by decide +kernel
theorem dL_isProgram_306 : decode cL_isProgram 306 = .ok (.imul, 1) := by decide +kernel
theorem dL_isProgram_307 : decode cL_isProgram 307 = .ok (.iadd, 1) := by decide +kernel
theorem dL_isProgram_308 : decode cL_isProgram 308 = .ok (.iastore, 1) := by decide +kernel
theorem dL_isProgram_309 : decode cL_isProgram 309 = .ok (.aload_n 2, 1) := by decide +kernel
theorem dL_isProgram_310 : decode cL_isProgram 310 = .ok (.iconst 4, 1) := by decide +kernel
theorem dL_isProgram_311 : decode cL_isProgram 311 = .ok (.iload 8, 2) := by decide +kernel
theorem dL_isProgram_313 : decode cL_isProgram 313 = .ok (.iadd, 1) := by decide +kernel
theorem dL_isProgram_314 : decode cL_isProgram 314 = .ok (.dup2, 1) := by decide +kernel
theorem dL_isProgram_315 : decode cL_isProgram 315 = .ok (.iaload, 1) := by decide +kernel
theorem dL_isProgram_316 : decode cL_isProgram 316 = .ok (.iconst 1, 1) := by decide +kernel
theorem dL_isProgram_317 : decode cL_isProgram 317 = .ok (.iadd, 1) := by decide +kernel
theorem dL_isProgram_318 : decode cL_isProgram 318 = .ok (.iastore, 1) := by decide +kernel
theorem dL_isProgram_319 : decode cL_isProgram 319 = .ok (.aload_n 0, 1) := by decide +kernel
theorem dL_isProgram_320 : decode cL_isProgram 320 = .ok (.iconst 1, 1) := by decide +kernel
theorem dL_isProgram_321 : decode cL_isProgram 321 = .ok (.iload 8, 2) := by decide +kernel
theorem dL_isProgram_323 : decode cL_isProgram 323 = .ok (.iload 10, 2) := by decide +kernel
theorem dL_isProgram_325 : decode cL_isProgram 325 = .ok (.iload 11, 2) := by decide +kernel
theorem dL_isProgram_327 : decode cL_isProgram 327 = .ok (.iload 12, 2) := by decide +kernel
theorem dL_isProgram_329 : decode cL_isProgram 329 = .ok (.iload 13, 2) := by decide +kernel
theorem dL_isProgram_331 : decode cL_isProgram 331 = .ok (.invokestatic 117, 3) := by decide +kernel
theorem dL_isProgram_334 : decode cL_isProgram 334 = .ok (.iload 14, 2) := by decide +kernel
theorem dL_isProgram_336 : decode cL_isProgram 336 = .ok (.ifCond .ne 9, 3) := by decide +kernel
theorem dL_isProgram_339 : decode cL_isProgram 339 = .ok (.sipush (-3000), 3) := by decide +kernel
theorem dL_isProgram_342 : decode cL_isProgram 342 = .ok (.goto 33, 3) := by decide +kernel
theorem dL_isProgram_345 : decode cL_isProgram 345 = .ok (.iload 15, 2) := by decide +kernel
theorem dL_isProgram_347 : decode cL_isProgram 347 = .ok (.ifCond .ne 9, 3) := by decide +kernel
theorem dL_isProgram_350 : decode cL_isProgram 350 = .ok (.sipush (-2000), 3) := by decide +kernel
theorem dL_isProgram_353 : decode cL_isProgram 353 = .ok (.goto 22, 3) := by decide +kernel
theorem dL_isProgram_356 : decode cL_isProgram 356 = .ok (.iload 16, 2) := by decide +kernel
theorem dL_isProgram_358 : decode cL_isProgram 358 = .ok (.ifCond .eq 14, 3) := by decide +kernel
theorem dL_isProgram_361 : decode cL_isProgram 361 = .ok (.aload_n 2, 1) := by decide +kernel
theorem dL_isProgram_362 : decode cL_isProgram 362 = .ok (.iconst 4, 1) := by decide +kernel
theorem dL_isProgram_363 : decode cL_isProgram 363 = .ok (.iload 8, 2) := by decide +kernel
theorem dL_isProgram_365 : decode cL_isProgram 365 = .ok (.iadd, 1) := by decide +kernel
theorem dL_isProgram_366 : decode cL_isProgram 366 = .ok (.iaload, 1) := by decide +kernel
theorem dL_isProgram_367 : decode cL_isProgram 367 = .ok (.iconst 1, 1) := by decide +kernel
theorem dL_isProgram_368 : decode cL_isProgram 368 = .ok (.isub, 1) := by decide +kernel
theorem dL_isProgram_369 : decode cL_isProgram 369 = .ok (.goto 6, 3) := by decide +kernel
theorem dL_isProgram_372 : decode cL_isProgram 372 = .ok (.sipush (-1000), 3) := by decide +kernel
theorem dL_isProgram_375 : decode cL_isProgram 375 = .ok (.if_icmp .ne 7, 3) := by decide +kernel
theorem dL_isProgram_378 : decode cL_isProgram 378 = .ok (.iconst 1, 1) := by decide +kernel
theorem dL_isProgram_379 : decode cL_isProgram 379 = .ok (.goto 4, 3) := by decide +kernel
theorem dL_isProgram_382 : decode cL_isProgram 382 = .ok (.iconst 0, 1) := by decide +kernel
theorem dL_isProgram_383 : decode cL_isProgram 383 = .ok (.ireturn, 1) := by decide +kernel
theorem dL_isProgram_384 : decode cL_isProgram 384 = .ok (.iload 5, 2) := by decide +kernel
theorem dL_isProgram_386 : decode cL_isProgram 386 = .ok (.iconst 5, 1) := by decide +kernel
theorem dL_isProgram_387 : decode cL_isProgram 387 = .ok (.if_icmp .ne 70, 3) := by decide +kernel
theorem dL_isProgram_390 : decode cL_isProgram 390 = .ok (.iload 9, 2) := by decide +kernel
theorem dL_isProgram_392 : decode cL_isProgram 392 = .ok (.ifCond .eq 12, 3) := by decide +kernel
theorem dL_isProgram_395 : decode cL_isProgram 395 = .ok (.aload_n 2, 1) := by decide +kernel
theorem dL_isProgram_396 : decode cL_isProgram 396 = .ok (.iconst 4, 1) := by decide +kernel
theorem dL_isProgram_397 : decode cL_isProgram 397 = .ok (.iload 8, 2) := by decide +kernel
theorem dL_isProgram_399 : decode cL_isProgram 399 = .ok (.iadd, 1) := by decide +kernel
theorem dL_isProgram_400 : decode cL_isProgram 400 = .ok (.iaload, 1) := by decide +kernel
theorem dL_isProgram_401 : decode cL_isProgram 401 = .ok (.goto 4, 3) := by decide +kernel
theorem dL_isProgram_404 : decode cL_isProgram 404 = .ok (.iconst 0, 1) := by decide +kernel
theorem dL_isProgram_405 : decode cL_isProgram 405 = .ok (.istore 10, 2) := by decide +kernel
theorem dL_isProgram_407 : decode cL_isProgram 407 = .ok (.aload_n 2, 1) := by decide +kernel
theorem dL_isProgram_408 : decode cL_isProgram 408 = .ok (.iload 9, 2) := by decide +kernel
theorem dL_isProgram_410 : decode cL_isProgram 410 = .ok (.ifCond .eq 10, 3) := by decide +kernel
theorem dL_isProgram_413 : decode cL_isProgram 413 = .ok (.iconst 4, 1) := by decide +kernel
theorem dL_isProgram_414 : decode cL_isProgram 414 = .ok (.iload 8, 2) := by decide +kernel
theorem dL_isProgram_416 : decode cL_isProgram 416 = .ok (.iadd, 1) := by decide +kernel
theorem dL_isProgram_417 : decode cL_isProgram 417 = .ok (.goto 5, 3) := by decide +kernel
theorem dL_isProgram_420 : decode cL_isProgram 420 = .ok (.bipush 28, 2) := by decide +kernel
theorem dL_isProgram_422 : decode cL_isProgram 422 = .ok (.iconst 0, 1) := by decide +kernel
theorem dL_isProgram_423 : decode cL_isProgram 423 = .ok (.iastore, 1) := by decide +kernel
theorem dL_isProgram_424 : decode cL_isProgram 424 = .ok (.aload_n 0, 1) := by decide +kernel
theorem dL_isProgram_425 : decode cL_isProgram 425 = .ok (.iconst 2, 1) := by decide +kernel
theorem dL_isProgram_426 : decode cL_isProgram 426 = .ok (.iload 8, 2) := by decide +kernel
theorem dL_isProgram_428 : decode cL_isProgram 428 = .ok (.iconst 0, 1) := by decide +kernel
theorem dL_isProgram_429 : decode cL_isProgram 429 = .ok (.iconst 0, 1) := by decide +kernel
theorem dL_isProgram_430 : decode cL_isProgram 430 = .ok (.iconst 0, 1) := by decide +kernel
theorem dL_isProgram_431 : decode cL_isProgram 431 = .ok (.iconst 0, 1) := by decide +kernel
theorem dL_isProgram_432 : decode cL_isProgram 432 = .ok (.invokestatic 117, 3) := by decide +kernel
theorem dL_isProgram_435 : decode cL_isProgram 435 = .ok (.iload 9, 2) := by decide +kernel
theorem dL_isProgram_437 : decode cL_isProgram 437 = .ok (.ifCond .eq 8, 3) := by decide +kernel
theorem dL_isProgram_440 : decode cL_isProgram 440 = .ok (.iload 10, 2) := by decide +kernel
theorem dL_isProgram_442 : decode cL_isProgram 442 = .ok (.goto 6, 3) := by decide +kernel
theorem dL_isProgram_445 : decode cL_isProgram 445 = .ok (.sipush (-3000), 3) := by decide +kernel
theorem dL_isProgram_448 : decode cL_isProgram 448 = .ok (.if_icmp .ne 7, 3) := by decide +kernel
theorem dL_isProgram_451 : decode cL_isProgram 451 = .ok (.iconst 1, 1) := by decide +kernel
theorem dL_isProgram_452 : decode cL_isProgram 452 = .ok (.goto 4, 3) := by decide +kernel
theorem dL_isProgram_455 : decode cL_isProgram 455 = .ok (.iconst 0, 1) := by decide +kernel
theorem dL_isProgram_456 : decode cL_isProgram 456 = .ok (.ireturn, 1) := by decide +kernel
theorem dL_isProgram_457 : decode cL_isProgram 457 = .ok (.iload 5, 2) := by decide +kernel
theorem dL_isProgram_459 : decode cL_isProgram 459 = .ok (.bipush 6, 2) := by decide +kernel
theorem dL_isProgram_461 : decode cL_isProgram 461 = .ok (.if_icmp .ne 78, 3) := by decide +kernel
theorem dL_isProgram_464 : decode cL_isProgram 464 = .ok (.iload 9, 2) := by decide +kernel
theorem dL_isProgram_466 : decode cL_isProgram 466 = .ok (.ifCond .eq 13, 3) := by decide +kernel
theorem dL_isProgram_469 : decode cL_isProgram 469 = .ok (.aload_n 2, 1) := by decide +kernel
theorem dL_isProgram_470 : decode cL_isProgram 470 = .ok (.bipush 8, 2) := by decide +kernel
theorem dL_isProgram_472 : decode cL_isProgram 472 = .ok (.iload 8, 2) := by decide +kernel
theorem dL_isProgram_474 : decode cL_isProgram 474 = .ok (.iadd, 1) := by decide +kernel
theorem dL_isProgram_475 : decode cL_isProgram 475 = .ok (.iaload, 1) := by decide +kernel
theorem dL_isProgram_476 : decode cL_isProgram 476 = .ok (.goto 4, 3) := by decide +kernel
theorem dL_isProgram_479 : decode cL_isProgram 479 = .ok (.iconst 0, 1) := by decide +kernel
theorem dL_isProgram_480 : decode cL_isProgram 480 = .ok (.istore 10, 2) := by decide +kernel
theorem dL_isProgram_482 : decode cL_isProgram 482 = .ok (.aload_n 2, 1) := by decide +kernel
theorem dL_isProgram_483 : decode cL_isProgram 483 = .ok (.iload 9, 2) := by decide +kernel
theorem dL_isProgram_485 : decode cL_isProgram 485 = .ok (.ifCond .eq 11, 3) := by decide +kernel
theorem dL_isProgram_488 : decode cL_isProgram 488 = .ok (.bipush 8, 2) := by decide +kernel
theorem dL_isProgram_490 : decode cL_isProgram 490 = .ok (.iload 8, 2) := by decide +kernel
theorem dL_isProgram_492 : decode cL_isProgram 492 = .ok (.iadd, 1) := by decide +kernel
theorem dL_isProgram_493 : decode cL_isProgram 493 = .ok (.goto 5, 3) := by decide +kernel
theorem dL_isProgram_496 : decode cL_isProgram 496 = .ok (.bipush 28, 2) := by decide +kernel
theorem dL_isProgram_498 : decode cL_isProgram 498 = .ok (.iload 7, 2) := by decide +kernel
theorem dL_isProgram_500 : decode cL_isProgram 500 = .ok (.iconst 2, 1) := by decide +kernel
theorem dL_isProgram_501 : decode cL_isProgram 501 = .ok (.irem, 1) := by decide +kernel
theorem dL_isProgram_502 : decode cL_isProgram 502 = .ok (.iastore, 1) := by decide +kernel
theorem dL_isProgram_503 : decode cL_isProgram 503 = .ok (.aload_n 0, 1) := by decide +kernel
theorem dL_isProgram_504 : decode cL_isProgram 504 = .ok (.iconst 3, 1) := by decide +kernel
theorem dL_isProgram_505 : decode cL_isProgram 505 = .ok (.iload 8, 2) := by decide +kernel
theorem dL_isProgram_507 : decode cL_isProgram 507 = .ok (.iload 7, 2) := by decide +kernel
theorem dL_isProgram_509 : decode cL_isProgram 509 = .ok (.iconst 2, 1) := by decide +kernel
theorem dL_isProgram_510 : decode cL_isProgram 510 = .ok (.irem, 1) := by decide +kernel
theorem dL_isProgram_511 : decode cL_isProgram 511 = .ok (.iconst 0, 1) := by decide +kernel
theorem dL_isProgram_512 : decode cL_isProgram 512 = .ok (.iconst 0, 1) := by decide +kernel
theorem dL_isProgram_513 : decode cL_isProgram 513 = .ok (.iconst 0, 1) := by decide +kernel
theorem dL_isProgram_514 : decode cL_isProgram 514 = .ok (.invokestatic 117, 3) := by decide +kernel
theorem dL_isProgram_517 : decode cL_isProgram 517 = .ok (.iload 9, 2) := by decide +kernel
theorem dL_isProgram_519 : decode cL_isProgram 519 = .ok (.ifCond .eq 8, 3) := by decide +kernel
theorem dL_isProgram_522 : decode cL_isProgram 522 = .ok (.iload 10, 2) := by decide +kernel
theorem dL_isProgram_524 : decode cL_isProgram 524 = .ok (.goto 6, 3) := by decide +kernel
theorem dL_isProgram_527 : decode cL_isProgram 527 = .ok (.sipush (-3000), 3) := by decide +kernel
theorem dL_isProgram_530 : decode cL_isProgram 530 = .ok (.if_icmp .ne 7, 3) := by decide +kernel
theorem dL_isProgram_533 : decode cL_isProgram 533 = .ok (.iconst 1, 1) := by decide +kernel
theorem dL_isProgram_534 : decode cL_isProgram 534 = .ok (.goto 4, 3) := by decide +kernel
theorem dL_isProgram_537 : decode cL_isProgram 537 = .ok (.iconst 0, 1) := by decide +kernel
theorem dL_isProgram_538 : decode cL_isProgram 538 = .ok (.ireturn, 1) := by decide +kernel
theorem dL_isProgram_539 : decode cL_isProgram 539 = .ok (.iload 5, 2) := by decide +kernel
theorem dL_isProgram_541 : decode cL_isProgram 541 = .ok (.bipush 7, 2) := by decide +kernel
theorem dL_isProgram_543 : decode cL_isProgram 543 = .ok (.if_icmp .ne 65, 3) := by decide +kernel
theorem dL_isProgram_546 : decode cL_isProgram 546 = .ok (.aload_n 1, 1) := by decide +kernel
theorem dL_isProgram_547 : decode cL_isProgram 547 = .ok (.iconst 0, 1) := by decide +kernel
theorem dL_isProgram_548 : decode cL_isProgram 548 = .ok (.iconst 1, 1) := by decide +kernel
theorem dL_isProgram_549 : decode cL_isProgram 549 = .ok (.iload 6, 2) := by decide +kernel
theorem dL_isProgram_551 : decode cL_isProgram 551 = .ok (.iconst 4, 1) := by decide +kernel
theorem dL_isProgram_552 : decode cL_isProgram 552 = .ok (.irem, 1) := by decide +kernel
theorem dL_isProgram_553 : decode cL_isProgram 553 = .ok (.iadd, 1) := by decide +kernel
theorem dL_isProgram_554 : decode cL_isProgram 554 = .ok (.iastore, 1) := by decide +kernel
theorem dL_isProgram_555 : decode cL_isProgram 555 = .ok (.aload_n 1, 1) := by decide +kernel
theorem dL_isProgram_556 : decode cL_isProgram 556 = .ok (.iconst 1, 1) := by decide +kernel
theorem dL_isProgram_557 : decode cL_isProgram 557 = .ok (.iconst 1, 1) := by decide +kernel
theorem dL_isProgram_558 : decode cL_isProgram 558 = .ok (.iload 7, 2) := by decide +kernel
theorem dL_isProgram_560 : decode cL_isProgram 560 = .ok (.iconst 4, 1) := by decide +kernel
theorem dL_isProgram_561 : decode cL_isProgram 561 = .ok (.irem, 1) := by decide +kernel
theorem dL_isProgram_562 : decode cL_isProgram 562 = .ok (.iadd, 1) := by decide +kernel
theorem dL_isProgram_563 : decode cL_isProgram 563 = .ok (.iastore, 1) := by decide +kernel
theorem dL_isProgram_564 : decode cL_isProgram 564 = .ok (.aload_n 0, 1) := by decide +kernel
theorem dL_isProgram_565 : decode cL_isProgram 565 = .ok (.iconst 4, 1) := by decide +kernel
theorem dL_isProgram_566 : decode cL_isProgram 566 = .ok (.aload_n 1, 1) := by decide +kernel
theorem dL_isProgram_567 : decode cL_isProgram 567 = .ok (.iconst 0, 1) := by decide +kernel
theorem dL_isProgram_568 : decode cL_isProgram 568 = .ok (.iaload, 1) := by decide +kernel
theorem dL_isProgram_569 : decode cL_isProgram 569 = .ok (.aload_n 1, 1) := by decide +kernel
theorem dL_isProgram_570 : decode cL_isProgram 570 = .ok (.iconst 1, 1) := by decide +kernel
theorem dL_isProgram_571 : decode cL_isProgram 571 = .ok (.iaload, 1) := by decide +kernel
theorem dL_isProgram_572 : decode cL_isProgram 572 = .ok (.iconst 0, 1) := by decide +kernel
theorem dL_isProgram_573 : decode cL_isProgram 573 = .ok (.iconst 0, 1) := by decide +kernel
theorem dL_isProgram_574 : decode cL_isProgram 574 = .ok (.iconst 0, 1) := by decide +kernel
theorem dL_isProgram_575 : decode cL_isProgram 575 = .ok (.invokestatic 117, 3) := by decide +kernel
theorem dL_isProgram_578 : decode cL_isProgram 578 = .ok (.aload_n 1, 1) := by decide +kernel
theorem dL_isProgram_579 : decode cL_isProgram 579 = .ok (.invokestatic 77, 3) := by decide +kernel
theorem dL_isProgram_582 : decode cL_isProgram 582 = .ok (.if_icmp .ne 24, 3) := by decide +kernel
theorem dL_isProgram_585 : decode cL_isProgram 585 = .ok (.aload_n 0, 1) := by decide +kernel
theorem dL_isProgram_586 : decode cL_isProgram 586 = .ok (.iconst 4, 1) := by decide +kernel
theorem dL_isProgram_587 : decode cL_isProgram 587 = .ok (.bipush 9, 2) := by decide +kernel
theorem dL_isProgram_589 : decode cL_isProgram 589 = .ok (.iconst 1, 1) := by decide +kernel
theorem dL_isProgram_590 : decode cL_isProgram 590 = .ok (.iconst 0, 1) := by decide +kernel
theorem dL_isProgram_591 : decode cL_isProgram 591 = .ok (.iconst 0, 1) := by decide +kernel
theorem dL_isProgram_592 : decode cL_isProgram 592 = .ok (.iconst 0, 1) := by decide +kernel
theorem dL_isProgram_593 : decode cL_isProgram 593 = .ok (.invokestatic 117, 3) := by decide +kernel
theorem dL_isProgram_596 : decode cL_isProgram 596 = .ok (.sipush (-2000), 3) := by decide +kernel
theorem dL_isProgram_599 : decode cL_isProgram 599 = .ok (.if_icmp .ne 7, 3) := by decide +kernel
theorem dL_isProgram_602 : decode cL_isProgram 602 = .ok (.iconst 1, 1) := by decide +kernel
theorem dL_isProgram_603 : decode cL_isProgram 603 = .ok (.goto 4, 3) := by decide +kernel
theorem dL_isProgram_606 : decode cL_isProgram 606 = .ok (.iconst 0, 1) := by decide +kernel
theorem dL_isProgram_607 : decode cL_isProgram 607 = .ok (.ireturn, 1) := by decide +kernel
theorem dL_isProgram_608 : decode cL_isProgram 608 = .ok (.iload 5, 2) := by decide +kernel
theorem dL_isProgram_610 : decode cL_isProgram 610 = .ok (.bipush 10, 2) := by decide +kernel
theorem dL_isProgram_612 : decode cL_isProgram 612 = .ok (.if_icmp .ge 97, 3) := by decide +kernel
theorem dL_isProgram_615 : decode cL_isProgram 615 = .ok (.aload_n 1, 1) := by decide +kernel
theorem dL_isProgram_616 : decode cL_isProgram 616 = .ok (.iconst 3, 1) := by decide +kernel
theorem dL_isProgram_617 : decode cL_isProgram 617 = .ok (.iload 7, 2) := by decide +kernel
theorem dL_isProgram_619 : decode cL_isProgram 619 = .ok (.iconst 5, 1) := by decide +kernel
theorem dL_isProgram_620 : decode cL_isProgram 620 = .ok (.irem, 1) := by decide +kernel
theorem dL_isProgram_621 : decode cL_isProgram 621 = .ok (.ifCond .ne 11, 3) := by decide +kernel
theorem dL_isProgram_624 : decode cL_isProgram 624 = .ok (.iload 6, 2) := by decide +kernel
theorem dL_isProgram_626 : decode cL_isProgram 626 = .ok (.bipush 10, 2) := by decide +kernel
theorem dL_isProgram_628 : decode cL_isProgram 628 = .ok (.irem, 1) := by decide +kernel
theorem dL_isProgram_629 : decode cL_isProgram 629 = .ok (.goto 7, 3) := by decide +kernel
theorem dL_isProgram_632 : decode cL_isProgram 632 = .ok (.iload 6, 2) := by decide +kernel
theorem dL_isProgram_634 : decode cL_isProgram 634 = .ok (.iconst 4, 1) := by decide +kernel
theorem dL_isProgram_635 : decode cL_isProgram 635 = .ok (.irem, 1) := by decide +kernel
theorem dL_isProgram_636 : decode cL_isProgram 636 = .ok (.iastore, 1) := by decide +kernel
theorem dL_isProgram_637 : decode cL_isProgram 637 = .ok (.aload_n 1, 1) := by decide +kernel
theorem dL_isProgram_638 : decode cL_isProgram 638 = .ok (.iconst 4, 1) := by decide +kernel
theorem dL_isProgram_639 : decode cL_isProgram 639 = .ok (.iload 7, 2) := by decide +kernel
theorem dL_isProgram_641 : decode cL_isProgram 641 = .ok (.iconst 5, 1) := by decide +kernel
theorem dL_isProgram_642 : decode cL_isProgram 642 = .ok (.idiv, 1) := by decide +kernel
theorem dL_isProgram_643 : decode cL_isProgram 643 = .ok (.iconst 4, 1) := by decide +kernel
theorem dL_isProgram_644 : decode cL_isProgram 644 = .ok (.irem, 1) := by decide +kernel
theorem dL_isProgram_645 : decode cL_isProgram 645 = .ok (.iastore, 1) := by decide +kernel
theorem dL_isProgram_646 : decode cL_isProgram 646 = .ok (.aload_n 1, 1) := by decide +kernel
theorem dL_isProgram_647 : decode cL_isProgram 647 = .ok (.aload_n 2, 1) := by decide +kernel
theorem dL_isProgram_648 : decode cL_isProgram 648 = .ok (.aload 4, 2) := by decide +kernel
theorem dL_isProgram_650 : decode cL_isProgram 650 = .ok (.invokestatic 206, 3) := by decide +kernel
theorem dL_isProgram_653 : decode cL_isProgram 653 = .ok (.aload_n 0, 1) := by decide +kernel
theorem dL_isProgram_654 : decode cL_isProgram 654 = .ok (.iconst 5, 1) := by decide +kernel
theorem dL_isProgram_655 : decode cL_isProgram 655 = .ok (.aload_n 1, 1) := by decide +kernel
theorem dL_isProgram_656 : decode cL_isProgram 656 = .ok (.iconst 3, 1) := by decide +kernel
theorem dL_isProgram_657 : decode cL_isProgram 657 = .ok (.iaload, 1) := by decide +kernel
theorem dL_isProgram_658 : decode cL_isProgram 658 = .ok (.aload_n 1, 1) := by decide +kernel
theorem dL_isProgram_659 : decode cL_isProgram 659 = .ok (.iconst 4, 1) := by decide +kernel
theorem dL_isProgram_660 : decode cL_isProgram 660 = .ok (.iaload, 1) := by decide +kernel
theorem dL_isProgram_661 : decode cL_isProgram 661 = .ok (.iconst 0, 1) := by decide +kernel
theorem dL_isProgram_662 : decode cL_isProgram 662 = .ok (.iconst 0, 1) := by decide +kernel
theorem dL_isProgram_663 : decode cL_isProgram 663 = .ok (.iconst 0, 1) := by decide +kernel
theorem dL_isProgram_664 : decode cL_isProgram 664 = .ok (.invokestatic 117, 3) := by decide +kernel
theorem dL_isProgram_667 : decode cL_isProgram 667 = .ok (.aload_n 1, 1) := by decide +kernel
theorem dL_isProgram_668 : decode cL_isProgram 668 = .ok (.aload_n 2, 1) := by decide +kernel
theorem dL_isProgram_669 : decode cL_isProgram 669 = .ok (.aload_n 3, 1) := by decide +kernel
theorem dL_isProgram_670 : decode cL_isProgram 670 = .ok (.aload 4, 2) := by decide +kernel
theorem dL_isProgram_672 : decode cL_isProgram 672 = .ok (.invokestatic 114, 3) := by decide +kernel
theorem dL_isProgram_675 : decode cL_isProgram 675 = .ok (.ifCond .eq 7, 3) := by decide +kernel
theorem dL_isProgram_678 : decode cL_isProgram 678 = .ok (.iconst 1, 1) := by decide +kernel
theorem dL_isProgram_679 : decode cL_isProgram 679 = .ok (.goto 4, 3) := by decide +kernel
theorem dL_isProgram_682 : decode cL_isProgram 682 = .ok (.iconst 0, 1) := by decide +kernel
theorem dL_isProgram_683 : decode cL_isProgram 683 = .ok (.if_icmp .ne 24, 3) := by decide +kernel
theorem dL_isProgram_686 : decode cL_isProgram 686 = .ok (.aload_n 0, 1) := by decide +kernel
theorem dL_isProgram_687 : decode cL_isProgram 687 = .ok (.iconst 5, 1) := by decide +kernel
theorem dL_isProgram_688 : decode cL_isProgram 688 = .ok (.bipush 10, 2) := by decide +kernel
theorem dL_isProgram_690 : decode cL_isProgram 690 = .ok (.iconst 0, 1) := by decide +kernel
theorem dL_isProgram_691 : decode cL_isProgram 691 = .ok (.iconst 0, 1) := by decide +kernel
theorem dL_isProgram_692 : decode cL_isProgram 692 = .ok (.iconst 0, 1) := by decide +kernel
theorem dL_isProgram_693 : decode cL_isProgram 693 = .ok (.iconst 0, 1) := by decide +kernel
theorem dL_isProgram_694 : decode cL_isProgram 694 = .ok (.invokestatic 117, 3) := by decide +kernel
theorem dL_isProgram_697 : decode cL_isProgram 697 = .ok (.sipush (-2000), 3) := by decide +kernel
theorem dL_isProgram_700 : decode cL_isProgram 700 = .ok (.if_icmp .ne 7, 3) := by decide +kernel
theorem dL_isProgram_703 : decode cL_isProgram 703 = .ok (.iconst 1, 1) := by decide +kernel
theorem dL_isProgram_704 : decode cL_isProgram 704 = .ok (.goto 4, 3) := by decide +kernel
theorem dL_isProgram_707 : decode cL_isProgram 707 = .ok (.iconst 0, 1) := by decide +kernel
theorem dL_isProgram_708 : decode cL_isProgram 708 = .ok (.ireturn, 1) := by decide +kernel
theorem dL_isProgram_709 : decode cL_isProgram 709 = .ok (.iload 7, 2) := by decide +kernel
theorem dL_isProgram_711 : decode cL_isProgram 711 = .ok (.iconst 3, 1) := by decide +kernel
theorem dL_isProgram_712 : decode cL_isProgram 712 = .ok (.irem, 1) := by decide +kernel
theorem dL_isProgram_713 : decode cL_isProgram 713 = .ok (.ifCond .ne 11, 3) := by decide +kernel
theorem dL_isProgram_716 : decode cL_isProgram 716 = .ok (.iload 7, 2) := by decide +kernel
theorem dL_isProgram_718 : decode cL_isProgram 718 = .ok (.bipush 31, 2) := by decide +kernel
theorem dL_isProgram_720 : decode cL_isProgram 720 = .ok (.irem, 1) := by decide +kernel
theorem dL_isProgram_721 : decode cL_isProgram 721 = .ok (.goto 7, 3) := by decide +kernel
theorem dL_isProgram_724 : decode cL_isProgram 724 = .ok (.iload 7, 2) := by decide +kernel
theorem dL_isProgram_726 : decode cL_isProgram 726 = .ok (.iconst 4, 1) := by decide +kernel
theorem dL_isProgram_727 : decode cL_isProgram 727 = .ok (.irem, 1) := by decide +kernel
theorem dL_isProgram_728 : decode cL_isProgram 728 = .ok (.istore 10, 2) := by decide +kernel
theorem dL_isProgram_730 : decode cL_isProgram 730 = .ok (.aload_n 2, 1) := by decide +kernel
theorem dL_isProgram_731 : decode cL_isProgram 731 = .ok (.iload 9, 2) := by decide +kernel
theorem dL_isProgram_733 : decode cL_isProgram 733 = .ok (.ifCond .eq 11, 3) := by decide +kernel
theorem dL_isProgram_736 : decode cL_isProgram 736 = .ok (.bipush 12, 2) := by decide +kernel
theorem dL_isProgram_738 : decode cL_isProgram 738 = .ok (.iload 8, 2) := by decide +kernel
theorem dL_isProgram_740 : decode cL_isProgram 740 = .ok (.iadd, 1) := by decide +kernel
theorem dL_isProgram_741 : decode cL_isProgram 741 = .ok (.goto 5, 3) := by decide +kernel
theorem dL_isProgram_744 : decode cL_isProgram 744 = .ok (.bipush 28, 2) := by decide +kernel
theorem dL_isProgram_746 : decode cL_isProgram 746 = .ok (.iload 10, 2) := by decide +kernel
theorem dL_isProgram_748 : decode cL_isProgram 748 = .ok (.iastore, 1) := by decide +kernel
theorem dL_isProgram_749 : decode cL_isProgram 749 = .ok (.aload_n 1, 1) := by decide +kernel
theorem dL_isProgram_750 : decode cL_isProgram 750 = .ok (.aload_n 2, 1) := by decide +kernel
theorem dL_isProgram_751 : decode cL_isProgram 751 = .ok (.aload 4, 2) := by decide +kernel
theorem dL_isProgram_753 : decode cL_isProgram 753 = .ok (.invokestatic 206, 3) := by decide +kernel
theorem dL_isProgram_756 : decode cL_isProgram 756 = .ok (.aload_n 0, 1) := by decide +kernel
theorem dL_isProgram_757 : decode cL_isProgram 757 = .ok (.bipush 6, 2) := by decide +kernel
theorem dL_isProgram_759 : decode cL_isProgram 759 = .ok (.iload 8, 2) := by decide +kernel
theorem dL_isProgram_761 : decode cL_isProgram 761 = .ok (.iload 10, 2) := by decide +kernel
theorem dL_isProgram_763 : decode cL_isProgram 763 = .ok (.iconst 0, 1) := by decide +kernel
theorem dL_isProgram_764 : decode cL_isProgram 764 = .ok (.iconst 0, 1) := by decide +kernel
theorem dL_isProgram_765 : decode cL_isProgram 765 = .ok (.iconst 0, 1) := by decide +kernel
theorem dL_isProgram_766 : decode cL_isProgram 766 = .ok (.invokestatic 117, 3) := by decide +kernel
theorem dL_isProgram_769 : decode cL_isProgram 769 = .ok (.iload 9, 2) := by decide +kernel
theorem dL_isProgram_771 : decode cL_isProgram 771 = .ok (.ifCond .eq 22, 3) := by decide +kernel
theorem dL_isProgram_774 : decode cL_isProgram 774 = .ok (.aload_n 1, 1) := by decide +kernel
theorem dL_isProgram_775 : decode cL_isProgram 775 = .ok (.aload_n 2, 1) := by decide +kernel
theorem dL_isProgram_776 : decode cL_isProgram 776 = .ok (.aload_n 3, 1) := by decide +kernel
theorem dL_isProgram_777 : decode cL_isProgram 777 = .ok (.aload 4, 2) := by decide +kernel
theorem dL_isProgram_779 : decode cL_isProgram 779 = .ok (.invokestatic 114, 3) := by decide +kernel
theorem dL_isProgram_782 : decode cL_isProgram 782 = .ok (.ifCond .eq 7, 3) := by decide +kernel
theorem dL_isProgram_785 : decode cL_isProgram 785 = .ok (.iconst 1, 1) := by decide +kernel
theorem dL_isProgram_786 : decode cL_isProgram 786 = .ok (.goto 10, 3) := by decide +kernel
theorem dL_isProgram_789 : decode cL_isProgram 789 = .ok (.iconst 0, 1) := by decide +kernel
theorem dL_isProgram_790 : decode cL_isProgram 790 = .ok (.goto 6, 3) := by decide +kernel
theorem dL_isProgram_793 : decode cL_isProgram 793 = .ok (.sipush (-3000), 3) := by decide +kernel
theorem dL_isProgram_796 : decode cL_isProgram 796 = .ok (.if_icmp .ne 7, 3) := by decide +kernel
theorem dL_isProgram_799 : decode cL_isProgram 799 = .ok (.iconst 1, 1) := by decide +kernel
theorem dL_isProgram_800 : decode cL_isProgram 800 = .ok (.goto 4, 3) := by decide +kernel
theorem dL_isProgram_803 : decode cL_isProgram 803 = .ok (.iconst 0, 1) := by decide +kernel
theorem dL_isProgram_804 : decode cL_isProgram 804 = .ok (.ireturn, 1) := by decide +kernel
theorem dL_isWindow_0 : decode cL_isWindow 0 = .ok (.iload 4, 2) := by decide +kernel
theorem dL_isWindow_2 : decode cL_isWindow 2 = .ok (.aload_n 1, 1) := by decide +kernel
theorem dL_isWindow_3 : decode cL_isWindow 3 = .ok (.iconst 2, 1) := by decide +kernel
theorem dL_isWindow_4 : decode cL_isWindow 4 = .ok (.iaload, 1) := by decide +kernel
theorem dL_isWindow_5 : decode cL_isWindow 5 = .ok (.iconst 1, 1) := by decide +kernel
theorem dL_isWindow_6 : decode cL_isWindow 6 = .ok (.iadd, 1) := by decide +kernel
theorem dL_isWindow_7 : decode cL_isWindow 7 = .ok (.irem, 1) := by decide +kernel
theorem dL_isWindow_8 : decode cL_isWindow 8 = .ok (.istore 6, 2) := by decide +kernel
theorem dL_isWindow_10 : decode cL_isWindow 10 = .ok (.iload 6, 2) := by decide +kernel
theorem dL_isWindow_12 : decode cL_isWindow 12 = .ok (.aload_n 1, 1) := by decide +kernel
theorem dL_isWindow_13 : decode cL_isWindow 13 = .ok (.iconst 2, 1) := by decide +kernel
theorem dL_isWindow_14 : decode cL_isWindow 14 = .ok (.iaload, 1) := by decide +kernel
theorem dL_isWindow_15 : decode cL_isWindow 15 = .ok (.if_icmp .ge 7, 3) := by decide +kernel
theorem dL_isWindow_18 : decode cL_isWindow 18 = .ok (.iconst 1, 1) := by decide +kernel
theorem dL_isWindow_19 : decode cL_isWindow 19 = .ok (.goto 4, 3) := by decide +kernel
theorem dL_isWindow_22 : decode cL_isWindow 22 = .ok (.iconst 0, 1) := by decide +kernel
theorem dL_isWindow_23 : decode cL_isWindow 23 = .ok (.istore 7, 2) := by decide +kernel
theorem dL_isWindow_25 : decode cL_isWindow 25 = .ok (.iload 5, 2) := by decide +kernel
theorem dL_isWindow_27 : decode cL_isWindow 27 = .ok (.bipush 9, 2) := by decide +kernel
theorem dL_isWindow_29 : decode cL_isWindow 29 = .ok (.irem, 1) := by decide +kernel
theorem dL_isWindow_30 : decode cL_isWindow 30 = .ok (.ifCond .ne 7, 3) := by decide +kernel
theorem dL_isWindow_33 : decode cL_isWindow 33 = .ok (.iconst 0, 1) := by decide +kernel
theorem dL_isWindow_34 : decode cL_isWindow 34 = .ok (.goto 54, 3) := by decide +kernel
theorem dL_isWindow_37 : decode cL_isWindow 37 = .ok (.iload 5, 2) := by decide +kernel
theorem dL_isWindow_39 : decode cL_isWindow 39 = .ok (.bipush 9, 2) := by decide +kernel
theorem dL_isWindow_41 : decode cL_isWindow 41 = .ok (.irem, 1) := by decide +kernel
theorem dL_isWindow_42 : decode cL_isWindow 42 = .ok (.iconst 1, 1) := by decide +kernel
theorem dL_isWindow_43 : decode cL_isWindow 43 = .ok (.if_icmp .ne 8, 3) := by decide +kernel
theorem dL_isWindow_46 : decode cL_isWindow 46 = .ok (.bipush 100, 2) := by decide +kernel
theorem dL_isWindow_48 : decode cL_isWindow 48 = .ok (.goto 40, 3) := by decide +kernel
theorem dL_isWindow_51 : decode cL_isWindow 51 = .ok (.iload 5, 2) := by decide +kernel
theorem dL_isWindow_53 : decode cL_isWindow 53 = .ok (.bipush 9, 2) := by decide +kernel
theorem dL_isWindow_55 : decode cL_isWindow 55 = .ok (.irem, 1) := by decide +kernel
theorem dL_isWindow_56 : decode cL_isWindow 56 = .ok (.iconst 2, 1) := by decide +kernel
theorem dL_isWindow_57 : decode cL_isWindow 57 = .ok (.if_icmp .ne 21, 3) := by decide +kernel
theorem dL_isWindow_60 : decode cL_isWindow 60 = .ok (.iload_n 3, 1) := by decide +kernel
theorem dL_isWindow_61 : decode cL_isWindow 61 = .ok (.iconst 2, 1) := by decide +kernel
theorem dL_isWindow_62 : decode cL_isWindow 62 = .ok (.if_icmp .eq 16, 3) := by decide +kernel
theorem dL_isWindow_65 : decode cL_isWindow 65 = .ok (.iconst 1, 1) := by decide +kernel
theorem dL_isWindow_66 : decode cL_isWindow 66 = .ok (.iload 5, 2) := by decide +kernel
theorem dL_isWindow_68 : decode cL_isWindow 68 = .ok (.bipush 9, 2) := by decide +kernel
theorem dL_isWindow_70 : decode cL_isWindow 70 = .ok (.idiv, 1) := by decide +kernel
theorem dL_isWindow_71 : decode cL_isWindow 71 = .ok (.bipush 99, 2) := by decide +kernel
theorem dL_isWindow_73 : decode cL_isWindow 73 = .ok (.irem, 1) := by decide +kernel
theorem dL_isWindow_74 : decode cL_isWindow 74 = .ok (.iadd, 1) := by decide +kernel
theorem dL_isWindow_75 : decode cL_isWindow 75 = .ok (.goto 13, 3) := by decide +kernel
theorem dL_isWindow_78 : decode cL_isWindow 78 = .ok (.iconst 1, 1) := by decide +kernel
theorem dL_isWindow_79 : decode cL_isWindow 79 = .ok (.iload 5, 2) := by decide +kernel
theorem dL_isWindow_81 : decode cL_isWindow 81 = .ok (.bipush 9, 2) := by decide +kernel
theorem dL_isWindow_83 : decode cL_isWindow 83 = .ok (.idiv, 1) := by decide +kernel
theorem dL_isWindow_84 : decode cL_isWindow 84 = .ok (.bipush 9, 2) := by decide +kernel
theorem dL_isWindow_86 : decode cL_isWindow 86 = .ok (.irem, 1) := by decide +kernel
theorem dL_isWindow_87 : decode cL_isWindow 87 = .ok (.iadd, 1) := by decide +kernel
theorem dL_isWindow_88 : decode cL_isWindow 88 = .ok (.istore 8, 2) := by decide +kernel
theorem dL_isWindow_90 : decode cL_isWindow 90 = .ok (.iload 5, 2) := by decide +kernel
theorem dL_isWindow_92 : decode cL_isWindow 92 = .ok (.bipush 81, 2) := by decide +kernel
theorem dL_isWindow_94 : decode cL_isWindow 94 = .ok (.idiv, 1) := by decide +kernel
theorem dL_isWindow_95 : decode cL_isWindow 95 = .ok (.bipush 9, 2) := by decide +kernel
theorem dL_isWindow_97 : decode cL_isWindow 97 = .ok (.irem, 1) := by decide +kernel
theorem dL_isWindow_98 : decode cL_isWindow 98 = .ok (.ifCond .ne 8, 3) := by decide +kernel
theorem dL_isWindow_101 : decode cL_isWindow 101 = .ok (.bipush 100, 2) := by decide +kernel
theorem dL_isWindow_103 : decode cL_isWindow 103 = .ok (.goto 57, 3) := by decide +kernel
theorem dL_isWindow_106 : decode cL_isWindow 106 = .ok (.iload 5, 2) := by decide +kernel
theorem dL_isWindow_108 : decode cL_isWindow 108 = .ok (.bipush 81, 2) := by decide +kernel
theorem dL_isWindow_110 : decode cL_isWindow 110 = .ok (.idiv, 1) := by decide +kernel
theorem dL_isWindow_111 : decode cL_isWindow 111 = .ok (.bipush 9, 2) := by decide +kernel
theorem dL_isWindow_113 : decode cL_isWindow 113 = .ok (.irem, 1) := by decide +kernel
theorem dL_isWindow_114 : decode cL_isWindow 114 = .ok (.iconst 1, 1) := by decide +kernel
theorem dL_isWindow_115 : decode cL_isWindow 115 = .ok (.if_icmp .ne 7, 3) := by decide +kernel
theorem dL_isWindow_118 : decode cL_isWindow 118 = .ok (.iconst 0, 1) := by decide +kernel
theorem dL_isWindow_119 : decode cL_isWindow 119 = .ok (.goto 41, 3) := by decide +kernel
theorem dL_isWindow_122 : decode cL_isWindow 122 = .ok (.iload 5, 2) := by decide +kernel
theorem dL_isWindow_124 : decode cL_isWindow 124 = .ok (.bipush 81, 2) := by decide +kernel
theorem dL_isWindow_126 : decode cL_isWindow 126 = .ok (.idiv, 1) := by decide +kernel
theorem dL_isWindow_127 : decode cL_isWindow 127 = .ok (.bipush 9, 2) := by decide +kernel
theorem dL_isWindow_129 : decode cL_isWindow 129 = .ok (.irem, 1) := by decide +kernel
theorem dL_isWindow_130 : decode cL_isWindow 130 = .ok (.iconst 2, 1) := by decide +kernel
theorem dL_isWindow_131 : decode cL_isWindow 131 = .ok (.if_icmp .ne 18, 3) := by decide +kernel
theorem dL_isWindow_134 : decode cL_isWindow 134 = .ok (.iload_n 3, 1) := by decide +kernel
theorem dL_isWindow_135 : decode cL_isWindow 135 = .ok (.iconst 2, 1) := by decide +kernel
theorem dL_isWindow_136 : decode cL_isWindow 136 = .ok (.if_icmp .eq 13, 3) := by decide +kernel
theorem dL_isWindow_139 : decode cL_isWindow 139 = .ok (.iconst 1, 1) := by decide +kernel
theorem dL_isWindow_140 : decode cL_isWindow 140 = .ok (.iload 4, 2) := by decide +kernel
theorem dL_isWindow_142 : decode cL_isWindow 142 = .ok (.bipush 99, 2) := by decide +kernel
theorem dL_isWindow_144 : decode cL_isWindow 144 = .ok (.irem, 1) := by decide +kernel
theorem dL_isWindow_145 : decode cL_isWindow 145 = .ok (.iadd, 1) := by decide +kernel
theorem dL_isWindow_146 : decode cL_isWindow 146 = .ok (.goto 14, 3) := by decide +kernel
theorem dL_isWindow_149 : decode cL_isWindow 149 = .ok (.iconst 1, 1) := by decide +kernel
theorem dL_isWindow_150 : decode cL_isWindow 150 = .ok (.iload 5, 2) := by decide +kernel
theorem dL_isWindow_152 : decode cL_isWindow 152 = .ok (.sipush 729, 3) := by decide +kernel
theorem dL_isWindow_155 : decode cL_isWindow 155 = .ok (.idiv, 1) := by decide +kernel
theorem dL_isWindow_156 : decode cL_isWindow 156 = .ok (.bipush 9, 2) := by decide +kernel
theorem dL_isWindow_158 : decode cL_isWindow 158 = .ok (.irem, 1) := by decide +kernel
theorem dL_isWindow_159 : decode cL_isWindow 159 = .ok (.iadd, 1) := by decide +kernel
theorem dL_isWindow_160 : decode cL_isWindow 160 = .ok (.istore 9, 2) := by decide +kernel
theorem dL_isWindow_162 : decode cL_isWindow 162 = .ok (.iload 8, 2) := by decide +kernel
theorem dL_isWindow_164 : decode cL_isWindow 164 = .ok (.ifCond .le 14, 3) := by decide +kernel
theorem dL_isWindow_167 : decode cL_isWindow 167 = .ok (.iload 8, 2) := by decide +kernel
theorem dL_isWindow_169 : decode cL_isWindow 169 = .ok (.bipush 100, 2) := by decide +kernel
theorem dL_isWindow_171 : decode cL_isWindow 171 = .ok (.if_icmp .ge 7, 3) := by decide +kernel
theorem dL_isWindow_174 : decode cL_isWindow 174 = .ok (.iconst 1, 1) := by decide +kernel
theorem dL_isWindow_175 : decode cL_isWindow 175 = .ok (.goto 4, 3) := by decide +kernel
theorem dL_isWindow_178 : decode cL_isWindow 178 = .ok (.iconst 0, 1) := by decide +kernel
theorem dL_isWindow_179 : decode cL_isWindow 179 = .ok (.istore 10, 2) := by decide +kernel
theorem dL_isWindow_181 : decode cL_isWindow 181 = .ok (.iload 9, 2) := by decide +kernel
theorem dL_isWindow_183 : decode cL_isWindow 183 = .ok (.ifCond .le 14, 3) := by decide +kernel
theorem dL_isWindow_186 : decode cL_isWindow 186 = .ok (.iload 9, 2) := by decide +kernel
theorem dL_isWindow_188 : decode cL_isWindow 188 = .ok (.bipush 100, 2) := by decide +kernel
theorem dL_isWindow_190 : decode cL_isWindow 190 = .ok (.if_icmp .ge 7, 3) := by decide +kernel
theorem dL_isWindow_193 : decode cL_isWindow 193 = .ok (.iconst 1, 1) := by decide +kernel
theorem dL_isWindow_194 : decode cL_isWindow 194 = .ok (.goto 4, 3) := by decide +kernel
theorem dL_isWindow_197 : decode cL_isWindow 197 = .ok (.iconst 0, 1) := by decide +kernel
theorem dL_isWindow_198 : decode cL_isWindow 198 = .ok (.istore 11, 2) := by decide +kernel
theorem dL_isWindow_200 : decode cL_isWindow 200 = .ok (.iload_n 3, 1) := by decide +kernel
theorem dL_isWindow_201 : decode cL_isWindow 201 = .ok (.ifCond .eq 46, 3) := by decide +kernel
theorem dL_isWindow_204 : decode cL_isWindow 204 = .ok (.iload_n 3, 1) := by decide +kernel
theorem dL_isWindow_205 : decode cL_isWindow 205 = .ok (.iconst 1, 1) := by decide +kernel
theorem dL_isWindow_206 : decode cL_isWindow 206 = .ok (.if_icmp .ne 11, 3) := by decide +kernel
theorem dL_isWindow_209 : decode cL_isWindow 209 = .ok (.iload 10, 2) := by decide +kernel
theorem dL_isWindow_211 : decode cL_isWindow 211 = .ok (.ifCond .eq 40, 3) := by decide +kernel
theorem dL_isWindow_214 : decode cL_isWindow 214 = .ok (.goto 33, 3) := by decide +kernel
theorem dL_isWindow_217 : decode cL_isWindow 217 = .ok (.iload_n 3, 1) := by decide +kernel
theorem dL_isWindow_218 : decode cL_isWindow 218 = .ok (.iconst 2, 1) := by decide +kernel
theorem dL_isWindow_219 : decode cL_isWindow 219 = .ok (.if_icmp .ne 16, 3) := by decide +kernel
theorem dL_isWindow_222 : decode cL_isWindow 222 = .ok (.iload 10, 2) := by decide +kernel
theorem dL_isWindow_224 : decode cL_isWindow 224 = .ok (.ifCond .eq 27, 3) := by decide +kernel
theorem dL_isWindow_227 : decode cL_isWindow 227 = .ok (.iload 11, 2) := by decide +kernel
theorem dL_isWindow_229 : decode cL_isWindow 229 = .ok (.ifCond .eq 22, 3) := by decide +kernel
theorem dL_isWindow_232 : decode cL_isWindow 232 = .ok (.goto 15, 3) := by decide +kernel
theorem dL_isWindow_235 : decode cL_isWindow 235 = .ok (.iload 8, 2) := by decide +kernel
theorem dL_isWindow_237 : decode cL_isWindow 237 = .ok (.bipush 10, 2) := by decide +kernel
theorem dL_isWindow_239 : decode cL_isWindow 239 = .ok (.if_icmp .ge 12, 3) := by decide +kernel
theorem dL_isWindow_242 : decode cL_isWindow 242 = .ok (.iload 11, 2) := by decide +kernel
theorem dL_isWindow_244 : decode cL_isWindow 244 = .ok (.ifCond .eq 7, 3) := by decide +kernel
theorem dL_isWindow_247 : decode cL_isWindow 247 = .ok (.iconst 1, 1) := by decide +kernel
theorem dL_isWindow_248 : decode cL_isWindow 248 = .ok (.goto 4, 3) := by decide +kernel
theorem dL_isWindow_251 : decode cL_isWindow 251 = .ok (.iconst 0, 1) := by decide +kernel
theorem dL_isWindow_252 : decode cL_isWindow 252 = .ok (.istore 12, 2) := by decide +kernel
theorem dL_isWindow_254 : decode cL_isWindow 254 = .ok (.iload 7, 2) := by decide +kernel
theorem dL_isWindow_256 : decode cL_isWindow 256 = .ok (.ifCond .eq 34, 3) := by decide +kernel
theorem dL_isWindow_259 : decode cL_isWindow 259 = .ok (.iload 12, 2) := by decide +kernel
theorem dL_isWindow_261 : decode cL_isWindow 261 = .ok (.ifCond .eq 29, 3) := by decide +kernel
theorem dL_isWindow_264 : decode cL_isWindow 264 = .ok (.aload_n 2, 1) := by decide +kernel
theorem dL_isWindow_265 : decode cL_isWindow 265 = .ok (.bipush 16, 2) := by decide +kernel
theorem dL_isWindow_267 : decode cL_isWindow 267 = .ok (.iload 6, 2) := by decide +kernel
theorem dL_isWindow_269 : decode cL_isWindow 269 = .ok (.iadd, 1) := by decide +kernel
theorem dL_isWindow_270 : decode cL_isWindow 270 = .ok (.iload_n 3, 1) := by decide +kernel
theorem dL_isWindow_271 : decode cL_isWindow 271 = .ok (.iastore, 1) := by decide +kernel
theorem dL_isWindow_272 : decode cL_isWindow 272 = .ok (.aload_n 2, 1) := by decide +kernel
theorem dL_isWindow_273 : decode cL_isWindow 273 = .ok (.bipush 20, 2) := by decide +kernel
theorem dL_isWindow_275 : decode cL_isWindow 275 = .ok (.iload 6, 2) := by decide +kernel
theorem dL_isWindow_277 : decode cL_isWindow 277 = .ok (.iadd, 1) := by decide +kernel
theorem dL_isWindow_278 : decode cL_isWindow 278 = .ok (.iload 8, 2) := by decide +kernel
theorem dL_isWindow_280 : decode cL_isWindow 280 = .ok (.iastore, 1) := by decide +kernel
theorem dL_isWindow_281 : decode cL_isWindow 281 = .ok (.aload_n 2, 1) := by decide +kernel
theorem dL_isWindow_282 : decode cL_isWindow 282 = .ok (.bipush 24, 2) := by decide +kernel
theorem dL_isWindow_284 : decode cL_isWindow 284 = .ok (.iload 6, 2) := by decide +kernel
theorem dL_isWindow_286 : decode cL_isWindow 286 = .ok (.iadd, 1) := by decide +kernel
theorem dL_isWindow_287 : decode cL_isWindow 287 = .ok (.iload 9, 2) := by decide +kernel
theorem dL_isWindow_289 : decode cL_isWindow 289 = .ok (.iastore, 1) := by decide +kernel
theorem dL_isWindow_290 : decode cL_isWindow 290 = .ok (.iload_n 3, 1) := by decide +kernel
theorem dL_isWindow_291 : decode cL_isWindow 291 = .ok (.ifCond .ne 10, 3) := by decide +kernel
theorem dL_isWindow_294 : decode cL_isWindow 294 = .ok (.aload_n 1, 1) := by decide +kernel
theorem dL_isWindow_295 : decode cL_isWindow 295 = .ok (.invokestatic 77, 3) := by decide +kernel
theorem dL_isWindow_298 : decode cL_isWindow 298 = .ok (.goto 28, 3) := by decide +kernel
theorem dL_isWindow_301 : decode cL_isWindow 301 = .ok (.iload_n 3, 1) := by decide +kernel
theorem dL_isWindow_302 : decode cL_isWindow 302 = .ok (.iconst 1, 1) := by decide +kernel
theorem dL_isWindow_303 : decode cL_isWindow 303 = .ok (.if_icmp .ne 8, 3) := by decide +kernel
theorem dL_isWindow_306 : decode cL_isWindow 306 = .ok (.iload 8, 2) := by decide +kernel
theorem dL_isWindow_308 : decode cL_isWindow 308 = .ok (.goto 18, 3) := by decide +kernel
theorem dL_isWindow_311 : decode cL_isWindow 311 = .ok (.iload_n 3, 1) := by decide +kernel
theorem dL_isWindow_312 : decode cL_isWindow 312 = .ok (.iconst 2, 1) := by decide +kernel
theorem dL_isWindow_313 : decode cL_isWindow 313 = .ok (.if_icmp .ne 11, 3) := by decide +kernel
theorem dL_isWindow_316 : decode cL_isWindow 316 = .ok (.iload 8, 2) := by decide +kernel
theorem dL_isWindow_318 : decode cL_isWindow 318 = .ok (.iload 9, 2) := by decide +kernel
theorem dL_isWindow_320 : decode cL_isWindow 320 = .ok (.imul, 1) := by decide +kernel
theorem dL_isWindow_321 : decode cL_isWindow 321 = .ok (.goto 5, 3) := by decide +kernel
theorem dL_isWindow_324 : decode cL_isWindow 324 = .ok (.iload 9, 2) := by decide +kernel
theorem dL_isWindow_326 : decode cL_isWindow 326 = .ok (.istore 13, 2) := by decide +kernel
theorem dL_isWindow_328 : decode cL_isWindow 328 = .ok (.aload_n 0, 1) := by decide +kernel
theorem dL_isWindow_329 : decode cL_isWindow 329 = .ok (.iload_n 3, 1) := by decide +kernel
theorem dL_isWindow_330 : decode cL_isWindow 330 = .ok (.ifCond .ne 8, 3) := by decide +kernel
theorem dL_isWindow_333 : decode cL_isWindow 333 = .ok (.bipush 17, 2) := by decide +kernel
theorem dL_isWindow_335 : decode cL_isWindow 335 = .ok (.goto 7, 3) := by decide +kernel
theorem dL_isWindow_338 : decode cL_isWindow 338 = .ok (.bipush 6, 2) := by decide +kernel
theorem dL_isWindow_340 : decode cL_isWindow 340 = .ok (.iload_n 3, 1) := by decide +kernel
theorem dL_isWindow_341 : decode cL_isWindow 341 = .ok (.iadd, 1) := by decide +kernel
theorem dL_isWindow_342 : decode cL_isWindow 342 = .ok (.iload 6, 2) := by decide +kernel
theorem dL_isWindow_344 : decode cL_isWindow 344 = .ok (.iload 8, 2) := by decide +kernel
theorem dL_isWindow_346 : decode cL_isWindow 346 = .ok (.iload 9, 2) := by decide +kernel
theorem dL_isWindow_348 : decode cL_isWindow 348 = .ok (.iconst 0, 1) := by decide +kernel
theorem dL_isWindow_349 : decode cL_isWindow 349 = .ok (.iconst 0, 1) := by decide +kernel
theorem dL_isWindow_350 : decode cL_isWindow 350 = .ok (.invokestatic 117, 3) := by decide +kernel
theorem dL_isWindow_353 : decode cL_isWindow 353 = .ok (.iload 7, 2) := by decide +kernel
theorem dL_isWindow_355 : decode cL_isWindow 355 = .ok (.ifCond .ne 9, 3) := by decide +kernel
theorem dL_isWindow_358 : decode cL_isWindow 358 = .ok (.sipush (-3000), 3) := by decide +kernel
theorem dL_isWindow_361 : decode cL_isWindow 361 = .ok (.goto 16, 3) := by decide +kernel
theorem dL_isWindow_364 : decode cL_isWindow 364 = .ok (.iload 12, 2) := by decide +kernel
theorem dL_isWindow_366 : decode cL_isWindow 366 = .ok (.ifCond .eq 8, 3) := by decide +kernel
theorem dL_isWindow_369 : decode cL_isWindow 369 = .ok (.iload 13, 2) := by decide +kernel
theorem dL_isWindow_371 : decode cL_isWindow 371 = .ok (.goto 6, 3) := by decide +kernel
theorem dL_isWindow_374 : decode cL_isWindow 374 = .ok (.sipush (-2000), 3) := by decide +kernel
theorem dL_isWindow_377 : decode cL_isWindow 377 = .ok (.if_icmp .ne 7, 3) := by decide +kernel
theorem dL_isWindow_380 : decode cL_isWindow 380 = .ok (.iconst 1, 1) := by decide +kernel
theorem dL_isWindow_381 : decode cL_isWindow 381 = .ok (.goto 4, 3) := by decide +kernel
theorem dL_isWindow_384 : decode cL_isWindow 384 = .ok (.iconst 0, 1) := by decide +kernel
theorem dL_isWindow_385 : decode cL_isWindow 385 = .ok (.ireturn, 1) := by decide +kernel
theorem dL_isContracted_0 : decode cL_isContracted 0 = .ok (.iconst 0, 1) := by decide +kernel
theorem dL_isContracted_1 : decode cL_isContracted 1 = .ok (.istore 5, 2) := by decide +kernel
theorem dL_isContracted_3 : decode cL_isContracted 3 = .ok (.iconst 0, 1) := by decide +kernel
theorem dL_isContracted_4 : decode cL_isContracted 4 = .ok (.istore 6, 2) := by decide +kernel
theorem dL_isContracted_6 : decode cL_isContracted 6 = .ok (.iload 6, 2) := by decide +kernel
theorem dL_isContracted_8 : decode cL_isContracted 8 = .ok (.aload_n 1, 1) := by decide +kernel
theorem dL_isContracted_9 : decode cL_isContracted 9 = .ok (.iconst 2, 1) := by decide +kernel
theorem dL_isContracted_10 : decode cL_isContracted 10 = .ok (.iaload, 1) := by decide +kernel
theorem dL_isContracted_11 : decode cL_isContracted 11 = .ok (.if_icmp .ge 201, 3) := by decide +kernel
theorem dL_isContracted_14 : decode cL_isContracted 14 = .ok (.aload_n 1, 1) := by decide +kernel
theorem dL_isContracted_15 : decode cL_isContracted 15 = .ok (.aload_n 3, 1) := by decide +kernel
theorem dL_isContracted_16 : decode cL_isContracted 16 = .ok (.aload 4, 2) := by decide +kernel
theorem dL_isContracted_18 : decode cL_isContracted 18 = .ok (.iload 6, 2) := by decide +kernel
theorem dL_isContracted_20 : decode cL_isContracted 20 = .ok (.invokestatic 155, 3) := by decide +kernel
theorem dL_isContracted_23 : decode cL_isContracted 23 = .ok (.istore 7, 2) := by decide +kernel
theorem dL_isContracted_25 : decode cL_isContracted 25 = .ok (.aload_n 1, 1) := by decide +kernel
theorem dL_isContracted_26 : decode cL_isContracted 26 = .ok (.aload_n 3, 1) := by decide +kernel
theorem dL_isContracted_27 : decode cL_isContracted 27 = .ok (.aload 4, 2) := by decide +kernel
theorem dL_isContracted_29 : decode cL_isContracted 29 = .ok (.iload 6, 2) := by decide +kernel
theorem dL_isContracted_31 : decode cL_isContracted 31 = .ok (.invokestatic 159, 3) := by decide +kernel
theorem dL_isContracted_34 : decode cL_isContracted 34 = .ok (.istore 8, 2) := by decide +kernel
theorem dL_isContracted_36 : decode cL_isContracted 36 = .ok (.aload_n 1, 1) := by decide +kernel
theorem dL_isContracted_37 : decode cL_isContracted 37 = .ok (.aload_n 3, 1) := by decide +kernel
theorem dL_isContracted_38 : decode cL_isContracted 38 = .ok (.aload 4, 2) := by decide +kernel
theorem dL_isContracted_40 : decode cL_isContracted 40 = .ok (.iload 6, 2) := by decide +kernel
theorem dL_isContracted_42 : decode cL_isContracted 42 = .ok (.invokestatic 162, 3) := by decide +kernel
theorem dL_isContracted_45 : decode cL_isContracted 45 = .ok (.istore 9, 2) := by decide +kernel
theorem dL_isContracted_47 : decode cL_isContracted 47 = .ok (.aload_n 1, 1) := by decide +kernel
theorem dL_isContracted_48 : decode cL_isContracted 48 = .ok (.invokestatic 77, 3) := by decide +kernel
theorem dL_isContracted_51 : decode cL_isContracted 51 = .ok (.istore 10, 2) := by decide +kernel
theorem dL_isContracted_53 : decode cL_isContracted 53 = .ok (.aload_n 2, 1) := by decide +kernel
theorem dL_isContracted_54 : decode cL_isContracted 54 = .ok (.bipush 16, 2) := by decide +kernel
theorem dL_isContracted_56 : decode cL_isContracted 56 = .ok (.iload 6, 2) := by decide +kernel
theorem dL_isContracted_58 : decode cL_isContracted 58 = .ok (.iadd, 1) := by decide +kernel
theorem dL_isContracted_59 : decode cL_isContracted 59 = .ok (.iconst 0, 1) := by decide +kernel
theorem dL_isContracted_60 : decode cL_isContracted 60 = .ok (.iastore, 1) := by decide +kernel
theorem dL_isContracted_61 : decode cL_isContracted 61 = .ok (.iload 7, 2) := by decide +kernel
theorem dL_isContracted_63 : decode cL_isContracted 63 = .ok (.iload 10, 2) := by decide +kernel
theorem dL_isContracted_65 : decode cL_isContracted 65 = .ok (.if_icmp .ge 24, 3) := by decide +kernel
theorem dL_isContracted_68 : decode cL_isContracted 68 = .ok (.aload_n 2, 1) := by decide +kernel
theorem dL_isContracted_69 : decode cL_isContracted 69 = .ok (.bipush 16, 2) := by decide +kernel
theorem dL_isContracted_71 : decode cL_isContracted 71 = .ok (.iload 6, 2) := by decide +kernel
theorem dL_isContracted_73 : decode cL_isContracted 73 = .ok (.iadd, 1) := by decide +kernel
theorem dL_isContracted_74 : decode cL_isContracted 74 = .ok (.iconst 1, 1) := by decide +kernel
theorem dL_isContracted_75 : decode cL_isContracted 75 = .ok (.iastore, 1) := by decide +kernel
theorem dL_isContracted_76 : decode cL_isContracted 76 = .ok (.aload_n 2, 1) := by decide +kernel
theorem dL_isContracted_77 : decode cL_isContracted 77 = .ok (.bipush 20, 2) := by decide +kernel
theorem dL_isContracted_79 : decode cL_isContracted 79 = .ok (.iload 6, 2) := by decide +kernel
theorem dL_isContracted_81 : decode cL_isContracted 81 = .ok (.iadd, 1) := by decide +kernel
theorem dL_isContracted_82 : decode cL_isContracted 82 = .ok (.iload 7, 2) := by decide +kernel
theorem dL_isContracted_84 : decode cL_isContracted 84 = .ok (.iastore, 1) := by decide +kernel
theorem dL_isContracted_85 : decode cL_isContracted 85 = .ok (.iload 7, 2) := by decide +kernel
theorem dL_isContracted_87 : decode cL_isContracted 87 = .ok (.istore 10, 2) := by decide +kernel
theorem dL_isContracted_89 : decode cL_isContracted 89 = .ok (.iload 8, 2) := by decide +kernel
theorem dL_isContracted_91 : decode cL_isContracted 91 = .ok (.bipush 100, 2) := by decide +kernel
theorem dL_isContracted_93 : decode cL_isContracted 93 = .ok (.idiv, 1) := by decide +kernel
theorem dL_isContracted_94 : decode cL_isContracted 94 = .ok (.iload 8, 2) := by decide +kernel
theorem dL_isContracted_96 : decode cL_isContracted 96 = .ok (.bipush 100, 2) := by decide +kernel
theorem dL_isContracted_98 : decode cL_isContracted 98 = .ok (.irem, 1) := by decide +kernel
theorem dL_isContracted_99 : decode cL_isContracted 99 = .ok (.imul, 1) := by decide +kernel
theorem dL_isContracted_100 : decode cL_isContracted 100 = .ok (.iload 10, 2) := by decide +kernel
theorem dL_isContracted_102 : decode cL_isContracted 102 = .ok (.if_icmp .ge 48, 3) := by decide +kernel
theorem dL_isContracted_105 : decode cL_isContracted 105 = .ok (.aload_n 2, 1) := by decide +kernel
theorem dL_isContracted_106 : decode cL_isContracted 106 = .ok (.bipush 16, 2) := by decide +kernel
theorem dL_isContracted_108 : decode cL_isContracted 108 = .ok (.iload 6, 2) := by decide +kernel
theorem dL_isContracted_110 : decode cL_isContracted 110 = .ok (.iadd, 1) := by decide +kernel
theorem dL_isContracted_111 : decode cL_isContracted 111 = .ok (.iconst 2, 1) := by decide +kernel
theorem dL_isContracted_112 : decode cL_isContracted 112 = .ok (.iastore, 1) := by decide +kernel
theorem dL_isContracted_113 : decode cL_isContracted 113 = .ok (.aload_n 2, 1) := by decide +kernel
theorem dL_isContracted_114 : decode cL_isContracted 114 = .ok (.bipush 20, 2) := by decide +kernel
theorem dL_isContracted_116 : decode cL_isContracted 116 = .ok (.iload 6, 2) := by decide +kernel
theorem dL_isContracted_118 : decode cL_isContracted 118 = .ok (.iadd, 1) := by decide +kernel
theorem dL_isContracted_119 : decode cL_isContracted 119 = .ok (.iload 8, 2) := by decide +kernel
theorem dL_isContracted_121 : decode cL_isContracted 121 = .ok (.bipush 100, 2) := by decide +kernel
theorem dL_isContracted_123 : decode cL_isContracted 123 = .ok (.idiv, 1) := by decide +kernel
theorem dL_isContracted_124 : decode cL_isContracted 124 = .ok (.iastore, 1) := by decide +kernel
theorem dL_isContracted_125 : decode cL_isContracted 125 = .ok (.aload_n 2, 1) := by decide +kernel
theorem dL_isContracted_126 : decode cL_isContracted 126 = .ok (.bipush 24, 2) := by decide +kernel
theorem dL_isContracted_128 : decode cL_isContracted 128 = .ok (.iload 6, 2) := by decide +kernel
theorem dL_isContracted_130 : decode cL_isContracted 130 = .ok (.iadd, 1) := by decide +kernel
theorem dL_isContracted_131 : decode cL_isContracted 131 = .ok (.iload 8, 2) := by decide +kernel
theorem dL_isContracted_133 : decode cL_isContracted 133 = .ok (.bipush 100, 2) := by decide +kernel
theorem dL_isContracted_135 : decode cL_isContracted 135 = .ok (.irem, 1) := by decide +kernel
theorem dL_isContracted_136 : decode cL_isContracted 136 = .ok (.iastore, 1) := by decide +kernel
theorem dL_isContracted_137 : decode cL_isContracted 137 = .ok (.iload 8, 2) := by decide +kernel
theorem dL_isContracted_139 : decode cL_isContracted 139 = .ok (.bipush 100, 2) := by decide +kernel
theorem dL_isContracted_141 : decode cL_isContracted 141 = .ok (.idiv, 1) := by decide +kernel
theorem dL_isContracted_142 : decode cL_isContracted 142 = .ok (.iload 8, 2) := by decide +kernel
theorem dL_isContracted_144 : decode cL_isContracted 144 = .ok (.bipush 100, 2) := by decide +kernel
theorem dL_isContracted_146 : decode cL_isContracted 146 = .ok (.irem, 1) := by decide +kernel
theorem dL_isContracted_147 : decode cL_isContracted 147 = .ok (.imul, 1) := by decide +kernel
theorem dL_isContracted_148 : decode cL_isContracted 148 = .ok (.istore 10, 2) := by decide +kernel
theorem dL_isContracted_150 : decode cL_isContracted 150 = .ok (.iload 9, 2) := by decide +kernel
theorem dL_isContracted_152 : decode cL_isContracted 152 = .ok (.bipush 10, 2) := by decide +kernel
theorem dL_isContracted_154 : decode cL_isContracted 154 = .ok (.idiv, 1) := by decide +kernel
theorem dL_isContracted_155 : decode cL_isContracted 155 = .ok (.iload 10, 2) := by decide +kernel
theorem dL_isContracted_157 : decode cL_isContracted 157 = .ok (.if_icmp .ge 42, 3) := by decide +kernel
theorem dL_isContracted_160 : decode cL_isContracted 160 = .ok (.aload_n 2, 1) := by decide +kernel
theorem dL_isContracted_161 : decode cL_isContracted 161 = .ok (.bipush 16, 2) := by decide +kernel
theorem dL_isContracted_163 : decode cL_isContracted 163 = .ok (.iload 6, 2) := by decide +kernel
theorem dL_isContracted_165 : decode cL_isContracted 165 = .ok (.iadd, 1) := by decide +kernel
theorem dL_isContracted_166 : decode cL_isContracted 166 = .ok (.iconst 3, 1) := by decide +kernel
theorem dL_isContracted_167 : decode cL_isContracted 167 = .ok (.iastore, 1) := by decide +kernel
theorem dL_isContracted_168 : decode cL_isContracted 168 = .ok (.aload_n 2, 1) := by decide +kernel
theorem dL_isContracted_169 : decode cL_isContracted 169 = .ok (.bipush 20, 2) := by decide +kernel
theorem dL_isContracted_171 : decode cL_isContracted 171 = .ok (.iload 6, 2) := by decide +kernel
theorem dL_isContracted_173 : decode cL_isContracted 173 = .ok (.iadd, 1) := by decide +kernel
theorem dL_isContracted_174 : decode cL_isContracted 174 = .ok (.iload 9, 2) := by decide +kernel
theorem dL_isContracted_176 : decode cL_isContracted 176 = .ok (.bipush 10, 2) := by decide +kernel
theorem dL_isContracted_178 : decode cL_isContracted 178 = .ok (.irem, 1) := by decide +kernel
theorem dL_isContracted_179 : decode cL_isContracted 179 = .ok (.iastore, 1) := by decide +kernel
theorem dL_isContracted_180 : decode cL_isContracted 180 = .ok (.aload_n 2, 1) := by decide +kernel
theorem dL_isContracted_181 : decode cL_isContracted 181 = .ok (.bipush 24, 2) := by decide +kernel
theorem dL_isContracted_183 : decode cL_isContracted 183 = .ok (.iload 6, 2) := by decide +kernel
theorem dL_isContracted_185 : decode cL_isContracted 185 = .ok (.iadd, 1) := by decide +kernel
theorem dL_isContracted_186 : decode cL_isContracted 186 = .ok (.iload 9, 2) := by decide +kernel
theorem dL_isContracted_188 : decode cL_isContracted 188 = .ok (.bipush 10, 2) := by decide +kernel
theorem dL_isContracted_190 : decode cL_isContracted 190 = .ok (.idiv, 1) := by decide +kernel
theorem dL_isContracted_191 : decode cL_isContracted 191 = .ok (.iastore, 1) := by decide +kernel
theorem dL_isContracted_192 : decode cL_isContracted 192 = .ok (.iload 9, 2) := by decide +kernel
theorem dL_isContracted_194 : decode cL_isContracted 194 = .ok (.bipush 10, 2) := by decide +kernel
theorem dL_isContracted_196 : decode cL_isContracted 196 = .ok (.idiv, 1) := by decide +kernel
theorem dL_isContracted_197 : decode cL_isContracted 197 = .ok (.istore 10, 2) := by decide +kernel
theorem dL_isContracted_199 : decode cL_isContracted 199 = .ok (.iload 5, 2) := by decide +kernel
theorem dL_isContracted_201 : decode cL_isContracted 201 = .ok (.iload 10, 2) := by decide +kernel
theorem dL_isContracted_203 : decode cL_isContracted 203 = .ok (.iadd, 1) := by decide +kernel
theorem dL_isContracted_204 : decode cL_isContracted 204 = .ok (.istore 5, 2) := by decide +kernel
theorem dL_isContracted_206 : decode cL_isContracted 206 = .ok (.iinc 6 1, 3) := by decide +kernel
theorem dL_isContracted_209 : decode cL_isContracted 209 = .ok (.goto (-203), 3) := by decide +kernel
theorem dL_isContracted_212 : decode cL_isContracted 212 = .ok (.aload_n 0, 1) := by decide +kernel
theorem dL_isContracted_213 : decode cL_isContracted 213 = .ok (.invokevirtual 213, 3) := by decide +kernel
theorem dL_isContracted_216 : decode cL_isContracted 216 = .ok (.iload 5, 2) := by decide +kernel
theorem dL_isContracted_218 : decode cL_isContracted 218 = .ok (.if_icmp .ne 7, 3) := by decide +kernel
theorem dL_isContracted_221 : decode cL_isContracted 221 = .ok (.iconst 1, 1) := by decide +kernel
theorem dL_isContracted_222 : decode cL_isContracted 222 = .ok (.goto 4, 3) := by decide +kernel
theorem dL_isContracted_225 : decode cL_isContracted 225 = .ok (.iconst 0, 1) := by decide +kernel
theorem dL_isContracted_226 : decode cL_isContracted 226 = .ok (.ireturn, 1) := by decide +kernel
