theorem dX5_does_139 : decode cX5_does 139 = .ok (.iadd, 1) := by decide +kernel
theorem dX5_does_140 : decode cX5_does 140 = .ok (.invokevirtual 72, 3) := by decide +kernel
theorem dX5_does_143 : decode cX5_does 143 = .ok (.goto 33, 3) := by decide +kernel
theorem dX5_does_146 : decode cX5_does 146 = .ok (.aload_n 0, 1) := by decide +kernel
theorem dX5_does_147 : decode cX5_does 147 = .ok (.iload_n 1, 1) := by decide +kernel
theorem dX5_does_148 : decode cX5_does 148 = .ok (.iconst 1, 1) := by decide +kernel
theorem dX5_does_149 : decode cX5_does 149 = .ok (.iconst 0, 1) := by decide +kernel
theorem dX5_does_150 : decode cX5_does 150 = .ok (.invokevirtual 72, 3) := by decide +kernel
theorem dX5_does_153 : decode cX5_does 153 = .ok (.aload_n 0, 1) := by decide +kernel
theorem dX5_does_154 : decode cX5_does 154 = .ok (.iload_n 1, 1) := by decide +kernel
theorem dX5_does_155 : decode cX5_does 155 = .ok (.iconst 4, 1) := by decide +kernel
theorem dX5_does_156 : decode cX5_does 156 = .ok (.iconst 0, 1) := by decide +kernel
theorem dX5_does_157 : decode cX5_does 157 = .ok (.invokevirtual 72, 3) := by decide +kernel
theorem dX5_does_160 : decode cX5_does 160 = .ok (.aload_n 0, 1) := by decide +kernel
theorem dX5_does_161 : decode cX5_does 161 = .ok (.iload_n 1, 1) := by decide +kernel
theorem dX5_does_162 : decode cX5_does 162 = .ok (.iconst 5, 1) := by decide +kernel
theorem dX5_does_163 : decode cX5_does 163 = .ok (.aload_n 0, 1) := by decide +kernel
theorem dX5_does_164 : decode cX5_does 164 = .ok (.getfield 7, 3) := by decide +kernel
theorem dX5_does_167 : decode cX5_does 167 = .ok (.bipush 6, 2) := by decide +kernel
theorem dX5_does_169 : decode cX5_does 169 = .ok (.iaload, 1) := by decide +kernel
theorem dX5_does_170 : decode cX5_does 170 = .ok (.invokevirtual 72, 3) := by decide +kernel
theorem dX5_does_173 : decode cX5_does 173 = .ok (.goto 3, 3) := by decide +kernel
theorem dX5_does_176 : decode cX5_does 176 = .ok (.return_, 1) := by decide +kernel
theorem dX5_minute_0 : decode cX5_minute 0 = .ok (.aload_n 0, 1) := by decide +kernel
theorem dX5_minute_1 : decode cX5_minute 1 = .ok (.getfield 7, 3) := by decide +kernel
theorem dX5_minute_4 : decode cX5_minute 4 = .ok (.bipush 12, 2) := by decide +kernel
theorem dX5_minute_6 : decode cX5_minute 6 = .ok (.iaload, 1) := by decide +kernel
theorem dX5_minute_7 : decode cX5_minute 7 = .ok (.aload_n 0, 1) := by decide +kernel
theorem dX5_minute_8 : decode cX5_minute 8 = .ok (.getfield 7, 3) := by decide +kernel
theorem dX5_minute_11 : decode cX5_minute 11 = .ok (.bipush 9, 2) := by decide +kernel
theorem dX5_minute_13 : decode cX5_minute 13 = .ok (.iaload, 1) := by decide +kernel
theorem dX5_minute_14 : decode cX5_minute 14 = .ok (.if_icmp .lt 8, 3) := by decide +kernel
theorem dX5_minute_17 : decode cX5_minute 17 = .ok (.aload_n 0, 1) := by decide +kernel
theorem dX5_minute_18 : decode cX5_minute 18 = .ok (.invokevirtual 80, 3) := by decide +kernel
theorem dX5_minute_21 : decode cX5_minute 21 = .ok (.pop, 1) := by decide +kernel
theorem dX5_minute_22 : decode cX5_minute 22 = .ok (.aload_n 0, 1) := by decide +kernel
theorem dX5_minute_23 : decode cX5_minute 23 = .ok (.invokevirtual 84, 3) := by decide +kernel
theorem dX5_minute_26 : decode cX5_minute 26 = .ok (.istore_n 2, 1) := by decide +kernel
theorem dX5_minute_27 : decode cX5_minute 27 = .ok (.aload_n 0, 1) := by decide +kernel
theorem dX5_minute_28 : decode cX5_minute 28 = .ok (.iconst 0, 1) := by decide +kernel
theorem dX5_minute_29 : decode cX5_minute 29 = .ok (.putfield 76, 3) := by decide +kernel
theorem dX5_minute_32 : decode cX5_minute 32 = .ok (.iconst 0, 1) := by decide +kernel
theorem dX5_minute_33 : decode cX5_minute 33 = .ok (.istore_n 3, 1) := by decide +kernel
theorem dX5_minute_34 : decode cX5_minute 34 = .ok (.iload_n 3, 1) := by decide +kernel
theorem dX5_minute_35 : decode cX5_minute 35 = .ok (.aload_n 0, 1) := by decide +kernel
theorem dX5_minute_36 : decode cX5_minute 36 = .ok (.getfield 7, 3) := by decide +kernel
theorem dX5_minute_39 : decode cX5_minute 39 = .ok (.bipush 10, 2) := by decide +kernel
theorem dX5_minute_41 : decode cX5_minute 41 = .ok (.iaload, 1) := by decide +kernel
theorem dX5_minute_42 : decode cX5_minute 42 = .ok (.if_icmp .ge 27, 3) := by decide +kernel
theorem dX5_minute_45 : decode cX5_minute 45 = .ok (.iload_n 1, 1) := by decide +kernel
theorem dX5_minute_46 : decode cX5_minute 46 = .ok (.ifCond .ne 23, 3) := by decide +kernel
theorem dX5_minute_49 : decode cX5_minute 49 = .ok (.aload_n 0, 1) := by decide +kernel
theorem dX5_minute_50 : decode cX5_minute 50 = .ok (.aload_n 0, 1) := by decide +kernel
theorem dX5_minute_51 : decode cX5_minute 51 = .ok (.getfield 7, 3) := by decide +kernel
theorem dX5_minute_54 : decode cX5_minute 54 = .ok (.bipush 56, 2) := by decide +kernel
theorem dX5_minute_56 : decode cX5_minute 56 = .ok (.iload_n 3, 1) := by decide +kernel
theorem dX5_minute_57 : decode cX5_minute 57 = .ok (.iadd, 1) := by decide +kernel
theorem dX5_minute_58 : decode cX5_minute 58 = .ok (.iaload, 1) := by decide +kernel
theorem dX5_minute_59 : decode cX5_minute 59 = .ok (.iload_n 2, 1) := by decide +kernel
theorem dX5_minute_60 : decode cX5_minute 60 = .ok (.invokevirtual 87, 3) := by decide +kernel
theorem dX5_minute_63 : decode cX5_minute 63 = .ok (.iinc 3 1, 3) := by decide +kernel
theorem dX5_minute_66 : decode cX5_minute 66 = .ok (.goto (-32), 3) := by decide +kernel
theorem dX5_minute_69 : decode cX5_minute 69 = .ok (.iconst 0, 1) := by decide +kernel
theorem dX5_minute_70 : decode cX5_minute 70 = .ok (.istore_n 3, 1) := by decide +kernel
theorem dX5_minute_71 : decode cX5_minute 71 = .ok (.iload_n 3, 1) := by decide +kernel
theorem dX5_minute_72 : decode cX5_minute 72 = .ok (.aload_n 0, 1) := by decide +kernel
theorem dX5_minute_73 : decode cX5_minute 73 = .ok (.getfield 7, 3) := by decide +kernel
theorem dX5_minute_76 : decode cX5_minute 76 = .ok (.bipush 10, 2) := by decide +kernel
theorem dX5_minute_78 : decode cX5_minute 78 = .ok (.iaload, 1) := by decide +kernel
theorem dX5_minute_79 : decode cX5_minute 79 = .ok (.if_icmp .ge 128, 3) := by decide +kernel
theorem dX5_minute_82 : decode cX5_minute 82 = .ok (.aload_n 0, 1) := by decide +kernel
theorem dX5_minute_83 : decode cX5_minute 83 = .ok (.iload_n 3, 1) := by decide +kernel
theorem dX5_minute_84 : decode cX5_minute 84 = .ok (.iconst 1, 1) := by decide +kernel
theorem dX5_minute_85 : decode cX5_minute 85 = .ok (.invokevirtual 56, 3) := by decide +kernel
theorem dX5_minute_88 : decode cX5_minute 88 = .ok (.istore 4, 2) := by decide +kernel
theorem dX5_minute_90 : decode cX5_minute 90 = .ok (.iload 4, 2) := by decide +kernel
theorem dX5_minute_92 : decode cX5_minute 92 = .ok (.iconst 1, 1) := by decide +kernel
theorem dX5_minute_93 : decode cX5_minute 93 = .ok (.if_icmp .ne 70, 3) := by decide +kernel
theorem dX5_minute_96 : decode cX5_minute 96 = .ok (.aload_n 0, 1) := by decide +kernel
theorem dX5_minute_97 : decode cX5_minute 97 = .ok (.getfield 7, 3) := by decide +kernel
theorem dX5_minute_100 : decode cX5_minute 100 = .ok (.iconst 1, 1) := by decide +kernel
theorem dX5_minute_101 : decode cX5_minute 101 = .ok (.dup2, 1) := by decide +kernel
theorem dX5_minute_102 : decode cX5_minute 102 = .ok (.iaload, 1) := by decide +kernel
theorem dX5_minute_103 : decode cX5_minute 103 = .ok (.aload_n 0, 1) := by decide +kernel
theorem dX5_minute_104 : decode cX5_minute 104 = .ok (.iload_n 3, 1) := by decide +kernel
theorem dX5_minute_105 : decode cX5_minute 105 = .ok (.iconst 0, 1) := by decide +kernel
theorem dX5_minute_106 : decode cX5_minute 106 = .ok (.invokevirtual 56, 3) := by decide +kernel
theorem dX5_minute_109 : decode cX5_minute 109 = .ok (.iadd, 1) := by decide +kernel
theorem dX5_minute_110 : decode cX5_minute 110 = .ok (.iastore, 1) := by decide +kernel
theorem dX5_minute_111 : decode cX5_minute 111 = .ok (.aload_n 0, 1) := by decide +kernel
theorem dX5_minute_112 : decode cX5_minute 112 = .ok (.getfield 13, 3) := by decide +kernel
theorem dX5_minute_115 : decode cX5_minute 115 = .ok (.iconst 0, 1) := by decide +kernel
theorem dX5_minute_116 : decode cX5_minute 116 = .ok (.dup2, 1) := by decide +kernel
theorem dX5_minute_117 : decode cX5_minute 117 = .ok (.laload, 1) := by decide +kernel
theorem dX5_minute_118 : decode cX5_minute 118 = .ok (.aload_n 0, 1) := by decide +kernel
theorem dX5_minute_119 : decode cX5_minute 119 = .ok (.iload_n 3, 1) := by decide +kernel
theorem dX5_minute_120 : decode cX5_minute 120 = .ok (.iconst 0, 1) := by decide +kernel
theorem dX5_minute_121 : decode cX5_minute 121 = .ok (.invokevirtual 56, 3) := by decide +kernel
theorem dX5_minute_124 : decode cX5_minute 124 = .ok (.i2l, 1) := by decide +kernel
theorem dX5_minute_125 : decode cX5_minute 125 = .ok (.ladd, 1) := by decide +kernel
theorem dX5_minute_126 : decode cX5_minute 126 = .ok (.lastore, 1) := by decide +kernel
theorem dX5_minute_127 : decode cX5_minute 127 = .ok (.aload_n 0, 1) := by decide +kernel
theorem dX5_minute_128 : decode cX5_minute 128 = .ok (.getfield 13, 3) := by decide +kernel
theorem dX5_minute_131 : decode cX5_minute 131 = .ok (.iconst 5, 1) := by decide +kernel
theorem dX5_minute_132 : decode cX5_minute 132 = .ok (.dup2, 1) := by decide +kernel
theorem dX5_minute_133 : decode cX5_minute 133 = .ok (.laload, 1) := by decide +kernel
theorem dX5_minute_134 : decode cX5_minute 134 = .ok (.bipush 10, 2) := by decide +kernel
theorem dX5_minute_136 : decode cX5_minute 136 = .ok (.aload_n 0, 1) := by decide +kernel
theorem dX5_minute_137 : decode cX5_minute 137 = .ok (.iload_n 3, 1) := by decide +kernel
theorem dX5_minute_138 : decode cX5_minute 138 = .ok (.iconst 0, 1) := by decide +kernel
theorem dX5_minute_139 : decode cX5_minute 139 = .ok (.invokevirtual 56, 3) := by decide +kernel
theorem dX5_minute_142 : decode cX5_minute 142 = .ok (.imul, 1) := by decide +kernel
theorem dX5_minute_143 : decode cX5_minute 143 = .ok (.i2l, 1) := by decide +kernel
theorem dX5_minute_144 : decode cX5_minute 144 = .ok (.ladd, 1) := by decide +kernel
theorem dX5_minute_145 : decode cX5_minute 145 = .ok (.lastore, 1) := by decide +kernel
theorem dX5_minute_146 : decode cX5_minute 146 = .ok (.aload_n 0, 1) := by decide +kernel
theorem dX5_minute_147 : decode cX5_minute 147 = .ok (.iload_n 3, 1) := by decide +kernel
theorem dX5_minute_148 : decode cX5_minute 148 = .ok (.iconst 2, 1) := by decide +kernel
theorem dX5_minute_149 : decode cX5_minute 149 = .ok (.aload_n 0, 1) := by decide +kernel
theorem dX5_minute_150 : decode cX5_minute 150 = .ok (.iload_n 3, 1) := by decide +kernel
theorem dX5_minute_151 : decode cX5_minute 151 = .ok (.iconst 2, 1) := by decide +kernel
theorem dX5_minute_152 : decode cX5_minute 152 = .ok (.invokevirtual 56, 3) := by decide +kernel
theorem dX5_minute_155 : decode cX5_minute 155 = .ok (.iconst 1, 1) := by decide +kernel
theorem dX5_minute_156 : decode cX5_minute 156 = .ok (.iadd, 1) := by decide +kernel
theorem dX5_minute_157 : decode cX5_minute 157 = .ok (.invokevirtual 72, 3) := by decide +kernel
theorem dX5_minute_160 : decode cX5_minute 160 = .ok (.goto 41, 3) := by decide +kernel
theorem dX5_minute_163 : decode cX5_minute 163 = .ok (.iload 4, 2) := by decide +kernel
theorem dX5_minute_165 : decode cX5_minute 165 = .ok (.iconst 2, 1) := by decide +kernel
theorem dX5_minute_166 : decode cX5_minute 166 = .ok (.if_icmp .ne 35, 3) := by decide +kernel
theorem dX5_minute_169 : decode cX5_minute 169 = .ok (.aload_n 0, 1) := by decide +kernel
theorem dX5_minute_170 : decode cX5_minute 170 = .ok (.getfield 13, 3) := by decide +kernel
theorem dX5_minute_173 : decode cX5_minute 173 = .ok (.iconst 5, 1) := by decide +kernel
theorem dX5_minute_174 : decode cX5_minute 174 = .ok (.dup2, 1) := by decide +kernel
theorem dX5_minute_175 : decode cX5_minute 175 = .ok (.laload, 1) := by decide +kernel
theorem dX5_minute_176 : decode cX5_minute 176 = .ok (.iconst 3, 1) := by decide +kernel
theorem dX5_minute_177 : decode cX5_minute 177 = .ok (.aload_n 0, 1) := by decide +kernel
theorem dX5_minute_178 : decode cX5_minute 178 = .ok (.iload_n 3, 1) := by decide +kernel
theorem dX5_minute_179 : decode cX5_minute 179 = .ok (.iconst 0, 1) := by decide +kernel
theorem dX5_minute_180 : decode cX5_minute 180 = .ok (.invokevirtual 56, 3) := by decide +kernel
theorem dX5_minute_183 : decode cX5_minute 183 = .ok (.imul, 1) := by decide +kernel
theorem dX5_minute_184 : decode cX5_minute 184 = .ok (.i2l, 1) := by decide +kernel
theorem dX5_minute_185 : decode cX5_minute 185 = .ok (.ladd, 1) := by decide +kernel
theorem dX5_minute_186 : decode cX5_minute 186 = .ok (.lastore, 1) := by decide +kernel
theorem dX5_minute_187 : decode cX5_minute 187 = .ok (.aload_n 0, 1) := by decide +kernel
theorem dX5_minute_188 : decode cX5_minute 188 = .ok (.iload_n 3, 1) := by decide +kernel
theorem dX5_minute_189 : decode cX5_minute 189 = .ok (.iconst 3, 1) := by decide +kernel
theorem dX5_minute_190 : decode cX5_minute 190 = .ok (.aload_n 0, 1) := by decide +kernel
theorem dX5_minute_191 : decode cX5_minute 191 = .ok (.iload_n 3, 1) := by decide +kernel
theorem dX5_minute_192 : decode cX5_minute 192 = .ok (.iconst 3, 1) := by decide +kernel
theorem dX5_minute_193 : decode cX5_minute 193 = .ok (.invokevirtual 56, 3) := by decide +kernel
theorem dX5_minute_196 : decode cX5_minute 196 = .ok (.iconst 1, 1) := by decide +kernel
theorem dX5_minute_197 : decode cX5_minute 197 = .ok (.iadd, 1) := by decide +kernel
theorem dX5_minute_198 : decode cX5_minute 198 = .ok (.invokevirtual 72, 3) := by decide +kernel
theorem dX5_minute_201 : decode cX5_minute 201 = .ok (.iinc 3 1, 3) := by decide +kernel
theorem dX5_minute_204 : decode cX5_minute 204 = .ok (.goto (-133), 3) := by decide +kernel
theorem dX5_minute_207 : decode cX5_minute 207 = .ok (.iload_n 2, 1) := by decide +kernel
theorem dX5_minute_208 : decode cX5_minute 208 = .ok (.aload_n 0, 1) := by decide +kernel
theorem dX5_minute_209 : decode cX5_minute 209 = .ok (.getfield 7, 3) := by decide +kernel
theorem dX5_minute_212 : decode cX5_minute 212 = .ok (.bipush 7, 2) := by decide +kernel
theorem dX5_minute_214 : decode cX5_minute 214 = .ok (.iaload, 1) := by decide +kernel
theorem dX5_minute_215 : decode cX5_minute 215 = .ok (.imul, 1) := by decide +kernel
theorem dX5_minute_216 : decode cX5_minute 216 = .ok (.sipush 1000, 3) := by decide +kernel
theorem dX5_minute_219 : decode cX5_minute 219 = .ok (.idiv, 1) := by decide +kernel
theorem dX5_minute_220 : decode cX5_minute 220 = .ok (.istore_n 3, 1) := by decide +kernel
theorem dX5_minute_221 : decode cX5_minute 221 = .ok (.iload_n 3, 1) := by decide +kernel
theorem dX5_minute_222 : decode cX5_minute 222 = .ok (.aload_n 0, 1) := by decide +kernel
theorem dX5_minute_223 : decode cX5_minute 223 = .ok (.getfield 7, 3) := by decide +kernel
theorem dX5_minute_226 : decode cX5_minute 226 = .ok (.iconst 1, 1) := by decide +kernel
theorem dX5_minute_227 : decode cX5_minute 227 = .ok (.iaload, 1) := by decide +kernel
theorem dX5_minute_228 : decode cX5_minute 228 = .ok (.if_icmp .le 12, 3) := by decide +kernel
theorem dX5_minute_231 : decode cX5_minute 231 = .ok (.aload_n 0, 1) := by decide +kernel
theorem dX5_minute_232 : decode cX5_minute 232 = .ok (.getfield 7, 3) := by decide +kernel
theorem dX5_minute_235 : decode cX5_minute 235 = .ok (.iconst 1, 1) := by decide +kernel
theorem dX5_minute_236 : decode cX5_minute 236 = .ok (.iaload, 1) := by decide +kernel
theorem dX5_minute_237 : decode cX5_minute 237 = .ok (.goto 4, 3) := by decide +kernel
theorem dX5_minute_240 : decode cX5_minute 240 = .ok (.iload_n 3, 1) := by decide +kernel
theorem dX5_minute_241 : decode cX5_minute 241 = .ok (.istore_n 3, 1) := by decide +kernel
theorem dX5_minute_242 : decode cX5_minute 242 = .ok (.aload_n 0, 1) := by decide +kernel
theorem dX5_minute_243 : decode cX5_minute 243 = .ok (.getfield 7, 3) := by decide +kernel
theorem dX5_minute_246 : decode cX5_minute 246 = .ok (.iconst 1, 1) := by decide +kernel
theorem dX5_minute_247 : decode cX5_minute 247 = .ok (.dup2, 1) := by decide +kernel
theorem dX5_minute_248 : decode cX5_minute 248 = .ok (.iaload, 1) := by decide +kernel
theorem dX5_minute_249 : decode cX5_minute 249 = .ok (.iload_n 3, 1) := by decide +kernel
theorem dX5_minute_250 : decode cX5_minute 250 = .ok (.isub, 1) := by decide +kernel
theorem dX5_minute_251 : decode cX5_minute 251 = .ok (.iastore, 1) := by decide +kernel
theorem dX5_minute_252 : decode cX5_minute 252 = .ok (.aload_n 0, 1) := by decide +kernel
theorem dX5_minute_253 : decode cX5_minute 253 = .ok (.getfield 13, 3) := by decide +kernel
theorem dX5_minute_256 : decode cX5_minute 256 = .ok (.iconst 1, 1) := by decide +kernel
theorem dX5_minute_257 : decode cX5_minute 257 = .ok (.dup2, 1) := by decide +kernel
theorem dX5_minute_258 : decode cX5_minute 258 = .ok (.laload, 1) := by decide +kernel
theorem dX5_minute_259 : decode cX5_minute 259 = .ok (.iload_n 3, 1) := by decide +kernel
theorem dX5_minute_260 : decode cX5_minute 260 = .ok (.i2l, 1) := by decide +kernel
theorem dX5_minute_261 : decode cX5_minute 261 = .ok (.ladd, 1) := by decide +kernel
theorem dX5_minute_262 : decode cX5_minute 262 = .ok (.lastore, 1) := by decide +kernel
theorem dX5_minute_263 : decode cX5_minute 263 = .ok (.iload_n 1, 1) := by decide +kernel
theorem dX5_minute_264 : decode cX5_minute 264 = .ok (.ifCond .ne 80, 3) := by decide +kernel
theorem dX5_minute_267 : decode cX5_minute 267 = .ok (.aload_n 0, 1) := by decide +kernel
theorem dX5_minute_268 : decode cX5_minute 268 = .ok (.getfield 7, 3) := by decide +kernel
theorem dX5_minute_271 : decode cX5_minute 271 = .ok (.bipush 8, 2) := by decide +kernel
theorem dX5_minute_273 : decode cX5_minute 273 = .ok (.iaload, 1) := by decide +kernel
theorem dX5_minute_274 : decode cX5_minute 274 = .ok (.aload_n 0, 1) := by decide +kernel
theorem dX5_minute_275 : decode cX5_minute 275 = .ok (.getfield 7, 3) := by decide +kernel
theorem dX5_minute_278 : decode cX5_minute 278 = .ok (.iconst 1, 1) := by decide +kernel
theorem dX5_minute_279 : decode cX5_minute 279 = .ok (.iaload, 1) := by decide +kernel
theorem dX5_minute_280 : decode cX5_minute 280 = .ok (.if_icmp .le 12, 3) := by decide +kernel
theorem dX5_minute_283 : decode cX5_minute 283 = .ok (.aload_n 0, 1) := by decide +kernel
theorem dX5_minute_284 : decode cX5_minute 284 = .ok (.getfield 7, 3) := by decide +kernel
theorem dX5_minute_287 : decode cX5_minute 287 = .ok (.iconst 1, 1) := by decide +kernel
theorem dX5_minute_288 : decode cX5_minute 288 = .ok (.iaload, 1) := by decide +kernel
theorem dX5_minute_289 : decode cX5_minute 289 = .ok (.goto 10, 3) := by decide +kernel
theorem dX5_minute_292 : decode cX5_minute 292 = .ok (.aload_n 0, 1) := by decide +kernel
theorem dX5_minute_293 : decode cX5_minute 293 = .ok (.getfield 7, 3) := by decide +kernel
theorem dX5_minute_296 : decode cX5_minute 296 = .ok (.bipush 8, 2) := by decide +kernel
theorem dX5_minute_298 : decode cX5_minute 298 = .ok (.iaload, 1) := by decide +kernel
theorem dX5_minute_299 : decode cX5_minute 299 = .ok (.istore 4, 2) := by decide +kernel
theorem dX5_minute_301 : decode cX5_minute 301 = .ok (.aload_n 0, 1) := by decide +kernel
theorem dX5_minute_302 : decode cX5_minute 302 = .ok (.getfield 7, 3) := by decide +kernel
theorem dX5_minute_305 : decode cX5_minute 305 = .ok (.iconst 1, 1) := by decide +kernel
theorem dX5_minute_306 : decode cX5_minute 306 = .ok (.dup2, 1) := by decide +kernel
theorem dX5_minute_307 : decode cX5_minute 307 = .ok (.iaload, 1) := by decide +kernel
theorem dX5_minute_308 : decode cX5_minute 308 = .ok (.iload 4, 2) := by decide +kernel
theorem dX5_minute_310 : decode cX5_minute 310 = .ok (.isub, 1) := by decide +kernel
theorem dX5_minute_311 : decode cX5_minute 311 = .ok (.iastore, 1) := by decide +kernel
theorem dX5_minute_312 : decode cX5_minute 312 = .ok (.aload_n 0, 1) := by decide +kernel
theorem dX5_minute_313 : decode cX5_minute 313 = .ok (.getfield 13, 3) := by decide +kernel
theorem dX5_minute_316 : decode cX5_minute 316 = .ok (.iconst 2, 1) := by decide +kernel
theorem dX5_minute_317 : decode cX5_minute 317 = .ok (.dup2, 1) := by decide +kernel
theorem dX5_minute_318 : decode cX5_minute 318 = .ok (.laload, 1) := by decide +kernel
theorem dX5_minute_319 : decode cX5_minute 319 = .ok (.iload 4, 2) := by decide +kernel
theorem dX5_minute_321 : decode cX5_minute 321 = .ok (.i2l, 1) := by decide +kernel
theorem dX5_minute_322 : decode cX5_minute 322 = .ok (.ladd, 1) := by decide +kernel
theorem dX5_minute_323 : decode cX5_minute 323 = .ok (.lastore, 1) := by decide +kernel
theorem dX5_minute_324 : decode cX5_minute 324 = .ok (.aload_n 0, 1) := by decide +kernel
theorem dX5_minute_325 : decode cX5_minute 325 = .ok (.getfield 13, 3) := by decide +kernel
theorem dX5_minute_328 : decode cX5_minute 328 = .ok (.iconst 3, 1) := by decide +kernel
theorem dX5_minute_329 : decode cX5_minute 329 = .ok (.dup2, 1) := by decide +kernel
theorem dX5_minute_330 : decode cX5_minute 330 = .ok (.laload, 1) := by decide +kernel
theorem dX5_minute_331 : decode cX5_minute 331 = .ok (.aload_n 0, 1) := by decide +kernel
theorem dX5_minute_332 : decode cX5_minute 332 = .ok (.getfield 7, 3) := by decide +kernel
theorem dX5_minute_335 : decode cX5_minute 335 = .ok (.bipush 8, 2) := by decide +kernel
theorem dX5_minute_337 : decode cX5_minute 337 = .ok (.iaload, 1) := by decide +kernel
theorem dX5_minute_338 : decode cX5_minute 338 = .ok (.iload 4, 2) := by decide +kernel
theorem dX5_minute_340 : decode cX5_minute 340 = .ok (.isub, 1) := by decide +kernel
theorem dX5_minute_341 : decode cX5_minute 341 = .ok (.i2l, 1) := by decide +kernel
theorem dX5_minute_342 : decode cX5_minute 342 = .ok (.ladd, 1) := by decide +kernel
theorem dX5_minute_343 : decode cX5_minute 343 = .ok (.lastore, 1) := by decide +kernel
theorem dX5_minute_344 : decode cX5_minute 344 = .ok (.aload_n 0, 1) := by decide +kernel
theorem dX5_minute_345 : decode cX5_minute 345 = .ok (.invokevirtual 84, 3) := by decide +kernel
theorem dX5_minute_348 : decode cX5_minute 348 = .ok (.aload_n 0, 1) := by decide +kernel
theorem dX5_minute_349 : decode cX5_minute 349 = .ok (.getfield 7, 3) := by decide +kernel
theorem dX5_minute_352 : decode cX5_minute 352 = .ok (.iconst 4, 1) := by decide +kernel
theorem dX5_minute_353 : decode cX5_minute 353 = .ok (.iaload, 1) := by decide +kernel
theorem dX5_minute_354 : decode cX5_minute 354 = .ok (.if_icmp .le 49, 3) := by decide +kernel
theorem dX5_minute_357 : decode cX5_minute 357 = .ok (.aload_n 0, 1) := by decide +kernel
theorem dX5_minute_358 : decode cX5_minute 358 = .ok (.getfield 7, 3) := by decide +kernel
theorem dX5_minute_361 : decode cX5_minute 361 = .ok (.iconst 4, 1) := by decide +kernel
theorem dX5_minute_362 : decode cX5_minute 362 = .ok (.iaload, 1) := by decide +kernel
theorem dX5_minute_363 : decode cX5_minute 363 = .ok (.aload_n 0, 1) := by decide +kernel
theorem dX5_minute_364 : decode cX5_minute 364 = .ok (.getfield 7, 3) := by decide +kernel
theorem dX5_minute_367 : decode cX5_minute 367 = .ok (.iconst 0, 1) := by decide +kernel
theorem dX5_minute_368 : decode cX5_minute 368 = .ok (.iaload, 1) := by decide +kernel
theorem dX5_minute_369 : decode cX5_minute 369 = .ok (.imul, 1) := by decide +kernel
theorem dX5_minute_370 : decode cX5_minute 370 = .ok (.sipush 1000, 3) := by decide +kernel
theorem dX5_minute_373 : decode cX5_minute 373 = .ok (.idiv, 1) := by decide +kernel
theorem dX5_minute_374 : decode cX5_minute 374 = .ok (.istore 4, 2) := by decide +kernel
theorem dX5_minute_376 : decode cX5_minute 376 = .ok (.aload_n 0, 1) := by decide +kernel
theorem dX5_minute_377 : decode cX5_minute 377 = .ok (.getfield 13, 3) := by decide +kernel
theorem dX5_minute_380 : decode cX5_minute 380 = .ok (.iconst 4, 1) := by decide +kernel
theorem dX5_minute_381 : decode cX5_minute 381 = .ok (.dup2, 1) := by decide +kernel
theorem dX5_minute_382 : decode cX5_minute 382 = .ok (.laload, 1) := by decide +kernel
theorem dX5_minute_383 : decode cX5_minute 383 = .ok (.aload_n 0, 1) := by decide +kernel
theorem dX5_minute_384 : decode cX5_minute 384 = .ok (.getfield 7, 3) := by decide +kernel
theorem dX5_minute_387 : decode cX5_minute 387 = .ok (.iconst 1, 1) := by decide +kernel
theorem dX5_minute_388 : decode cX5_minute 388 = .ok (.iaload, 1) := by decide +kernel
theorem dX5_minute_389 : decode cX5_minute 389 = .ok (.iload 4, 2) := by decide +kernel
theorem dX5_minute_391 : decode cX5_minute 391 = .ok (.isub, 1) := by decide +kernel
theorem dX5_minute_392 : decode cX5_minute 392 = .ok (.i2l, 1) := by decide +kernel
theorem dX5_minute_393 : decode cX5_minute 393 = .ok (.ladd, 1) := by decide +kernel
theorem dX5_minute_394 : decode cX5_minute 394 = .ok (.lastore, 1) := by decide +kernel
theorem dX5_minute_395 : decode cX5_minute 395 = .ok (.aload_n 0, 1) := by decide +kernel
theorem dX5_minute_396 : decode cX5_minute 396 = .ok (.getfield 7, 3) := by decide +kernel
theorem dX5_minute_399 : decode cX5_minute 399 = .ok (.iconst 1, 1) := by decide +kernel
theorem dX5_minute_400 : decode cX5_minute 400 = .ok (.iload 4, 2) := by decide +kernel
theorem dX5_minute_402 : decode cX5_minute 402 = .ok (.iastore, 1) := by decide +kernel
theorem dX5_minute_403 : decode cX5_minute 403 = .ok (.aload_n 0, 1) := by decide +kernel
theorem dX5_minute_404 : decode cX5_minute 404 = .ok (.getfield 7, 3) := by decide +kernel
theorem dX5_minute_407 : decode cX5_minute 407 = .ok (.bipush 11, 2) := by decide +kernel
theorem dX5_minute_409 : decode cX5_minute 409 = .ok (.dup2, 1) := by decide +kernel
theorem dX5_minute_410 : decode cX5_minute 410 = .ok (.iaload, 1) := by decide +kernel
theorem dX5_minute_411 : decode cX5_minute 411 = .ok (.iconst 1, 1) := by decide +kernel
theorem dX5_minute_412 : decode cX5_minute 412 = .ok (.iadd, 1) := by decide +kernel
theorem dX5_minute_413 : decode cX5_minute 413 = .ok (.iastore, 1) := by decide +kernel
theorem dX5_minute_414 : decode cX5_minute 414 = .ok (.aload_n 0, 1) := by decide +kernel
theorem dX5_minute_415 : decode cX5_minute 415 = .ok (.getfield 7, 3) := by decide +kernel
theorem dX5_minute_418 : decode cX5_minute 418 = .ok (.bipush 12, 2) := by decide +kernel
theorem dX5_minute_420 : decode cX5_minute 420 = .ok (.dup2, 1) := by decide +kernel
theorem dX5_minute_421 : decode cX5_minute 421 = .ok (.iaload, 1) := by decide +kernel
theorem dX5_minute_422 : decode cX5_minute 422 = .ok (.iconst 1, 1) := by decide +kernel
theorem dX5_minute_423 : decode cX5_minute 423 = .ok (.iadd, 1) := by decide +kernel
theorem dX5_minute_424 : decode cX5_minute 424 = .ok (.iastore, 1) := by decide +kernel
theorem dX5_minute_425 : decode cX5_minute 425 = .ok (.return_, 1) := by decide +kernel
theorem dX5_minutes_0 : decode cX5_minutes 0 = .ok (.iconst 0, 1) := by decide +kernel
theorem dX5_minutes_1 : decode cX5_minutes 1 = .ok (.istore_n 2, 1) := by decide +kernel
theorem dX5_minutes_2 : decode cX5_minutes 2 = .ok (.iload_n 2, 1) := by decide +kernel
theorem dX5_minutes_3 : decode cX5_minutes 3 = .ok (.iload_n 1, 1) := by decide +kernel
theorem dX5_minutes_4 : decode cX5_minutes 4 = .ok (.if_icmp .ge 14, 3) := by decide +kernel
theorem dX5_minutes_7 : decode cX5_minutes 7 = .ok (.aload_n 0, 1) := by decide +kernel
theorem dX5_minutes_8 : decode cX5_minutes 8 = .ok (.iconst 0, 1) := by decide +kernel
theorem dX5_minutes_9 : decode cX5_minutes 9 = .ok (.invokevirtual 91, 3) := by decide +kernel
theorem dX5_minutes_12 : decode cX5_minutes 12 = .ok (.iinc 2 1, 3) := by decide +kernel
theorem dX5_minutes_15 : decode cX5_minutes 15 = .ok (.goto (-13), 3) := by decide +kernel
theorem dX5_minutes_18 : decode cX5_minutes 18 = .ok (.return_, 1) := by decide +kernel
theorem dX5_setVolume_0 : decode cX5_setVolume 0 = .ok (.iload_n 1, 1) := by decide +kernel
theorem dX5_setVolume_1 : decode cX5_setVolume 1 = .ok (.bipush 100, 2) := by decide +kernel
theorem dX5_setVolume_3 : decode cX5_setVolume 3 = .ok (.sipush 5000, 3) := by decide +kernel
theorem dX5_setVolume_6 : decode cX5_setVolume 6 = .ok (.invokestatic 48, 3) := by decide +kernel
theorem dX5_setVolume_9 : decode cX5_setVolume 9 = .ok (.ifCond .ne 9, 3) := by decide +kernel
theorem dX5_setVolume_12 : decode cX5_setVolume 12 = .ok (.aload_n 0, 1) := by decide +kernel
theorem dX5_setVolume_13 : decode cX5_setVolume 13 = .ok (.iconst 1, 1) := by decide +kernel
theorem dX5_setVolume_14 : decode cX5_setVolume 14 = .ok (.invokevirtual 95, 3) := by decide +kernel
theorem dX5_setVolume_17 : decode cX5_setVolume 17 = .ok (.ireturn, 1) := by decide +kernel
theorem dX5_setVolume_18 : decode cX5_setVolume 18 = .ok (.aload_n 0, 1) := by decide +kernel
theorem dX5_setVolume_19 : decode cX5_setVolume 19 = .ok (.getfield 7, 3) := by decide +kernel
theorem dX5_setVolume_22 : decode cX5_setVolume 22 = .ok (.iconst 1, 1) := by decide +kernel
theorem dX5_setVolume_23 : decode cX5_setVolume 23 = .ok (.iaload, 1) := by decide +kernel
theorem dX5_setVolume_24 : decode cX5_setVolume 24 = .ok (.sipush 1000, 3) := by decide +kernel
theorem dX5_setVolume_27 : decode cX5_setVolume 27 = .ok (.imul, 1) := by decide +kernel
theorem dX5_setVolume_28 : decode cX5_setVolume 28 = .ok (.iload_n 1, 1) := by decide +kernel
theorem dX5_setVolume_29 : decode cX5_setVolume 29 = .ok (.idiv, 1) := by decide +kernel
theorem dX5_setVolume_30 : decode cX5_setVolume 30 = .ok (.aload_n 0, 1) := by decide +kernel
theorem dX5_setVolume_31 : decode cX5_setVolume 31 = .ok (.getfield 7, 3) := by decide +kernel
theorem dX5_setVolume_34 : decode cX5_setVolume 34 = .ok (.iconst 4, 1) := by decide +kernel
theorem dX5_setVolume_35 : decode cX5_setVolume 35 = .ok (.iaload, 1) := by decide +kernel
theorem dX5_setVolume_36 : decode cX5_setVolume 36 = .ok (.if_icmp .le 9, 3) := by decide +kernel
theorem dX5_setVolume_39 : decode cX5_setVolume 39 = .ok (.aload_n 0, 1) := by decide +kernel
theorem dX5_setVolume_40 : decode cX5_setVolume 40 = .ok (.iconst 2, 1) := by decide +kernel
theorem dX5_setVolume_41 : decode cX5_setVolume 41 = .ok (.invokevirtual 95, 3) := by decide +kernel
theorem dX5_setVolume_44 : decode cX5_setVolume 44 = .ok (.ireturn, 1) := by decide +kernel
theorem dX5_setVolume_45 : decode cX5_setVolume 45 = .ok (.aload_n 0, 1) := by decide +kernel
theorem dX5_setVolume_46 : decode cX5_setVolume 46 = .ok (.invokevirtual 98, 3) := by decide +kernel
theorem dX5_setVolume_49 : decode cX5_setVolume 49 = .ok (.aload_n 0, 1) := by decide +kernel
theorem dX5_setVolume_50 : decode cX5_setVolume 50 = .ok (.getfield 7, 3) := by decide +kernel
theorem dX5_setVolume_53 : decode cX5_setVolume 53 = .ok (.iconst 0, 1) := by decide +kernel
theorem dX5_setVolume_54 : decode cX5_setVolume 54 = .ok (.iload_n 1, 1) := by decide +kernel
theorem dX5_setVolume_55 : decode cX5_setVolume 55 = .ok (.iastore, 1) := by decide +kernel
theorem dX5_setVolume_56 : decode cX5_setVolume 56 = .ok (.aload_n 0, 1) := by decide +kernel
theorem dX5_setVolume_57 : decode cX5_setVolume 57 = .ok (.invokevirtual 101, 3) := by decide +kernel
theorem dX5_setVolume_60 : decode cX5_setVolume 60 = .ok (.aload_n 0, 1) := by decide +kernel
theorem dX5_setVolume_61 : decode cX5_setVolume 61 = .ok (.aload_n 0, 1) := by decide +kernel
theorem dX5_setVolume_62 : decode cX5_setVolume 62 = .ok (.invokevirtual 84, 3) := by decide +kernel
theorem dX5_setVolume_65 : decode cX5_setVolume 65 = .ok (.invokevirtual 104, 3) := by decide +kernel
theorem dX5_setVolume_68 : decode cX5_setVolume 68 = .ok (.ireturn, 1) := by decide +kernel
theorem dX5_least_0 : decode cX5_least 0 = .ok (.iload_n 0, 1) := by decide +kernel
theorem dX5_least_1 : decode cX5_least 1 = .ok (.ifCond .ne 9, 3) := by decide +kernel
theorem dX5_least_4 : decode cX5_least 4 = .ok (.sipush 1000, 3) := by decide +kernel
theorem dX5_least_7 : decode cX5_least 7 = .ok (.goto 40, 3) := by decide +kernel
theorem dX5_least_10 : decode cX5_least 10 = .ok (.iload_n 0, 1) := by decide +kernel
theorem dX5_least_11 : decode cX5_least 11 = .ok (.iconst 2, 1) := by decide +kernel
theorem dX5_least_12 : decode cX5_least 12 = .ok (.if_icmp .ne 9, 3) := by decide +kernel
theorem dX5_least_15 : decode cX5_least 15 = .ok (.sipush 2000, 3) := by decide +kernel
theorem dX5_least_18 : decode cX5_least 18 = .ok (.goto 29, 3) := by decide +kernel
theorem dX5_least_21 : decode cX5_least 21 = .ok (.iload_n 0, 1) := by decide +kernel
theorem dX5_least_22 : decode cX5_least 22 = .ok (.iconst 1, 1) := by decide +kernel
theorem dX5_least_23 : decode cX5_least 23 = .ok (.if_icmp .eq 9, 3) := by decide +kernel
theorem dX5_least_26 : decode cX5_least 26 = .ok (.iload_n 0, 1) := by decide +kernel
theorem dX5_least_27 : decode cX5_least 27 = .ok (.bipush 7, 2) := by decide +kernel
theorem dX5_least_29 : decode cX5_least 29 = .ok (.if_icmp .ne 8, 3) := by decide +kernel
theorem dX5_least_32 : decode cX5_least 32 = .ok (.bipush 10, 2) := by decide +kernel
theorem dX5_least_34 : decode cX5_least 34 = .ok (.goto 13, 3) := by decide +kernel
theorem dX5_least_37 : decode cX5_least 37 = .ok (.iload_n 0, 1) := by decide +kernel
theorem dX5_least_38 : decode cX5_least 38 = .ok (.iconst 3, 1) := by decide +kernel
theorem dX5_least_39 : decode cX5_least 39 = .ok (.if_icmp .ne 7, 3) := by decide +kernel
theorem dX5_least_42 : decode cX5_least 42 = .ok (.iconst 1, 1) := by decide +kernel
theorem dX5_least_43 : decode cX5_least 43 = .ok (.goto 4, 3) := by decide +kernel
theorem dX5_least_46 : decode cX5_least 46 = .ok (.iconst 0, 1) := by decide +kernel
theorem dX5_least_47 : decode cX5_least 47 = .ok (.ireturn, 1) := by decide +kernel
theorem dX5_most_0 : decode cX5_most 0 = .ok (.iload_n 0, 1) := by decide +kernel
theorem dX5_most_1 : decode cX5_most 1 = .ok (.tableswitch 68 0 6 #[43, 47, 51, 55, 58, 61, 64], 43) := by decide +kernel
theorem dX5_most_44 : decode cX5_most 44 = .ok (.sipush 12000, 3) := by decide +kernel
theorem dX5_most_47 : decode cX5_most 47 = .ok (.ireturn, 1) := by decide +kernel
theorem dX5_most_48 : decode cX5_most 48 = .ok (.sipush 500, 3) := by decide +kernel
theorem dX5_most_51 : decode cX5_most 51 = .ok (.ireturn, 1) := by decide +kernel
theorem dX5_most_52 : decode cX5_most 52 = .ok (.sipush 16000, 3) := by decide +kernel
theorem dX5_most_55 : decode cX5_most 55 = .ok (.ireturn, 1) := by decide +kernel
theorem dX5_most_56 : decode cX5_most 56 = .ok (.bipush 60, 2) := by decide +kernel
theorem dX5_most_58 : decode cX5_most 58 = .ok (.ireturn, 1) := by decide +kernel
theorem dX5_most_59 : decode cX5_most 59 = .ok (.bipush 30, 2) := by decide +kernel
theorem dX5_most_61 : decode cX5_most 61 = .ok (.ireturn, 1) := by decide +kernel
theorem dX5_most_62 : decode cX5_most 62 = .ok (.bipush 50, 2) := by decide +kernel
theorem dX5_most_64 : decode cX5_most 64 = .ok (.ireturn, 1) := by decide +kernel
theorem dX5_most_65 : decode cX5_most 65 = .ok (.sipush 3000, 3) := by decide +kernel
theorem dX5_most_68 : decode cX5_most 68 = .ok (.ireturn, 1) := by decide +kernel
theorem dX5_most_69 : decode cX5_most 69 = .ok (.sipush 5000, 3) := by decide +kernel
theorem dX5_most_72 : decode cX5_most 72 = .ok (.ireturn, 1) := by decide +kernel
theorem dX5_set_0 : decode cX5_set 0 = .ok (.iload_n 1, 1) := by decide +kernel
theorem dX5_set_1 : decode cX5_set 1 = .ok (.iconst 0, 1) := by decide +kernel
theorem dX5_set_2 : decode cX5_set 2 = .ok (.bipush 7, 2) := by decide +kernel
theorem dX5_set_4 : decode cX5_set 4 = .ok (.invokestatic 48, 3) := by decide +kernel
theorem dX5_set_7 : decode cX5_set 7 = .ok (.ifCond .eq 18, 3) := by decide +kernel
theorem dX5_set_10 : decode cX5_set 10 = .ok (.iload_n 2, 1) := by decide +kernel
theorem dX5_set_11 : decode cX5_set 11 = .ok (.iload_n 1, 1) := by decide +kernel
theorem dX5_set_12 : decode cX5_set 12 = .ok (.invokestatic 107, 3) := by decide +kernel
theorem dX5_set_15 : decode cX5_set 15 = .ok (.iload_n 1, 1) := by decide +kernel
theorem dX5_set_16 : decode cX5_set 16 = .ok (.invokestatic 110, 3) := by decide +kernel
theorem dX5_set_19 : decode cX5_set 19 = .ok (.invokestatic 48, 3) := by decide +kernel
theorem dX5_set_22 : decode cX5_set 22 = .ok (.ifCond .ne 9, 3) := by decide +kernel
theorem dX5_set_25 : decode cX5_set 25 = .ok (.aload_n 0, 1) := by decide +kernel
theorem dX5_set_26 : decode cX5_set 26 = .ok (.iconst 1, 1) := by decide +kernel
theorem dX5_set_27 : decode cX5_set 27 = .ok (.invokevirtual 95, 3) := by decide +kernel
theorem dX5_set_30 : decode cX5_set 30 = .ok (.ireturn, 1) := by decide +kernel
theorem dX5_set_31 : decode cX5_set 31 = .ok (.aload_n 0, 1) := by decide +kernel
theorem dX5_set_32 : decode cX5_set 32 = .ok (.invokevirtual 98, 3) := by decide +kernel
theorem dX5_set_35 : decode cX5_set 35 = .ok (.aload_n 0, 1) := by decide +kernel
theorem dX5_set_36 : decode cX5_set 36 = .ok (.getfield 7, 3) := by decide +kernel
theorem dX5_set_39 : decode cX5_set 39 = .ok (.iconst 2, 1) := by decide +kernel
theorem dX5_set_40 : decode cX5_set 40 = .ok (.iload_n 1, 1) := by decide +kernel
theorem dX5_set_41 : decode cX5_set 41 = .ok (.iadd, 1) := by decide +kernel
theorem dX5_set_42 : decode cX5_set 42 = .ok (.iaload, 1) := by decide +kernel
theorem dX5_set_43 : decode cX5_set 43 = .ok (.istore_n 3, 1) := by decide +kernel
theorem dX5_set_44 : decode cX5_set 44 = .ok (.aload_n 0, 1) := by decide +kernel
theorem dX5_set_45 : decode cX5_set 45 = .ok (.getfield 7, 3) := by decide +kernel
theorem dX5_set_48 : decode cX5_set 48 = .ok (.iconst 2, 1) := by decide +kernel
theorem dX5_set_49 : decode cX5_set 49 = .ok (.iload_n 1, 1) := by decide +kernel
theorem dX5_set_50 : decode cX5_set 50 = .ok (.iadd, 1) := by decide +kernel
theorem dX5_set_51 : decode cX5_set 51 = .ok (.iload_n 2, 1) := by decide +kernel
theorem dX5_set_52 : decode cX5_set 52 = .ok (.iastore, 1) := by decide +kernel
theorem dX5_set_53 : decode cX5_set 53 = .ok (.aload_n 0, 1) := by decide +kernel
theorem dX5_set_54 : decode cX5_set 54 = .ok (.invokevirtual 101, 3) := by decide +kernel
theorem dX5_set_57 : decode cX5_set 57 = .ok (.aload_n 0, 1) := by decide +kernel
theorem dX5_set_58 : decode cX5_set 58 = .ok (.iload_n 3, 1) := by decide +kernel
theorem dX5_set_59 : decode cX5_set 59 = .ok (.invokevirtual 104, 3) := by decide +kernel
theorem dX5_set_62 : decode cX5_set 62 = .ok (.ireturn, 1) := by decide +kernel
theorem dX5_addCompressor_0 : decode cX5_addCompressor 0 = .ok (.iload_n 1, 1) := by decide +kernel
theorem dX5_addCompressor_1 : decode cX5_addCompressor 1 = .ok (.bipush 10, 2) := by decide +kernel
theorem dX5_addCompressor_3 : decode cX5_addCompressor 3 = .ok (.sipush 500, 3) := by decide +kernel
theorem dX5_addCompressor_6 : decode cX5_addCompressor 6 = .ok (.invokestatic 48, 3) := by decide +kernel
theorem dX5_addCompressor_9 : decode cX5_addCompressor 9 = .ok (.ifCond .ne 9, 3) := by decide +kernel
theorem dX5_addCompressor_12 : decode cX5_addCompressor 12 = .ok (.aload_n 0, 1) := by decide +kernel
theorem dX5_addCompressor_13 : decode cX5_addCompressor 13 = .ok (.iconst 1, 1) := by decide +kernel
theorem dX5_addCompressor_14 : decode cX5_addCompressor 14 = .ok (.invokevirtual 95, 3) := by decide +kernel
theorem dX5_addCompressor_17 : decode cX5_addCompressor 17 = .ok (.ireturn, 1) := by decide +kernel
theorem dX5_addCompressor_18 : decode cX5_addCompressor 18 = .ok (.aload_n 0, 1) := by decide +kernel
theorem dX5_addCompressor_19 : decode cX5_addCompressor 19 = .ok (.getfield 7, 3) := by decide +kernel
theorem dX5_addCompressor_22 : decode cX5_addCompressor 22 = .ok (.bipush 10, 2) := by decide +kernel
theorem dX5_addCompressor_24 : decode cX5_addCompressor 24 = .ok (.iaload, 1) := by decide +kernel
theorem dX5_addCompressor_25 : decode cX5_addCompressor 25 = .ok (.iconst 5, 1) := by decide +kernel
theorem dX5_addCompressor_26 : decode cX5_addCompressor 26 = .ok (.if_icmp .ne 9, 3) := by decide +kernel
theorem dX5_addCompressor_29 : decode cX5_addCompressor 29 = .ok (.aload_n 0, 1) := by decide +kernel
theorem dX5_addCompressor_30 : decode cX5_addCompressor 30 = .ok (.iconst 2, 1) := by decide +kernel
theorem dX5_addCompressor_31 : decode cX5_addCompressor 31 = .ok (.invokevirtual 95, 3) := by decide +kernel
theorem dX5_addCompressor_34 : decode cX5_addCompressor 34 = .ok (.ireturn, 1) := by decide +kernel
theorem dX5_addCompressor_35 : decode cX5_addCompressor 35 = .ok (.aload_n 0, 1) := by decide +kernel
theorem dX5_addCompressor_36 : decode cX5_addCompressor 36 = .ok (.invokevirtual 98, 3) := by decide +kernel
theorem dX5_addCompressor_39 : decode cX5_addCompressor 39 = .ok (.aload_n 0, 1) := by decide +kernel
theorem dX5_addCompressor_40 : decode cX5_addCompressor 40 = .ok (.getfield 7, 3) := by decide +kernel
theorem dX5_addCompressor_43 : decode cX5_addCompressor 43 = .ok (.bipush 10, 2) := by decide +kernel
theorem dX5_addCompressor_45 : decode cX5_addCompressor 45 = .ok (.iaload, 1) := by decide +kernel
theorem dX5_addCompressor_46 : decode cX5_addCompressor 46 = .ok (.istore_n 2, 1) := by decide +kernel
theorem dX5_addCompressor_47 : decode cX5_addCompressor 47 = .ok (.iconst 0, 1) := by decide +kernel
theorem dX5_addCompressor_48 : decode cX5_addCompressor 48 = .ok (.istore_n 3, 1) := by decide +kernel
theorem dX5_addCompressor_49 : decode cX5_addCompressor 49 = .ok (.iload_n 3, 1) := by decide +kernel
theorem dX5_addCompressor_50 : decode cX5_addCompressor 50 = .ok (.bipush 7, 2) := by decide +kernel
theorem dX5_addCompressor_52 : decode cX5_addCompressor 52 = .ok (.if_icmp .ge 16, 3) := by decide +kernel
theorem dX5_addCompressor_55 : decode cX5_addCompressor 55 = .ok (.aload_n 0, 1) := by decide +kernel
theorem dX5_addCompressor_56 : decode cX5_addCompressor 56 = .ok (.iload_n 2, 1) := by decide +kernel
theorem dX5_addCompressor_57 : decode cX5_addCompressor 57 = .ok (.iload_n 3, 1) := by decide +kernel
theorem dX5_addCompressor_58 : decode cX5_addCompressor 58 = .ok (.iconst 0, 1) := by decide +kernel
theorem dX5_addCompressor_59 : decode cX5_addCompressor 59 = .ok (.invokevirtual 72, 3) := by decide +kernel
theorem dX5_addCompressor_62 : decode cX5_addCompressor 62 = .ok (.iinc 3 1, 3) := by decide +kernel
theorem dX5_addCompressor_65 : decode cX5_addCompressor 65 = .ok (.goto (-16), 3) := by decide +kernel
theorem dX5_addCompressor_68 : decode cX5_addCompressor 68 = .ok (.aload_n 0, 1) := by decide +kernel
theorem dX5_addCompressor_69 : decode cX5_addCompressor 69 = .ok (.iload_n 2, 1) := by decide +kernel
theorem dX5_addCompressor_70 : decode cX5_addCompressor 70 = .ok (.iconst 0, 1) := by decide +kernel
theorem dX5_addCompressor_71 : decode cX5_addCompressor 71 = .ok (.iload_n 1, 1) := by decide +kernel
theorem dX5_addCompressor_72 : decode cX5_addCompressor 72 = .ok (.invokevirtual 72, 3) := by decide +kernel
theorem dX5_addCompressor_75 : decode cX5_addCompressor 75 = .ok (.aload_n 0, 1) := by decide +kernel
theorem dX5_addCompressor_76 : decode cX5_addCompressor 76 = .ok (.getfield 7, 3) := by decide +kernel
theorem dX5_addCompressor_79 : decode cX5_addCompressor 79 = .ok (.bipush 56, 2) := by decide +kernel
theorem dX5_addCompressor_81 : decode cX5_addCompressor 81 = .ok (.iload_n 2, 1) := by decide +kernel
theorem dX5_addCompressor_82 : decode cX5_addCompressor 82 = .ok (.iadd, 1) := by decide +kernel
theorem dX5_addCompressor_83 : decode cX5_addCompressor 83 = .ok (.iload_n 2, 1) := by decide +kernel
theorem dX5_addCompressor_84 : decode cX5_addCompressor 84 = .ok (.iastore, 1) := by decide +kernel
theorem dX5_addCompressor_85 : decode cX5_addCompressor 85 = .ok (.aload_n 0, 1) := by decide +kernel
theorem dX5_addCompressor_86 : decode cX5_addCompressor 86 = .ok (.getfield 7, 3) := by decide +kernel
theorem dX5_addCompressor_89 : decode cX5_addCompressor 89 = .ok (.bipush 10, 2) := by decide +kernel
theorem dX5_addCompressor_91 : decode cX5_addCompressor 91 = .ok (.dup2, 1) := by decide +kernel
theorem dX5_addCompressor_92 : decode cX5_addCompressor 92 = .ok (.iaload, 1) := by decide +kernel
theorem dX5_addCompressor_93 : decode cX5_addCompressor 93 = .ok (.iconst 1, 1) := by decide +kernel
theorem dX5_addCompressor_94 : decode cX5_addCompressor 94 = .ok (.iadd, 1) := by decide +kernel
theorem dX5_addCompressor_95 : decode cX5_addCompressor 95 = .ok (.iastore, 1) := by decide +kernel
theorem dX5_addCompressor_96 : decode cX5_addCompressor 96 = .ok (.aload_n 0, 1) := by decide +kernel
theorem dX5_addCompressor_97 : decode cX5_addCompressor 97 = .ok (.invokevirtual 101, 3) := by decide +kernel
theorem dX5_addCompressor_100 : decode cX5_addCompressor 100 = .ok (.aload_n 0, 1) := by decide +kernel
theorem dX5_addCompressor_101 : decode cX5_addCompressor 101 = .ok (.iload_n 2, 1) := by decide +kernel
theorem dX5_addCompressor_102 : decode cX5_addCompressor 102 = .ok (.invokevirtual 104, 3) := by decide +kernel
theorem dX5_addCompressor_105 : decode cX5_addCompressor 105 = .ok (.ireturn, 1) := by decide +kernel
theorem dX5_trips_0 : decode cX5_trips 0 = .ok (.aload_n 0, 1) := by decide +kernel
theorem dX5_trips_1 : decode cX5_trips 1 = .ok (.iload_n 1, 1) := by decide +kernel
theorem dX5_trips_2 : decode cX5_trips 2 = .ok (.invokevirtual 113, 3) := by decide +kernel
theorem dX5_trips_5 : decode cX5_trips 5 = .ok (.ifCond .ne 5, 3) := by decide +kernel
theorem dX5_trips_8 : decode cX5_trips 8 = .ok (.iconst 1, 1) := by decide +kernel
theorem dX5_trips_9 : decode cX5_trips 9 = .ok (.ireturn, 1) := by decide +kernel
theorem dX5_trips_10 : decode cX5_trips 10 = .ok (.aload_n 0, 1) := by decide +kernel
theorem dX5_trips_11 : decode cX5_trips 11 = .ok (.iload_n 1, 1) := by decide +kernel
theorem dX5_trips_12 : decode cX5_trips 12 = .ok (.iconst 1, 1) := by decide +kernel
theorem dX5_trips_13 : decode cX5_trips 13 = .ok (.invokevirtual 56, 3) := by decide +kernel
theorem dX5_trips_16 : decode cX5_trips 16 = .ok (.iconst 3, 1) := by decide +kernel
theorem dX5_trips_17 : decode cX5_trips 17 = .ok (.if_icmp .ne 5, 3) := by decide +kernel
theorem dX5_trips_20 : decode cX5_trips 20 = .ok (.iconst 2, 1) := by decide +kernel
theorem dX5_trips_21 : decode cX5_trips 21 = .ok (.ireturn, 1) := by decide +kernel
theorem dX5_trips_22 : decode cX5_trips 22 = .ok (.aload_n 0, 1) := by decide +kernel
theorem dX5_trips_23 : decode cX5_trips 23 = .ok (.aload_n 0, 1) := by decide +kernel
theorem dX5_trips_24 : decode cX5_trips 24 = .ok (.iload_n 1, 1) := by decide +kernel
theorem dX5_trips_25 : decode cX5_trips 25 = .ok (.iconst 1, 1) := by decide +kernel
theorem dX5_trips_26 : decode cX5_trips 26 = .ok (.invokevirtual 56, 3) := by decide +kernel
theorem dX5_trips_29 : decode cX5_trips 29 = .ok (.putfield 117, 3) := by decide +kernel
theorem dX5_trips_32 : decode cX5_trips 32 = .ok (.aload_n 0, 1) := by decide +kernel
theorem dX5_trips_33 : decode cX5_trips 33 = .ok (.iload_n 1, 1) := by decide +kernel
theorem dX5_trips_34 : decode cX5_trips 34 = .ok (.iconst 1, 1) := by decide +kernel
theorem dX5_trips_35 : decode cX5_trips 35 = .ok (.iconst 3, 1) := by decide +kernel
theorem dX5_trips_36 : decode cX5_trips 36 = .ok (.invokevirtual 72, 3) := by decide +kernel
theorem dX5_trips_39 : decode cX5_trips 39 = .ok (.aload_n 0, 1) := by decide +kernel
theorem dX5_trips_40 : decode cX5_trips 40 = .ok (.iload_n 1, 1) := by decide +kernel
theorem dX5_trips_41 : decode cX5_trips 41 = .ok (.iconst 4, 1) := by decide +kernel
theorem dX5_trips_42 : decode cX5_trips 42 = .ok (.iconst 0, 1) := by decide +kernel
theorem dX5_trips_43 : decode cX5_trips 43 = .ok (.invokevirtual 72, 3) := by decide +kernel
theorem dX5_trips_46 : decode cX5_trips 46 = .ok (.aload_n 0, 1) := by decide +kernel
theorem dX5_trips_47 : decode cX5_trips 47 = .ok (.iload_n 1, 1) := by decide +kernel
theorem dX5_trips_48 : decode cX5_trips 48 = .ok (.iconst 5, 1) := by decide +kernel
theorem dX5_trips_49 : decode cX5_trips 49 = .ok (.iconst 0, 1) := by decide +kernel
theorem dX5_trips_50 : decode cX5_trips 50 = .ok (.invokevirtual 72, 3) := by decide +kernel
theorem dX5_trips_53 : decode cX5_trips 53 = .ok (.iconst 0, 1) := by decide +kernel
theorem dX5_trips_54 : decode cX5_trips 54 = .ok (.ireturn, 1) := by decide +kernel
theorem dX5_clears_0 : decode cX5_clears 0 = .ok (.aload_n 0, 1) := by decide +kernel
theorem dX5_clears_1 : decode cX5_clears 1 = .ok (.iload_n 1, 1) := by decide +kernel
theorem dX5_clears_2 : decode cX5_clears 2 = .ok (.invokevirtual 113, 3) := by decide +kernel
theorem dX5_clears_5 : decode cX5_clears 5 = .ok (.ifCond .ne 5, 3) := by decide +kernel
theorem dX5_clears_8 : decode cX5_clears 8 = .ok (.iconst 1, 1) := by decide +kernel
theorem dX5_clears_9 : decode cX5_clears 9 = .ok (.ireturn, 1) := by decide +kernel
theorem dX5_clears_10 : decode cX5_clears 10 = .ok (.aload_n 0, 1) := by decide +kernel
theorem dX5_clears_11 : decode cX5_clears 11 = .ok (.iload_n 1, 1) := by decide +kernel
theorem dX5_clears_12 : decode cX5_clears 12 = .ok (.iconst 1, 1) := by decide +kernel
theorem dX5_clears_13 : decode cX5_clears 13 = .ok (.invokevirtual 56, 3) := by decide +kernel
theorem dX5_clears_16 : decode cX5_clears 16 = .ok (.iconst 3, 1) := by decide +kernel
theorem dX5_clears_17 : decode cX5_clears 17 = .ok (.if_icmp .eq 5, 3) := by decide +kernel
theorem dX5_clears_20 : decode cX5_clears 20 = .ok (.iconst 2, 1) := by decide +kernel
theorem dX5_clears_21 : decode cX5_clears 21 = .ok (.ireturn, 1) := by decide +kernel
theorem dX5_clears_22 : decode cX5_clears 22 = .ok (.aload_n 0, 1) := by decide +kernel
theorem dX5_clears_23 : decode cX5_clears 23 = .ok (.aload_n 0, 1) := by decide +kernel
theorem dX5_clears_24 : decode cX5_clears 24 = .ok (.iload_n 1, 1) := by decide +kernel
theorem dX5_clears_25 : decode cX5_clears 25 = .ok (.invokevirtual 52, 3) := by decide +kernel
theorem dX5_clears_28 : decode cX5_clears 28 = .ok (.putfield 117, 3) := by decide +kernel
theorem dX5_clears_31 : decode cX5_clears 31 = .ok (.aload_n 0, 1) := by decide +kernel
theorem dX5_clears_32 : decode cX5_clears 32 = .ok (.iload_n 1, 1) := by decide +kernel
theorem dX5_clears_33 : decode cX5_clears 33 = .ok (.iconst 1, 1) := by decide +kernel
theorem dX5_clears_34 : decode cX5_clears 34 = .ok (.iconst 0, 1) := by decide +kernel
theorem dX5_clears_35 : decode cX5_clears 35 = .ok (.invokevirtual 72, 3) := by decide +kernel
theorem dX5_clears_38 : decode cX5_clears 38 = .ok (.aload_n 0, 1) := by decide +kernel
theorem dX5_clears_39 : decode cX5_clears 39 = .ok (.iload_n 1, 1) := by decide +kernel
theorem dX5_clears_40 : decode cX5_clears 40 = .ok (.iconst 5, 1) := by decide +kernel
theorem dX5_clears_41 : decode cX5_clears 41 = .ok (.aload_n 0, 1) := by decide +kernel
theorem dX5_clears_42 : decode cX5_clears 42 = .ok (.getfield 7, 3) := by decide +kernel
theorem dX5_clears_45 : decode cX5_clears 45 = .ok (.bipush 6, 2) := by decide +kernel
theorem dX5_clears_47 : decode cX5_clears 47 = .ok (.iaload, 1) := by decide +kernel
theorem dX5_clears_48 : decode cX5_clears 48 = .ok (.invokevirtual 72, 3) := by decide +kernel
theorem dX5_clears_51 : decode cX5_clears 51 = .ok (.iconst 0, 1) := by decide +kernel
theorem dX5_clears_52 : decode cX5_clears 52 = .ok (.ireturn, 1) := by decide +kernel
theorem dX5_passes_0 : decode cX5_passes 0 = .ok (.aload_n 0, 1) := by decide +kernel
theorem dX5_passes_1 : decode cX5_passes 1 = .ok (.getfield 7, 3) := by decide +kernel
theorem dX5_passes_4 : decode cX5_passes 4 = .ok (.bipush 11, 2) := by decide +kernel
theorem dX5_passes_6 : decode cX5_passes 6 = .ok (.iaload, 1) := by decide +kernel
theorem dX5_passes_7 : decode cX5_passes 7 = .ok (.iload_n 1, 1) := by decide +kernel
theorem dX5_passes_8 : decode cX5_passes 8 = .ok (.iadd, 1) := by decide +kernel
theorem dX5_passes_9 : decode cX5_passes 9 = .ok (.ldc 120, 2) := by decide +kernel
theorem dX5_passes_11 : decode cX5_passes 11 = .ok (.if_icmp .le 5, 3) := by decide +kernel
theorem dX5_passes_14 : decode cX5_passes 14 = .ok (.iconst 2, 1) := by decide +kernel
theorem dX5_passes_15 : decode cX5_passes 15 = .ok (.ireturn, 1) := by decide +kernel
theorem dX5_passes_16 : decode cX5_passes 16 = .ok (.aload_n 0, 1) := by decide +kernel
theorem dX5_passes_17 : decode cX5_passes 17 = .ok (.iload_n 1, 1) := by decide +kernel
theorem dX5_passes_18 : decode cX5_passes 18 = .ok (.invokevirtual 121, 3) := by decide +kernel
theorem dX5_passes_21 : decode cX5_passes 21 = .ok (.aload_n 0, 1) := by decide +kernel
theorem dX5_passes_22 : decode cX5_passes 22 = .ok (.aload_n 0, 1) := by decide +kernel
theorem dX5_passes_23 : decode cX5_passes 23 = .ok (.invokevirtual 84, 3) := by decide +kernel
theorem dX5_passes_26 : decode cX5_passes 26 = .ok (.putfield 117, 3) := by decide +kernel
theorem dX5_passes_29 : decode cX5_passes 29 = .ok (.iconst 0, 1) := by decide +kernel
theorem dX5_passes_30 : decode cX5_passes 30 = .ok (.ireturn, 1) := by decide +kernel
theorem dX5_ends_0 : decode cX5_ends 0 = .ok (.iload_n 1, 1) := by decide +kernel
theorem dX5_ends_1 : decode cX5_ends 1 = .ok (.ifCond .le 9, 3) := by decide +kernel
theorem dX5_ends_4 : decode cX5_ends 4 = .ok (.aload_n 0, 1) := by decide +kernel
theorem dX5_ends_5 : decode cX5_ends 5 = .ok (.iload_n 1, 1) := by decide +kernel
theorem dX5_ends_6 : decode cX5_ends 6 = .ok (.invokevirtual 95, 3) := by decide +kernel
theorem dX5_ends_9 : decode cX5_ends 9 = .ok (.ireturn, 1) := by decide +kernel
theorem dX5_ends_10 : decode cX5_ends 10 = .ok (.aload_n 0, 1) := by decide +kernel
theorem dX5_ends_11 : decode cX5_ends 11 = .ok (.invokevirtual 101, 3) := by decide +kernel
theorem dX5_ends_14 : decode cX5_ends 14 = .ok (.aload_n 0, 1) := by decide +kernel
theorem dX5_ends_15 : decode cX5_ends 15 = .ok (.aload_n 0, 1) := by decide +kernel
theorem dX5_ends_16 : decode cX5_ends 16 = .ok (.getfield 117, 3) := by decide +kernel
theorem dX5_ends_19 : decode cX5_ends 19 = .ok (.invokevirtual 104, 3) := by decide +kernel
theorem dX5_ends_22 : decode cX5_ends 22 = .ok (.ireturn, 1) := by decide +kernel
theorem dX5_trip_0 : decode cX5_trip 0 = .ok (.aload_n 0, 1) := by decide +kernel
theorem dX5_trip_1 : decode cX5_trip 1 = .ok (.invokevirtual 98, 3) := by decide +kernel
theorem dX5_trip_4 : decode cX5_trip 4 = .ok (.aload_n 0, 1) := by decide +kernel
theorem dX5_trip_5 : decode cX5_trip 5 = .ok (.aload_n 0, 1) := by decide +kernel
theorem dX5_trip_6 : decode cX5_trip 6 = .ok (.iload_n 1, 1) := by decide +kernel
theorem dX5_trip_7 : decode cX5_trip 7 = .ok (.invokevirtual 125, 3) := by decide +kernel
theorem dX5_trip_10 : decode cX5_trip 10 = .ok (.invokevirtual 128, 3) := by decide +kernel
theorem dX5_trip_13 : decode cX5_trip 13 = .ok (.ireturn, 1) := by decide +kernel
theorem dX5_clear_0 : decode cX5_clear 0 = .ok (.aload_n 0, 1) := by decide +kernel
theorem dX5_clear_1 : decode cX5_clear 1 = .ok (.invokevirtual 98, 3) := by decide +kernel
theorem dX5_clear_4 : decode cX5_clear 4 = .ok (.aload_n 0, 1) := by decide +kernel
theorem dX5_clear_5 : decode cX5_clear 5 = .ok (.aload_n 0, 1) := by decide +kernel
theorem dX5_clear_6 : decode cX5_clear 6 = .ok (.iload_n 1, 1) := by decide +kernel
theorem dX5_clear_7 : decode cX5_clear 7 = .ok (.invokevirtual 131, 3) := by decide +kernel
theorem dX5_clear_10 : decode cX5_clear 10 = .ok (.invokevirtual 128, 3) := by decide +kernel
theorem dX5_clear_13 : decode cX5_clear 13 = .ok (.ireturn, 1) := by decide +kernel
theorem dX5_rotate_0 : decode cX5_rotate 0 = .ok (.aload_n 0, 1) := by decide +kernel
theorem dX5_rotate_1 : decode cX5_rotate 1 = .ok (.invokevirtual 98, 3) := by decide +kernel
theorem dX5_rotate_4 : decode cX5_rotate 4 = .ok (.aload_n 0, 1) := by decide +kernel
theorem dX5_rotate_5 : decode cX5_rotate 5 = .ok (.aload_n 0, 1) := by decide +kernel
theorem dX5_rotate_6 : decode cX5_rotate 6 = .ok (.invokevirtual 80, 3) := by decide +kernel
theorem dX5_rotate_9 : decode cX5_rotate 9 = .ok (.putfield 117, 3) := by decide +kernel
theorem dX5_rotate_12 : decode cX5_rotate 12 = .ok (.aload_n 0, 1) := by decide +kernel
theorem dX5_rotate_13 : decode cX5_rotate 13 = .ok (.iconst 0, 1) := by decide +kernel
theorem dX5_rotate_14 : decode cX5_rotate 14 = .ok (.invokevirtual 128, 3) := by decide +kernel
theorem dX5_rotate_17 : decode cX5_rotate 17 = .ok (.ireturn, 1) := by decide +kernel
theorem dX5_pass_0 : decode cX5_pass 0 = .ok (.aload_n 0, 1) := by decide +kernel
theorem dX5_pass_1 : decode cX5_pass 1 = .ok (.invokevirtual 98, 3) := by decide +kernel
theorem dX5_pass_4 : decode cX5_pass 4 = .ok (.aload_n 0, 1) := by decide +kernel
theorem dX5_pass_5 : decode cX5_pass 5 = .ok (.iload_n 1, 1) := by decide +kernel
theorem dX5_pass_6 : decode cX5_pass 6 = .ok (.iconst 1, 1) := by decide +kernel
theorem dX5_pass_7 : decode cX5_pass 7 = .ok (.sipush 600, 3) := by decide +kernel
theorem dX5_pass_10 : decode cX5_pass 10 = .ok (.invokestatic 48, 3) := by decide +kernel
theorem dX5_pass_13 : decode cX5_pass 13 = .ok (.ifCond .eq 11, 3) := by decide +kernel
theorem dX5_pass_16 : decode cX5_pass 16 = .ok (.aload_n 0, 1) := by decide +kernel
theorem dX5_pass_17 : decode cX5_pass 17 = .ok (.iload_n 1, 1) := by decide +kernel
theorem dX5_pass_18 : decode cX5_pass 18 = .ok (.invokevirtual 134, 3) := by decide +kernel
theorem dX5_pass_21 : decode cX5_pass 21 = .ok (.goto 4, 3) := by decide +kernel
theorem dX5_pass_24 : decode cX5_pass 24 = .ok (.iconst 1, 1) := by decide +kernel
theorem dX5_pass_25 : decode cX5_pass 25 = .ok (.invokevirtual 128, 3) := by decide +kernel
theorem dX5_pass_28 : decode cX5_pass 28 = .ok (.ireturn, 1) := by decide +kernel
theorem dX5_leakTest_0 : decode cX5_leakTest 0 = .ok (.iload_n 1, 1) := by decide +kernel
theorem dX5_leakTest_1 : decode cX5_leakTest 1 = .ok (.iconst 1, 1) := by decide +kernel
theorem dX5_leakTest_2 : decode cX5_leakTest 2 = .ok (.bipush 60, 2) := by decide +kernel
theorem dX5_leakTest_4 : decode cX5_leakTest 4 = .ok (.invokestatic 48, 3) := by decide +kernel
theorem dX5_leakTest_7 : decode cX5_leakTest 7 = .ok (.ifCond .ne 9, 3) := by decide +kernel
theorem dX5_leakTest_10 : decode cX5_leakTest 10 = .ok (.aload_n 0, 1) := by decide +kernel
theorem dX5_leakTest_11 : decode cX5_leakTest 11 = .ok (.iconst 1, 1) := by decide +kernel
theorem dX5_leakTest_12 : decode cX5_leakTest 12 = .ok (.invokevirtual 95, 3) := by decide +kernel
theorem dX5_leakTest_15 : decode cX5_leakTest 15 = .ok (.ireturn, 1) := by decide +kernel
theorem dX5_leakTest_16 : decode cX5_leakTest 16 = .ok (.aload_n 0, 1) := by decide +kernel
theorem dX5_leakTest_17 : decode cX5_leakTest 17 = .ok (.getfield 7, 3) := by decide +kernel
theorem dX5_leakTest_20 : decode cX5_leakTest 20 = .ok (.bipush 11, 2) := by decide +kernel
theorem dX5_leakTest_22 : decode cX5_leakTest 22 = .ok (.iaload, 1) := by decide +kernel
theorem dX5_leakTest_23 : decode cX5_leakTest 23 = .ok (.iload_n 1, 1) := by decide +kernel
theorem dX5_leakTest_24 : decode cX5_leakTest 24 = .ok (.iadd, 1) := by decide +kernel
theorem dX5_leakTest_25 : decode cX5_leakTest 25 = .ok (.ldc 120, 2) := by decide +kernel
theorem dX5_leakTest_27 : decode cX5_leakTest 27 = .ok (.if_icmp .le 9, 3) := by decide +kernel
theorem dX5_leakTest_30 : decode cX5_leakTest 30 = .ok (.aload_n 0, 1) := by decide +kernel
theorem dX5_leakTest_31 : decode cX5_leakTest 31 = .ok (.iconst 2, 1) := by decide +kernel
theorem dX5_leakTest_32 : decode cX5_leakTest 32 = .ok (.invokevirtual 95, 3) := by decide +kernel
theorem dX5_leakTest_35 : decode cX5_leakTest 35 = .ok (.ireturn, 1) := by decide +kernel
theorem dX5_leakTest_36 : decode cX5_leakTest 36 = .ok (.aload_n 0, 1) := by decide +kernel
theorem dX5_leakTest_37 : decode cX5_leakTest 37 = .ok (.invokevirtual 98, 3) := by decide +kernel
theorem dX5_leakTest_40 : decode cX5_leakTest 40 = .ok (.iconst 0, 1) := by decide +kernel
theorem dX5_leakTest_41 : decode cX5_leakTest 41 = .ok (.istore_n 2, 1) := by decide +kernel
theorem dX5_leakTest_42 : decode cX5_leakTest 42 = .ok (.iload_n 2, 1) := by decide +kernel
theorem dX5_leakTest_43 : decode cX5_leakTest 43 = .ok (.aload_n 0, 1) := by decide +kernel
theorem dX5_leakTest_44 : decode cX5_leakTest 44 = .ok (.getfield 7, 3) := by decide +kernel
theorem dX5_leakTest_47 : decode cX5_leakTest 47 = .ok (.bipush 10, 2) := by decide +kernel
theorem dX5_leakTest_49 : decode cX5_leakTest 49 = .ok (.iaload, 1) := by decide +kernel
theorem dX5_leakTest_50 : decode cX5_leakTest 50 = .ok (.if_icmp .ge 33, 3) := by decide +kernel
theorem dX5_leakTest_53 : decode cX5_leakTest 53 = .ok (.aload_n 0, 1) := by decide +kernel
theorem dX5_leakTest_54 : decode cX5_leakTest 54 = .ok (.iload_n 2, 1) := by decide +kernel
theorem dX5_leakTest_55 : decode cX5_leakTest 55 = .ok (.iconst 1, 1) := by decide +kernel
theorem dX5_leakTest_56 : decode cX5_leakTest 56 = .ok (.invokevirtual 56, 3) := by decide +kernel
theorem dX5_leakTest_59 : decode cX5_leakTest 59 = .ok (.iconst 1, 1) := by decide +kernel
theorem dX5_leakTest_60 : decode cX5_leakTest 60 = .ok (.if_icmp .ne 17, 3) := by decide +kernel
theorem dX5_leakTest_63 : decode cX5_leakTest 63 = .ok (.aload_n 0, 1) := by decide +kernel
theorem dX5_leakTest_64 : decode cX5_leakTest 64 = .ok (.iload_n 2, 1) := by decide +kernel
theorem dX5_leakTest_65 : decode cX5_leakTest 65 = .ok (.iconst 1, 1) := by decide +kernel
theorem dX5_leakTest_66 : decode cX5_leakTest 66 = .ok (.iconst 2, 1) := by decide +kernel
theorem dX5_leakTest_67 : decode cX5_leakTest 67 = .ok (.invokevirtual 72, 3) := by decide +kernel
theorem dX5_leakTest_70 : decode cX5_leakTest 70 = .ok (.aload_n 0, 1) := by decide +kernel
theorem dX5_leakTest_71 : decode cX5_leakTest 71 = .ok (.iload_n 2, 1) := by decide +kernel
theorem dX5_leakTest_72 : decode cX5_leakTest 72 = .ok (.iconst 4, 1) := by decide +kernel
theorem dX5_leakTest_73 : decode cX5_leakTest 73 = .ok (.iconst 0, 1) := by decide +kernel
theorem dX5_leakTest_74 : decode cX5_leakTest 74 = .ok (.invokevirtual 72, 3) := by decide +kernel
theorem dX5_leakTest_77 : decode cX5_leakTest 77 = .ok (.iinc 2 1, 3) := by decide +kernel
theorem dX5_leakTest_80 : decode cX5_leakTest 80 = .ok (.goto (-38), 3) := by decide +kernel
theorem dX5_leakTest_83 : decode cX5_leakTest 83 = .ok (.aload_n 0, 1) := by decide +kernel
theorem dX5_leakTest_84 : decode cX5_leakTest 84 = .ok (.getfield 13, 3) := by decide +kernel
theorem dX5_leakTest_87 : decode cX5_leakTest 87 = .ok (.iconst 1, 1) := by decide +kernel
theorem dX5_leakTest_88 : decode cX5_leakTest 88 = .ok (.laload, 1) := by decide +kernel
theorem dX5_leakTest_89 : decode cX5_leakTest 89 = .ok (.lstore_n 2, 1) := by decide +kernel
theorem dX5_leakTest_90 : decode cX5_leakTest 90 = .ok (.iconst 0, 1) := by decide +kernel
theorem dX5_leakTest_91 : decode cX5_leakTest 91 = .ok (.istore 4, 2) := by decide +kernel
theorem dX5_leakTest_93 : decode cX5_leakTest 93 = .ok (.iload 4, 2) := by decide +kernel
theorem dX5_leakTest_95 : decode cX5_leakTest 95 = .ok (.iload_n 1, 1) := by decide +kernel
theorem dX5_leakTest_96 : decode cX5_leakTest 96 = .ok (.if_icmp .ge 14, 3) := by decide +kernel
theorem dX5_leakTest_99 : decode cX5_leakTest 99 = .ok (.aload_n 0, 1) := by decide +kernel
theorem dX5_leakTest_100 : decode cX5_leakTest 100 = .ok (.iconst 1, 1) := by decide +kernel
theorem dX5_leakTest_101 : decode cX5_leakTest 101 = .ok (.invokevirtual 91, 3) := by decide +kernel
theorem dX5_leakTest_104 : decode cX5_leakTest 104 = .ok (.iinc 4 1, 3) := by decide +kernel
theorem dX5_leakTest_107 : decode cX5_leakTest 107 = .ok (.goto (-14), 3) := by decide +kernel
theorem dX5_leakTest_110 : decode cX5_leakTest 110 = .ok (.aload_n 0, 1) := by decide +kernel
theorem dX5_leakTest_111 : decode cX5_leakTest 111 = .ok (.getfield 7, 3) := by decide +kernel
theorem dX5_leakTest_114 : decode cX5_leakTest 114 = .ok (.bipush 14, 2) := by decide +kernel
theorem dX5_leakTest_116 : decode cX5_leakTest 116 = .ok (.iaload, 1) := by decide +kernel
theorem dX5_leakTest_117 : decode cX5_leakTest 117 = .ok (.bipush 6, 2) := by decide +kernel
theorem dX5_leakTest_119 : decode cX5_leakTest 119 = .ok (.if_icmp .ne 51, 3) := by decide +kernel
theorem dX5_leakTest_122 : decode cX5_leakTest 122 = .ok (.iconst 0, 1) := by decide +kernel
theorem dX5_leakTest_123 : decode cX5_leakTest 123 = .ok (.istore 4, 2) := by decide +kernel
theorem dX5_leakTest_125 : decode cX5_leakTest 125 = .ok (.iload 4, 2) := by decide +kernel
theorem dX5_leakTest_127 : decode cX5_leakTest 127 = .ok (.iconst 5, 1) := by decide +kernel
theorem dX5_leakTest_128 : decode cX5_leakTest 128 = .ok (.if_icmp .ge 31, 3) := by decide +kernel
theorem dX5_leakTest_131 : decode cX5_leakTest 131 = .ok (.aload_n 0, 1) := by decide +kernel
theorem dX5_leakTest_132 : decode cX5_leakTest 132 = .ok (.getfield 7, 3) := by decide +kernel
theorem dX5_leakTest_135 : decode cX5_leakTest 135 = .ok (.bipush 15, 2) := by decide +kernel
theorem dX5_leakTest_137 : decode cX5_leakTest 137 = .ok (.iload 4, 2) := by decide +kernel
theorem dX5_leakTest_139 : decode cX5_leakTest 139 = .ok (.iadd, 1) := by decide +kernel
theorem dX5_leakTest_140 : decode cX5_leakTest 140 = .ok (.aload_n 0, 1) := by decide +kernel
theorem dX5_leakTest_141 : decode cX5_leakTest 141 = .ok (.getfield 7, 3) := by decide +kernel
theorem dX5_leakTest_144 : decode cX5_leakTest 144 = .ok (.bipush 15, 2) := by decide +kernel
theorem dX5_leakTest_146 : decode cX5_leakTest 146 = .ok (.iload 4, 2) := by decide +kernel
theorem dX5_leakTest_148 : decode cX5_leakTest 148 = .ok (.iadd, 1) := by decide +kernel
theorem dX5_leakTest_149 : decode cX5_leakTest 149 = .ok (.iconst 1, 1) := by decide +kernel
theorem dX5_leakTest_150 : decode cX5_leakTest 150 = .ok (.iadd, 1) := by decide +kernel
theorem dX5_leakTest_151 : decode cX5_leakTest 151 = .ok (.iaload, 1) := by decide +kernel
theorem dX5_leakTest_152 : decode cX5_leakTest 152 = .ok (.iastore, 1) := by decide +kernel
theorem dX5_leakTest_153 : decode cX5_leakTest 153 = .ok (.iinc 4 1, 3) := by decide +kernel
theorem dX5_leakTest_156 : decode cX5_leakTest 156 = .ok (.goto (-31), 3) := by decide +kernel
theorem dX5_leakTest_159 : decode cX5_leakTest 159 = .ok (.aload_n 0, 1) := by decide +kernel
theorem dX5_leakTest_160 : decode cX5_leakTest 160 = .ok (.getfield 7, 3) := by decide +kernel
theorem dX5_leakTest_163 : decode cX5_leakTest 163 = .ok (.bipush 14, 2) := by decide +kernel
theorem dX5_leakTest_165 : decode cX5_leakTest 165 = .ok (.dup2, 1) := by decide +kernel
theorem dX5_leakTest_166 : decode cX5_leakTest 166 = .ok (.iaload, 1) := by decide +kernel
theorem dX5_leakTest_167 : decode cX5_leakTest 167 = .ok (.iconst 1, 1) := by decide +kernel
theorem dX5_leakTest_168 : decode cX5_leakTest 168 = .ok (.isub, 1) := by decide +kernel
theorem dX5_leakTest_169 : decode cX5_leakTest 169 = .ok (.iastore, 1) := by decide +kernel
theorem dX5_leakTest_170 : decode cX5_leakTest 170 = .ok (.aload_n 0, 1) := by decide +kernel
theorem dX5_leakTest_171 : decode cX5_leakTest 171 = .ok (.aload_n 0, 1) := by decide +kernel
theorem dX5_leakTest_172 : decode cX5_leakTest 172 = .ok (.getfield 13, 3) := by decide +kernel
theorem dX5_leakTest_175 : decode cX5_leakTest 175 = .ok (.iconst 1, 1) := by decide +kernel
theorem dX5_leakTest_176 : decode cX5_leakTest 176 = .ok (.laload, 1) := by decide +kernel
theorem dX5_leakTest_177 : decode cX5_leakTest 177 = .ok (.lload_n 2, 1) := by decide +kernel
theorem dX5_leakTest_178 : decode cX5_leakTest 178 = .ok (.lsub, 1) := by decide +kernel
theorem dX5_leakTest_179 : decode cX5_leakTest 179 = .ok (.l2i, 1) := by decide +kernel
theorem dX5_leakTest_180 : decode cX5_leakTest 180 = .ok (.putfield 117, 3) := by decide +kernel
theorem dX5_leakTest_183 : decode cX5_leakTest 183 = .ok (.aload_n 0, 1) := by decide +kernel
theorem dX5_leakTest_184 : decode cX5_leakTest 184 = .ok (.getfield 7, 3) := by decide +kernel
theorem dX5_leakTest_187 : decode cX5_leakTest 187 = .ok (.bipush 15, 2) := by decide +kernel
theorem dX5_leakTest_189 : decode cX5_leakTest 189 = .ok (.aload_n 0, 1) := by decide +kernel
theorem dX5_leakTest_190 : decode cX5_leakTest 190 = .ok (.getfield 7, 3) := by decide +kernel
theorem dX5_leakTest_193 : decode cX5_leakTest 193 = .ok (.bipush 14, 2) := by decide +kernel
theorem dX5_leakTest_195 : decode cX5_leakTest 195 = .ok (.iaload, 1) := by decide +kernel
theorem dX5_leakTest_196 : decode cX5_leakTest 196 = .ok (.iadd, 1) := by decide +kernel
theorem dX5_leakTest_197 : decode cX5_leakTest 197 = .ok (.aload_n 0, 1) := by decide +kernel
theorem dX5_leakTest_198 : decode cX5_leakTest 198 = .ok (.getfield 117, 3) := by decide +kernel
theorem dX5_leakTest_201 : decode cX5_leakTest 201 = .ok (.iastore, 1) := by decide +kernel
theorem dX5_leakTest_202 : decode cX5_leakTest 202 = .ok (.aload_n 0, 1) := by decide +kernel
theorem dX5_leakTest_203 : decode cX5_leakTest 203 = .ok (.getfield 7, 3) := by decide +kernel
theorem dX5_leakTest_206 : decode cX5_leakTest 206 = .ok (.bipush 14, 2) := by decide +kernel
theorem dX5_leakTest_208 : decode cX5_leakTest 208 = .ok (.dup2, 1) := by decide +kernel
theorem dX5_leakTest_209 : decode cX5_leakTest 209 = .ok (.iaload, 1) := by decide +kernel
theorem dX5_leakTest_210 : decode cX5_leakTest 210 = .ok (.iconst 1, 1) := by decide +kernel
theorem dX5_leakTest_211 : decode cX5_leakTest 211 = .ok (.iadd, 1) := by decide +kernel
theorem dX5_leakTest_212 : decode cX5_leakTest 212 = .ok (.iastore, 1) := by decide +kernel
theorem dX5_leakTest_213 : decode cX5_leakTest 213 = .ok (.aload_n 0, 1) := by decide +kernel
theorem dX5_leakTest_214 : decode cX5_leakTest 214 = .ok (.iconst 0, 1) := by decide +kernel
theorem dX5_leakTest_215 : decode cX5_leakTest 215 = .ok (.invokevirtual 128, 3) := by decide +kernel
theorem dX5_leakTest_218 : decode cX5_leakTest 218 = .ok (.ireturn, 1) := by decide +kernel
theorem dX5_told_0 : decode cX5_told 0 = .ok (.iload_n 2, 1) := by decide +kernel
theorem dX5_told_1 : decode cX5_told 1 = .ok (.tableswitch 140 0 8 #[51, 58, 65, 71, 78, 85, 106, 126, 134], 51) := by decide +kernel
theorem dX5_told_52 : decode cX5_told 52 = .ok (.aload_n 0, 1) := by decide +kernel
theorem dX5_told_53 : decode cX5_told 53 = .ok (.iload_n 1, 1) := by decide +kernel
theorem dX5_told_54 : decode cX5_told 54 = .ok (.iconst 0, 1) := by decide +kernel
theorem dX5_told_55 : decode cX5_told 55 = .ok (.invokevirtual 56, 3) := by decide +kernel
theorem dX5_told_58 : decode cX5_told 58 = .ok (.ireturn, 1) := by decide +kernel
theorem dX5_told_59 : decode cX5_told 59 = .ok (.aload_n 0, 1) := by decide +kernel
theorem dX5_told_60 : decode cX5_told 60 = .ok (.iload_n 1, 1) := by decide +kernel
theorem dX5_told_61 : decode cX5_told 61 = .ok (.iconst 1, 1) := by decide +kernel
theorem dX5_told_62 : decode cX5_told 62 = .ok (.invokevirtual 56, 3) := by decide +kernel
theorem dX5_told_65 : decode cX5_told 65 = .ok (.ireturn, 1) := by decide +kernel
theorem dX5_told_66 : decode cX5_told 66 = .ok (.aload_n 0, 1) := by decide +kernel
theorem dX5_told_67 : decode cX5_told 67 = .ok (.iload_n 1, 1) := by decide +kernel
theorem dX5_told_68 : decode cX5_told 68 = .ok (.invokevirtual 52, 3) := by decide +kernel
theorem dX5_told_71 : decode cX5_told 71 = .ok (.ireturn, 1) := by decide +kernel
theorem dX5_told_72 : decode cX5_told 72 = .ok (.aload_n 0, 1) := by decide +kernel
theorem dX5_told_73 : decode cX5_told 73 = .ok (.iload_n 1, 1) := by decide +kernel
theorem dX5_told_74 : decode cX5_told 74 = .ok (.iconst 2, 1) := by decide +kernel
theorem dX5_told_75 : decode cX5_told 75 = .ok (.invokevirtual 56, 3) := by decide +kernel
theorem dX5_told_78 : decode cX5_told 78 = .ok (.ireturn, 1) := by decide +kernel
theorem dX5_told_79 : decode cX5_told 79 = .ok (.aload_n 0, 1) := by decide +kernel
theorem dX5_told_80 : decode cX5_told 80 = .ok (.iload_n 1, 1) := by decide +kernel
theorem dX5_told_81 : decode cX5_told 81 = .ok (.iconst 3, 1) := by decide +kernel
theorem dX5_told_82 : decode cX5_told 82 = .ok (.invokevirtual 56, 3) := by decide +kernel
theorem dX5_told_85 : decode cX5_told 85 = .ok (.ireturn, 1) := by decide +kernel
theorem dX5_told_86 : decode cX5_told 86 = .ok (.aload_n 0, 1) := by decide +kernel
theorem dX5_told_87 : decode cX5_told 87 = .ok (.iload_n 1, 1) := by decide +kernel
theorem dX5_told_88 : decode cX5_told 88 = .ok (.iconst 1, 1) := by decide +kernel
theorem dX5_told_89 : decode cX5_told 89 = .ok (.invokevirtual 56, 3) := by decide +kernel
theorem dX5_told_92 : decode cX5_told 92 = .ok (.iconst 2, 1) := by decide +kernel
theorem dX5_told_93 : decode cX5_told 93 = .ok (.if_icmp .ne 12, 3) := by decide +kernel
theorem dX5_told_96 : decode cX5_told 96 = .ok (.aload_n 0, 1) := by decide +kernel
theorem dX5_told_97 : decode cX5_told 97 = .ok (.iload_n 1, 1) := by decide +kernel
theorem dX5_told_98 : decode cX5_told 98 = .ok (.iconst 4, 1) := by decide +kernel
theorem dX5_told_99 : decode cX5_told 99 = .ok (.invokevirtual 56, 3) := by decide +kernel
theorem dX5_told_102 : decode cX5_told 102 = .ok (.goto 4, 3) := by decide +kernel
theorem dX5_told_105 : decode cX5_told 105 = .ok (.iconst 0, 1) := by decide +kernel
theorem dX5_told_106 : decode cX5_told 106 = .ok (.ireturn, 1) := by decide +kernel
theorem dX5_told_107 : decode cX5_told 107 = .ok (.aload_n 0, 1) := by decide +kernel
theorem dX5_told_108 : decode cX5_told 108 = .ok (.iload_n 1, 1) := by decide +kernel
theorem dX5_told_109 : decode cX5_told 109 = .ok (.iconst 1, 1) := by decide +kernel
theorem dX5_told_110 : decode cX5_told 110 = .ok (.invokevirtual 56, 3) := by decide +kernel
theorem dX5_told_113 : decode cX5_told 113 = .ok (.ifCond .ne 12, 3) := by decide +kernel
theorem dX5_told_116 : decode cX5_told 116 = .ok (.aload_n 0, 1) := by decide +kernel
theorem dX5_told_117 : decode cX5_told 117 = .ok (.iload_n 1, 1) := by decide +kernel
theorem dX5_told_118 : decode cX5_told 118 = .ok (.iconst 5, 1) := by decide +kernel
theorem dX5_told_119 : decode cX5_told 119 = .ok (.invokevirtual 56, 3) := by decide +kernel
theorem dX5_told_122 : decode cX5_told 122 = .ok (.goto 4, 3) := by decide +kernel
theorem dX5_told_125 : decode cX5_told 125 = .ok (.iconst 0, 1) := by decide +kernel
theorem dX5_told_126 : decode cX5_told 126 = .ok (.ireturn, 1) := by decide +kernel
theorem dX5_told_127 : decode cX5_told 127 = .ok (.aload_n 0, 1) := by decide +kernel
theorem dX5_told_128 : decode cX5_told 128 = .ok (.iload_n 1, 1) := by decide +kernel
theorem dX5_told_129 : decode cX5_told 129 = .ok (.bipush 6, 2) := by decide +kernel
theorem dX5_told_131 : decode cX5_told 131 = .ok (.invokevirtual 56, 3) := by decide +kernel
theorem dX5_told_134 : decode cX5_told 134 = .ok (.ireturn, 1) := by decide +kernel
theorem dX5_told_135 : decode cX5_told 135 = .ok (.aload_n 0, 1) := by decide +kernel
theorem dX5_told_136 : decode cX5_told 136 = .ok (.iload_n 1, 1) := by decide +kernel
theorem dX5_told_137 : decode cX5_told 137 = .ok (.invokevirtual 66, 3) := by decide +kernel
theorem dX5_told_140 : decode cX5_told 140 = .ok (.ireturn, 1) := by decide +kernel
theorem dX5_told_141 : decode cX5_told 141 = .ok (.aload_n 0, 1) := by decide +kernel
theorem dX5_told_142 : decode cX5_told 142 = .ok (.iload_n 1, 1) := by decide +kernel
theorem dX5_told_143 : decode cX5_told 143 = .ok (.invokevirtual 63, 3) := by decide +kernel
theorem dX5_told_146 : decode cX5_told 146 = .ok (.ireturn, 1) := by decide +kernel
theorem dX5_compressor_0 : decode cX5_compressor 0 = .ok (.aload_n 0, 1) := by decide +kernel
theorem dX5_compressor_1 : decode cX5_compressor 1 = .ok (.iload_n 1, 1) := by decide +kernel
theorem dX5_compressor_2 : decode cX5_compressor 2 = .ok (.invokevirtual 113, 3) := by decide +kernel
theorem dX5_compressor_5 : decode cX5_compressor 5 = .ok (.ifCond .ne 9, 3) := by decide +kernel
theorem dX5_compressor_8 : decode cX5_compressor 8 = .ok (.aload_n 0, 1) := by decide +kernel
theorem dX5_compressor_9 : decode cX5_compressor 9 = .ok (.iconst 1, 1) := by decide +kernel
theorem dX5_compressor_10 : decode cX5_compressor 10 = .ok (.invokevirtual 95, 3) := by decide +kernel
theorem dX5_compressor_13 : decode cX5_compressor 13 = .ok (.ireturn, 1) := by decide +kernel
theorem dX5_compressor_14 : decode cX5_compressor 14 = .ok (.iload_n 2, 1) := by decide +kernel
theorem dX5_compressor_15 : decode cX5_compressor 15 = .ok (.iconst 0, 1) := by decide +kernel
theorem dX5_compressor_16 : decode cX5_compressor 16 = .ok (.bipush 9, 2) := by decide +kernel
theorem dX5_compressor_18 : decode cX5_compressor 18 = .ok (.invokestatic 48, 3) := by decide +kernel
theorem dX5_compressor_21 : decode cX5_compressor 21 = .ok (.ifCond .eq 16, 3) := by decide +kernel
theorem dX5_compressor_24 : decode cX5_compressor 24 = .ok (.aload_n 0, 1) := by decide +kernel
theorem dX5_compressor_25 : decode cX5_compressor 25 = .ok (.aload_n 0, 1) := by decide +kernel
theorem dX5_compressor_26 : decode cX5_compressor 26 = .ok (.iload_n 1, 1) := by decide +kernel
theorem dX5_compressor_27 : decode cX5_compressor 27 = .ok (.iload_n 2, 1) := by decide +kernel
theorem dX5_compressor_28 : decode cX5_compressor 28 = .ok (.invokevirtual 137, 3) := by decide +kernel
theorem dX5_compressor_31 : decode cX5_compressor 31 = .ok (.invokevirtual 104, 3) := by decide +kernel
theorem dX5_compressor_34 : decode cX5_compressor 34 = .ok (.goto 8, 3) := by decide +kernel
theorem dX5_compressor_37 : decode cX5_compressor 37 = .ok (.aload_n 0, 1) := by decide +kernel
theorem dX5_compressor_38 : decode cX5_compressor 38 = .ok (.iconst 2, 1) := by decide +kernel
theorem dX5_compressor_39 : decode cX5_compressor 39 = .ok (.invokevirtual 95, 3) := by decide +kernel
theorem dX5_compressor_42 : decode cX5_compressor 42 = .ok (.ireturn, 1) := by decide +kernel
theorem dX5_atStage_0 : decode cX5_atStage 0 = .ok (.iload_n 1, 1) := by decide +kernel
theorem dX5_atStage_1 : decode cX5_atStage 1 = .ok (.iconst 0, 1) := by decide +kernel
theorem dX5_atStage_2 : decode cX5_atStage 2 = .ok (.aload_n 0, 1) := by decide +kernel
theorem dX5_atStage_3 : decode cX5_atStage 3 = .ok (.getfield 7, 3) := by decide +kernel
theorem dX5_atStage_6 : decode cX5_atStage 6 = .ok (.bipush 10, 2) := by decide +kernel
theorem dX5_atStage_8 : decode cX5_atStage 8 = .ok (.iaload, 1) := by decide +kernel
theorem dX5_atStage_9 : decode cX5_atStage 9 = .ok (.iconst 1, 1) := by decide +kernel
theorem dX5_atStage_10 : decode cX5_atStage 10 = .ok (.isub, 1) := by decide +kernel
theorem dX5_atStage_11 : decode cX5_atStage 11 = .ok (.invokestatic 48, 3) := by decide +kernel
theorem dX5_atStage_14 : decode cX5_atStage 14 = .ok (.ifCond .eq 19, 3) := by decide +kernel
theorem dX5_atStage_17 : decode cX5_atStage 17 = .ok (.aload_n 0, 1) := by decide +kernel
theorem dX5_atStage_18 : decode cX5_atStage 18 = .ok (.aload_n 0, 1) := by decide +kernel
theorem dX5_atStage_19 : decode cX5_atStage 19 = .ok (.getfield 7, 3) := by decide +kernel
theorem dX5_atStage_22 : decode cX5_atStage 22 = .ok (.bipush 56, 2) := by decide +kernel
theorem dX5_atStage_24 : decode cX5_atStage 24 = .ok (.iload_n 1, 1) := by decide +kernel
theorem dX5_atStage_25 : decode cX5_atStage 25 = .ok (.iadd, 1) := by decide +kernel
theorem dX5_atStage_26 : decode cX5_atStage 26 = .ok (.iaload, 1) := by decide +kernel
theorem dX5_atStage_27 : decode cX5_atStage 27 = .ok (.invokevirtual 104, 3) := by decide +kernel
theorem dX5_atStage_30 : decode cX5_atStage 30 = .ok (.goto 8, 3) := by decide +kernel
theorem dX5_atStage_33 : decode cX5_atStage 33 = .ok (.aload_n 0, 1) := by decide +kernel
theorem dX5_atStage_34 : decode cX5_atStage 34 = .ok (.iconst 1, 1) := by decide +kernel
theorem dX5_atStage_35 : decode cX5_atStage 35 = .ok (.invokevirtual 95, 3) := by decide +kernel
theorem dX5_atStage_38 : decode cX5_atStage 38 = .ok (.ireturn, 1) := by decide +kernel
theorem dX5_capacities_0 : decode cX5_capacities 0 = .ok (.iconst 0, 1) := by decide +kernel
theorem dX5_capacities_1 : decode cX5_capacities 1 = .ok (.istore_n 2, 1) := by decide +kernel
theorem dX5_capacities_2 : decode cX5_capacities 2 = .ok (.iconst 0, 1) := by decide +kernel
theorem dX5_capacities_3 : decode cX5_capacities 3 = .ok (.istore_n 3, 1) := by decide +kernel
theorem dX5_capacities_4 : decode cX5_capacities 4 = .ok (.iload_n 3, 1) := by decide +kernel
theorem dX5_capacities_5 : decode cX5_capacities 5 = .ok (.aload_n 0, 1) := by decide +kernel
theorem dX5_capacities_6 : decode cX5_capacities 6 = .ok (.getfield 7, 3) := by decide +kernel
theorem dX5_capacities_9 : decode cX5_capacities 9 = .ok (.bipush 10, 2) := by decide +kernel
theorem dX5_capacities_11 : decode cX5_capacities 11 = .ok (.iaload, 1) := by decide +kernel
theorem dX5_capacities_12 : decode cX5_capacities 12 = .ok (.if_icmp .ge 66, 3) := by decide +kernel
theorem dX5_capacities_15 : decode cX5_capacities 15 = .ok (.iload_n 1, 1) := by decide +kernel
theorem dX5_capacities_16 : decode cX5_capacities 16 = .ok (.ifCond .eq 21, 3) := by decide +kernel
theorem dX5_capacities_19 : decode cX5_capacities 19 = .ok (.aload_n 0, 1) := by decide +kernel
theorem dX5_capacities_20 : decode cX5_capacities 20 = .ok (.iload_n 3, 1) := by decide +kernel
theorem dX5_capacities_21 : decode cX5_capacities 21 = .ok (.iconst 1, 1) := by decide +kernel
theorem dX5_capacities_22 : decode cX5_capacities 22 = .ok (.invokevirtual 56, 3) := by decide +kernel
theorem dX5_capacities_25 : decode cX5_capacities 25 = .ok (.iconst 1, 1) := by decide +kernel
theorem dX5_capacities_26 : decode cX5_capacities 26 = .ok (.if_icmp .ne 7, 3) := by decide +kernel
theorem dX5_capacities_29 : decode cX5_capacities 29 = .ok (.iconst 1, 1) := by decide +kernel
theorem dX5_capacities_30 : decode cX5_capacities 30 = .ok (.goto 22, 3) := by decide +kernel
theorem dX5_capacities_33 : decode cX5_capacities 33 = .ok (.iconst 0, 1) := by decide +kernel
theorem dX5_capacities_34 : decode cX5_capacities 34 = .ok (.goto 18, 3) := by decide +kernel
theorem dX5_capacities_37 : decode cX5_capacities 37 = .ok (.aload_n 0, 1) := by decide +kernel
theorem dX5_capacities_38 : decode cX5_capacities 38 = .ok (.iload_n 3, 1) := by decide +kernel
theorem dX5_capacities_39 : decode cX5_capacities 39 = .ok (.iconst 1, 1) := by decide +kernel
theorem dX5_capacities_40 : decode cX5_capacities 40 = .ok (.invokevirtual 56, 3) := by decide +kernel
theorem dX5_capacities_43 : decode cX5_capacities 43 = .ok (.iconst 3, 1) := by decide +kernel
theorem dX5_capacities_44 : decode cX5_capacities 44 = .ok (.if_icmp .eq 7, 3) := by decide +kernel
theorem dX5_capacities_47 : decode cX5_capacities 47 = .ok (.iconst 1, 1) := by decide +kernel
theorem dX5_capacities_48 : decode cX5_capacities 48 = .ok (.goto 4, 3) := by decide +kernel
theorem dX5_capacities_51 : decode cX5_capacities 51 = .ok (.iconst 0, 1) := by decide +kernel
theorem dX5_capacities_52 : decode cX5_capacities 52 = .ok (.istore 4, 2) := by decide +kernel
theorem dX5_capacities_54 : decode cX5_capacities 54 = .ok (.iload_n 2, 1) := by decide +kernel
theorem dX5_capacities_55 : decode cX5_capacities 55 = .ok (.iload 4, 2) := by decide +kernel
theorem dX5_capacities_57 : decode cX5_capacities 57 = .ok (.ifCond .eq 12, 3) := by decide +kernel
theorem dX5_capacities_60 : decode cX5_capacities 60 = .ok (.aload_n 0, 1) := by decide +kernel
theorem dX5_capacities_61 : decode cX5_capacities 61 = .ok (.iload_n 3, 1) := by decide +kernel
theorem dX5_capacities_62 : decode cX5_capacities 62 = .ok (.iconst 0, 1) := by decide +kernel
theorem dX5_capacities_63 : decode cX5_capacities 63 = .ok (.invokevirtual 56, 3) := by decide +kernel
theorem dX5_capacities_66 : decode cX5_capacities 66 = .ok (.goto 4, 3) := by decide +kernel
theorem dX5_capacities_69 : decode cX5_capacities 69 = .ok (.iconst 0, 1) := by decide +kernel
theorem dX5_capacities_70 : decode cX5_capacities 70 = .ok (.iadd, 1) := by decide +kernel
theorem dX5_capacities_71 : decode cX5_capacities 71 = .ok (.istore_n 2, 1) := by decide +kernel
theorem dX5_capacities_72 : decode cX5_capacities 72 = .ok (.iinc 3 1, 3) := by decide +kernel
theorem dX5_capacities_75 : decode cX5_capacities 75 = .ok (.goto (-71), 3) := by decide +kernel
theorem dX5_capacities_78 : decode cX5_capacities 78 = .ok (.iload_n 2, 1) := by decide +kernel
theorem dX5_capacities_79 : decode cX5_capacities 79 = .ok (.ireturn, 1) := by decide +kernel
theorem dX5_valueOf_0 : decode cX5_valueOf 0 = .ok (.iload_n 1, 1) := by decide +kernel
theorem dX5_valueOf_1 : decode cX5_valueOf 1 = .ok (.tableswitch 124 0 10 #[59, 66, 73, 78, 86, 86, 86, 94, 102, 110, 118], 59) := by decide +kernel
theorem dX5_valueOf_60 : decode cX5_valueOf 60 = .ok (.aload_n 0, 1) := by decide +kernel
theorem dX5_valueOf_61 : decode cX5_valueOf 61 = .ok (.getfield 7, 3) := by decide +kernel
theorem dX5_valueOf_64 : decode cX5_valueOf 64 = .ok (.iconst 0, 1) := by decide +kernel
theorem dX5_valueOf_65 : decode cX5_valueOf 65 = .ok (.iaload, 1) := by decide +kernel
theorem dX5_valueOf_66 : decode cX5_valueOf 66 = .ok (.ireturn, 1) := by decide +kernel
theorem dX5_valueOf_67 : decode cX5_valueOf 67 = .ok (.aload_n 0, 1) := by decide +kernel
theorem dX5_valueOf_68 : decode cX5_valueOf 68 = .ok (.getfield 7, 3) := by decide +kernel
theorem dX5_valueOf_71 : decode cX5_valueOf 71 = .ok (.iconst 1, 1) := by decide +kernel
theorem dX5_valueOf_72 : decode cX5_valueOf 72 = .ok (.iaload, 1) := by decide +kernel
theorem dX5_valueOf_73 : decode cX5_valueOf 73 = .ok (.ireturn, 1) := by decide +kernel
theorem dX5_valueOf_74 : decode cX5_valueOf 74 = .ok (.aload_n 0, 1) := by decide +kernel
theorem dX5_valueOf_75 : decode cX5_valueOf 75 = .ok (.invokevirtual 84, 3) := by decide +kernel
theorem dX5_valueOf_78 : decode cX5_valueOf 78 = .ok (.ireturn, 1) := by decide +kernel
theorem dX5_valueOf_79 : decode cX5_valueOf 79 = .ok (.aload_n 0, 1) := by decide +kernel
theorem dX5_valueOf_80 : decode cX5_valueOf 80 = .ok (.getfield 7, 3) := by decide +kernel
theorem dX5_valueOf_83 : decode cX5_valueOf 83 = .ok (.bipush 10, 2) := by decide +kernel
theorem dX5_valueOf_85 : decode cX5_valueOf 85 = .ok (.iaload, 1) := by decide +kernel
theorem dX5_valueOf_86 : decode cX5_valueOf 86 = .ok (.ireturn, 1) := by decide +kernel
theorem dX5_valueOf_87 : decode cX5_valueOf 87 = .ok (.aload_n 0, 1) := by decide +kernel
theorem dX5_valueOf_88 : decode cX5_valueOf 88 = .ok (.iload_n 1, 1) := by decide +kernel
theorem dX5_valueOf_89 : decode cX5_valueOf 89 = .ok (.iconst 3, 1) := by decide +kernel
theorem dX5_valueOf_90 : decode cX5_valueOf 90 = .ok (.isub, 1) := by decide +kernel
theorem dX5_valueOf_91 : decode cX5_valueOf 91 = .ok (.invokevirtual 140, 3) := by decide +kernel
theorem dX5_valueOf_94 : decode cX5_valueOf 94 = .ok (.ireturn, 1) := by decide +kernel
theorem dX5_valueOf_95 : decode cX5_valueOf 95 = .ok (.aload_n 0, 1) := by decide +kernel
theorem dX5_valueOf_96 : decode cX5_valueOf 96 = .ok (.getfield 7, 3) := by decide +kernel
theorem dX5_valueOf_99 : decode cX5_valueOf 99 = .ok (.bipush 11, 2) := by decide +kernel
theorem dX5_valueOf_101 : decode cX5_valueOf 101 = .ok (.iaload, 1) := by decide +kernel
theorem dX5_valueOf_102 : decode cX5_valueOf 102 = .ok (.ireturn, 1) := by decide +kernel
theorem dX5_valueOf_103 : decode cX5_valueOf 103 = .ok (.aload_n 0, 1) := by decide +kernel
theorem dX5_valueOf_104 : decode cX5_valueOf 104 = .ok (.getfield 7, 3) := by decide +kernel
theorem dX5_valueOf_107 : decode cX5_valueOf 107 = .ok (.bipush 12, 2) := by decide +kernel
theorem dX5_valueOf_109 : decode cX5_valueOf 109 = .ok (.iaload, 1) := by decide +kernel
theorem dX5_valueOf_110 : decode cX5_valueOf 110 = .ok (.ireturn, 1) := by decide +kernel
theorem dX5_valueOf_111 : decode cX5_valueOf 111 = .ok (.aload_n 0, 1) := by decide +kernel
theorem dX5_valueOf_112 : decode cX5_valueOf 112 = .ok (.getfield 7, 3) := by decide +kernel
theorem dX5_valueOf_115 : decode cX5_valueOf 115 = .ok (.bipush 13, 2) := by decide +kernel
theorem dX5_valueOf_117 : decode cX5_valueOf 117 = .ok (.iaload, 1) := by decide +kernel
theorem dX5_valueOf_118 : decode cX5_valueOf 118 = .ok (.ireturn, 1) := by decide +kernel
theorem dX5_valueOf_119 : decode cX5_valueOf 119 = .ok (.aload_n 0, 1) := by decide +kernel
theorem dX5_valueOf_120 : decode cX5_valueOf 120 = .ok (.iconst 1, 1) := by decide +kernel
theorem dX5_valueOf_121 : decode cX5_valueOf 121 = .ok (.invokevirtual 143, 3) := by decide +kernel
theorem dX5_valueOf_124 : decode cX5_valueOf 124 = .ok (.ireturn, 1) := by decide +kernel
theorem dX5_valueOf_125 : decode cX5_valueOf 125 = .ok (.aload_n 0, 1) := by decide +kernel
theorem dX5_valueOf_126 : decode cX5_valueOf 126 = .ok (.getfield 7, 3) := by decide +kernel
theorem dX5_valueOf_129 : decode cX5_valueOf 129 = .ok (.bipush 14, 2) := by decide +kernel
theorem dX5_valueOf_131 : decode cX5_valueOf 131 = .ok (.iaload, 1) := by decide +kernel
theorem dX5_valueOf_132 : decode cX5_valueOf 132 = .ok (.ireturn, 1) := by decide +kernel
theorem dX5_value_0 : decode cX5_value 0 = .ok (.iload_n 1, 1) := by decide +kernel
theorem dX5_value_1 : decode cX5_value 1 = .ok (.iconst 0, 1) := by decide +kernel
theorem dX5_value_2 : decode cX5_value 2 = .ok (.bipush 11, 2) := by decide +kernel
theorem dX5_value_4 : decode cX5_value 4 = .ok (.invokestatic 48, 3) := by decide +kernel
theorem dX5_value_7 : decode cX5_value 7 = .ok (.ifCond .eq 15, 3) := by decide +kernel
theorem dX5_value_10 : decode cX5_value 10 = .ok (.aload_n 0, 1) := by decide +kernel
theorem dX5_value_11 : decode cX5_value 11 = .ok (.aload_n 0, 1) := by decide +kernel
theorem dX5_value_12 : decode cX5_value 12 = .ok (.iload_n 1, 1) := by decide +kernel
theorem dX5_value_13 : decode cX5_value 13 = .ok (.invokevirtual 147, 3) := by decide +kernel
theorem dX5_value_16 : decode cX5_value 16 = .ok (.invokevirtual 104, 3) := by decide +kernel
theorem dX5_value_19 : decode cX5_value 19 = .ok (.goto 8, 3) := by decide +kernel
theorem dX5_value_22 : decode cX5_value 22 = .ok (.aload_n 0, 1) := by decide +kernel
theorem dX5_value_23 : decode cX5_value 23 = .ok (.iconst 1, 1) := by decide +kernel
theorem dX5_value_24 : decode cX5_value 24 = .ok (.invokevirtual 95, 3) := by decide +kernel
theorem dX5_value_27 : decode cX5_value 27 = .ok (.ireturn, 1) := by decide +kernel
theorem dX5_setting_0 : decode cX5_setting 0 = .ok (.iload_n 1, 1) := by decide +kernel
theorem dX5_setting_1 : decode cX5_setting 1 = .ok (.iconst 0, 1) := by decide +kernel
theorem dX5_setting_2 : decode cX5_setting 2 = .ok (.bipush 7, 2) := by decide +kernel
theorem dX5_setting_4 : decode cX5_setting 4 = .ok (.invokestatic 48, 3) := by decide +kernel
theorem dX5_setting_7 : decode cX5_setting 7 = .ok (.ifCond .eq 18, 3) := by decide +kernel
theorem dX5_setting_10 : decode cX5_setting 10 = .ok (.aload_n 0, 1) := by decide +kernel
theorem dX5_setting_11 : decode cX5_setting 11 = .ok (.aload_n 0, 1) := by decide +kernel
theorem dX5_setting_12 : decode cX5_setting 12 = .ok (.getfield 7, 3) := by decide +kernel
theorem dX5_setting_15 : decode cX5_setting 15 = .ok (.iconst 2, 1) := by decide +kernel
theorem dX5_setting_16 : decode cX5_setting 16 = .ok (.iload_n 1, 1) := by decide +kernel
theorem dX5_setting_17 : decode cX5_setting 17 = .ok (.iadd, 1) := by decide +kernel
theorem dX5_setting_18 : decode cX5_setting 18 = .ok (.iaload, 1) := by decide +kernel
theorem dX5_setting_19 : decode cX5_setting 19 = .ok (.invokevirtual 104, 3) := by decide +kernel
theorem dX5_setting_22 : decode cX5_setting 22 = .ok (.goto 8, 3) := by decide +kernel
theorem dX5_setting_25 : decode cX5_setting 25 = .ok (.aload_n 0, 1) := by decide +kernel
theorem dX5_setting_26 : decode cX5_setting 26 = .ok (.iconst 1, 1) := by decide +kernel
theorem dX5_setting_27 : decode cX5_setting 27 = .ok (.invokevirtual 95, 3) := by decide +kernel
theorem dX5_setting_30 : decode cX5_setting 30 = .ok (.ireturn, 1) := by decide +kernel
theorem dX5_booked_0 : decode cX5_booked 0 = .ok (.iload_n 1, 1) := by decide +kernel
theorem dX5_booked_1 : decode cX5_booked 1 = .ok (.iconst 0, 1) := by decide +kernel
theorem dX5_booked_2 : decode cX5_booked 2 = .ok (.iconst 5, 1) := by decide +kernel
theorem dX5_booked_3 : decode cX5_booked 3 = .ok (.invokestatic 48, 3) := by decide +kernel
theorem dX5_booked_6 : decode cX5_booked 6 = .ok (.ifCond .ne 10, 3) := by decide +kernel
theorem dX5_booked_9 : decode cX5_booked 9 = .ok (.aload_n 0, 1) := by decide +kernel
theorem dX5_booked_10 : decode cX5_booked 10 = .ok (.iconst 1, 1) := by decide +kernel
theorem dX5_booked_11 : decode cX5_booked 11 = .ok (.invokevirtual 95, 3) := by decide +kernel
theorem dX5_booked_14 : decode cX5_booked 14 = .ok (.i2l, 1) := by decide +kernel
theorem dX5_booked_15 : decode cX5_booked 15 = .ok (.lreturn, 1) := by decide +kernel
theorem dX5_booked_16 : decode cX5_booked 16 = .ok (.aload_n 0, 1) := by decide +kernel
theorem dX5_booked_17 : decode cX5_booked 17 = .ok (.iconst 0, 1) := by decide +kernel
theorem dX5_booked_18 : decode cX5_booked 18 = .ok (.putfield 41, 3) := by decide +kernel
theorem dX5_booked_21 : decode cX5_booked 21 = .ok (.aload_n 0, 1) := by decide +kernel
theorem dX5_booked_22 : decode cX5_booked 22 = .ok (.getfield 13, 3) := by decide +kernel
theorem dX5_booked_25 : decode cX5_booked 25 = .ok (.iload_n 1, 1) := by decide +kernel
theorem dX5_booked_26 : decode cX5_booked 26 = .ok (.laload, 1) := by decide +kernel
theorem dX5_booked_27 : decode cX5_booked 27 = .ok (.lreturn, 1) := by decide +kernel
theorem dX5_result_0 : decode cX5_result 0 = .ok (.iload_n 1, 1) := by decide +kernel
theorem dX5_result_1 : decode cX5_result 1 = .ok (.iconst 0, 1) := by decide +kernel
