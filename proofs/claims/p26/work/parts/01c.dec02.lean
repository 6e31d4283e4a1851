theorem dL_law_136 : decode cL_law 136 = .ok (.bipush 6, 2) := by decide +kernel
theorem dL_law_138 : decode cL_law 138 = .ok (.invokevirtual 32, 3) := by decide +kernel
theorem dL_law_141 : decode cL_law 141 = .ok (.istore 8, 2) := by decide +kernel
theorem dL_law_143 : decode cL_law 143 = .ok (.aload_n 1, 1) := by decide +kernel
theorem dL_law_144 : decode cL_law 144 = .ok (.iload 5, 2) := by decide +kernel
theorem dL_law_146 : decode cL_law 146 = .ok (.invokestatic 35, 3) := by decide +kernel
theorem dL_law_149 : decode cL_law 149 = .ok (.ifCond .eq 66, 3) := by decide +kernel
theorem dL_law_152 : decode cL_law 152 = .ok (.aload_n 1, 1) := by decide +kernel
theorem dL_law_153 : decode cL_law 153 = .ok (.bipush 7, 2) := by decide +kernel
theorem dL_law_155 : decode cL_law 155 = .ok (.invokevirtual 32, 3) := by decide +kernel
theorem dL_law_158 : decode cL_law 158 = .ok (.iload 7, 2) := by decide +kernel
theorem dL_law_160 : decode cL_law 160 = .ok (.if_icmp .lt 55, 3) := by decide +kernel
theorem dL_law_163 : decode cL_law 163 = .ok (.aload_n 1, 1) := by decide +kernel
theorem dL_law_164 : decode cL_law 164 = .ok (.bipush 6, 2) := by decide +kernel
theorem dL_law_166 : decode cL_law 166 = .ok (.invokevirtual 32, 3) := by decide +kernel
theorem dL_law_169 : decode cL_law 169 = .ok (.iload 8, 2) := by decide +kernel
theorem dL_law_171 : decode cL_law 171 = .ok (.if_icmp .lt 44, 3) := by decide +kernel
theorem dL_law_174 : decode cL_law 174 = .ok (.aload_n 1, 1) := by decide +kernel
theorem dL_law_175 : decode cL_law 175 = .ok (.iconst 4, 1) := by decide +kernel
theorem dL_law_176 : decode cL_law 176 = .ok (.invokevirtual 32, 3) := by decide +kernel
theorem dL_law_179 : decode cL_law 179 = .ok (.ifCond .lt 36, 3) := by decide +kernel
theorem dL_law_182 : decode cL_law 182 = .ok (.aload_n 1, 1) := by decide +kernel
theorem dL_law_183 : decode cL_law 183 = .ok (.iconst 4, 1) := by decide +kernel
theorem dL_law_184 : decode cL_law 184 = .ok (.invokevirtual 32, 3) := by decide +kernel
theorem dL_law_187 : decode cL_law 187 = .ok (.sipush 5000, 3) := by decide +kernel
theorem dL_law_190 : decode cL_law 190 = .ok (.if_icmp .gt 25, 3) := by decide +kernel
theorem dL_law_193 : decode cL_law 193 = .ok (.iload 5, 2) := by decide +kernel
theorem dL_law_195 : decode cL_law 195 = .ok (.bipush 14, 2) := by decide +kernel
theorem dL_law_197 : decode cL_law 197 = .ok (.invokestatic 18, 3) := by decide +kernel
theorem dL_law_200 : decode cL_law 200 = .ok (.bipush 6, 2) := by decide +kernel
theorem dL_law_202 : decode cL_law 202 = .ok (.if_icmp .eq 15, 3) := by decide +kernel
theorem dL_law_205 : decode cL_law 205 = .ok (.aload_n 1, 1) := by decide +kernel
theorem dL_law_206 : decode cL_law 206 = .ok (.iconst 4, 1) := by decide +kernel
theorem dL_law_207 : decode cL_law 207 = .ok (.invokevirtual 32, 3) := by decide +kernel
theorem dL_law_210 : decode cL_law 210 = .ok (.iload 6, 2) := by decide +kernel
theorem dL_law_212 : decode cL_law 212 = .ok (.if_icmp .le 5, 3) := by decide +kernel
theorem dL_law_215 : decode cL_law 215 = .ok (.iconst 0, 1) := by decide +kernel
theorem dL_law_216 : decode cL_law 216 = .ok (.ireturn, 1) := by decide +kernel
theorem dL_law_217 : decode cL_law 217 = .ok (.iload 4, 2) := by decide +kernel
theorem dL_law_219 : decode cL_law 219 = .ok (.bipush 10, 2) := by decide +kernel
theorem dL_law_221 : decode cL_law 221 = .ok (.irem, 1) := by decide +kernel
theorem dL_law_222 : decode cL_law 222 = .ok (.bipush 9, 2) := by decide +kernel
theorem dL_law_224 : decode cL_law 224 = .ok (.if_icmp .eq 6, 3) := by decide +kernel
theorem dL_law_227 : decode cL_law 227 = .ok (.goto 60, 3) := by decide +kernel
theorem dL_law_230 : decode cL_law 230 = .ok (.aload_n 1, 1) := by decide +kernel
theorem dL_law_231 : decode cL_law 231 = .ok (.invokevirtual 39, 3) := by decide +kernel
theorem dL_law_234 : decode cL_law 234 = .ok (.lstore 9, 2) := by decide +kernel
theorem dL_law_236 : decode cL_law 236 = .ok (.aload_n 1, 1) := by decide +kernel
theorem dL_law_237 : decode cL_law 237 = .ok (.invokestatic 43, 3) := by decide +kernel
theorem dL_law_240 : decode cL_law 240 = .ok (.ifCond .eq 45, 3) := by decide +kernel
theorem dL_law_243 : decode cL_law 243 = .ok (.aload_n 1, 1) := by decide +kernel
theorem dL_law_244 : decode cL_law 244 = .ok (.iload 5, 2) := by decide +kernel
theorem dL_law_246 : decode cL_law 246 = .ok (.bipush 6, 2) := by decide +kernel
theorem dL_law_248 : decode cL_law 248 = .ok (.invokestatic 18, 3) := by decide +kernel
theorem dL_law_251 : decode cL_law 251 = .ok (.iload 5, 2) := by decide +kernel
theorem dL_law_253 : decode cL_law 253 = .ok (.iconst 3, 1) := by decide +kernel
theorem dL_law_254 : decode cL_law 254 = .ok (.ishr, 1) := by decide +kernel
theorem dL_law_255 : decode cL_law 255 = .ok (.bipush 6, 2) := by decide +kernel
theorem dL_law_257 : decode cL_law 257 = .ok (.invokestatic 18, 3) := by decide +kernel
theorem dL_law_260 : decode cL_law 260 = .ok (.iload_n 2, 1) := by decide +kernel
theorem dL_law_261 : decode cL_law 261 = .ok (.iload_n 3, 1) := by decide +kernel
theorem dL_law_262 : decode cL_law 262 = .ok (.invokestatic 47, 3) := by decide +kernel
theorem dL_law_265 : decode cL_law 265 = .ok (.ifCond .eq 20, 3) := by decide +kernel
theorem dL_law_268 : decode cL_law 268 = .ok (.aload_n 1, 1) := by decide +kernel
theorem dL_law_269 : decode cL_law 269 = .ok (.invokestatic 51, 3) := by decide +kernel
theorem dL_law_272 : decode cL_law 272 = .ok (.ifCond .eq 13, 3) := by decide +kernel
theorem dL_law_275 : decode cL_law 275 = .ok (.aload_n 1, 1) := by decide +kernel
theorem dL_law_276 : decode cL_law 276 = .ok (.invokevirtual 39, 3) := by decide +kernel
theorem dL_law_279 : decode cL_law 279 = .ok (.lload 9, 2) := by decide +kernel
theorem dL_law_281 : decode cL_law 281 = .ok (.lcmp, 1) := by decide +kernel
theorem dL_law_282 : decode cL_law 282 = .ok (.ifCond .eq 5, 3) := by decide +kernel
theorem dL_law_285 : decode cL_law 285 = .ok (.iconst 0, 1) := by decide +kernel
theorem dL_law_286 : decode cL_law 286 = .ok (.ireturn, 1) := by decide +kernel
theorem dL_law_287 : decode cL_law 287 = .ok (.iinc 4 1, 3) := by decide +kernel
theorem dL_law_290 : decode cL_law 290 = .ok (.goto (-199), 3) := by decide +kernel
theorem dL_law_293 : decode cL_law 293 = .ok (.iconst 1, 1) := by decide +kernel
theorem dL_law_294 : decode cL_law 294 = .ok (.ireturn, 1) := by decide +kernel
theorem dL_act_0 : decode cL_act 0 = .ok (.iload_n 1, 1) := by decide +kernel
theorem dL_act_1 : decode cL_act 1 = .ok (.iconst 4, 1) := by decide +kernel
theorem dL_act_2 : decode cL_act 2 = .ok (.ishr, 1) := by decide +kernel
theorem dL_act_3 : decode cL_act 3 = .ok (.bipush 6, 2) := by decide +kernel
theorem dL_act_5 : decode cL_act 5 = .ok (.invokestatic 18, 3) := by decide +kernel
theorem dL_act_8 : decode cL_act 8 = .ok (.istore_n 2, 1) := by decide +kernel
theorem dL_act_9 : decode cL_act 9 = .ok (.iload_n 1, 1) := by decide +kernel
theorem dL_act_10 : decode cL_act 10 = .ok (.iconst 3, 1) := by decide +kernel
theorem dL_act_11 : decode cL_act 11 = .ok (.ishr, 1) := by decide +kernel
theorem dL_act_12 : decode cL_act 12 = .ok (.iconst 2, 1) := by decide +kernel
theorem dL_act_13 : decode cL_act 13 = .ok (.invokestatic 18, 3) := by decide +kernel
theorem dL_act_16 : decode cL_act 16 = .ok (.istore_n 3, 1) := by decide +kernel
theorem dL_act_17 : decode cL_act 17 = .ok (.aload_n 0, 1) := by decide +kernel
theorem dL_act_18 : decode cL_act 18 = .ok (.iconst 5, 1) := by decide +kernel
theorem dL_act_19 : decode cL_act 19 = .ok (.invokevirtual 32, 3) := by decide +kernel
theorem dL_act_22 : decode cL_act 22 = .ok (.istore 4, 2) := by decide +kernel
theorem dL_act_24 : decode cL_act 24 = .ok (.iload_n 1, 1) := by decide +kernel
theorem dL_act_25 : decode cL_act 25 = .ok (.bipush 14, 2) := by decide +kernel
theorem dL_act_27 : decode cL_act 27 = .ok (.invokestatic 18, 3) := by decide +kernel
theorem dL_act_30 : decode cL_act 30 = .ok (.tableswitch 368 0 6 #[42, 127, 155, 213, 235, 291, 340], 42) := by decide +kernel
theorem dL_act_72 : decode cL_act 72 = .ok (.aload_n 0, 1) := by decide +kernel
theorem dL_act_73 : decode cL_act 73 = .ok (.iload_n 3, 1) := by decide +kernel
theorem dL_act_74 : decode cL_act 74 = .ok (.iconst 4, 1) := by decide +kernel
theorem dL_act_75 : decode cL_act 75 = .ok (.invokevirtual 54, 3) := by decide +kernel
theorem dL_act_78 : decode cL_act 78 = .ok (.istore 5, 2) := by decide +kernel
theorem dL_act_80 : decode cL_act 80 = .ok (.aload_n 0, 1) := by decide +kernel
theorem dL_act_81 : decode cL_act 81 = .ok (.iload_n 3, 1) := by decide +kernel
theorem dL_act_82 : decode cL_act 82 = .ok (.bipush 90, 2) := by decide +kernel
theorem dL_act_84 : decode cL_act 84 = .ok (.iload_n 1, 1) := by decide +kernel
theorem dL_act_85 : decode cL_act 85 = .ok (.iconst 5, 1) := by decide +kernel
theorem dL_act_86 : decode cL_act 86 = .ok (.ishr, 1) := by decide +kernel
theorem dL_act_87 : decode cL_act 87 = .ok (.bipush 12, 2) := by decide +kernel
theorem dL_act_89 : decode cL_act 89 = .ok (.invokestatic 18, 3) := by decide +kernel
theorem dL_act_92 : decode cL_act 92 = .ok (.iadd, 1) := by decide +kernel
theorem dL_act_93 : decode cL_act 93 = .ok (.invokevirtual 57, 3) := by decide +kernel
theorem dL_act_96 : decode cL_act 96 = .ok (.istore 6, 2) := by decide +kernel
theorem dL_act_98 : decode cL_act 98 = .ok (.iload 6, 2) := by decide +kernel
theorem dL_act_100 : decode cL_act 100 = .ok (.aload_n 0, 1) := by decide +kernel
theorem dL_act_101 : decode cL_act 101 = .ok (.iload_n 3, 1) := by decide +kernel
theorem dL_act_102 : decode cL_act 102 = .ok (.iconst 2, 1) := by decide +kernel
theorem dL_act_103 : decode cL_act 103 = .ok (.invokevirtual 54, 3) := by decide +kernel
theorem dL_act_106 : decode cL_act 106 = .ok (.iconst 1, 1) := by decide +kernel
theorem dL_act_107 : decode cL_act 107 = .ok (.if_icmp .ne 7, 3) := by decide +kernel
theorem dL_act_110 : decode cL_act 110 = .ok (.iconst 1, 1) := by decide +kernel
theorem dL_act_111 : decode cL_act 111 = .ok (.goto 4, 3) := by decide +kernel
theorem dL_act_114 : decode cL_act 114 = .ok (.iconst 0, 1) := by decide +kernel
theorem dL_act_115 : decode cL_act 115 = .ok (.if_icmp .ne 40, 3) := by decide +kernel
theorem dL_act_118 : decode cL_act 118 = .ok (.aload_n 0, 1) := by decide +kernel
theorem dL_act_119 : decode cL_act 119 = .ok (.iload_n 3, 1) := by decide +kernel
theorem dL_act_120 : decode cL_act 120 = .ok (.iconst 4, 1) := by decide +kernel
theorem dL_act_121 : decode cL_act 121 = .ok (.invokevirtual 54, 3) := by decide +kernel
theorem dL_act_124 : decode cL_act 124 = .ok (.iload 5, 2) := by decide +kernel
theorem dL_act_126 : decode cL_act 126 = .ok (.iconst 1, 1) := by decide +kernel
theorem dL_act_127 : decode cL_act 127 = .ok (.iadd, 1) := by decide +kernel
theorem dL_act_128 : decode cL_act 128 = .ok (.if_icmp .ne 27, 3) := by decide +kernel
theorem dL_act_131 : decode cL_act 131 = .ok (.aload_n 0, 1) := by decide +kernel
theorem dL_act_132 : decode cL_act 132 = .ok (.iload_n 3, 1) := by decide +kernel
theorem dL_act_133 : decode cL_act 133 = .ok (.iconst 1, 1) := by decide +kernel
theorem dL_act_134 : decode cL_act 134 = .ok (.invokevirtual 54, 3) := by decide +kernel
theorem dL_act_137 : decode cL_act 137 = .ok (.bipush 90, 2) := by decide +kernel
theorem dL_act_139 : decode cL_act 139 = .ok (.iload_n 1, 1) := by decide +kernel
theorem dL_act_140 : decode cL_act 140 = .ok (.iconst 5, 1) := by decide +kernel
theorem dL_act_141 : decode cL_act 141 = .ok (.ishr, 1) := by decide +kernel
theorem dL_act_142 : decode cL_act 142 = .ok (.bipush 12, 2) := by decide +kernel
theorem dL_act_144 : decode cL_act 144 = .ok (.invokestatic 18, 3) := by decide +kernel
theorem dL_act_147 : decode cL_act 147 = .ok (.iadd, 1) := by decide +kernel
theorem dL_act_148 : decode cL_act 148 = .ok (.if_icmp .ne 7, 3) := by decide +kernel
theorem dL_act_151 : decode cL_act 151 = .ok (.iconst 1, 1) := by decide +kernel
theorem dL_act_152 : decode cL_act 152 = .ok (.goto 4, 3) := by decide +kernel
theorem dL_act_155 : decode cL_act 155 = .ok (.iconst 0, 1) := by decide +kernel
theorem dL_act_156 : decode cL_act 156 = .ok (.ireturn, 1) := by decide +kernel
theorem dL_act_157 : decode cL_act 157 = .ok (.aload_n 0, 1) := by decide +kernel
theorem dL_act_158 : decode cL_act 158 = .ok (.iload_n 1, 1) := by decide +kernel
theorem dL_act_159 : decode cL_act 159 = .ok (.iconst 4, 1) := by decide +kernel
theorem dL_act_160 : decode cL_act 160 = .ok (.ishr, 1) := by decide +kernel
theorem dL_act_161 : decode cL_act 161 = .ok (.iconst 1, 1) := by decide +kernel
theorem dL_act_162 : decode cL_act 162 = .ok (.aload_n 0, 1) := by decide +kernel
theorem dL_act_163 : decode cL_act 163 = .ok (.iconst 2, 1) := by decide +kernel
theorem dL_act_164 : decode cL_act 164 = .ok (.invokevirtual 32, 3) := by decide +kernel
theorem dL_act_167 : decode cL_act 167 = .ok (.invokestatic 61, 3) := by decide +kernel
theorem dL_act_170 : decode cL_act 170 = .ok (.invokestatic 18, 3) := by decide +kernel
theorem dL_act_173 : decode cL_act 173 = .ok (.invokevirtual 66, 3) := by decide +kernel
theorem dL_act_176 : decode cL_act 176 = .ok (.ifCond .lt 7, 3) := by decide +kernel
theorem dL_act_179 : decode cL_act 179 = .ok (.iconst 1, 1) := by decide +kernel
theorem dL_act_180 : decode cL_act 180 = .ok (.goto 4, 3) := by decide +kernel
theorem dL_act_183 : decode cL_act 183 = .ok (.iconst 0, 1) := by decide +kernel
theorem dL_act_184 : decode cL_act 184 = .ok (.ireturn, 1) := by decide +kernel
theorem dL_act_185 : decode cL_act 185 = .ok (.aload_n 0, 1) := by decide +kernel
theorem dL_act_186 : decode cL_act 186 = .ok (.iload_n 2, 1) := by decide +kernel
theorem dL_act_187 : decode cL_act 187 = .ok (.iload_n 1, 1) := by decide +kernel
theorem dL_act_188 : decode cL_act 188 = .ok (.bipush 6, 2) := by decide +kernel
theorem dL_act_190 : decode cL_act 190 = .ok (.ishr, 1) := by decide +kernel
theorem dL_act_191 : decode cL_act 191 = .ok (.bipush 6, 2) := by decide +kernel
theorem dL_act_193 : decode cL_act 193 = .ok (.invokestatic 18, 3) := by decide +kernel
theorem dL_act_196 : decode cL_act 196 = .ok (.invokevirtual 69, 3) := by decide +kernel
theorem dL_act_199 : decode cL_act 199 = .ok (.istore 7, 2) := by decide +kernel
theorem dL_act_201 : decode cL_act 201 = .ok (.iload 7, 2) := by decide +kernel
theorem dL_act_203 : decode cL_act 203 = .ok (.aload_n 0, 1) := by decide +kernel
theorem dL_act_204 : decode cL_act 204 = .ok (.iconst 2, 1) := by decide +kernel
theorem dL_act_205 : decode cL_act 205 = .ok (.invokevirtual 72, 3) := by decide +kernel
theorem dL_act_208 : decode cL_act 208 = .ok (.if_icmp .ne 33, 3) := by decide +kernel
theorem dL_act_211 : decode cL_act 211 = .ok (.iload 7, 2) := by decide +kernel
theorem dL_act_213 : decode cL_act 213 = .ok (.ifCond .lt 7, 3) := by decide +kernel
theorem dL_act_216 : decode cL_act 216 = .ok (.iconst 1, 1) := by decide +kernel
theorem dL_act_217 : decode cL_act 217 = .ok (.goto 4, 3) := by decide +kernel
theorem dL_act_220 : decode cL_act 220 = .ok (.iconst 0, 1) := by decide +kernel
theorem dL_act_221 : decode cL_act 221 = .ok (.aload_n 0, 1) := by decide +kernel
theorem dL_act_222 : decode cL_act 222 = .ok (.iconst 0, 1) := by decide +kernel
theorem dL_act_223 : decode cL_act 223 = .ok (.invokevirtual 72, 3) := by decide +kernel
theorem dL_act_226 : decode cL_act 226 = .ok (.ifCond .lt 7, 3) := by decide +kernel
theorem dL_act_229 : decode cL_act 229 = .ok (.iconst 1, 1) := by decide +kernel
theorem dL_act_230 : decode cL_act 230 = .ok (.goto 4, 3) := by decide +kernel
theorem dL_act_233 : decode cL_act 233 = .ok (.iconst 0, 1) := by decide +kernel
theorem dL_act_234 : decode cL_act 234 = .ok (.if_icmp .ne 7, 3) := by decide +kernel
theorem dL_act_237 : decode cL_act 237 = .ok (.iconst 1, 1) := by decide +kernel
theorem dL_act_238 : decode cL_act 238 = .ok (.goto 4, 3) := by decide +kernel
theorem dL_act_241 : decode cL_act 241 = .ok (.iconst 0, 1) := by decide +kernel
theorem dL_act_242 : decode cL_act 242 = .ok (.ireturn, 1) := by decide +kernel
theorem dL_act_243 : decode cL_act 243 = .ok (.aload_n 0, 1) := by decide +kernel
theorem dL_act_244 : decode cL_act 244 = .ok (.invokevirtual 75, 3) := by decide +kernel
theorem dL_act_247 : decode cL_act 247 = .ok (.ifCond .lt 16, 3) := by decide +kernel
theorem dL_act_250 : decode cL_act 250 = .ok (.aload_n 0, 1) := by decide +kernel
theorem dL_act_251 : decode cL_act 251 = .ok (.iconst 0, 1) := by decide +kernel
theorem dL_act_252 : decode cL_act 252 = .ok (.invokevirtual 72, 3) := by decide +kernel
theorem dL_act_255 : decode cL_act 255 = .ok (.iconst (-1), 1) := by decide +kernel
theorem dL_act_256 : decode cL_act 256 = .ok (.if_icmp .ne 7, 3) := by decide +kernel
theorem dL_act_259 : decode cL_act 259 = .ok (.iconst 1, 1) := by decide +kernel
theorem dL_act_260 : decode cL_act 260 = .ok (.goto 4, 3) := by decide +kernel
theorem dL_act_263 : decode cL_act 263 = .ok (.iconst 0, 1) := by decide +kernel
theorem dL_act_264 : decode cL_act 264 = .ok (.ireturn, 1) := by decide +kernel
theorem dL_act_265 : decode cL_act 265 = .ok (.aload_n 0, 1) := by decide +kernel
theorem dL_act_266 : decode cL_act 266 = .ok (.invokevirtual 79, 3) := by decide +kernel
theorem dL_act_269 : decode cL_act 269 = .ok (.istore 8, 2) := by decide +kernel
theorem dL_act_271 : decode cL_act 271 = .ok (.aload_n 0, 1) := by decide +kernel
theorem dL_act_272 : decode cL_act 272 = .ok (.invokevirtual 82, 3) := by decide +kernel
theorem dL_act_275 : decode cL_act 275 = .ok (.iload 8, 2) := by decide +kernel
theorem dL_act_277 : decode cL_act 277 = .ok (.if_icmp .ne 42, 3) := by decide +kernel
theorem dL_act_280 : decode cL_act 280 = .ok (.aload_n 0, 1) := by decide +kernel
theorem dL_act_281 : decode cL_act 281 = .ok (.bipush 6, 2) := by decide +kernel
theorem dL_act_283 : decode cL_act 283 = .ok (.invokevirtual 32, 3) := by decide +kernel
theorem dL_act_286 : decode cL_act 286 = .ok (.iload 8, 2) := by decide +kernel
theorem dL_act_288 : decode cL_act 288 = .ok (.if_icmp .ne 31, 3) := by decide +kernel
theorem dL_act_291 : decode cL_act 291 = .ok (.aload_n 0, 1) := by decide +kernel
theorem dL_act_292 : decode cL_act 292 = .ok (.iconst 5, 1) := by decide +kernel
theorem dL_act_293 : decode cL_act 293 = .ok (.invokevirtual 32, 3) := by decide +kernel
theorem dL_act_296 : decode cL_act 296 = .ok (.iload 4, 2) := by decide +kernel
theorem dL_act_298 : decode cL_act 298 = .ok (.isub, 1) := by decide +kernel
theorem dL_act_299 : decode cL_act 299 = .ok (.bipush 10, 2) := by decide +kernel
theorem dL_act_301 : decode cL_act 301 = .ok (.irem, 1) := by decide +kernel
theorem dL_act_302 : decode cL_act 302 = .ok (.ifCond .ne 17, 3) := by decide +kernel
theorem dL_act_305 : decode cL_act 305 = .ok (.aload_n 0, 1) := by decide +kernel
theorem dL_act_306 : decode cL_act 306 = .ok (.iconst 5, 1) := by decide +kernel
theorem dL_act_307 : decode cL_act 307 = .ok (.invokevirtual 32, 3) := by decide +kernel
theorem dL_act_310 : decode cL_act 310 = .ok (.iload 4, 2) := by decide +kernel
theorem dL_act_312 : decode cL_act 312 = .ok (.if_icmp .lt 7, 3) := by decide +kernel
theorem dL_act_315 : decode cL_act 315 = .ok (.iconst 1, 1) := by decide +kernel
theorem dL_act_316 : decode cL_act 316 = .ok (.goto 4, 3) := by decide +kernel
theorem dL_act_319 : decode cL_act 319 = .ok (.iconst 0, 1) := by decide +kernel
theorem dL_act_320 : decode cL_act 320 = .ok (.ireturn, 1) := by decide +kernel
theorem dL_act_321 : decode cL_act 321 = .ok (.aload_n 0, 1) := by decide +kernel
theorem dL_act_322 : decode cL_act 322 = .ok (.iload_n 2, 1) := by decide +kernel
theorem dL_act_323 : decode cL_act 323 = .ok (.iconst 1, 1) := by decide +kernel
theorem dL_act_324 : decode cL_act 324 = .ok (.iload_n 1, 1) := by decide +kernel
theorem dL_act_325 : decode cL_act 325 = .ok (.bipush 6, 2) := by decide +kernel
theorem dL_act_327 : decode cL_act 327 = .ok (.ishr, 1) := by decide +kernel
theorem dL_act_328 : decode cL_act 328 = .ok (.bipush 50, 2) := by decide +kernel
theorem dL_act_330 : decode cL_act 330 = .ok (.invokestatic 18, 3) := by decide +kernel
theorem dL_act_333 : decode cL_act 333 = .ok (.iadd, 1) := by decide +kernel
theorem dL_act_334 : decode cL_act 334 = .ok (.invokevirtual 85, 3) := by decide +kernel
theorem dL_act_337 : decode cL_act 337 = .ok (.iload 4, 2) := by decide +kernel
theorem dL_act_339 : decode cL_act 339 = .ok (.iconst 1, 1) := by decide +kernel
theorem dL_act_340 : decode cL_act 340 = .ok (.isub, 1) := by decide +kernel
theorem dL_act_341 : decode cL_act 341 = .ok (.iload_n 1, 1) := by decide +kernel
theorem dL_act_342 : decode cL_act 342 = .ok (.bipush 6, 2) := by decide +kernel
theorem dL_act_344 : decode cL_act 344 = .ok (.ishr, 1) := by decide +kernel
theorem dL_act_345 : decode cL_act 345 = .ok (.bipush 50, 2) := by decide +kernel
theorem dL_act_347 : decode cL_act 347 = .ok (.invokestatic 18, 3) := by decide +kernel
theorem dL_act_350 : decode cL_act 350 = .ok (.isub, 1) := by decide +kernel
theorem dL_act_351 : decode cL_act 351 = .ok (.if_icmp .ne 17, 3) := by decide +kernel
theorem dL_act_354 : decode cL_act 354 = .ok (.aload_n 0, 1) := by decide +kernel
theorem dL_act_355 : decode cL_act 355 = .ok (.iload_n 2, 1) := by decide +kernel
theorem dL_act_356 : decode cL_act 356 = .ok (.iconst 5, 1) := by decide +kernel
theorem dL_act_357 : decode cL_act 357 = .ok (.invokevirtual 88, 3) := by decide +kernel
theorem dL_act_360 : decode cL_act 360 = .ok (.iconst 1, 1) := by decide +kernel
theorem dL_act_361 : decode cL_act 361 = .ok (.if_icmp .ne 7, 3) := by decide +kernel
theorem dL_act_364 : decode cL_act 364 = .ok (.iconst 1, 1) := by decide +kernel
theorem dL_act_365 : decode cL_act 365 = .ok (.goto 4, 3) := by decide +kernel
theorem dL_act_368 : decode cL_act 368 = .ok (.iconst 0, 1) := by decide +kernel
theorem dL_act_369 : decode cL_act 369 = .ok (.ireturn, 1) := by decide +kernel
theorem dL_act_370 : decode cL_act 370 = .ok (.aload_n 0, 1) := by decide +kernel
theorem dL_act_371 : decode cL_act 371 = .ok (.iconst 1, 1) := by decide +kernel
theorem dL_act_372 : decode cL_act 372 = .ok (.iload_n 1, 1) := by decide +kernel
theorem dL_act_373 : decode cL_act 373 = .ok (.iconst 4, 1) := by decide +kernel
theorem dL_act_374 : decode cL_act 374 = .ok (.ishr, 1) := by decide +kernel
theorem dL_act_375 : decode cL_act 375 = .ok (.bipush 100, 2) := by decide +kernel
theorem dL_act_377 : decode cL_act 377 = .ok (.invokestatic 18, 3) := by decide +kernel
theorem dL_act_380 : decode cL_act 380 = .ok (.iadd, 1) := by decide +kernel
theorem dL_act_381 : decode cL_act 381 = .ok (.invokevirtual 91, 3) := by decide +kernel
theorem dL_act_384 : decode cL_act 384 = .ok (.aload_n 0, 1) := by decide +kernel
theorem dL_act_385 : decode cL_act 385 = .ok (.iconst 4, 1) := by decide +kernel
theorem dL_act_386 : decode cL_act 386 = .ok (.invokevirtual 32, 3) := by decide +kernel
theorem dL_act_389 : decode cL_act 389 = .ok (.if_icmp .ne 7, 3) := by decide +kernel
theorem dL_act_392 : decode cL_act 392 = .ok (.iconst 1, 1) := by decide +kernel
theorem dL_act_393 : decode cL_act 393 = .ok (.goto 4, 3) := by decide +kernel
theorem dL_act_396 : decode cL_act 396 = .ok (.iconst 0, 1) := by decide +kernel
theorem dL_act_397 : decode cL_act 397 = .ok (.ireturn, 1) := by decide +kernel
theorem dL_act_398 : decode cL_act 398 = .ok (.aload_n 0, 1) := by decide +kernel
theorem dL_act_399 : decode cL_act 399 = .ok (.iconst 2, 1) := by decide +kernel
theorem dL_act_400 : decode cL_act 400 = .ok (.invokevirtual 32, 3) := by decide +kernel
theorem dL_act_403 : decode cL_act 403 = .ok (.istore 9, 2) := by decide +kernel
theorem dL_act_405 : decode cL_act 405 = .ok (.aload_n 0, 1) := by decide +kernel
theorem dL_act_406 : decode cL_act 406 = .ok (.iconst 4, 1) := by decide +kernel
theorem dL_act_407 : decode cL_act 407 = .ok (.invokevirtual 32, 3) := by decide +kernel
theorem dL_act_410 : decode cL_act 410 = .ok (.istore 10, 2) := by decide +kernel
theorem dL_act_412 : decode cL_act 412 = .ok (.aload_n 0, 1) := by decide +kernel
theorem dL_act_413 : decode cL_act 413 = .ok (.iload_n 2, 1) := by decide +kernel
theorem dL_act_414 : decode cL_act 414 = .ok (.iload_n 3, 1) := by decide +kernel
theorem dL_act_415 : decode cL_act 415 = .ok (.bipush 100, 2) := by decide +kernel
theorem dL_act_417 : decode cL_act 417 = .ok (.iload_n 1, 1) := by decide +kernel
theorem dL_act_418 : decode cL_act 418 = .ok (.iconst 5, 1) := by decide +kernel
theorem dL_act_419 : decode cL_act 419 = .ok (.ishr, 1) := by decide +kernel
theorem dL_act_420 : decode cL_act 420 = .ok (.bipush 30, 2) := by decide +kernel
theorem dL_act_422 : decode cL_act 422 = .ok (.invokestatic 18, 3) := by decide +kernel
theorem dL_act_425 : decode cL_act 425 = .ok (.iadd, 1) := by decide +kernel
theorem dL_act_426 : decode cL_act 426 = .ok (.bipush 20, 2) := by decide +kernel
theorem dL_act_428 : decode cL_act 428 = .ok (.iload_n 1, 1) := by decide +kernel
theorem dL_act_429 : decode cL_act 429 = .ok (.bipush 7, 2) := by decide +kernel
theorem dL_act_431 : decode cL_act 431 = .ok (.ishr, 1) := by decide +kernel
theorem dL_act_432 : decode cL_act 432 = .ok (.iconst 2, 1) := by decide +kernel
theorem dL_act_433 : decode cL_act 433 = .ok (.invokestatic 18, 3) := by decide +kernel
theorem dL_act_436 : decode cL_act 436 = .ok (.imul, 1) := by decide +kernel
theorem dL_act_437 : decode cL_act 437 = .ok (.iadd, 1) := by decide +kernel
theorem dL_act_438 : decode cL_act 438 = .ok (.invokevirtual 94, 3) := by decide +kernel
theorem dL_act_441 : decode cL_act 441 = .ok (.istore 11, 2) := by decide +kernel
theorem dL_act_443 : decode cL_act 443 = .ok (.aload_n 0, 1) := by decide +kernel
theorem dL_act_444 : decode cL_act 444 = .ok (.iconst 2, 1) := by decide +kernel
theorem dL_act_445 : decode cL_act 445 = .ok (.invokevirtual 32, 3) := by decide +kernel
theorem dL_act_448 : decode cL_act 448 = .ok (.iload 9, 2) := by decide +kernel
theorem dL_act_450 : decode cL_act 450 = .ok (.iconst 1, 1) := by decide +kernel
theorem dL_act_451 : decode cL_act 451 = .ok (.iadd, 1) := by decide +kernel
theorem dL_act_452 : decode cL_act 452 = .ok (.if_icmp .ne 58, 3) := by decide +kernel
theorem dL_act_455 : decode cL_act 455 = .ok (.aload_n 0, 1) := by decide +kernel
theorem dL_act_456 : decode cL_act 456 = .ok (.iconst 4, 1) := by decide +kernel
theorem dL_act_457 : decode cL_act 457 = .ok (.invokevirtual 32, 3) := by decide +kernel
theorem dL_act_460 : decode cL_act 460 = .ok (.iload 10, 2) := by decide +kernel
theorem dL_act_462 : decode cL_act 462 = .ok (.aload_n 0, 1) := by decide +kernel
theorem dL_act_463 : decode cL_act 463 = .ok (.iload_n 3, 1) := by decide +kernel
theorem dL_act_464 : decode cL_act 464 = .ok (.iconst 0, 1) := by decide +kernel
theorem dL_act_465 : decode cL_act 465 = .ok (.invokevirtual 54, 3) := by decide +kernel
theorem dL_act_468 : decode cL_act 468 = .ok (.isub, 1) := by decide +kernel
theorem dL_act_469 : decode cL_act 469 = .ok (.if_icmp .ne 41, 3) := by decide +kernel
theorem dL_act_472 : decode cL_act 472 = .ok (.aload_n 0, 1) := by decide +kernel
theorem dL_act_473 : decode cL_act 473 = .ok (.iload 9, 2) := by decide +kernel
theorem dL_act_475 : decode cL_act 475 = .ok (.iconst 3, 1) := by decide +kernel
theorem dL_act_476 : decode cL_act 476 = .ok (.invokevirtual 98, 3) := by decide +kernel
theorem dL_act_479 : decode cL_act 479 = .ok (.iload 11, 2) := by decide +kernel
theorem dL_act_481 : decode cL_act 481 = .ok (.if_icmp .ne 29, 3) := by decide +kernel
theorem dL_act_484 : decode cL_act 484 = .ok (.aload_n 0, 1) := by decide +kernel
theorem dL_act_485 : decode cL_act 485 = .ok (.iload 9, 2) := by decide +kernel
theorem dL_act_487 : decode cL_act 487 = .ok (.iconst 5, 1) := by decide +kernel
theorem dL_act_488 : decode cL_act 488 = .ok (.invokevirtual 98, 3) := by decide +kernel
theorem dL_act_491 : decode cL_act 491 = .ok (.iconst 1, 1) := by decide +kernel
theorem dL_act_492 : decode cL_act 492 = .ok (.if_icmp .ne 18, 3) := by decide +kernel
theorem dL_act_495 : decode cL_act 495 = .ok (.aload_n 0, 1) := by decide +kernel
theorem dL_act_496 : decode cL_act 496 = .ok (.iload 9, 2) := by decide +kernel
theorem dL_act_498 : decode cL_act 498 = .ok (.iconst 0, 1) := by decide +kernel
theorem dL_act_499 : decode cL_act 499 = .ok (.invokevirtual 98, 3) := by decide +kernel
theorem dL_act_502 : decode cL_act 502 = .ok (.iload_n 2, 1) := by decide +kernel
theorem dL_act_503 : decode cL_act 503 = .ok (.if_icmp .ne 7, 3) := by decide +kernel
theorem dL_act_506 : decode cL_act 506 = .ok (.iconst 1, 1) := by decide +kernel
theorem dL_act_507 : decode cL_act 507 = .ok (.goto 4, 3) := by decide +kernel
theorem dL_act_510 : decode cL_act 510 = .ok (.iconst 0, 1) := by decide +kernel
theorem dL_act_511 : decode cL_act 511 = .ok (.ireturn, 1) := by decide +kernel
theorem dL_act_512 : decode cL_act 512 = .ok (.astore 5, 2) := by decide +kernel
theorem dL_act_514 : decode cL_act 514 = .ok (.aload_n 0, 1) := by decide +kernel
theorem dL_act_515 : decode cL_act 515 = .ok (.iconst 2, 1) := by decide +kernel
theorem dL_act_516 : decode cL_act 516 = .ok (.invokevirtual 32, 3) := by decide +kernel
theorem dL_act_519 : decode cL_act 519 = .ok (.ifCond .ne 7, 3) := by decide +kernel
theorem dL_act_522 : decode cL_act 522 = .ok (.iconst 1, 1) := by decide +kernel
theorem dL_act_523 : decode cL_act 523 = .ok (.goto 4, 3) := by decide +kernel
theorem dL_act_526 : decode cL_act 526 = .ok (.iconst 0, 1) := by decide +kernel
theorem dL_act_527 : decode cL_act 527 = .ok (.ireturn, 1) := by decide +kernel
theorem dL_act_528 : decode cL_act 528 = .ok (.astore 5, 2) := by decide +kernel
theorem dL_act_530 : decode cL_act 530 = .ok (.iload_n 1, 1) := by decide +kernel
theorem dL_act_531 : decode cL_act 531 = .ok (.bipush 14, 2) := by decide +kernel
theorem dL_act_533 : decode cL_act 533 = .ok (.invokestatic 18, 3) := by decide +kernel
theorem dL_act_536 : decode cL_act 536 = .ok (.iconst 2, 1) := by decide +kernel
theorem dL_act_537 : decode cL_act 537 = .ok (.if_icmp .ne 7, 3) := by decide +kernel
theorem dL_act_540 : decode cL_act 540 = .ok (.iconst 1, 1) := by decide +kernel
theorem dL_act_541 : decode cL_act 541 = .ok (.goto 4, 3) := by decide +kernel
theorem dL_act_544 : decode cL_act 544 = .ok (.iconst 0, 1) := by decide +kernel
theorem dL_act_545 : decode cL_act 545 = .ok (.ireturn, 1) := by decide +kernel
theorem dL_act_546 : decode cL_act 546 = .ok (.astore 5, 2) := by decide +kernel
theorem dL_act_548 : decode cL_act 548 = .ok (.aload_n 0, 1) := by decide +kernel
theorem dL_act_549 : decode cL_act 549 = .ok (.iconst 5, 1) := by decide +kernel
theorem dL_act_550 : decode cL_act 550 = .ok (.invokevirtual 32, 3) := by decide +kernel
theorem dL_act_553 : decode cL_act 553 = .ok (.iload 4, 2) := by decide +kernel
theorem dL_act_555 : decode cL_act 555 = .ok (.if_icmp .ne 26, 3) := by decide +kernel
theorem dL_act_558 : decode cL_act 558 = .ok (.iload_n 1, 1) := by decide +kernel
theorem dL_act_559 : decode cL_act 559 = .ok (.bipush 14, 2) := by decide +kernel
theorem dL_act_561 : decode cL_act 561 = .ok (.invokestatic 18, 3) := by decide +kernel
theorem dL_act_564 : decode cL_act 564 = .ok (.ifCond .eq 17, 3) := by decide +kernel
theorem dL_act_567 : decode cL_act 567 = .ok (.iload_n 1, 1) := by decide +kernel
theorem dL_act_568 : decode cL_act 568 = .ok (.bipush 14, 2) := by decide +kernel
theorem dL_act_570 : decode cL_act 570 = .ok (.invokestatic 18, 3) := by decide +kernel
theorem dL_act_573 : decode cL_act 573 = .ok (.iconst 4, 1) := by decide +kernel
theorem dL_act_574 : decode cL_act 574 = .ok (.if_icmp .eq 7, 3) := by decide +kernel
theorem dL_act_577 : decode cL_act 577 = .ok (.iconst 1, 1) := by decide +kernel
theorem dL_act_578 : decode cL_act 578 = .ok (.goto 4, 3) := by decide +kernel
theorem dL_act_581 : decode cL_act 581 = .ok (.iconst 0, 1) := by decide +kernel
theorem dL_act_582 : decode cL_act 582 = .ok (.ireturn, 1) := by decide +kernel
theorem dL_areSamplesRight_0 : decode cL_areSamplesRight 0 = .ok (.bipush 6, 2) := by decide +kernel
theorem dL_areSamplesRight_2 : decode cL_areSamplesRight 2 = .ok (.newarray .int, 2) := by decide +kernel
theorem dL_areSamplesRight_4 : decode cL_areSamplesRight 4 = .ok (.astore_n 1, 1) := by decide +kernel
theorem dL_areSamplesRight_5 : decode cL_areSamplesRight 5 = .ok (.bipush 6, 2) := by decide +kernel
theorem dL_areSamplesRight_7 : decode cL_areSamplesRight 7 = .ok (.newarray .int, 2) := by decide +kernel
theorem dL_areSamplesRight_9 : decode cL_areSamplesRight 9 = .ok (.astore_n 2, 1) := by decide +kernel
theorem dL_areSamplesRight_10 : decode cL_areSamplesRight 10 = .ok (.iconst 0, 1) := by decide +kernel
theorem dL_areSamplesRight_11 : decode cL_areSamplesRight 11 = .ok (.istore_n 3, 1) := by decide +kernel
theorem dL_areSamplesRight_12 : decode cL_areSamplesRight 12 = .ok (.iconst 2, 1) := by decide +kernel
theorem dL_areSamplesRight_13 : decode cL_areSamplesRight 13 = .ok (.newarray .int, 2) := by decide +kernel
theorem dL_areSamplesRight_15 : decode cL_areSamplesRight 15 = .ok (.astore 4, 2) := by decide +kernel
theorem dL_areSamplesRight_17 : decode cL_areSamplesRight 17 = .ok (.iconst 0, 1) := by decide +kernel
theorem dL_areSamplesRight_18 : decode cL_areSamplesRight 18 = .ok (.istore 5, 2) := by decide +kernel
theorem dL_areSamplesRight_20 : decode cL_areSamplesRight 20 = .ok (.iload 5, 2) := by decide +kernel
theorem dL_areSamplesRight_22 : decode cL_areSamplesRight 22 = .ok (.aload_n 0, 1) := by decide +kernel
theorem dL_areSamplesRight_23 : decode cL_areSamplesRight 23 = .ok (.iconst 2, 1) := by decide +kernel
theorem dL_areSamplesRight_24 : decode cL_areSamplesRight 24 = .ok (.invokevirtual 32, 3) := by decide +kernel
theorem dL_areSamplesRight_27 : decode cL_areSamplesRight 27 = .ok (.if_icmp .ge 125, 3) := by decide +kernel
theorem dL_areSamplesRight_30 : decode cL_areSamplesRight 30 = .ok (.aload_n 0, 1) := by decide +kernel
theorem dL_areSamplesRight_31 : decode cL_areSamplesRight 31 = .ok (.iload 5, 2) := by decide +kernel
theorem dL_areSamplesRight_33 : decode cL_areSamplesRight 33 = .ok (.iconst 4, 1) := by decide +kernel
theorem dL_areSamplesRight_34 : decode cL_areSamplesRight 34 = .ok (.invokevirtual 98, 3) := by decide +kernel
theorem dL_areSamplesRight_37 : decode cL_areSamplesRight 37 = .ok (.iconst 1, 1) := by decide +kernel
theorem dL_areSamplesRight_38 : decode cL_areSamplesRight 38 = .ok (.if_icmp .ne 7, 3) := by decide +kernel
theorem dL_areSamplesRight_41 : decode cL_areSamplesRight 41 = .ok (.iconst 1, 1) := by decide +kernel
theorem dL_areSamplesRight_42 : decode cL_areSamplesRight 42 = .ok (.goto 4, 3) := by decide +kernel
theorem dL_areSamplesRight_45 : decode cL_areSamplesRight 45 = .ok (.iconst 0, 1) := by decide +kernel
theorem dL_areSamplesRight_46 : decode cL_areSamplesRight 46 = .ok (.istore 6, 2) := by decide +kernel
theorem dL_areSamplesRight_48 : decode cL_areSamplesRight 48 = .ok (.aload_n 0, 1) := by decide +kernel
theorem dL_areSamplesRight_49 : decode cL_areSamplesRight 49 = .ok (.iload 5, 2) := by decide +kernel
theorem dL_areSamplesRight_51 : decode cL_areSamplesRight 51 = .ok (.iconst 5, 1) := by decide +kernel
theorem dL_areSamplesRight_52 : decode cL_areSamplesRight 52 = .ok (.invokevirtual 98, 3) := by decide +kernel
theorem dL_areSamplesRight_55 : decode cL_areSamplesRight 55 = .ok (.iconst 1, 1) := by decide +kernel
theorem dL_areSamplesRight_56 : decode cL_areSamplesRight 56 = .ok (.if_icmp .ne 8, 3) := by decide +kernel
theorem dL_areSamplesRight_59 : decode cL_areSamplesRight 59 = .ok (.iload 6, 2) := by decide +kernel
theorem dL_areSamplesRight_61 : decode cL_areSamplesRight 61 = .ok (.ifCond .eq 24, 3) := by decide +kernel
theorem dL_areSamplesRight_64 : decode cL_areSamplesRight 64 = .ok (.iload 6, 2) := by decide +kernel
theorem dL_areSamplesRight_66 : decode cL_areSamplesRight 66 = .ok (.ifCond .eq 21, 3) := by decide +kernel
theorem dL_areSamplesRight_69 : decode cL_areSamplesRight 69 = .ok (.aload_n 0, 1) := by decide +kernel
theorem dL_areSamplesRight_70 : decode cL_areSamplesRight 70 = .ok (.aload_n 0, 1) := by decide +kernel
theorem dL_areSamplesRight_71 : decode cL_areSamplesRight 71 = .ok (.iload 5, 2) := by decide +kernel
theorem dL_areSamplesRight_73 : decode cL_areSamplesRight 73 = .ok (.iconst 1, 1) := by decide +kernel
theorem dL_areSamplesRight_74 : decode cL_areSamplesRight 74 = .ok (.invokevirtual 98, 3) := by decide +kernel
theorem dL_areSamplesRight_77 : decode cL_areSamplesRight 77 = .ok (.iconst 2, 1) := by decide +kernel
theorem dL_areSamplesRight_78 : decode cL_areSamplesRight 78 = .ok (.invokevirtual 54, 3) := by decide +kernel
theorem dL_areSamplesRight_81 : decode cL_areSamplesRight 81 = .ok (.iconst 1, 1) := by decide +kernel
theorem dL_areSamplesRight_82 : decode cL_areSamplesRight 82 = .ok (.if_icmp .ne 5, 3) := by decide +kernel
theorem dL_areSamplesRight_85 : decode cL_areSamplesRight 85 = .ok (.iconst 0, 1) := by decide +kernel
theorem dL_areSamplesRight_86 : decode cL_areSamplesRight 86 = .ok (.ireturn, 1) := by decide +kernel
theorem dL_areSamplesRight_87 : decode cL_areSamplesRight 87 = .ok (.aload_n 2, 1) := by decide +kernel
theorem dL_areSamplesRight_88 : decode cL_areSamplesRight 88 = .ok (.aload_n 0, 1) := by decide +kernel
theorem dL_areSamplesRight_89 : decode cL_areSamplesRight 89 = .ok (.iload 5, 2) := by decide +kernel
theorem dL_areSamplesRight_91 : decode cL_areSamplesRight 91 = .ok (.iconst 0, 1) := by decide +kernel
theorem dL_areSamplesRight_92 : decode cL_areSamplesRight 92 = .ok (.invokevirtual 98, 3) := by decide +kernel
theorem dL_areSamplesRight_95 : decode cL_areSamplesRight 95 = .ok (.dup2, 1) := by decide +kernel
theorem dL_areSamplesRight_96 : decode cL_areSamplesRight 96 = .ok (.iaload, 1) := by decide +kernel
theorem dL_areSamplesRight_97 : decode cL_areSamplesRight 97 = .ok (.iconst 1, 1) := by decide +kernel
theorem dL_areSamplesRight_98 : decode cL_areSamplesRight 98 = .ok (.iadd, 1) := by decide +kernel
theorem dL_areSamplesRight_99 : decode cL_areSamplesRight 99 = .ok (.iastore, 1) := by decide +kernel
theorem dL_areSamplesRight_100 : decode cL_areSamplesRight 100 = .ok (.aload_n 1, 1) := by decide +kernel
theorem dL_areSamplesRight_101 : decode cL_areSamplesRight 101 = .ok (.aload_n 0, 1) := by decide +kernel
theorem dL_areSamplesRight_102 : decode cL_areSamplesRight 102 = .ok (.iload 5, 2) := by decide +kernel
theorem dL_areSamplesRight_104 : decode cL_areSamplesRight 104 = .ok (.iconst 0, 1) := by decide +kernel
theorem dL_areSamplesRight_105 : decode cL_areSamplesRight 105 = .ok (.invokevirtual 98, 3) := by decide +kernel
theorem dL_areSamplesRight_108 : decode cL_areSamplesRight 108 = .ok (.dup2, 1) := by decide +kernel
theorem dL_areSamplesRight_109 : decode cL_areSamplesRight 109 = .ok (.iaload, 1) := by decide +kernel
theorem dL_areSamplesRight_110 : decode cL_areSamplesRight 110 = .ok (.aload_n 0, 1) := by decide +kernel
theorem dL_areSamplesRight_111 : decode cL_areSamplesRight 111 = .ok (.iload 5, 2) := by decide +kernel
theorem dL_areSamplesRight_113 : decode cL_areSamplesRight 113 = .ok (.iconst 5, 1) := by decide +kernel
theorem dL_areSamplesRight_114 : decode cL_areSamplesRight 114 = .ok (.invokevirtual 98, 3) := by decide +kernel
theorem dL_areSamplesRight_117 : decode cL_areSamplesRight 117 = .ok (.iadd, 1) := by decide +kernel
theorem dL_areSamplesRight_118 : decode cL_areSamplesRight 118 = .ok (.iastore, 1) := by decide +kernel
theorem dL_areSamplesRight_119 : decode cL_areSamplesRight 119 = .ok (.iload_n 3, 1) := by decide +kernel
theorem dL_areSamplesRight_120 : decode cL_areSamplesRight 120 = .ok (.iload 6, 2) := by decide +kernel
theorem dL_areSamplesRight_122 : decode cL_areSamplesRight 122 = .ok (.ifCond .eq 7, 3) := by decide +kernel
theorem dL_areSamplesRight_125 : decode cL_areSamplesRight 125 = .ok (.iconst 1, 1) := by decide +kernel
theorem dL_areSamplesRight_126 : decode cL_areSamplesRight 126 = .ok (.goto 4, 3) := by decide +kernel
theorem dL_areSamplesRight_129 : decode cL_areSamplesRight 129 = .ok (.iconst 0, 1) := by decide +kernel
theorem dL_areSamplesRight_130 : decode cL_areSamplesRight 130 = .ok (.iadd, 1) := by decide +kernel
theorem dL_areSamplesRight_131 : decode cL_areSamplesRight 131 = .ok (.istore_n 3, 1) := by decide +kernel
theorem dL_areSamplesRight_132 : decode cL_areSamplesRight 132 = .ok (.aload 4, 2) := by decide +kernel
theorem dL_areSamplesRight_134 : decode cL_areSamplesRight 134 = .ok (.aload_n 0, 1) := by decide +kernel
theorem dL_areSamplesRight_135 : decode cL_areSamplesRight 135 = .ok (.iload 5, 2) := by decide +kernel
theorem dL_areSamplesRight_137 : decode cL_areSamplesRight 137 = .ok (.iconst 1, 1) := by decide +kernel
theorem dL_areSamplesRight_138 : decode cL_areSamplesRight 138 = .ok (.invokevirtual 98, 3) := by decide +kernel
theorem dL_areSamplesRight_141 : decode cL_areSamplesRight 141 = .ok (.dup2, 1) := by decide +kernel
theorem dL_areSamplesRight_142 : decode cL_areSamplesRight 142 = .ok (.iaload, 1) := by decide +kernel
theorem dL_areSamplesRight_143 : decode cL_areSamplesRight 143 = .ok (.iconst 1, 1) := by decide +kernel
theorem dL_areSamplesRight_144 : decode cL_areSamplesRight 144 = .ok (.iadd, 1) := by decide +kernel
theorem dL_areSamplesRight_145 : decode cL_areSamplesRight 145 = .ok (.iastore, 1) := by decide +kernel
theorem dL_areSamplesRight_146 : decode cL_areSamplesRight 146 = .ok (.iinc 5 1, 3) := by decide +kernel
theorem dL_areSamplesRight_149 : decode cL_areSamplesRight 149 = .ok (.goto (-129), 3) := by decide +kernel
theorem dL_areSamplesRight_152 : decode cL_areSamplesRight 152 = .ok (.iconst 0, 1) := by decide +kernel
theorem dL_areSamplesRight_153 : decode cL_areSamplesRight 153 = .ok (.istore 5, 2) := by decide +kernel
theorem dL_areSamplesRight_155 : decode cL_areSamplesRight 155 = .ok (.iload 5, 2) := by decide +kernel
theorem dL_areSamplesRight_157 : decode cL_areSamplesRight 157 = .ok (.bipush 6, 2) := by decide +kernel
theorem dL_areSamplesRight_159 : decode cL_areSamplesRight 159 = .ok (.if_icmp .ge 165, 3) := by decide +kernel
theorem dL_areSamplesRight_162 : decode cL_areSamplesRight 162 = .ok (.aload_n 0, 1) := by decide +kernel
theorem dL_areSamplesRight_163 : decode cL_areSamplesRight 163 = .ok (.iload 5, 2) := by decide +kernel
theorem dL_areSamplesRight_165 : decode cL_areSamplesRight 165 = .ok (.iconst 1, 1) := by decide +kernel
theorem dL_areSamplesRight_166 : decode cL_areSamplesRight 166 = .ok (.invokevirtual 88, 3) := by decide +kernel
theorem dL_areSamplesRight_169 : decode cL_areSamplesRight 169 = .ok (.istore 6, 2) := by decide +kernel
theorem dL_areSamplesRight_171 : decode cL_areSamplesRight 171 = .ok (.aload_n 0, 1) := by decide +kernel
theorem dL_areSamplesRight_172 : decode cL_areSamplesRight 172 = .ok (.iload 5, 2) := by decide +kernel
theorem dL_areSamplesRight_174 : decode cL_areSamplesRight 174 = .ok (.iconst 0, 1) := by decide +kernel
theorem dL_areSamplesRight_175 : decode cL_areSamplesRight 175 = .ok (.invokevirtual 88, 3) := by decide +kernel
theorem dL_areSamplesRight_178 : decode cL_areSamplesRight 178 = .ok (.aload_n 2, 1) := by decide +kernel
theorem dL_areSamplesRight_179 : decode cL_areSamplesRight 179 = .ok (.iload 5, 2) := by decide +kernel
theorem dL_areSamplesRight_181 : decode cL_areSamplesRight 181 = .ok (.iaload, 1) := by decide +kernel
theorem dL_areSamplesRight_182 : decode cL_areSamplesRight 182 = .ok (.if_icmp .ne 82, 3) := by decide +kernel
theorem dL_areSamplesRight_185 : decode cL_areSamplesRight 185 = .ok (.iload 6, 2) := by decide +kernel
theorem dL_areSamplesRight_187 : decode cL_areSamplesRight 187 = .ok (.aload_n 1, 1) := by decide +kernel
theorem dL_areSamplesRight_188 : decode cL_areSamplesRight 188 = .ok (.iload 5, 2) := by decide +kernel
theorem dL_areSamplesRight_190 : decode cL_areSamplesRight 190 = .ok (.iaload, 1) := by decide +kernel
theorem dL_areSamplesRight_191 : decode cL_areSamplesRight 191 = .ok (.if_icmp .ne 73, 3) := by decide +kernel
theorem dL_areSamplesRight_194 : decode cL_areSamplesRight 194 = .ok (.iload 6, 2) := by decide +kernel
theorem dL_areSamplesRight_196 : decode cL_areSamplesRight 196 = .ok (.bipush 6, 2) := by decide +kernel
theorem dL_areSamplesRight_198 : decode cL_areSamplesRight 198 = .ok (.if_icmp .gt 66, 3) := by decide +kernel
theorem dL_areSamplesRight_201 : decode cL_areSamplesRight 201 = .ok (.iload 6, 2) := by decide +kernel
theorem dL_areSamplesRight_203 : decode cL_areSamplesRight 203 = .ok (.ifCond .ne 7, 3) := by decide +kernel
theorem dL_areSamplesRight_206 : decode cL_areSamplesRight 206 = .ok (.iconst 1, 1) := by decide +kernel
theorem dL_areSamplesRight_207 : decode cL_areSamplesRight 207 = .ok (.goto 4, 3) := by decide +kernel
theorem dL_areSamplesRight_210 : decode cL_areSamplesRight 210 = .ok (.iconst 0, 1) := by decide +kernel
theorem dL_areSamplesRight_211 : decode cL_areSamplesRight 211 = .ok (.aload_n 0, 1) := by decide +kernel
theorem dL_areSamplesRight_212 : decode cL_areSamplesRight 212 = .ok (.iload 5, 2) := by decide +kernel
theorem dL_areSamplesRight_214 : decode cL_areSamplesRight 214 = .ok (.iconst 2, 1) := by decide +kernel
theorem dL_areSamplesRight_215 : decode cL_areSamplesRight 215 = .ok (.invokevirtual 88, 3) := by decide +kernel
theorem dL_areSamplesRight_218 : decode cL_areSamplesRight 218 = .ok (.iconst (-1), 1) := by decide +kernel
theorem dL_areSamplesRight_219 : decode cL_areSamplesRight 219 = .ok (.if_icmp .ne 7, 3) := by decide +kernel
theorem dL_areSamplesRight_222 : decode cL_areSamplesRight 222 = .ok (.iconst 1, 1) := by decide +kernel
theorem dL_areSamplesRight_223 : decode cL_areSamplesRight 223 = .ok (.goto 4, 3) := by decide +kernel
theorem dL_areSamplesRight_226 : decode cL_areSamplesRight 226 = .ok (.iconst 0, 1) := by decide +kernel
theorem dL_areSamplesRight_227 : decode cL_areSamplesRight 227 = .ok (.if_icmp .ne 37, 3) := by decide +kernel
theorem dL_areSamplesRight_230 : decode cL_areSamplesRight 230 = .ok (.aload_n 0, 1) := by decide +kernel
theorem dL_areSamplesRight_231 : decode cL_areSamplesRight 231 = .ok (.iload 5, 2) := by decide +kernel
theorem dL_areSamplesRight_233 : decode cL_areSamplesRight 233 = .ok (.iconst 3, 1) := by decide +kernel
theorem dL_areSamplesRight_234 : decode cL_areSamplesRight 234 = .ok (.invokevirtual 88, 3) := by decide +kernel
theorem dL_areSamplesRight_237 : decode cL_areSamplesRight 237 = .ok (.aload_n 0, 1) := by decide +kernel
theorem dL_areSamplesRight_238 : decode cL_areSamplesRight 238 = .ok (.iload 5, 2) := by decide +kernel
theorem dL_areSamplesRight_240 : decode cL_areSamplesRight 240 = .ok (.iconst 2, 1) := by decide +kernel
theorem dL_areSamplesRight_241 : decode cL_areSamplesRight 241 = .ok (.invokevirtual 88, 3) := by decide +kernel
theorem dL_areSamplesRight_244 : decode cL_areSamplesRight 244 = .ok (.if_icmp .gt 20, 3) := by decide +kernel
theorem dL_areSamplesRight_247 : decode cL_areSamplesRight 247 = .ok (.aload_n 0, 1) := by decide +kernel
theorem dL_areSamplesRight_248 : decode cL_areSamplesRight 248 = .ok (.iload 5, 2) := by decide +kernel
theorem dL_areSamplesRight_250 : decode cL_areSamplesRight 250 = .ok (.iconst 2, 1) := by decide +kernel
theorem dL_areSamplesRight_251 : decode cL_areSamplesRight 251 = .ok (.invokevirtual 88, 3) := by decide +kernel
theorem dL_areSamplesRight_254 : decode cL_areSamplesRight 254 = .ok (.aload_n 0, 1) := by decide +kernel
theorem dL_areSamplesRight_255 : decode cL_areSamplesRight 255 = .ok (.iload 5, 2) := by decide +kernel
theorem dL_areSamplesRight_257 : decode cL_areSamplesRight 257 = .ok (.iconst 4, 1) := by decide +kernel
theorem dL_areSamplesRight_258 : decode cL_areSamplesRight 258 = .ok (.invokevirtual 88, 3) := by decide +kernel
theorem dL_areSamplesRight_261 : decode cL_areSamplesRight 261 = .ok (.if_icmp .le 5, 3) := by decide +kernel
theorem dL_areSamplesRight_264 : decode cL_areSamplesRight 264 = .ok (.iconst 0, 1) := by decide +kernel
theorem dL_areSamplesRight_265 : decode cL_areSamplesRight 265 = .ok (.ireturn, 1) := by decide +kernel
theorem dL_areSamplesRight_266 : decode cL_areSamplesRight 266 = .ok (.aload_n 0, 1) := by decide +kernel
theorem dL_areSamplesRight_267 : decode cL_areSamplesRight 267 = .ok (.iload 5, 2) := by decide +kernel
theorem dL_areSamplesRight_269 : decode cL_areSamplesRight 269 = .ok (.invokevirtual 107, 3) := by decide +kernel
theorem dL_areSamplesRight_272 : decode cL_areSamplesRight 272 = .ok (.ifCond .ne 7, 3) := by decide +kernel
theorem dL_areSamplesRight_275 : decode cL_areSamplesRight 275 = .ok (.iconst 1, 1) := by decide +kernel
theorem dL_areSamplesRight_276 : decode cL_areSamplesRight 276 = .ok (.goto 4, 3) := by decide +kernel
theorem dL_areSamplesRight_279 : decode cL_areSamplesRight 279 = .ok (.iconst 0, 1) := by decide +kernel
theorem dL_areSamplesRight_280 : decode cL_areSamplesRight 280 = .ok (.iload 6, 2) := by decide +kernel
theorem dL_areSamplesRight_282 : decode cL_areSamplesRight 282 = .ok (.bipush 6, 2) := by decide +kernel
theorem dL_areSamplesRight_284 : decode cL_areSamplesRight 284 = .ok (.if_icmp .ne 7, 3) := by decide +kernel
theorem dL_areSamplesRight_287 : decode cL_areSamplesRight 287 = .ok (.iconst 1, 1) := by decide +kernel
theorem dL_areSamplesRight_288 : decode cL_areSamplesRight 288 = .ok (.goto 4, 3) := by decide +kernel
theorem dL_areSamplesRight_291 : decode cL_areSamplesRight 291 = .ok (.iconst 0, 1) := by decide +kernel
theorem dL_areSamplesRight_292 : decode cL_areSamplesRight 292 = .ok (.if_icmp .ne 24, 3) := by decide +kernel
theorem dL_areSamplesRight_295 : decode cL_areSamplesRight 295 = .ok (.aload_n 0, 1) := by decide +kernel
theorem dL_areSamplesRight_296 : decode cL_areSamplesRight 296 = .ok (.iload 5, 2) := by decide +kernel
theorem dL_areSamplesRight_298 : decode cL_areSamplesRight 298 = .ok (.iconst 5, 1) := by decide +kernel
theorem dL_areSamplesRight_299 : decode cL_areSamplesRight 299 = .ok (.invokevirtual 88, 3) := by decide +kernel
theorem dL_areSamplesRight_302 : decode cL_areSamplesRight 302 = .ok (.ifCond .lt 14, 3) := by decide +kernel
theorem dL_areSamplesRight_305 : decode cL_areSamplesRight 305 = .ok (.aload_n 0, 1) := by decide +kernel
theorem dL_areSamplesRight_306 : decode cL_areSamplesRight 306 = .ok (.iload 5, 2) := by decide +kernel
theorem dL_areSamplesRight_308 : decode cL_areSamplesRight 308 = .ok (.iconst 5, 1) := by decide +kernel
theorem dL_areSamplesRight_309 : decode cL_areSamplesRight 309 = .ok (.invokevirtual 88, 3) := by decide +kernel
theorem dL_areSamplesRight_312 : decode cL_areSamplesRight 312 = .ok (.iconst 2, 1) := by decide +kernel
theorem dL_areSamplesRight_313 : decode cL_areSamplesRight 313 = .ok (.if_icmp .le 5, 3) := by decide +kernel
theorem dL_areSamplesRight_316 : decode cL_areSamplesRight 316 = .ok (.iconst 0, 1) := by decide +kernel
theorem dL_areSamplesRight_317 : decode cL_areSamplesRight 317 = .ok (.ireturn, 1) := by decide +kernel
theorem dL_areSamplesRight_318 : decode cL_areSamplesRight 318 = .ok (.iinc 5 1, 3) := by decide +kernel
theorem dL_areSamplesRight_321 : decode cL_areSamplesRight 321 = .ok (.goto (-166), 3) := by decide +kernel
theorem dL_areSamplesRight_324 : decode cL_areSamplesRight 324 = .ok (.aload_n 0, 1) := by decide +kernel
theorem dL_areSamplesRight_325 : decode cL_areSamplesRight 325 = .ok (.iconst 3, 1) := by decide +kernel
theorem dL_areSamplesRight_326 : decode cL_areSamplesRight 326 = .ok (.invokevirtual 32, 3) := by decide +kernel
theorem dL_areSamplesRight_329 : decode cL_areSamplesRight 329 = .ok (.iload_n 3, 1) := by decide +kernel
theorem dL_areSamplesRight_330 : decode cL_areSamplesRight 330 = .ok (.if_icmp .ne 55, 3) := by decide +kernel
theorem dL_areSamplesRight_333 : decode cL_areSamplesRight 333 = .ok (.aload_n 0, 1) := by decide +kernel
theorem dL_areSamplesRight_334 : decode cL_areSamplesRight 334 = .ok (.iconst 0, 1) := by decide +kernel
theorem dL_areSamplesRight_335 : decode cL_areSamplesRight 335 = .ok (.iconst 3, 1) := by decide +kernel
theorem dL_areSamplesRight_336 : decode cL_areSamplesRight 336 = .ok (.invokevirtual 54, 3) := by decide +kernel
theorem dL_areSamplesRight_339 : decode cL_areSamplesRight 339 = .ok (.aload 4, 2) := by decide +kernel
theorem dL_areSamplesRight_341 : decode cL_areSamplesRight 341 = .ok (.iconst 0, 1) := by decide +kernel
theorem dL_areSamplesRight_342 : decode cL_areSamplesRight 342 = .ok (.iaload, 1) := by decide +kernel
theorem dL_areSamplesRight_343 : decode cL_areSamplesRight 343 = .ok (.if_icmp .ne 42, 3) := by decide +kernel
theorem dL_areSamplesRight_346 : decode cL_areSamplesRight 346 = .ok (.aload_n 0, 1) := by decide +kernel
theorem dL_areSamplesRight_347 : decode cL_areSamplesRight 347 = .ok (.iconst 1, 1) := by decide +kernel
theorem dL_areSamplesRight_348 : decode cL_areSamplesRight 348 = .ok (.iconst 3, 1) := by decide +kernel
theorem dL_areSamplesRight_349 : decode cL_areSamplesRight 349 = .ok (.invokevirtual 54, 3) := by decide +kernel
theorem dL_areSamplesRight_352 : decode cL_areSamplesRight 352 = .ok (.aload 4, 2) := by decide +kernel
theorem dL_areSamplesRight_354 : decode cL_areSamplesRight 354 = .ok (.iconst 1, 1) := by decide +kernel
theorem dL_areSamplesRight_355 : decode cL_areSamplesRight 355 = .ok (.iaload, 1) := by decide +kernel
theorem dL_areSamplesRight_356 : decode cL_areSamplesRight 356 = .ok (.if_icmp .ne 29, 3) := by decide +kernel
theorem dL_areSamplesRight_359 : decode cL_areSamplesRight 359 = .ok (.aload_n 0, 1) := by decide +kernel
theorem dL_areSamplesRight_360 : decode cL_areSamplesRight 360 = .ok (.bipush 8, 2) := by decide +kernel
theorem dL_areSamplesRight_362 : decode cL_areSamplesRight 362 = .ok (.invokevirtual 32, 3) := by decide +kernel
theorem dL_areSamplesRight_365 : decode cL_areSamplesRight 365 = .ok (.aload_n 0, 1) := by decide +kernel
theorem dL_areSamplesRight_366 : decode cL_areSamplesRight 366 = .ok (.iconst 0, 1) := by decide +kernel
theorem dL_areSamplesRight_367 : decode cL_areSamplesRight 367 = .ok (.iconst 2, 1) := by decide +kernel
theorem dL_areSamplesRight_368 : decode cL_areSamplesRight 368 = .ok (.invokevirtual 54, 3) := by decide +kernel
theorem dL_areSamplesRight_371 : decode cL_areSamplesRight 371 = .ok (.aload_n 0, 1) := by decide +kernel
theorem dL_areSamplesRight_372 : decode cL_areSamplesRight 372 = .ok (.iconst 1, 1) := by decide +kernel
theorem dL_areSamplesRight_373 : decode cL_areSamplesRight 373 = .ok (.iconst 2, 1) := by decide +kernel
theorem dL_areSamplesRight_374 : decode cL_areSamplesRight 374 = .ok (.invokevirtual 54, 3) := by decide +kernel
theorem dL_areSamplesRight_377 : decode cL_areSamplesRight 377 = .ok (.iadd, 1) := by decide +kernel
theorem dL_areSamplesRight_378 : decode cL_areSamplesRight 378 = .ok (.if_icmp .ne 7, 3) := by decide +kernel
theorem dL_areSamplesRight_381 : decode cL_areSamplesRight 381 = .ok (.iconst 1, 1) := by decide +kernel
theorem dL_areSamplesRight_382 : decode cL_areSamplesRight 382 = .ok (.goto 4, 3) := by decide +kernel
theorem dL_areSamplesRight_385 : decode cL_areSamplesRight 385 = .ok (.iconst 0, 1) := by decide +kernel
theorem dL_areSamplesRight_386 : decode cL_areSamplesRight 386 = .ok (.ireturn, 1) := by decide +kernel
theorem dL_isVerdictRight_0 : decode cL_isVerdictRight 0 = .ok (.aload_n 0, 1) := by decide +kernel
theorem dL_isVerdictRight_1 : decode cL_isVerdictRight 1 = .ok (.iload_n 1, 1) := by decide +kernel
theorem dL_isVerdictRight_2 : decode cL_isVerdictRight 2 = .ok (.iload_n 2, 1) := by decide +kernel
theorem dL_isVerdictRight_3 : decode cL_isVerdictRight 3 = .ok (.iconst 0, 1) := by decide +kernel
theorem dL_isVerdictRight_4 : decode cL_isVerdictRight 4 = .ok (.invokevirtual 110, 3) := by decide +kernel
theorem dL_isVerdictRight_7 : decode cL_isVerdictRight 7 = .ok (.istore 5, 2) := by decide +kernel
theorem dL_isVerdictRight_9 : decode cL_isVerdictRight 9 = .ok (.aload_n 0, 1) := by decide +kernel
theorem dL_isVerdictRight_10 : decode cL_isVerdictRight 10 = .ok (.iload_n 1, 1) := by decide +kernel
theorem dL_isVerdictRight_11 : decode cL_isVerdictRight 11 = .ok (.iload_n 2, 1) := by decide +kernel
theorem dL_isVerdictRight_12 : decode cL_isVerdictRight 12 = .ok (.iconst 1, 1) := by decide +kernel
theorem dL_isVerdictRight_13 : decode cL_isVerdictRight 13 = .ok (.invokevirtual 110, 3) := by decide +kernel
theorem dL_isVerdictRight_16 : decode cL_isVerdictRight 16 = .ok (.istore 6, 2) := by decide +kernel
theorem dL_isVerdictRight_18 : decode cL_isVerdictRight 18 = .ok (.aload_n 0, 1) := by decide +kernel
theorem dL_isVerdictRight_19 : decode cL_isVerdictRight 19 = .ok (.iload_n 1, 1) := by decide +kernel
theorem dL_isVerdictRight_20 : decode cL_isVerdictRight 20 = .ok (.iload_n 2, 1) := by decide +kernel
theorem dL_isVerdictRight_21 : decode cL_isVerdictRight 21 = .ok (.iconst 2, 1) := by decide +kernel
theorem dL_isVerdictRight_22 : decode cL_isVerdictRight 22 = .ok (.invokevirtual 110, 3) := by decide +kernel
theorem dL_isVerdictRight_25 : decode cL_isVerdictRight 25 = .ok (.istore 7, 2) := by decide +kernel
theorem dL_isVerdictRight_27 : decode cL_isVerdictRight 27 = .ok (.aload_n 0, 1) := by decide +kernel
theorem dL_isVerdictRight_28 : decode cL_isVerdictRight 28 = .ok (.iload_n 1, 1) := by decide +kernel
theorem dL_isVerdictRight_29 : decode cL_isVerdictRight 29 = .ok (.iload_n 2, 1) := by decide +kernel
theorem dL_isVerdictRight_30 : decode cL_isVerdictRight 30 = .ok (.iconst 3, 1) := by decide +kernel
theorem dL_isVerdictRight_31 : decode cL_isVerdictRight 31 = .ok (.invokevirtual 110, 3) := by decide +kernel
theorem dL_isVerdictRight_34 : decode cL_isVerdictRight 34 = .ok (.istore 8, 2) := by decide +kernel
theorem dL_isVerdictRight_36 : decode cL_isVerdictRight 36 = .ok (.aload_n 0, 1) := by decide +kernel
theorem dL_isVerdictRight_37 : decode cL_isVerdictRight 37 = .ok (.iload_n 1, 1) := by decide +kernel
theorem dL_isVerdictRight_38 : decode cL_isVerdictRight 38 = .ok (.iload_n 2, 1) := by decide +kernel
theorem dL_isVerdictRight_39 : decode cL_isVerdictRight 39 = .ok (.iconst 4, 1) := by decide +kernel
theorem dL_isVerdictRight_40 : decode cL_isVerdictRight 40 = .ok (.invokevirtual 110, 3) := by decide +kernel
theorem dL_isVerdictRight_43 : decode cL_isVerdictRight 43 = .ok (.istore 9, 2) := by decide +kernel
theorem dL_isVerdictRight_45 : decode cL_isVerdictRight 45 = .ok (.aload_n 0, 1) := by decide +kernel
theorem dL_isVerdictRight_46 : decode cL_isVerdictRight 46 = .ok (.iload_n 1, 1) := by decide +kernel
theorem dL_isVerdictRight_47 : decode cL_isVerdictRight 47 = .ok (.iconst 1, 1) := by decide +kernel
theorem dL_isVerdictRight_48 : decode cL_isVerdictRight 48 = .ok (.invokevirtual 88, 3) := by decide +kernel
theorem dL_isVerdictRight_51 : decode cL_isVerdictRight 51 = .ok (.istore 10, 2) := by decide +kernel
theorem dL_isVerdictRight_53 : decode cL_isVerdictRight 53 = .ok (.aload_n 0, 1) := by decide +kernel
theorem dL_isVerdictRight_54 : decode cL_isVerdictRight 54 = .ok (.iload_n 2, 1) := by decide +kernel
theorem dL_isVerdictRight_55 : decode cL_isVerdictRight 55 = .ok (.iconst 1, 1) := by decide +kernel
theorem dL_isVerdictRight_56 : decode cL_isVerdictRight 56 = .ok (.invokevirtual 88, 3) := by decide +kernel
theorem dL_isVerdictRight_59 : decode cL_isVerdictRight 59 = .ok (.istore 11, 2) := by decide +kernel
theorem dL_isVerdictRight_61 : decode cL_isVerdictRight 61 = .ok (.iload 10, 2) := by decide +kernel
theorem dL_isVerdictRight_63 : decode cL_isVerdictRight 63 = .ok (.iload_n 3, 1) := by decide +kernel
theorem dL_isVerdictRight_64 : decode cL_isVerdictRight 64 = .ok (.if_icmp .lt 9, 3) := by decide +kernel
theorem dL_isVerdictRight_67 : decode cL_isVerdictRight 67 = .ok (.iload 11, 2) := by decide +kernel
theorem dL_isVerdictRight_69 : decode cL_isVerdictRight 69 = .ok (.iload_n 3, 1) := by decide +kernel
theorem dL_isVerdictRight_70 : decode cL_isVerdictRight 70 = .ok (.if_icmp .ge 7, 3) := by decide +kernel
theorem dL_isVerdictRight_73 : decode cL_isVerdictRight 73 = .ok (.iconst 1, 1) := by decide +kernel
theorem dL_isVerdictRight_74 : decode cL_isVerdictRight 74 = .ok (.goto 4, 3) := by decide +kernel
theorem dL_isVerdictRight_77 : decode cL_isVerdictRight 77 = .ok (.iconst 0, 1) := by decide +kernel
theorem dL_isVerdictRight_78 : decode cL_isVerdictRight 78 = .ok (.istore 12, 2) := by decide +kernel
theorem dL_isVerdictRight_80 : decode cL_isVerdictRight 80 = .ok (.iload 12, 2) := by decide +kernel
theorem dL_isVerdictRight_82 : decode cL_isVerdictRight 82 = .ok (.ifCond .eq 7, 3) := by decide +kernel
theorem dL_isVerdictRight_85 : decode cL_isVerdictRight 85 = .ok (.iconst 0, 1) := by decide +kernel
theorem dL_isVerdictRight_86 : decode cL_isVerdictRight 86 = .ok (.goto 58, 3) := by decide +kernel
theorem dL_isVerdictRight_89 : decode cL_isVerdictRight 89 = .ok (.iload 7, 2) := by decide +kernel
theorem dL_isVerdictRight_91 : decode cL_isVerdictRight 91 = .ok (.sipush 1000, 3) := by decide +kernel
theorem dL_isVerdictRight_94 : decode cL_isVerdictRight 94 = .ok (.imul, 1) := by decide +kernel
theorem dL_isVerdictRight_95 : decode cL_isVerdictRight 95 = .ok (.iload 4, 2) := by decide +kernel
theorem dL_isVerdictRight_97 : decode cL_isVerdictRight 97 = .ok (.iload 9, 2) := by decide +kernel
theorem dL_isVerdictRight_99 : decode cL_isVerdictRight 99 = .ok (.imul, 1) := by decide +kernel
theorem dL_isVerdictRight_100 : decode cL_isVerdictRight 100 = .ok (.if_icmp .gt 7, 3) := by decide +kernel
theorem dL_isVerdictRight_103 : decode cL_isVerdictRight 103 = .ok (.iconst 1, 1) := by decide +kernel
theorem dL_isVerdictRight_104 : decode cL_isVerdictRight 104 = .ok (.goto 40, 3) := by decide +kernel
theorem dL_isVerdictRight_107 : decode cL_isVerdictRight 107 = .ok (.iload 8, 2) := by decide +kernel
theorem dL_isVerdictRight_109 : decode cL_isVerdictRight 109 = .ok (.sipush 1000, 3) := by decide +kernel
theorem dL_isVerdictRight_112 : decode cL_isVerdictRight 112 = .ok (.imul, 1) := by decide +kernel
theorem dL_isVerdictRight_113 : decode cL_isVerdictRight 113 = .ok (.iload 4, 2) := by decide +kernel
theorem dL_isVerdictRight_115 : decode cL_isVerdictRight 115 = .ok (.iload 9, 2) := by decide +kernel
theorem dL_isVerdictRight_117 : decode cL_isVerdictRight 117 = .ok (.imul, 1) := by decide +kernel
theorem dL_isVerdictRight_118 : decode cL_isVerdictRight 118 = .ok (.if_icmp .gt 7, 3) := by decide +kernel
theorem dL_isVerdictRight_121 : decode cL_isVerdictRight 121 = .ok (.iconst 2, 1) := by decide +kernel
theorem dL_isVerdictRight_122 : decode cL_isVerdictRight 122 = .ok (.goto 22, 3) := by decide +kernel
theorem dL_isVerdictRight_125 : decode cL_isVerdictRight 125 = .ok (.iload 10, 2) := by decide +kernel
theorem dL_isVerdictRight_127 : decode cL_isVerdictRight 127 = .ok (.bipush 6, 2) := by decide +kernel
theorem dL_isVerdictRight_129 : decode cL_isVerdictRight 129 = .ok (.if_icmp .ne 14, 3) := by decide +kernel
theorem dL_isVerdictRight_132 : decode cL_isVerdictRight 132 = .ok (.iload 11, 2) := by decide +kernel
theorem dL_isVerdictRight_134 : decode cL_isVerdictRight 134 = .ok (.bipush 6, 2) := by decide +kernel
theorem dL_isVerdictRight_136 : decode cL_isVerdictRight 136 = .ok (.if_icmp .ne 7, 3) := by decide +kernel
theorem dL_isVerdictRight_139 : decode cL_isVerdictRight 139 = .ok (.iconst 3, 1) := by decide +kernel
theorem dL_isVerdictRight_140 : decode cL_isVerdictRight 140 = .ok (.goto 4, 3) := by decide +kernel
theorem dL_isVerdictRight_143 : decode cL_isVerdictRight 143 = .ok (.iconst 4, 1) := by decide +kernel
theorem dL_isVerdictRight_144 : decode cL_isVerdictRight 144 = .ok (.istore 13, 2) := by decide +kernel
theorem dL_isVerdictRight_146 : decode cL_isVerdictRight 146 = .ok (.iload 5, 2) := by decide +kernel
theorem dL_isVerdictRight_148 : decode cL_isVerdictRight 148 = .ok (.iload 13, 2) := by decide +kernel
theorem dL_isVerdictRight_150 : decode cL_isVerdictRight 150 = .ok (.if_icmp .ne 103, 3) := by decide +kernel
theorem dL_isVerdictRight_153 : decode cL_isVerdictRight 153 = .ok (.iload 6, 2) := by decide +kernel
theorem dL_isVerdictRight_155 : decode cL_isVerdictRight 155 = .ok (.ifCond .lt 98, 3) := by decide +kernel
theorem dL_isVerdictRight_158 : decode cL_isVerdictRight 158 = .ok (.iload 6, 2) := by decide +kernel
theorem dL_isVerdictRight_160 : decode cL_isVerdictRight 160 = .ok (.aload_n 0, 1) := by decide +kernel
theorem dL_isVerdictRight_161 : decode cL_isVerdictRight 161 = .ok (.iload_n 2, 1) := by decide +kernel
theorem dL_isVerdictRight_162 : decode cL_isVerdictRight 162 = .ok (.iload_n 1, 1) := by decide +kernel
theorem dL_isVerdictRight_163 : decode cL_isVerdictRight 163 = .ok (.iconst 1, 1) := by decide +kernel
theorem dL_isVerdictRight_164 : decode cL_isVerdictRight 164 = .ok (.invokevirtual 110, 3) := by decide +kernel
theorem dL_isVerdictRight_167 : decode cL_isVerdictRight 167 = .ok (.iadd, 1) := by decide +kernel
theorem dL_isVerdictRight_168 : decode cL_isVerdictRight 168 = .ok (.iconst 2, 1) := by decide +kernel
theorem dL_isVerdictRight_169 : decode cL_isVerdictRight 169 = .ok (.iload 10, 2) := by decide +kernel
theorem dL_isVerdictRight_171 : decode cL_isVerdictRight 171 = .ok (.imul, 1) := by decide +kernel
theorem dL_isVerdictRight_172 : decode cL_isVerdictRight 172 = .ok (.iload 11, 2) := by decide +kernel
theorem dL_isVerdictRight_174 : decode cL_isVerdictRight 174 = .ok (.imul, 1) := by decide +kernel
theorem dL_isVerdictRight_175 : decode cL_isVerdictRight 175 = .ok (.if_icmp .ne 78, 3) := by decide +kernel
theorem dL_isVerdictRight_178 : decode cL_isVerdictRight 178 = .ok (.iload 7, 2) := by decide +kernel
theorem dL_isVerdictRight_180 : decode cL_isVerdictRight 180 = .ok (.ifCond .le 73, 3) := by decide +kernel
theorem dL_isVerdictRight_183 : decode cL_isVerdictRight 183 = .ok (.iload 8, 2) := by decide +kernel
theorem dL_isVerdictRight_185 : decode cL_isVerdictRight 185 = .ok (.ifCond .le 68, 3) := by decide +kernel
theorem dL_isVerdictRight_188 : decode cL_isVerdictRight 188 = .ok (.iload 7, 2) := by decide +kernel
theorem dL_isVerdictRight_190 : decode cL_isVerdictRight 190 = .ok (.iload 8, 2) := by decide +kernel
theorem dL_isVerdictRight_192 : decode cL_isVerdictRight 192 = .ok (.iadd, 1) := by decide +kernel
theorem dL_isVerdictRight_193 : decode cL_isVerdictRight 193 = .ok (.iload 9, 2) := by decide +kernel
theorem dL_isVerdictRight_195 : decode cL_isVerdictRight 195 = .ok (.if_icmp .le 58, 3) := by decide +kernel
theorem dL_isVerdictRight_198 : decode cL_isVerdictRight 198 = .ok (.iload 9, 2) := by decide +kernel
theorem dL_isVerdictRight_200 : decode cL_isVerdictRight 200 = .ok (.aload_n 0, 1) := by decide +kernel
theorem dL_isVerdictRight_201 : decode cL_isVerdictRight 201 = .ok (.iload_n 2, 1) := by decide +kernel
theorem dL_isVerdictRight_202 : decode cL_isVerdictRight 202 = .ok (.iload_n 1, 1) := by decide +kernel
theorem dL_isVerdictRight_203 : decode cL_isVerdictRight 203 = .ok (.iconst 4, 1) := by decide +kernel
theorem dL_isVerdictRight_204 : decode cL_isVerdictRight 204 = .ok (.invokevirtual 110, 3) := by decide +kernel
theorem dL_isVerdictRight_207 : decode cL_isVerdictRight 207 = .ok (.if_icmp .ne 46, 3) := by decide +kernel
theorem dL_isVerdictRight_210 : decode cL_isVerdictRight 210 = .ok (.aload_n 0, 1) := by decide +kernel
theorem dL_isVerdictRight_211 : decode cL_isVerdictRight 211 = .ok (.iload_n 1, 1) := by decide +kernel
theorem dL_isVerdictRight_212 : decode cL_isVerdictRight 212 = .ok (.iload_n 2, 1) := by decide +kernel
theorem dL_isVerdictRight_213 : decode cL_isVerdictRight 213 = .ok (.invokevirtual 113, 3) := by decide +kernel
theorem dL_isVerdictRight_216 : decode cL_isVerdictRight 216 = .ok (.iload 9, 2) := by decide +kernel
theorem dL_isVerdictRight_218 : decode cL_isVerdictRight 218 = .ok (.i2d, 1) := by decide +kernel
theorem dL_isVerdictRight_219 : decode cL_isVerdictRight 219 = .ok (.dmul, 1) := by decide +kernel
theorem dL_isVerdictRight_220 : decode cL_isVerdictRight 220 = .ok (.iload 7, 2) := by decide +kernel
theorem dL_isVerdictRight_222 : decode cL_isVerdictRight 222 = .ok (.i2d, 1) := by decide +kernel
theorem dL_isVerdictRight_223 : decode cL_isVerdictRight 223 = .ok (.dsub, 1) := by decide +kernel
theorem dL_isVerdictRight_224 : decode cL_isVerdictRight 224 = .ok (.invokestatic 117, 3) := by decide +kernel
theorem dL_isVerdictRight_227 : decode cL_isVerdictRight 227 = .ok (.ldc2_w 121, 3) := by decide +kernel
theorem dL_isVerdictRight_230 : decode cL_isVerdictRight 230 = .ok (.dcmp .g, 1) := by decide +kernel
theorem dL_isVerdictRight_231 : decode cL_isVerdictRight 231 = .ok (.ifCond .ge 22, 3) := by decide +kernel
theorem dL_isVerdictRight_234 : decode cL_isVerdictRight 234 = .ok (.iload_n 1, 1) := by decide +kernel
theorem dL_isVerdictRight_235 : decode cL_isVerdictRight 235 = .ok (.iload_n 2, 1) := by decide +kernel
theorem dL_isVerdictRight_236 : decode cL_isVerdictRight 236 = .ok (.if_icmp .ne 13, 3) := by decide +kernel
theorem dL_isVerdictRight_239 : decode cL_isVerdictRight 239 = .ok (.iload 6, 2) := by decide +kernel
theorem dL_isVerdictRight_241 : decode cL_isVerdictRight 241 = .ok (.iload 10, 2) := by decide +kernel
theorem dL_isVerdictRight_243 : decode cL_isVerdictRight 243 = .ok (.iload 10, 2) := by decide +kernel
theorem dL_isVerdictRight_245 : decode cL_isVerdictRight 245 = .ok (.imul, 1) := by decide +kernel
theorem dL_isVerdictRight_246 : decode cL_isVerdictRight 246 = .ok (.if_icmp .ne 7, 3) := by decide +kernel
theorem dL_isVerdictRight_249 : decode cL_isVerdictRight 249 = .ok (.iconst 1, 1) := by decide +kernel
theorem dL_isVerdictRight_250 : decode cL_isVerdictRight 250 = .ok (.goto 4, 3) := by decide +kernel
theorem dL_isVerdictRight_253 : decode cL_isVerdictRight 253 = .ok (.iconst 0, 1) := by decide +kernel
theorem dL_isVerdictRight_254 : decode cL_isVerdictRight 254 = .ok (.ireturn, 1) := by decide +kernel
theorem dL_isCaseRight_0 : decode cL_isCaseRight 0 = .ok (.aload_n 0, 1) := by decide +kernel
theorem dL_isCaseRight_1 : decode cL_isCaseRight 1 = .ok (.iconst 0, 1) := by decide +kernel
theorem dL_isCaseRight_2 : decode cL_isCaseRight 2 = .ok (.invokevirtual 72, 3) := by decide +kernel
theorem dL_isCaseRight_5 : decode cL_isCaseRight 5 = .ok (.istore_n 1, 1) := by decide +kernel
theorem dL_isCaseRight_6 : decode cL_isCaseRight 6 = .ok (.aload_n 0, 1) := by decide +kernel
theorem dL_isCaseRight_7 : decode cL_isCaseRight 7 = .ok (.iconst 1, 1) := by decide +kernel
theorem dL_isCaseRight_8 : decode cL_isCaseRight 8 = .ok (.invokevirtual 72, 3) := by decide +kernel
theorem dL_isCaseRight_11 : decode cL_isCaseRight 11 = .ok (.istore_n 2, 1) := by decide +kernel
theorem dL_isCaseRight_12 : decode cL_isCaseRight 12 = .ok (.aload_n 0, 1) := by decide +kernel
theorem dL_isCaseRight_13 : decode cL_isCaseRight 13 = .ok (.iconst 2, 1) := by decide +kernel
theorem dL_isCaseRight_14 : decode cL_isCaseRight 14 = .ok (.invokevirtual 72, 3) := by decide +kernel
theorem dL_isCaseRight_17 : decode cL_isCaseRight 17 = .ok (.istore_n 3, 1) := by decide +kernel
theorem dL_isCaseRight_18 : decode cL_isCaseRight 18 = .ok (.iload_n 1, 1) := by decide +kernel
theorem dL_isCaseRight_19 : decode cL_isCaseRight 19 = .ok (.ifCond .ge 19, 3) := by decide +kernel
theorem dL_isCaseRight_22 : decode cL_isCaseRight 22 = .ok (.iload_n 2, 1) := by decide +kernel
theorem dL_isCaseRight_23 : decode cL_isCaseRight 23 = .ok (.iconst (-1), 1) := by decide +kernel
theorem dL_isCaseRight_24 : decode cL_isCaseRight 24 = .ok (.if_icmp .ne 12, 3) := by decide +kernel
theorem dL_isCaseRight_27 : decode cL_isCaseRight 27 = .ok (.iload_n 3, 1) := by decide +kernel
theorem dL_isCaseRight_28 : decode cL_isCaseRight 28 = .ok (.iconst (-1), 1) := by decide +kernel
theorem dL_isCaseRight_29 : decode cL_isCaseRight 29 = .ok (.if_icmp .ne 7, 3) := by decide +kernel
theorem dL_isCaseRight_32 : decode cL_isCaseRight 32 = .ok (.iconst 1, 1) := by decide +kernel
theorem dL_isCaseRight_33 : decode cL_isCaseRight 33 = .ok (.goto 4, 3) := by decide +kernel
theorem dL_isCaseRight_36 : decode cL_isCaseRight 36 = .ok (.iconst 0, 1) := by decide +kernel
theorem dL_isCaseRight_37 : decode cL_isCaseRight 37 = .ok (.ireturn, 1) := by decide +kernel
theorem dL_isCaseRight_38 : decode cL_isCaseRight 38 = .ok (.iload_n 2, 1) := by decide +kernel
theorem dL_isCaseRight_39 : decode cL_isCaseRight 39 = .ok (.iload_n 1, 1) := by decide +kernel
theorem dL_isCaseRight_40 : decode cL_isCaseRight 40 = .ok (.isub, 1) := by decide +kernel
theorem dL_isCaseRight_41 : decode cL_isCaseRight 41 = .ok (.iconst 1, 1) := by decide +kernel
theorem dL_isCaseRight_42 : decode cL_isCaseRight 42 = .ok (.if_icmp .ne 7, 3) := by decide +kernel
theorem dL_isCaseRight_45 : decode cL_isCaseRight 45 = .ok (.iload_n 2, 1) := by decide +kernel
theorem dL_isCaseRight_46 : decode cL_isCaseRight 46 = .ok (.goto 8, 3) := by decide +kernel
theorem dL_isCaseRight_49 : decode cL_isCaseRight 49 = .ok (.iload_n 1, 1) := by decide +kernel
theorem dL_isCaseRight_50 : decode cL_isCaseRight 50 = .ok (.iload_n 2, 1) := by decide +kernel
theorem dL_isCaseRight_51 : decode cL_isCaseRight 51 = .ok (.iadd, 1) := by decide +kernel
theorem dL_isCaseRight_52 : decode cL_isCaseRight 52 = .ok (.iconst 2, 1) := by decide +kernel
theorem dL_isCaseRight_53 : decode cL_isCaseRight 53 = .ok (.idiv, 1) := by decide +kernel
theorem dL_isCaseRight_54 : decode cL_isCaseRight 54 = .ok (.istore 4, 2) := by decide +kernel
theorem dL_isCaseRight_56 : decode cL_isCaseRight 56 = .ok (.aload_n 0, 1) := by decide +kernel
theorem dL_isCaseRight_57 : decode cL_isCaseRight 57 = .ok (.iload_n 1, 1) := by decide +kernel
theorem dL_isCaseRight_58 : decode cL_isCaseRight 58 = .ok (.iload 4, 2) := by decide +kernel
theorem dL_isCaseRight_60 : decode cL_isCaseRight 60 = .ok (.iconst 0, 1) := by decide +kernel
theorem dL_isCaseRight_61 : decode cL_isCaseRight 61 = .ok (.invokevirtual 110, 3) := by decide +kernel
theorem dL_isCaseRight_64 : decode cL_isCaseRight 64 = .ok (.istore 5, 2) := by decide +kernel
theorem dL_isCaseRight_66 : decode cL_isCaseRight 66 = .ok (.iload_n 1, 1) := by decide +kernel
theorem dL_isCaseRight_67 : decode cL_isCaseRight 67 = .ok (.iload_n 2, 1) := by decide +kernel
theorem dL_isCaseRight_68 : decode cL_isCaseRight 68 = .ok (.if_icmp .ge 40, 3) := by decide +kernel
theorem dL_isCaseRight_71 : decode cL_isCaseRight 71 = .ok (.iload 5, 2) := by decide +kernel
theorem dL_isCaseRight_73 : decode cL_isCaseRight 73 = .ok (.ifCond .eq 9, 3) := by decide +kernel
theorem dL_isCaseRight_76 : decode cL_isCaseRight 76 = .ok (.iload 5, 2) := by decide +kernel
theorem dL_isCaseRight_78 : decode cL_isCaseRight 78 = .ok (.iconst 4, 1) := by decide +kernel
theorem dL_isCaseRight_79 : decode cL_isCaseRight 79 = .ok (.if_icmp .ne 29, 3) := by decide +kernel
theorem dL_isCaseRight_82 : decode cL_isCaseRight 82 = .ok (.iload_n 3, 1) := by decide +kernel
theorem dL_isCaseRight_83 : decode cL_isCaseRight 83 = .ok (.aload_n 0, 1) := by decide +kernel
theorem dL_isCaseRight_84 : decode cL_isCaseRight 84 = .ok (.iload_n 1, 1) := by decide +kernel
theorem dL_isCaseRight_85 : decode cL_isCaseRight 85 = .ok (.iconst 1, 1) := by decide +kernel
theorem dL_isCaseRight_86 : decode cL_isCaseRight 86 = .ok (.invokevirtual 88, 3) := by decide +kernel
theorem dL_isCaseRight_89 : decode cL_isCaseRight 89 = .ok (.aload_n 0, 1) := by decide +kernel
theorem dL_isCaseRight_90 : decode cL_isCaseRight 90 = .ok (.iload 4, 2) := by decide +kernel
theorem dL_isCaseRight_92 : decode cL_isCaseRight 92 = .ok (.iconst 1, 1) := by decide +kernel
theorem dL_isCaseRight_93 : decode cL_isCaseRight 93 = .ok (.invokevirtual 88, 3) := by decide +kernel
theorem dL_isCaseRight_96 : decode cL_isCaseRight 96 = .ok (.if_icmp .ge 7, 3) := by decide +kernel
theorem dL_isCaseRight_99 : decode cL_isCaseRight 99 = .ok (.iload_n 1, 1) := by decide +kernel
theorem dL_isCaseRight_100 : decode cL_isCaseRight 100 = .ok (.goto 5, 3) := by decide +kernel
theorem dL_isCaseRight_103 : decode cL_isCaseRight 103 = .ok (.iload 4, 2) := by decide +kernel
theorem dL_isCaseRight_105 : decode cL_isCaseRight 105 = .ok (.if_icmp .eq 5, 3) := by decide +kernel
theorem dL_isCaseRight_108 : decode cL_isCaseRight 108 = .ok (.iconst 0, 1) := by decide +kernel
theorem dL_isCaseRight_109 : decode cL_isCaseRight 109 = .ok (.ireturn, 1) := by decide +kernel
theorem dL_isCaseRight_110 : decode cL_isCaseRight 110 = .ok (.aload_n 0, 1) := by decide +kernel
theorem dL_isCaseRight_111 : decode cL_isCaseRight 111 = .ok (.iload_n 3, 1) := by decide +kernel
theorem dL_isCaseRight_112 : decode cL_isCaseRight 112 = .ok (.iconst 1, 1) := by decide +kernel
theorem dL_isCaseRight_113 : decode cL_isCaseRight 113 = .ok (.invokevirtual 88, 3) := by decide +kernel
theorem dL_isCaseRight_116 : decode cL_isCaseRight 116 = .ok (.bipush 6, 2) := by decide +kernel
theorem dL_isCaseRight_118 : decode cL_isCaseRight 118 = .ok (.if_icmp .ge 38, 3) := by decide +kernel
theorem dL_isCaseRight_121 : decode cL_isCaseRight 121 = .ok (.aload_n 0, 1) := by decide +kernel
theorem dL_isCaseRight_122 : decode cL_isCaseRight 122 = .ok (.iconst 3, 1) := by decide +kernel
theorem dL_isCaseRight_123 : decode cL_isCaseRight 123 = .ok (.invokevirtual 72, 3) := by decide +kernel
theorem dL_isCaseRight_126 : decode cL_isCaseRight 126 = .ok (.iconst (-1), 1) := by decide +kernel
theorem dL_isCaseRight_127 : decode cL_isCaseRight 127 = .ok (.if_icmp .ne 7, 3) := by decide +kernel
theorem dL_isCaseRight_130 : decode cL_isCaseRight 130 = .ok (.iconst 1, 1) := by decide +kernel
theorem dL_isCaseRight_131 : decode cL_isCaseRight 131 = .ok (.goto 4, 3) := by decide +kernel
theorem dL_isCaseRight_134 : decode cL_isCaseRight 134 = .ok (.iconst 0, 1) := by decide +kernel
theorem dL_isCaseRight_135 : decode cL_isCaseRight 135 = .ok (.aload_n 0, 1) := by decide +kernel
theorem dL_isCaseRight_136 : decode cL_isCaseRight 136 = .ok (.bipush 7, 2) := by decide +kernel
theorem dL_isCaseRight_138 : decode cL_isCaseRight 138 = .ok (.invokevirtual 32, 3) := by decide +kernel
theorem dL_isCaseRight_141 : decode cL_isCaseRight 141 = .ok (.ifCond .ne 7, 3) := by decide +kernel
theorem dL_isCaseRight_144 : decode cL_isCaseRight 144 = .ok (.iconst 1, 1) := by decide +kernel
theorem dL_isCaseRight_145 : decode cL_isCaseRight 145 = .ok (.goto 4, 3) := by decide +kernel
theorem dL_isCaseRight_148 : decode cL_isCaseRight 148 = .ok (.iconst 0, 1) := by decide +kernel
theorem dL_isCaseRight_149 : decode cL_isCaseRight 149 = .ok (.if_icmp .ne 7, 3) := by decide +kernel
theorem dL_isCaseRight_152 : decode cL_isCaseRight 152 = .ok (.iconst 1, 1) := by decide +kernel
theorem dL_isCaseRight_153 : decode cL_isCaseRight 153 = .ok (.goto 4, 3) := by decide +kernel
theorem dL_isCaseRight_156 : decode cL_isCaseRight 156 = .ok (.iconst 0, 1) := by decide +kernel
theorem dL_isCaseRight_157 : decode cL_isCaseRight 157 = .ok (.ireturn, 1) := by decide +kernel
