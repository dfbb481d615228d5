/-! 16.s-law2: decode rows and step rows of the law; laid by a program. -/
theorem mC_138 : mC 138 = code := rfl
theorem d138_0 : decode (mC 138) 0 = .ok (.new 8, 3) := by rw [mC_138]; decide +kernel
theorem d138_3 : decode (mC 138) 3 = .ok (.dup, 1) := by rw [mC_138]; decide +kernel
theorem d138_4 : decode (mC 138) 4 = .ok (.invokespecial 48, 3) := by rw [mC_138]; decide +kernel
theorem d138_7 : decode (mC 138) 7 = .ok (.astore_n 1, 1) := by rw [mC_138]; decide +kernel
theorem d138_8 : decode (mC 138) 8 = .ok (.new 49, 3) := by rw [mC_138]; decide +kernel
theorem d138_11 : decode (mC 138) 11 = .ok (.dup, 1) := by rw [mC_138]; decide +kernel
theorem d138_12 : decode (mC 138) 12 = .ok (.invokespecial 51, 3) := by rw [mC_138]; decide +kernel
theorem d138_15 : decode (mC 138) 15 = .ok (.astore_n 2, 1) := by rw [mC_138]; decide +kernel
theorem d138_16 : decode (mC 138) 16 = .ok (.iconst 1, 1) := by rw [mC_138]; decide +kernel
theorem d138_17 : decode (mC 138) 17 = .ok (.newarray .long, 2) := by rw [mC_138]; decide +kernel
theorem d138_19 : decode (mC 138) 19 = .ok (.astore_n 3, 1) := by rw [mC_138]; decide +kernel
theorem d138_20 : decode (mC 138) 20 = .ok (.iconst 0, 1) := by rw [mC_138]; decide +kernel
theorem d138_21 : decode (mC 138) 21 = .ok (.istore 4, 2) := by rw [mC_138]; decide +kernel
theorem d138_23 : decode (mC 138) 23 = .ok (.iload 4, 2) := by rw [mC_138]; decide +kernel
theorem d138_25 : decode (mC 138) 25 = .ok (.aload_n 0, 1) := by rw [mC_138]; decide +kernel
theorem d138_26 : decode (mC 138) 26 = .ok (.arraylength, 1) := by rw [mC_138]; decide +kernel
theorem d138_27 : decode (mC 138) 27 = .ok (.bipush 7, 2) := by rw [mC_138]; decide +kernel
theorem d138_29 : decode (mC 138) 29 = .ok (.isub, 1) := by rw [mC_138]; decide +kernel
theorem d138_30 : decode (mC 138) 30 = .ok (.if_icmp .gt 737, 3) := by rw [mC_138]; decide +kernel
theorem d138_33 : decode (mC 138) 33 = .ok (.aload_n 0, 1) := by rw [mC_138]; decide +kernel
theorem d138_34 : decode (mC 138) 34 = .ok (.iload 4, 2) := by rw [mC_138]; decide +kernel
theorem d138_36 : decode (mC 138) 36 = .ok (.iaload, 1) := by rw [mC_138]; decide +kernel
theorem d138_37 : decode (mC 138) 37 = .ok (.bipush 15, 2) := by rw [mC_138]; decide +kernel
theorem d138_39 : decode (mC 138) 39 = .ok (.iand, 1) := by rw [mC_138]; decide +kernel
theorem d138_40 : decode (mC 138) 40 = .ok (.tableswitch 721 0 11 #[64, 198, 266, 322, 366, 379, 392, 460, 473, 529, 597, 653], 64) := by rw [mC_138]; decide +kernel
theorem d138_104 : decode (mC 138) 104 = .ok (.aload_n 1, 1) := by rw [mC_138]; decide +kernel
theorem d138_105 : decode (mC 138) 105 = .ok (.aload_n 0, 1) := by rw [mC_138]; decide +kernel
theorem d138_106 : decode (mC 138) 106 = .ok (.iload 4, 2) := by rw [mC_138]; decide +kernel
theorem d138_108 : decode (mC 138) 108 = .ok (.iconst 1, 1) := by rw [mC_138]; decide +kernel
theorem d138_109 : decode (mC 138) 109 = .ok (.iadd, 1) := by rw [mC_138]; decide +kernel
theorem d138_110 : decode (mC 138) 110 = .ok (.iaload, 1) := by rw [mC_138]; decide +kernel
theorem d138_111 : decode (mC 138) 111 = .ok (.aload_n 0, 1) := by rw [mC_138]; decide +kernel
theorem d138_112 : decode (mC 138) 112 = .ok (.iload 4, 2) := by rw [mC_138]; decide +kernel
theorem d138_114 : decode (mC 138) 114 = .ok (.iconst 2, 1) := by rw [mC_138]; decide +kernel
theorem d138_115 : decode (mC 138) 115 = .ok (.iadd, 1) := by rw [mC_138]; decide +kernel
theorem d138_116 : decode (mC 138) 116 = .ok (.iaload, 1) := by rw [mC_138]; decide +kernel
theorem d138_117 : decode (mC 138) 117 = .ok (.aload_n 0, 1) := by rw [mC_138]; decide +kernel
theorem d138_118 : decode (mC 138) 118 = .ok (.iload 4, 2) := by rw [mC_138]; decide +kernel
theorem d138_120 : decode (mC 138) 120 = .ok (.iconst 3, 1) := by rw [mC_138]; decide +kernel
theorem d138_121 : decode (mC 138) 121 = .ok (.iadd, 1) := by rw [mC_138]; decide +kernel
theorem d138_122 : decode (mC 138) 122 = .ok (.iaload, 1) := by rw [mC_138]; decide +kernel
theorem d138_123 : decode (mC 138) 123 = .ok (.ifCond .eq 7, 3) := by rw [mC_138]; decide +kernel
theorem d138_126 : decode (mC 138) 126 = .ok (.iconst 1, 1) := by rw [mC_138]; decide +kernel
theorem d138_127 : decode (mC 138) 127 = .ok (.goto 4, 3) := by rw [mC_138]; decide +kernel
theorem d138_130 : decode (mC 138) 130 = .ok (.iconst 0, 1) := by rw [mC_138]; decide +kernel
theorem d138_131 : decode (mC 138) 131 = .ok (.aload_n 0, 1) := by rw [mC_138]; decide +kernel
theorem d138_132 : decode (mC 138) 132 = .ok (.iload 4, 2) := by rw [mC_138]; decide +kernel
theorem d138_134 : decode (mC 138) 134 = .ok (.iconst 4, 1) := by rw [mC_138]; decide +kernel
theorem d138_135 : decode (mC 138) 135 = .ok (.iadd, 1) := by rw [mC_138]; decide +kernel
theorem d138_136 : decode (mC 138) 136 = .ok (.iaload, 1) := by rw [mC_138]; decide +kernel
theorem d138_137 : decode (mC 138) 137 = .ok (.aload_n 0, 1) := by rw [mC_138]; decide +kernel
theorem d138_138 : decode (mC 138) 138 = .ok (.iload 4, 2) := by rw [mC_138]; decide +kernel
theorem d138_140 : decode (mC 138) 140 = .ok (.iconst 5, 1) := by rw [mC_138]; decide +kernel
theorem d138_141 : decode (mC 138) 141 = .ok (.iadd, 1) := by rw [mC_138]; decide +kernel
theorem d138_142 : decode (mC 138) 142 = .ok (.iaload, 1) := by rw [mC_138]; decide +kernel
theorem d138_143 : decode (mC 138) 143 = .ok (.aload_n 0, 1) := by rw [mC_138]; decide +kernel
theorem d138_144 : decode (mC 138) 144 = .ok (.iload 4, 2) := by rw [mC_138]; decide +kernel
theorem d138_146 : decode (mC 138) 146 = .ok (.bipush 6, 2) := by rw [mC_138]; decide +kernel
theorem d138_148 : decode (mC 138) 148 = .ok (.iadd, 1) := by rw [mC_138]; decide +kernel
theorem d138_149 : decode (mC 138) 149 = .ok (.iaload, 1) := by rw [mC_138]; decide +kernel
theorem d138_150 : decode (mC 138) 150 = .ok (.aload_n 3, 1) := by rw [mC_138]; decide +kernel
theorem d138_151 : decode (mC 138) 151 = .ok (.invokestatic 52, 3) := by rw [mC_138]; decide +kernel
theorem d138_154 : decode (mC 138) 154 = .ok (.istore 5, 2) := by rw [mC_138]; decide +kernel
theorem d138_156 : decode (mC 138) 156 = .ok (.aload_n 2, 1) := by rw [mC_138]; decide +kernel
theorem d138_157 : decode (mC 138) 157 = .ok (.aload_n 0, 1) := by rw [mC_138]; decide +kernel
theorem d138_158 : decode (mC 138) 158 = .ok (.iload 4, 2) := by rw [mC_138]; decide +kernel
theorem d138_160 : decode (mC 138) 160 = .ok (.iconst 1, 1) := by rw [mC_138]; decide +kernel
theorem d138_161 : decode (mC 138) 161 = .ok (.iadd, 1) := by rw [mC_138]; decide +kernel
theorem d138_162 : decode (mC 138) 162 = .ok (.iaload, 1) := by rw [mC_138]; decide +kernel
theorem d138_163 : decode (mC 138) 163 = .ok (.aload_n 0, 1) := by rw [mC_138]; decide +kernel
theorem d138_164 : decode (mC 138) 164 = .ok (.iload 4, 2) := by rw [mC_138]; decide +kernel
theorem d138_166 : decode (mC 138) 166 = .ok (.iconst 2, 1) := by rw [mC_138]; decide +kernel
theorem d138_167 : decode (mC 138) 167 = .ok (.iadd, 1) := by rw [mC_138]; decide +kernel
theorem d138_168 : decode (mC 138) 168 = .ok (.iaload, 1) := by rw [mC_138]; decide +kernel
theorem d138_169 : decode (mC 138) 169 = .ok (.aload_n 0, 1) := by rw [mC_138]; decide +kernel
theorem d138_170 : decode (mC 138) 170 = .ok (.iload 4, 2) := by rw [mC_138]; decide +kernel
theorem d138_172 : decode (mC 138) 172 = .ok (.iconst 3, 1) := by rw [mC_138]; decide +kernel
theorem d138_173 : decode (mC 138) 173 = .ok (.iadd, 1) := by rw [mC_138]; decide +kernel
theorem d138_174 : decode (mC 138) 174 = .ok (.iaload, 1) := by rw [mC_138]; decide +kernel
theorem d138_175 : decode (mC 138) 175 = .ok (.ifCond .eq 7, 3) := by rw [mC_138]; decide +kernel
theorem d138_178 : decode (mC 138) 178 = .ok (.iconst 1, 1) := by rw [mC_138]; decide +kernel
theorem d138_179 : decode (mC 138) 179 = .ok (.goto 4, 3) := by rw [mC_138]; decide +kernel
theorem d138_182 : decode (mC 138) 182 = .ok (.iconst 0, 1) := by rw [mC_138]; decide +kernel
theorem d138_183 : decode (mC 138) 183 = .ok (.aload_n 0, 1) := by rw [mC_138]; decide +kernel
theorem d138_184 : decode (mC 138) 184 = .ok (.iload 4, 2) := by rw [mC_138]; decide +kernel
theorem d138_186 : decode (mC 138) 186 = .ok (.iconst 4, 1) := by rw [mC_138]; decide +kernel
theorem d138_187 : decode (mC 138) 187 = .ok (.iadd, 1) := by rw [mC_138]; decide +kernel
theorem d138_188 : decode (mC 138) 188 = .ok (.iaload, 1) := by rw [mC_138]; decide +kernel
theorem d138_189 : decode (mC 138) 189 = .ok (.aload_n 0, 1) := by rw [mC_138]; decide +kernel
theorem d138_190 : decode (mC 138) 190 = .ok (.iload 4, 2) := by rw [mC_138]; decide +kernel
theorem d138_192 : decode (mC 138) 192 = .ok (.iconst 5, 1) := by rw [mC_138]; decide +kernel
theorem d138_193 : decode (mC 138) 193 = .ok (.iadd, 1) := by rw [mC_138]; decide +kernel
theorem d138_194 : decode (mC 138) 194 = .ok (.iaload, 1) := by rw [mC_138]; decide +kernel
theorem d138_195 : decode (mC 138) 195 = .ok (.aload_n 0, 1) := by rw [mC_138]; decide +kernel
theorem d138_196 : decode (mC 138) 196 = .ok (.iload 4, 2) := by rw [mC_138]; decide +kernel
theorem d138_198 : decode (mC 138) 198 = .ok (.bipush 6, 2) := by rw [mC_138]; decide +kernel
theorem d138_200 : decode (mC 138) 200 = .ok (.iadd, 1) := by rw [mC_138]; decide +kernel
theorem d138_201 : decode (mC 138) 201 = .ok (.iaload, 1) := by rw [mC_138]; decide +kernel
theorem d138_202 : decode (mC 138) 202 = .ok (.invokevirtual 57, 3) := by rw [mC_138]; decide +kernel
theorem d138_205 : decode (mC 138) 205 = .ok (.istore 6, 2) := by rw [mC_138]; decide +kernel
theorem d138_207 : decode (mC 138) 207 = .ok (.aload_n 2, 1) := by rw [mC_138]; decide +kernel
theorem d138_208 : decode (mC 138) 208 = .ok (.invokevirtual 58, 3) := by rw [mC_138]; decide +kernel
theorem d138_211 : decode (mC 138) 211 = .ok (.iload 5, 2) := by rw [mC_138]; decide +kernel
theorem d138_213 : decode (mC 138) 213 = .ok (.if_icmp .eq 5, 3) := by rw [mC_138]; decide +kernel
theorem d138_216 : decode (mC 138) 216 = .ok (.iconst 0, 1) := by rw [mC_138]; decide +kernel
theorem d138_217 : decode (mC 138) 217 = .ok (.ireturn, 1) := by rw [mC_138]; decide +kernel
theorem d138_218 : decode (mC 138) 218 = .ok (.iload 5, 2) := by rw [mC_138]; decide +kernel
theorem d138_220 : decode (mC 138) 220 = .ok (.ifCond .ne 15, 3) := by rw [mC_138]; decide +kernel
theorem d138_223 : decode (mC 138) 223 = .ok (.aload_n 3, 1) := by rw [mC_138]; decide +kernel
theorem d138_224 : decode (mC 138) 224 = .ok (.iconst 0, 1) := by rw [mC_138]; decide +kernel
theorem d138_225 : decode (mC 138) 225 = .ok (.laload, 1) := by rw [mC_138]; decide +kernel
theorem d138_226 : decode (mC 138) 226 = .ok (.iload 6, 2) := by rw [mC_138]; decide +kernel
theorem d138_228 : decode (mC 138) 228 = .ok (.i2l, 1) := by rw [mC_138]; decide +kernel
theorem d138_229 : decode (mC 138) 229 = .ok (.lcmp, 1) := by rw [mC_138]; decide +kernel
theorem d138_230 : decode (mC 138) 230 = .ok (.ifCond .eq 5, 3) := by rw [mC_138]; decide +kernel
theorem d138_233 : decode (mC 138) 233 = .ok (.iconst 0, 1) := by rw [mC_138]; decide +kernel
theorem d138_234 : decode (mC 138) 234 = .ok (.ireturn, 1) := by rw [mC_138]; decide +kernel
theorem d138_235 : decode (mC 138) 235 = .ok (.goto 526, 3) := by rw [mC_138]; decide +kernel
theorem d138_238 : decode (mC 138) 238 = .ok (.aload_n 1, 1) := by rw [mC_138]; decide +kernel
theorem d138_239 : decode (mC 138) 239 = .ok (.aload_n 0, 1) := by rw [mC_138]; decide +kernel
theorem d138_240 : decode (mC 138) 240 = .ok (.iload 4, 2) := by rw [mC_138]; decide +kernel
theorem d138_242 : decode (mC 138) 242 = .ok (.iconst 1, 1) := by rw [mC_138]; decide +kernel
theorem d138_243 : decode (mC 138) 243 = .ok (.iadd, 1) := by rw [mC_138]; decide +kernel
theorem d138_244 : decode (mC 138) 244 = .ok (.iaload, 1) := by rw [mC_138]; decide +kernel
theorem d138_245 : decode (mC 138) 245 = .ok (.aload_n 0, 1) := by rw [mC_138]; decide +kernel
theorem d138_246 : decode (mC 138) 246 = .ok (.iload 4, 2) := by rw [mC_138]; decide +kernel
theorem d138_248 : decode (mC 138) 248 = .ok (.iconst 2, 1) := by rw [mC_138]; decide +kernel
theorem d138_249 : decode (mC 138) 249 = .ok (.iadd, 1) := by rw [mC_138]; decide +kernel
theorem d138_250 : decode (mC 138) 250 = .ok (.iaload, 1) := by rw [mC_138]; decide +kernel
theorem d138_251 : decode (mC 138) 251 = .ok (.aload_n 3, 1) := by rw [mC_138]; decide +kernel
theorem d138_252 : decode (mC 138) 252 = .ok (.invokestatic 61, 3) := by rw [mC_138]; decide +kernel
theorem d138_255 : decode (mC 138) 255 = .ok (.istore 5, 2) := by rw [mC_138]; decide +kernel
theorem d138_257 : decode (mC 138) 257 = .ok (.aload_n 2, 1) := by rw [mC_138]; decide +kernel
theorem d138_258 : decode (mC 138) 258 = .ok (.aload_n 0, 1) := by rw [mC_138]; decide +kernel
theorem d138_259 : decode (mC 138) 259 = .ok (.iload 4, 2) := by rw [mC_138]; decide +kernel
theorem d138_261 : decode (mC 138) 261 = .ok (.iconst 1, 1) := by rw [mC_138]; decide +kernel
theorem d138_262 : decode (mC 138) 262 = .ok (.iadd, 1) := by rw [mC_138]; decide +kernel
theorem d138_263 : decode (mC 138) 263 = .ok (.iaload, 1) := by rw [mC_138]; decide +kernel
theorem d138_264 : decode (mC 138) 264 = .ok (.aload_n 0, 1) := by rw [mC_138]; decide +kernel
theorem d138_265 : decode (mC 138) 265 = .ok (.iload 4, 2) := by rw [mC_138]; decide +kernel
theorem d138_267 : decode (mC 138) 267 = .ok (.iconst 2, 1) := by rw [mC_138]; decide +kernel
theorem d138_268 : decode (mC 138) 268 = .ok (.iadd, 1) := by rw [mC_138]; decide +kernel
theorem d138_269 : decode (mC 138) 269 = .ok (.iaload, 1) := by rw [mC_138]; decide +kernel
theorem d138_270 : decode (mC 138) 270 = .ok (.invokevirtual 64, 3) := by rw [mC_138]; decide +kernel
theorem d138_273 : decode (mC 138) 273 = .ok (.istore 6, 2) := by rw [mC_138]; decide +kernel
theorem d138_275 : decode (mC 138) 275 = .ok (.aload_n 2, 1) := by rw [mC_138]; decide +kernel
theorem d138_276 : decode (mC 138) 276 = .ok (.invokevirtual 58, 3) := by rw [mC_138]; decide +kernel
theorem d138_279 : decode (mC 138) 279 = .ok (.iload 5, 2) := by rw [mC_138]; decide +kernel
theorem d138_281 : decode (mC 138) 281 = .ok (.if_icmp .eq 5, 3) := by rw [mC_138]; decide +kernel
theorem d138_284 : decode (mC 138) 284 = .ok (.iconst 0, 1) := by rw [mC_138]; decide +kernel
theorem d138_285 : decode (mC 138) 285 = .ok (.ireturn, 1) := by rw [mC_138]; decide +kernel
theorem d138_286 : decode (mC 138) 286 = .ok (.iload 5, 2) := by rw [mC_138]; decide +kernel
theorem d138_288 : decode (mC 138) 288 = .ok (.ifCond .ne 15, 3) := by rw [mC_138]; decide +kernel
theorem d138_291 : decode (mC 138) 291 = .ok (.aload_n 3, 1) := by rw [mC_138]; decide +kernel
theorem d138_292 : decode (mC 138) 292 = .ok (.iconst 0, 1) := by rw [mC_138]; decide +kernel
theorem d138_293 : decode (mC 138) 293 = .ok (.laload, 1) := by rw [mC_138]; decide +kernel
theorem d138_294 : decode (mC 138) 294 = .ok (.iload 6, 2) := by rw [mC_138]; decide +kernel
theorem d138_296 : decode (mC 138) 296 = .ok (.i2l, 1) := by rw [mC_138]; decide +kernel
theorem d138_297 : decode (mC 138) 297 = .ok (.lcmp, 1) := by rw [mC_138]; decide +kernel
theorem d138_298 : decode (mC 138) 298 = .ok (.ifCond .eq 5, 3) := by rw [mC_138]; decide +kernel
theorem d138_301 : decode (mC 138) 301 = .ok (.iconst 0, 1) := by rw [mC_138]; decide +kernel
theorem d138_302 : decode (mC 138) 302 = .ok (.ireturn, 1) := by rw [mC_138]; decide +kernel
theorem d138_303 : decode (mC 138) 303 = .ok (.goto 458, 3) := by rw [mC_138]; decide +kernel
theorem d138_306 : decode (mC 138) 306 = .ok (.aload_n 1, 1) := by rw [mC_138]; decide +kernel
theorem d138_307 : decode (mC 138) 307 = .ok (.aload_n 0, 1) := by rw [mC_138]; decide +kernel
theorem d138_308 : decode (mC 138) 308 = .ok (.iload 4, 2) := by rw [mC_138]; decide +kernel
theorem d138_310 : decode (mC 138) 310 = .ok (.iconst 1, 1) := by rw [mC_138]; decide +kernel
theorem d138_311 : decode (mC 138) 311 = .ok (.iadd, 1) := by rw [mC_138]; decide +kernel
theorem d138_312 : decode (mC 138) 312 = .ok (.iaload, 1) := by rw [mC_138]; decide +kernel
theorem d138_313 : decode (mC 138) 313 = .ok (.aload_n 3, 1) := by rw [mC_138]; decide +kernel
theorem d138_314 : decode (mC 138) 314 = .ok (.invokestatic 65, 3) := by rw [mC_138]; decide +kernel
theorem d138_317 : decode (mC 138) 317 = .ok (.istore 5, 2) := by rw [mC_138]; decide +kernel
theorem d138_319 : decode (mC 138) 319 = .ok (.aload_n 2, 1) := by rw [mC_138]; decide +kernel
theorem d138_320 : decode (mC 138) 320 = .ok (.aload_n 0, 1) := by rw [mC_138]; decide +kernel
theorem d138_321 : decode (mC 138) 321 = .ok (.iload 4, 2) := by rw [mC_138]; decide +kernel
theorem d138_323 : decode (mC 138) 323 = .ok (.iconst 1, 1) := by rw [mC_138]; decide +kernel
theorem d138_324 : decode (mC 138) 324 = .ok (.iadd, 1) := by rw [mC_138]; decide +kernel
theorem d138_325 : decode (mC 138) 325 = .ok (.iaload, 1) := by rw [mC_138]; decide +kernel
theorem d138_326 : decode (mC 138) 326 = .ok (.invokevirtual 68, 3) := by rw [mC_138]; decide +kernel
theorem d138_329 : decode (mC 138) 329 = .ok (.istore 6, 2) := by rw [mC_138]; decide +kernel
theorem d138_331 : decode (mC 138) 331 = .ok (.aload_n 2, 1) := by rw [mC_138]; decide +kernel
theorem d138_332 : decode (mC 138) 332 = .ok (.invokevirtual 58, 3) := by rw [mC_138]; decide +kernel
theorem d138_335 : decode (mC 138) 335 = .ok (.iload 5, 2) := by rw [mC_138]; decide +kernel
theorem d138_337 : decode (mC 138) 337 = .ok (.if_icmp .eq 5, 3) := by rw [mC_138]; decide +kernel
theorem d138_340 : decode (mC 138) 340 = .ok (.iconst 0, 1) := by rw [mC_138]; decide +kernel
theorem d138_341 : decode (mC 138) 341 = .ok (.ireturn, 1) := by rw [mC_138]; decide +kernel
theorem d138_342 : decode (mC 138) 342 = .ok (.iload 5, 2) := by rw [mC_138]; decide +kernel
theorem d138_344 : decode (mC 138) 344 = .ok (.ifCond .ne 15, 3) := by rw [mC_138]; decide +kernel
theorem d138_347 : decode (mC 138) 347 = .ok (.aload_n 3, 1) := by rw [mC_138]; decide +kernel
theorem d138_348 : decode (mC 138) 348 = .ok (.iconst 0, 1) := by rw [mC_138]; decide +kernel
theorem d138_349 : decode (mC 138) 349 = .ok (.laload, 1) := by rw [mC_138]; decide +kernel
theorem d138_350 : decode (mC 138) 350 = .ok (.iload 6, 2) := by rw [mC_138]; decide +kernel
theorem d138_352 : decode (mC 138) 352 = .ok (.i2l, 1) := by rw [mC_138]; decide +kernel
theorem d138_353 : decode (mC 138) 353 = .ok (.lcmp, 1) := by rw [mC_138]; decide +kernel
theorem d138_354 : decode (mC 138) 354 = .ok (.ifCond .eq 5, 3) := by rw [mC_138]; decide +kernel
theorem d138_357 : decode (mC 138) 357 = .ok (.iconst 0, 1) := by rw [mC_138]; decide +kernel
theorem d138_358 : decode (mC 138) 358 = .ok (.ireturn, 1) := by rw [mC_138]; decide +kernel
theorem d138_359 : decode (mC 138) 359 = .ok (.goto 402, 3) := by rw [mC_138]; decide +kernel
theorem d138_362 : decode (mC 138) 362 = .ok (.aload_n 1, 1) := by rw [mC_138]; decide +kernel
theorem d138_363 : decode (mC 138) 363 = .ok (.aload_n 3, 1) := by rw [mC_138]; decide +kernel
theorem d138_364 : decode (mC 138) 364 = .ok (.invokestatic 69, 3) := by rw [mC_138]; decide +kernel
theorem d138_367 : decode (mC 138) 367 = .ok (.istore 5, 2) := by rw [mC_138]; decide +kernel
theorem d138_369 : decode (mC 138) 369 = .ok (.aload_n 2, 1) := by rw [mC_138]; decide +kernel
theorem d138_370 : decode (mC 138) 370 = .ok (.invokevirtual 72, 3) := by rw [mC_138]; decide +kernel
theorem d138_373 : decode (mC 138) 373 = .ok (.istore 6, 2) := by rw [mC_138]; decide +kernel
theorem d138_375 : decode (mC 138) 375 = .ok (.aload_n 2, 1) := by rw [mC_138]; decide +kernel
theorem d138_376 : decode (mC 138) 376 = .ok (.invokevirtual 58, 3) := by rw [mC_138]; decide +kernel
theorem d138_379 : decode (mC 138) 379 = .ok (.iload 5, 2) := by rw [mC_138]; decide +kernel
theorem d138_381 : decode (mC 138) 381 = .ok (.if_icmp .eq 5, 3) := by rw [mC_138]; decide +kernel
theorem d138_384 : decode (mC 138) 384 = .ok (.iconst 0, 1) := by rw [mC_138]; decide +kernel
theorem d138_385 : decode (mC 138) 385 = .ok (.ireturn, 1) := by rw [mC_138]; decide +kernel
theorem d138_386 : decode (mC 138) 386 = .ok (.iload 5, 2) := by rw [mC_138]; decide +kernel
theorem d138_388 : decode (mC 138) 388 = .ok (.ifCond .ne 15, 3) := by rw [mC_138]; decide +kernel
theorem d138_391 : decode (mC 138) 391 = .ok (.aload_n 3, 1) := by rw [mC_138]; decide +kernel
theorem d138_392 : decode (mC 138) 392 = .ok (.iconst 0, 1) := by rw [mC_138]; decide +kernel
theorem d138_393 : decode (mC 138) 393 = .ok (.laload, 1) := by rw [mC_138]; decide +kernel
theorem d138_394 : decode (mC 138) 394 = .ok (.iload 6, 2) := by rw [mC_138]; decide +kernel
theorem d138_396 : decode (mC 138) 396 = .ok (.i2l, 1) := by rw [mC_138]; decide +kernel
theorem d138_397 : decode (mC 138) 397 = .ok (.lcmp, 1) := by rw [mC_138]; decide +kernel
theorem d138_398 : decode (mC 138) 398 = .ok (.ifCond .eq 5, 3) := by rw [mC_138]; decide +kernel
theorem d138_401 : decode (mC 138) 401 = .ok (.iconst 0, 1) := by rw [mC_138]; decide +kernel
theorem d138_402 : decode (mC 138) 402 = .ok (.ireturn, 1) := by rw [mC_138]; decide +kernel
theorem d138_403 : decode (mC 138) 403 = .ok (.goto 358, 3) := by rw [mC_138]; decide +kernel
theorem d138_406 : decode (mC 138) 406 = .ok (.aload_n 1, 1) := by rw [mC_138]; decide +kernel
theorem d138_407 : decode (mC 138) 407 = .ok (.invokevirtual 73, 3) := by rw [mC_138]; decide +kernel
theorem d138_410 : decode (mC 138) 410 = .ok (.aload_n 2, 1) := by rw [mC_138]; decide +kernel
theorem d138_411 : decode (mC 138) 411 = .ok (.invokevirtual 76, 3) := by rw [mC_138]; decide +kernel
theorem d138_414 : decode (mC 138) 414 = .ok (.if_icmp .eq 347, 3) := by rw [mC_138]; decide +kernel
theorem d138_417 : decode (mC 138) 417 = .ok (.iconst 0, 1) := by rw [mC_138]; decide +kernel
theorem d138_418 : decode (mC 138) 418 = .ok (.ireturn, 1) := by rw [mC_138]; decide +kernel
theorem d138_419 : decode (mC 138) 419 = .ok (.aload_n 1, 1) := by rw [mC_138]; decide +kernel
theorem d138_420 : decode (mC 138) 420 = .ok (.invokevirtual 77, 3) := by rw [mC_138]; decide +kernel
theorem d138_423 : decode (mC 138) 423 = .ok (.aload_n 2, 1) := by rw [mC_138]; decide +kernel
theorem d138_424 : decode (mC 138) 424 = .ok (.invokevirtual 81, 3) := by rw [mC_138]; decide +kernel
theorem d138_427 : decode (mC 138) 427 = .ok (.if_icmp .eq 334, 3) := by rw [mC_138]; decide +kernel
theorem d138_430 : decode (mC 138) 430 = .ok (.iconst 0, 1) := by rw [mC_138]; decide +kernel
theorem d138_431 : decode (mC 138) 431 = .ok (.ireturn, 1) := by rw [mC_138]; decide +kernel
theorem d138_432 : decode (mC 138) 432 = .ok (.aload_n 1, 1) := by rw [mC_138]; decide +kernel
theorem d138_433 : decode (mC 138) 433 = .ok (.aload_n 0, 1) := by rw [mC_138]; decide +kernel
theorem d138_434 : decode (mC 138) 434 = .ok (.iload 4, 2) := by rw [mC_138]; decide +kernel
theorem d138_436 : decode (mC 138) 436 = .ok (.iconst 1, 1) := by rw [mC_138]; decide +kernel
theorem d138_437 : decode (mC 138) 437 = .ok (.iadd, 1) := by rw [mC_138]; decide +kernel
theorem d138_438 : decode (mC 138) 438 = .ok (.iaload, 1) := by rw [mC_138]; decide +kernel
theorem d138_439 : decode (mC 138) 439 = .ok (.aload_n 0, 1) := by rw [mC_138]; decide +kernel
theorem d138_440 : decode (mC 138) 440 = .ok (.iload 4, 2) := by rw [mC_138]; decide +kernel
theorem d138_442 : decode (mC 138) 442 = .ok (.iconst 2, 1) := by rw [mC_138]; decide +kernel
theorem d138_443 : decode (mC 138) 443 = .ok (.iadd, 1) := by rw [mC_138]; decide +kernel
theorem d138_444 : decode (mC 138) 444 = .ok (.iaload, 1) := by rw [mC_138]; decide +kernel
theorem d138_445 : decode (mC 138) 445 = .ok (.aload_n 3, 1) := by rw [mC_138]; decide +kernel
theorem d138_446 : decode (mC 138) 446 = .ok (.invokestatic 82, 3) := by rw [mC_138]; decide +kernel
theorem d138_449 : decode (mC 138) 449 = .ok (.istore 5, 2) := by rw [mC_138]; decide +kernel
theorem d138_451 : decode (mC 138) 451 = .ok (.aload_n 2, 1) := by rw [mC_138]; decide +kernel
theorem d138_452 : decode (mC 138) 452 = .ok (.aload_n 0, 1) := by rw [mC_138]; decide +kernel
theorem d138_453 : decode (mC 138) 453 = .ok (.iload 4, 2) := by rw [mC_138]; decide +kernel
theorem d138_455 : decode (mC 138) 455 = .ok (.iconst 1, 1) := by rw [mC_138]; decide +kernel
theorem d138_456 : decode (mC 138) 456 = .ok (.iadd, 1) := by rw [mC_138]; decide +kernel
theorem d138_457 : decode (mC 138) 457 = .ok (.iaload, 1) := by rw [mC_138]; decide +kernel
theorem d138_458 : decode (mC 138) 458 = .ok (.aload_n 0, 1) := by rw [mC_138]; decide +kernel
theorem d138_459 : decode (mC 138) 459 = .ok (.iload 4, 2) := by rw [mC_138]; decide +kernel
theorem d138_461 : decode (mC 138) 461 = .ok (.iconst 2, 1) := by rw [mC_138]; decide +kernel
theorem d138_462 : decode (mC 138) 462 = .ok (.iadd, 1) := by rw [mC_138]; decide +kernel
theorem d138_463 : decode (mC 138) 463 = .ok (.iaload, 1) := by rw [mC_138]; decide +kernel
theorem d138_464 : decode (mC 138) 464 = .ok (.invokevirtual 84, 3) := by rw [mC_138]; decide +kernel
theorem d138_467 : decode (mC 138) 467 = .ok (.istore 6, 2) := by rw [mC_138]; decide +kernel
theorem d138_469 : decode (mC 138) 469 = .ok (.aload_n 2, 1) := by rw [mC_138]; decide +kernel
theorem d138_470 : decode (mC 138) 470 = .ok (.invokevirtual 58, 3) := by rw [mC_138]; decide +kernel
theorem d138_473 : decode (mC 138) 473 = .ok (.iload 5, 2) := by rw [mC_138]; decide +kernel
theorem d138_475 : decode (mC 138) 475 = .ok (.if_icmp .eq 5, 3) := by rw [mC_138]; decide +kernel
theorem d138_478 : decode (mC 138) 478 = .ok (.iconst 0, 1) := by rw [mC_138]; decide +kernel
theorem d138_479 : decode (mC 138) 479 = .ok (.ireturn, 1) := by rw [mC_138]; decide +kernel
theorem d138_480 : decode (mC 138) 480 = .ok (.iload 5, 2) := by rw [mC_138]; decide +kernel
theorem d138_482 : decode (mC 138) 482 = .ok (.ifCond .ne 15, 3) := by rw [mC_138]; decide +kernel
theorem d138_485 : decode (mC 138) 485 = .ok (.aload_n 3, 1) := by rw [mC_138]; decide +kernel
theorem d138_486 : decode (mC 138) 486 = .ok (.iconst 0, 1) := by rw [mC_138]; decide +kernel
theorem d138_487 : decode (mC 138) 487 = .ok (.laload, 1) := by rw [mC_138]; decide +kernel
theorem d138_488 : decode (mC 138) 488 = .ok (.iload 6, 2) := by rw [mC_138]; decide +kernel
theorem d138_490 : decode (mC 138) 490 = .ok (.i2l, 1) := by rw [mC_138]; decide +kernel
theorem d138_491 : decode (mC 138) 491 = .ok (.lcmp, 1) := by rw [mC_138]; decide +kernel
theorem d138_492 : decode (mC 138) 492 = .ok (.ifCond .eq 5, 3) := by rw [mC_138]; decide +kernel
theorem d138_495 : decode (mC 138) 495 = .ok (.iconst 0, 1) := by rw [mC_138]; decide +kernel
theorem d138_496 : decode (mC 138) 496 = .ok (.ireturn, 1) := by rw [mC_138]; decide +kernel
theorem d138_497 : decode (mC 138) 497 = .ok (.goto 264, 3) := by rw [mC_138]; decide +kernel
theorem d138_500 : decode (mC 138) 500 = .ok (.aload_n 1, 1) := by rw [mC_138]; decide +kernel
theorem d138_501 : decode (mC 138) 501 = .ok (.invokevirtual 85, 3) := by rw [mC_138]; decide +kernel
theorem d138_504 : decode (mC 138) 504 = .ok (.aload_n 2, 1) := by rw [mC_138]; decide +kernel
theorem d138_505 : decode (mC 138) 505 = .ok (.invokevirtual 88, 3) := by rw [mC_138]; decide +kernel
theorem d138_508 : decode (mC 138) 508 = .ok (.if_icmp .eq 253, 3) := by rw [mC_138]; decide +kernel
theorem d138_511 : decode (mC 138) 511 = .ok (.iconst 0, 1) := by rw [mC_138]; decide +kernel
theorem d138_512 : decode (mC 138) 512 = .ok (.ireturn, 1) := by rw [mC_138]; decide +kernel
theorem d138_513 : decode (mC 138) 513 = .ok (.aload_n 1, 1) := by rw [mC_138]; decide +kernel
theorem d138_514 : decode (mC 138) 514 = .ok (.aload_n 0, 1) := by rw [mC_138]; decide +kernel
theorem d138_515 : decode (mC 138) 515 = .ok (.iload 4, 2) := by rw [mC_138]; decide +kernel
theorem d138_517 : decode (mC 138) 517 = .ok (.iconst 1, 1) := by rw [mC_138]; decide +kernel
theorem d138_518 : decode (mC 138) 518 = .ok (.iadd, 1) := by rw [mC_138]; decide +kernel
theorem d138_519 : decode (mC 138) 519 = .ok (.iaload, 1) := by rw [mC_138]; decide +kernel
theorem d138_520 : decode (mC 138) 520 = .ok (.aload_n 3, 1) := by rw [mC_138]; decide +kernel
theorem d138_521 : decode (mC 138) 521 = .ok (.invokestatic 89, 3) := by rw [mC_138]; decide +kernel
theorem d138_524 : decode (mC 138) 524 = .ok (.istore 5, 2) := by rw [mC_138]; decide +kernel
theorem d138_526 : decode (mC 138) 526 = .ok (.aload_n 2, 1) := by rw [mC_138]; decide +kernel
theorem d138_527 : decode (mC 138) 527 = .ok (.aload_n 0, 1) := by rw [mC_138]; decide +kernel
theorem d138_528 : decode (mC 138) 528 = .ok (.iload 4, 2) := by rw [mC_138]; decide +kernel
theorem d138_530 : decode (mC 138) 530 = .ok (.iconst 1, 1) := by rw [mC_138]; decide +kernel
theorem d138_531 : decode (mC 138) 531 = .ok (.iadd, 1) := by rw [mC_138]; decide +kernel
theorem d138_532 : decode (mC 138) 532 = .ok (.iaload, 1) := by rw [mC_138]; decide +kernel
theorem d138_533 : decode (mC 138) 533 = .ok (.invokevirtual 91, 3) := by rw [mC_138]; decide +kernel
theorem d138_536 : decode (mC 138) 536 = .ok (.istore 6, 2) := by rw [mC_138]; decide +kernel
theorem d138_538 : decode (mC 138) 538 = .ok (.aload_n 2, 1) := by rw [mC_138]; decide +kernel
theorem d138_539 : decode (mC 138) 539 = .ok (.invokevirtual 58, 3) := by rw [mC_138]; decide +kernel
theorem d138_542 : decode (mC 138) 542 = .ok (.iload 5, 2) := by rw [mC_138]; decide +kernel
theorem d138_544 : decode (mC 138) 544 = .ok (.if_icmp .eq 5, 3) := by rw [mC_138]; decide +kernel
theorem d138_547 : decode (mC 138) 547 = .ok (.iconst 0, 1) := by rw [mC_138]; decide +kernel
theorem d138_548 : decode (mC 138) 548 = .ok (.ireturn, 1) := by rw [mC_138]; decide +kernel
theorem d138_549 : decode (mC 138) 549 = .ok (.iload 5, 2) := by rw [mC_138]; decide +kernel
theorem d138_551 : decode (mC 138) 551 = .ok (.ifCond .ne 15, 3) := by rw [mC_138]; decide +kernel
theorem d138_554 : decode (mC 138) 554 = .ok (.aload_n 3, 1) := by rw [mC_138]; decide +kernel
theorem d138_555 : decode (mC 138) 555 = .ok (.iconst 0, 1) := by rw [mC_138]; decide +kernel
theorem d138_556 : decode (mC 138) 556 = .ok (.laload, 1) := by rw [mC_138]; decide +kernel
theorem d138_557 : decode (mC 138) 557 = .ok (.iload 6, 2) := by rw [mC_138]; decide +kernel
theorem d138_559 : decode (mC 138) 559 = .ok (.i2l, 1) := by rw [mC_138]; decide +kernel
theorem d138_560 : decode (mC 138) 560 = .ok (.lcmp, 1) := by rw [mC_138]; decide +kernel
theorem d138_561 : decode (mC 138) 561 = .ok (.ifCond .eq 5, 3) := by rw [mC_138]; decide +kernel
theorem d138_564 : decode (mC 138) 564 = .ok (.iconst 0, 1) := by rw [mC_138]; decide +kernel
theorem d138_565 : decode (mC 138) 565 = .ok (.ireturn, 1) := by rw [mC_138]; decide +kernel
theorem d138_566 : decode (mC 138) 566 = .ok (.goto 195, 3) := by rw [mC_138]; decide +kernel
theorem d138_569 : decode (mC 138) 569 = .ok (.aload_n 1, 1) := by rw [mC_138]; decide +kernel
theorem d138_570 : decode (mC 138) 570 = .ok (.aload_n 0, 1) := by rw [mC_138]; decide +kernel
theorem d138_571 : decode (mC 138) 571 = .ok (.iload 4, 2) := by rw [mC_138]; decide +kernel
theorem d138_573 : decode (mC 138) 573 = .ok (.iconst 1, 1) := by rw [mC_138]; decide +kernel
theorem d138_574 : decode (mC 138) 574 = .ok (.iadd, 1) := by rw [mC_138]; decide +kernel
theorem d138_575 : decode (mC 138) 575 = .ok (.iaload, 1) := by rw [mC_138]; decide +kernel
theorem d138_576 : decode (mC 138) 576 = .ok (.aload_n 0, 1) := by rw [mC_138]; decide +kernel
theorem d138_577 : decode (mC 138) 577 = .ok (.iload 4, 2) := by rw [mC_138]; decide +kernel
theorem d138_579 : decode (mC 138) 579 = .ok (.iconst 2, 1) := by rw [mC_138]; decide +kernel
theorem d138_580 : decode (mC 138) 580 = .ok (.iadd, 1) := by rw [mC_138]; decide +kernel
theorem d138_581 : decode (mC 138) 581 = .ok (.iaload, 1) := by rw [mC_138]; decide +kernel
theorem d138_582 : decode (mC 138) 582 = .ok (.aload_n 3, 1) := by rw [mC_138]; decide +kernel
theorem d138_583 : decode (mC 138) 583 = .ok (.invokestatic 92, 3) := by rw [mC_138]; decide +kernel
theorem d138_586 : decode (mC 138) 586 = .ok (.istore 5, 2) := by rw [mC_138]; decide +kernel
theorem d138_588 : decode (mC 138) 588 = .ok (.aload_n 2, 1) := by rw [mC_138]; decide +kernel
theorem d138_589 : decode (mC 138) 589 = .ok (.aload_n 0, 1) := by rw [mC_138]; decide +kernel
theorem d138_590 : decode (mC 138) 590 = .ok (.iload 4, 2) := by rw [mC_138]; decide +kernel
theorem d138_592 : decode (mC 138) 592 = .ok (.iconst 1, 1) := by rw [mC_138]; decide +kernel
theorem d138_593 : decode (mC 138) 593 = .ok (.iadd, 1) := by rw [mC_138]; decide +kernel
theorem d138_594 : decode (mC 138) 594 = .ok (.iaload, 1) := by rw [mC_138]; decide +kernel
theorem d138_595 : decode (mC 138) 595 = .ok (.aload_n 0, 1) := by rw [mC_138]; decide +kernel
theorem d138_596 : decode (mC 138) 596 = .ok (.iload 4, 2) := by rw [mC_138]; decide +kernel
theorem d138_598 : decode (mC 138) 598 = .ok (.iconst 2, 1) := by rw [mC_138]; decide +kernel
theorem d138_599 : decode (mC 138) 599 = .ok (.iadd, 1) := by rw [mC_138]; decide +kernel
theorem d138_600 : decode (mC 138) 600 = .ok (.iaload, 1) := by rw [mC_138]; decide +kernel
theorem d138_601 : decode (mC 138) 601 = .ok (.invokevirtual 94, 3) := by rw [mC_138]; decide +kernel
theorem d138_604 : decode (mC 138) 604 = .ok (.istore 6, 2) := by rw [mC_138]; decide +kernel
theorem d138_606 : decode (mC 138) 606 = .ok (.aload_n 2, 1) := by rw [mC_138]; decide +kernel
theorem d138_607 : decode (mC 138) 607 = .ok (.invokevirtual 58, 3) := by rw [mC_138]; decide +kernel
theorem d138_610 : decode (mC 138) 610 = .ok (.iload 5, 2) := by rw [mC_138]; decide +kernel
theorem d138_612 : decode (mC 138) 612 = .ok (.if_icmp .eq 5, 3) := by rw [mC_138]; decide +kernel
theorem d138_615 : decode (mC 138) 615 = .ok (.iconst 0, 1) := by rw [mC_138]; decide +kernel
theorem d138_616 : decode (mC 138) 616 = .ok (.ireturn, 1) := by rw [mC_138]; decide +kernel
theorem d138_617 : decode (mC 138) 617 = .ok (.iload 5, 2) := by rw [mC_138]; decide +kernel
theorem d138_619 : decode (mC 138) 619 = .ok (.ifCond .ne 15, 3) := by rw [mC_138]; decide +kernel
theorem d138_622 : decode (mC 138) 622 = .ok (.aload_n 3, 1) := by rw [mC_138]; decide +kernel
theorem d138_623 : decode (mC 138) 623 = .ok (.iconst 0, 1) := by rw [mC_138]; decide +kernel
theorem d138_624 : decode (mC 138) 624 = .ok (.laload, 1) := by rw [mC_138]; decide +kernel
theorem d138_625 : decode (mC 138) 625 = .ok (.iload 6, 2) := by rw [mC_138]; decide +kernel
theorem d138_627 : decode (mC 138) 627 = .ok (.i2l, 1) := by rw [mC_138]; decide +kernel
theorem d138_628 : decode (mC 138) 628 = .ok (.lcmp, 1) := by rw [mC_138]; decide +kernel
theorem d138_629 : decode (mC 138) 629 = .ok (.ifCond .eq 5, 3) := by rw [mC_138]; decide +kernel
theorem d138_632 : decode (mC 138) 632 = .ok (.iconst 0, 1) := by rw [mC_138]; decide +kernel
theorem d138_633 : decode (mC 138) 633 = .ok (.ireturn, 1) := by rw [mC_138]; decide +kernel
theorem d138_634 : decode (mC 138) 634 = .ok (.goto 127, 3) := by rw [mC_138]; decide +kernel
theorem d138_637 : decode (mC 138) 637 = .ok (.aload_n 1, 1) := by rw [mC_138]; decide +kernel
theorem d138_638 : decode (mC 138) 638 = .ok (.aload_n 0, 1) := by rw [mC_138]; decide +kernel
theorem d138_639 : decode (mC 138) 639 = .ok (.iload 4, 2) := by rw [mC_138]; decide +kernel
theorem d138_641 : decode (mC 138) 641 = .ok (.iconst 1, 1) := by rw [mC_138]; decide +kernel
theorem d138_642 : decode (mC 138) 642 = .ok (.iadd, 1) := by rw [mC_138]; decide +kernel
theorem d138_643 : decode (mC 138) 643 = .ok (.iaload, 1) := by rw [mC_138]; decide +kernel
theorem d138_644 : decode (mC 138) 644 = .ok (.aload_n 3, 1) := by rw [mC_138]; decide +kernel
theorem d138_645 : decode (mC 138) 645 = .ok (.invokestatic 95, 3) := by rw [mC_138]; decide +kernel
theorem d138_648 : decode (mC 138) 648 = .ok (.istore 5, 2) := by rw [mC_138]; decide +kernel
theorem d138_650 : decode (mC 138) 650 = .ok (.aload_n 2, 1) := by rw [mC_138]; decide +kernel
theorem d138_651 : decode (mC 138) 651 = .ok (.aload_n 0, 1) := by rw [mC_138]; decide +kernel
theorem d138_652 : decode (mC 138) 652 = .ok (.iload 4, 2) := by rw [mC_138]; decide +kernel
theorem d138_654 : decode (mC 138) 654 = .ok (.iconst 1, 1) := by rw [mC_138]; decide +kernel
theorem d138_655 : decode (mC 138) 655 = .ok (.iadd, 1) := by rw [mC_138]; decide +kernel
theorem d138_656 : decode (mC 138) 656 = .ok (.iaload, 1) := by rw [mC_138]; decide +kernel
theorem d138_657 : decode (mC 138) 657 = .ok (.invokevirtual 97, 3) := by rw [mC_138]; decide +kernel
theorem d138_660 : decode (mC 138) 660 = .ok (.istore 6, 2) := by rw [mC_138]; decide +kernel
theorem d138_662 : decode (mC 138) 662 = .ok (.aload_n 2, 1) := by rw [mC_138]; decide +kernel
theorem d138_663 : decode (mC 138) 663 = .ok (.invokevirtual 58, 3) := by rw [mC_138]; decide +kernel
theorem d138_666 : decode (mC 138) 666 = .ok (.iload 5, 2) := by rw [mC_138]; decide +kernel
theorem d138_668 : decode (mC 138) 668 = .ok (.if_icmp .eq 5, 3) := by rw [mC_138]; decide +kernel
theorem d138_671 : decode (mC 138) 671 = .ok (.iconst 0, 1) := by rw [mC_138]; decide +kernel
theorem d138_672 : decode (mC 138) 672 = .ok (.ireturn, 1) := by rw [mC_138]; decide +kernel
theorem d138_673 : decode (mC 138) 673 = .ok (.iload 5, 2) := by rw [mC_138]; decide +kernel
theorem d138_675 : decode (mC 138) 675 = .ok (.ifCond .ne 15, 3) := by rw [mC_138]; decide +kernel
theorem d138_678 : decode (mC 138) 678 = .ok (.aload_n 3, 1) := by rw [mC_138]; decide +kernel
theorem d138_679 : decode (mC 138) 679 = .ok (.iconst 0, 1) := by rw [mC_138]; decide +kernel
theorem d138_680 : decode (mC 138) 680 = .ok (.laload, 1) := by rw [mC_138]; decide +kernel
theorem d138_681 : decode (mC 138) 681 = .ok (.iload 6, 2) := by rw [mC_138]; decide +kernel
theorem d138_683 : decode (mC 138) 683 = .ok (.i2l, 1) := by rw [mC_138]; decide +kernel
theorem d138_684 : decode (mC 138) 684 = .ok (.lcmp, 1) := by rw [mC_138]; decide +kernel
theorem d138_685 : decode (mC 138) 685 = .ok (.ifCond .eq 5, 3) := by rw [mC_138]; decide +kernel
theorem d138_688 : decode (mC 138) 688 = .ok (.iconst 0, 1) := by rw [mC_138]; decide +kernel
theorem d138_689 : decode (mC 138) 689 = .ok (.ireturn, 1) := by rw [mC_138]; decide +kernel
theorem d138_690 : decode (mC 138) 690 = .ok (.goto 71, 3) := by rw [mC_138]; decide +kernel
theorem d138_693 : decode (mC 138) 693 = .ok (.aload_n 1, 1) := by rw [mC_138]; decide +kernel
theorem d138_694 : decode (mC 138) 694 = .ok (.aload_n 0, 1) := by rw [mC_138]; decide +kernel
theorem d138_695 : decode (mC 138) 695 = .ok (.iload 4, 2) := by rw [mC_138]; decide +kernel
theorem d138_697 : decode (mC 138) 697 = .ok (.iconst 1, 1) := by rw [mC_138]; decide +kernel
theorem d138_698 : decode (mC 138) 698 = .ok (.iadd, 1) := by rw [mC_138]; decide +kernel
theorem d138_699 : decode (mC 138) 699 = .ok (.iaload, 1) := by rw [mC_138]; decide +kernel
theorem d138_700 : decode (mC 138) 700 = .ok (.aload_n 0, 1) := by rw [mC_138]; decide +kernel
theorem d138_701 : decode (mC 138) 701 = .ok (.iload 4, 2) := by rw [mC_138]; decide +kernel
theorem d138_703 : decode (mC 138) 703 = .ok (.iconst 2, 1) := by rw [mC_138]; decide +kernel
theorem d138_704 : decode (mC 138) 704 = .ok (.iadd, 1) := by rw [mC_138]; decide +kernel
theorem d138_705 : decode (mC 138) 705 = .ok (.iaload, 1) := by rw [mC_138]; decide +kernel
theorem d138_706 : decode (mC 138) 706 = .ok (.aload_n 3, 1) := by rw [mC_138]; decide +kernel
theorem d138_707 : decode (mC 138) 707 = .ok (.invokestatic 98, 3) := by rw [mC_138]; decide +kernel
theorem d138_710 : decode (mC 138) 710 = .ok (.istore 5, 2) := by rw [mC_138]; decide +kernel
theorem d138_712 : decode (mC 138) 712 = .ok (.aload_n 2, 1) := by rw [mC_138]; decide +kernel
theorem d138_713 : decode (mC 138) 713 = .ok (.aload_n 0, 1) := by rw [mC_138]; decide +kernel
theorem d138_714 : decode (mC 138) 714 = .ok (.iload 4, 2) := by rw [mC_138]; decide +kernel
theorem d138_716 : decode (mC 138) 716 = .ok (.iconst 1, 1) := by rw [mC_138]; decide +kernel
theorem d138_717 : decode (mC 138) 717 = .ok (.iadd, 1) := by rw [mC_138]; decide +kernel
theorem d138_718 : decode (mC 138) 718 = .ok (.iaload, 1) := by rw [mC_138]; decide +kernel
theorem d138_719 : decode (mC 138) 719 = .ok (.aload_n 0, 1) := by rw [mC_138]; decide +kernel
theorem d138_720 : decode (mC 138) 720 = .ok (.iload 4, 2) := by rw [mC_138]; decide +kernel
theorem d138_722 : decode (mC 138) 722 = .ok (.iconst 2, 1) := by rw [mC_138]; decide +kernel
theorem d138_723 : decode (mC 138) 723 = .ok (.iadd, 1) := by rw [mC_138]; decide +kernel
theorem d138_724 : decode (mC 138) 724 = .ok (.iaload, 1) := by rw [mC_138]; decide +kernel
theorem d138_725 : decode (mC 138) 725 = .ok (.invokevirtual 100, 3) := by rw [mC_138]; decide +kernel
theorem d138_728 : decode (mC 138) 728 = .ok (.istore 6, 2) := by rw [mC_138]; decide +kernel
theorem d138_730 : decode (mC 138) 730 = .ok (.aload_n 2, 1) := by rw [mC_138]; decide +kernel
theorem d138_731 : decode (mC 138) 731 = .ok (.invokevirtual 58, 3) := by rw [mC_138]; decide +kernel
theorem d138_734 : decode (mC 138) 734 = .ok (.iload 5, 2) := by rw [mC_138]; decide +kernel
theorem d138_736 : decode (mC 138) 736 = .ok (.if_icmp .eq 5, 3) := by rw [mC_138]; decide +kernel
theorem d138_739 : decode (mC 138) 739 = .ok (.iconst 0, 1) := by rw [mC_138]; decide +kernel
theorem d138_740 : decode (mC 138) 740 = .ok (.ireturn, 1) := by rw [mC_138]; decide +kernel
theorem d138_741 : decode (mC 138) 741 = .ok (.iload 5, 2) := by rw [mC_138]; decide +kernel
theorem d138_743 : decode (mC 138) 743 = .ok (.ifCond .ne 15, 3) := by rw [mC_138]; decide +kernel
theorem d138_746 : decode (mC 138) 746 = .ok (.aload_n 3, 1) := by rw [mC_138]; decide +kernel
theorem d138_747 : decode (mC 138) 747 = .ok (.iconst 0, 1) := by rw [mC_138]; decide +kernel
theorem d138_748 : decode (mC 138) 748 = .ok (.laload, 1) := by rw [mC_138]; decide +kernel
theorem d138_749 : decode (mC 138) 749 = .ok (.iload 6, 2) := by rw [mC_138]; decide +kernel
theorem d138_751 : decode (mC 138) 751 = .ok (.i2l, 1) := by rw [mC_138]; decide +kernel
theorem d138_752 : decode (mC 138) 752 = .ok (.lcmp, 1) := by rw [mC_138]; decide +kernel
theorem d138_753 : decode (mC 138) 753 = .ok (.ifCond .eq 5, 3) := by rw [mC_138]; decide +kernel
theorem d138_756 : decode (mC 138) 756 = .ok (.iconst 0, 1) := by rw [mC_138]; decide +kernel
theorem d138_757 : decode (mC 138) 757 = .ok (.ireturn, 1) := by rw [mC_138]; decide +kernel
theorem d138_758 : decode (mC 138) 758 = .ok (.goto 3, 3) := by rw [mC_138]; decide +kernel
theorem d138_761 : decode (mC 138) 761 = .ok (.iinc 4 7, 3) := by rw [mC_138]; decide +kernel
theorem d138_764 : decode (mC 138) 764 = .ok (.goto (-741), 3) := by rw [mC_138]; decide +kernel
theorem d138_767 : decode (mC 138) 767 = .ok (.iconst 1, 1) := by rw [mC_138]; decide +kernel
theorem d138_768 : decode (mC 138) 768 = .ok (.ireturn, 1) := by rw [mC_138]; decide +kernel
theorem s138_0 {S : Nat × (Nat → Int32)} {L : List (Option Value)} {st : List Value} {n : Nat} {Q : xQ} {μ : xM}  (hs : x_sh n = (0, 3)) (hn : n < x_NM) (h : x_V S 138 3 L (.ref n :: st) (x_nw μ n (fun i => defaultValue (xt0 i))) (n + 1) Q) : x_V S 138 0 L (st) μ n Q := x_new cf0 d138_0 w20 hs hn h
theorem s138_3 {S : Nat × (Nat → Int32)} {L : List (Option Value)} {st : List Value} {n : Nat} {Q : xQ} {μ : xM} {v : Value} (hc : v.category = 1) (h : x_V S 138 4 L (v :: v :: st) μ n Q) : x_V S 138 3 L (v :: st) μ n Q := x_dup hc d138_3 h
theorem s138_4 {S : Nat × (Nat → Int32)} {L : List (Option Value)} {st : List Value} {n : Nat} {Q : xQ} {μ : xM}  {a : Nat} (hst : st.length ≤ 4) (h : x_V S 69 0 [some (.ref a)] [] μ n (x_bk S 138 4 L st Q)) : x_V S 138 4 L (.ref a :: st) μ n Q := x_callI (k' := 69) (as := []) (na := 0) d138_4 ⟨w24, by decide +kernel, by decide, by decide, by decide, by decide, by decide⟩ rfl rfl rfl w22 w23 (by decide +kernel) rfl (fun v hv => by
    cases hv) hst h
theorem s138_7 {S : Nat × (Nat → Int32)} {L : List (Option Value)} {st : List Value} {n : Nat} {Q : xQ} {μ : xM} {a : Nat} (h : x_V S 138 8 (L.set 1 (some (.ref a))) (st) μ n Q) : x_V S 138 7 L (.ref a :: st) μ n Q := x_astore_n d138_7 (by decide) h
theorem s138_7N {S : Nat × (Nat → Int32)} {L : List (Option Value)} {st : List Value} {n : Nat} {Q : xQ} {μ : xM} (h : x_V S 138 8 (L.set 1 (some .null)) (st) μ n Q) : x_V S 138 7 L (.null :: st) μ n Q := x_astore_nN d138_7 (by decide) h
theorem s138_8 {S : Nat × (Nat → Int32)} {L : List (Option Value)} {st : List Value} {n : Nat} {Q : xQ} {μ : xM}  (hs : x_sh n = (9, 39)) (hn : n < x_NM) (h : x_V S 138 11 L (.ref n :: st) (x_nw μ n (fun i => defaultValue (xt9 i))) (n + 1) Q) : x_V S 138 8 L (st) μ n Q := x_new cf9 d138_8 w689 hs hn h
theorem s138_11 {S : Nat × (Nat → Int32)} {L : List (Option Value)} {st : List Value} {n : Nat} {Q : xQ} {μ : xM} {v : Value} (hc : v.category = 1) (h : x_V S 138 12 L (v :: v :: st) μ n Q) : x_V S 138 11 L (v :: st) μ n Q := x_dup hc d138_11 h
theorem s138_12 {S : Nat × (Nat → Int32)} {L : List (Option Value)} {st : List Value} {n : Nat} {Q : xQ} {μ : xM}  {a : Nat} (hst : st.length ≤ 4) (h : x_V S 83 0 [some (.ref a)] [] μ n (x_bk S 138 12 L st Q)) : x_V S 138 12 L (.ref a :: st) μ n Q := x_callI (k' := 83) (as := []) (na := 0) d138_12 ⟨w693, by decide +kernel, by decide, by decide, by decide, by decide, by decide⟩ rfl rfl rfl w691 w692 (by decide +kernel) rfl (fun v hv => by
    cases hv) hst h
theorem s138_15 {S : Nat × (Nat → Int32)} {L : List (Option Value)} {st : List Value} {n : Nat} {Q : xQ} {μ : xM} {a : Nat} (h : x_V S 138 16 (L.set 2 (some (.ref a))) (st) μ n Q) : x_V S 138 15 L (.ref a :: st) μ n Q := x_astore_n d138_15 (by decide) h
theorem s138_15N {S : Nat × (Nat → Int32)} {L : List (Option Value)} {st : List Value} {n : Nat} {Q : xQ} {μ : xM} (h : x_V S 138 16 (L.set 2 (some .null)) (st) μ n Q) : x_V S 138 15 L (.null :: st) μ n Q := x_astore_nN d138_15 (by decide) h
theorem s138_16 {S : Nat × (Nat → Int32)} {L : List (Option Value)} {st : List Value} {n : Nat} {Q : xQ} {μ : xM}  (h : x_V S 138 17 L (.int (I 1) :: st) μ n Q) : x_V S 138 16 L (st) μ n Q := x_iconst (by decide +kernel) d138_16 h
theorem s138_17 {S : Nat × (Nat → Int32)} {L : List (Option Value)} {st : List Value} {n : Nat} {Q : xQ} {μ : xM} {N : Nat} {i : Int32} (hs : x_sh n = (102, N)) (hi : ¬ i < 0) (hN : i.toNatClampNeg = N) (hb : N ≤ 8000) (hn : n < x_NM) (h : x_V S 138 19 L (.ref n :: st) (x_nw μ n (fun _ => defaultValue (x_ty 102))) (n + 1) Q) : x_V S 138 17 L (.int i :: st) μ n Q := x_newa (kd := 102) d138_17 w989 rfl (by decide) hs hi hN (Nat.le_trans (Nat.mul_le_mul_right _ hb) (by decide)) hn h
theorem s138_19 {S : Nat × (Nat → Int32)} {L : List (Option Value)} {st : List Value} {n : Nat} {Q : xQ} {μ : xM} {a : Nat} (h : x_V S 138 20 (L.set 3 (some (.ref a))) (st) μ n Q) : x_V S 138 19 L (.ref a :: st) μ n Q := x_astore_n d138_19 (by decide) h
theorem s138_19N {S : Nat × (Nat → Int32)} {L : List (Option Value)} {st : List Value} {n : Nat} {Q : xQ} {μ : xM} (h : x_V S 138 20 (L.set 3 (some .null)) (st) μ n Q) : x_V S 138 19 L (.null :: st) μ n Q := x_astore_nN d138_19 (by decide) h
theorem s138_20 {S : Nat × (Nat → Int32)} {L : List (Option Value)} {st : List Value} {n : Nat} {Q : xQ} {μ : xM}  (h : x_V S 138 21 L (.int (I 0) :: st) μ n Q) : x_V S 138 20 L (st) μ n Q := x_iconst (by decide +kernel) d138_20 h
theorem s138_21 {S : Nat × (Nat → Int32)} {L : List (Option Value)} {st : List Value} {n : Nat} {Q : xQ} {μ : xM} {x : Int32} (h : x_V S 138 23 (L.set 4 (some (.int x))) (st) μ n Q) : x_V S 138 21 L (.int x :: st) μ n Q := x_istore d138_21 (by decide) h
theorem s138_23 {S : Nat × (Nat → Int32)} {L : List (Option Value)} {st : List Value} {n : Nat} {Q : xQ} {μ : xM} {x : Int32} (hl : L[4]? = some (some (.int x))) (h : x_V S 138 25 L (.int x :: st) μ n Q) : x_V S 138 23 L (st) μ n Q := x_iload d138_23 hl h
theorem s138_25 {S : Nat × (Nat → Int32)} {L : List (Option Value)} {st : List Value} {n : Nat} {Q : xQ} {μ : xM} {a : Nat} (hl : L[0]? = some (some (.ref a))) (h : x_V S 138 26 L (.ref a :: st) μ n Q) : x_V S 138 25 L (st) μ n Q := x_aload_n d138_25 hl h
theorem s138_25N {S : Nat × (Nat → Int32)} {L : List (Option Value)} {st : List Value} {n : Nat} {Q : xQ} {μ : xM} (hl : L[0]? = some (some .null)) (h : x_V S 138 26 L (.null :: st) μ n Q) : x_V S 138 25 L st μ n Q := x_aload_nN d138_25 hl h
theorem s138_27 {S : Nat × (Nat → Int32)} {L : List (Option Value)} {st : List Value} {n : Nat} {Q : xQ} {μ : xM}  (h : x_V S 138 29 L (.int (I 7) :: st) μ n Q) : x_V S 138 27 L (st) μ n Q := x_bipush (by decide +kernel) d138_27 h
theorem s138_29 {S : Nat × (Nat → Int32)} {L : List (Option Value)} {st : List Value} {n : Nat} {Q : xQ} {μ : xM} {x y : Int} (h : x_V S 138 30 L (.int (I (x - y)) :: st) μ n Q) : x_V S 138 29 L (.int (I y) :: .int (I x) :: st) μ n Q := v_isub d138_29 h
theorem s138_30 {S : Nat × (Nat → Int32)} {L : List (Option Value)} {st : List Value} {n : Nat} {Q : xQ} {μ : xM} {x y : Int} (hx : ib x) (hy : ib y) (kt : y < x → x_V S 138 767 L (st) μ n Q) (kf : x ≤ y → x_V S 138 33 L (st) μ n Q) : x_V S 138 30 L (.int (I y) :: .int (I x) :: st) μ n Q := v_icmp_gt d138_30 (by decide) hx hy kt kf
theorem s138_33 {S : Nat × (Nat → Int32)} {L : List (Option Value)} {st : List Value} {n : Nat} {Q : xQ} {μ : xM} {a : Nat} (hl : L[0]? = some (some (.ref a))) (h : x_V S 138 34 L (.ref a :: st) μ n Q) : x_V S 138 33 L (st) μ n Q := x_aload_n d138_33 hl h
theorem s138_33N {S : Nat × (Nat → Int32)} {L : List (Option Value)} {st : List Value} {n : Nat} {Q : xQ} {μ : xM} (hl : L[0]? = some (some .null)) (h : x_V S 138 34 L (.null :: st) μ n Q) : x_V S 138 33 L st μ n Q := x_aload_nN d138_33 hl h
theorem s138_34 {S : Nat × (Nat → Int32)} {L : List (Option Value)} {st : List Value} {n : Nat} {Q : xQ} {μ : xM} {x : Int32} (hl : L[4]? = some (some (.int x))) (h : x_V S 138 36 L (.int x :: st) μ n Q) : x_V S 138 34 L (st) μ n Q := x_iload d138_34 hl h
theorem s138_37 {S : Nat × (Nat → Int32)} {L : List (Option Value)} {st : List Value} {n : Nat} {Q : xQ} {μ : xM}  (h : x_V S 138 39 L (.int (I 15) :: st) μ n Q) : x_V S 138 37 L (st) μ n Q := x_bipush (by decide +kernel) d138_37 h
theorem s138_39 {S : Nat × (Nat → Int32)} {L : List (Option Value)} {st : List Value} {n : Nat} {Q : xQ} {μ : xM} {x y : Int32} (h : x_V S 138 40 L (.int (x &&& y) :: st) μ n Q) : x_V S 138 39 L (.int y :: .int x :: st) μ n Q := x_iand d138_39 h
theorem s138_104 {S : Nat × (Nat → Int32)} {L : List (Option Value)} {st : List Value} {n : Nat} {Q : xQ} {μ : xM} {a : Nat} (hl : L[1]? = some (some (.ref a))) (h : x_V S 138 105 L (.ref a :: st) μ n Q) : x_V S 138 104 L (st) μ n Q := x_aload_n d138_104 hl h
theorem s138_104N {S : Nat × (Nat → Int32)} {L : List (Option Value)} {st : List Value} {n : Nat} {Q : xQ} {μ : xM} (hl : L[1]? = some (some .null)) (h : x_V S 138 105 L (.null :: st) μ n Q) : x_V S 138 104 L st μ n Q := x_aload_nN d138_104 hl h
theorem s138_105 {S : Nat × (Nat → Int32)} {L : List (Option Value)} {st : List Value} {n : Nat} {Q : xQ} {μ : xM} {a : Nat} (hl : L[0]? = some (some (.ref a))) (h : x_V S 138 106 L (.ref a :: st) μ n Q) : x_V S 138 105 L (st) μ n Q := x_aload_n d138_105 hl h
theorem s138_105N {S : Nat × (Nat → Int32)} {L : List (Option Value)} {st : List Value} {n : Nat} {Q : xQ} {μ : xM} (hl : L[0]? = some (some .null)) (h : x_V S 138 106 L (.null :: st) μ n Q) : x_V S 138 105 L st μ n Q := x_aload_nN d138_105 hl h
theorem s138_106 {S : Nat × (Nat → Int32)} {L : List (Option Value)} {st : List Value} {n : Nat} {Q : xQ} {μ : xM} {x : Int32} (hl : L[4]? = some (some (.int x))) (h : x_V S 138 108 L (.int x :: st) μ n Q) : x_V S 138 106 L (st) μ n Q := x_iload d138_106 hl h
theorem s138_108 {S : Nat × (Nat → Int32)} {L : List (Option Value)} {st : List Value} {n : Nat} {Q : xQ} {μ : xM}  (h : x_V S 138 109 L (.int (I 1) :: st) μ n Q) : x_V S 138 108 L (st) μ n Q := x_iconst (by decide +kernel) d138_108 h
theorem s138_109 {S : Nat × (Nat → Int32)} {L : List (Option Value)} {st : List Value} {n : Nat} {Q : xQ} {μ : xM} {x y : Int} (h : x_V S 138 110 L (.int (I (x + y)) :: st) μ n Q) : x_V S 138 109 L (.int (I y) :: .int (I x) :: st) μ n Q := v_iadd d138_109 h
theorem s138_111 {S : Nat × (Nat → Int32)} {L : List (Option Value)} {st : List Value} {n : Nat} {Q : xQ} {μ : xM} {a : Nat} (hl : L[0]? = some (some (.ref a))) (h : x_V S 138 112 L (.ref a :: st) μ n Q) : x_V S 138 111 L (st) μ n Q := x_aload_n d138_111 hl h
theorem s138_111N {S : Nat × (Nat → Int32)} {L : List (Option Value)} {st : List Value} {n : Nat} {Q : xQ} {μ : xM} (hl : L[0]? = some (some .null)) (h : x_V S 138 112 L (.null :: st) μ n Q) : x_V S 138 111 L st μ n Q := x_aload_nN d138_111 hl h
theorem s138_112 {S : Nat × (Nat → Int32)} {L : List (Option Value)} {st : List Value} {n : Nat} {Q : xQ} {μ : xM} {x : Int32} (hl : L[4]? = some (some (.int x))) (h : x_V S 138 114 L (.int x :: st) μ n Q) : x_V S 138 112 L (st) μ n Q := x_iload d138_112 hl h
theorem s138_114 {S : Nat × (Nat → Int32)} {L : List (Option Value)} {st : List Value} {n : Nat} {Q : xQ} {μ : xM}  (h : x_V S 138 115 L (.int (I 2) :: st) μ n Q) : x_V S 138 114 L (st) μ n Q := x_iconst (by decide +kernel) d138_114 h
theorem s138_115 {S : Nat × (Nat → Int32)} {L : List (Option Value)} {st : List Value} {n : Nat} {Q : xQ} {μ : xM} {x y : Int} (h : x_V S 138 116 L (.int (I (x + y)) :: st) μ n Q) : x_V S 138 115 L (.int (I y) :: .int (I x) :: st) μ n Q := v_iadd d138_115 h
theorem s138_117 {S : Nat × (Nat → Int32)} {L : List (Option Value)} {st : List Value} {n : Nat} {Q : xQ} {μ : xM} {a : Nat} (hl : L[0]? = some (some (.ref a))) (h : x_V S 138 118 L (.ref a :: st) μ n Q) : x_V S 138 117 L (st) μ n Q := x_aload_n d138_117 hl h
theorem s138_117N {S : Nat × (Nat → Int32)} {L : List (Option Value)} {st : List Value} {n : Nat} {Q : xQ} {μ : xM} (hl : L[0]? = some (some .null)) (h : x_V S 138 118 L (.null :: st) μ n Q) : x_V S 138 117 L st μ n Q := x_aload_nN d138_117 hl h
theorem s138_118 {S : Nat × (Nat → Int32)} {L : List (Option Value)} {st : List Value} {n : Nat} {Q : xQ} {μ : xM} {x : Int32} (hl : L[4]? = some (some (.int x))) (h : x_V S 138 120 L (.int x :: st) μ n Q) : x_V S 138 118 L (st) μ n Q := x_iload d138_118 hl h
theorem s138_120 {S : Nat × (Nat → Int32)} {L : List (Option Value)} {st : List Value} {n : Nat} {Q : xQ} {μ : xM}  (h : x_V S 138 121 L (.int (I 3) :: st) μ n Q) : x_V S 138 120 L (st) μ n Q := x_iconst (by decide +kernel) d138_120 h
theorem s138_121 {S : Nat × (Nat → Int32)} {L : List (Option Value)} {st : List Value} {n : Nat} {Q : xQ} {μ : xM} {x y : Int} (h : x_V S 138 122 L (.int (I (x + y)) :: st) μ n Q) : x_V S 138 121 L (.int (I y) :: .int (I x) :: st) μ n Q := v_iadd d138_121 h
theorem s138_123 {S : Nat × (Nat → Int32)} {L : List (Option Value)} {st : List Value} {n : Nat} {Q : xQ} {μ : xM} {x : Int} (hx : ib x) (kt : x = 0 → x_V S 138 130 L (st) μ n Q) (kf : x ≠ 0 → x_V S 138 126 L (st) μ n Q) : x_V S 138 123 L (.int (I x) :: st) μ n Q := v_if_eq d138_123 (by decide) hx kt kf
theorem s138_126 {S : Nat × (Nat → Int32)} {L : List (Option Value)} {st : List Value} {n : Nat} {Q : xQ} {μ : xM}  (h : x_V S 138 127 L (.int (I 1) :: st) μ n Q) : x_V S 138 126 L (st) μ n Q := x_iconst (by decide +kernel) d138_126 h
theorem s138_127 {S : Nat × (Nat → Int32)} {L : List (Option Value)} {st : List Value} {n : Nat} {Q : xQ} {μ : xM}  (h : x_V S 138 131 L (st) μ n Q) : x_V S 138 127 L (st) μ n Q := x_goto (tgt := 131) (by decide) d138_127 h
theorem s138_130 {S : Nat × (Nat → Int32)} {L : List (Option Value)} {st : List Value} {n : Nat} {Q : xQ} {μ : xM}  (h : x_V S 138 131 L (.int (I 0) :: st) μ n Q) : x_V S 138 130 L (st) μ n Q := x_iconst (by decide +kernel) d138_130 h
theorem s138_131 {S : Nat × (Nat → Int32)} {L : List (Option Value)} {st : List Value} {n : Nat} {Q : xQ} {μ : xM} {a : Nat} (hl : L[0]? = some (some (.ref a))) (h : x_V S 138 132 L (.ref a :: st) μ n Q) : x_V S 138 131 L (st) μ n Q := x_aload_n d138_131 hl h
theorem s138_131N {S : Nat × (Nat → Int32)} {L : List (Option Value)} {st : List Value} {n : Nat} {Q : xQ} {μ : xM} (hl : L[0]? = some (some .null)) (h : x_V S 138 132 L (.null :: st) μ n Q) : x_V S 138 131 L st μ n Q := x_aload_nN d138_131 hl h
theorem s138_132 {S : Nat × (Nat → Int32)} {L : List (Option Value)} {st : List Value} {n : Nat} {Q : xQ} {μ : xM} {x : Int32} (hl : L[4]? = some (some (.int x))) (h : x_V S 138 134 L (.int x :: st) μ n Q) : x_V S 138 132 L (st) μ n Q := x_iload d138_132 hl h
theorem s138_134 {S : Nat × (Nat → Int32)} {L : List (Option Value)} {st : List Value} {n : Nat} {Q : xQ} {μ : xM}  (h : x_V S 138 135 L (.int (I 4) :: st) μ n Q) : x_V S 138 134 L (st) μ n Q := x_iconst (by decide +kernel) d138_134 h
theorem s138_135 {S : Nat × (Nat → Int32)} {L : List (Option Value)} {st : List Value} {n : Nat} {Q : xQ} {μ : xM} {x y : Int} (h : x_V S 138 136 L (.int (I (x + y)) :: st) μ n Q) : x_V S 138 135 L (.int (I y) :: .int (I x) :: st) μ n Q := v_iadd d138_135 h
theorem s138_137 {S : Nat × (Nat → Int32)} {L : List (Option Value)} {st : List Value} {n : Nat} {Q : xQ} {μ : xM} {a : Nat} (hl : L[0]? = some (some (.ref a))) (h : x_V S 138 138 L (.ref a :: st) μ n Q) : x_V S 138 137 L (st) μ n Q := x_aload_n d138_137 hl h
theorem s138_137N {S : Nat × (Nat → Int32)} {L : List (Option Value)} {st : List Value} {n : Nat} {Q : xQ} {μ : xM} (hl : L[0]? = some (some .null)) (h : x_V S 138 138 L (.null :: st) μ n Q) : x_V S 138 137 L st μ n Q := x_aload_nN d138_137 hl h
theorem s138_138 {S : Nat × (Nat → Int32)} {L : List (Option Value)} {st : List Value} {n : Nat} {Q : xQ} {μ : xM} {x : Int32} (hl : L[4]? = some (some (.int x))) (h : x_V S 138 140 L (.int x :: st) μ n Q) : x_V S 138 138 L (st) μ n Q := x_iload d138_138 hl h
theorem s138_140 {S : Nat × (Nat → Int32)} {L : List (Option Value)} {st : List Value} {n : Nat} {Q : xQ} {μ : xM}  (h : x_V S 138 141 L (.int (I 5) :: st) μ n Q) : x_V S 138 140 L (st) μ n Q := x_iconst (by decide +kernel) d138_140 h
theorem s138_141 {S : Nat × (Nat → Int32)} {L : List (Option Value)} {st : List Value} {n : Nat} {Q : xQ} {μ : xM} {x y : Int} (h : x_V S 138 142 L (.int (I (x + y)) :: st) μ n Q) : x_V S 138 141 L (.int (I y) :: .int (I x) :: st) μ n Q := v_iadd d138_141 h
theorem s138_143 {S : Nat × (Nat → Int32)} {L : List (Option Value)} {st : List Value} {n : Nat} {Q : xQ} {μ : xM} {a : Nat} (hl : L[0]? = some (some (.ref a))) (h : x_V S 138 144 L (.ref a :: st) μ n Q) : x_V S 138 143 L (st) μ n Q := x_aload_n d138_143 hl h
theorem s138_143N {S : Nat × (Nat → Int32)} {L : List (Option Value)} {st : List Value} {n : Nat} {Q : xQ} {μ : xM} (hl : L[0]? = some (some .null)) (h : x_V S 138 144 L (.null :: st) μ n Q) : x_V S 138 143 L st μ n Q := x_aload_nN d138_143 hl h
theorem s138_144 {S : Nat × (Nat → Int32)} {L : List (Option Value)} {st : List Value} {n : Nat} {Q : xQ} {μ : xM} {x : Int32} (hl : L[4]? = some (some (.int x))) (h : x_V S 138 146 L (.int x :: st) μ n Q) : x_V S 138 144 L (st) μ n Q := x_iload d138_144 hl h
theorem s138_146 {S : Nat × (Nat → Int32)} {L : List (Option Value)} {st : List Value} {n : Nat} {Q : xQ} {μ : xM}  (h : x_V S 138 148 L (.int (I 6) :: st) μ n Q) : x_V S 138 146 L (st) μ n Q := x_bipush (by decide +kernel) d138_146 h
theorem s138_148 {S : Nat × (Nat → Int32)} {L : List (Option Value)} {st : List Value} {n : Nat} {Q : xQ} {μ : xM} {x y : Int} (h : x_V S 138 149 L (.int (I (x + y)) :: st) μ n Q) : x_V S 138 148 L (.int (I y) :: .int (I x) :: st) μ n Q := v_iadd d138_148 h
theorem s138_150 {S : Nat × (Nat → Int32)} {L : List (Option Value)} {st : List Value} {n : Nat} {Q : xQ} {μ : xM} {a : Nat} (hl : L[3]? = some (some (.ref a))) (h : x_V S 138 151 L (.ref a :: st) μ n Q) : x_V S 138 150 L (st) μ n Q := x_aload_n d138_150 hl h
theorem s138_150N {S : Nat × (Nat → Int32)} {L : List (Option Value)} {st : List Value} {n : Nat} {Q : xQ} {μ : xM} (hl : L[3]? = some (some .null)) (h : x_V S 138 151 L (.null :: st) μ n Q) : x_V S 138 150 L st μ n Q := x_aload_nN d138_150 hl h
theorem s138_151 {S : Nat × (Nat → Int32)} {L : List (Option Value)} {st : List Value} {n : Nat} {Q : xQ} {μ : xM} {v0 : Value} (hc0 : v0.category = 1) {x1 : Int32} {x2 : Int32} {x3 : Int32} {x4 : Int32} {x5 : Int32} {x6 : Int32} {v7 : Value} (hc7 : v7.category = 1) (hst : st.length ≤ 4) (h : x_V S 129 0 [some (v0), some (.int x1), some (.int x2), some (.int x3), some (.int x4), some (.int x5), some (.int x6), some (v7), none] [] μ n (x_bk S 138 151 L st Q)) : x_V S 138 151 L (v7 :: .int x6 :: .int x5 :: .int x4 :: .int x3 :: .int x2 :: .int x1 :: v0 :: st) μ n Q := x_callS (k' := 129) (as := [v0, .int x1, .int x2, .int x3, .int x4, .int x5, .int x6, v7]) (na := 8) d138_151 ⟨w288, by decide +kernel, by decide, by decide, by decide, by decide, by decide⟩ w286 w287 w0 (by decide +kernel) rfl (fun v hv => by
    simp only [List.mem_cons, List.not_mem_nil, or_false] at hv
    rcases hv with rfl | rfl | rfl | rfl | rfl | rfl | rfl | rfl <;> first | rfl | assumption) hst h
theorem s138_154 {S : Nat × (Nat → Int32)} {L : List (Option Value)} {st : List Value} {n : Nat} {Q : xQ} {μ : xM} {x : Int32} (h : x_V S 138 156 (L.set 5 (some (.int x))) (st) μ n Q) : x_V S 138 154 L (.int x :: st) μ n Q := x_istore d138_154 (by decide) h
theorem s138_156 {S : Nat × (Nat → Int32)} {L : List (Option Value)} {st : List Value} {n : Nat} {Q : xQ} {μ : xM} {a : Nat} (hl : L[2]? = some (some (.ref a))) (h : x_V S 138 157 L (.ref a :: st) μ n Q) : x_V S 138 156 L (st) μ n Q := x_aload_n d138_156 hl h
theorem s138_156N {S : Nat × (Nat → Int32)} {L : List (Option Value)} {st : List Value} {n : Nat} {Q : xQ} {μ : xM} (hl : L[2]? = some (some .null)) (h : x_V S 138 157 L (.null :: st) μ n Q) : x_V S 138 156 L st μ n Q := x_aload_nN d138_156 hl h
theorem s138_157 {S : Nat × (Nat → Int32)} {L : List (Option Value)} {st : List Value} {n : Nat} {Q : xQ} {μ : xM} {a : Nat} (hl : L[0]? = some (some (.ref a))) (h : x_V S 138 158 L (.ref a :: st) μ n Q) : x_V S 138 157 L (st) μ n Q := x_aload_n d138_157 hl h
theorem s138_157N {S : Nat × (Nat → Int32)} {L : List (Option Value)} {st : List Value} {n : Nat} {Q : xQ} {μ : xM} (hl : L[0]? = some (some .null)) (h : x_V S 138 158 L (.null :: st) μ n Q) : x_V S 138 157 L st μ n Q := x_aload_nN d138_157 hl h
theorem s138_158 {S : Nat × (Nat → Int32)} {L : List (Option Value)} {st : List Value} {n : Nat} {Q : xQ} {μ : xM} {x : Int32} (hl : L[4]? = some (some (.int x))) (h : x_V S 138 160 L (.int x :: st) μ n Q) : x_V S 138 158 L (st) μ n Q := x_iload d138_158 hl h
theorem s138_160 {S : Nat × (Nat → Int32)} {L : List (Option Value)} {st : List Value} {n : Nat} {Q : xQ} {μ : xM}  (h : x_V S 138 161 L (.int (I 1) :: st) μ n Q) : x_V S 138 160 L (st) μ n Q := x_iconst (by decide +kernel) d138_160 h
theorem s138_161 {S : Nat × (Nat → Int32)} {L : List (Option Value)} {st : List Value} {n : Nat} {Q : xQ} {μ : xM} {x y : Int} (h : x_V S 138 162 L (.int (I (x + y)) :: st) μ n Q) : x_V S 138 161 L (.int (I y) :: .int (I x) :: st) μ n Q := v_iadd d138_161 h
theorem s138_163 {S : Nat × (Nat → Int32)} {L : List (Option Value)} {st : List Value} {n : Nat} {Q : xQ} {μ : xM} {a : Nat} (hl : L[0]? = some (some (.ref a))) (h : x_V S 138 164 L (.ref a :: st) μ n Q) : x_V S 138 163 L (st) μ n Q := x_aload_n d138_163 hl h
theorem s138_163N {S : Nat × (Nat → Int32)} {L : List (Option Value)} {st : List Value} {n : Nat} {Q : xQ} {μ : xM} (hl : L[0]? = some (some .null)) (h : x_V S 138 164 L (.null :: st) μ n Q) : x_V S 138 163 L st μ n Q := x_aload_nN d138_163 hl h
theorem s138_164 {S : Nat × (Nat → Int32)} {L : List (Option Value)} {st : List Value} {n : Nat} {Q : xQ} {μ : xM} {x : Int32} (hl : L[4]? = some (some (.int x))) (h : x_V S 138 166 L (.int x :: st) μ n Q) : x_V S 138 164 L (st) μ n Q := x_iload d138_164 hl h
theorem s138_166 {S : Nat × (Nat → Int32)} {L : List (Option Value)} {st : List Value} {n : Nat} {Q : xQ} {μ : xM}  (h : x_V S 138 167 L (.int (I 2) :: st) μ n Q) : x_V S 138 166 L (st) μ n Q := x_iconst (by decide +kernel) d138_166 h
theorem s138_167 {S : Nat × (Nat → Int32)} {L : List (Option Value)} {st : List Value} {n : Nat} {Q : xQ} {μ : xM} {x y : Int} (h : x_V S 138 168 L (.int (I (x + y)) :: st) μ n Q) : x_V S 138 167 L (.int (I y) :: .int (I x) :: st) μ n Q := v_iadd d138_167 h
theorem s138_169 {S : Nat × (Nat → Int32)} {L : List (Option Value)} {st : List Value} {n : Nat} {Q : xQ} {μ : xM} {a : Nat} (hl : L[0]? = some (some (.ref a))) (h : x_V S 138 170 L (.ref a :: st) μ n Q) : x_V S 138 169 L (st) μ n Q := x_aload_n d138_169 hl h
theorem s138_169N {S : Nat × (Nat → Int32)} {L : List (Option Value)} {st : List Value} {n : Nat} {Q : xQ} {μ : xM} (hl : L[0]? = some (some .null)) (h : x_V S 138 170 L (.null :: st) μ n Q) : x_V S 138 169 L st μ n Q := x_aload_nN d138_169 hl h
theorem s138_170 {S : Nat × (Nat → Int32)} {L : List (Option Value)} {st : List Value} {n : Nat} {Q : xQ} {μ : xM} {x : Int32} (hl : L[4]? = some (some (.int x))) (h : x_V S 138 172 L (.int x :: st) μ n Q) : x_V S 138 170 L (st) μ n Q := x_iload d138_170 hl h
theorem s138_172 {S : Nat × (Nat → Int32)} {L : List (Option Value)} {st : List Value} {n : Nat} {Q : xQ} {μ : xM}  (h : x_V S 138 173 L (.int (I 3) :: st) μ n Q) : x_V S 138 172 L (st) μ n Q := x_iconst (by decide +kernel) d138_172 h
theorem s138_173 {S : Nat × (Nat → Int32)} {L : List (Option Value)} {st : List Value} {n : Nat} {Q : xQ} {μ : xM} {x y : Int} (h : x_V S 138 174 L (.int (I (x + y)) :: st) μ n Q) : x_V S 138 173 L (.int (I y) :: .int (I x) :: st) μ n Q := v_iadd d138_173 h
theorem s138_175 {S : Nat × (Nat → Int32)} {L : List (Option Value)} {st : List Value} {n : Nat} {Q : xQ} {μ : xM} {x : Int} (hx : ib x) (kt : x = 0 → x_V S 138 182 L (st) μ n Q) (kf : x ≠ 0 → x_V S 138 178 L (st) μ n Q) : x_V S 138 175 L (.int (I x) :: st) μ n Q := v_if_eq d138_175 (by decide) hx kt kf
theorem s138_178 {S : Nat × (Nat → Int32)} {L : List (Option Value)} {st : List Value} {n : Nat} {Q : xQ} {μ : xM}  (h : x_V S 138 179 L (.int (I 1) :: st) μ n Q) : x_V S 138 178 L (st) μ n Q := x_iconst (by decide +kernel) d138_178 h
theorem s138_179 {S : Nat × (Nat → Int32)} {L : List (Option Value)} {st : List Value} {n : Nat} {Q : xQ} {μ : xM}  (h : x_V S 138 183 L (st) μ n Q) : x_V S 138 179 L (st) μ n Q := x_goto (tgt := 183) (by decide) d138_179 h
theorem s138_182 {S : Nat × (Nat → Int32)} {L : List (Option Value)} {st : List Value} {n : Nat} {Q : xQ} {μ : xM}  (h : x_V S 138 183 L (.int (I 0) :: st) μ n Q) : x_V S 138 182 L (st) μ n Q := x_iconst (by decide +kernel) d138_182 h
theorem s138_183 {S : Nat × (Nat → Int32)} {L : List (Option Value)} {st : List Value} {n : Nat} {Q : xQ} {μ : xM} {a : Nat} (hl : L[0]? = some (some (.ref a))) (h : x_V S 138 184 L (.ref a :: st) μ n Q) : x_V S 138 183 L (st) μ n Q := x_aload_n d138_183 hl h
theorem s138_183N {S : Nat × (Nat → Int32)} {L : List (Option Value)} {st : List Value} {n : Nat} {Q : xQ} {μ : xM} (hl : L[0]? = some (some .null)) (h : x_V S 138 184 L (.null :: st) μ n Q) : x_V S 138 183 L st μ n Q := x_aload_nN d138_183 hl h
theorem s138_184 {S : Nat × (Nat → Int32)} {L : List (Option Value)} {st : List Value} {n : Nat} {Q : xQ} {μ : xM} {x : Int32} (hl : L[4]? = some (some (.int x))) (h : x_V S 138 186 L (.int x :: st) μ n Q) : x_V S 138 184 L (st) μ n Q := x_iload d138_184 hl h
theorem s138_186 {S : Nat × (Nat → Int32)} {L : List (Option Value)} {st : List Value} {n : Nat} {Q : xQ} {μ : xM}  (h : x_V S 138 187 L (.int (I 4) :: st) μ n Q) : x_V S 138 186 L (st) μ n Q := x_iconst (by decide +kernel) d138_186 h
theorem s138_187 {S : Nat × (Nat → Int32)} {L : List (Option Value)} {st : List Value} {n : Nat} {Q : xQ} {μ : xM} {x y : Int} (h : x_V S 138 188 L (.int (I (x + y)) :: st) μ n Q) : x_V S 138 187 L (.int (I y) :: .int (I x) :: st) μ n Q := v_iadd d138_187 h
theorem s138_189 {S : Nat × (Nat → Int32)} {L : List (Option Value)} {st : List Value} {n : Nat} {Q : xQ} {μ : xM} {a : Nat} (hl : L[0]? = some (some (.ref a))) (h : x_V S 138 190 L (.ref a :: st) μ n Q) : x_V S 138 189 L (st) μ n Q := x_aload_n d138_189 hl h
theorem s138_189N {S : Nat × (Nat → Int32)} {L : List (Option Value)} {st : List Value} {n : Nat} {Q : xQ} {μ : xM} (hl : L[0]? = some (some .null)) (h : x_V S 138 190 L (.null :: st) μ n Q) : x_V S 138 189 L st μ n Q := x_aload_nN d138_189 hl h
theorem s138_190 {S : Nat × (Nat → Int32)} {L : List (Option Value)} {st : List Value} {n : Nat} {Q : xQ} {μ : xM} {x : Int32} (hl : L[4]? = some (some (.int x))) (h : x_V S 138 192 L (.int x :: st) μ n Q) : x_V S 138 190 L (st) μ n Q := x_iload d138_190 hl h
theorem s138_192 {S : Nat × (Nat → Int32)} {L : List (Option Value)} {st : List Value} {n : Nat} {Q : xQ} {μ : xM}  (h : x_V S 138 193 L (.int (I 5) :: st) μ n Q) : x_V S 138 192 L (st) μ n Q := x_iconst (by decide +kernel) d138_192 h
theorem s138_193 {S : Nat × (Nat → Int32)} {L : List (Option Value)} {st : List Value} {n : Nat} {Q : xQ} {μ : xM} {x y : Int} (h : x_V S 138 194 L (.int (I (x + y)) :: st) μ n Q) : x_V S 138 193 L (.int (I y) :: .int (I x) :: st) μ n Q := v_iadd d138_193 h
theorem s138_195 {S : Nat × (Nat → Int32)} {L : List (Option Value)} {st : List Value} {n : Nat} {Q : xQ} {μ : xM} {a : Nat} (hl : L[0]? = some (some (.ref a))) (h : x_V S 138 196 L (.ref a :: st) μ n Q) : x_V S 138 195 L (st) μ n Q := x_aload_n d138_195 hl h
theorem s138_195N {S : Nat × (Nat → Int32)} {L : List (Option Value)} {st : List Value} {n : Nat} {Q : xQ} {μ : xM} (hl : L[0]? = some (some .null)) (h : x_V S 138 196 L (.null :: st) μ n Q) : x_V S 138 195 L st μ n Q := x_aload_nN d138_195 hl h
theorem s138_196 {S : Nat × (Nat → Int32)} {L : List (Option Value)} {st : List Value} {n : Nat} {Q : xQ} {μ : xM} {x : Int32} (hl : L[4]? = some (some (.int x))) (h : x_V S 138 198 L (.int x :: st) μ n Q) : x_V S 138 196 L (st) μ n Q := x_iload d138_196 hl h
theorem s138_198 {S : Nat × (Nat → Int32)} {L : List (Option Value)} {st : List Value} {n : Nat} {Q : xQ} {μ : xM}  (h : x_V S 138 200 L (.int (I 6) :: st) μ n Q) : x_V S 138 198 L (st) μ n Q := x_bipush (by decide +kernel) d138_198 h
theorem s138_200 {S : Nat × (Nat → Int32)} {L : List (Option Value)} {st : List Value} {n : Nat} {Q : xQ} {μ : xM} {x y : Int} (h : x_V S 138 201 L (.int (I (x + y)) :: st) μ n Q) : x_V S 138 200 L (.int (I y) :: .int (I x) :: st) μ n Q := v_iadd d138_200 h
theorem s138_202 {S : Nat × (Nat → Int32)} {L : List (Option Value)} {st : List Value} {n : Nat} {Q : xQ} {μ : xM} {x0 : Int32} {x1 : Int32} {x2 : Int32} {x3 : Int32} {x4 : Int32} {x5 : Int32} {a : Nat} (hs : x_sh a = (9, 39)) (hst : st.length ≤ 4) (h : x_V S 103 0 [some (.ref a), some (.int x0), some (.int x1), some (.int x2), some (.int x3), some (.int x4), some (.int x5)] [] μ n (x_bk S 138 202 L st Q)) : x_V S 138 202 L (.int x5 :: .int x4 :: .int x3 :: .int x2 :: .int x1 :: .int x0 :: .ref a :: st) μ n Q := x_callV (k' := 103) (as := [.int x0, .int x1, .int x2, .int x3, .int x4, .int x5]) (na := 6) d138_202 ⟨w821, by decide +kernel, by decide, by decide, by decide, by decide, by decide⟩ cf9 w818 w819 w820 (by decide +kernel) rfl hs (fun v hv => by
    simp only [List.mem_cons, List.not_mem_nil, or_false] at hv
    rcases hv with rfl | rfl | rfl | rfl | rfl | rfl <;> first | rfl | assumption) hst h
theorem s138_205 {S : Nat × (Nat → Int32)} {L : List (Option Value)} {st : List Value} {n : Nat} {Q : xQ} {μ : xM} {x : Int32} (h : x_V S 138 207 (L.set 6 (some (.int x))) (st) μ n Q) : x_V S 138 205 L (.int x :: st) μ n Q := x_istore d138_205 (by decide) h
theorem s138_207 {S : Nat × (Nat → Int32)} {L : List (Option Value)} {st : List Value} {n : Nat} {Q : xQ} {μ : xM} {a : Nat} (hl : L[2]? = some (some (.ref a))) (h : x_V S 138 208 L (.ref a :: st) μ n Q) : x_V S 138 207 L (st) μ n Q := x_aload_n d138_207 hl h
theorem s138_207N {S : Nat × (Nat → Int32)} {L : List (Option Value)} {st : List Value} {n : Nat} {Q : xQ} {μ : xM} (hl : L[2]? = some (some .null)) (h : x_V S 138 208 L (.null :: st) μ n Q) : x_V S 138 207 L st μ n Q := x_aload_nN d138_207 hl h
theorem s138_208 {S : Nat × (Nat → Int32)} {L : List (Option Value)} {st : List Value} {n : Nat} {Q : xQ} {μ : xM}  {a : Nat} (hs : x_sh a = (9, 39)) (hst : st.length ≤ 4) (h : x_V S 84 0 [some (.ref a)] [] μ n (x_bk S 138 208 L st Q)) : x_V S 138 208 L (.ref a :: st) μ n Q := x_callV (k' := 84) (as := []) (na := 0) d138_208 ⟨w817, by decide +kernel, by decide, by decide, by decide, by decide, by decide⟩ cf9 w814 w815 w816 (by decide +kernel) rfl hs (fun v hv => by
    cases hv) hst h
theorem s138_211 {S : Nat × (Nat → Int32)} {L : List (Option Value)} {st : List Value} {n : Nat} {Q : xQ} {μ : xM} {x : Int32} (hl : L[5]? = some (some (.int x))) (h : x_V S 138 213 L (.int x :: st) μ n Q) : x_V S 138 211 L (st) μ n Q := x_iload d138_211 hl h
theorem s138_213 {S : Nat × (Nat → Int32)} {L : List (Option Value)} {st : List Value} {n : Nat} {Q : xQ} {μ : xM} {x y : Int} (hx : ib x) (hy : ib y) (kt : x = y → x_V S 138 218 L (st) μ n Q) (kf : x ≠ y → x_V S 138 216 L (st) μ n Q) : x_V S 138 213 L (.int (I y) :: .int (I x) :: st) μ n Q := v_icmp_eq d138_213 (by decide) hx hy kt kf
theorem s138_216 {S : Nat × (Nat → Int32)} {L : List (Option Value)} {st : List Value} {n : Nat} {Q : xQ} {μ : xM}  (h : x_V S 138 217 L (.int (I 0) :: st) μ n Q) : x_V S 138 216 L (st) μ n Q := x_iconst (by decide +kernel) d138_216 h
theorem s138_217 {S : Nat × (Nat → Int32)} {L : List (Option Value)} {st : List Value} {n : Nat} {Q : xQ} {μ : xM} {v : Int} (hv : v = 0 ∨ v = 1) (h : Q (.inl (some (.int (I v)))) μ n) : x_V S 138 217 L (.int (I v) :: []) μ n Q := v_zreturn d138_217 rfl hv h
theorem s138_218 {S : Nat × (Nat → Int32)} {L : List (Option Value)} {st : List Value} {n : Nat} {Q : xQ} {μ : xM} {x : Int32} (hl : L[5]? = some (some (.int x))) (h : x_V S 138 220 L (.int x :: st) μ n Q) : x_V S 138 218 L (st) μ n Q := x_iload d138_218 hl h
theorem s138_220 {S : Nat × (Nat → Int32)} {L : List (Option Value)} {st : List Value} {n : Nat} {Q : xQ} {μ : xM} {x : Int} (hx : ib x) (kt : x ≠ 0 → x_V S 138 235 L (st) μ n Q) (kf : x = 0 → x_V S 138 223 L (st) μ n Q) : x_V S 138 220 L (.int (I x) :: st) μ n Q := v_if_ne d138_220 (by decide) hx kt kf
theorem s138_223 {S : Nat × (Nat → Int32)} {L : List (Option Value)} {st : List Value} {n : Nat} {Q : xQ} {μ : xM} {a : Nat} (hl : L[3]? = some (some (.ref a))) (h : x_V S 138 224 L (.ref a :: st) μ n Q) : x_V S 138 223 L (st) μ n Q := x_aload_n d138_223 hl h
theorem s138_223N {S : Nat × (Nat → Int32)} {L : List (Option Value)} {st : List Value} {n : Nat} {Q : xQ} {μ : xM} (hl : L[3]? = some (some .null)) (h : x_V S 138 224 L (.null :: st) μ n Q) : x_V S 138 223 L st μ n Q := x_aload_nN d138_223 hl h
theorem s138_224 {S : Nat × (Nat → Int32)} {L : List (Option Value)} {st : List Value} {n : Nat} {Q : xQ} {μ : xM}  (h : x_V S 138 225 L (.int (I 0) :: st) μ n Q) : x_V S 138 224 L (st) μ n Q := x_iconst (by decide +kernel) d138_224 h
theorem s138_226 {S : Nat × (Nat → Int32)} {L : List (Option Value)} {st : List Value} {n : Nat} {Q : xQ} {μ : xM} {x : Int32} (hl : L[6]? = some (some (.int x))) (h : x_V S 138 228 L (.int x :: st) μ n Q) : x_V S 138 226 L (st) μ n Q := x_iload d138_226 hl h
theorem s138_228 {S : Nat × (Nat → Int32)} {L : List (Option Value)} {st : List Value} {n : Nat} {Q : xQ} {μ : xM} {x : Int32} (h : x_V S 138 229 L (.long x.toInt64 :: st) μ n Q) : x_V S 138 228 L (.int x :: st) μ n Q := x_i2l d138_228 h
theorem s138_229 {S : Nat × (Nat → Int32)} {L : List (Option Value)} {st : List Value} {n : Nat} {Q : xQ} {μ : xM} {x y : Int64} (h : x_V S 138 230 L (.int (lg_cmp x y) :: st) μ n Q) : x_V S 138 229 L (.long y :: .long x :: st) μ n Q := x_lcmp d138_229 h
theorem s138_230 {S : Nat × (Nat → Int32)} {L : List (Option Value)} {st : List Value} {n : Nat} {Q : xQ} {μ : xM} {x : Int} (hx : ib x) (kt : x = 0 → x_V S 138 235 L (st) μ n Q) (kf : x ≠ 0 → x_V S 138 233 L (st) μ n Q) : x_V S 138 230 L (.int (I x) :: st) μ n Q := v_if_eq d138_230 (by decide) hx kt kf
theorem s138_233 {S : Nat × (Nat → Int32)} {L : List (Option Value)} {st : List Value} {n : Nat} {Q : xQ} {μ : xM}  (h : x_V S 138 234 L (.int (I 0) :: st) μ n Q) : x_V S 138 233 L (st) μ n Q := x_iconst (by decide +kernel) d138_233 h
theorem s138_234 {S : Nat × (Nat → Int32)} {L : List (Option Value)} {st : List Value} {n : Nat} {Q : xQ} {μ : xM} {v : Int} (hv : v = 0 ∨ v = 1) (h : Q (.inl (some (.int (I v)))) μ n) : x_V S 138 234 L (.int (I v) :: []) μ n Q := v_zreturn d138_234 rfl hv h
theorem s138_235 {S : Nat × (Nat → Int32)} {L : List (Option Value)} {st : List Value} {n : Nat} {Q : xQ} {μ : xM}  (h : x_V S 138 761 L (st) μ n Q) : x_V S 138 235 L (st) μ n Q := x_goto (tgt := 761) (by decide) d138_235 h
theorem s138_238 {S : Nat × (Nat → Int32)} {L : List (Option Value)} {st : List Value} {n : Nat} {Q : xQ} {μ : xM} {a : Nat} (hl : L[1]? = some (some (.ref a))) (h : x_V S 138 239 L (.ref a :: st) μ n Q) : x_V S 138 238 L (st) μ n Q := x_aload_n d138_238 hl h
theorem s138_238N {S : Nat × (Nat → Int32)} {L : List (Option Value)} {st : List Value} {n : Nat} {Q : xQ} {μ : xM} (hl : L[1]? = some (some .null)) (h : x_V S 138 239 L (.null :: st) μ n Q) : x_V S 138 238 L st μ n Q := x_aload_nN d138_238 hl h
theorem s138_239 {S : Nat × (Nat → Int32)} {L : List (Option Value)} {st : List Value} {n : Nat} {Q : xQ} {μ : xM} {a : Nat} (hl : L[0]? = some (some (.ref a))) (h : x_V S 138 240 L (.ref a :: st) μ n Q) : x_V S 138 239 L (st) μ n Q := x_aload_n d138_239 hl h
theorem s138_239N {S : Nat × (Nat → Int32)} {L : List (Option Value)} {st : List Value} {n : Nat} {Q : xQ} {μ : xM} (hl : L[0]? = some (some .null)) (h : x_V S 138 240 L (.null :: st) μ n Q) : x_V S 138 239 L st μ n Q := x_aload_nN d138_239 hl h
theorem s138_240 {S : Nat × (Nat → Int32)} {L : List (Option Value)} {st : List Value} {n : Nat} {Q : xQ} {μ : xM} {x : Int32} (hl : L[4]? = some (some (.int x))) (h : x_V S 138 242 L (.int x :: st) μ n Q) : x_V S 138 240 L (st) μ n Q := x_iload d138_240 hl h
theorem s138_242 {S : Nat × (Nat → Int32)} {L : List (Option Value)} {st : List Value} {n : Nat} {Q : xQ} {μ : xM}  (h : x_V S 138 243 L (.int (I 1) :: st) μ n Q) : x_V S 138 242 L (st) μ n Q := x_iconst (by decide +kernel) d138_242 h
theorem s138_243 {S : Nat × (Nat → Int32)} {L : List (Option Value)} {st : List Value} {n : Nat} {Q : xQ} {μ : xM} {x y : Int} (h : x_V S 138 244 L (.int (I (x + y)) :: st) μ n Q) : x_V S 138 243 L (.int (I y) :: .int (I x) :: st) μ n Q := v_iadd d138_243 h
theorem s138_245 {S : Nat × (Nat → Int32)} {L : List (Option Value)} {st : List Value} {n : Nat} {Q : xQ} {μ : xM} {a : Nat} (hl : L[0]? = some (some (.ref a))) (h : x_V S 138 246 L (.ref a :: st) μ n Q) : x_V S 138 245 L (st) μ n Q := x_aload_n d138_245 hl h
theorem s138_245N {S : Nat × (Nat → Int32)} {L : List (Option Value)} {st : List Value} {n : Nat} {Q : xQ} {μ : xM} (hl : L[0]? = some (some .null)) (h : x_V S 138 246 L (.null :: st) μ n Q) : x_V S 138 245 L st μ n Q := x_aload_nN d138_245 hl h
theorem s138_246 {S : Nat × (Nat → Int32)} {L : List (Option Value)} {st : List Value} {n : Nat} {Q : xQ} {μ : xM} {x : Int32} (hl : L[4]? = some (some (.int x))) (h : x_V S 138 248 L (.int x :: st) μ n Q) : x_V S 138 246 L (st) μ n Q := x_iload d138_246 hl h
theorem s138_248 {S : Nat × (Nat → Int32)} {L : List (Option Value)} {st : List Value} {n : Nat} {Q : xQ} {μ : xM}  (h : x_V S 138 249 L (.int (I 2) :: st) μ n Q) : x_V S 138 248 L (st) μ n Q := x_iconst (by decide +kernel) d138_248 h
theorem s138_249 {S : Nat × (Nat → Int32)} {L : List (Option Value)} {st : List Value} {n : Nat} {Q : xQ} {μ : xM} {x y : Int} (h : x_V S 138 250 L (.int (I (x + y)) :: st) μ n Q) : x_V S 138 249 L (.int (I y) :: .int (I x) :: st) μ n Q := v_iadd d138_249 h
theorem s138_251 {S : Nat × (Nat → Int32)} {L : List (Option Value)} {st : List Value} {n : Nat} {Q : xQ} {μ : xM} {a : Nat} (hl : L[3]? = some (some (.ref a))) (h : x_V S 138 252 L (.ref a :: st) μ n Q) : x_V S 138 251 L (st) μ n Q := x_aload_n d138_251 hl h
theorem s138_251N {S : Nat × (Nat → Int32)} {L : List (Option Value)} {st : List Value} {n : Nat} {Q : xQ} {μ : xM} (hl : L[3]? = some (some .null)) (h : x_V S 138 252 L (.null :: st) μ n Q) : x_V S 138 251 L st μ n Q := x_aload_nN d138_251 hl h
theorem s138_252 {S : Nat × (Nat → Int32)} {L : List (Option Value)} {st : List Value} {n : Nat} {Q : xQ} {μ : xM} {v0 : Value} (hc0 : v0.category = 1) {x1 : Int32} {x2 : Int32} {v3 : Value} (hc3 : v3.category = 1) (hst : st.length ≤ 4) (h : x_V S 130 0 [some (v0), some (.int x1), some (.int x2), some (v3), none] [] μ n (x_bk S 138 252 L st Q)) : x_V S 138 252 L (v3 :: .int x2 :: .int x1 :: v0 :: st) μ n Q := x_callS (k' := 130) (as := [v0, .int x1, .int x2, v3]) (na := 4) d138_252 ⟨w429, by decide +kernel, by decide, by decide, by decide, by decide, by decide⟩ w427 w428 w0 (by decide +kernel) rfl (fun v hv => by
    simp only [List.mem_cons, List.not_mem_nil, or_false] at hv
    rcases hv with rfl | rfl | rfl | rfl <;> first | rfl | assumption) hst h
theorem s138_255 {S : Nat × (Nat → Int32)} {L : List (Option Value)} {st : List Value} {n : Nat} {Q : xQ} {μ : xM} {x : Int32} (h : x_V S 138 257 (L.set 5 (some (.int x))) (st) μ n Q) : x_V S 138 255 L (.int x :: st) μ n Q := x_istore d138_255 (by decide) h
theorem s138_257 {S : Nat × (Nat → Int32)} {L : List (Option Value)} {st : List Value} {n : Nat} {Q : xQ} {μ : xM} {a : Nat} (hl : L[2]? = some (some (.ref a))) (h : x_V S 138 258 L (.ref a :: st) μ n Q) : x_V S 138 257 L (st) μ n Q := x_aload_n d138_257 hl h
theorem s138_257N {S : Nat × (Nat → Int32)} {L : List (Option Value)} {st : List Value} {n : Nat} {Q : xQ} {μ : xM} (hl : L[2]? = some (some .null)) (h : x_V S 138 258 L (.null :: st) μ n Q) : x_V S 138 257 L st μ n Q := x_aload_nN d138_257 hl h
theorem s138_258 {S : Nat × (Nat → Int32)} {L : List (Option Value)} {st : List Value} {n : Nat} {Q : xQ} {μ : xM} {a : Nat} (hl : L[0]? = some (some (.ref a))) (h : x_V S 138 259 L (.ref a :: st) μ n Q) : x_V S 138 258 L (st) μ n Q := x_aload_n d138_258 hl h
theorem s138_258N {S : Nat × (Nat → Int32)} {L : List (Option Value)} {st : List Value} {n : Nat} {Q : xQ} {μ : xM} (hl : L[0]? = some (some .null)) (h : x_V S 138 259 L (.null :: st) μ n Q) : x_V S 138 258 L st μ n Q := x_aload_nN d138_258 hl h
theorem s138_259 {S : Nat × (Nat → Int32)} {L : List (Option Value)} {st : List Value} {n : Nat} {Q : xQ} {μ : xM} {x : Int32} (hl : L[4]? = some (some (.int x))) (h : x_V S 138 261 L (.int x :: st) μ n Q) : x_V S 138 259 L (st) μ n Q := x_iload d138_259 hl h
theorem s138_261 {S : Nat × (Nat → Int32)} {L : List (Option Value)} {st : List Value} {n : Nat} {Q : xQ} {μ : xM}  (h : x_V S 138 262 L (.int (I 1) :: st) μ n Q) : x_V S 138 261 L (st) μ n Q := x_iconst (by decide +kernel) d138_261 h
theorem s138_262 {S : Nat × (Nat → Int32)} {L : List (Option Value)} {st : List Value} {n : Nat} {Q : xQ} {μ : xM} {x y : Int} (h : x_V S 138 263 L (.int (I (x + y)) :: st) μ n Q) : x_V S 138 262 L (.int (I y) :: .int (I x) :: st) μ n Q := v_iadd d138_262 h
theorem s138_264 {S : Nat × (Nat → Int32)} {L : List (Option Value)} {st : List Value} {n : Nat} {Q : xQ} {μ : xM} {a : Nat} (hl : L[0]? = some (some (.ref a))) (h : x_V S 138 265 L (.ref a :: st) μ n Q) : x_V S 138 264 L (st) μ n Q := x_aload_n d138_264 hl h
theorem s138_264N {S : Nat × (Nat → Int32)} {L : List (Option Value)} {st : List Value} {n : Nat} {Q : xQ} {μ : xM} (hl : L[0]? = some (some .null)) (h : x_V S 138 265 L (.null :: st) μ n Q) : x_V S 138 264 L st μ n Q := x_aload_nN d138_264 hl h
theorem s138_265 {S : Nat × (Nat → Int32)} {L : List (Option Value)} {st : List Value} {n : Nat} {Q : xQ} {μ : xM} {x : Int32} (hl : L[4]? = some (some (.int x))) (h : x_V S 138 267 L (.int x :: st) μ n Q) : x_V S 138 265 L (st) μ n Q := x_iload d138_265 hl h
theorem s138_267 {S : Nat × (Nat → Int32)} {L : List (Option Value)} {st : List Value} {n : Nat} {Q : xQ} {μ : xM}  (h : x_V S 138 268 L (.int (I 2) :: st) μ n Q) : x_V S 138 267 L (st) μ n Q := x_iconst (by decide +kernel) d138_267 h
theorem s138_268 {S : Nat × (Nat → Int32)} {L : List (Option Value)} {st : List Value} {n : Nat} {Q : xQ} {μ : xM} {x y : Int} (h : x_V S 138 269 L (.int (I (x + y)) :: st) μ n Q) : x_V S 138 268 L (.int (I y) :: .int (I x) :: st) μ n Q := v_iadd d138_268 h
theorem s138_270 {S : Nat × (Nat → Int32)} {L : List (Option Value)} {st : List Value} {n : Nat} {Q : xQ} {μ : xM} {x0 : Int32} {x1 : Int32} {a : Nat} (hs : x_sh a = (9, 39)) (hst : st.length ≤ 4) (h : x_V S 104 0 [some (.ref a), some (.int x0), some (.int x1)] [] μ n (x_bk S 138 270 L st Q)) : x_V S 138 270 L (.int x1 :: .int x0 :: .ref a :: st) μ n Q := x_callV (k' := 104) (as := [.int x0, .int x1]) (na := 2) d138_270 ⟨w873, by decide +kernel, by decide, by decide, by decide, by decide, by decide⟩ cf9 w870 w871 w872 (by decide +kernel) rfl hs (fun v hv => by
    simp only [List.mem_cons, List.not_mem_nil, or_false] at hv
    rcases hv with rfl | rfl <;> first | rfl | assumption) hst h
theorem s138_273 {S : Nat × (Nat → Int32)} {L : List (Option Value)} {st : List Value} {n : Nat} {Q : xQ} {μ : xM} {x : Int32} (h : x_V S 138 275 (L.set 6 (some (.int x))) (st) μ n Q) : x_V S 138 273 L (.int x :: st) μ n Q := x_istore d138_273 (by decide) h
theorem s138_275 {S : Nat × (Nat → Int32)} {L : List (Option Value)} {st : List Value} {n : Nat} {Q : xQ} {μ : xM} {a : Nat} (hl : L[2]? = some (some (.ref a))) (h : x_V S 138 276 L (.ref a :: st) μ n Q) : x_V S 138 275 L (st) μ n Q := x_aload_n d138_275 hl h
theorem s138_275N {S : Nat × (Nat → Int32)} {L : List (Option Value)} {st : List Value} {n : Nat} {Q : xQ} {μ : xM} (hl : L[2]? = some (some .null)) (h : x_V S 138 276 L (.null :: st) μ n Q) : x_V S 138 275 L st μ n Q := x_aload_nN d138_275 hl h
theorem s138_276 {S : Nat × (Nat → Int32)} {L : List (Option Value)} {st : List Value} {n : Nat} {Q : xQ} {μ : xM}  {a : Nat} (hs : x_sh a = (9, 39)) (hst : st.length ≤ 4) (h : x_V S 84 0 [some (.ref a)] [] μ n (x_bk S 138 276 L st Q)) : x_V S 138 276 L (.ref a :: st) μ n Q := x_callV (k' := 84) (as := []) (na := 0) d138_276 ⟨w817, by decide +kernel, by decide, by decide, by decide, by decide, by decide⟩ cf9 w814 w815 w816 (by decide +kernel) rfl hs (fun v hv => by
    cases hv) hst h
theorem s138_279 {S : Nat × (Nat → Int32)} {L : List (Option Value)} {st : List Value} {n : Nat} {Q : xQ} {μ : xM} {x : Int32} (hl : L[5]? = some (some (.int x))) (h : x_V S 138 281 L (.int x :: st) μ n Q) : x_V S 138 279 L (st) μ n Q := x_iload d138_279 hl h
theorem s138_281 {S : Nat × (Nat → Int32)} {L : List (Option Value)} {st : List Value} {n : Nat} {Q : xQ} {μ : xM} {x y : Int} (hx : ib x) (hy : ib y) (kt : x = y → x_V S 138 286 L (st) μ n Q) (kf : x ≠ y → x_V S 138 284 L (st) μ n Q) : x_V S 138 281 L (.int (I y) :: .int (I x) :: st) μ n Q := v_icmp_eq d138_281 (by decide) hx hy kt kf
theorem s138_284 {S : Nat × (Nat → Int32)} {L : List (Option Value)} {st : List Value} {n : Nat} {Q : xQ} {μ : xM}  (h : x_V S 138 285 L (.int (I 0) :: st) μ n Q) : x_V S 138 284 L (st) μ n Q := x_iconst (by decide +kernel) d138_284 h
theorem s138_285 {S : Nat × (Nat → Int32)} {L : List (Option Value)} {st : List Value} {n : Nat} {Q : xQ} {μ : xM} {v : Int} (hv : v = 0 ∨ v = 1) (h : Q (.inl (some (.int (I v)))) μ n) : x_V S 138 285 L (.int (I v) :: []) μ n Q := v_zreturn d138_285 rfl hv h
theorem s138_286 {S : Nat × (Nat → Int32)} {L : List (Option Value)} {st : List Value} {n : Nat} {Q : xQ} {μ : xM} {x : Int32} (hl : L[5]? = some (some (.int x))) (h : x_V S 138 288 L (.int x :: st) μ n Q) : x_V S 138 286 L (st) μ n Q := x_iload d138_286 hl h
theorem s138_288 {S : Nat × (Nat → Int32)} {L : List (Option Value)} {st : List Value} {n : Nat} {Q : xQ} {μ : xM} {x : Int} (hx : ib x) (kt : x ≠ 0 → x_V S 138 303 L (st) μ n Q) (kf : x = 0 → x_V S 138 291 L (st) μ n Q) : x_V S 138 288 L (.int (I x) :: st) μ n Q := v_if_ne d138_288 (by decide) hx kt kf
theorem s138_291 {S : Nat × (Nat → Int32)} {L : List (Option Value)} {st : List Value} {n : Nat} {Q : xQ} {μ : xM} {a : Nat} (hl : L[3]? = some (some (.ref a))) (h : x_V S 138 292 L (.ref a :: st) μ n Q) : x_V S 138 291 L (st) μ n Q := x_aload_n d138_291 hl h
theorem s138_291N {S : Nat × (Nat → Int32)} {L : List (Option Value)} {st : List Value} {n : Nat} {Q : xQ} {μ : xM} (hl : L[3]? = some (some .null)) (h : x_V S 138 292 L (.null :: st) μ n Q) : x_V S 138 291 L st μ n Q := x_aload_nN d138_291 hl h
theorem s138_292 {S : Nat × (Nat → Int32)} {L : List (Option Value)} {st : List Value} {n : Nat} {Q : xQ} {μ : xM}  (h : x_V S 138 293 L (.int (I 0) :: st) μ n Q) : x_V S 138 292 L (st) μ n Q := x_iconst (by decide +kernel) d138_292 h
theorem s138_294 {S : Nat × (Nat → Int32)} {L : List (Option Value)} {st : List Value} {n : Nat} {Q : xQ} {μ : xM} {x : Int32} (hl : L[6]? = some (some (.int x))) (h : x_V S 138 296 L (.int x :: st) μ n Q) : x_V S 138 294 L (st) μ n Q := x_iload d138_294 hl h
theorem s138_296 {S : Nat × (Nat → Int32)} {L : List (Option Value)} {st : List Value} {n : Nat} {Q : xQ} {μ : xM} {x : Int32} (h : x_V S 138 297 L (.long x.toInt64 :: st) μ n Q) : x_V S 138 296 L (.int x :: st) μ n Q := x_i2l d138_296 h
theorem s138_297 {S : Nat × (Nat → Int32)} {L : List (Option Value)} {st : List Value} {n : Nat} {Q : xQ} {μ : xM} {x y : Int64} (h : x_V S 138 298 L (.int (lg_cmp x y) :: st) μ n Q) : x_V S 138 297 L (.long y :: .long x :: st) μ n Q := x_lcmp d138_297 h
theorem s138_298 {S : Nat × (Nat → Int32)} {L : List (Option Value)} {st : List Value} {n : Nat} {Q : xQ} {μ : xM} {x : Int} (hx : ib x) (kt : x = 0 → x_V S 138 303 L (st) μ n Q) (kf : x ≠ 0 → x_V S 138 301 L (st) μ n Q) : x_V S 138 298 L (.int (I x) :: st) μ n Q := v_if_eq d138_298 (by decide) hx kt kf
theorem s138_301 {S : Nat × (Nat → Int32)} {L : List (Option Value)} {st : List Value} {n : Nat} {Q : xQ} {μ : xM}  (h : x_V S 138 302 L (.int (I 0) :: st) μ n Q) : x_V S 138 301 L (st) μ n Q := x_iconst (by decide +kernel) d138_301 h
theorem s138_302 {S : Nat × (Nat → Int32)} {L : List (Option Value)} {st : List Value} {n : Nat} {Q : xQ} {μ : xM} {v : Int} (hv : v = 0 ∨ v = 1) (h : Q (.inl (some (.int (I v)))) μ n) : x_V S 138 302 L (.int (I v) :: []) μ n Q := v_zreturn d138_302 rfl hv h
theorem s138_303 {S : Nat × (Nat → Int32)} {L : List (Option Value)} {st : List Value} {n : Nat} {Q : xQ} {μ : xM}  (h : x_V S 138 761 L (st) μ n Q) : x_V S 138 303 L (st) μ n Q := x_goto (tgt := 761) (by decide) d138_303 h
theorem s138_306 {S : Nat × (Nat → Int32)} {L : List (Option Value)} {st : List Value} {n : Nat} {Q : xQ} {μ : xM} {a : Nat} (hl : L[1]? = some (some (.ref a))) (h : x_V S 138 307 L (.ref a :: st) μ n Q) : x_V S 138 306 L (st) μ n Q := x_aload_n d138_306 hl h
theorem s138_306N {S : Nat × (Nat → Int32)} {L : List (Option Value)} {st : List Value} {n : Nat} {Q : xQ} {μ : xM} (hl : L[1]? = some (some .null)) (h : x_V S 138 307 L (.null :: st) μ n Q) : x_V S 138 306 L st μ n Q := x_aload_nN d138_306 hl h
theorem s138_307 {S : Nat × (Nat → Int32)} {L : List (Option Value)} {st : List Value} {n : Nat} {Q : xQ} {μ : xM} {a : Nat} (hl : L[0]? = some (some (.ref a))) (h : x_V S 138 308 L (.ref a :: st) μ n Q) : x_V S 138 307 L (st) μ n Q := x_aload_n d138_307 hl h
theorem s138_307N {S : Nat × (Nat → Int32)} {L : List (Option Value)} {st : List Value} {n : Nat} {Q : xQ} {μ : xM} (hl : L[0]? = some (some .null)) (h : x_V S 138 308 L (.null :: st) μ n Q) : x_V S 138 307 L st μ n Q := x_aload_nN d138_307 hl h
theorem s138_308 {S : Nat × (Nat → Int32)} {L : List (Option Value)} {st : List Value} {n : Nat} {Q : xQ} {μ : xM} {x : Int32} (hl : L[4]? = some (some (.int x))) (h : x_V S 138 310 L (.int x :: st) μ n Q) : x_V S 138 308 L (st) μ n Q := x_iload d138_308 hl h
theorem s138_310 {S : Nat × (Nat → Int32)} {L : List (Option Value)} {st : List Value} {n : Nat} {Q : xQ} {μ : xM}  (h : x_V S 138 311 L (.int (I 1) :: st) μ n Q) : x_V S 138 310 L (st) μ n Q := x_iconst (by decide +kernel) d138_310 h
theorem s138_311 {S : Nat × (Nat → Int32)} {L : List (Option Value)} {st : List Value} {n : Nat} {Q : xQ} {μ : xM} {x y : Int} (h : x_V S 138 312 L (.int (I (x + y)) :: st) μ n Q) : x_V S 138 311 L (.int (I y) :: .int (I x) :: st) μ n Q := v_iadd d138_311 h
theorem s138_313 {S : Nat × (Nat → Int32)} {L : List (Option Value)} {st : List Value} {n : Nat} {Q : xQ} {μ : xM} {a : Nat} (hl : L[3]? = some (some (.ref a))) (h : x_V S 138 314 L (.ref a :: st) μ n Q) : x_V S 138 313 L (st) μ n Q := x_aload_n d138_313 hl h
theorem s138_313N {S : Nat × (Nat → Int32)} {L : List (Option Value)} {st : List Value} {n : Nat} {Q : xQ} {μ : xM} (hl : L[3]? = some (some .null)) (h : x_V S 138 314 L (.null :: st) μ n Q) : x_V S 138 313 L st μ n Q := x_aload_nN d138_313 hl h
theorem s138_314 {S : Nat × (Nat → Int32)} {L : List (Option Value)} {st : List Value} {n : Nat} {Q : xQ} {μ : xM} {v0 : Value} (hc0 : v0.category = 1) {x1 : Int32} {v2 : Value} (hc2 : v2.category = 1) (hst : st.length ≤ 4) (h : x_V S 131 0 [some (v0), some (.int x1), some (v2), none] [] μ n (x_bk S 138 314 L st Q)) : x_V S 138 314 L (v2 :: .int x1 :: v0 :: st) μ n Q := x_callS (k' := 131) (as := [v0, .int x1, v2]) (na := 3) d138_314 ⟨w458, by decide +kernel, by decide, by decide, by decide, by decide, by decide⟩ w456 w457 w0 (by decide +kernel) rfl (fun v hv => by
    simp only [List.mem_cons, List.not_mem_nil, or_false] at hv
    rcases hv with rfl | rfl | rfl <;> first | rfl | assumption) hst h
theorem s138_317 {S : Nat × (Nat → Int32)} {L : List (Option Value)} {st : List Value} {n : Nat} {Q : xQ} {μ : xM} {x : Int32} (h : x_V S 138 319 (L.set 5 (some (.int x))) (st) μ n Q) : x_V S 138 317 L (.int x :: st) μ n Q := x_istore d138_317 (by decide) h
theorem s138_319 {S : Nat × (Nat → Int32)} {L : List (Option Value)} {st : List Value} {n : Nat} {Q : xQ} {μ : xM} {a : Nat} (hl : L[2]? = some (some (.ref a))) (h : x_V S 138 320 L (.ref a :: st) μ n Q) : x_V S 138 319 L (st) μ n Q := x_aload_n d138_319 hl h
theorem s138_319N {S : Nat × (Nat → Int32)} {L : List (Option Value)} {st : List Value} {n : Nat} {Q : xQ} {μ : xM} (hl : L[2]? = some (some .null)) (h : x_V S 138 320 L (.null :: st) μ n Q) : x_V S 138 319 L st μ n Q := x_aload_nN d138_319 hl h
theorem s138_320 {S : Nat × (Nat → Int32)} {L : List (Option Value)} {st : List Value} {n : Nat} {Q : xQ} {μ : xM} {a : Nat} (hl : L[0]? = some (some (.ref a))) (h : x_V S 138 321 L (.ref a :: st) μ n Q) : x_V S 138 320 L (st) μ n Q := x_aload_n d138_320 hl h
theorem s138_320N {S : Nat × (Nat → Int32)} {L : List (Option Value)} {st : List Value} {n : Nat} {Q : xQ} {μ : xM} (hl : L[0]? = some (some .null)) (h : x_V S 138 321 L (.null :: st) μ n Q) : x_V S 138 320 L st μ n Q := x_aload_nN d138_320 hl h
theorem s138_321 {S : Nat × (Nat → Int32)} {L : List (Option Value)} {st : List Value} {n : Nat} {Q : xQ} {μ : xM} {x : Int32} (hl : L[4]? = some (some (.int x))) (h : x_V S 138 323 L (.int x :: st) μ n Q) : x_V S 138 321 L (st) μ n Q := x_iload d138_321 hl h
theorem s138_323 {S : Nat × (Nat → Int32)} {L : List (Option Value)} {st : List Value} {n : Nat} {Q : xQ} {μ : xM}  (h : x_V S 138 324 L (.int (I 1) :: st) μ n Q) : x_V S 138 323 L (st) μ n Q := x_iconst (by decide +kernel) d138_323 h
theorem s138_324 {S : Nat × (Nat → Int32)} {L : List (Option Value)} {st : List Value} {n : Nat} {Q : xQ} {μ : xM} {x y : Int} (h : x_V S 138 325 L (.int (I (x + y)) :: st) μ n Q) : x_V S 138 324 L (.int (I y) :: .int (I x) :: st) μ n Q := v_iadd d138_324 h
theorem s138_326 {S : Nat × (Nat → Int32)} {L : List (Option Value)} {st : List Value} {n : Nat} {Q : xQ} {μ : xM} {x0 : Int32} {a : Nat} (hs : x_sh a = (9, 39)) (hst : st.length ≤ 4) (h : x_V S 105 0 [some (.ref a), some (.int x0), none] [] μ n (x_bk S 138 326 L st Q)) : x_V S 138 326 L (.int x0 :: .ref a :: st) μ n Q := x_callV (k' := 105) (as := [.int x0]) (na := 1) d138_326 ⟨w877, by decide +kernel, by decide, by decide, by decide, by decide, by decide⟩ cf9 w874 w875 w876 (by decide +kernel) rfl hs (fun v hv => by
    simp only [List.mem_cons, List.not_mem_nil, or_false] at hv
    rcases hv with rfl <;> first | rfl | assumption) hst h
theorem s138_329 {S : Nat × (Nat → Int32)} {L : List (Option Value)} {st : List Value} {n : Nat} {Q : xQ} {μ : xM} {x : Int32} (h : x_V S 138 331 (L.set 6 (some (.int x))) (st) μ n Q) : x_V S 138 329 L (.int x :: st) μ n Q := x_istore d138_329 (by decide) h
theorem s138_331 {S : Nat × (Nat → Int32)} {L : List (Option Value)} {st : List Value} {n : Nat} {Q : xQ} {μ : xM} {a : Nat} (hl : L[2]? = some (some (.ref a))) (h : x_V S 138 332 L (.ref a :: st) μ n Q) : x_V S 138 331 L (st) μ n Q := x_aload_n d138_331 hl h
theorem s138_331N {S : Nat × (Nat → Int32)} {L : List (Option Value)} {st : List Value} {n : Nat} {Q : xQ} {μ : xM} (hl : L[2]? = some (some .null)) (h : x_V S 138 332 L (.null :: st) μ n Q) : x_V S 138 331 L st μ n Q := x_aload_nN d138_331 hl h
theorem s138_332 {S : Nat × (Nat → Int32)} {L : List (Option Value)} {st : List Value} {n : Nat} {Q : xQ} {μ : xM}  {a : Nat} (hs : x_sh a = (9, 39)) (hst : st.length ≤ 4) (h : x_V S 84 0 [some (.ref a)] [] μ n (x_bk S 138 332 L st Q)) : x_V S 138 332 L (.ref a :: st) μ n Q := x_callV (k' := 84) (as := []) (na := 0) d138_332 ⟨w817, by decide +kernel, by decide, by decide, by decide, by decide, by decide⟩ cf9 w814 w815 w816 (by decide +kernel) rfl hs (fun v hv => by
    cases hv) hst h
theorem s138_335 {S : Nat × (Nat → Int32)} {L : List (Option Value)} {st : List Value} {n : Nat} {Q : xQ} {μ : xM} {x : Int32} (hl : L[5]? = some (some (.int x))) (h : x_V S 138 337 L (.int x :: st) μ n Q) : x_V S 138 335 L (st) μ n Q := x_iload d138_335 hl h
theorem s138_337 {S : Nat × (Nat → Int32)} {L : List (Option Value)} {st : List Value} {n : Nat} {Q : xQ} {μ : xM} {x y : Int} (hx : ib x) (hy : ib y) (kt : x = y → x_V S 138 342 L (st) μ n Q) (kf : x ≠ y → x_V S 138 340 L (st) μ n Q) : x_V S 138 337 L (.int (I y) :: .int (I x) :: st) μ n Q := v_icmp_eq d138_337 (by decide) hx hy kt kf
theorem s138_340 {S : Nat × (Nat → Int32)} {L : List (Option Value)} {st : List Value} {n : Nat} {Q : xQ} {μ : xM}  (h : x_V S 138 341 L (.int (I 0) :: st) μ n Q) : x_V S 138 340 L (st) μ n Q := x_iconst (by decide +kernel) d138_340 h
theorem s138_341 {S : Nat × (Nat → Int32)} {L : List (Option Value)} {st : List Value} {n : Nat} {Q : xQ} {μ : xM} {v : Int} (hv : v = 0 ∨ v = 1) (h : Q (.inl (some (.int (I v)))) μ n) : x_V S 138 341 L (.int (I v) :: []) μ n Q := v_zreturn d138_341 rfl hv h
theorem s138_342 {S : Nat × (Nat → Int32)} {L : List (Option Value)} {st : List Value} {n : Nat} {Q : xQ} {μ : xM} {x : Int32} (hl : L[5]? = some (some (.int x))) (h : x_V S 138 344 L (.int x :: st) μ n Q) : x_V S 138 342 L (st) μ n Q := x_iload d138_342 hl h
theorem s138_344 {S : Nat × (Nat → Int32)} {L : List (Option Value)} {st : List Value} {n : Nat} {Q : xQ} {μ : xM} {x : Int} (hx : ib x) (kt : x ≠ 0 → x_V S 138 359 L (st) μ n Q) (kf : x = 0 → x_V S 138 347 L (st) μ n Q) : x_V S 138 344 L (.int (I x) :: st) μ n Q := v_if_ne d138_344 (by decide) hx kt kf
theorem s138_347 {S : Nat × (Nat → Int32)} {L : List (Option Value)} {st : List Value} {n : Nat} {Q : xQ} {μ : xM} {a : Nat} (hl : L[3]? = some (some (.ref a))) (h : x_V S 138 348 L (.ref a :: st) μ n Q) : x_V S 138 347 L (st) μ n Q := x_aload_n d138_347 hl h
theorem s138_347N {S : Nat × (Nat → Int32)} {L : List (Option Value)} {st : List Value} {n : Nat} {Q : xQ} {μ : xM} (hl : L[3]? = some (some .null)) (h : x_V S 138 348 L (.null :: st) μ n Q) : x_V S 138 347 L st μ n Q := x_aload_nN d138_347 hl h
theorem s138_348 {S : Nat × (Nat → Int32)} {L : List (Option Value)} {st : List Value} {n : Nat} {Q : xQ} {μ : xM}  (h : x_V S 138 349 L (.int (I 0) :: st) μ n Q) : x_V S 138 348 L (st) μ n Q := x_iconst (by decide +kernel) d138_348 h
theorem s138_350 {S : Nat × (Nat → Int32)} {L : List (Option Value)} {st : List Value} {n : Nat} {Q : xQ} {μ : xM} {x : Int32} (hl : L[6]? = some (some (.int x))) (h : x_V S 138 352 L (.int x :: st) μ n Q) : x_V S 138 350 L (st) μ n Q := x_iload d138_350 hl h
theorem s138_352 {S : Nat × (Nat → Int32)} {L : List (Option Value)} {st : List Value} {n : Nat} {Q : xQ} {μ : xM} {x : Int32} (h : x_V S 138 353 L (.long x.toInt64 :: st) μ n Q) : x_V S 138 352 L (.int x :: st) μ n Q := x_i2l d138_352 h
theorem s138_353 {S : Nat × (Nat → Int32)} {L : List (Option Value)} {st : List Value} {n : Nat} {Q : xQ} {μ : xM} {x y : Int64} (h : x_V S 138 354 L (.int (lg_cmp x y) :: st) μ n Q) : x_V S 138 353 L (.long y :: .long x :: st) μ n Q := x_lcmp d138_353 h
theorem s138_354 {S : Nat × (Nat → Int32)} {L : List (Option Value)} {st : List Value} {n : Nat} {Q : xQ} {μ : xM} {x : Int} (hx : ib x) (kt : x = 0 → x_V S 138 359 L (st) μ n Q) (kf : x ≠ 0 → x_V S 138 357 L (st) μ n Q) : x_V S 138 354 L (.int (I x) :: st) μ n Q := v_if_eq d138_354 (by decide) hx kt kf
theorem s138_357 {S : Nat × (Nat → Int32)} {L : List (Option Value)} {st : List Value} {n : Nat} {Q : xQ} {μ : xM}  (h : x_V S 138 358 L (.int (I 0) :: st) μ n Q) : x_V S 138 357 L (st) μ n Q := x_iconst (by decide +kernel) d138_357 h
theorem s138_358 {S : Nat × (Nat → Int32)} {L : List (Option Value)} {st : List Value} {n : Nat} {Q : xQ} {μ : xM} {v : Int} (hv : v = 0 ∨ v = 1) (h : Q (.inl (some (.int (I v)))) μ n) : x_V S 138 358 L (.int (I v) :: []) μ n Q := v_zreturn d138_358 rfl hv h
theorem s138_359 {S : Nat × (Nat → Int32)} {L : List (Option Value)} {st : List Value} {n : Nat} {Q : xQ} {μ : xM}  (h : x_V S 138 761 L (st) μ n Q) : x_V S 138 359 L (st) μ n Q := x_goto (tgt := 761) (by decide) d138_359 h
theorem s138_362 {S : Nat × (Nat → Int32)} {L : List (Option Value)} {st : List Value} {n : Nat} {Q : xQ} {μ : xM} {a : Nat} (hl : L[1]? = some (some (.ref a))) (h : x_V S 138 363 L (.ref a :: st) μ n Q) : x_V S 138 362 L (st) μ n Q := x_aload_n d138_362 hl h
theorem s138_362N {S : Nat × (Nat → Int32)} {L : List (Option Value)} {st : List Value} {n : Nat} {Q : xQ} {μ : xM} (hl : L[1]? = some (some .null)) (h : x_V S 138 363 L (.null :: st) μ n Q) : x_V S 138 362 L st μ n Q := x_aload_nN d138_362 hl h
theorem s138_363 {S : Nat × (Nat → Int32)} {L : List (Option Value)} {st : List Value} {n : Nat} {Q : xQ} {μ : xM} {a : Nat} (hl : L[3]? = some (some (.ref a))) (h : x_V S 138 364 L (.ref a :: st) μ n Q) : x_V S 138 363 L (st) μ n Q := x_aload_n d138_363 hl h
theorem s138_363N {S : Nat × (Nat → Int32)} {L : List (Option Value)} {st : List Value} {n : Nat} {Q : xQ} {μ : xM} (hl : L[3]? = some (some .null)) (h : x_V S 138 364 L (.null :: st) μ n Q) : x_V S 138 363 L st μ n Q := x_aload_nN d138_363 hl h
theorem s138_364 {S : Nat × (Nat → Int32)} {L : List (Option Value)} {st : List Value} {n : Nat} {Q : xQ} {μ : xM} {v0 : Value} (hc0 : v0.category = 1) {v1 : Value} (hc1 : v1.category = 1) (hst : st.length ≤ 4) (h : x_V S 132 0 [some (v0), some (v1), none] [] μ n (x_bk S 138 364 L st Q)) : x_V S 138 364 L (v1 :: v0 :: st) μ n Q := x_callS (k' := 132) (as := [v0, v1]) (na := 2) d138_364 ⟨w486, by decide +kernel, by decide, by decide, by decide, by decide, by decide⟩ w484 w485 w0 (by decide +kernel) rfl (fun v hv => by
    simp only [List.mem_cons, List.not_mem_nil, or_false] at hv
    rcases hv with rfl | rfl <;> first | rfl | assumption) hst h
theorem s138_367 {S : Nat × (Nat → Int32)} {L : List (Option Value)} {st : List Value} {n : Nat} {Q : xQ} {μ : xM} {x : Int32} (h : x_V S 138 369 (L.set 5 (some (.int x))) (st) μ n Q) : x_V S 138 367 L (.int x :: st) μ n Q := x_istore d138_367 (by decide) h
theorem s138_369 {S : Nat × (Nat → Int32)} {L : List (Option Value)} {st : List Value} {n : Nat} {Q : xQ} {μ : xM} {a : Nat} (hl : L[2]? = some (some (.ref a))) (h : x_V S 138 370 L (.ref a :: st) μ n Q) : x_V S 138 369 L (st) μ n Q := x_aload_n d138_369 hl h
theorem s138_369N {S : Nat × (Nat → Int32)} {L : List (Option Value)} {st : List Value} {n : Nat} {Q : xQ} {μ : xM} (hl : L[2]? = some (some .null)) (h : x_V S 138 370 L (.null :: st) μ n Q) : x_V S 138 369 L st μ n Q := x_aload_nN d138_369 hl h
theorem s138_370 {S : Nat × (Nat → Int32)} {L : List (Option Value)} {st : List Value} {n : Nat} {Q : xQ} {μ : xM}  {a : Nat} (hs : x_sh a = (9, 39)) (hst : st.length ≤ 4) (h : x_V S 120 0 [some (.ref a), none] [] μ n (x_bk S 138 370 L st Q)) : x_V S 138 370 L (.ref a :: st) μ n Q := x_callV (k' := 120) (as := []) (na := 0) d138_370 ⟨w881, by decide +kernel, by decide, by decide, by decide, by decide, by decide⟩ cf9 w878 w879 w880 (by decide +kernel) rfl hs (fun v hv => by
    cases hv) hst h
theorem s138_373 {S : Nat × (Nat → Int32)} {L : List (Option Value)} {st : List Value} {n : Nat} {Q : xQ} {μ : xM} {x : Int32} (h : x_V S 138 375 (L.set 6 (some (.int x))) (st) μ n Q) : x_V S 138 373 L (.int x :: st) μ n Q := x_istore d138_373 (by decide) h
theorem s138_375 {S : Nat × (Nat → Int32)} {L : List (Option Value)} {st : List Value} {n : Nat} {Q : xQ} {μ : xM} {a : Nat} (hl : L[2]? = some (some (.ref a))) (h : x_V S 138 376 L (.ref a :: st) μ n Q) : x_V S 138 375 L (st) μ n Q := x_aload_n d138_375 hl h
theorem s138_375N {S : Nat × (Nat → Int32)} {L : List (Option Value)} {st : List Value} {n : Nat} {Q : xQ} {μ : xM} (hl : L[2]? = some (some .null)) (h : x_V S 138 376 L (.null :: st) μ n Q) : x_V S 138 375 L st μ n Q := x_aload_nN d138_375 hl h
theorem s138_376 {S : Nat × (Nat → Int32)} {L : List (Option Value)} {st : List Value} {n : Nat} {Q : xQ} {μ : xM}  {a : Nat} (hs : x_sh a = (9, 39)) (hst : st.length ≤ 4) (h : x_V S 84 0 [some (.ref a)] [] μ n (x_bk S 138 376 L st Q)) : x_V S 138 376 L (.ref a :: st) μ n Q := x_callV (k' := 84) (as := []) (na := 0) d138_376 ⟨w817, by decide +kernel, by decide, by decide, by decide, by decide, by decide⟩ cf9 w814 w815 w816 (by decide +kernel) rfl hs (fun v hv => by
    cases hv) hst h
theorem s138_379 {S : Nat × (Nat → Int32)} {L : List (Option Value)} {st : List Value} {n : Nat} {Q : xQ} {μ : xM} {x : Int32} (hl : L[5]? = some (some (.int x))) (h : x_V S 138 381 L (.int x :: st) μ n Q) : x_V S 138 379 L (st) μ n Q := x_iload d138_379 hl h
theorem s138_381 {S : Nat × (Nat → Int32)} {L : List (Option Value)} {st : List Value} {n : Nat} {Q : xQ} {μ : xM} {x y : Int} (hx : ib x) (hy : ib y) (kt : x = y → x_V S 138 386 L (st) μ n Q) (kf : x ≠ y → x_V S 138 384 L (st) μ n Q) : x_V S 138 381 L (.int (I y) :: .int (I x) :: st) μ n Q := v_icmp_eq d138_381 (by decide) hx hy kt kf
theorem s138_384 {S : Nat × (Nat → Int32)} {L : List (Option Value)} {st : List Value} {n : Nat} {Q : xQ} {μ : xM}  (h : x_V S 138 385 L (.int (I 0) :: st) μ n Q) : x_V S 138 384 L (st) μ n Q := x_iconst (by decide +kernel) d138_384 h
theorem s138_385 {S : Nat × (Nat → Int32)} {L : List (Option Value)} {st : List Value} {n : Nat} {Q : xQ} {μ : xM} {v : Int} (hv : v = 0 ∨ v = 1) (h : Q (.inl (some (.int (I v)))) μ n) : x_V S 138 385 L (.int (I v) :: []) μ n Q := v_zreturn d138_385 rfl hv h
theorem s138_386 {S : Nat × (Nat → Int32)} {L : List (Option Value)} {st : List Value} {n : Nat} {Q : xQ} {μ : xM} {x : Int32} (hl : L[5]? = some (some (.int x))) (h : x_V S 138 388 L (.int x :: st) μ n Q) : x_V S 138 386 L (st) μ n Q := x_iload d138_386 hl h
theorem s138_388 {S : Nat × (Nat → Int32)} {L : List (Option Value)} {st : List Value} {n : Nat} {Q : xQ} {μ : xM} {x : Int} (hx : ib x) (kt : x ≠ 0 → x_V S 138 403 L (st) μ n Q) (kf : x = 0 → x_V S 138 391 L (st) μ n Q) : x_V S 138 388 L (.int (I x) :: st) μ n Q := v_if_ne d138_388 (by decide) hx kt kf
theorem s138_391 {S : Nat × (Nat → Int32)} {L : List (Option Value)} {st : List Value} {n : Nat} {Q : xQ} {μ : xM} {a : Nat} (hl : L[3]? = some (some (.ref a))) (h : x_V S 138 392 L (.ref a :: st) μ n Q) : x_V S 138 391 L (st) μ n Q := x_aload_n d138_391 hl h
theorem s138_391N {S : Nat × (Nat → Int32)} {L : List (Option Value)} {st : List Value} {n : Nat} {Q : xQ} {μ : xM} (hl : L[3]? = some (some .null)) (h : x_V S 138 392 L (.null :: st) μ n Q) : x_V S 138 391 L st μ n Q := x_aload_nN d138_391 hl h
theorem s138_392 {S : Nat × (Nat → Int32)} {L : List (Option Value)} {st : List Value} {n : Nat} {Q : xQ} {μ : xM}  (h : x_V S 138 393 L (.int (I 0) :: st) μ n Q) : x_V S 138 392 L (st) μ n Q := x_iconst (by decide +kernel) d138_392 h
theorem s138_394 {S : Nat × (Nat → Int32)} {L : List (Option Value)} {st : List Value} {n : Nat} {Q : xQ} {μ : xM} {x : Int32} (hl : L[6]? = some (some (.int x))) (h : x_V S 138 396 L (.int x :: st) μ n Q) : x_V S 138 394 L (st) μ n Q := x_iload d138_394 hl h
theorem s138_396 {S : Nat × (Nat → Int32)} {L : List (Option Value)} {st : List Value} {n : Nat} {Q : xQ} {μ : xM} {x : Int32} (h : x_V S 138 397 L (.long x.toInt64 :: st) μ n Q) : x_V S 138 396 L (.int x :: st) μ n Q := x_i2l d138_396 h
theorem s138_397 {S : Nat × (Nat → Int32)} {L : List (Option Value)} {st : List Value} {n : Nat} {Q : xQ} {μ : xM} {x y : Int64} (h : x_V S 138 398 L (.int (lg_cmp x y) :: st) μ n Q) : x_V S 138 397 L (.long y :: .long x :: st) μ n Q := x_lcmp d138_397 h
theorem s138_398 {S : Nat × (Nat → Int32)} {L : List (Option Value)} {st : List Value} {n : Nat} {Q : xQ} {μ : xM} {x : Int} (hx : ib x) (kt : x = 0 → x_V S 138 403 L (st) μ n Q) (kf : x ≠ 0 → x_V S 138 401 L (st) μ n Q) : x_V S 138 398 L (.int (I x) :: st) μ n Q := v_if_eq d138_398 (by decide) hx kt kf
theorem s138_401 {S : Nat × (Nat → Int32)} {L : List (Option Value)} {st : List Value} {n : Nat} {Q : xQ} {μ : xM}  (h : x_V S 138 402 L (.int (I 0) :: st) μ n Q) : x_V S 138 401 L (st) μ n Q := x_iconst (by decide +kernel) d138_401 h
theorem s138_402 {S : Nat × (Nat → Int32)} {L : List (Option Value)} {st : List Value} {n : Nat} {Q : xQ} {μ : xM} {v : Int} (hv : v = 0 ∨ v = 1) (h : Q (.inl (some (.int (I v)))) μ n) : x_V S 138 402 L (.int (I v) :: []) μ n Q := v_zreturn d138_402 rfl hv h
theorem s138_403 {S : Nat × (Nat → Int32)} {L : List (Option Value)} {st : List Value} {n : Nat} {Q : xQ} {μ : xM}  (h : x_V S 138 761 L (st) μ n Q) : x_V S 138 403 L (st) μ n Q := x_goto (tgt := 761) (by decide) d138_403 h
theorem s138_406 {S : Nat × (Nat → Int32)} {L : List (Option Value)} {st : List Value} {n : Nat} {Q : xQ} {μ : xM} {a : Nat} (hl : L[1]? = some (some (.ref a))) (h : x_V S 138 407 L (.ref a :: st) μ n Q) : x_V S 138 406 L (st) μ n Q := x_aload_n d138_406 hl h
theorem s138_406N {S : Nat × (Nat → Int32)} {L : List (Option Value)} {st : List Value} {n : Nat} {Q : xQ} {μ : xM} (hl : L[1]? = some (some .null)) (h : x_V S 138 407 L (.null :: st) μ n Q) : x_V S 138 406 L st μ n Q := x_aload_nN d138_406 hl h
theorem s138_407 {S : Nat × (Nat → Int32)} {L : List (Option Value)} {st : List Value} {n : Nat} {Q : xQ} {μ : xM}  {a : Nat} (hs : x_sh a = (0, 3)) (hst : st.length ≤ 4) (h : x_V S 74 0 [some (.ref a)] [] μ n (x_bk S 138 407 L st Q)) : x_V S 138 407 L (.ref a :: st) μ n Q := x_callV (k' := 74) (as := []) (na := 0) d138_407 ⟨w236, by decide +kernel, by decide, by decide, by decide, by decide, by decide⟩ cf0 w233 w234 w235 (by decide +kernel) rfl hs (fun v hv => by
    cases hv) hst h
theorem s138_410 {S : Nat × (Nat → Int32)} {L : List (Option Value)} {st : List Value} {n : Nat} {Q : xQ} {μ : xM} {a : Nat} (hl : L[2]? = some (some (.ref a))) (h : x_V S 138 411 L (.ref a :: st) μ n Q) : x_V S 138 410 L (st) μ n Q := x_aload_n d138_410 hl h
theorem s138_410N {S : Nat × (Nat → Int32)} {L : List (Option Value)} {st : List Value} {n : Nat} {Q : xQ} {μ : xM} (hl : L[2]? = some (some .null)) (h : x_V S 138 411 L (.null :: st) μ n Q) : x_V S 138 410 L st μ n Q := x_aload_nN d138_410 hl h
theorem s138_411 {S : Nat × (Nat → Int32)} {L : List (Option Value)} {st : List Value} {n : Nat} {Q : xQ} {μ : xM}  {a : Nat} (hs : x_sh a = (9, 39)) (hst : st.length ≤ 4) (h : x_V S 121 0 [some (.ref a)] [] μ n (x_bk S 138 411 L st Q)) : x_V S 138 411 L (.ref a :: st) μ n Q := x_callV (k' := 121) (as := []) (na := 0) d138_411 ⟨w960, by decide +kernel, by decide, by decide, by decide, by decide, by decide⟩ cf9 w957 w958 w959 (by decide +kernel) rfl hs (fun v hv => by
    cases hv) hst h
theorem s138_414 {S : Nat × (Nat → Int32)} {L : List (Option Value)} {st : List Value} {n : Nat} {Q : xQ} {μ : xM} {x y : Int} (hx : ib x) (hy : ib y) (kt : x = y → x_V S 138 761 L (st) μ n Q) (kf : x ≠ y → x_V S 138 417 L (st) μ n Q) : x_V S 138 414 L (.int (I y) :: .int (I x) :: st) μ n Q := v_icmp_eq d138_414 (by decide) hx hy kt kf
theorem s138_417 {S : Nat × (Nat → Int32)} {L : List (Option Value)} {st : List Value} {n : Nat} {Q : xQ} {μ : xM}  (h : x_V S 138 418 L (.int (I 0) :: st) μ n Q) : x_V S 138 417 L (st) μ n Q := x_iconst (by decide +kernel) d138_417 h
theorem s138_418 {S : Nat × (Nat → Int32)} {L : List (Option Value)} {st : List Value} {n : Nat} {Q : xQ} {μ : xM} {v : Int} (hv : v = 0 ∨ v = 1) (h : Q (.inl (some (.int (I v)))) μ n) : x_V S 138 418 L (.int (I v) :: []) μ n Q := v_zreturn d138_418 rfl hv h
theorem s138_419 {S : Nat × (Nat → Int32)} {L : List (Option Value)} {st : List Value} {n : Nat} {Q : xQ} {μ : xM} {a : Nat} (hl : L[1]? = some (some (.ref a))) (h : x_V S 138 420 L (.ref a :: st) μ n Q) : x_V S 138 419 L (st) μ n Q := x_aload_n d138_419 hl h
theorem s138_419N {S : Nat × (Nat → Int32)} {L : List (Option Value)} {st : List Value} {n : Nat} {Q : xQ} {μ : xM} (hl : L[1]? = some (some .null)) (h : x_V S 138 420 L (.null :: st) μ n Q) : x_V S 138 419 L st μ n Q := x_aload_nN d138_419 hl h
theorem s138_420 {S : Nat × (Nat → Int32)} {L : List (Option Value)} {st : List Value} {n : Nat} {Q : xQ} {μ : xM}  {a : Nat} (hs : x_sh a = (0, 3)) (hst : st.length ≤ 4) (h : x_V S 75 0 [some (.ref a), none] [] μ n (x_bk S 138 420 L st Q)) : x_V S 138 420 L (.ref a :: st) μ n Q := x_callV (k' := 75) (as := []) (na := 0) d138_420 ⟨w280, by decide +kernel, by decide, by decide, by decide, by decide, by decide⟩ cf0 w277 w278 w279 (by decide +kernel) rfl hs (fun v hv => by
    cases hv) hst h
theorem s138_423 {S : Nat × (Nat → Int32)} {L : List (Option Value)} {st : List Value} {n : Nat} {Q : xQ} {μ : xM} {a : Nat} (hl : L[2]? = some (some (.ref a))) (h : x_V S 138 424 L (.ref a :: st) μ n Q) : x_V S 138 423 L (st) μ n Q := x_aload_n d138_423 hl h
theorem s138_423N {S : Nat × (Nat → Int32)} {L : List (Option Value)} {st : List Value} {n : Nat} {Q : xQ} {μ : xM} (hl : L[2]? = some (some .null)) (h : x_V S 138 424 L (.null :: st) μ n Q) : x_V S 138 423 L st μ n Q := x_aload_nN d138_423 hl h
theorem s138_424 {S : Nat × (Nat → Int32)} {L : List (Option Value)} {st : List Value} {n : Nat} {Q : xQ} {μ : xM}  {a : Nat} (hs : x_sh a = (9, 39)) (hst : st.length ≤ 4) (h : x_V S 122 0 [some (.ref a), none] [] μ n (x_bk S 138 424 L st Q)) : x_V S 138 424 L (.ref a :: st) μ n Q := x_callV (k' := 122) (as := []) (na := 0) d138_424 ⟨w964, by decide +kernel, by decide, by decide, by decide, by decide, by decide⟩ cf9 w961 w962 w963 (by decide +kernel) rfl hs (fun v hv => by
    cases hv) hst h
theorem s138_427 {S : Nat × (Nat → Int32)} {L : List (Option Value)} {st : List Value} {n : Nat} {Q : xQ} {μ : xM} {x y : Int} (hx : ib x) (hy : ib y) (kt : x = y → x_V S 138 761 L (st) μ n Q) (kf : x ≠ y → x_V S 138 430 L (st) μ n Q) : x_V S 138 427 L (.int (I y) :: .int (I x) :: st) μ n Q := v_icmp_eq d138_427 (by decide) hx hy kt kf
theorem s138_430 {S : Nat × (Nat → Int32)} {L : List (Option Value)} {st : List Value} {n : Nat} {Q : xQ} {μ : xM}  (h : x_V S 138 431 L (.int (I 0) :: st) μ n Q) : x_V S 138 430 L (st) μ n Q := x_iconst (by decide +kernel) d138_430 h
theorem s138_431 {S : Nat × (Nat → Int32)} {L : List (Option Value)} {st : List Value} {n : Nat} {Q : xQ} {μ : xM} {v : Int} (hv : v = 0 ∨ v = 1) (h : Q (.inl (some (.int (I v)))) μ n) : x_V S 138 431 L (.int (I v) :: []) μ n Q := v_zreturn d138_431 rfl hv h
theorem s138_432 {S : Nat × (Nat → Int32)} {L : List (Option Value)} {st : List Value} {n : Nat} {Q : xQ} {μ : xM} {a : Nat} (hl : L[1]? = some (some (.ref a))) (h : x_V S 138 433 L (.ref a :: st) μ n Q) : x_V S 138 432 L (st) μ n Q := x_aload_n d138_432 hl h
theorem s138_432N {S : Nat × (Nat → Int32)} {L : List (Option Value)} {st : List Value} {n : Nat} {Q : xQ} {μ : xM} (hl : L[1]? = some (some .null)) (h : x_V S 138 433 L (.null :: st) μ n Q) : x_V S 138 432 L st μ n Q := x_aload_nN d138_432 hl h
theorem s138_433 {S : Nat × (Nat → Int32)} {L : List (Option Value)} {st : List Value} {n : Nat} {Q : xQ} {μ : xM} {a : Nat} (hl : L[0]? = some (some (.ref a))) (h : x_V S 138 434 L (.ref a :: st) μ n Q) : x_V S 138 433 L (st) μ n Q := x_aload_n d138_433 hl h
theorem s138_433N {S : Nat × (Nat → Int32)} {L : List (Option Value)} {st : List Value} {n : Nat} {Q : xQ} {μ : xM} (hl : L[0]? = some (some .null)) (h : x_V S 138 434 L (.null :: st) μ n Q) : x_V S 138 433 L st μ n Q := x_aload_nN d138_433 hl h
theorem s138_434 {S : Nat × (Nat → Int32)} {L : List (Option Value)} {st : List Value} {n : Nat} {Q : xQ} {μ : xM} {x : Int32} (hl : L[4]? = some (some (.int x))) (h : x_V S 138 436 L (.int x :: st) μ n Q) : x_V S 138 434 L (st) μ n Q := x_iload d138_434 hl h
theorem s138_436 {S : Nat × (Nat → Int32)} {L : List (Option Value)} {st : List Value} {n : Nat} {Q : xQ} {μ : xM}  (h : x_V S 138 437 L (.int (I 1) :: st) μ n Q) : x_V S 138 436 L (st) μ n Q := x_iconst (by decide +kernel) d138_436 h
theorem s138_437 {S : Nat × (Nat → Int32)} {L : List (Option Value)} {st : List Value} {n : Nat} {Q : xQ} {μ : xM} {x y : Int} (h : x_V S 138 438 L (.int (I (x + y)) :: st) μ n Q) : x_V S 138 437 L (.int (I y) :: .int (I x) :: st) μ n Q := v_iadd d138_437 h
theorem s138_439 {S : Nat × (Nat → Int32)} {L : List (Option Value)} {st : List Value} {n : Nat} {Q : xQ} {μ : xM} {a : Nat} (hl : L[0]? = some (some (.ref a))) (h : x_V S 138 440 L (.ref a :: st) μ n Q) : x_V S 138 439 L (st) μ n Q := x_aload_n d138_439 hl h
theorem s138_439N {S : Nat × (Nat → Int32)} {L : List (Option Value)} {st : List Value} {n : Nat} {Q : xQ} {μ : xM} (hl : L[0]? = some (some .null)) (h : x_V S 138 440 L (.null :: st) μ n Q) : x_V S 138 439 L st μ n Q := x_aload_nN d138_439 hl h
theorem s138_440 {S : Nat × (Nat → Int32)} {L : List (Option Value)} {st : List Value} {n : Nat} {Q : xQ} {μ : xM} {x : Int32} (hl : L[4]? = some (some (.int x))) (h : x_V S 138 442 L (.int x :: st) μ n Q) : x_V S 138 440 L (st) μ n Q := x_iload d138_440 hl h
theorem s138_442 {S : Nat × (Nat → Int32)} {L : List (Option Value)} {st : List Value} {n : Nat} {Q : xQ} {μ : xM}  (h : x_V S 138 443 L (.int (I 2) :: st) μ n Q) : x_V S 138 442 L (st) μ n Q := x_iconst (by decide +kernel) d138_442 h
theorem s138_443 {S : Nat × (Nat → Int32)} {L : List (Option Value)} {st : List Value} {n : Nat} {Q : xQ} {μ : xM} {x y : Int} (h : x_V S 138 444 L (.int (I (x + y)) :: st) μ n Q) : x_V S 138 443 L (.int (I y) :: .int (I x) :: st) μ n Q := v_iadd d138_443 h
theorem s138_445 {S : Nat × (Nat → Int32)} {L : List (Option Value)} {st : List Value} {n : Nat} {Q : xQ} {μ : xM} {a : Nat} (hl : L[3]? = some (some (.ref a))) (h : x_V S 138 446 L (.ref a :: st) μ n Q) : x_V S 138 445 L (st) μ n Q := x_aload_n d138_445 hl h
theorem s138_445N {S : Nat × (Nat → Int32)} {L : List (Option Value)} {st : List Value} {n : Nat} {Q : xQ} {μ : xM} (hl : L[3]? = some (some .null)) (h : x_V S 138 446 L (.null :: st) μ n Q) : x_V S 138 445 L st μ n Q := x_aload_nN d138_445 hl h
theorem s138_446 {S : Nat × (Nat → Int32)} {L : List (Option Value)} {st : List Value} {n : Nat} {Q : xQ} {μ : xM} {v0 : Value} (hc0 : v0.category = 1) {x1 : Int32} {x2 : Int32} {v3 : Value} (hc3 : v3.category = 1) (hst : st.length ≤ 4) (h : x_V S 133 0 [some (v0), some (.int x1), some (.int x2), some (v3), none] [] μ n (x_bk S 138 446 L st Q)) : x_V S 138 446 L (v3 :: .int x2 :: .int x1 :: v0 :: st) μ n Q := x_callS (k' := 133) (as := [v0, .int x1, .int x2, v3]) (na := 4) d138_446 ⟨w625, by decide +kernel, by decide, by decide, by decide, by decide, by decide⟩ w623 w624 w0 (by decide +kernel) rfl (fun v hv => by
    simp only [List.mem_cons, List.not_mem_nil, or_false] at hv
    rcases hv with rfl | rfl | rfl | rfl <;> first | rfl | assumption) hst h
theorem s138_449 {S : Nat × (Nat → Int32)} {L : List (Option Value)} {st : List Value} {n : Nat} {Q : xQ} {μ : xM} {x : Int32} (h : x_V S 138 451 (L.set 5 (some (.int x))) (st) μ n Q) : x_V S 138 449 L (.int x :: st) μ n Q := x_istore d138_449 (by decide) h
theorem s138_451 {S : Nat × (Nat → Int32)} {L : List (Option Value)} {st : List Value} {n : Nat} {Q : xQ} {μ : xM} {a : Nat} (hl : L[2]? = some (some (.ref a))) (h : x_V S 138 452 L (.ref a :: st) μ n Q) : x_V S 138 451 L (st) μ n Q := x_aload_n d138_451 hl h
theorem s138_451N {S : Nat × (Nat → Int32)} {L : List (Option Value)} {st : List Value} {n : Nat} {Q : xQ} {μ : xM} (hl : L[2]? = some (some .null)) (h : x_V S 138 452 L (.null :: st) μ n Q) : x_V S 138 451 L st μ n Q := x_aload_nN d138_451 hl h
theorem s138_452 {S : Nat × (Nat → Int32)} {L : List (Option Value)} {st : List Value} {n : Nat} {Q : xQ} {μ : xM} {a : Nat} (hl : L[0]? = some (some (.ref a))) (h : x_V S 138 453 L (.ref a :: st) μ n Q) : x_V S 138 452 L (st) μ n Q := x_aload_n d138_452 hl h
theorem s138_452N {S : Nat × (Nat → Int32)} {L : List (Option Value)} {st : List Value} {n : Nat} {Q : xQ} {μ : xM} (hl : L[0]? = some (some .null)) (h : x_V S 138 453 L (.null :: st) μ n Q) : x_V S 138 452 L st μ n Q := x_aload_nN d138_452 hl h
theorem s138_453 {S : Nat × (Nat → Int32)} {L : List (Option Value)} {st : List Value} {n : Nat} {Q : xQ} {μ : xM} {x : Int32} (hl : L[4]? = some (some (.int x))) (h : x_V S 138 455 L (.int x :: st) μ n Q) : x_V S 138 453 L (st) μ n Q := x_iload d138_453 hl h
theorem s138_455 {S : Nat × (Nat → Int32)} {L : List (Option Value)} {st : List Value} {n : Nat} {Q : xQ} {μ : xM}  (h : x_V S 138 456 L (.int (I 1) :: st) μ n Q) : x_V S 138 455 L (st) μ n Q := x_iconst (by decide +kernel) d138_455 h
theorem s138_456 {S : Nat × (Nat → Int32)} {L : List (Option Value)} {st : List Value} {n : Nat} {Q : xQ} {μ : xM} {x y : Int} (h : x_V S 138 457 L (.int (I (x + y)) :: st) μ n Q) : x_V S 138 456 L (.int (I y) :: .int (I x) :: st) μ n Q := v_iadd d138_456 h
theorem s138_458 {S : Nat × (Nat → Int32)} {L : List (Option Value)} {st : List Value} {n : Nat} {Q : xQ} {μ : xM} {a : Nat} (hl : L[0]? = some (some (.ref a))) (h : x_V S 138 459 L (.ref a :: st) μ n Q) : x_V S 138 458 L (st) μ n Q := x_aload_n d138_458 hl h
theorem s138_458N {S : Nat × (Nat → Int32)} {L : List (Option Value)} {st : List Value} {n : Nat} {Q : xQ} {μ : xM} (hl : L[0]? = some (some .null)) (h : x_V S 138 459 L (.null :: st) μ n Q) : x_V S 138 458 L st μ n Q := x_aload_nN d138_458 hl h
theorem s138_459 {S : Nat × (Nat → Int32)} {L : List (Option Value)} {st : List Value} {n : Nat} {Q : xQ} {μ : xM} {x : Int32} (hl : L[4]? = some (some (.int x))) (h : x_V S 138 461 L (.int x :: st) μ n Q) : x_V S 138 459 L (st) μ n Q := x_iload d138_459 hl h
theorem s138_461 {S : Nat × (Nat → Int32)} {L : List (Option Value)} {st : List Value} {n : Nat} {Q : xQ} {μ : xM}  (h : x_V S 138 462 L (.int (I 2) :: st) μ n Q) : x_V S 138 461 L (st) μ n Q := x_iconst (by decide +kernel) d138_461 h
theorem s138_462 {S : Nat × (Nat → Int32)} {L : List (Option Value)} {st : List Value} {n : Nat} {Q : xQ} {μ : xM} {x y : Int} (h : x_V S 138 463 L (.int (I (x + y)) :: st) μ n Q) : x_V S 138 462 L (.int (I y) :: .int (I x) :: st) μ n Q := v_iadd d138_462 h
theorem s138_464 {S : Nat × (Nat → Int32)} {L : List (Option Value)} {st : List Value} {n : Nat} {Q : xQ} {μ : xM} {x0 : Int32} {x1 : Int32} {a : Nat} (hs : x_sh a = (9, 39)) (hst : st.length ≤ 4) (h : x_V S 123 0 [some (.ref a), some (.int x0), some (.int x1), none] [] μ n (x_bk S 138 464 L st Q)) : x_V S 138 464 L (.int x1 :: .int x0 :: .ref a :: st) μ n Q := x_callV (k' := 123) (as := [.int x0, .int x1]) (na := 2) d138_464 ⟨w968, by decide +kernel, by decide, by decide, by decide, by decide, by decide⟩ cf9 w965 w966 w967 (by decide +kernel) rfl hs (fun v hv => by
    simp only [List.mem_cons, List.not_mem_nil, or_false] at hv
    rcases hv with rfl | rfl <;> first | rfl | assumption) hst h
theorem s138_467 {S : Nat × (Nat → Int32)} {L : List (Option Value)} {st : List Value} {n : Nat} {Q : xQ} {μ : xM} {x : Int32} (h : x_V S 138 469 (L.set 6 (some (.int x))) (st) μ n Q) : x_V S 138 467 L (.int x :: st) μ n Q := x_istore d138_467 (by decide) h
theorem s138_469 {S : Nat × (Nat → Int32)} {L : List (Option Value)} {st : List Value} {n : Nat} {Q : xQ} {μ : xM} {a : Nat} (hl : L[2]? = some (some (.ref a))) (h : x_V S 138 470 L (.ref a :: st) μ n Q) : x_V S 138 469 L (st) μ n Q := x_aload_n d138_469 hl h
theorem s138_469N {S : Nat × (Nat → Int32)} {L : List (Option Value)} {st : List Value} {n : Nat} {Q : xQ} {μ : xM} (hl : L[2]? = some (some .null)) (h : x_V S 138 470 L (.null :: st) μ n Q) : x_V S 138 469 L st μ n Q := x_aload_nN d138_469 hl h
theorem s138_470 {S : Nat × (Nat → Int32)} {L : List (Option Value)} {st : List Value} {n : Nat} {Q : xQ} {μ : xM}  {a : Nat} (hs : x_sh a = (9, 39)) (hst : st.length ≤ 4) (h : x_V S 84 0 [some (.ref a)] [] μ n (x_bk S 138 470 L st Q)) : x_V S 138 470 L (.ref a :: st) μ n Q := x_callV (k' := 84) (as := []) (na := 0) d138_470 ⟨w817, by decide +kernel, by decide, by decide, by decide, by decide, by decide⟩ cf9 w814 w815 w816 (by decide +kernel) rfl hs (fun v hv => by
    cases hv) hst h
theorem s138_473 {S : Nat × (Nat → Int32)} {L : List (Option Value)} {st : List Value} {n : Nat} {Q : xQ} {μ : xM} {x : Int32} (hl : L[5]? = some (some (.int x))) (h : x_V S 138 475 L (.int x :: st) μ n Q) : x_V S 138 473 L (st) μ n Q := x_iload d138_473 hl h
theorem s138_475 {S : Nat × (Nat → Int32)} {L : List (Option Value)} {st : List Value} {n : Nat} {Q : xQ} {μ : xM} {x y : Int} (hx : ib x) (hy : ib y) (kt : x = y → x_V S 138 480 L (st) μ n Q) (kf : x ≠ y → x_V S 138 478 L (st) μ n Q) : x_V S 138 475 L (.int (I y) :: .int (I x) :: st) μ n Q := v_icmp_eq d138_475 (by decide) hx hy kt kf
theorem s138_478 {S : Nat × (Nat → Int32)} {L : List (Option Value)} {st : List Value} {n : Nat} {Q : xQ} {μ : xM}  (h : x_V S 138 479 L (.int (I 0) :: st) μ n Q) : x_V S 138 478 L (st) μ n Q := x_iconst (by decide +kernel) d138_478 h
theorem s138_479 {S : Nat × (Nat → Int32)} {L : List (Option Value)} {st : List Value} {n : Nat} {Q : xQ} {μ : xM} {v : Int} (hv : v = 0 ∨ v = 1) (h : Q (.inl (some (.int (I v)))) μ n) : x_V S 138 479 L (.int (I v) :: []) μ n Q := v_zreturn d138_479 rfl hv h
theorem s138_480 {S : Nat × (Nat → Int32)} {L : List (Option Value)} {st : List Value} {n : Nat} {Q : xQ} {μ : xM} {x : Int32} (hl : L[5]? = some (some (.int x))) (h : x_V S 138 482 L (.int x :: st) μ n Q) : x_V S 138 480 L (st) μ n Q := x_iload d138_480 hl h
theorem s138_482 {S : Nat × (Nat → Int32)} {L : List (Option Value)} {st : List Value} {n : Nat} {Q : xQ} {μ : xM} {x : Int} (hx : ib x) (kt : x ≠ 0 → x_V S 138 497 L (st) μ n Q) (kf : x = 0 → x_V S 138 485 L (st) μ n Q) : x_V S 138 482 L (.int (I x) :: st) μ n Q := v_if_ne d138_482 (by decide) hx kt kf
theorem s138_485 {S : Nat × (Nat → Int32)} {L : List (Option Value)} {st : List Value} {n : Nat} {Q : xQ} {μ : xM} {a : Nat} (hl : L[3]? = some (some (.ref a))) (h : x_V S 138 486 L (.ref a :: st) μ n Q) : x_V S 138 485 L (st) μ n Q := x_aload_n d138_485 hl h
theorem s138_485N {S : Nat × (Nat → Int32)} {L : List (Option Value)} {st : List Value} {n : Nat} {Q : xQ} {μ : xM} (hl : L[3]? = some (some .null)) (h : x_V S 138 486 L (.null :: st) μ n Q) : x_V S 138 485 L st μ n Q := x_aload_nN d138_485 hl h
theorem s138_486 {S : Nat × (Nat → Int32)} {L : List (Option Value)} {st : List Value} {n : Nat} {Q : xQ} {μ : xM}  (h : x_V S 138 487 L (.int (I 0) :: st) μ n Q) : x_V S 138 486 L (st) μ n Q := x_iconst (by decide +kernel) d138_486 h
theorem s138_488 {S : Nat × (Nat → Int32)} {L : List (Option Value)} {st : List Value} {n : Nat} {Q : xQ} {μ : xM} {x : Int32} (hl : L[6]? = some (some (.int x))) (h : x_V S 138 490 L (.int x :: st) μ n Q) : x_V S 138 488 L (st) μ n Q := x_iload d138_488 hl h
theorem s138_490 {S : Nat × (Nat → Int32)} {L : List (Option Value)} {st : List Value} {n : Nat} {Q : xQ} {μ : xM} {x : Int32} (h : x_V S 138 491 L (.long x.toInt64 :: st) μ n Q) : x_V S 138 490 L (.int x :: st) μ n Q := x_i2l d138_490 h
theorem s138_491 {S : Nat × (Nat → Int32)} {L : List (Option Value)} {st : List Value} {n : Nat} {Q : xQ} {μ : xM} {x y : Int64} (h : x_V S 138 492 L (.int (lg_cmp x y) :: st) μ n Q) : x_V S 138 491 L (.long y :: .long x :: st) μ n Q := x_lcmp d138_491 h
theorem s138_492 {S : Nat × (Nat → Int32)} {L : List (Option Value)} {st : List Value} {n : Nat} {Q : xQ} {μ : xM} {x : Int} (hx : ib x) (kt : x = 0 → x_V S 138 497 L (st) μ n Q) (kf : x ≠ 0 → x_V S 138 495 L (st) μ n Q) : x_V S 138 492 L (.int (I x) :: st) μ n Q := v_if_eq d138_492 (by decide) hx kt kf
theorem s138_495 {S : Nat × (Nat → Int32)} {L : List (Option Value)} {st : List Value} {n : Nat} {Q : xQ} {μ : xM}  (h : x_V S 138 496 L (.int (I 0) :: st) μ n Q) : x_V S 138 495 L (st) μ n Q := x_iconst (by decide +kernel) d138_495 h
theorem s138_496 {S : Nat × (Nat → Int32)} {L : List (Option Value)} {st : List Value} {n : Nat} {Q : xQ} {μ : xM} {v : Int} (hv : v = 0 ∨ v = 1) (h : Q (.inl (some (.int (I v)))) μ n) : x_V S 138 496 L (.int (I v) :: []) μ n Q := v_zreturn d138_496 rfl hv h
theorem s138_497 {S : Nat × (Nat → Int32)} {L : List (Option Value)} {st : List Value} {n : Nat} {Q : xQ} {μ : xM}  (h : x_V S 138 761 L (st) μ n Q) : x_V S 138 497 L (st) μ n Q := x_goto (tgt := 761) (by decide) d138_497 h
theorem s138_500 {S : Nat × (Nat → Int32)} {L : List (Option Value)} {st : List Value} {n : Nat} {Q : xQ} {μ : xM} {a : Nat} (hl : L[1]? = some (some (.ref a))) (h : x_V S 138 501 L (.ref a :: st) μ n Q) : x_V S 138 500 L (st) μ n Q := x_aload_n d138_500 hl h
theorem s138_500N {S : Nat × (Nat → Int32)} {L : List (Option Value)} {st : List Value} {n : Nat} {Q : xQ} {μ : xM} (hl : L[1]? = some (some .null)) (h : x_V S 138 501 L (.null :: st) μ n Q) : x_V S 138 500 L st μ n Q := x_aload_nN d138_500 hl h
theorem s138_501 {S : Nat × (Nat → Int32)} {L : List (Option Value)} {st : List Value} {n : Nat} {Q : xQ} {μ : xM}  {a : Nat} (hs : x_sh a = (0, 3)) (hst : st.length ≤ 4) (h : x_V S 77 0 [some (.ref a)] [] μ n (x_bk S 138 501 L st Q)) : x_V S 138 501 L (.ref a :: st) μ n Q := x_callV (k' := 77) (as := []) (na := 0) d138_501 ⟨w285, by decide +kernel, by decide, by decide, by decide, by decide, by decide⟩ cf0 w282 w283 w284 (by decide +kernel) rfl hs (fun v hv => by
    cases hv) hst h
theorem s138_504 {S : Nat × (Nat → Int32)} {L : List (Option Value)} {st : List Value} {n : Nat} {Q : xQ} {μ : xM} {a : Nat} (hl : L[2]? = some (some (.ref a))) (h : x_V S 138 505 L (.ref a :: st) μ n Q) : x_V S 138 504 L (st) μ n Q := x_aload_n d138_504 hl h
theorem s138_504N {S : Nat × (Nat → Int32)} {L : List (Option Value)} {st : List Value} {n : Nat} {Q : xQ} {μ : xM} (hl : L[2]? = some (some .null)) (h : x_V S 138 505 L (.null :: st) μ n Q) : x_V S 138 504 L st μ n Q := x_aload_nN d138_504 hl h
theorem s138_505 {S : Nat × (Nat → Int32)} {L : List (Option Value)} {st : List Value} {n : Nat} {Q : xQ} {μ : xM}  {a : Nat} (hs : x_sh a = (9, 39)) (hst : st.length ≤ 4) (h : x_V S 124 0 [some (.ref a)] [] μ n (x_bk S 138 505 L st Q)) : x_V S 138 505 L (.ref a :: st) μ n Q := x_callV (k' := 124) (as := []) (na := 0) d138_505 ⟨w972, by decide +kernel, by decide, by decide, by decide, by decide, by decide⟩ cf9 w969 w970 w971 (by decide +kernel) rfl hs (fun v hv => by
    cases hv) hst h
theorem s138_508 {S : Nat × (Nat → Int32)} {L : List (Option Value)} {st : List Value} {n : Nat} {Q : xQ} {μ : xM} {x y : Int} (hx : ib x) (hy : ib y) (kt : x = y → x_V S 138 761 L (st) μ n Q) (kf : x ≠ y → x_V S 138 511 L (st) μ n Q) : x_V S 138 508 L (.int (I y) :: .int (I x) :: st) μ n Q := v_icmp_eq d138_508 (by decide) hx hy kt kf
theorem s138_511 {S : Nat × (Nat → Int32)} {L : List (Option Value)} {st : List Value} {n : Nat} {Q : xQ} {μ : xM}  (h : x_V S 138 512 L (.int (I 0) :: st) μ n Q) : x_V S 138 511 L (st) μ n Q := x_iconst (by decide +kernel) d138_511 h
theorem s138_512 {S : Nat × (Nat → Int32)} {L : List (Option Value)} {st : List Value} {n : Nat} {Q : xQ} {μ : xM} {v : Int} (hv : v = 0 ∨ v = 1) (h : Q (.inl (some (.int (I v)))) μ n) : x_V S 138 512 L (.int (I v) :: []) μ n Q := v_zreturn d138_512 rfl hv h
theorem s138_513 {S : Nat × (Nat → Int32)} {L : List (Option Value)} {st : List Value} {n : Nat} {Q : xQ} {μ : xM} {a : Nat} (hl : L[1]? = some (some (.ref a))) (h : x_V S 138 514 L (.ref a :: st) μ n Q) : x_V S 138 513 L (st) μ n Q := x_aload_n d138_513 hl h
theorem s138_513N {S : Nat × (Nat → Int32)} {L : List (Option Value)} {st : List Value} {n : Nat} {Q : xQ} {μ : xM} (hl : L[1]? = some (some .null)) (h : x_V S 138 514 L (.null :: st) μ n Q) : x_V S 138 513 L st μ n Q := x_aload_nN d138_513 hl h
theorem s138_514 {S : Nat × (Nat → Int32)} {L : List (Option Value)} {st : List Value} {n : Nat} {Q : xQ} {μ : xM} {a : Nat} (hl : L[0]? = some (some (.ref a))) (h : x_V S 138 515 L (.ref a :: st) μ n Q) : x_V S 138 514 L (st) μ n Q := x_aload_n d138_514 hl h
theorem s138_514N {S : Nat × (Nat → Int32)} {L : List (Option Value)} {st : List Value} {n : Nat} {Q : xQ} {μ : xM} (hl : L[0]? = some (some .null)) (h : x_V S 138 515 L (.null :: st) μ n Q) : x_V S 138 514 L st μ n Q := x_aload_nN d138_514 hl h
theorem s138_515 {S : Nat × (Nat → Int32)} {L : List (Option Value)} {st : List Value} {n : Nat} {Q : xQ} {μ : xM} {x : Int32} (hl : L[4]? = some (some (.int x))) (h : x_V S 138 517 L (.int x :: st) μ n Q) : x_V S 138 515 L (st) μ n Q := x_iload d138_515 hl h
theorem s138_517 {S : Nat × (Nat → Int32)} {L : List (Option Value)} {st : List Value} {n : Nat} {Q : xQ} {μ : xM}  (h : x_V S 138 518 L (.int (I 1) :: st) μ n Q) : x_V S 138 517 L (st) μ n Q := x_iconst (by decide +kernel) d138_517 h
theorem s138_518 {S : Nat × (Nat → Int32)} {L : List (Option Value)} {st : List Value} {n : Nat} {Q : xQ} {μ : xM} {x y : Int} (h : x_V S 138 519 L (.int (I (x + y)) :: st) μ n Q) : x_V S 138 518 L (.int (I y) :: .int (I x) :: st) μ n Q := v_iadd d138_518 h
theorem s138_520 {S : Nat × (Nat → Int32)} {L : List (Option Value)} {st : List Value} {n : Nat} {Q : xQ} {μ : xM} {a : Nat} (hl : L[3]? = some (some (.ref a))) (h : x_V S 138 521 L (.ref a :: st) μ n Q) : x_V S 138 520 L (st) μ n Q := x_aload_n d138_520 hl h
theorem s138_520N {S : Nat × (Nat → Int32)} {L : List (Option Value)} {st : List Value} {n : Nat} {Q : xQ} {μ : xM} (hl : L[3]? = some (some .null)) (h : x_V S 138 521 L (.null :: st) μ n Q) : x_V S 138 520 L st μ n Q := x_aload_nN d138_520 hl h
theorem s138_521 {S : Nat × (Nat → Int32)} {L : List (Option Value)} {st : List Value} {n : Nat} {Q : xQ} {μ : xM} {v0 : Value} (hc0 : v0.category = 1) {x1 : Int32} {v2 : Value} (hc2 : v2.category = 1) (hst : st.length ≤ 4) (h : x_V S 134 0 [some (v0), some (.int x1), some (v2), none] [] μ n (x_bk S 138 521 L st Q)) : x_V S 138 521 L (v2 :: .int x1 :: v0 :: st) μ n Q := x_callS (k' := 134) (as := [v0, .int x1, v2]) (na := 3) d138_521 ⟨w651, by decide +kernel, by decide, by decide, by decide, by decide, by decide⟩ w649 w650 w0 (by decide +kernel) rfl (fun v hv => by
    simp only [List.mem_cons, List.not_mem_nil, or_false] at hv
    rcases hv with rfl | rfl | rfl <;> first | rfl | assumption) hst h
theorem s138_524 {S : Nat × (Nat → Int32)} {L : List (Option Value)} {st : List Value} {n : Nat} {Q : xQ} {μ : xM} {x : Int32} (h : x_V S 138 526 (L.set 5 (some (.int x))) (st) μ n Q) : x_V S 138 524 L (.int x :: st) μ n Q := x_istore d138_524 (by decide) h
theorem s138_526 {S : Nat × (Nat → Int32)} {L : List (Option Value)} {st : List Value} {n : Nat} {Q : xQ} {μ : xM} {a : Nat} (hl : L[2]? = some (some (.ref a))) (h : x_V S 138 527 L (.ref a :: st) μ n Q) : x_V S 138 526 L (st) μ n Q := x_aload_n d138_526 hl h
theorem s138_526N {S : Nat × (Nat → Int32)} {L : List (Option Value)} {st : List Value} {n : Nat} {Q : xQ} {μ : xM} (hl : L[2]? = some (some .null)) (h : x_V S 138 527 L (.null :: st) μ n Q) : x_V S 138 526 L st μ n Q := x_aload_nN d138_526 hl h
theorem s138_527 {S : Nat × (Nat → Int32)} {L : List (Option Value)} {st : List Value} {n : Nat} {Q : xQ} {μ : xM} {a : Nat} (hl : L[0]? = some (some (.ref a))) (h : x_V S 138 528 L (.ref a :: st) μ n Q) : x_V S 138 527 L (st) μ n Q := x_aload_n d138_527 hl h
theorem s138_527N {S : Nat × (Nat → Int32)} {L : List (Option Value)} {st : List Value} {n : Nat} {Q : xQ} {μ : xM} (hl : L[0]? = some (some .null)) (h : x_V S 138 528 L (.null :: st) μ n Q) : x_V S 138 527 L st μ n Q := x_aload_nN d138_527 hl h
theorem s138_528 {S : Nat × (Nat → Int32)} {L : List (Option Value)} {st : List Value} {n : Nat} {Q : xQ} {μ : xM} {x : Int32} (hl : L[4]? = some (some (.int x))) (h : x_V S 138 530 L (.int x :: st) μ n Q) : x_V S 138 528 L (st) μ n Q := x_iload d138_528 hl h
theorem s138_530 {S : Nat × (Nat → Int32)} {L : List (Option Value)} {st : List Value} {n : Nat} {Q : xQ} {μ : xM}  (h : x_V S 138 531 L (.int (I 1) :: st) μ n Q) : x_V S 138 530 L (st) μ n Q := x_iconst (by decide +kernel) d138_530 h
theorem s138_531 {S : Nat × (Nat → Int32)} {L : List (Option Value)} {st : List Value} {n : Nat} {Q : xQ} {μ : xM} {x y : Int} (h : x_V S 138 532 L (.int (I (x + y)) :: st) μ n Q) : x_V S 138 531 L (.int (I y) :: .int (I x) :: st) μ n Q := v_iadd d138_531 h
theorem s138_533 {S : Nat × (Nat → Int32)} {L : List (Option Value)} {st : List Value} {n : Nat} {Q : xQ} {μ : xM} {x0 : Int32} {a : Nat} (hs : x_sh a = (9, 39)) (hst : st.length ≤ 4) (h : x_V S 125 0 [some (.ref a), some (.int x0)] [] μ n (x_bk S 138 533 L st Q)) : x_V S 138 533 L (.int x0 :: .ref a :: st) μ n Q := x_callV (k' := 125) (as := [.int x0]) (na := 1) d138_533 ⟨w976, by decide +kernel, by decide, by decide, by decide, by decide, by decide⟩ cf9 w973 w974 w975 (by decide +kernel) rfl hs (fun v hv => by
    simp only [List.mem_cons, List.not_mem_nil, or_false] at hv
    rcases hv with rfl <;> first | rfl | assumption) hst h
theorem s138_536 {S : Nat × (Nat → Int32)} {L : List (Option Value)} {st : List Value} {n : Nat} {Q : xQ} {μ : xM} {x : Int32} (h : x_V S 138 538 (L.set 6 (some (.int x))) (st) μ n Q) : x_V S 138 536 L (.int x :: st) μ n Q := x_istore d138_536 (by decide) h
theorem s138_538 {S : Nat × (Nat → Int32)} {L : List (Option Value)} {st : List Value} {n : Nat} {Q : xQ} {μ : xM} {a : Nat} (hl : L[2]? = some (some (.ref a))) (h : x_V S 138 539 L (.ref a :: st) μ n Q) : x_V S 138 538 L (st) μ n Q := x_aload_n d138_538 hl h
theorem s138_538N {S : Nat × (Nat → Int32)} {L : List (Option Value)} {st : List Value} {n : Nat} {Q : xQ} {μ : xM} (hl : L[2]? = some (some .null)) (h : x_V S 138 539 L (.null :: st) μ n Q) : x_V S 138 538 L st μ n Q := x_aload_nN d138_538 hl h
theorem s138_539 {S : Nat × (Nat → Int32)} {L : List (Option Value)} {st : List Value} {n : Nat} {Q : xQ} {μ : xM}  {a : Nat} (hs : x_sh a = (9, 39)) (hst : st.length ≤ 4) (h : x_V S 84 0 [some (.ref a)] [] μ n (x_bk S 138 539 L st Q)) : x_V S 138 539 L (.ref a :: st) μ n Q := x_callV (k' := 84) (as := []) (na := 0) d138_539 ⟨w817, by decide +kernel, by decide, by decide, by decide, by decide, by decide⟩ cf9 w814 w815 w816 (by decide +kernel) rfl hs (fun v hv => by
    cases hv) hst h
theorem s138_542 {S : Nat × (Nat → Int32)} {L : List (Option Value)} {st : List Value} {n : Nat} {Q : xQ} {μ : xM} {x : Int32} (hl : L[5]? = some (some (.int x))) (h : x_V S 138 544 L (.int x :: st) μ n Q) : x_V S 138 542 L (st) μ n Q := x_iload d138_542 hl h
theorem s138_544 {S : Nat × (Nat → Int32)} {L : List (Option Value)} {st : List Value} {n : Nat} {Q : xQ} {μ : xM} {x y : Int} (hx : ib x) (hy : ib y) (kt : x = y → x_V S 138 549 L (st) μ n Q) (kf : x ≠ y → x_V S 138 547 L (st) μ n Q) : x_V S 138 544 L (.int (I y) :: .int (I x) :: st) μ n Q := v_icmp_eq d138_544 (by decide) hx hy kt kf
theorem s138_547 {S : Nat × (Nat → Int32)} {L : List (Option Value)} {st : List Value} {n : Nat} {Q : xQ} {μ : xM}  (h : x_V S 138 548 L (.int (I 0) :: st) μ n Q) : x_V S 138 547 L (st) μ n Q := x_iconst (by decide +kernel) d138_547 h
theorem s138_548 {S : Nat × (Nat → Int32)} {L : List (Option Value)} {st : List Value} {n : Nat} {Q : xQ} {μ : xM} {v : Int} (hv : v = 0 ∨ v = 1) (h : Q (.inl (some (.int (I v)))) μ n) : x_V S 138 548 L (.int (I v) :: []) μ n Q := v_zreturn d138_548 rfl hv h
theorem s138_549 {S : Nat × (Nat → Int32)} {L : List (Option Value)} {st : List Value} {n : Nat} {Q : xQ} {μ : xM} {x : Int32} (hl : L[5]? = some (some (.int x))) (h : x_V S 138 551 L (.int x :: st) μ n Q) : x_V S 138 549 L (st) μ n Q := x_iload d138_549 hl h
theorem s138_551 {S : Nat × (Nat → Int32)} {L : List (Option Value)} {st : List Value} {n : Nat} {Q : xQ} {μ : xM} {x : Int} (hx : ib x) (kt : x ≠ 0 → x_V S 138 566 L (st) μ n Q) (kf : x = 0 → x_V S 138 554 L (st) μ n Q) : x_V S 138 551 L (.int (I x) :: st) μ n Q := v_if_ne d138_551 (by decide) hx kt kf
theorem s138_554 {S : Nat × (Nat → Int32)} {L : List (Option Value)} {st : List Value} {n : Nat} {Q : xQ} {μ : xM} {a : Nat} (hl : L[3]? = some (some (.ref a))) (h : x_V S 138 555 L (.ref a :: st) μ n Q) : x_V S 138 554 L (st) μ n Q := x_aload_n d138_554 hl h
theorem s138_554N {S : Nat × (Nat → Int32)} {L : List (Option Value)} {st : List Value} {n : Nat} {Q : xQ} {μ : xM} (hl : L[3]? = some (some .null)) (h : x_V S 138 555 L (.null :: st) μ n Q) : x_V S 138 554 L st μ n Q := x_aload_nN d138_554 hl h
theorem s138_555 {S : Nat × (Nat → Int32)} {L : List (Option Value)} {st : List Value} {n : Nat} {Q : xQ} {μ : xM}  (h : x_V S 138 556 L (.int (I 0) :: st) μ n Q) : x_V S 138 555 L (st) μ n Q := x_iconst (by decide +kernel) d138_555 h
theorem s138_557 {S : Nat × (Nat → Int32)} {L : List (Option Value)} {st : List Value} {n : Nat} {Q : xQ} {μ : xM} {x : Int32} (hl : L[6]? = some (some (.int x))) (h : x_V S 138 559 L (.int x :: st) μ n Q) : x_V S 138 557 L (st) μ n Q := x_iload d138_557 hl h
theorem s138_559 {S : Nat × (Nat → Int32)} {L : List (Option Value)} {st : List Value} {n : Nat} {Q : xQ} {μ : xM} {x : Int32} (h : x_V S 138 560 L (.long x.toInt64 :: st) μ n Q) : x_V S 138 559 L (.int x :: st) μ n Q := x_i2l d138_559 h
theorem s138_560 {S : Nat × (Nat → Int32)} {L : List (Option Value)} {st : List Value} {n : Nat} {Q : xQ} {μ : xM} {x y : Int64} (h : x_V S 138 561 L (.int (lg_cmp x y) :: st) μ n Q) : x_V S 138 560 L (.long y :: .long x :: st) μ n Q := x_lcmp d138_560 h
theorem s138_561 {S : Nat × (Nat → Int32)} {L : List (Option Value)} {st : List Value} {n : Nat} {Q : xQ} {μ : xM} {x : Int} (hx : ib x) (kt : x = 0 → x_V S 138 566 L (st) μ n Q) (kf : x ≠ 0 → x_V S 138 564 L (st) μ n Q) : x_V S 138 561 L (.int (I x) :: st) μ n Q := v_if_eq d138_561 (by decide) hx kt kf
theorem s138_564 {S : Nat × (Nat → Int32)} {L : List (Option Value)} {st : List Value} {n : Nat} {Q : xQ} {μ : xM}  (h : x_V S 138 565 L (.int (I 0) :: st) μ n Q) : x_V S 138 564 L (st) μ n Q := x_iconst (by decide +kernel) d138_564 h
theorem s138_565 {S : Nat × (Nat → Int32)} {L : List (Option Value)} {st : List Value} {n : Nat} {Q : xQ} {μ : xM} {v : Int} (hv : v = 0 ∨ v = 1) (h : Q (.inl (some (.int (I v)))) μ n) : x_V S 138 565 L (.int (I v) :: []) μ n Q := v_zreturn d138_565 rfl hv h
theorem s138_566 {S : Nat × (Nat → Int32)} {L : List (Option Value)} {st : List Value} {n : Nat} {Q : xQ} {μ : xM}  (h : x_V S 138 761 L (st) μ n Q) : x_V S 138 566 L (st) μ n Q := x_goto (tgt := 761) (by decide) d138_566 h
theorem s138_569 {S : Nat × (Nat → Int32)} {L : List (Option Value)} {st : List Value} {n : Nat} {Q : xQ} {μ : xM} {a : Nat} (hl : L[1]? = some (some (.ref a))) (h : x_V S 138 570 L (.ref a :: st) μ n Q) : x_V S 138 569 L (st) μ n Q := x_aload_n d138_569 hl h
theorem s138_569N {S : Nat × (Nat → Int32)} {L : List (Option Value)} {st : List Value} {n : Nat} {Q : xQ} {μ : xM} (hl : L[1]? = some (some .null)) (h : x_V S 138 570 L (.null :: st) μ n Q) : x_V S 138 569 L st μ n Q := x_aload_nN d138_569 hl h
theorem s138_570 {S : Nat × (Nat → Int32)} {L : List (Option Value)} {st : List Value} {n : Nat} {Q : xQ} {μ : xM} {a : Nat} (hl : L[0]? = some (some (.ref a))) (h : x_V S 138 571 L (.ref a :: st) μ n Q) : x_V S 138 570 L (st) μ n Q := x_aload_n d138_570 hl h
theorem s138_570N {S : Nat × (Nat → Int32)} {L : List (Option Value)} {st : List Value} {n : Nat} {Q : xQ} {μ : xM} (hl : L[0]? = some (some .null)) (h : x_V S 138 571 L (.null :: st) μ n Q) : x_V S 138 570 L st μ n Q := x_aload_nN d138_570 hl h
theorem s138_571 {S : Nat × (Nat → Int32)} {L : List (Option Value)} {st : List Value} {n : Nat} {Q : xQ} {μ : xM} {x : Int32} (hl : L[4]? = some (some (.int x))) (h : x_V S 138 573 L (.int x :: st) μ n Q) : x_V S 138 571 L (st) μ n Q := x_iload d138_571 hl h
theorem s138_573 {S : Nat × (Nat → Int32)} {L : List (Option Value)} {st : List Value} {n : Nat} {Q : xQ} {μ : xM}  (h : x_V S 138 574 L (.int (I 1) :: st) μ n Q) : x_V S 138 573 L (st) μ n Q := x_iconst (by decide +kernel) d138_573 h
theorem s138_574 {S : Nat × (Nat → Int32)} {L : List (Option Value)} {st : List Value} {n : Nat} {Q : xQ} {μ : xM} {x y : Int} (h : x_V S 138 575 L (.int (I (x + y)) :: st) μ n Q) : x_V S 138 574 L (.int (I y) :: .int (I x) :: st) μ n Q := v_iadd d138_574 h
theorem s138_576 {S : Nat × (Nat → Int32)} {L : List (Option Value)} {st : List Value} {n : Nat} {Q : xQ} {μ : xM} {a : Nat} (hl : L[0]? = some (some (.ref a))) (h : x_V S 138 577 L (.ref a :: st) μ n Q) : x_V S 138 576 L (st) μ n Q := x_aload_n d138_576 hl h
theorem s138_576N {S : Nat × (Nat → Int32)} {L : List (Option Value)} {st : List Value} {n : Nat} {Q : xQ} {μ : xM} (hl : L[0]? = some (some .null)) (h : x_V S 138 577 L (.null :: st) μ n Q) : x_V S 138 576 L st μ n Q := x_aload_nN d138_576 hl h
theorem s138_577 {S : Nat × (Nat → Int32)} {L : List (Option Value)} {st : List Value} {n : Nat} {Q : xQ} {μ : xM} {x : Int32} (hl : L[4]? = some (some (.int x))) (h : x_V S 138 579 L (.int x :: st) μ n Q) : x_V S 138 577 L (st) μ n Q := x_iload d138_577 hl h
theorem s138_579 {S : Nat × (Nat → Int32)} {L : List (Option Value)} {st : List Value} {n : Nat} {Q : xQ} {μ : xM}  (h : x_V S 138 580 L (.int (I 2) :: st) μ n Q) : x_V S 138 579 L (st) μ n Q := x_iconst (by decide +kernel) d138_579 h
theorem s138_580 {S : Nat × (Nat → Int32)} {L : List (Option Value)} {st : List Value} {n : Nat} {Q : xQ} {μ : xM} {x y : Int} (h : x_V S 138 581 L (.int (I (x + y)) :: st) μ n Q) : x_V S 138 580 L (.int (I y) :: .int (I x) :: st) μ n Q := v_iadd d138_580 h
theorem s138_582 {S : Nat × (Nat → Int32)} {L : List (Option Value)} {st : List Value} {n : Nat} {Q : xQ} {μ : xM} {a : Nat} (hl : L[3]? = some (some (.ref a))) (h : x_V S 138 583 L (.ref a :: st) μ n Q) : x_V S 138 582 L (st) μ n Q := x_aload_n d138_582 hl h
theorem s138_582N {S : Nat × (Nat → Int32)} {L : List (Option Value)} {st : List Value} {n : Nat} {Q : xQ} {μ : xM} (hl : L[3]? = some (some .null)) (h : x_V S 138 583 L (.null :: st) μ n Q) : x_V S 138 582 L st μ n Q := x_aload_nN d138_582 hl h
theorem s138_583 {S : Nat × (Nat → Int32)} {L : List (Option Value)} {st : List Value} {n : Nat} {Q : xQ} {μ : xM} {v0 : Value} (hc0 : v0.category = 1) {x1 : Int32} {x2 : Int32} {v3 : Value} (hc3 : v3.category = 1) (hst : st.length ≤ 4) (h : x_V S 135 0 [some (v0), some (.int x1), some (.int x2), some (v3), none] [] μ n (x_bk S 138 583 L st Q)) : x_V S 138 583 L (v3 :: .int x2 :: .int x1 :: v0 :: st) μ n Q := x_callS (k' := 135) (as := [v0, .int x1, .int x2, v3]) (na := 4) d138_583 ⟨w668, by decide +kernel, by decide, by decide, by decide, by decide, by decide⟩ w666 w667 w0 (by decide +kernel) rfl (fun v hv => by
    simp only [List.mem_cons, List.not_mem_nil, or_false] at hv
    rcases hv with rfl | rfl | rfl | rfl <;> first | rfl | assumption) hst h
theorem s138_586 {S : Nat × (Nat → Int32)} {L : List (Option Value)} {st : List Value} {n : Nat} {Q : xQ} {μ : xM} {x : Int32} (h : x_V S 138 588 (L.set 5 (some (.int x))) (st) μ n Q) : x_V S 138 586 L (.int x :: st) μ n Q := x_istore d138_586 (by decide) h
theorem s138_588 {S : Nat × (Nat → Int32)} {L : List (Option Value)} {st : List Value} {n : Nat} {Q : xQ} {μ : xM} {a : Nat} (hl : L[2]? = some (some (.ref a))) (h : x_V S 138 589 L (.ref a :: st) μ n Q) : x_V S 138 588 L (st) μ n Q := x_aload_n d138_588 hl h
theorem s138_588N {S : Nat × (Nat → Int32)} {L : List (Option Value)} {st : List Value} {n : Nat} {Q : xQ} {μ : xM} (hl : L[2]? = some (some .null)) (h : x_V S 138 589 L (.null :: st) μ n Q) : x_V S 138 588 L st μ n Q := x_aload_nN d138_588 hl h
theorem s138_589 {S : Nat × (Nat → Int32)} {L : List (Option Value)} {st : List Value} {n : Nat} {Q : xQ} {μ : xM} {a : Nat} (hl : L[0]? = some (some (.ref a))) (h : x_V S 138 590 L (.ref a :: st) μ n Q) : x_V S 138 589 L (st) μ n Q := x_aload_n d138_589 hl h
theorem s138_589N {S : Nat × (Nat → Int32)} {L : List (Option Value)} {st : List Value} {n : Nat} {Q : xQ} {μ : xM} (hl : L[0]? = some (some .null)) (h : x_V S 138 590 L (.null :: st) μ n Q) : x_V S 138 589 L st μ n Q := x_aload_nN d138_589 hl h
theorem s138_590 {S : Nat × (Nat → Int32)} {L : List (Option Value)} {st : List Value} {n : Nat} {Q : xQ} {μ : xM} {x : Int32} (hl : L[4]? = some (some (.int x))) (h : x_V S 138 592 L (.int x :: st) μ n Q) : x_V S 138 590 L (st) μ n Q := x_iload d138_590 hl h
theorem s138_592 {S : Nat × (Nat → Int32)} {L : List (Option Value)} {st : List Value} {n : Nat} {Q : xQ} {μ : xM}  (h : x_V S 138 593 L (.int (I 1) :: st) μ n Q) : x_V S 138 592 L (st) μ n Q := x_iconst (by decide +kernel) d138_592 h
theorem s138_593 {S : Nat × (Nat → Int32)} {L : List (Option Value)} {st : List Value} {n : Nat} {Q : xQ} {μ : xM} {x y : Int} (h : x_V S 138 594 L (.int (I (x + y)) :: st) μ n Q) : x_V S 138 593 L (.int (I y) :: .int (I x) :: st) μ n Q := v_iadd d138_593 h
theorem s138_595 {S : Nat × (Nat → Int32)} {L : List (Option Value)} {st : List Value} {n : Nat} {Q : xQ} {μ : xM} {a : Nat} (hl : L[0]? = some (some (.ref a))) (h : x_V S 138 596 L (.ref a :: st) μ n Q) : x_V S 138 595 L (st) μ n Q := x_aload_n d138_595 hl h
theorem s138_595N {S : Nat × (Nat → Int32)} {L : List (Option Value)} {st : List Value} {n : Nat} {Q : xQ} {μ : xM} (hl : L[0]? = some (some .null)) (h : x_V S 138 596 L (.null :: st) μ n Q) : x_V S 138 595 L st μ n Q := x_aload_nN d138_595 hl h
theorem s138_596 {S : Nat × (Nat → Int32)} {L : List (Option Value)} {st : List Value} {n : Nat} {Q : xQ} {μ : xM} {x : Int32} (hl : L[4]? = some (some (.int x))) (h : x_V S 138 598 L (.int x :: st) μ n Q) : x_V S 138 596 L (st) μ n Q := x_iload d138_596 hl h
theorem s138_598 {S : Nat × (Nat → Int32)} {L : List (Option Value)} {st : List Value} {n : Nat} {Q : xQ} {μ : xM}  (h : x_V S 138 599 L (.int (I 2) :: st) μ n Q) : x_V S 138 598 L (st) μ n Q := x_iconst (by decide +kernel) d138_598 h
theorem s138_599 {S : Nat × (Nat → Int32)} {L : List (Option Value)} {st : List Value} {n : Nat} {Q : xQ} {μ : xM} {x y : Int} (h : x_V S 138 600 L (.int (I (x + y)) :: st) μ n Q) : x_V S 138 599 L (.int (I y) :: .int (I x) :: st) μ n Q := v_iadd d138_599 h
theorem s138_601 {S : Nat × (Nat → Int32)} {L : List (Option Value)} {st : List Value} {n : Nat} {Q : xQ} {μ : xM} {x0 : Int32} {x1 : Int32} {a : Nat} (hs : x_sh a = (9, 39)) (hst : st.length ≤ 4) (h : x_V S 126 0 [some (.ref a), some (.int x0), some (.int x1)] [] μ n (x_bk S 138 601 L st Q)) : x_V S 138 601 L (.int x1 :: .int x0 :: .ref a :: st) μ n Q := x_callV (k' := 126) (as := [.int x0, .int x1]) (na := 2) d138_601 ⟨w980, by decide +kernel, by decide, by decide, by decide, by decide, by decide⟩ cf9 w977 w978 w979 (by decide +kernel) rfl hs (fun v hv => by
    simp only [List.mem_cons, List.not_mem_nil, or_false] at hv
    rcases hv with rfl | rfl <;> first | rfl | assumption) hst h
theorem s138_604 {S : Nat × (Nat → Int32)} {L : List (Option Value)} {st : List Value} {n : Nat} {Q : xQ} {μ : xM} {x : Int32} (h : x_V S 138 606 (L.set 6 (some (.int x))) (st) μ n Q) : x_V S 138 604 L (.int x :: st) μ n Q := x_istore d138_604 (by decide) h
theorem s138_606 {S : Nat × (Nat → Int32)} {L : List (Option Value)} {st : List Value} {n : Nat} {Q : xQ} {μ : xM} {a : Nat} (hl : L[2]? = some (some (.ref a))) (h : x_V S 138 607 L (.ref a :: st) μ n Q) : x_V S 138 606 L (st) μ n Q := x_aload_n d138_606 hl h
theorem s138_606N {S : Nat × (Nat → Int32)} {L : List (Option Value)} {st : List Value} {n : Nat} {Q : xQ} {μ : xM} (hl : L[2]? = some (some .null)) (h : x_V S 138 607 L (.null :: st) μ n Q) : x_V S 138 606 L st μ n Q := x_aload_nN d138_606 hl h
theorem s138_607 {S : Nat × (Nat → Int32)} {L : List (Option Value)} {st : List Value} {n : Nat} {Q : xQ} {μ : xM}  {a : Nat} (hs : x_sh a = (9, 39)) (hst : st.length ≤ 4) (h : x_V S 84 0 [some (.ref a)] [] μ n (x_bk S 138 607 L st Q)) : x_V S 138 607 L (.ref a :: st) μ n Q := x_callV (k' := 84) (as := []) (na := 0) d138_607 ⟨w817, by decide +kernel, by decide, by decide, by decide, by decide, by decide⟩ cf9 w814 w815 w816 (by decide +kernel) rfl hs (fun v hv => by
    cases hv) hst h
theorem s138_610 {S : Nat × (Nat → Int32)} {L : List (Option Value)} {st : List Value} {n : Nat} {Q : xQ} {μ : xM} {x : Int32} (hl : L[5]? = some (some (.int x))) (h : x_V S 138 612 L (.int x :: st) μ n Q) : x_V S 138 610 L (st) μ n Q := x_iload d138_610 hl h
theorem s138_612 {S : Nat × (Nat → Int32)} {L : List (Option Value)} {st : List Value} {n : Nat} {Q : xQ} {μ : xM} {x y : Int} (hx : ib x) (hy : ib y) (kt : x = y → x_V S 138 617 L (st) μ n Q) (kf : x ≠ y → x_V S 138 615 L (st) μ n Q) : x_V S 138 612 L (.int (I y) :: .int (I x) :: st) μ n Q := v_icmp_eq d138_612 (by decide) hx hy kt kf
theorem s138_615 {S : Nat × (Nat → Int32)} {L : List (Option Value)} {st : List Value} {n : Nat} {Q : xQ} {μ : xM}  (h : x_V S 138 616 L (.int (I 0) :: st) μ n Q) : x_V S 138 615 L (st) μ n Q := x_iconst (by decide +kernel) d138_615 h
theorem s138_616 {S : Nat × (Nat → Int32)} {L : List (Option Value)} {st : List Value} {n : Nat} {Q : xQ} {μ : xM} {v : Int} (hv : v = 0 ∨ v = 1) (h : Q (.inl (some (.int (I v)))) μ n) : x_V S 138 616 L (.int (I v) :: []) μ n Q := v_zreturn d138_616 rfl hv h
theorem s138_617 {S : Nat × (Nat → Int32)} {L : List (Option Value)} {st : List Value} {n : Nat} {Q : xQ} {μ : xM} {x : Int32} (hl : L[5]? = some (some (.int x))) (h : x_V S 138 619 L (.int x :: st) μ n Q) : x_V S 138 617 L (st) μ n Q := x_iload d138_617 hl h
theorem s138_619 {S : Nat × (Nat → Int32)} {L : List (Option Value)} {st : List Value} {n : Nat} {Q : xQ} {μ : xM} {x : Int} (hx : ib x) (kt : x ≠ 0 → x_V S 138 634 L (st) μ n Q) (kf : x = 0 → x_V S 138 622 L (st) μ n Q) : x_V S 138 619 L (.int (I x) :: st) μ n Q := v_if_ne d138_619 (by decide) hx kt kf
theorem s138_622 {S : Nat × (Nat → Int32)} {L : List (Option Value)} {st : List Value} {n : Nat} {Q : xQ} {μ : xM} {a : Nat} (hl : L[3]? = some (some (.ref a))) (h : x_V S 138 623 L (.ref a :: st) μ n Q) : x_V S 138 622 L (st) μ n Q := x_aload_n d138_622 hl h
theorem s138_622N {S : Nat × (Nat → Int32)} {L : List (Option Value)} {st : List Value} {n : Nat} {Q : xQ} {μ : xM} (hl : L[3]? = some (some .null)) (h : x_V S 138 623 L (.null :: st) μ n Q) : x_V S 138 622 L st μ n Q := x_aload_nN d138_622 hl h
theorem s138_623 {S : Nat × (Nat → Int32)} {L : List (Option Value)} {st : List Value} {n : Nat} {Q : xQ} {μ : xM}  (h : x_V S 138 624 L (.int (I 0) :: st) μ n Q) : x_V S 138 623 L (st) μ n Q := x_iconst (by decide +kernel) d138_623 h
theorem s138_625 {S : Nat × (Nat → Int32)} {L : List (Option Value)} {st : List Value} {n : Nat} {Q : xQ} {μ : xM} {x : Int32} (hl : L[6]? = some (some (.int x))) (h : x_V S 138 627 L (.int x :: st) μ n Q) : x_V S 138 625 L (st) μ n Q := x_iload d138_625 hl h
theorem s138_627 {S : Nat × (Nat → Int32)} {L : List (Option Value)} {st : List Value} {n : Nat} {Q : xQ} {μ : xM} {x : Int32} (h : x_V S 138 628 L (.long x.toInt64 :: st) μ n Q) : x_V S 138 627 L (.int x :: st) μ n Q := x_i2l d138_627 h
theorem s138_628 {S : Nat × (Nat → Int32)} {L : List (Option Value)} {st : List Value} {n : Nat} {Q : xQ} {μ : xM} {x y : Int64} (h : x_V S 138 629 L (.int (lg_cmp x y) :: st) μ n Q) : x_V S 138 628 L (.long y :: .long x :: st) μ n Q := x_lcmp d138_628 h
theorem s138_629 {S : Nat × (Nat → Int32)} {L : List (Option Value)} {st : List Value} {n : Nat} {Q : xQ} {μ : xM} {x : Int} (hx : ib x) (kt : x = 0 → x_V S 138 634 L (st) μ n Q) (kf : x ≠ 0 → x_V S 138 632 L (st) μ n Q) : x_V S 138 629 L (.int (I x) :: st) μ n Q := v_if_eq d138_629 (by decide) hx kt kf
theorem s138_632 {S : Nat × (Nat → Int32)} {L : List (Option Value)} {st : List Value} {n : Nat} {Q : xQ} {μ : xM}  (h : x_V S 138 633 L (.int (I 0) :: st) μ n Q) : x_V S 138 632 L (st) μ n Q := x_iconst (by decide +kernel) d138_632 h
theorem s138_633 {S : Nat × (Nat → Int32)} {L : List (Option Value)} {st : List Value} {n : Nat} {Q : xQ} {μ : xM} {v : Int} (hv : v = 0 ∨ v = 1) (h : Q (.inl (some (.int (I v)))) μ n) : x_V S 138 633 L (.int (I v) :: []) μ n Q := v_zreturn d138_633 rfl hv h
theorem s138_634 {S : Nat × (Nat → Int32)} {L : List (Option Value)} {st : List Value} {n : Nat} {Q : xQ} {μ : xM}  (h : x_V S 138 761 L (st) μ n Q) : x_V S 138 634 L (st) μ n Q := x_goto (tgt := 761) (by decide) d138_634 h
theorem s138_637 {S : Nat × (Nat → Int32)} {L : List (Option Value)} {st : List Value} {n : Nat} {Q : xQ} {μ : xM} {a : Nat} (hl : L[1]? = some (some (.ref a))) (h : x_V S 138 638 L (.ref a :: st) μ n Q) : x_V S 138 637 L (st) μ n Q := x_aload_n d138_637 hl h
theorem s138_637N {S : Nat × (Nat → Int32)} {L : List (Option Value)} {st : List Value} {n : Nat} {Q : xQ} {μ : xM} (hl : L[1]? = some (some .null)) (h : x_V S 138 638 L (.null :: st) μ n Q) : x_V S 138 637 L st μ n Q := x_aload_nN d138_637 hl h
theorem s138_638 {S : Nat × (Nat → Int32)} {L : List (Option Value)} {st : List Value} {n : Nat} {Q : xQ} {μ : xM} {a : Nat} (hl : L[0]? = some (some (.ref a))) (h : x_V S 138 639 L (.ref a :: st) μ n Q) : x_V S 138 638 L (st) μ n Q := x_aload_n d138_638 hl h
theorem s138_638N {S : Nat × (Nat → Int32)} {L : List (Option Value)} {st : List Value} {n : Nat} {Q : xQ} {μ : xM} (hl : L[0]? = some (some .null)) (h : x_V S 138 639 L (.null :: st) μ n Q) : x_V S 138 638 L st μ n Q := x_aload_nN d138_638 hl h
theorem s138_639 {S : Nat × (Nat → Int32)} {L : List (Option Value)} {st : List Value} {n : Nat} {Q : xQ} {μ : xM} {x : Int32} (hl : L[4]? = some (some (.int x))) (h : x_V S 138 641 L (.int x :: st) μ n Q) : x_V S 138 639 L (st) μ n Q := x_iload d138_639 hl h
theorem s138_641 {S : Nat × (Nat → Int32)} {L : List (Option Value)} {st : List Value} {n : Nat} {Q : xQ} {μ : xM}  (h : x_V S 138 642 L (.int (I 1) :: st) μ n Q) : x_V S 138 641 L (st) μ n Q := x_iconst (by decide +kernel) d138_641 h
theorem s138_642 {S : Nat × (Nat → Int32)} {L : List (Option Value)} {st : List Value} {n : Nat} {Q : xQ} {μ : xM} {x y : Int} (h : x_V S 138 643 L (.int (I (x + y)) :: st) μ n Q) : x_V S 138 642 L (.int (I y) :: .int (I x) :: st) μ n Q := v_iadd d138_642 h
theorem s138_644 {S : Nat × (Nat → Int32)} {L : List (Option Value)} {st : List Value} {n : Nat} {Q : xQ} {μ : xM} {a : Nat} (hl : L[3]? = some (some (.ref a))) (h : x_V S 138 645 L (.ref a :: st) μ n Q) : x_V S 138 644 L (st) μ n Q := x_aload_n d138_644 hl h
theorem s138_644N {S : Nat × (Nat → Int32)} {L : List (Option Value)} {st : List Value} {n : Nat} {Q : xQ} {μ : xM} (hl : L[3]? = some (some .null)) (h : x_V S 138 645 L (.null :: st) μ n Q) : x_V S 138 644 L st μ n Q := x_aload_nN d138_644 hl h
theorem s138_645 {S : Nat × (Nat → Int32)} {L : List (Option Value)} {st : List Value} {n : Nat} {Q : xQ} {μ : xM} {v0 : Value} (hc0 : v0.category = 1) {x1 : Int32} {v2 : Value} (hc2 : v2.category = 1) (hst : st.length ≤ 4) (h : x_V S 136 0 [some (v0), some (.int x1), some (v2), none] [] μ n (x_bk S 138 645 L st Q)) : x_V S 138 645 L (v2 :: .int x1 :: v0 :: st) μ n Q := x_callS (k' := 136) (as := [v0, .int x1, v2]) (na := 3) d138_645 ⟨w675, by decide +kernel, by decide, by decide, by decide, by decide, by decide⟩ w673 w674 w0 (by decide +kernel) rfl (fun v hv => by
    simp only [List.mem_cons, List.not_mem_nil, or_false] at hv
    rcases hv with rfl | rfl | rfl <;> first | rfl | assumption) hst h
theorem s138_648 {S : Nat × (Nat → Int32)} {L : List (Option Value)} {st : List Value} {n : Nat} {Q : xQ} {μ : xM} {x : Int32} (h : x_V S 138 650 (L.set 5 (some (.int x))) (st) μ n Q) : x_V S 138 648 L (.int x :: st) μ n Q := x_istore d138_648 (by decide) h
theorem s138_650 {S : Nat × (Nat → Int32)} {L : List (Option Value)} {st : List Value} {n : Nat} {Q : xQ} {μ : xM} {a : Nat} (hl : L[2]? = some (some (.ref a))) (h : x_V S 138 651 L (.ref a :: st) μ n Q) : x_V S 138 650 L (st) μ n Q := x_aload_n d138_650 hl h
theorem s138_650N {S : Nat × (Nat → Int32)} {L : List (Option Value)} {st : List Value} {n : Nat} {Q : xQ} {μ : xM} (hl : L[2]? = some (some .null)) (h : x_V S 138 651 L (.null :: st) μ n Q) : x_V S 138 650 L st μ n Q := x_aload_nN d138_650 hl h
theorem s138_651 {S : Nat × (Nat → Int32)} {L : List (Option Value)} {st : List Value} {n : Nat} {Q : xQ} {μ : xM} {a : Nat} (hl : L[0]? = some (some (.ref a))) (h : x_V S 138 652 L (.ref a :: st) μ n Q) : x_V S 138 651 L (st) μ n Q := x_aload_n d138_651 hl h
theorem s138_651N {S : Nat × (Nat → Int32)} {L : List (Option Value)} {st : List Value} {n : Nat} {Q : xQ} {μ : xM} (hl : L[0]? = some (some .null)) (h : x_V S 138 652 L (.null :: st) μ n Q) : x_V S 138 651 L st μ n Q := x_aload_nN d138_651 hl h
theorem s138_652 {S : Nat × (Nat → Int32)} {L : List (Option Value)} {st : List Value} {n : Nat} {Q : xQ} {μ : xM} {x : Int32} (hl : L[4]? = some (some (.int x))) (h : x_V S 138 654 L (.int x :: st) μ n Q) : x_V S 138 652 L (st) μ n Q := x_iload d138_652 hl h
theorem s138_654 {S : Nat × (Nat → Int32)} {L : List (Option Value)} {st : List Value} {n : Nat} {Q : xQ} {μ : xM}  (h : x_V S 138 655 L (.int (I 1) :: st) μ n Q) : x_V S 138 654 L (st) μ n Q := x_iconst (by decide +kernel) d138_654 h
theorem s138_655 {S : Nat × (Nat → Int32)} {L : List (Option Value)} {st : List Value} {n : Nat} {Q : xQ} {μ : xM} {x y : Int} (h : x_V S 138 656 L (.int (I (x + y)) :: st) μ n Q) : x_V S 138 655 L (.int (I y) :: .int (I x) :: st) μ n Q := v_iadd d138_655 h
theorem s138_657 {S : Nat × (Nat → Int32)} {L : List (Option Value)} {st : List Value} {n : Nat} {Q : xQ} {μ : xM} {x0 : Int32} {a : Nat} (hs : x_sh a = (9, 39)) (hst : st.length ≤ 4) (h : x_V S 127 0 [some (.ref a), some (.int x0)] [] μ n (x_bk S 138 657 L st Q)) : x_V S 138 657 L (.int x0 :: .ref a :: st) μ n Q := x_callV (k' := 127) (as := [.int x0]) (na := 1) d138_657 ⟨w984, by decide +kernel, by decide, by decide, by decide, by decide, by decide⟩ cf9 w981 w982 w983 (by decide +kernel) rfl hs (fun v hv => by
    simp only [List.mem_cons, List.not_mem_nil, or_false] at hv
    rcases hv with rfl <;> first | rfl | assumption) hst h
theorem s138_660 {S : Nat × (Nat → Int32)} {L : List (Option Value)} {st : List Value} {n : Nat} {Q : xQ} {μ : xM} {x : Int32} (h : x_V S 138 662 (L.set 6 (some (.int x))) (st) μ n Q) : x_V S 138 660 L (.int x :: st) μ n Q := x_istore d138_660 (by decide) h
theorem s138_662 {S : Nat × (Nat → Int32)} {L : List (Option Value)} {st : List Value} {n : Nat} {Q : xQ} {μ : xM} {a : Nat} (hl : L[2]? = some (some (.ref a))) (h : x_V S 138 663 L (.ref a :: st) μ n Q) : x_V S 138 662 L (st) μ n Q := x_aload_n d138_662 hl h
theorem s138_662N {S : Nat × (Nat → Int32)} {L : List (Option Value)} {st : List Value} {n : Nat} {Q : xQ} {μ : xM} (hl : L[2]? = some (some .null)) (h : x_V S 138 663 L (.null :: st) μ n Q) : x_V S 138 662 L st μ n Q := x_aload_nN d138_662 hl h
theorem s138_663 {S : Nat × (Nat → Int32)} {L : List (Option Value)} {st : List Value} {n : Nat} {Q : xQ} {μ : xM}  {a : Nat} (hs : x_sh a = (9, 39)) (hst : st.length ≤ 4) (h : x_V S 84 0 [some (.ref a)] [] μ n (x_bk S 138 663 L st Q)) : x_V S 138 663 L (.ref a :: st) μ n Q := x_callV (k' := 84) (as := []) (na := 0) d138_663 ⟨w817, by decide +kernel, by decide, by decide, by decide, by decide, by decide⟩ cf9 w814 w815 w816 (by decide +kernel) rfl hs (fun v hv => by
    cases hv) hst h
theorem s138_666 {S : Nat × (Nat → Int32)} {L : List (Option Value)} {st : List Value} {n : Nat} {Q : xQ} {μ : xM} {x : Int32} (hl : L[5]? = some (some (.int x))) (h : x_V S 138 668 L (.int x :: st) μ n Q) : x_V S 138 666 L (st) μ n Q := x_iload d138_666 hl h
theorem s138_668 {S : Nat × (Nat → Int32)} {L : List (Option Value)} {st : List Value} {n : Nat} {Q : xQ} {μ : xM} {x y : Int} (hx : ib x) (hy : ib y) (kt : x = y → x_V S 138 673 L (st) μ n Q) (kf : x ≠ y → x_V S 138 671 L (st) μ n Q) : x_V S 138 668 L (.int (I y) :: .int (I x) :: st) μ n Q := v_icmp_eq d138_668 (by decide) hx hy kt kf
theorem s138_671 {S : Nat × (Nat → Int32)} {L : List (Option Value)} {st : List Value} {n : Nat} {Q : xQ} {μ : xM}  (h : x_V S 138 672 L (.int (I 0) :: st) μ n Q) : x_V S 138 671 L (st) μ n Q := x_iconst (by decide +kernel) d138_671 h
theorem s138_672 {S : Nat × (Nat → Int32)} {L : List (Option Value)} {st : List Value} {n : Nat} {Q : xQ} {μ : xM} {v : Int} (hv : v = 0 ∨ v = 1) (h : Q (.inl (some (.int (I v)))) μ n) : x_V S 138 672 L (.int (I v) :: []) μ n Q := v_zreturn d138_672 rfl hv h
theorem s138_673 {S : Nat × (Nat → Int32)} {L : List (Option Value)} {st : List Value} {n : Nat} {Q : xQ} {μ : xM} {x : Int32} (hl : L[5]? = some (some (.int x))) (h : x_V S 138 675 L (.int x :: st) μ n Q) : x_V S 138 673 L (st) μ n Q := x_iload d138_673 hl h
theorem s138_675 {S : Nat × (Nat → Int32)} {L : List (Option Value)} {st : List Value} {n : Nat} {Q : xQ} {μ : xM} {x : Int} (hx : ib x) (kt : x ≠ 0 → x_V S 138 690 L (st) μ n Q) (kf : x = 0 → x_V S 138 678 L (st) μ n Q) : x_V S 138 675 L (.int (I x) :: st) μ n Q := v_if_ne d138_675 (by decide) hx kt kf
theorem s138_678 {S : Nat × (Nat → Int32)} {L : List (Option Value)} {st : List Value} {n : Nat} {Q : xQ} {μ : xM} {a : Nat} (hl : L[3]? = some (some (.ref a))) (h : x_V S 138 679 L (.ref a :: st) μ n Q) : x_V S 138 678 L (st) μ n Q := x_aload_n d138_678 hl h
theorem s138_678N {S : Nat × (Nat → Int32)} {L : List (Option Value)} {st : List Value} {n : Nat} {Q : xQ} {μ : xM} (hl : L[3]? = some (some .null)) (h : x_V S 138 679 L (.null :: st) μ n Q) : x_V S 138 678 L st μ n Q := x_aload_nN d138_678 hl h
theorem s138_679 {S : Nat × (Nat → Int32)} {L : List (Option Value)} {st : List Value} {n : Nat} {Q : xQ} {μ : xM}  (h : x_V S 138 680 L (.int (I 0) :: st) μ n Q) : x_V S 138 679 L (st) μ n Q := x_iconst (by decide +kernel) d138_679 h
theorem s138_681 {S : Nat × (Nat → Int32)} {L : List (Option Value)} {st : List Value} {n : Nat} {Q : xQ} {μ : xM} {x : Int32} (hl : L[6]? = some (some (.int x))) (h : x_V S 138 683 L (.int x :: st) μ n Q) : x_V S 138 681 L (st) μ n Q := x_iload d138_681 hl h
theorem s138_683 {S : Nat × (Nat → Int32)} {L : List (Option Value)} {st : List Value} {n : Nat} {Q : xQ} {μ : xM} {x : Int32} (h : x_V S 138 684 L (.long x.toInt64 :: st) μ n Q) : x_V S 138 683 L (.int x :: st) μ n Q := x_i2l d138_683 h
theorem s138_684 {S : Nat × (Nat → Int32)} {L : List (Option Value)} {st : List Value} {n : Nat} {Q : xQ} {μ : xM} {x y : Int64} (h : x_V S 138 685 L (.int (lg_cmp x y) :: st) μ n Q) : x_V S 138 684 L (.long y :: .long x :: st) μ n Q := x_lcmp d138_684 h
theorem s138_685 {S : Nat × (Nat → Int32)} {L : List (Option Value)} {st : List Value} {n : Nat} {Q : xQ} {μ : xM} {x : Int} (hx : ib x) (kt : x = 0 → x_V S 138 690 L (st) μ n Q) (kf : x ≠ 0 → x_V S 138 688 L (st) μ n Q) : x_V S 138 685 L (.int (I x) :: st) μ n Q := v_if_eq d138_685 (by decide) hx kt kf
theorem s138_688 {S : Nat × (Nat → Int32)} {L : List (Option Value)} {st : List Value} {n : Nat} {Q : xQ} {μ : xM}  (h : x_V S 138 689 L (.int (I 0) :: st) μ n Q) : x_V S 138 688 L (st) μ n Q := x_iconst (by decide +kernel) d138_688 h
theorem s138_689 {S : Nat × (Nat → Int32)} {L : List (Option Value)} {st : List Value} {n : Nat} {Q : xQ} {μ : xM} {v : Int} (hv : v = 0 ∨ v = 1) (h : Q (.inl (some (.int (I v)))) μ n) : x_V S 138 689 L (.int (I v) :: []) μ n Q := v_zreturn d138_689 rfl hv h
theorem s138_690 {S : Nat × (Nat → Int32)} {L : List (Option Value)} {st : List Value} {n : Nat} {Q : xQ} {μ : xM}  (h : x_V S 138 761 L (st) μ n Q) : x_V S 138 690 L (st) μ n Q := x_goto (tgt := 761) (by decide) d138_690 h
theorem s138_693 {S : Nat × (Nat → Int32)} {L : List (Option Value)} {st : List Value} {n : Nat} {Q : xQ} {μ : xM} {a : Nat} (hl : L[1]? = some (some (.ref a))) (h : x_V S 138 694 L (.ref a :: st) μ n Q) : x_V S 138 693 L (st) μ n Q := x_aload_n d138_693 hl h
theorem s138_693N {S : Nat × (Nat → Int32)} {L : List (Option Value)} {st : List Value} {n : Nat} {Q : xQ} {μ : xM} (hl : L[1]? = some (some .null)) (h : x_V S 138 694 L (.null :: st) μ n Q) : x_V S 138 693 L st μ n Q := x_aload_nN d138_693 hl h
theorem s138_694 {S : Nat × (Nat → Int32)} {L : List (Option Value)} {st : List Value} {n : Nat} {Q : xQ} {μ : xM} {a : Nat} (hl : L[0]? = some (some (.ref a))) (h : x_V S 138 695 L (.ref a :: st) μ n Q) : x_V S 138 694 L (st) μ n Q := x_aload_n d138_694 hl h
theorem s138_694N {S : Nat × (Nat → Int32)} {L : List (Option Value)} {st : List Value} {n : Nat} {Q : xQ} {μ : xM} (hl : L[0]? = some (some .null)) (h : x_V S 138 695 L (.null :: st) μ n Q) : x_V S 138 694 L st μ n Q := x_aload_nN d138_694 hl h
theorem s138_695 {S : Nat × (Nat → Int32)} {L : List (Option Value)} {st : List Value} {n : Nat} {Q : xQ} {μ : xM} {x : Int32} (hl : L[4]? = some (some (.int x))) (h : x_V S 138 697 L (.int x :: st) μ n Q) : x_V S 138 695 L (st) μ n Q := x_iload d138_695 hl h
theorem s138_697 {S : Nat × (Nat → Int32)} {L : List (Option Value)} {st : List Value} {n : Nat} {Q : xQ} {μ : xM}  (h : x_V S 138 698 L (.int (I 1) :: st) μ n Q) : x_V S 138 697 L (st) μ n Q := x_iconst (by decide +kernel) d138_697 h
theorem s138_698 {S : Nat × (Nat → Int32)} {L : List (Option Value)} {st : List Value} {n : Nat} {Q : xQ} {μ : xM} {x y : Int} (h : x_V S 138 699 L (.int (I (x + y)) :: st) μ n Q) : x_V S 138 698 L (.int (I y) :: .int (I x) :: st) μ n Q := v_iadd d138_698 h
theorem s138_700 {S : Nat × (Nat → Int32)} {L : List (Option Value)} {st : List Value} {n : Nat} {Q : xQ} {μ : xM} {a : Nat} (hl : L[0]? = some (some (.ref a))) (h : x_V S 138 701 L (.ref a :: st) μ n Q) : x_V S 138 700 L (st) μ n Q := x_aload_n d138_700 hl h
theorem s138_700N {S : Nat × (Nat → Int32)} {L : List (Option Value)} {st : List Value} {n : Nat} {Q : xQ} {μ : xM} (hl : L[0]? = some (some .null)) (h : x_V S 138 701 L (.null :: st) μ n Q) : x_V S 138 700 L st μ n Q := x_aload_nN d138_700 hl h
theorem s138_701 {S : Nat × (Nat → Int32)} {L : List (Option Value)} {st : List Value} {n : Nat} {Q : xQ} {μ : xM} {x : Int32} (hl : L[4]? = some (some (.int x))) (h : x_V S 138 703 L (.int x :: st) μ n Q) : x_V S 138 701 L (st) μ n Q := x_iload d138_701 hl h
theorem s138_703 {S : Nat × (Nat → Int32)} {L : List (Option Value)} {st : List Value} {n : Nat} {Q : xQ} {μ : xM}  (h : x_V S 138 704 L (.int (I 2) :: st) μ n Q) : x_V S 138 703 L (st) μ n Q := x_iconst (by decide +kernel) d138_703 h
theorem s138_704 {S : Nat × (Nat → Int32)} {L : List (Option Value)} {st : List Value} {n : Nat} {Q : xQ} {μ : xM} {x y : Int} (h : x_V S 138 705 L (.int (I (x + y)) :: st) μ n Q) : x_V S 138 704 L (.int (I y) :: .int (I x) :: st) μ n Q := v_iadd d138_704 h
theorem s138_706 {S : Nat × (Nat → Int32)} {L : List (Option Value)} {st : List Value} {n : Nat} {Q : xQ} {μ : xM} {a : Nat} (hl : L[3]? = some (some (.ref a))) (h : x_V S 138 707 L (.ref a :: st) μ n Q) : x_V S 138 706 L (st) μ n Q := x_aload_n d138_706 hl h
theorem s138_706N {S : Nat × (Nat → Int32)} {L : List (Option Value)} {st : List Value} {n : Nat} {Q : xQ} {μ : xM} (hl : L[3]? = some (some .null)) (h : x_V S 138 707 L (.null :: st) μ n Q) : x_V S 138 706 L st μ n Q := x_aload_nN d138_706 hl h
theorem s138_707 {S : Nat × (Nat → Int32)} {L : List (Option Value)} {st : List Value} {n : Nat} {Q : xQ} {μ : xM} {v0 : Value} (hc0 : v0.category = 1) {x1 : Int32} {x2 : Int32} {v3 : Value} (hc3 : v3.category = 1) (hst : st.length ≤ 4) (h : x_V S 137 0 [some (v0), some (.int x1), some (.int x2), some (v3), none] [] μ n (x_bk S 138 707 L st Q)) : x_V S 138 707 L (v3 :: .int x2 :: .int x1 :: v0 :: st) μ n Q := x_callS (k' := 137) (as := [v0, .int x1, .int x2, v3]) (na := 4) d138_707 ⟨w682, by decide +kernel, by decide, by decide, by decide, by decide, by decide⟩ w680 w681 w0 (by decide +kernel) rfl (fun v hv => by
    simp only [List.mem_cons, List.not_mem_nil, or_false] at hv
    rcases hv with rfl | rfl | rfl | rfl <;> first | rfl | assumption) hst h
theorem s138_710 {S : Nat × (Nat → Int32)} {L : List (Option Value)} {st : List Value} {n : Nat} {Q : xQ} {μ : xM} {x : Int32} (h : x_V S 138 712 (L.set 5 (some (.int x))) (st) μ n Q) : x_V S 138 710 L (.int x :: st) μ n Q := x_istore d138_710 (by decide) h
theorem s138_712 {S : Nat × (Nat → Int32)} {L : List (Option Value)} {st : List Value} {n : Nat} {Q : xQ} {μ : xM} {a : Nat} (hl : L[2]? = some (some (.ref a))) (h : x_V S 138 713 L (.ref a :: st) μ n Q) : x_V S 138 712 L (st) μ n Q := x_aload_n d138_712 hl h
theorem s138_712N {S : Nat × (Nat → Int32)} {L : List (Option Value)} {st : List Value} {n : Nat} {Q : xQ} {μ : xM} (hl : L[2]? = some (some .null)) (h : x_V S 138 713 L (.null :: st) μ n Q) : x_V S 138 712 L st μ n Q := x_aload_nN d138_712 hl h
theorem s138_713 {S : Nat × (Nat → Int32)} {L : List (Option Value)} {st : List Value} {n : Nat} {Q : xQ} {μ : xM} {a : Nat} (hl : L[0]? = some (some (.ref a))) (h : x_V S 138 714 L (.ref a :: st) μ n Q) : x_V S 138 713 L (st) μ n Q := x_aload_n d138_713 hl h
theorem s138_713N {S : Nat × (Nat → Int32)} {L : List (Option Value)} {st : List Value} {n : Nat} {Q : xQ} {μ : xM} (hl : L[0]? = some (some .null)) (h : x_V S 138 714 L (.null :: st) μ n Q) : x_V S 138 713 L st μ n Q := x_aload_nN d138_713 hl h
theorem s138_714 {S : Nat × (Nat → Int32)} {L : List (Option Value)} {st : List Value} {n : Nat} {Q : xQ} {μ : xM} {x : Int32} (hl : L[4]? = some (some (.int x))) (h : x_V S 138 716 L (.int x :: st) μ n Q) : x_V S 138 714 L (st) μ n Q := x_iload d138_714 hl h
theorem s138_716 {S : Nat × (Nat → Int32)} {L : List (Option Value)} {st : List Value} {n : Nat} {Q : xQ} {μ : xM}  (h : x_V S 138 717 L (.int (I 1) :: st) μ n Q) : x_V S 138 716 L (st) μ n Q := x_iconst (by decide +kernel) d138_716 h
theorem s138_717 {S : Nat × (Nat → Int32)} {L : List (Option Value)} {st : List Value} {n : Nat} {Q : xQ} {μ : xM} {x y : Int} (h : x_V S 138 718 L (.int (I (x + y)) :: st) μ n Q) : x_V S 138 717 L (.int (I y) :: .int (I x) :: st) μ n Q := v_iadd d138_717 h
theorem s138_719 {S : Nat × (Nat → Int32)} {L : List (Option Value)} {st : List Value} {n : Nat} {Q : xQ} {μ : xM} {a : Nat} (hl : L[0]? = some (some (.ref a))) (h : x_V S 138 720 L (.ref a :: st) μ n Q) : x_V S 138 719 L (st) μ n Q := x_aload_n d138_719 hl h
theorem s138_719N {S : Nat × (Nat → Int32)} {L : List (Option Value)} {st : List Value} {n : Nat} {Q : xQ} {μ : xM} (hl : L[0]? = some (some .null)) (h : x_V S 138 720 L (.null :: st) μ n Q) : x_V S 138 719 L st μ n Q := x_aload_nN d138_719 hl h
theorem s138_720 {S : Nat × (Nat → Int32)} {L : List (Option Value)} {st : List Value} {n : Nat} {Q : xQ} {μ : xM} {x : Int32} (hl : L[4]? = some (some (.int x))) (h : x_V S 138 722 L (.int x :: st) μ n Q) : x_V S 138 720 L (st) μ n Q := x_iload d138_720 hl h
theorem s138_722 {S : Nat × (Nat → Int32)} {L : List (Option Value)} {st : List Value} {n : Nat} {Q : xQ} {μ : xM}  (h : x_V S 138 723 L (.int (I 2) :: st) μ n Q) : x_V S 138 722 L (st) μ n Q := x_iconst (by decide +kernel) d138_722 h
theorem s138_723 {S : Nat × (Nat → Int32)} {L : List (Option Value)} {st : List Value} {n : Nat} {Q : xQ} {μ : xM} {x y : Int} (h : x_V S 138 724 L (.int (I (x + y)) :: st) μ n Q) : x_V S 138 723 L (.int (I y) :: .int (I x) :: st) μ n Q := v_iadd d138_723 h
theorem s138_725 {S : Nat × (Nat → Int32)} {L : List (Option Value)} {st : List Value} {n : Nat} {Q : xQ} {μ : xM} {x0 : Int32} {x1 : Int32} {a : Nat} (hs : x_sh a = (9, 39)) (hst : st.length ≤ 4) (h : x_V S 128 0 [some (.ref a), some (.int x0), some (.int x1), none, none] [] μ n (x_bk S 138 725 L st Q)) : x_V S 138 725 L (.int x1 :: .int x0 :: .ref a :: st) μ n Q := x_callV (k' := 128) (as := [.int x0, .int x1]) (na := 2) d138_725 ⟨w988, by decide +kernel, by decide, by decide, by decide, by decide, by decide⟩ cf9 w985 w986 w987 (by decide +kernel) rfl hs (fun v hv => by
    simp only [List.mem_cons, List.not_mem_nil, or_false] at hv
    rcases hv with rfl | rfl <;> first | rfl | assumption) hst h
theorem s138_728 {S : Nat × (Nat → Int32)} {L : List (Option Value)} {st : List Value} {n : Nat} {Q : xQ} {μ : xM} {x : Int32} (h : x_V S 138 730 (L.set 6 (some (.int x))) (st) μ n Q) : x_V S 138 728 L (.int x :: st) μ n Q := x_istore d138_728 (by decide) h
theorem s138_730 {S : Nat × (Nat → Int32)} {L : List (Option Value)} {st : List Value} {n : Nat} {Q : xQ} {μ : xM} {a : Nat} (hl : L[2]? = some (some (.ref a))) (h : x_V S 138 731 L (.ref a :: st) μ n Q) : x_V S 138 730 L (st) μ n Q := x_aload_n d138_730 hl h
theorem s138_730N {S : Nat × (Nat → Int32)} {L : List (Option Value)} {st : List Value} {n : Nat} {Q : xQ} {μ : xM} (hl : L[2]? = some (some .null)) (h : x_V S 138 731 L (.null :: st) μ n Q) : x_V S 138 730 L st μ n Q := x_aload_nN d138_730 hl h
theorem s138_731 {S : Nat × (Nat → Int32)} {L : List (Option Value)} {st : List Value} {n : Nat} {Q : xQ} {μ : xM}  {a : Nat} (hs : x_sh a = (9, 39)) (hst : st.length ≤ 4) (h : x_V S 84 0 [some (.ref a)] [] μ n (x_bk S 138 731 L st Q)) : x_V S 138 731 L (.ref a :: st) μ n Q := x_callV (k' := 84) (as := []) (na := 0) d138_731 ⟨w817, by decide +kernel, by decide, by decide, by decide, by decide, by decide⟩ cf9 w814 w815 w816 (by decide +kernel) rfl hs (fun v hv => by
    cases hv) hst h
theorem s138_734 {S : Nat × (Nat → Int32)} {L : List (Option Value)} {st : List Value} {n : Nat} {Q : xQ} {μ : xM} {x : Int32} (hl : L[5]? = some (some (.int x))) (h : x_V S 138 736 L (.int x :: st) μ n Q) : x_V S 138 734 L (st) μ n Q := x_iload d138_734 hl h
theorem s138_736 {S : Nat × (Nat → Int32)} {L : List (Option Value)} {st : List Value} {n : Nat} {Q : xQ} {μ : xM} {x y : Int} (hx : ib x) (hy : ib y) (kt : x = y → x_V S 138 741 L (st) μ n Q) (kf : x ≠ y → x_V S 138 739 L (st) μ n Q) : x_V S 138 736 L (.int (I y) :: .int (I x) :: st) μ n Q := v_icmp_eq d138_736 (by decide) hx hy kt kf
theorem s138_739 {S : Nat × (Nat → Int32)} {L : List (Option Value)} {st : List Value} {n : Nat} {Q : xQ} {μ : xM}  (h : x_V S 138 740 L (.int (I 0) :: st) μ n Q) : x_V S 138 739 L (st) μ n Q := x_iconst (by decide +kernel) d138_739 h
theorem s138_740 {S : Nat × (Nat → Int32)} {L : List (Option Value)} {st : List Value} {n : Nat} {Q : xQ} {μ : xM} {v : Int} (hv : v = 0 ∨ v = 1) (h : Q (.inl (some (.int (I v)))) μ n) : x_V S 138 740 L (.int (I v) :: []) μ n Q := v_zreturn d138_740 rfl hv h
theorem s138_741 {S : Nat × (Nat → Int32)} {L : List (Option Value)} {st : List Value} {n : Nat} {Q : xQ} {μ : xM} {x : Int32} (hl : L[5]? = some (some (.int x))) (h : x_V S 138 743 L (.int x :: st) μ n Q) : x_V S 138 741 L (st) μ n Q := x_iload d138_741 hl h
theorem s138_743 {S : Nat × (Nat → Int32)} {L : List (Option Value)} {st : List Value} {n : Nat} {Q : xQ} {μ : xM} {x : Int} (hx : ib x) (kt : x ≠ 0 → x_V S 138 758 L (st) μ n Q) (kf : x = 0 → x_V S 138 746 L (st) μ n Q) : x_V S 138 743 L (.int (I x) :: st) μ n Q := v_if_ne d138_743 (by decide) hx kt kf
theorem s138_746 {S : Nat × (Nat → Int32)} {L : List (Option Value)} {st : List Value} {n : Nat} {Q : xQ} {μ : xM} {a : Nat} (hl : L[3]? = some (some (.ref a))) (h : x_V S 138 747 L (.ref a :: st) μ n Q) : x_V S 138 746 L (st) μ n Q := x_aload_n d138_746 hl h
theorem s138_746N {S : Nat × (Nat → Int32)} {L : List (Option Value)} {st : List Value} {n : Nat} {Q : xQ} {μ : xM} (hl : L[3]? = some (some .null)) (h : x_V S 138 747 L (.null :: st) μ n Q) : x_V S 138 746 L st μ n Q := x_aload_nN d138_746 hl h
theorem s138_747 {S : Nat × (Nat → Int32)} {L : List (Option Value)} {st : List Value} {n : Nat} {Q : xQ} {μ : xM}  (h : x_V S 138 748 L (.int (I 0) :: st) μ n Q) : x_V S 138 747 L (st) μ n Q := x_iconst (by decide +kernel) d138_747 h
theorem s138_749 {S : Nat × (Nat → Int32)} {L : List (Option Value)} {st : List Value} {n : Nat} {Q : xQ} {μ : xM} {x : Int32} (hl : L[6]? = some (some (.int x))) (h : x_V S 138 751 L (.int x :: st) μ n Q) : x_V S 138 749 L (st) μ n Q := x_iload d138_749 hl h
theorem s138_751 {S : Nat × (Nat → Int32)} {L : List (Option Value)} {st : List Value} {n : Nat} {Q : xQ} {μ : xM} {x : Int32} (h : x_V S 138 752 L (.long x.toInt64 :: st) μ n Q) : x_V S 138 751 L (.int x :: st) μ n Q := x_i2l d138_751 h
theorem s138_752 {S : Nat × (Nat → Int32)} {L : List (Option Value)} {st : List Value} {n : Nat} {Q : xQ} {μ : xM} {x y : Int64} (h : x_V S 138 753 L (.int (lg_cmp x y) :: st) μ n Q) : x_V S 138 752 L (.long y :: .long x :: st) μ n Q := x_lcmp d138_752 h
theorem s138_753 {S : Nat × (Nat → Int32)} {L : List (Option Value)} {st : List Value} {n : Nat} {Q : xQ} {μ : xM} {x : Int} (hx : ib x) (kt : x = 0 → x_V S 138 758 L (st) μ n Q) (kf : x ≠ 0 → x_V S 138 756 L (st) μ n Q) : x_V S 138 753 L (.int (I x) :: st) μ n Q := v_if_eq d138_753 (by decide) hx kt kf
theorem s138_756 {S : Nat × (Nat → Int32)} {L : List (Option Value)} {st : List Value} {n : Nat} {Q : xQ} {μ : xM}  (h : x_V S 138 757 L (.int (I 0) :: st) μ n Q) : x_V S 138 756 L (st) μ n Q := x_iconst (by decide +kernel) d138_756 h
theorem s138_757 {S : Nat × (Nat → Int32)} {L : List (Option Value)} {st : List Value} {n : Nat} {Q : xQ} {μ : xM} {v : Int} (hv : v = 0 ∨ v = 1) (h : Q (.inl (some (.int (I v)))) μ n) : x_V S 138 757 L (.int (I v) :: []) μ n Q := v_zreturn d138_757 rfl hv h
theorem s138_758 {S : Nat × (Nat → Int32)} {L : List (Option Value)} {st : List Value} {n : Nat} {Q : xQ} {μ : xM}  (h : x_V S 138 761 L (st) μ n Q) : x_V S 138 758 L (st) μ n Q := x_goto (tgt := 761) (by decide) d138_758 h
theorem s138_761 {S : Nat × (Nat → Int32)} {L : List (Option Value)} {st : List Value} {n : Nat} {Q : xQ} {μ : xM} {x : Int} (hl : L[4]? = some (some (.int (I x)))) (h : x_V S 138 764 (L.set 4 (some (.int (I (x + 7))))) (st) μ n Q) : x_V S 138 761 L (st) μ n Q := v_iinc d138_761 hl (by decide) h
theorem s138_764 {S : Nat × (Nat → Int32)} {L : List (Option Value)} {st : List Value} {n : Nat} {Q : xQ} {μ : xM}  (h : x_V S 138 23 L (st) μ n Q) : x_V S 138 764 L (st) μ n Q := x_goto (tgt := 23) (by decide) d138_764 h
theorem s138_767 {S : Nat × (Nat → Int32)} {L : List (Option Value)} {st : List Value} {n : Nat} {Q : xQ} {μ : xM}  (h : x_V S 138 768 L (.int (I 1) :: st) μ n Q) : x_V S 138 767 L (st) μ n Q := x_iconst (by decide +kernel) d138_767 h
theorem s138_768 {S : Nat × (Nat → Int32)} {L : List (Option Value)} {st : List Value} {n : Nat} {Q : xQ} {μ : xM} {v : Int} (hv : v = 0 ∨ v = 1) (h : Q (.inl (some (.int (I v)))) μ n) : x_V S 138 768 L (.int (I v) :: []) μ n Q := v_zreturn d138_768 rfl hv h
