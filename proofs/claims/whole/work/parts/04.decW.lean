theorem dz_W_law_0 : decode cz_W_law 0 = .ok (.new 7, 3) := by decide +kernel
theorem dz_W_law_3 : decode cz_W_law 3 = .ok (.dup, 1) := by decide +kernel
theorem dz_W_law_4 : decode cz_W_law 4 = .ok (.invokespecial 9, 3) := by decide +kernel
theorem dz_W_law_7 : decode cz_W_law 7 = .ok (.astore_n 1, 1) := by decide +kernel
theorem dz_W_law_8 : decode cz_W_law 8 = .ok (.new 10, 3) := by decide +kernel
theorem dz_W_law_11 : decode cz_W_law 11 = .ok (.dup, 1) := by decide +kernel
theorem dz_W_law_12 : decode cz_W_law 12 = .ok (.invokespecial 12, 3) := by decide +kernel
theorem dz_W_law_15 : decode cz_W_law 15 = .ok (.astore_n 2, 1) := by decide +kernel
theorem dz_W_law_16 : decode cz_W_law 16 = .ok (.iconst 0, 1) := by decide +kernel
theorem dz_W_law_17 : decode cz_W_law 17 = .ok (.istore_n 3, 1) := by decide +kernel
theorem dz_W_law_18 : decode cz_W_law 18 = .ok (.iload_n 3, 1) := by decide +kernel
theorem dz_W_law_19 : decode cz_W_law 19 = .ok (.aload_n 0, 1) := by decide +kernel
theorem dz_W_law_20 : decode cz_W_law 20 = .ok (.arraylength, 1) := by decide +kernel
theorem dz_W_law_21 : decode cz_W_law 21 = .ok (.iconst 5, 1) := by decide +kernel
theorem dz_W_law_22 : decode cz_W_law 22 = .ok (.isub, 1) := by decide +kernel
theorem dz_W_law_23 : decode cz_W_law 23 = .ok (.if_icmp .gt 615, 3) := by decide +kernel
theorem dz_W_law_26 : decode cz_W_law 26 = .ok (.aload_n 0, 1) := by decide +kernel
theorem dz_W_law_27 : decode cz_W_law 27 = .ok (.iload_n 3, 1) := by decide +kernel
theorem dz_W_law_28 : decode cz_W_law 28 = .ok (.iaload, 1) := by decide +kernel
theorem dz_W_law_29 : decode cz_W_law 29 = .ok (.bipush 15, 2) := by decide +kernel
theorem dz_W_law_31 : decode cz_W_law 31 = .ok (.iand, 1) := by decide +kernel
theorem dz_W_law_32 : decode cz_W_law 32 = .ok (.tableswitch 600 0 11 #[64, 87, 110, 173, 246, 309, 372, 395, 468, 521, 554, 577], 64) := by decide +kernel
theorem dz_W_law_96 : decode cz_W_law 96 = .ok (.aload_n 1, 1) := by decide +kernel
theorem dz_W_law_97 : decode cz_W_law 97 = .ok (.aload_n 0, 1) := by decide +kernel
theorem dz_W_law_98 : decode cz_W_law 98 = .ok (.iload_n 3, 1) := by decide +kernel
theorem dz_W_law_99 : decode cz_W_law 99 = .ok (.iconst 1, 1) := by decide +kernel
theorem dz_W_law_100 : decode cz_W_law 100 = .ok (.iadd, 1) := by decide +kernel
theorem dz_W_law_101 : decode cz_W_law 101 = .ok (.iaload, 1) := by decide +kernel
theorem dz_W_law_102 : decode cz_W_law 102 = .ok (.invokevirtual 13, 3) := by decide +kernel
theorem dz_W_law_105 : decode cz_W_law 105 = .ok (.aload_n 2, 1) := by decide +kernel
theorem dz_W_law_106 : decode cz_W_law 106 = .ok (.aload_n 0, 1) := by decide +kernel
theorem dz_W_law_107 : decode cz_W_law 107 = .ok (.iload_n 3, 1) := by decide +kernel
theorem dz_W_law_108 : decode cz_W_law 108 = .ok (.iconst 1, 1) := by decide +kernel
theorem dz_W_law_109 : decode cz_W_law 109 = .ok (.iadd, 1) := by decide +kernel
theorem dz_W_law_110 : decode cz_W_law 110 = .ok (.iaload, 1) := by decide +kernel
theorem dz_W_law_111 : decode cz_W_law 111 = .ok (.invokevirtual 17, 3) := by decide +kernel
theorem dz_W_law_114 : decode cz_W_law 114 = .ok (.if_icmp .eq 518, 3) := by decide +kernel
theorem dz_W_law_117 : decode cz_W_law 117 = .ok (.iconst 0, 1) := by decide +kernel
theorem dz_W_law_118 : decode cz_W_law 118 = .ok (.ireturn, 1) := by decide +kernel
theorem dz_W_law_119 : decode cz_W_law 119 = .ok (.aload_n 1, 1) := by decide +kernel
theorem dz_W_law_120 : decode cz_W_law 120 = .ok (.aload_n 0, 1) := by decide +kernel
theorem dz_W_law_121 : decode cz_W_law 121 = .ok (.iload_n 3, 1) := by decide +kernel
theorem dz_W_law_122 : decode cz_W_law 122 = .ok (.iconst 1, 1) := by decide +kernel
theorem dz_W_law_123 : decode cz_W_law 123 = .ok (.iadd, 1) := by decide +kernel
theorem dz_W_law_124 : decode cz_W_law 124 = .ok (.iaload, 1) := by decide +kernel
theorem dz_W_law_125 : decode cz_W_law 125 = .ok (.invokevirtual 18, 3) := by decide +kernel
theorem dz_W_law_128 : decode cz_W_law 128 = .ok (.aload_n 2, 1) := by decide +kernel
theorem dz_W_law_129 : decode cz_W_law 129 = .ok (.aload_n 0, 1) := by decide +kernel
theorem dz_W_law_130 : decode cz_W_law 130 = .ok (.iload_n 3, 1) := by decide +kernel
theorem dz_W_law_131 : decode cz_W_law 131 = .ok (.iconst 1, 1) := by decide +kernel
theorem dz_W_law_132 : decode cz_W_law 132 = .ok (.iadd, 1) := by decide +kernel
theorem dz_W_law_133 : decode cz_W_law 133 = .ok (.iaload, 1) := by decide +kernel
theorem dz_W_law_134 : decode cz_W_law 134 = .ok (.invokevirtual 21, 3) := by decide +kernel
theorem dz_W_law_137 : decode cz_W_law 137 = .ok (.if_icmp .eq 495, 3) := by decide +kernel
theorem dz_W_law_140 : decode cz_W_law 140 = .ok (.iconst 0, 1) := by decide +kernel
theorem dz_W_law_141 : decode cz_W_law 141 = .ok (.ireturn, 1) := by decide +kernel
theorem dz_W_law_142 : decode cz_W_law 142 = .ok (.aload_n 1, 1) := by decide +kernel
theorem dz_W_law_143 : decode cz_W_law 143 = .ok (.aload_n 0, 1) := by decide +kernel
theorem dz_W_law_144 : decode cz_W_law 144 = .ok (.iload_n 3, 1) := by decide +kernel
theorem dz_W_law_145 : decode cz_W_law 145 = .ok (.iconst 1, 1) := by decide +kernel
theorem dz_W_law_146 : decode cz_W_law 146 = .ok (.iadd, 1) := by decide +kernel
theorem dz_W_law_147 : decode cz_W_law 147 = .ok (.iaload, 1) := by decide +kernel
theorem dz_W_law_148 : decode cz_W_law 148 = .ok (.aload_n 0, 1) := by decide +kernel
theorem dz_W_law_149 : decode cz_W_law 149 = .ok (.iload_n 3, 1) := by decide +kernel
theorem dz_W_law_150 : decode cz_W_law 150 = .ok (.iconst 2, 1) := by decide +kernel
theorem dz_W_law_151 : decode cz_W_law 151 = .ok (.iadd, 1) := by decide +kernel
theorem dz_W_law_152 : decode cz_W_law 152 = .ok (.iaload, 1) := by decide +kernel
theorem dz_W_law_153 : decode cz_W_law 153 = .ok (.i2l, 1) := by decide +kernel
theorem dz_W_law_154 : decode cz_W_law 154 = .ok (.bipush 32, 2) := by decide +kernel
theorem dz_W_law_156 : decode cz_W_law 156 = .ok (.lshl, 1) := by decide +kernel
theorem dz_W_law_157 : decode cz_W_law 157 = .ok (.aload_n 0, 1) := by decide +kernel
theorem dz_W_law_158 : decode cz_W_law 158 = .ok (.iload_n 3, 1) := by decide +kernel
theorem dz_W_law_159 : decode cz_W_law 159 = .ok (.iconst 3, 1) := by decide +kernel
theorem dz_W_law_160 : decode cz_W_law 160 = .ok (.iadd, 1) := by decide +kernel
theorem dz_W_law_161 : decode cz_W_law 161 = .ok (.iaload, 1) := by decide +kernel
theorem dz_W_law_162 : decode cz_W_law 162 = .ok (.i2l, 1) := by decide +kernel
theorem dz_W_law_163 : decode cz_W_law 163 = .ok (.ldc2_w 22, 3) := by decide +kernel
theorem dz_W_law_166 : decode cz_W_law 166 = .ok (.land, 1) := by decide +kernel
theorem dz_W_law_167 : decode cz_W_law 167 = .ok (.lor, 1) := by decide +kernel
theorem dz_W_law_168 : decode cz_W_law 168 = .ok (.invokevirtual 24, 3) := by decide +kernel
theorem dz_W_law_171 : decode cz_W_law 171 = .ok (.aload_n 2, 1) := by decide +kernel
theorem dz_W_law_172 : decode cz_W_law 172 = .ok (.aload_n 0, 1) := by decide +kernel
theorem dz_W_law_173 : decode cz_W_law 173 = .ok (.iload_n 3, 1) := by decide +kernel
theorem dz_W_law_174 : decode cz_W_law 174 = .ok (.iconst 1, 1) := by decide +kernel
theorem dz_W_law_175 : decode cz_W_law 175 = .ok (.iadd, 1) := by decide +kernel
theorem dz_W_law_176 : decode cz_W_law 176 = .ok (.iaload, 1) := by decide +kernel
theorem dz_W_law_177 : decode cz_W_law 177 = .ok (.aload_n 0, 1) := by decide +kernel
theorem dz_W_law_178 : decode cz_W_law 178 = .ok (.iload_n 3, 1) := by decide +kernel
theorem dz_W_law_179 : decode cz_W_law 179 = .ok (.iconst 2, 1) := by decide +kernel
theorem dz_W_law_180 : decode cz_W_law 180 = .ok (.iadd, 1) := by decide +kernel
theorem dz_W_law_181 : decode cz_W_law 181 = .ok (.iaload, 1) := by decide +kernel
theorem dz_W_law_182 : decode cz_W_law 182 = .ok (.i2l, 1) := by decide +kernel
theorem dz_W_law_183 : decode cz_W_law 183 = .ok (.bipush 32, 2) := by decide +kernel
theorem dz_W_law_185 : decode cz_W_law 185 = .ok (.lshl, 1) := by decide +kernel
theorem dz_W_law_186 : decode cz_W_law 186 = .ok (.aload_n 0, 1) := by decide +kernel
theorem dz_W_law_187 : decode cz_W_law 187 = .ok (.iload_n 3, 1) := by decide +kernel
theorem dz_W_law_188 : decode cz_W_law 188 = .ok (.iconst 3, 1) := by decide +kernel
theorem dz_W_law_189 : decode cz_W_law 189 = .ok (.iadd, 1) := by decide +kernel
theorem dz_W_law_190 : decode cz_W_law 190 = .ok (.iaload, 1) := by decide +kernel
theorem dz_W_law_191 : decode cz_W_law 191 = .ok (.i2l, 1) := by decide +kernel
theorem dz_W_law_192 : decode cz_W_law 192 = .ok (.ldc2_w 22, 3) := by decide +kernel
theorem dz_W_law_195 : decode cz_W_law 195 = .ok (.land, 1) := by decide +kernel
theorem dz_W_law_196 : decode cz_W_law 196 = .ok (.lor, 1) := by decide +kernel
theorem dz_W_law_197 : decode cz_W_law 197 = .ok (.invokevirtual 28, 3) := by decide +kernel
theorem dz_W_law_200 : decode cz_W_law 200 = .ok (.if_icmp .eq 432, 3) := by decide +kernel
theorem dz_W_law_203 : decode cz_W_law 203 = .ok (.iconst 0, 1) := by decide +kernel
theorem dz_W_law_204 : decode cz_W_law 204 = .ok (.ireturn, 1) := by decide +kernel
theorem dz_W_law_205 : decode cz_W_law 205 = .ok (.aload_n 1, 1) := by decide +kernel
theorem dz_W_law_206 : decode cz_W_law 206 = .ok (.aload_n 0, 1) := by decide +kernel
theorem dz_W_law_207 : decode cz_W_law 207 = .ok (.iload_n 3, 1) := by decide +kernel
theorem dz_W_law_208 : decode cz_W_law 208 = .ok (.iconst 1, 1) := by decide +kernel
theorem dz_W_law_209 : decode cz_W_law 209 = .ok (.iadd, 1) := by decide +kernel
theorem dz_W_law_210 : decode cz_W_law 210 = .ok (.iaload, 1) := by decide +kernel
theorem dz_W_law_211 : decode cz_W_law 211 = .ok (.aload_n 0, 1) := by decide +kernel
theorem dz_W_law_212 : decode cz_W_law 212 = .ok (.iload_n 3, 1) := by decide +kernel
theorem dz_W_law_213 : decode cz_W_law 213 = .ok (.iconst 2, 1) := by decide +kernel
theorem dz_W_law_214 : decode cz_W_law 214 = .ok (.iadd, 1) := by decide +kernel
theorem dz_W_law_215 : decode cz_W_law 215 = .ok (.iaload, 1) := by decide +kernel
theorem dz_W_law_216 : decode cz_W_law 216 = .ok (.aload_n 0, 1) := by decide +kernel
theorem dz_W_law_217 : decode cz_W_law 217 = .ok (.iload_n 3, 1) := by decide +kernel
theorem dz_W_law_218 : decode cz_W_law 218 = .ok (.iconst 3, 1) := by decide +kernel
theorem dz_W_law_219 : decode cz_W_law 219 = .ok (.iadd, 1) := by decide +kernel
theorem dz_W_law_220 : decode cz_W_law 220 = .ok (.iaload, 1) := by decide +kernel
theorem dz_W_law_221 : decode cz_W_law 221 = .ok (.i2l, 1) := by decide +kernel
theorem dz_W_law_222 : decode cz_W_law 222 = .ok (.bipush 32, 2) := by decide +kernel
theorem dz_W_law_224 : decode cz_W_law 224 = .ok (.lshl, 1) := by decide +kernel
theorem dz_W_law_225 : decode cz_W_law 225 = .ok (.aload_n 0, 1) := by decide +kernel
theorem dz_W_law_226 : decode cz_W_law 226 = .ok (.iload_n 3, 1) := by decide +kernel
theorem dz_W_law_227 : decode cz_W_law 227 = .ok (.iconst 4, 1) := by decide +kernel
theorem dz_W_law_228 : decode cz_W_law 228 = .ok (.iadd, 1) := by decide +kernel
theorem dz_W_law_229 : decode cz_W_law 229 = .ok (.iaload, 1) := by decide +kernel
theorem dz_W_law_230 : decode cz_W_law 230 = .ok (.i2l, 1) := by decide +kernel
theorem dz_W_law_231 : decode cz_W_law 231 = .ok (.ldc2_w 22, 3) := by decide +kernel
theorem dz_W_law_234 : decode cz_W_law 234 = .ok (.land, 1) := by decide +kernel
theorem dz_W_law_235 : decode cz_W_law 235 = .ok (.lor, 1) := by decide +kernel
theorem dz_W_law_236 : decode cz_W_law 236 = .ok (.invokevirtual 29, 3) := by decide +kernel
theorem dz_W_law_239 : decode cz_W_law 239 = .ok (.aload_n 2, 1) := by decide +kernel
theorem dz_W_law_240 : decode cz_W_law 240 = .ok (.aload_n 0, 1) := by decide +kernel
theorem dz_W_law_241 : decode cz_W_law 241 = .ok (.iload_n 3, 1) := by decide +kernel
theorem dz_W_law_242 : decode cz_W_law 242 = .ok (.iconst 1, 1) := by decide +kernel
theorem dz_W_law_243 : decode cz_W_law 243 = .ok (.iadd, 1) := by decide +kernel
theorem dz_W_law_244 : decode cz_W_law 244 = .ok (.iaload, 1) := by decide +kernel
theorem dz_W_law_245 : decode cz_W_law 245 = .ok (.aload_n 0, 1) := by decide +kernel
theorem dz_W_law_246 : decode cz_W_law 246 = .ok (.iload_n 3, 1) := by decide +kernel
theorem dz_W_law_247 : decode cz_W_law 247 = .ok (.iconst 2, 1) := by decide +kernel
theorem dz_W_law_248 : decode cz_W_law 248 = .ok (.iadd, 1) := by decide +kernel
theorem dz_W_law_249 : decode cz_W_law 249 = .ok (.iaload, 1) := by decide +kernel
theorem dz_W_law_250 : decode cz_W_law 250 = .ok (.aload_n 0, 1) := by decide +kernel
theorem dz_W_law_251 : decode cz_W_law 251 = .ok (.iload_n 3, 1) := by decide +kernel
theorem dz_W_law_252 : decode cz_W_law 252 = .ok (.iconst 3, 1) := by decide +kernel
theorem dz_W_law_253 : decode cz_W_law 253 = .ok (.iadd, 1) := by decide +kernel
theorem dz_W_law_254 : decode cz_W_law 254 = .ok (.iaload, 1) := by decide +kernel
theorem dz_W_law_255 : decode cz_W_law 255 = .ok (.i2l, 1) := by decide +kernel
theorem dz_W_law_256 : decode cz_W_law 256 = .ok (.bipush 32, 2) := by decide +kernel
theorem dz_W_law_258 : decode cz_W_law 258 = .ok (.lshl, 1) := by decide +kernel
theorem dz_W_law_259 : decode cz_W_law 259 = .ok (.aload_n 0, 1) := by decide +kernel
theorem dz_W_law_260 : decode cz_W_law 260 = .ok (.iload_n 3, 1) := by decide +kernel
theorem dz_W_law_261 : decode cz_W_law 261 = .ok (.iconst 4, 1) := by decide +kernel
theorem dz_W_law_262 : decode cz_W_law 262 = .ok (.iadd, 1) := by decide +kernel
theorem dz_W_law_263 : decode cz_W_law 263 = .ok (.iaload, 1) := by decide +kernel
theorem dz_W_law_264 : decode cz_W_law 264 = .ok (.i2l, 1) := by decide +kernel
theorem dz_W_law_265 : decode cz_W_law 265 = .ok (.ldc2_w 22, 3) := by decide +kernel
theorem dz_W_law_268 : decode cz_W_law 268 = .ok (.land, 1) := by decide +kernel
theorem dz_W_law_269 : decode cz_W_law 269 = .ok (.lor, 1) := by decide +kernel
theorem dz_W_law_270 : decode cz_W_law 270 = .ok (.invokevirtual 33, 3) := by decide +kernel
theorem dz_W_law_273 : decode cz_W_law 273 = .ok (.if_icmp .eq 359, 3) := by decide +kernel
theorem dz_W_law_276 : decode cz_W_law 276 = .ok (.iconst 0, 1) := by decide +kernel
theorem dz_W_law_277 : decode cz_W_law 277 = .ok (.ireturn, 1) := by decide +kernel
theorem dz_W_law_278 : decode cz_W_law 278 = .ok (.aload_n 1, 1) := by decide +kernel
theorem dz_W_law_279 : decode cz_W_law 279 = .ok (.aload_n 0, 1) := by decide +kernel
theorem dz_W_law_280 : decode cz_W_law 280 = .ok (.iload_n 3, 1) := by decide +kernel
theorem dz_W_law_281 : decode cz_W_law 281 = .ok (.iconst 1, 1) := by decide +kernel
theorem dz_W_law_282 : decode cz_W_law 282 = .ok (.iadd, 1) := by decide +kernel
theorem dz_W_law_283 : decode cz_W_law 283 = .ok (.iaload, 1) := by decide +kernel
theorem dz_W_law_284 : decode cz_W_law 284 = .ok (.aload_n 0, 1) := by decide +kernel
theorem dz_W_law_285 : decode cz_W_law 285 = .ok (.iload_n 3, 1) := by decide +kernel
theorem dz_W_law_286 : decode cz_W_law 286 = .ok (.iconst 2, 1) := by decide +kernel
theorem dz_W_law_287 : decode cz_W_law 287 = .ok (.iadd, 1) := by decide +kernel
theorem dz_W_law_288 : decode cz_W_law 288 = .ok (.iaload, 1) := by decide +kernel
theorem dz_W_law_289 : decode cz_W_law 289 = .ok (.i2l, 1) := by decide +kernel
theorem dz_W_law_290 : decode cz_W_law 290 = .ok (.bipush 32, 2) := by decide +kernel
theorem dz_W_law_292 : decode cz_W_law 292 = .ok (.lshl, 1) := by decide +kernel
theorem dz_W_law_293 : decode cz_W_law 293 = .ok (.aload_n 0, 1) := by decide +kernel
theorem dz_W_law_294 : decode cz_W_law 294 = .ok (.iload_n 3, 1) := by decide +kernel
theorem dz_W_law_295 : decode cz_W_law 295 = .ok (.iconst 3, 1) := by decide +kernel
theorem dz_W_law_296 : decode cz_W_law 296 = .ok (.iadd, 1) := by decide +kernel
theorem dz_W_law_297 : decode cz_W_law 297 = .ok (.iaload, 1) := by decide +kernel
theorem dz_W_law_298 : decode cz_W_law 298 = .ok (.i2l, 1) := by decide +kernel
theorem dz_W_law_299 : decode cz_W_law 299 = .ok (.ldc2_w 22, 3) := by decide +kernel
theorem dz_W_law_302 : decode cz_W_law 302 = .ok (.land, 1) := by decide +kernel
theorem dz_W_law_303 : decode cz_W_law 303 = .ok (.lor, 1) := by decide +kernel
theorem dz_W_law_304 : decode cz_W_law 304 = .ok (.invokevirtual 34, 3) := by decide +kernel
theorem dz_W_law_307 : decode cz_W_law 307 = .ok (.aload_n 2, 1) := by decide +kernel
theorem dz_W_law_308 : decode cz_W_law 308 = .ok (.aload_n 0, 1) := by decide +kernel
theorem dz_W_law_309 : decode cz_W_law 309 = .ok (.iload_n 3, 1) := by decide +kernel
theorem dz_W_law_310 : decode cz_W_law 310 = .ok (.iconst 1, 1) := by decide +kernel
theorem dz_W_law_311 : decode cz_W_law 311 = .ok (.iadd, 1) := by decide +kernel
theorem dz_W_law_312 : decode cz_W_law 312 = .ok (.iaload, 1) := by decide +kernel
theorem dz_W_law_313 : decode cz_W_law 313 = .ok (.aload_n 0, 1) := by decide +kernel
theorem dz_W_law_314 : decode cz_W_law 314 = .ok (.iload_n 3, 1) := by decide +kernel
theorem dz_W_law_315 : decode cz_W_law 315 = .ok (.iconst 2, 1) := by decide +kernel
theorem dz_W_law_316 : decode cz_W_law 316 = .ok (.iadd, 1) := by decide +kernel
theorem dz_W_law_317 : decode cz_W_law 317 = .ok (.iaload, 1) := by decide +kernel
theorem dz_W_law_318 : decode cz_W_law 318 = .ok (.i2l, 1) := by decide +kernel
theorem dz_W_law_319 : decode cz_W_law 319 = .ok (.bipush 32, 2) := by decide +kernel
theorem dz_W_law_321 : decode cz_W_law 321 = .ok (.lshl, 1) := by decide +kernel
theorem dz_W_law_322 : decode cz_W_law 322 = .ok (.aload_n 0, 1) := by decide +kernel
theorem dz_W_law_323 : decode cz_W_law 323 = .ok (.iload_n 3, 1) := by decide +kernel
theorem dz_W_law_324 : decode cz_W_law 324 = .ok (.iconst 3, 1) := by decide +kernel
theorem dz_W_law_325 : decode cz_W_law 325 = .ok (.iadd, 1) := by decide +kernel
theorem dz_W_law_326 : decode cz_W_law 326 = .ok (.iaload, 1) := by decide +kernel
theorem dz_W_law_327 : decode cz_W_law 327 = .ok (.i2l, 1) := by decide +kernel
theorem dz_W_law_328 : decode cz_W_law 328 = .ok (.ldc2_w 22, 3) := by decide +kernel
theorem dz_W_law_331 : decode cz_W_law 331 = .ok (.land, 1) := by decide +kernel
theorem dz_W_law_332 : decode cz_W_law 332 = .ok (.lor, 1) := by decide +kernel
theorem dz_W_law_333 : decode cz_W_law 333 = .ok (.invokevirtual 37, 3) := by decide +kernel
theorem dz_W_law_336 : decode cz_W_law 336 = .ok (.if_icmp .eq 296, 3) := by decide +kernel
theorem dz_W_law_339 : decode cz_W_law 339 = .ok (.iconst 0, 1) := by decide +kernel
theorem dz_W_law_340 : decode cz_W_law 340 = .ok (.ireturn, 1) := by decide +kernel
theorem dz_W_law_341 : decode cz_W_law 341 = .ok (.aload_n 1, 1) := by decide +kernel
theorem dz_W_law_342 : decode cz_W_law 342 = .ok (.aload_n 0, 1) := by decide +kernel
theorem dz_W_law_343 : decode cz_W_law 343 = .ok (.iload_n 3, 1) := by decide +kernel
theorem dz_W_law_344 : decode cz_W_law 344 = .ok (.iconst 1, 1) := by decide +kernel
theorem dz_W_law_345 : decode cz_W_law 345 = .ok (.iadd, 1) := by decide +kernel
theorem dz_W_law_346 : decode cz_W_law 346 = .ok (.iaload, 1) := by decide +kernel
theorem dz_W_law_347 : decode cz_W_law 347 = .ok (.aload_n 0, 1) := by decide +kernel
theorem dz_W_law_348 : decode cz_W_law 348 = .ok (.iload_n 3, 1) := by decide +kernel
theorem dz_W_law_349 : decode cz_W_law 349 = .ok (.iconst 2, 1) := by decide +kernel
theorem dz_W_law_350 : decode cz_W_law 350 = .ok (.iadd, 1) := by decide +kernel
theorem dz_W_law_351 : decode cz_W_law 351 = .ok (.iaload, 1) := by decide +kernel
theorem dz_W_law_352 : decode cz_W_law 352 = .ok (.i2l, 1) := by decide +kernel
theorem dz_W_law_353 : decode cz_W_law 353 = .ok (.bipush 32, 2) := by decide +kernel
theorem dz_W_law_355 : decode cz_W_law 355 = .ok (.lshl, 1) := by decide +kernel
theorem dz_W_law_356 : decode cz_W_law 356 = .ok (.aload_n 0, 1) := by decide +kernel
theorem dz_W_law_357 : decode cz_W_law 357 = .ok (.iload_n 3, 1) := by decide +kernel
theorem dz_W_law_358 : decode cz_W_law 358 = .ok (.iconst 3, 1) := by decide +kernel
theorem dz_W_law_359 : decode cz_W_law 359 = .ok (.iadd, 1) := by decide +kernel
theorem dz_W_law_360 : decode cz_W_law 360 = .ok (.iaload, 1) := by decide +kernel
theorem dz_W_law_361 : decode cz_W_law 361 = .ok (.i2l, 1) := by decide +kernel
theorem dz_W_law_362 : decode cz_W_law 362 = .ok (.ldc2_w 22, 3) := by decide +kernel
theorem dz_W_law_365 : decode cz_W_law 365 = .ok (.land, 1) := by decide +kernel
theorem dz_W_law_366 : decode cz_W_law 366 = .ok (.lor, 1) := by decide +kernel
theorem dz_W_law_367 : decode cz_W_law 367 = .ok (.invokevirtual 38, 3) := by decide +kernel
theorem dz_W_law_370 : decode cz_W_law 370 = .ok (.aload_n 2, 1) := by decide +kernel
theorem dz_W_law_371 : decode cz_W_law 371 = .ok (.aload_n 0, 1) := by decide +kernel
theorem dz_W_law_372 : decode cz_W_law 372 = .ok (.iload_n 3, 1) := by decide +kernel
theorem dz_W_law_373 : decode cz_W_law 373 = .ok (.iconst 1, 1) := by decide +kernel
theorem dz_W_law_374 : decode cz_W_law 374 = .ok (.iadd, 1) := by decide +kernel
theorem dz_W_law_375 : decode cz_W_law 375 = .ok (.iaload, 1) := by decide +kernel
theorem dz_W_law_376 : decode cz_W_law 376 = .ok (.aload_n 0, 1) := by decide +kernel
theorem dz_W_law_377 : decode cz_W_law 377 = .ok (.iload_n 3, 1) := by decide +kernel
theorem dz_W_law_378 : decode cz_W_law 378 = .ok (.iconst 2, 1) := by decide +kernel
theorem dz_W_law_379 : decode cz_W_law 379 = .ok (.iadd, 1) := by decide +kernel
theorem dz_W_law_380 : decode cz_W_law 380 = .ok (.iaload, 1) := by decide +kernel
theorem dz_W_law_381 : decode cz_W_law 381 = .ok (.i2l, 1) := by decide +kernel
theorem dz_W_law_382 : decode cz_W_law 382 = .ok (.bipush 32, 2) := by decide +kernel
theorem dz_W_law_384 : decode cz_W_law 384 = .ok (.lshl, 1) := by decide +kernel
theorem dz_W_law_385 : decode cz_W_law 385 = .ok (.aload_n 0, 1) := by decide +kernel
theorem dz_W_law_386 : decode cz_W_law 386 = .ok (.iload_n 3, 1) := by decide +kernel
theorem dz_W_law_387 : decode cz_W_law 387 = .ok (.iconst 3, 1) := by decide +kernel
theorem dz_W_law_388 : decode cz_W_law 388 = .ok (.iadd, 1) := by decide +kernel
theorem dz_W_law_389 : decode cz_W_law 389 = .ok (.iaload, 1) := by decide +kernel
theorem dz_W_law_390 : decode cz_W_law 390 = .ok (.i2l, 1) := by decide +kernel
theorem dz_W_law_391 : decode cz_W_law 391 = .ok (.ldc2_w 22, 3) := by decide +kernel
theorem dz_W_law_394 : decode cz_W_law 394 = .ok (.land, 1) := by decide +kernel
theorem dz_W_law_395 : decode cz_W_law 395 = .ok (.lor, 1) := by decide +kernel
theorem dz_W_law_396 : decode cz_W_law 396 = .ok (.invokevirtual 41, 3) := by decide +kernel
theorem dz_W_law_399 : decode cz_W_law 399 = .ok (.if_icmp .eq 233, 3) := by decide +kernel
theorem dz_W_law_402 : decode cz_W_law 402 = .ok (.iconst 0, 1) := by decide +kernel
theorem dz_W_law_403 : decode cz_W_law 403 = .ok (.ireturn, 1) := by decide +kernel
theorem dz_W_law_404 : decode cz_W_law 404 = .ok (.aload_n 1, 1) := by decide +kernel
theorem dz_W_law_405 : decode cz_W_law 405 = .ok (.aload_n 0, 1) := by decide +kernel
theorem dz_W_law_406 : decode cz_W_law 406 = .ok (.iload_n 3, 1) := by decide +kernel
theorem dz_W_law_407 : decode cz_W_law 407 = .ok (.iconst 1, 1) := by decide +kernel
theorem dz_W_law_408 : decode cz_W_law 408 = .ok (.iadd, 1) := by decide +kernel
theorem dz_W_law_409 : decode cz_W_law 409 = .ok (.iaload, 1) := by decide +kernel
theorem dz_W_law_410 : decode cz_W_law 410 = .ok (.invokevirtual 42, 3) := by decide +kernel
theorem dz_W_law_413 : decode cz_W_law 413 = .ok (.aload_n 2, 1) := by decide +kernel
theorem dz_W_law_414 : decode cz_W_law 414 = .ok (.aload_n 0, 1) := by decide +kernel
theorem dz_W_law_415 : decode cz_W_law 415 = .ok (.iload_n 3, 1) := by decide +kernel
theorem dz_W_law_416 : decode cz_W_law 416 = .ok (.iconst 1, 1) := by decide +kernel
theorem dz_W_law_417 : decode cz_W_law 417 = .ok (.iadd, 1) := by decide +kernel
theorem dz_W_law_418 : decode cz_W_law 418 = .ok (.iaload, 1) := by decide +kernel
theorem dz_W_law_419 : decode cz_W_law 419 = .ok (.invokevirtual 45, 3) := by decide +kernel
theorem dz_W_law_422 : decode cz_W_law 422 = .ok (.if_icmp .eq 210, 3) := by decide +kernel
theorem dz_W_law_425 : decode cz_W_law 425 = .ok (.iconst 0, 1) := by decide +kernel
theorem dz_W_law_426 : decode cz_W_law 426 = .ok (.ireturn, 1) := by decide +kernel
theorem dz_W_law_427 : decode cz_W_law 427 = .ok (.aload_n 1, 1) := by decide +kernel
theorem dz_W_law_428 : decode cz_W_law 428 = .ok (.aload_n 0, 1) := by decide +kernel
theorem dz_W_law_429 : decode cz_W_law 429 = .ok (.iload_n 3, 1) := by decide +kernel
theorem dz_W_law_430 : decode cz_W_law 430 = .ok (.iconst 1, 1) := by decide +kernel
theorem dz_W_law_431 : decode cz_W_law 431 = .ok (.iadd, 1) := by decide +kernel
theorem dz_W_law_432 : decode cz_W_law 432 = .ok (.iaload, 1) := by decide +kernel
theorem dz_W_law_433 : decode cz_W_law 433 = .ok (.aload_n 0, 1) := by decide +kernel
theorem dz_W_law_434 : decode cz_W_law 434 = .ok (.iload_n 3, 1) := by decide +kernel
theorem dz_W_law_435 : decode cz_W_law 435 = .ok (.iconst 2, 1) := by decide +kernel
theorem dz_W_law_436 : decode cz_W_law 436 = .ok (.iadd, 1) := by decide +kernel
theorem dz_W_law_437 : decode cz_W_law 437 = .ok (.iaload, 1) := by decide +kernel
theorem dz_W_law_438 : decode cz_W_law 438 = .ok (.aload_n 0, 1) := by decide +kernel
theorem dz_W_law_439 : decode cz_W_law 439 = .ok (.iload_n 3, 1) := by decide +kernel
theorem dz_W_law_440 : decode cz_W_law 440 = .ok (.iconst 3, 1) := by decide +kernel
theorem dz_W_law_441 : decode cz_W_law 441 = .ok (.iadd, 1) := by decide +kernel
theorem dz_W_law_442 : decode cz_W_law 442 = .ok (.iaload, 1) := by decide +kernel
theorem dz_W_law_443 : decode cz_W_law 443 = .ok (.i2l, 1) := by decide +kernel
theorem dz_W_law_444 : decode cz_W_law 444 = .ok (.bipush 32, 2) := by decide +kernel
theorem dz_W_law_446 : decode cz_W_law 446 = .ok (.lshl, 1) := by decide +kernel
theorem dz_W_law_447 : decode cz_W_law 447 = .ok (.aload_n 0, 1) := by decide +kernel
theorem dz_W_law_448 : decode cz_W_law 448 = .ok (.iload_n 3, 1) := by decide +kernel
theorem dz_W_law_449 : decode cz_W_law 449 = .ok (.iconst 4, 1) := by decide +kernel
theorem dz_W_law_450 : decode cz_W_law 450 = .ok (.iadd, 1) := by decide +kernel
theorem dz_W_law_451 : decode cz_W_law 451 = .ok (.iaload, 1) := by decide +kernel
theorem dz_W_law_452 : decode cz_W_law 452 = .ok (.i2l, 1) := by decide +kernel
theorem dz_W_law_453 : decode cz_W_law 453 = .ok (.ldc2_w 22, 3) := by decide +kernel
theorem dz_W_law_456 : decode cz_W_law 456 = .ok (.land, 1) := by decide +kernel
theorem dz_W_law_457 : decode cz_W_law 457 = .ok (.lor, 1) := by decide +kernel
theorem dz_W_law_458 : decode cz_W_law 458 = .ok (.invokevirtual 46, 3) := by decide +kernel
theorem dz_W_law_461 : decode cz_W_law 461 = .ok (.aload_n 2, 1) := by decide +kernel
theorem dz_W_law_462 : decode cz_W_law 462 = .ok (.aload_n 0, 1) := by decide +kernel
theorem dz_W_law_463 : decode cz_W_law 463 = .ok (.iload_n 3, 1) := by decide +kernel
theorem dz_W_law_464 : decode cz_W_law 464 = .ok (.iconst 1, 1) := by decide +kernel
theorem dz_W_law_465 : decode cz_W_law 465 = .ok (.iadd, 1) := by decide +kernel
theorem dz_W_law_466 : decode cz_W_law 466 = .ok (.iaload, 1) := by decide +kernel
theorem dz_W_law_467 : decode cz_W_law 467 = .ok (.aload_n 0, 1) := by decide +kernel
theorem dz_W_law_468 : decode cz_W_law 468 = .ok (.iload_n 3, 1) := by decide +kernel
theorem dz_W_law_469 : decode cz_W_law 469 = .ok (.iconst 2, 1) := by decide +kernel
theorem dz_W_law_470 : decode cz_W_law 470 = .ok (.iadd, 1) := by decide +kernel
theorem dz_W_law_471 : decode cz_W_law 471 = .ok (.iaload, 1) := by decide +kernel
theorem dz_W_law_472 : decode cz_W_law 472 = .ok (.aload_n 0, 1) := by decide +kernel
theorem dz_W_law_473 : decode cz_W_law 473 = .ok (.iload_n 3, 1) := by decide +kernel
theorem dz_W_law_474 : decode cz_W_law 474 = .ok (.iconst 3, 1) := by decide +kernel
theorem dz_W_law_475 : decode cz_W_law 475 = .ok (.iadd, 1) := by decide +kernel
theorem dz_W_law_476 : decode cz_W_law 476 = .ok (.iaload, 1) := by decide +kernel
theorem dz_W_law_477 : decode cz_W_law 477 = .ok (.i2l, 1) := by decide +kernel
theorem dz_W_law_478 : decode cz_W_law 478 = .ok (.bipush 32, 2) := by decide +kernel
theorem dz_W_law_480 : decode cz_W_law 480 = .ok (.lshl, 1) := by decide +kernel
theorem dz_W_law_481 : decode cz_W_law 481 = .ok (.aload_n 0, 1) := by decide +kernel
theorem dz_W_law_482 : decode cz_W_law 482 = .ok (.iload_n 3, 1) := by decide +kernel
theorem dz_W_law_483 : decode cz_W_law 483 = .ok (.iconst 4, 1) := by decide +kernel
theorem dz_W_law_484 : decode cz_W_law 484 = .ok (.iadd, 1) := by decide +kernel
theorem dz_W_law_485 : decode cz_W_law 485 = .ok (.iaload, 1) := by decide +kernel
theorem dz_W_law_486 : decode cz_W_law 486 = .ok (.i2l, 1) := by decide +kernel
theorem dz_W_law_487 : decode cz_W_law 487 = .ok (.ldc2_w 22, 3) := by decide +kernel
theorem dz_W_law_490 : decode cz_W_law 490 = .ok (.land, 1) := by decide +kernel
theorem dz_W_law_491 : decode cz_W_law 491 = .ok (.lor, 1) := by decide +kernel
theorem dz_W_law_492 : decode cz_W_law 492 = .ok (.invokevirtual 49, 3) := by decide +kernel
theorem dz_W_law_495 : decode cz_W_law 495 = .ok (.if_icmp .eq 137, 3) := by decide +kernel
theorem dz_W_law_498 : decode cz_W_law 498 = .ok (.iconst 0, 1) := by decide +kernel
theorem dz_W_law_499 : decode cz_W_law 499 = .ok (.ireturn, 1) := by decide +kernel
theorem dz_W_law_500 : decode cz_W_law 500 = .ok (.aload_n 1, 1) := by decide +kernel
theorem dz_W_law_501 : decode cz_W_law 501 = .ok (.aload_n 0, 1) := by decide +kernel
theorem dz_W_law_502 : decode cz_W_law 502 = .ok (.iload_n 3, 1) := by decide +kernel
theorem dz_W_law_503 : decode cz_W_law 503 = .ok (.iconst 1, 1) := by decide +kernel
theorem dz_W_law_504 : decode cz_W_law 504 = .ok (.iadd, 1) := by decide +kernel
theorem dz_W_law_505 : decode cz_W_law 505 = .ok (.iaload, 1) := by decide +kernel
theorem dz_W_law_506 : decode cz_W_law 506 = .ok (.i2l, 1) := by decide +kernel
theorem dz_W_law_507 : decode cz_W_law 507 = .ok (.bipush 32, 2) := by decide +kernel
theorem dz_W_law_509 : decode cz_W_law 509 = .ok (.lshl, 1) := by decide +kernel
theorem dz_W_law_510 : decode cz_W_law 510 = .ok (.aload_n 0, 1) := by decide +kernel
theorem dz_W_law_511 : decode cz_W_law 511 = .ok (.iload_n 3, 1) := by decide +kernel
theorem dz_W_law_512 : decode cz_W_law 512 = .ok (.iconst 2, 1) := by decide +kernel
theorem dz_W_law_513 : decode cz_W_law 513 = .ok (.iadd, 1) := by decide +kernel
theorem dz_W_law_514 : decode cz_W_law 514 = .ok (.iaload, 1) := by decide +kernel
theorem dz_W_law_515 : decode cz_W_law 515 = .ok (.i2l, 1) := by decide +kernel
theorem dz_W_law_516 : decode cz_W_law 516 = .ok (.ldc2_w 22, 3) := by decide +kernel
theorem dz_W_law_519 : decode cz_W_law 519 = .ok (.land, 1) := by decide +kernel
theorem dz_W_law_520 : decode cz_W_law 520 = .ok (.lor, 1) := by decide +kernel
theorem dz_W_law_521 : decode cz_W_law 521 = .ok (.invokevirtual 50, 3) := by decide +kernel
theorem dz_W_law_524 : decode cz_W_law 524 = .ok (.aload_n 2, 1) := by decide +kernel
theorem dz_W_law_525 : decode cz_W_law 525 = .ok (.aload_n 0, 1) := by decide +kernel
theorem dz_W_law_526 : decode cz_W_law 526 = .ok (.iload_n 3, 1) := by decide +kernel
theorem dz_W_law_527 : decode cz_W_law 527 = .ok (.iconst 1, 1) := by decide +kernel
theorem dz_W_law_528 : decode cz_W_law 528 = .ok (.iadd, 1) := by decide +kernel
theorem dz_W_law_529 : decode cz_W_law 529 = .ok (.iaload, 1) := by decide +kernel
theorem dz_W_law_530 : decode cz_W_law 530 = .ok (.i2l, 1) := by decide +kernel
theorem dz_W_law_531 : decode cz_W_law 531 = .ok (.bipush 32, 2) := by decide +kernel
theorem dz_W_law_533 : decode cz_W_law 533 = .ok (.lshl, 1) := by decide +kernel
theorem dz_W_law_534 : decode cz_W_law 534 = .ok (.aload_n 0, 1) := by decide +kernel
theorem dz_W_law_535 : decode cz_W_law 535 = .ok (.iload_n 3, 1) := by decide +kernel
theorem dz_W_law_536 : decode cz_W_law 536 = .ok (.iconst 2, 1) := by decide +kernel
theorem dz_W_law_537 : decode cz_W_law 537 = .ok (.iadd, 1) := by decide +kernel
theorem dz_W_law_538 : decode cz_W_law 538 = .ok (.iaload, 1) := by decide +kernel
theorem dz_W_law_539 : decode cz_W_law 539 = .ok (.i2l, 1) := by decide +kernel
theorem dz_W_law_540 : decode cz_W_law 540 = .ok (.ldc2_w 22, 3) := by decide +kernel
theorem dz_W_law_543 : decode cz_W_law 543 = .ok (.land, 1) := by decide +kernel
theorem dz_W_law_544 : decode cz_W_law 544 = .ok (.lor, 1) := by decide +kernel
theorem dz_W_law_545 : decode cz_W_law 545 = .ok (.invokevirtual 54, 3) := by decide +kernel
theorem dz_W_law_548 : decode cz_W_law 548 = .ok (.if_icmp .eq 84, 3) := by decide +kernel
theorem dz_W_law_551 : decode cz_W_law 551 = .ok (.iconst 0, 1) := by decide +kernel
theorem dz_W_law_552 : decode cz_W_law 552 = .ok (.ireturn, 1) := by decide +kernel
theorem dz_W_law_553 : decode cz_W_law 553 = .ok (.aload_n 1, 1) := by decide +kernel
theorem dz_W_law_554 : decode cz_W_law 554 = .ok (.aload_n 0, 1) := by decide +kernel
theorem dz_W_law_555 : decode cz_W_law 555 = .ok (.iload_n 3, 1) := by decide +kernel
theorem dz_W_law_556 : decode cz_W_law 556 = .ok (.iconst 1, 1) := by decide +kernel
theorem dz_W_law_557 : decode cz_W_law 557 = .ok (.iadd, 1) := by decide +kernel
theorem dz_W_law_558 : decode cz_W_law 558 = .ok (.iaload, 1) := by decide +kernel
theorem dz_W_law_559 : decode cz_W_law 559 = .ok (.aload_n 0, 1) := by decide +kernel
theorem dz_W_law_560 : decode cz_W_law 560 = .ok (.iload_n 3, 1) := by decide +kernel
theorem dz_W_law_561 : decode cz_W_law 561 = .ok (.iconst 2, 1) := by decide +kernel
theorem dz_W_law_562 : decode cz_W_law 562 = .ok (.iadd, 1) := by decide +kernel
theorem dz_W_law_563 : decode cz_W_law 563 = .ok (.iaload, 1) := by decide +kernel
theorem dz_W_law_564 : decode cz_W_law 564 = .ok (.invokevirtual 55, 3) := by decide +kernel
theorem dz_W_law_567 : decode cz_W_law 567 = .ok (.aload_n 2, 1) := by decide +kernel
theorem dz_W_law_568 : decode cz_W_law 568 = .ok (.aload_n 0, 1) := by decide +kernel
theorem dz_W_law_569 : decode cz_W_law 569 = .ok (.iload_n 3, 1) := by decide +kernel
theorem dz_W_law_570 : decode cz_W_law 570 = .ok (.iconst 1, 1) := by decide +kernel
theorem dz_W_law_571 : decode cz_W_law 571 = .ok (.iadd, 1) := by decide +kernel
theorem dz_W_law_572 : decode cz_W_law 572 = .ok (.iaload, 1) := by decide +kernel
theorem dz_W_law_573 : decode cz_W_law 573 = .ok (.aload_n 0, 1) := by decide +kernel
theorem dz_W_law_574 : decode cz_W_law 574 = .ok (.iload_n 3, 1) := by decide +kernel
theorem dz_W_law_575 : decode cz_W_law 575 = .ok (.iconst 2, 1) := by decide +kernel
theorem dz_W_law_576 : decode cz_W_law 576 = .ok (.iadd, 1) := by decide +kernel
theorem dz_W_law_577 : decode cz_W_law 577 = .ok (.iaload, 1) := by decide +kernel
theorem dz_W_law_578 : decode cz_W_law 578 = .ok (.invokevirtual 59, 3) := by decide +kernel
theorem dz_W_law_581 : decode cz_W_law 581 = .ok (.if_icmp .eq 51, 3) := by decide +kernel
theorem dz_W_law_584 : decode cz_W_law 584 = .ok (.iconst 0, 1) := by decide +kernel
theorem dz_W_law_585 : decode cz_W_law 585 = .ok (.ireturn, 1) := by decide +kernel
theorem dz_W_law_586 : decode cz_W_law 586 = .ok (.aload_n 1, 1) := by decide +kernel
theorem dz_W_law_587 : decode cz_W_law 587 = .ok (.aload_n 0, 1) := by decide +kernel
theorem dz_W_law_588 : decode cz_W_law 588 = .ok (.iload_n 3, 1) := by decide +kernel
theorem dz_W_law_589 : decode cz_W_law 589 = .ok (.iconst 1, 1) := by decide +kernel
theorem dz_W_law_590 : decode cz_W_law 590 = .ok (.iadd, 1) := by decide +kernel
theorem dz_W_law_591 : decode cz_W_law 591 = .ok (.iaload, 1) := by decide +kernel
theorem dz_W_law_592 : decode cz_W_law 592 = .ok (.invokevirtual 60, 3) := by decide +kernel
theorem dz_W_law_595 : decode cz_W_law 595 = .ok (.aload_n 2, 1) := by decide +kernel
theorem dz_W_law_596 : decode cz_W_law 596 = .ok (.aload_n 0, 1) := by decide +kernel
theorem dz_W_law_597 : decode cz_W_law 597 = .ok (.iload_n 3, 1) := by decide +kernel
theorem dz_W_law_598 : decode cz_W_law 598 = .ok (.iconst 1, 1) := by decide +kernel
theorem dz_W_law_599 : decode cz_W_law 599 = .ok (.iadd, 1) := by decide +kernel
theorem dz_W_law_600 : decode cz_W_law 600 = .ok (.iaload, 1) := by decide +kernel
theorem dz_W_law_601 : decode cz_W_law 601 = .ok (.invokevirtual 63, 3) := by decide +kernel
theorem dz_W_law_604 : decode cz_W_law 604 = .ok (.if_icmp .eq 28, 3) := by decide +kernel
theorem dz_W_law_607 : decode cz_W_law 607 = .ok (.iconst 0, 1) := by decide +kernel
theorem dz_W_law_608 : decode cz_W_law 608 = .ok (.ireturn, 1) := by decide +kernel
theorem dz_W_law_609 : decode cz_W_law 609 = .ok (.aload_n 1, 1) := by decide +kernel
theorem dz_W_law_610 : decode cz_W_law 610 = .ok (.aload_n 0, 1) := by decide +kernel
theorem dz_W_law_611 : decode cz_W_law 611 = .ok (.iload_n 3, 1) := by decide +kernel
theorem dz_W_law_612 : decode cz_W_law 612 = .ok (.iconst 1, 1) := by decide +kernel
theorem dz_W_law_613 : decode cz_W_law 613 = .ok (.iadd, 1) := by decide +kernel
theorem dz_W_law_614 : decode cz_W_law 614 = .ok (.iaload, 1) := by decide +kernel
theorem dz_W_law_615 : decode cz_W_law 615 = .ok (.invokevirtual 64, 3) := by decide +kernel
theorem dz_W_law_618 : decode cz_W_law 618 = .ok (.aload_n 2, 1) := by decide +kernel
theorem dz_W_law_619 : decode cz_W_law 619 = .ok (.aload_n 0, 1) := by decide +kernel
theorem dz_W_law_620 : decode cz_W_law 620 = .ok (.iload_n 3, 1) := by decide +kernel
theorem dz_W_law_621 : decode cz_W_law 621 = .ok (.iconst 1, 1) := by decide +kernel
theorem dz_W_law_622 : decode cz_W_law 622 = .ok (.iadd, 1) := by decide +kernel
theorem dz_W_law_623 : decode cz_W_law 623 = .ok (.iaload, 1) := by decide +kernel
theorem dz_W_law_624 : decode cz_W_law 624 = .ok (.invokevirtual 67, 3) := by decide +kernel
theorem dz_W_law_627 : decode cz_W_law 627 = .ok (.if_icmp .eq 5, 3) := by decide +kernel
theorem dz_W_law_630 : decode cz_W_law 630 = .ok (.iconst 0, 1) := by decide +kernel
theorem dz_W_law_631 : decode cz_W_law 631 = .ok (.ireturn, 1) := by decide +kernel
theorem dz_W_law_632 : decode cz_W_law 632 = .ok (.iinc 3 5, 3) := by decide +kernel
theorem dz_W_law_635 : decode cz_W_law 635 = .ok (.goto (-617), 3) := by decide +kernel
theorem dz_W_law_638 : decode cz_W_law 638 = .ok (.iconst 1, 1) := by decide +kernel
theorem dz_W_law_639 : decode cz_W_law 639 = .ok (.ireturn, 1) := by decide +kernel
