theorem d_L_law_0 : decode code 0 = .ok (.new 8, 3) := by decide +kernel
theorem d_L_law_3 : decode code 3 = .ok (.dup, 1) := by decide +kernel
theorem d_L_law_4 : decode code 4 = .ok (.invokespecial 80, 3) := by decide +kernel
theorem d_L_law_7 : decode code 7 = .ok (.astore_n 1, 1) := by decide +kernel
theorem d_L_law_8 : decode code 8 = .ok (.new 81, 3) := by decide +kernel
theorem d_L_law_11 : decode code 11 = .ok (.dup, 1) := by decide +kernel
theorem d_L_law_12 : decode code 12 = .ok (.invokespecial 83, 3) := by decide +kernel
theorem d_L_law_15 : decode code 15 = .ok (.astore_n 2, 1) := by decide +kernel
theorem d_L_law_16 : decode code 16 = .ok (.iconst 1, 1) := by decide +kernel
theorem d_L_law_17 : decode code 17 = .ok (.newarray .long, 2) := by decide +kernel
theorem d_L_law_19 : decode code 19 = .ok (.astore_n 3, 1) := by decide +kernel
theorem d_L_law_20 : decode code 20 = .ok (.iconst 0, 1) := by decide +kernel
theorem d_L_law_21 : decode code 21 = .ok (.istore 4, 2) := by decide +kernel
theorem d_L_law_23 : decode code 23 = .ok (.iload 4, 2) := by decide +kernel
theorem d_L_law_25 : decode code 25 = .ok (.aload_n 0, 1) := by decide +kernel
theorem d_L_law_26 : decode code 26 = .ok (.arraylength, 1) := by decide +kernel
theorem d_L_law_27 : decode code 27 = .ok (.iconst 5, 1) := by decide +kernel
theorem d_L_law_28 : decode code 28 = .ok (.isub, 1) := by decide +kernel
theorem d_L_law_29 : decode code 29 = .ok (.if_icmp .gt 1292, 3) := by decide +kernel
theorem d_L_law_32 : decode code 32 = .ok (.aload_n 0, 1) := by decide +kernel
theorem d_L_law_33 : decode code 33 = .ok (.iload 4, 2) := by decide +kernel
theorem d_L_law_35 : decode code 35 = .ok (.iaload, 1) := by decide +kernel
theorem d_L_law_36 : decode code 36 = .ok (.bipush 31, 2) := by decide +kernel
theorem d_L_law_38 : decode code 38 = .ok (.iand, 1) := by decide +kernel
theorem d_L_law_39 : decode code 39 = .ok (.tableswitch 1276 0 18 #[89, 197, 253, 364, 420, 488, 568, 636, 692, 748, 816, 872, 928, 941, 985, 1041, 1096, 1152, 1220], 89) := by decide +kernel
theorem d_L_law_128 : decode code 128 = .ok (.aload_n 1, 1) := by decide +kernel
theorem d_L_law_129 : decode code 129 = .ok (.aload_n 0, 1) := by decide +kernel
theorem d_L_law_130 : decode code 130 = .ok (.iload 4, 2) := by decide +kernel
theorem d_L_law_132 : decode code 132 = .ok (.iconst 1, 1) := by decide +kernel
theorem d_L_law_133 : decode code 133 = .ok (.iadd, 1) := by decide +kernel
theorem d_L_law_134 : decode code 134 = .ok (.iaload, 1) := by decide +kernel
theorem d_L_law_135 : decode code 135 = .ok (.aload_n 0, 1) := by decide +kernel
theorem d_L_law_136 : decode code 136 = .ok (.iload 4, 2) := by decide +kernel
theorem d_L_law_138 : decode code 138 = .ok (.iconst 2, 1) := by decide +kernel
theorem d_L_law_139 : decode code 139 = .ok (.iadd, 1) := by decide +kernel
theorem d_L_law_140 : decode code 140 = .ok (.iaload, 1) := by decide +kernel
theorem d_L_law_141 : decode code 141 = .ok (.aload_n 0, 1) := by decide +kernel
theorem d_L_law_142 : decode code 142 = .ok (.iload 4, 2) := by decide +kernel
theorem d_L_law_144 : decode code 144 = .ok (.iconst 3, 1) := by decide +kernel
theorem d_L_law_145 : decode code 145 = .ok (.iadd, 1) := by decide +kernel
theorem d_L_law_146 : decode code 146 = .ok (.iaload, 1) := by decide +kernel
theorem d_L_law_147 : decode code 147 = .ok (.aload_n 0, 1) := by decide +kernel
theorem d_L_law_148 : decode code 148 = .ok (.iload 4, 2) := by decide +kernel
theorem d_L_law_150 : decode code 150 = .ok (.iconst 4, 1) := by decide +kernel
theorem d_L_law_151 : decode code 151 = .ok (.iadd, 1) := by decide +kernel
theorem d_L_law_152 : decode code 152 = .ok (.iaload, 1) := by decide +kernel
theorem d_L_law_153 : decode code 153 = .ok (.ifCond .eq 7, 3) := by decide +kernel
theorem d_L_law_156 : decode code 156 = .ok (.iconst 1, 1) := by decide +kernel
theorem d_L_law_157 : decode code 157 = .ok (.goto 4, 3) := by decide +kernel
theorem d_L_law_160 : decode code 160 = .ok (.iconst 0, 1) := by decide +kernel
theorem d_L_law_161 : decode code 161 = .ok (.aload_n 3, 1) := by decide +kernel
theorem d_L_law_162 : decode code 162 = .ok (.invokestatic 84, 3) := by decide +kernel
theorem d_L_law_165 : decode code 165 = .ok (.istore 5, 2) := by decide +kernel
theorem d_L_law_167 : decode code 167 = .ok (.aload_n 2, 1) := by decide +kernel
theorem d_L_law_168 : decode code 168 = .ok (.aload_n 0, 1) := by decide +kernel
theorem d_L_law_169 : decode code 169 = .ok (.iload 4, 2) := by decide +kernel
theorem d_L_law_171 : decode code 171 = .ok (.iconst 1, 1) := by decide +kernel
theorem d_L_law_172 : decode code 172 = .ok (.iadd, 1) := by decide +kernel
theorem d_L_law_173 : decode code 173 = .ok (.iaload, 1) := by decide +kernel
theorem d_L_law_174 : decode code 174 = .ok (.aload_n 0, 1) := by decide +kernel
theorem d_L_law_175 : decode code 175 = .ok (.iload 4, 2) := by decide +kernel
theorem d_L_law_177 : decode code 177 = .ok (.iconst 2, 1) := by decide +kernel
theorem d_L_law_178 : decode code 178 = .ok (.iadd, 1) := by decide +kernel
theorem d_L_law_179 : decode code 179 = .ok (.iaload, 1) := by decide +kernel
theorem d_L_law_180 : decode code 180 = .ok (.aload_n 0, 1) := by decide +kernel
theorem d_L_law_181 : decode code 181 = .ok (.iload 4, 2) := by decide +kernel
theorem d_L_law_183 : decode code 183 = .ok (.iconst 3, 1) := by decide +kernel
theorem d_L_law_184 : decode code 184 = .ok (.iadd, 1) := by decide +kernel
theorem d_L_law_185 : decode code 185 = .ok (.iaload, 1) := by decide +kernel
theorem d_L_law_186 : decode code 186 = .ok (.aload_n 0, 1) := by decide +kernel
theorem d_L_law_187 : decode code 187 = .ok (.iload 4, 2) := by decide +kernel
theorem d_L_law_189 : decode code 189 = .ok (.iconst 4, 1) := by decide +kernel
theorem d_L_law_190 : decode code 190 = .ok (.iadd, 1) := by decide +kernel
theorem d_L_law_191 : decode code 191 = .ok (.iaload, 1) := by decide +kernel
theorem d_L_law_192 : decode code 192 = .ok (.ifCond .eq 7, 3) := by decide +kernel
theorem d_L_law_195 : decode code 195 = .ok (.iconst 1, 1) := by decide +kernel
theorem d_L_law_196 : decode code 196 = .ok (.goto 4, 3) := by decide +kernel
theorem d_L_law_199 : decode code 199 = .ok (.iconst 0, 1) := by decide +kernel
theorem d_L_law_200 : decode code 200 = .ok (.invokevirtual 89, 3) := by decide +kernel
theorem d_L_law_203 : decode code 203 = .ok (.istore 6, 2) := by decide +kernel
theorem d_L_law_205 : decode code 205 = .ok (.aload_n 2, 1) := by decide +kernel
theorem d_L_law_206 : decode code 206 = .ok (.invokevirtual 90, 3) := by decide +kernel
theorem d_L_law_209 : decode code 209 = .ok (.iload 5, 2) := by decide +kernel
theorem d_L_law_211 : decode code 211 = .ok (.if_icmp .eq 5, 3) := by decide +kernel
theorem d_L_law_214 : decode code 214 = .ok (.iconst 0, 1) := by decide +kernel
theorem d_L_law_215 : decode code 215 = .ok (.ireturn, 1) := by decide +kernel
theorem d_L_law_216 : decode code 216 = .ok (.iload 5, 2) := by decide +kernel
theorem d_L_law_218 : decode code 218 = .ok (.ifCond .ne 15, 3) := by decide +kernel
theorem d_L_law_221 : decode code 221 = .ok (.aload_n 3, 1) := by decide +kernel
theorem d_L_law_222 : decode code 222 = .ok (.iconst 0, 1) := by decide +kernel
theorem d_L_law_223 : decode code 223 = .ok (.laload, 1) := by decide +kernel
theorem d_L_law_224 : decode code 224 = .ok (.iload 6, 2) := by decide +kernel
theorem d_L_law_226 : decode code 226 = .ok (.i2l, 1) := by decide +kernel
theorem d_L_law_227 : decode code 227 = .ok (.lcmp, 1) := by decide +kernel
theorem d_L_law_228 : decode code 228 = .ok (.ifCond .eq 5, 3) := by decide +kernel
theorem d_L_law_231 : decode code 231 = .ok (.iconst 0, 1) := by decide +kernel
theorem d_L_law_232 : decode code 232 = .ok (.ireturn, 1) := by decide +kernel
theorem d_L_law_233 : decode code 233 = .ok (.goto 1082, 3) := by decide +kernel
theorem d_L_law_236 : decode code 236 = .ok (.aload_n 1, 1) := by decide +kernel
theorem d_L_law_237 : decode code 237 = .ok (.aload_n 0, 1) := by decide +kernel
theorem d_L_law_238 : decode code 238 = .ok (.iload 4, 2) := by decide +kernel
theorem d_L_law_240 : decode code 240 = .ok (.iconst 1, 1) := by decide +kernel
theorem d_L_law_241 : decode code 241 = .ok (.iadd, 1) := by decide +kernel
theorem d_L_law_242 : decode code 242 = .ok (.iaload, 1) := by decide +kernel
theorem d_L_law_243 : decode code 243 = .ok (.aload_n 3, 1) := by decide +kernel
theorem d_L_law_244 : decode code 244 = .ok (.invokestatic 93, 3) := by decide +kernel
theorem d_L_law_247 : decode code 247 = .ok (.istore 5, 2) := by decide +kernel
theorem d_L_law_249 : decode code 249 = .ok (.aload_n 2, 1) := by decide +kernel
theorem d_L_law_250 : decode code 250 = .ok (.aload_n 0, 1) := by decide +kernel
theorem d_L_law_251 : decode code 251 = .ok (.iload 4, 2) := by decide +kernel
theorem d_L_law_253 : decode code 253 = .ok (.iconst 1, 1) := by decide +kernel
theorem d_L_law_254 : decode code 254 = .ok (.iadd, 1) := by decide +kernel
theorem d_L_law_255 : decode code 255 = .ok (.iaload, 1) := by decide +kernel
theorem d_L_law_256 : decode code 256 = .ok (.invokevirtual 96, 3) := by decide +kernel
theorem d_L_law_259 : decode code 259 = .ok (.istore 6, 2) := by decide +kernel
theorem d_L_law_261 : decode code 261 = .ok (.aload_n 2, 1) := by decide +kernel
theorem d_L_law_262 : decode code 262 = .ok (.invokevirtual 90, 3) := by decide +kernel
theorem d_L_law_265 : decode code 265 = .ok (.iload 5, 2) := by decide +kernel
theorem d_L_law_267 : decode code 267 = .ok (.if_icmp .eq 5, 3) := by decide +kernel
theorem d_L_law_270 : decode code 270 = .ok (.iconst 0, 1) := by decide +kernel
theorem d_L_law_271 : decode code 271 = .ok (.ireturn, 1) := by decide +kernel
theorem d_L_law_272 : decode code 272 = .ok (.iload 5, 2) := by decide +kernel
theorem d_L_law_274 : decode code 274 = .ok (.ifCond .ne 15, 3) := by decide +kernel
theorem d_L_law_277 : decode code 277 = .ok (.aload_n 3, 1) := by decide +kernel
theorem d_L_law_278 : decode code 278 = .ok (.iconst 0, 1) := by decide +kernel
theorem d_L_law_279 : decode code 279 = .ok (.laload, 1) := by decide +kernel
theorem d_L_law_280 : decode code 280 = .ok (.iload 6, 2) := by decide +kernel
theorem d_L_law_282 : decode code 282 = .ok (.i2l, 1) := by decide +kernel
theorem d_L_law_283 : decode code 283 = .ok (.lcmp, 1) := by decide +kernel
theorem d_L_law_284 : decode code 284 = .ok (.ifCond .eq 5, 3) := by decide +kernel
theorem d_L_law_287 : decode code 287 = .ok (.iconst 0, 1) := by decide +kernel
theorem d_L_law_288 : decode code 288 = .ok (.ireturn, 1) := by decide +kernel
theorem d_L_law_289 : decode code 289 = .ok (.goto 1026, 3) := by decide +kernel
theorem d_L_law_292 : decode code 292 = .ok (.aload_n 1, 1) := by decide +kernel
theorem d_L_law_293 : decode code 293 = .ok (.aload_n 0, 1) := by decide +kernel
theorem d_L_law_294 : decode code 294 = .ok (.iload 4, 2) := by decide +kernel
theorem d_L_law_296 : decode code 296 = .ok (.iconst 1, 1) := by decide +kernel
theorem d_L_law_297 : decode code 297 = .ok (.iadd, 1) := by decide +kernel
theorem d_L_law_298 : decode code 298 = .ok (.iaload, 1) := by decide +kernel
theorem d_L_law_299 : decode code 299 = .ok (.aload_n 0, 1) := by decide +kernel
theorem d_L_law_300 : decode code 300 = .ok (.iload 4, 2) := by decide +kernel
theorem d_L_law_302 : decode code 302 = .ok (.iconst 2, 1) := by decide +kernel
theorem d_L_law_303 : decode code 303 = .ok (.iadd, 1) := by decide +kernel
theorem d_L_law_304 : decode code 304 = .ok (.iaload, 1) := by decide +kernel
theorem d_L_law_305 : decode code 305 = .ok (.aload_n 0, 1) := by decide +kernel
theorem d_L_law_306 : decode code 306 = .ok (.iload 4, 2) := by decide +kernel
theorem d_L_law_308 : decode code 308 = .ok (.iconst 3, 1) := by decide +kernel
theorem d_L_law_309 : decode code 309 = .ok (.iadd, 1) := by decide +kernel
theorem d_L_law_310 : decode code 310 = .ok (.iaload, 1) := by decide +kernel
theorem d_L_law_311 : decode code 311 = .ok (.i2l, 1) := by decide +kernel
