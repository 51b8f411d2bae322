/-! The rows of the law.  -/
theorem dL_cell_0 : decode cL_cell 0 = .ok (.ldc 7, 2) := by decide +kernel
theorem dL_cell_2 : decode cL_cell 2 = .ok (.iload_n 1, 1) := by decide +kernel
theorem dL_cell_3 : decode cL_cell 3 = .ok (.aload_n 0, 1) := by decide +kernel
theorem dL_cell_4 : decode cL_cell 4 = .ok (.arraylength, 1) := by decide +kernel
theorem dL_cell_5 : decode cL_cell 5 = .ok (.if_icmp .ge 9, 3) := by decide +kernel
theorem dL_cell_8 : decode cL_cell 8 = .ok (.aload_n 0, 1) := by decide +kernel
theorem dL_cell_9 : decode cL_cell 9 = .ok (.iload_n 1, 1) := by decide +kernel
theorem dL_cell_10 : decode cL_cell 10 = .ok (.iaload, 1) := by decide +kernel
theorem dL_cell_11 : decode cL_cell 11 = .ok (.goto 4, 3) := by decide +kernel
theorem dL_cell_14 : decode cL_cell 14 = .ok (.iconst 0, 1) := by decide +kernel
theorem dL_cell_15 : decode cL_cell 15 = .ok (.sipush 1009, 3) := by decide +kernel
theorem dL_cell_18 : decode cL_cell 18 = .ok (.iload_n 1, 1) := by decide +kernel
theorem dL_cell_19 : decode cL_cell 19 = .ok (.imul, 1) := by decide +kernel
theorem dL_cell_20 : decode cL_cell 20 = .ok (.iadd, 1) := by decide +kernel
theorem dL_cell_21 : decode cL_cell 21 = .ok (.imul, 1) := by decide +kernel
theorem dL_cell_22 : decode cL_cell 22 = .ok (.sipush 12345, 3) := by decide +kernel
theorem dL_cell_25 : decode cL_cell 25 = .ok (.iadd, 1) := by decide +kernel
theorem dL_cell_26 : decode cL_cell 26 = .ok (.istore_n 2, 1) := by decide +kernel
theorem dL_cell_27 : decode cL_cell 27 = .ok (.iload_n 2, 1) := by decide +kernel
theorem dL_cell_28 : decode cL_cell 28 = .ok (.iload_n 2, 1) := by decide +kernel
theorem dL_cell_29 : decode cL_cell 29 = .ok (.bipush 13, 2) := by decide +kernel
theorem dL_cell_31 : decode cL_cell 31 = .ok (.iushr, 1) := by decide +kernel
theorem dL_cell_32 : decode cL_cell 32 = .ok (.ixor, 1) := by decide +kernel
theorem dL_cell_33 : decode cL_cell 33 = .ok (.ldc 8, 2) := by decide +kernel
theorem dL_cell_35 : decode cL_cell 35 = .ok (.imul, 1) := by decide +kernel
theorem dL_cell_36 : decode cL_cell 36 = .ok (.istore_n 2, 1) := by decide +kernel
theorem dL_cell_37 : decode cL_cell 37 = .ok (.iload_n 2, 1) := by decide +kernel
theorem dL_cell_38 : decode cL_cell 38 = .ok (.iload_n 2, 1) := by decide +kernel
theorem dL_cell_39 : decode cL_cell 39 = .ok (.bipush 16, 2) := by decide +kernel
theorem dL_cell_41 : decode cL_cell 41 = .ok (.iushr, 1) := by decide +kernel
theorem dL_cell_42 : decode cL_cell 42 = .ok (.ixor, 1) := by decide +kernel
theorem dL_cell_43 : decode cL_cell 43 = .ok (.ireturn, 1) := by decide +kernel
theorem dL_pick_0 : decode cL_pick 0 = .ok (.aload_n 0, 1) := by decide +kernel
theorem dL_pick_1 : decode cL_pick 1 = .ok (.iload_n 1, 1) := by decide +kernel
theorem dL_pick_2 : decode cL_pick 2 = .ok (.invokestatic 9, 3) := by decide +kernel
theorem dL_pick_5 : decode cL_pick 5 = .ok (.bipush 8, 2) := by decide +kernel
theorem dL_pick_7 : decode cL_pick 7 = .ok (.iushr, 1) := by decide +kernel
theorem dL_pick_8 : decode cL_pick 8 = .ok (.iload_n 2, 1) := by decide +kernel
theorem dL_pick_9 : decode cL_pick 9 = .ok (.irem, 1) := by decide +kernel
theorem dL_pick_10 : decode cL_pick 10 = .ok (.ireturn, 1) := by decide +kernel
theorem dL_told_0 : decode cL_told 0 = .ok (.iload_n 0, 1) := by decide +kernel
theorem dL_told_1 : decode cL_told 1 = .ok (.ifCond .eq 7, 3) := by decide +kernel
theorem dL_told_4 : decode cL_told 4 = .ok (.iconst 1, 1) := by decide +kernel
theorem dL_told_5 : decode cL_told 5 = .ok (.goto 4, 3) := by decide +kernel
theorem dL_told_8 : decode cL_told 8 = .ok (.iconst 0, 1) := by decide +kernel
theorem dL_told_9 : decode cL_told 9 = .ok (.ireturn, 1) := by decide +kernel
theorem dL_plain_0 : decode cL_plain 0 = .ok (.iload_n 1, 1) := by decide +kernel
theorem dL_plain_1 : decode cL_plain 1 = .ok (.tableswitch 332 0 26 #[123, 128, 135, 144, 150, 156, 163, 172, 178, 183, 192, 199, 208, 218, 225, 231, 237, 246, 252, 259, 271, 281, 293, 299, 305, 317, 326], 123) := by decide +kernel
theorem dL_plain_124 : decode cL_plain 124 = .ok (.aload_n 0, 1) := by decide +kernel
theorem dL_plain_125 : decode cL_plain 125 = .ok (.invokevirtual 15, 3) := by decide +kernel
theorem dL_plain_128 : decode cL_plain 128 = .ok (.ireturn, 1) := by decide +kernel
theorem dL_plain_129 : decode cL_plain 129 = .ok (.aload_n 0, 1) := by decide +kernel
theorem dL_plain_130 : decode cL_plain 130 = .ok (.iload_n 2, 1) := by decide +kernel
theorem dL_plain_131 : decode cL_plain 131 = .ok (.iload_n 3, 1) := by decide +kernel
theorem dL_plain_132 : decode cL_plain 132 = .ok (.invokevirtual 21, 3) := by decide +kernel
theorem dL_plain_135 : decode cL_plain 135 = .ok (.ireturn, 1) := by decide +kernel
theorem dL_plain_136 : decode cL_plain 136 = .ok (.aload_n 0, 1) := by decide +kernel
theorem dL_plain_137 : decode cL_plain 137 = .ok (.iload_n 2, 1) := by decide +kernel
theorem dL_plain_138 : decode cL_plain 138 = .ok (.iload_n 3, 1) := by decide +kernel
theorem dL_plain_139 : decode cL_plain 139 = .ok (.iload 4, 2) := by decide +kernel
theorem dL_plain_141 : decode cL_plain 141 = .ok (.invokevirtual 25, 3) := by decide +kernel
theorem dL_plain_144 : decode cL_plain 144 = .ok (.ireturn, 1) := by decide +kernel
theorem dL_plain_145 : decode cL_plain 145 = .ok (.aload_n 0, 1) := by decide +kernel
theorem dL_plain_146 : decode cL_plain 146 = .ok (.iload_n 2, 1) := by decide +kernel
theorem dL_plain_147 : decode cL_plain 147 = .ok (.invokevirtual 29, 3) := by decide +kernel
theorem dL_plain_150 : decode cL_plain 150 = .ok (.ireturn, 1) := by decide +kernel
theorem dL_plain_151 : decode cL_plain 151 = .ok (.aload_n 0, 1) := by decide +kernel
theorem dL_plain_152 : decode cL_plain 152 = .ok (.iload_n 2, 1) := by decide +kernel
theorem dL_plain_153 : decode cL_plain 153 = .ok (.invokevirtual 33, 3) := by decide +kernel
theorem dL_plain_156 : decode cL_plain 156 = .ok (.ireturn, 1) := by decide +kernel
theorem dL_plain_157 : decode cL_plain 157 = .ok (.aload_n 0, 1) := by decide +kernel
theorem dL_plain_158 : decode cL_plain 158 = .ok (.iload_n 2, 1) := by decide +kernel
theorem dL_plain_159 : decode cL_plain 159 = .ok (.iload_n 3, 1) := by decide +kernel
theorem dL_plain_160 : decode cL_plain 160 = .ok (.invokevirtual 36, 3) := by decide +kernel
theorem dL_plain_163 : decode cL_plain 163 = .ok (.ireturn, 1) := by decide +kernel
theorem dL_plain_164 : decode cL_plain 164 = .ok (.aload_n 0, 1) := by decide +kernel
theorem dL_plain_165 : decode cL_plain 165 = .ok (.iload_n 2, 1) := by decide +kernel
theorem dL_plain_166 : decode cL_plain 166 = .ok (.iload_n 3, 1) := by decide +kernel
theorem dL_plain_167 : decode cL_plain 167 = .ok (.iload 4, 2) := by decide +kernel
theorem dL_plain_169 : decode cL_plain 169 = .ok (.invokevirtual 39, 3) := by decide +kernel
theorem dL_plain_172 : decode cL_plain 172 = .ok (.ireturn, 1) := by decide +kernel
theorem dL_plain_173 : decode cL_plain 173 = .ok (.aload_n 0, 1) := by decide +kernel
theorem dL_plain_174 : decode cL_plain 174 = .ok (.iload_n 2, 1) := by decide +kernel
theorem dL_plain_175 : decode cL_plain 175 = .ok (.invokevirtual 42, 3) := by decide +kernel
theorem dL_plain_178 : decode cL_plain 178 = .ok (.ireturn, 1) := by decide +kernel
theorem dL_plain_179 : decode cL_plain 179 = .ok (.aload_n 0, 1) := by decide +kernel
theorem dL_plain_180 : decode cL_plain 180 = .ok (.invokevirtual 45, 3) := by decide +kernel
theorem dL_plain_183 : decode cL_plain 183 = .ok (.ireturn, 1) := by decide +kernel
theorem dL_plain_184 : decode cL_plain 184 = .ok (.aload_n 0, 1) := by decide +kernel
theorem dL_plain_185 : decode cL_plain 185 = .ok (.iload_n 2, 1) := by decide +kernel
theorem dL_plain_186 : decode cL_plain 186 = .ok (.iload_n 3, 1) := by decide +kernel
theorem dL_plain_187 : decode cL_plain 187 = .ok (.iload 4, 2) := by decide +kernel
theorem dL_plain_189 : decode cL_plain 189 = .ok (.invokevirtual 48, 3) := by decide +kernel
theorem dL_plain_192 : decode cL_plain 192 = .ok (.ireturn, 1) := by decide +kernel
theorem dL_plain_193 : decode cL_plain 193 = .ok (.aload_n 0, 1) := by decide +kernel
theorem dL_plain_194 : decode cL_plain 194 = .ok (.iload_n 2, 1) := by decide +kernel
theorem dL_plain_195 : decode cL_plain 195 = .ok (.iload_n 3, 1) := by decide +kernel
theorem dL_plain_196 : decode cL_plain 196 = .ok (.invokevirtual 51, 3) := by decide +kernel
theorem dL_plain_199 : decode cL_plain 199 = .ok (.ireturn, 1) := by decide +kernel
theorem dL_plain_200 : decode cL_plain 200 = .ok (.aload_n 0, 1) := by decide +kernel
theorem dL_plain_201 : decode cL_plain 201 = .ok (.iload_n 2, 1) := by decide +kernel
theorem dL_plain_202 : decode cL_plain 202 = .ok (.iload_n 3, 1) := by decide +kernel
theorem dL_plain_203 : decode cL_plain 203 = .ok (.iload 4, 2) := by decide +kernel
theorem dL_plain_205 : decode cL_plain 205 = .ok (.invokevirtual 54, 3) := by decide +kernel
theorem dL_plain_208 : decode cL_plain 208 = .ok (.ireturn, 1) := by decide +kernel
theorem dL_plain_209 : decode cL_plain 209 = .ok (.aload_n 0, 1) := by decide +kernel
theorem dL_plain_210 : decode cL_plain 210 = .ok (.iload_n 2, 1) := by decide +kernel
theorem dL_plain_211 : decode cL_plain 211 = .ok (.iload_n 3, 1) := by decide +kernel
theorem dL_plain_212 : decode cL_plain 212 = .ok (.i2c, 1) := by decide +kernel
theorem dL_plain_213 : decode cL_plain 213 = .ok (.iload 4, 2) := by decide +kernel
theorem dL_plain_215 : decode cL_plain 215 = .ok (.invokevirtual 57, 3) := by decide +kernel
theorem dL_plain_218 : decode cL_plain 218 = .ok (.ireturn, 1) := by decide +kernel
theorem dL_plain_219 : decode cL_plain 219 = .ok (.aload_n 0, 1) := by decide +kernel
theorem dL_plain_220 : decode cL_plain 220 = .ok (.iload_n 2, 1) := by decide +kernel
theorem dL_plain_221 : decode cL_plain 221 = .ok (.iload_n 3, 1) := by decide +kernel
theorem dL_plain_222 : decode cL_plain 222 = .ok (.invokevirtual 61, 3) := by decide +kernel
theorem dL_plain_225 : decode cL_plain 225 = .ok (.ireturn, 1) := by decide +kernel
theorem dL_plain_226 : decode cL_plain 226 = .ok (.aload_n 0, 1) := by decide +kernel
theorem dL_plain_227 : decode cL_plain 227 = .ok (.iload_n 2, 1) := by decide +kernel
theorem dL_plain_228 : decode cL_plain 228 = .ok (.invokevirtual 64, 3) := by decide +kernel
theorem dL_plain_231 : decode cL_plain 231 = .ok (.ireturn, 1) := by decide +kernel
theorem dL_plain_232 : decode cL_plain 232 = .ok (.aload_n 0, 1) := by decide +kernel
theorem dL_plain_233 : decode cL_plain 233 = .ok (.iload_n 2, 1) := by decide +kernel
theorem dL_plain_234 : decode cL_plain 234 = .ok (.invokevirtual 67, 3) := by decide +kernel
theorem dL_plain_237 : decode cL_plain 237 = .ok (.ireturn, 1) := by decide +kernel
theorem dL_plain_238 : decode cL_plain 238 = .ok (.aload_n 0, 1) := by decide +kernel
theorem dL_plain_239 : decode cL_plain 239 = .ok (.iload_n 2, 1) := by decide +kernel
theorem dL_plain_240 : decode cL_plain 240 = .ok (.iload_n 3, 1) := by decide +kernel
theorem dL_plain_241 : decode cL_plain 241 = .ok (.iload 4, 2) := by decide +kernel
theorem dL_plain_243 : decode cL_plain 243 = .ok (.invokevirtual 70, 3) := by decide +kernel
theorem dL_plain_246 : decode cL_plain 246 = .ok (.ireturn, 1) := by decide +kernel
theorem dL_plain_247 : decode cL_plain 247 = .ok (.aload_n 0, 1) := by decide +kernel
theorem dL_plain_248 : decode cL_plain 248 = .ok (.iload_n 2, 1) := by decide +kernel
theorem dL_plain_249 : decode cL_plain 249 = .ok (.invokevirtual 73, 3) := by decide +kernel
theorem dL_plain_252 : decode cL_plain 252 = .ok (.ireturn, 1) := by decide +kernel
theorem dL_plain_253 : decode cL_plain 253 = .ok (.aload_n 0, 1) := by decide +kernel
theorem dL_plain_254 : decode cL_plain 254 = .ok (.iload_n 2, 1) := by decide +kernel
theorem dL_plain_255 : decode cL_plain 255 = .ok (.iload_n 3, 1) := by decide +kernel
theorem dL_plain_256 : decode cL_plain 256 = .ok (.invokevirtual 76, 3) := by decide +kernel
theorem dL_plain_259 : decode cL_plain 259 = .ok (.ireturn, 1) := by decide +kernel
theorem dL_plain_260 : decode cL_plain 260 = .ok (.aload_n 0, 1) := by decide +kernel
theorem dL_plain_261 : decode cL_plain 261 = .ok (.iload_n 2, 1) := by decide +kernel
theorem dL_plain_262 : decode cL_plain 262 = .ok (.iload_n 3, 1) := by decide +kernel
theorem dL_plain_263 : decode cL_plain 263 = .ok (.iload 4, 2) := by decide +kernel
theorem dL_plain_265 : decode cL_plain 265 = .ok (.invokevirtual 79, 3) := by decide +kernel
theorem dL_plain_268 : decode cL_plain 268 = .ok (.invokestatic 83, 3) := by decide +kernel
theorem dL_plain_271 : decode cL_plain 271 = .ok (.ireturn, 1) := by decide +kernel
theorem dL_plain_272 : decode cL_plain 272 = .ok (.aload_n 0, 1) := by decide +kernel
theorem dL_plain_273 : decode cL_plain 273 = .ok (.iload_n 2, 1) := by decide +kernel
theorem dL_plain_274 : decode cL_plain 274 = .ok (.iload_n 3, 1) := by decide +kernel
theorem dL_plain_275 : decode cL_plain 275 = .ok (.invokevirtual 87, 3) := by decide +kernel
theorem dL_plain_278 : decode cL_plain 278 = .ok (.invokestatic 83, 3) := by decide +kernel
theorem dL_plain_281 : decode cL_plain 281 = .ok (.ireturn, 1) := by decide +kernel
theorem dL_plain_282 : decode cL_plain 282 = .ok (.aload_n 0, 1) := by decide +kernel
theorem dL_plain_283 : decode cL_plain 283 = .ok (.iload_n 2, 1) := by decide +kernel
theorem dL_plain_284 : decode cL_plain 284 = .ok (.iload_n 3, 1) := by decide +kernel
theorem dL_plain_285 : decode cL_plain 285 = .ok (.iload 4, 2) := by decide +kernel
theorem dL_plain_287 : decode cL_plain 287 = .ok (.invokevirtual 91, 3) := by decide +kernel
theorem dL_plain_290 : decode cL_plain 290 = .ok (.invokestatic 83, 3) := by decide +kernel
theorem dL_plain_293 : decode cL_plain 293 = .ok (.ireturn, 1) := by decide +kernel
theorem dL_plain_294 : decode cL_plain 294 = .ok (.aload_n 0, 1) := by decide +kernel
theorem dL_plain_295 : decode cL_plain 295 = .ok (.iload_n 2, 1) := by decide +kernel
theorem dL_plain_296 : decode cL_plain 296 = .ok (.invokevirtual 94, 3) := by decide +kernel
theorem dL_plain_299 : decode cL_plain 299 = .ok (.ireturn, 1) := by decide +kernel
theorem dL_plain_300 : decode cL_plain 300 = .ok (.aload_n 0, 1) := by decide +kernel
theorem dL_plain_301 : decode cL_plain 301 = .ok (.iload_n 2, 1) := by decide +kernel
theorem dL_plain_302 : decode cL_plain 302 = .ok (.invokevirtual 98, 3) := by decide +kernel
theorem dL_plain_305 : decode cL_plain 305 = .ok (.ireturn, 1) := by decide +kernel
theorem dL_plain_306 : decode cL_plain 306 = .ok (.aload_n 0, 1) := by decide +kernel
theorem dL_plain_307 : decode cL_plain 307 = .ok (.iload_n 2, 1) := by decide +kernel
theorem dL_plain_308 : decode cL_plain 308 = .ok (.bipush (-9), 2) := by decide +kernel
theorem dL_plain_310 : decode cL_plain 310 = .ok (.bipush 9, 2) := by decide +kernel
theorem dL_plain_312 : decode cL_plain 312 = .ok (.iload_n 3, 1) := by decide +kernel
theorem dL_plain_313 : decode cL_plain 313 = .ok (.i2c, 1) := by decide +kernel
theorem dL_plain_314 : decode cL_plain 314 = .ok (.invokevirtual 101, 3) := by decide +kernel
theorem dL_plain_317 : decode cL_plain 317 = .ok (.ireturn, 1) := by decide +kernel
theorem dL_plain_318 : decode cL_plain 318 = .ok (.aload_n 0, 1) := by decide +kernel
theorem dL_plain_319 : decode cL_plain 319 = .ok (.iload_n 2, 1) := by decide +kernel
theorem dL_plain_320 : decode cL_plain 320 = .ok (.iload_n 3, 1) := by decide +kernel
theorem dL_plain_321 : decode cL_plain 321 = .ok (.iload 4, 2) := by decide +kernel
theorem dL_plain_323 : decode cL_plain 323 = .ok (.invokevirtual 105, 3) := by decide +kernel
theorem dL_plain_326 : decode cL_plain 326 = .ok (.ireturn, 1) := by decide +kernel
theorem dL_plain_327 : decode cL_plain 327 = .ok (.aload_n 0, 1) := by decide +kernel
theorem dL_plain_328 : decode cL_plain 328 = .ok (.iload_n 2, 1) := by decide +kernel
theorem dL_plain_329 : decode cL_plain 329 = .ok (.invokevirtual 108, 3) := by decide +kernel
theorem dL_plain_332 : decode cL_plain 332 = .ok (.ireturn, 1) := by decide +kernel
theorem dL_plain_333 : decode cL_plain 333 = .ok (.aload_n 0, 1) := by decide +kernel
theorem dL_plain_334 : decode cL_plain 334 = .ok (.iload_n 2, 1) := by decide +kernel
theorem dL_plain_335 : decode cL_plain 335 = .ok (.iload_n 3, 1) := by decide +kernel
theorem dL_plain_336 : decode cL_plain 336 = .ok (.invokevirtual 111, 3) := by decide +kernel
theorem dL_plain_339 : decode cL_plain 339 = .ok (.ireturn, 1) := by decide +kernel
theorem dL_deed_0 : decode cL_deed 0 = .ok (.aload_n 0, 1) := by decide +kernel
theorem dL_deed_1 : decode cL_deed 1 = .ok (.iload_n 1, 1) := by decide +kernel
theorem dL_deed_2 : decode cL_deed 2 = .ok (.iload_n 2, 1) := by decide +kernel
theorem dL_deed_3 : decode cL_deed 3 = .ok (.iload_n 3, 1) := by decide +kernel
theorem dL_deed_4 : decode cL_deed 4 = .ok (.iload 4, 2) := by decide +kernel
theorem dL_deed_6 : decode cL_deed 6 = .ok (.invokestatic 114, 3) := by decide +kernel
theorem dL_deed_9 : decode cL_deed 9 = .ok (.ireturn, 1) := by decide +kernel
theorem dL_deed_10 : decode cL_deed 10 = .ok (.astore 5, 2) := by decide +kernel
theorem dL_deed_12 : decode cL_deed 12 = .ok (.sipush (-20001), 3) := by decide +kernel
theorem dL_deed_15 : decode cL_deed 15 = .ok (.ireturn, 1) := by decide +kernel
theorem dL_deed_16 : decode cL_deed 16 = .ok (.astore 5, 2) := by decide +kernel
theorem dL_deed_18 : decode cL_deed 18 = .ok (.sipush (-20002), 3) := by decide +kernel
theorem dL_deed_21 : decode cL_deed 21 = .ok (.ireturn, 1) := by decide +kernel
theorem dL_deed_22 : decode cL_deed 22 = .ok (.astore 5, 2) := by decide +kernel
theorem dL_deed_24 : decode cL_deed 24 = .ok (.sipush (-20003), 3) := by decide +kernel
theorem dL_deed_27 : decode cL_deed 27 = .ok (.ireturn, 1) := by decide +kernel
theorem dL_deed_28 : decode cL_deed 28 = .ok (.astore 5, 2) := by decide +kernel
theorem dL_deed_30 : decode cL_deed 30 = .ok (.sipush (-20004), 3) := by decide +kernel
theorem dL_deed_33 : decode cL_deed 33 = .ok (.ireturn, 1) := by decide +kernel
theorem dL_deed_34 : decode cL_deed 34 = .ok (.astore 5, 2) := by decide +kernel
theorem dL_deed_36 : decode cL_deed 36 = .ok (.sipush (-20005), 3) := by decide +kernel
theorem dL_deed_39 : decode cL_deed 39 = .ok (.ireturn, 1) := by decide +kernel
theorem dL_asked_0 : decode cL_asked 0 = .ok (.iload_n 1, 1) := by decide +kernel
theorem dL_asked_1 : decode cL_asked 1 = .ok (.tableswitch 184 0 15 #[79, 85, 92, 99, 106, 112, 118, 125, 135, 141, 147, 153, 159, 165, 171, 178], 79) := by decide +kernel
theorem dL_asked_80 : decode cL_asked 80 = .ok (.aload_n 0, 1) := by decide +kernel
theorem dL_asked_81 : decode cL_asked 81 = .ok (.iload_n 2, 1) := by decide +kernel
theorem dL_asked_82 : decode cL_asked 82 = .ok (.invokevirtual 128, 3) := by decide +kernel
theorem dL_asked_85 : decode cL_asked 85 = .ok (.ireturn, 1) := by decide +kernel
theorem dL_asked_86 : decode cL_asked 86 = .ok (.aload_n 0, 1) := by decide +kernel
theorem dL_asked_87 : decode cL_asked 87 = .ok (.iload_n 2, 1) := by decide +kernel
theorem dL_asked_88 : decode cL_asked 88 = .ok (.iload_n 3, 1) := by decide +kernel
theorem dL_asked_89 : decode cL_asked 89 = .ok (.invokevirtual 131, 3) := by decide +kernel
theorem dL_asked_92 : decode cL_asked 92 = .ok (.ireturn, 1) := by decide +kernel
theorem dL_asked_93 : decode cL_asked 93 = .ok (.aload_n 0, 1) := by decide +kernel
theorem dL_asked_94 : decode cL_asked 94 = .ok (.iload_n 2, 1) := by decide +kernel
theorem dL_asked_95 : decode cL_asked 95 = .ok (.iload_n 3, 1) := by decide +kernel
theorem dL_asked_96 : decode cL_asked 96 = .ok (.invokevirtual 134, 3) := by decide +kernel
theorem dL_asked_99 : decode cL_asked 99 = .ok (.ireturn, 1) := by decide +kernel
theorem dL_asked_100 : decode cL_asked 100 = .ok (.aload_n 0, 1) := by decide +kernel
theorem dL_asked_101 : decode cL_asked 101 = .ok (.iload_n 2, 1) := by decide +kernel
theorem dL_asked_102 : decode cL_asked 102 = .ok (.iload_n 3, 1) := by decide +kernel
theorem dL_asked_103 : decode cL_asked 103 = .ok (.invokevirtual 137, 3) := by decide +kernel
theorem dL_asked_106 : decode cL_asked 106 = .ok (.ireturn, 1) := by decide +kernel
theorem dL_asked_107 : decode cL_asked 107 = .ok (.aload_n 0, 1) := by decide +kernel
theorem dL_asked_108 : decode cL_asked 108 = .ok (.iload_n 2, 1) := by decide +kernel
theorem dL_asked_109 : decode cL_asked 109 = .ok (.invokevirtual 140, 3) := by decide +kernel
theorem dL_asked_112 : decode cL_asked 112 = .ok (.ireturn, 1) := by decide +kernel
theorem dL_asked_113 : decode cL_asked 113 = .ok (.aload_n 0, 1) := by decide +kernel
theorem dL_asked_114 : decode cL_asked 114 = .ok (.iload_n 2, 1) := by decide +kernel
theorem dL_asked_115 : decode cL_asked 115 = .ok (.invokevirtual 143, 3) := by decide +kernel
theorem dL_asked_118 : decode cL_asked 118 = .ok (.ireturn, 1) := by decide +kernel
theorem dL_asked_119 : decode cL_asked 119 = .ok (.aload_n 0, 1) := by decide +kernel
theorem dL_asked_120 : decode cL_asked 120 = .ok (.iload_n 2, 1) := by decide +kernel
theorem dL_asked_121 : decode cL_asked 121 = .ok (.iload_n 3, 1) := by decide +kernel
theorem dL_asked_122 : decode cL_asked 122 = .ok (.invokevirtual 146, 3) := by decide +kernel
theorem dL_asked_125 : decode cL_asked 125 = .ok (.ireturn, 1) := by decide +kernel
theorem dL_asked_126 : decode cL_asked 126 = .ok (.aload_n 0, 1) := by decide +kernel
theorem dL_asked_127 : decode cL_asked 127 = .ok (.iload_n 2, 1) := by decide +kernel
theorem dL_asked_128 : decode cL_asked 128 = .ok (.iload_n 3, 1) := by decide +kernel
theorem dL_asked_129 : decode cL_asked 129 = .ok (.invokevirtual 149, 3) := by decide +kernel
theorem dL_asked_132 : decode cL_asked 132 = .ok (.invokestatic 83, 3) := by decide +kernel
theorem dL_asked_135 : decode cL_asked 135 = .ok (.ireturn, 1) := by decide +kernel
theorem dL_asked_136 : decode cL_asked 136 = .ok (.aload_n 0, 1) := by decide +kernel
theorem dL_asked_137 : decode cL_asked 137 = .ok (.iload_n 2, 1) := by decide +kernel
theorem dL_asked_138 : decode cL_asked 138 = .ok (.invokevirtual 152, 3) := by decide +kernel
theorem dL_asked_141 : decode cL_asked 141 = .ok (.ireturn, 1) := by decide +kernel
theorem dL_asked_142 : decode cL_asked 142 = .ok (.aload_n 0, 1) := by decide +kernel
theorem dL_asked_143 : decode cL_asked 143 = .ok (.iload_n 2, 1) := by decide +kernel
theorem dL_asked_144 : decode cL_asked 144 = .ok (.invokevirtual 155, 3) := by decide +kernel
theorem dL_asked_147 : decode cL_asked 147 = .ok (.ireturn, 1) := by decide +kernel
theorem dL_asked_148 : decode cL_asked 148 = .ok (.aload_n 0, 1) := by decide +kernel
theorem dL_asked_149 : decode cL_asked 149 = .ok (.iload_n 2, 1) := by decide +kernel
theorem dL_asked_150 : decode cL_asked 150 = .ok (.invokevirtual 158, 3) := by decide +kernel
theorem dL_asked_153 : decode cL_asked 153 = .ok (.ireturn, 1) := by decide +kernel
theorem dL_asked_154 : decode cL_asked 154 = .ok (.aload_n 0, 1) := by decide +kernel
theorem dL_asked_155 : decode cL_asked 155 = .ok (.iload_n 2, 1) := by decide +kernel
theorem dL_asked_156 : decode cL_asked 156 = .ok (.invokevirtual 161, 3) := by decide +kernel
theorem dL_asked_159 : decode cL_asked 159 = .ok (.ireturn, 1) := by decide +kernel
theorem dL_asked_160 : decode cL_asked 160 = .ok (.aload_n 0, 1) := by decide +kernel
theorem dL_asked_161 : decode cL_asked 161 = .ok (.iload_n 2, 1) := by decide +kernel
theorem dL_asked_162 : decode cL_asked 162 = .ok (.invokevirtual 164, 3) := by decide +kernel
theorem dL_asked_165 : decode cL_asked 165 = .ok (.ireturn, 1) := by decide +kernel
theorem dL_asked_166 : decode cL_asked 166 = .ok (.aload_n 0, 1) := by decide +kernel
theorem dL_asked_167 : decode cL_asked 167 = .ok (.iload_n 2, 1) := by decide +kernel
theorem dL_asked_168 : decode cL_asked 168 = .ok (.invokevirtual 167, 3) := by decide +kernel
theorem dL_asked_171 : decode cL_asked 171 = .ok (.ireturn, 1) := by decide +kernel
theorem dL_asked_172 : decode cL_asked 172 = .ok (.aload_n 0, 1) := by decide +kernel
theorem dL_asked_173 : decode cL_asked 173 = .ok (.iload_n 2, 1) := by decide +kernel
theorem dL_asked_174 : decode cL_asked 174 = .ok (.iload_n 3, 1) := by decide +kernel
theorem dL_asked_175 : decode cL_asked 175 = .ok (.invokevirtual 170, 3) := by decide +kernel
theorem dL_asked_178 : decode cL_asked 178 = .ok (.ireturn, 1) := by decide +kernel
theorem dL_asked_179 : decode cL_asked 179 = .ok (.aload_n 0, 1) := by decide +kernel
theorem dL_asked_180 : decode cL_asked 180 = .ok (.iload_n 2, 1) := by decide +kernel
theorem dL_asked_181 : decode cL_asked 181 = .ok (.invokevirtual 173, 3) := by decide +kernel
theorem dL_asked_184 : decode cL_asked 184 = .ok (.ireturn, 1) := by decide +kernel
theorem dL_asked_185 : decode cL_asked 185 = .ok (.aload_n 0, 1) := by decide +kernel
theorem dL_asked_186 : decode cL_asked 186 = .ok (.iload_n 2, 1) := by decide +kernel
theorem dL_asked_187 : decode cL_asked 187 = .ok (.invokevirtual 176, 3) := by decide +kernel
theorem dL_asked_190 : decode cL_asked 190 = .ok (.invokestatic 83, 3) := by decide +kernel
theorem dL_asked_193 : decode cL_asked 193 = .ok (.ireturn, 1) := by decide +kernel
theorem dL_ask_0 : decode cL_ask 0 = .ok (.aload_n 0, 1) := by decide +kernel
theorem dL_ask_1 : decode cL_ask 1 = .ok (.iload_n 1, 1) := by decide +kernel
theorem dL_ask_2 : decode cL_ask 2 = .ok (.iload_n 2, 1) := by decide +kernel
theorem dL_ask_3 : decode cL_ask 3 = .ok (.iload_n 3, 1) := by decide +kernel
theorem dL_ask_4 : decode cL_ask 4 = .ok (.invokestatic 180, 3) := by decide +kernel
theorem dL_ask_7 : decode cL_ask 7 = .ok (.ireturn, 1) := by decide +kernel
theorem dL_ask_8 : decode cL_ask 8 = .ok (.astore 4, 2) := by decide +kernel
theorem dL_ask_10 : decode cL_ask 10 = .ok (.sipush (-20001), 3) := by decide +kernel
theorem dL_ask_13 : decode cL_ask 13 = .ok (.ireturn, 1) := by decide +kernel
theorem dL_ask_14 : decode cL_ask 14 = .ok (.astore 4, 2) := by decide +kernel
theorem dL_ask_16 : decode cL_ask 16 = .ok (.sipush (-20002), 3) := by decide +kernel
theorem dL_ask_19 : decode cL_ask 19 = .ok (.ireturn, 1) := by decide +kernel
theorem dL_ask_20 : decode cL_ask 20 = .ok (.astore 4, 2) := by decide +kernel
theorem dL_ask_22 : decode cL_ask 22 = .ok (.sipush (-20004), 3) := by decide +kernel
theorem dL_ask_25 : decode cL_ask 25 = .ok (.ireturn, 1) := by decide +kernel
theorem dL_ask_26 : decode cL_ask 26 = .ok (.astore 4, 2) := by decide +kernel
theorem dL_ask_28 : decode cL_ask 28 = .ok (.sipush (-20005), 3) := by decide +kernel
theorem dL_ask_31 : decode cL_ask 31 = .ok (.ireturn, 1) := by decide +kernel
theorem dL_isLike_0 : decode cL_isLike 0 = .ok (.aload_n 2, 1) := by decide +kernel
theorem dL_isLike_1 : decode cL_isLike 1 = .ok (.iconst 0, 1) := by decide +kernel
theorem dL_isLike_2 : decode cL_isLike 2 = .ok (.iaload, 1) := by decide +kernel
theorem dL_isLike_3 : decode cL_isLike 3 = .ok (.bipush 109, 2) := by decide +kernel
theorem dL_isLike_5 : decode cL_isLike 5 = .ok (.if_icmp .ne 7, 3) := by decide +kernel
theorem dL_isLike_8 : decode cL_isLike 8 = .ok (.iconst 1, 1) := by decide +kernel
theorem dL_isLike_9 : decode cL_isLike 9 = .ok (.goto 4, 3) := by decide +kernel
theorem dL_isLike_12 : decode cL_isLike 12 = .ok (.iconst 0, 1) := by decide +kernel
theorem dL_isLike_13 : decode cL_isLike 13 = .ok (.istore_n 3, 1) := by decide +kernel
theorem dL_isLike_14 : decode cL_isLike 14 = .ok (.aload_n 0, 1) := by decide +kernel
theorem dL_isLike_15 : decode cL_isLike 15 = .ok (.iconst 4, 1) := by decide +kernel
theorem dL_isLike_16 : decode cL_isLike 16 = .ok (.iload_n 1, 1) := by decide +kernel
theorem dL_isLike_17 : decode cL_isLike 17 = .ok (.iconst 0, 1) := by decide +kernel
theorem dL_isLike_18 : decode cL_isLike 18 = .ok (.invokestatic 184, 3) := by decide +kernel
theorem dL_isLike_21 : decode cL_isLike 21 = .ok (.aload_n 2, 1) := by decide +kernel
theorem dL_isLike_22 : decode cL_isLike 22 = .ok (.iconst 1, 1) := by decide +kernel
theorem dL_isLike_23 : decode cL_isLike 23 = .ok (.iaload, 1) := by decide +kernel
theorem dL_isLike_24 : decode cL_isLike 24 = .ok (.if_icmp .ne 103, 3) := by decide +kernel
theorem dL_isLike_27 : decode cL_isLike 27 = .ok (.aload_n 0, 1) := by decide +kernel
theorem dL_isLike_28 : decode cL_isLike 28 = .ok (.bipush 16, 2) := by decide +kernel
theorem dL_isLike_30 : decode cL_isLike 30 = .ok (.iload_n 1, 1) := by decide +kernel
theorem dL_isLike_31 : decode cL_isLike 31 = .ok (.iconst 0, 1) := by decide +kernel
theorem dL_isLike_32 : decode cL_isLike 32 = .ok (.invokestatic 184, 3) := by decide +kernel
theorem dL_isLike_35 : decode cL_isLike 35 = .ok (.aload_n 2, 1) := by decide +kernel
theorem dL_isLike_36 : decode cL_isLike 36 = .ok (.iconst 0, 1) := by decide +kernel
theorem dL_isLike_37 : decode cL_isLike 37 = .ok (.iaload, 1) := by decide +kernel
theorem dL_isLike_38 : decode cL_isLike 38 = .ok (.bipush 111, 2) := by decide +kernel
theorem dL_isLike_40 : decode cL_isLike 40 = .ok (.if_icmp .ne 7, 3) := by decide +kernel
theorem dL_isLike_43 : decode cL_isLike 43 = .ok (.iconst 1, 1) := by decide +kernel
theorem dL_isLike_44 : decode cL_isLike 44 = .ok (.goto 4, 3) := by decide +kernel
theorem dL_isLike_47 : decode cL_isLike 47 = .ok (.iconst 0, 1) := by decide +kernel
theorem dL_isLike_48 : decode cL_isLike 48 = .ok (.invokestatic 83, 3) := by decide +kernel
theorem dL_isLike_51 : decode cL_isLike 51 = .ok (.if_icmp .ne 76, 3) := by decide +kernel
theorem dL_isLike_54 : decode cL_isLike 54 = .ok (.aload_n 0, 1) := by decide +kernel
theorem dL_isLike_55 : decode cL_isLike 55 = .ok (.iconst 0, 1) := by decide +kernel
theorem dL_isLike_56 : decode cL_isLike 56 = .ok (.iload_n 1, 1) := by decide +kernel
theorem dL_isLike_57 : decode cL_isLike 57 = .ok (.iconst 0, 1) := by decide +kernel
theorem dL_isLike_58 : decode cL_isLike 58 = .ok (.invokestatic 184, 3) := by decide +kernel
theorem dL_isLike_61 : decode cL_isLike 61 = .ok (.sipush (-20004), 3) := by decide +kernel
theorem dL_isLike_64 : decode cL_isLike 64 = .ok (.if_icmp .ne 7, 3) := by decide +kernel
theorem dL_isLike_67 : decode cL_isLike 67 = .ok (.iconst 1, 1) := by decide +kernel
theorem dL_isLike_68 : decode cL_isLike 68 = .ok (.goto 4, 3) := by decide +kernel
theorem dL_isLike_71 : decode cL_isLike 71 = .ok (.iconst 0, 1) := by decide +kernel
theorem dL_isLike_72 : decode cL_isLike 72 = .ok (.iload_n 3, 1) := by decide +kernel
theorem dL_isLike_73 : decode cL_isLike 73 = .ok (.ifCond .ne 11, 3) := by decide +kernel
theorem dL_isLike_76 : decode cL_isLike 76 = .ok (.aload_n 2, 1) := by decide +kernel
theorem dL_isLike_77 : decode cL_isLike 77 = .ok (.iconst 0, 1) := by decide +kernel
theorem dL_isLike_78 : decode cL_isLike 78 = .ok (.iaload, 1) := by decide +kernel
theorem dL_isLike_79 : decode cL_isLike 79 = .ok (.bipush 120, 2) := by decide +kernel
theorem dL_isLike_81 : decode cL_isLike 81 = .ok (.if_icmp .ne 7, 3) := by decide +kernel
theorem dL_isLike_84 : decode cL_isLike 84 = .ok (.iconst 1, 1) := by decide +kernel
theorem dL_isLike_85 : decode cL_isLike 85 = .ok (.goto 4, 3) := by decide +kernel
theorem dL_isLike_88 : decode cL_isLike 88 = .ok (.iconst 0, 1) := by decide +kernel
theorem dL_isLike_89 : decode cL_isLike 89 = .ok (.if_icmp .ne 38, 3) := by decide +kernel
theorem dL_isLike_92 : decode cL_isLike 92 = .ok (.aload_n 0, 1) := by decide +kernel
theorem dL_isLike_93 : decode cL_isLike 93 = .ok (.iconst 5, 1) := by decide +kernel
theorem dL_isLike_94 : decode cL_isLike 94 = .ok (.iload_n 1, 1) := by decide +kernel
theorem dL_isLike_95 : decode cL_isLike 95 = .ok (.iconst 0, 1) := by decide +kernel
theorem dL_isLike_96 : decode cL_isLike 96 = .ok (.invokestatic 184, 3) := by decide +kernel
theorem dL_isLike_99 : decode cL_isLike 99 = .ok (.ifCond .le 7, 3) := by decide +kernel
theorem dL_isLike_102 : decode cL_isLike 102 = .ok (.iconst 1, 1) := by decide +kernel
theorem dL_isLike_103 : decode cL_isLike 103 = .ok (.goto 4, 3) := by decide +kernel
theorem dL_isLike_106 : decode cL_isLike 106 = .ok (.iconst 0, 1) := by decide +kernel
theorem dL_isLike_107 : decode cL_isLike 107 = .ok (.aload_n 2, 1) := by decide +kernel
theorem dL_isLike_108 : decode cL_isLike 108 = .ok (.iconst 0, 1) := by decide +kernel
theorem dL_isLike_109 : decode cL_isLike 109 = .ok (.iaload, 1) := by decide +kernel
theorem dL_isLike_110 : decode cL_isLike 110 = .ok (.bipush 120, 2) := by decide +kernel
theorem dL_isLike_112 : decode cL_isLike 112 = .ok (.if_icmp .eq 7, 3) := by decide +kernel
theorem dL_isLike_115 : decode cL_isLike 115 = .ok (.iconst 1, 1) := by decide +kernel
theorem dL_isLike_116 : decode cL_isLike 116 = .ok (.goto 4, 3) := by decide +kernel
theorem dL_isLike_119 : decode cL_isLike 119 = .ok (.iconst 0, 1) := by decide +kernel
theorem dL_isLike_120 : decode cL_isLike 120 = .ok (.if_icmp .ne 7, 3) := by decide +kernel
theorem dL_isLike_123 : decode cL_isLike 123 = .ok (.iconst 1, 1) := by decide +kernel
theorem dL_isLike_124 : decode cL_isLike 124 = .ok (.goto 4, 3) := by decide +kernel
theorem dL_isLike_127 : decode cL_isLike 127 = .ok (.iconst 0, 1) := by decide +kernel
theorem dL_isLike_128 : decode cL_isLike 128 = .ok (.istore 4, 2) := by decide +kernel
theorem dL_isLike_130 : decode cL_isLike 130 = .ok (.iconst 0, 1) := by decide +kernel
theorem dL_isLike_131 : decode cL_isLike 131 = .ok (.istore 5, 2) := by decide +kernel
theorem dL_isLike_133 : decode cL_isLike 133 = .ok (.iload 5, 2) := by decide +kernel
theorem dL_isLike_135 : decode cL_isLike 135 = .ok (.iload_n 3, 1) := by decide +kernel
theorem dL_isLike_136 : decode cL_isLike 136 = .ok (.ifCond .eq 8, 3) := by decide +kernel
theorem dL_isLike_139 : decode cL_isLike 139 = .ok (.bipush 40, 2) := by decide +kernel
theorem dL_isLike_141 : decode cL_isLike 141 = .ok (.goto 6, 3) := by decide +kernel
theorem dL_isLike_144 : decode cL_isLike 144 = .ok (.aload_n 2, 1) := by decide +kernel
theorem dL_isLike_145 : decode cL_isLike 145 = .ok (.iconst 1, 1) := by decide +kernel
theorem dL_isLike_146 : decode cL_isLike 146 = .ok (.iaload, 1) := by decide +kernel
theorem dL_isLike_147 : decode cL_isLike 147 = .ok (.if_icmp .ge 128, 3) := by decide +kernel
theorem dL_isLike_150 : decode cL_isLike 150 = .ok (.iload 4, 2) := by decide +kernel
theorem dL_isLike_152 : decode cL_isLike 152 = .ok (.ifCond .eq 123, 3) := by decide +kernel
theorem dL_isLike_155 : decode cL_isLike 155 = .ok (.iload_n 3, 1) := by decide +kernel
theorem dL_isLike_156 : decode cL_isLike 156 = .ok (.ifCond .eq 11, 3) := by decide +kernel
theorem dL_isLike_159 : decode cL_isLike 159 = .ok (.bipush 25, 2) := by decide +kernel
theorem dL_isLike_161 : decode cL_isLike 161 = .ok (.iload 5, 2) := by decide +kernel
theorem dL_isLike_163 : decode cL_isLike 163 = .ok (.imul, 1) := by decide +kernel
theorem dL_isLike_164 : decode cL_isLike 164 = .ok (.goto 5, 3) := by decide +kernel
theorem dL_isLike_167 : decode cL_isLike 167 = .ok (.iload 5, 2) := by decide +kernel
theorem dL_isLike_169 : decode cL_isLike 169 = .ok (.istore 6, 2) := by decide +kernel
theorem dL_isLike_171 : decode cL_isLike 171 = .ok (.aload_n 0, 1) := by decide +kernel
theorem dL_isLike_172 : decode cL_isLike 172 = .ok (.iconst 1, 1) := by decide +kernel
theorem dL_isLike_173 : decode cL_isLike 173 = .ok (.iload_n 1, 1) := by decide +kernel
theorem dL_isLike_174 : decode cL_isLike 174 = .ok (.iload 6, 2) := by decide +kernel
theorem dL_isLike_176 : decode cL_isLike 176 = .ok (.invokestatic 184, 3) := by decide +kernel
theorem dL_isLike_179 : decode cL_isLike 179 = .ok (.istore 7, 2) := by decide +kernel
theorem dL_isLike_181 : decode cL_isLike 181 = .ok (.iload 7, 2) := by decide +kernel
theorem dL_isLike_183 : decode cL_isLike 183 = .ok (.aload_n 2, 1) := by decide +kernel
theorem dL_isLike_184 : decode cL_isLike 184 = .ok (.iconst 2, 1) := by decide +kernel
theorem dL_isLike_185 : decode cL_isLike 185 = .ok (.iload 5, 2) := by decide +kernel
theorem dL_isLike_187 : decode cL_isLike 187 = .ok (.iadd, 1) := by decide +kernel
theorem dL_isLike_188 : decode cL_isLike 188 = .ok (.iaload, 1) := by decide +kernel
theorem dL_isLike_189 : decode cL_isLike 189 = .ok (.sipush 2000, 3) := by decide +kernel
theorem dL_isLike_192 : decode cL_isLike 192 = .ok (.if_icmp .ne 9, 3) := by decide +kernel
theorem dL_isLike_195 : decode cL_isLike 195 = .ok (.sipush (-20005), 3) := by decide +kernel
theorem dL_isLike_198 : decode cL_isLike 198 = .ok (.goto 9, 3) := by decide +kernel
theorem dL_isLike_201 : decode cL_isLike 201 = .ok (.aload_n 2, 1) := by decide +kernel
theorem dL_isLike_202 : decode cL_isLike 202 = .ok (.iconst 2, 1) := by decide +kernel
theorem dL_isLike_203 : decode cL_isLike 203 = .ok (.iload 5, 2) := by decide +kernel
theorem dL_isLike_205 : decode cL_isLike 205 = .ok (.iadd, 1) := by decide +kernel
theorem dL_isLike_206 : decode cL_isLike 206 = .ok (.iaload, 1) := by decide +kernel
theorem dL_isLike_207 : decode cL_isLike 207 = .ok (.if_icmp .ne 59, 3) := by decide +kernel
theorem dL_isLike_210 : decode cL_isLike 210 = .ok (.aload_n 0, 1) := by decide +kernel
theorem dL_isLike_211 : decode cL_isLike 211 = .ok (.iconst 2, 1) := by decide +kernel
theorem dL_isLike_212 : decode cL_isLike 212 = .ok (.iload_n 1, 1) := by decide +kernel
theorem dL_isLike_213 : decode cL_isLike 213 = .ok (.iload 6, 2) := by decide +kernel
theorem dL_isLike_215 : decode cL_isLike 215 = .ok (.invokestatic 184, 3) := by decide +kernel
theorem dL_isLike_218 : decode cL_isLike 218 = .ok (.iload 7, 2) := by decide +kernel
theorem dL_isLike_220 : decode cL_isLike 220 = .ok (.if_icmp .ne 46, 3) := by decide +kernel
theorem dL_isLike_223 : decode cL_isLike 223 = .ok (.iload_n 3, 1) := by decide +kernel
theorem dL_isLike_224 : decode cL_isLike 224 = .ok (.ifCond .eq 38, 3) := by decide +kernel
theorem dL_isLike_227 : decode cL_isLike 227 = .ok (.aload_n 0, 1) := by decide +kernel
theorem dL_isLike_228 : decode cL_isLike 228 = .ok (.iconst 3, 1) := by decide +kernel
theorem dL_isLike_229 : decode cL_isLike 229 = .ok (.iload_n 1, 1) := by decide +kernel
theorem dL_isLike_230 : decode cL_isLike 230 = .ok (.iload 6, 2) := by decide +kernel
theorem dL_isLike_232 : decode cL_isLike 232 = .ok (.invokestatic 184, 3) := by decide +kernel
theorem dL_isLike_235 : decode cL_isLike 235 = .ok (.sipush (-20005), 3) := by decide +kernel
theorem dL_isLike_238 : decode cL_isLike 238 = .ok (.if_icmp .ne 7, 3) := by decide +kernel
theorem dL_isLike_241 : decode cL_isLike 241 = .ok (.iconst 1, 1) := by decide +kernel
theorem dL_isLike_242 : decode cL_isLike 242 = .ok (.goto 4, 3) := by decide +kernel
theorem dL_isLike_245 : decode cL_isLike 245 = .ok (.iconst 0, 1) := by decide +kernel
theorem dL_isLike_246 : decode cL_isLike 246 = .ok (.iload 7, 2) := by decide +kernel
theorem dL_isLike_248 : decode cL_isLike 248 = .ok (.sipush (-20005), 3) := by decide +kernel
theorem dL_isLike_251 : decode cL_isLike 251 = .ok (.if_icmp .ne 7, 3) := by decide +kernel
theorem dL_isLike_254 : decode cL_isLike 254 = .ok (.iconst 1, 1) := by decide +kernel
theorem dL_isLike_255 : decode cL_isLike 255 = .ok (.goto 4, 3) := by decide +kernel
theorem dL_isLike_258 : decode cL_isLike 258 = .ok (.iconst 0, 1) := by decide +kernel
theorem dL_isLike_259 : decode cL_isLike 259 = .ok (.if_icmp .ne 7, 3) := by decide +kernel
theorem dL_isLike_262 : decode cL_isLike 262 = .ok (.iconst 1, 1) := by decide +kernel
theorem dL_isLike_263 : decode cL_isLike 263 = .ok (.goto 4, 3) := by decide +kernel
theorem dL_isLike_266 : decode cL_isLike 266 = .ok (.iconst 0, 1) := by decide +kernel
theorem dL_isLike_267 : decode cL_isLike 267 = .ok (.istore 4, 2) := by decide +kernel
theorem dL_isLike_269 : decode cL_isLike 269 = .ok (.iinc 5 1, 3) := by decide +kernel
theorem dL_isLike_272 : decode cL_isLike 272 = .ok (.goto (-139), 3) := by decide +kernel
theorem dL_isLike_275 : decode cL_isLike 275 = .ok (.iload 4, 2) := by decide +kernel
theorem dL_isLike_277 : decode cL_isLike 277 = .ok (.ifCond .eq 61, 3) := by decide +kernel
theorem dL_isLike_280 : decode cL_isLike 280 = .ok (.aload_n 0, 1) := by decide +kernel
theorem dL_isLike_281 : decode cL_isLike 281 = .ok (.iconst 1, 1) := by decide +kernel
theorem dL_isLike_282 : decode cL_isLike 282 = .ok (.iload_n 1, 1) := by decide +kernel
theorem dL_isLike_283 : decode cL_isLike 283 = .ok (.iload_n 3, 1) := by decide +kernel
theorem dL_isLike_284 : decode cL_isLike 284 = .ok (.ifCond .eq 7, 3) := by decide +kernel
theorem dL_isLike_287 : decode cL_isLike 287 = .ok (.iconst 1, 1) := by decide +kernel
theorem dL_isLike_288 : decode cL_isLike 288 = .ok (.goto 6, 3) := by decide +kernel
theorem dL_isLike_291 : decode cL_isLike 291 = .ok (.aload_n 2, 1) := by decide +kernel
theorem dL_isLike_292 : decode cL_isLike 292 = .ok (.iconst 1, 1) := by decide +kernel
theorem dL_isLike_293 : decode cL_isLike 293 = .ok (.iaload, 1) := by decide +kernel
theorem dL_isLike_294 : decode cL_isLike 294 = .ok (.invokestatic 184, 3) := by decide +kernel
theorem dL_isLike_297 : decode cL_isLike 297 = .ok (.sipush (-20005), 3) := by decide +kernel
theorem dL_isLike_300 : decode cL_isLike 300 = .ok (.if_icmp .ne 38, 3) := by decide +kernel
theorem dL_isLike_303 : decode cL_isLike 303 = .ok (.aload_n 0, 1) := by decide +kernel
theorem dL_isLike_304 : decode cL_isLike 304 = .ok (.iconst 2, 1) := by decide +kernel
theorem dL_isLike_305 : decode cL_isLike 305 = .ok (.iload_n 1, 1) := by decide +kernel
theorem dL_isLike_306 : decode cL_isLike 306 = .ok (.iconst (-1), 1) := by decide +kernel
theorem dL_isLike_307 : decode cL_isLike 307 = .ok (.invokestatic 184, 3) := by decide +kernel
theorem dL_isLike_310 : decode cL_isLike 310 = .ok (.sipush (-20005), 3) := by decide +kernel
theorem dL_isLike_313 : decode cL_isLike 313 = .ok (.if_icmp .ne 25, 3) := by decide +kernel
theorem dL_isLike_316 : decode cL_isLike 316 = .ok (.aload_n 0, 1) := by decide +kernel
theorem dL_isLike_317 : decode cL_isLike 317 = .ok (.bipush 6, 2) := by decide +kernel
theorem dL_isLike_319 : decode cL_isLike 319 = .ok (.iload_n 1, 1) := by decide +kernel
theorem dL_isLike_320 : decode cL_isLike 320 = .ok (.iload_n 1, 1) := by decide +kernel
theorem dL_isLike_321 : decode cL_isLike 321 = .ok (.invokestatic 184, 3) := by decide +kernel
theorem dL_isLike_324 : decode cL_isLike 324 = .ok (.aload_n 0, 1) := by decide +kernel
theorem dL_isLike_325 : decode cL_isLike 325 = .ok (.iconst 5, 1) := by decide +kernel
theorem dL_isLike_326 : decode cL_isLike 326 = .ok (.iload_n 1, 1) := by decide +kernel
theorem dL_isLike_327 : decode cL_isLike 327 = .ok (.iconst 0, 1) := by decide +kernel
theorem dL_isLike_328 : decode cL_isLike 328 = .ok (.invokestatic 184, 3) := by decide +kernel
theorem dL_isLike_331 : decode cL_isLike 331 = .ok (.if_icmp .ne 7, 3) := by decide +kernel
theorem dL_isLike_334 : decode cL_isLike 334 = .ok (.iconst 1, 1) := by decide +kernel
theorem dL_isLike_335 : decode cL_isLike 335 = .ok (.goto 4, 3) := by decide +kernel
theorem dL_isLike_338 : decode cL_isLike 338 = .ok (.iconst 0, 1) := by decide +kernel
theorem dL_isLike_339 : decode cL_isLike 339 = .ok (.ireturn, 1) := by decide +kernel
theorem dL_isMade_0 : decode cL_isMade 0 = .ok (.aload_n 0, 1) := by decide +kernel
theorem dL_isMade_1 : decode cL_isMade 1 = .ok (.invokevirtual 187, 3) := by decide +kernel
theorem dL_isMade_4 : decode cL_isMade 4 = .ok (.lload_n 3, 1) := by decide +kernel
theorem dL_isMade_5 : decode cL_isMade 5 = .ok (.lsub, 1) := by decide +kernel
theorem dL_isMade_6 : decode cL_isMade 6 = .ok (.aload_n 0, 1) := by decide +kernel
theorem dL_isMade_7 : decode cL_isMade 7 = .ok (.iconst 5, 1) := by decide +kernel
theorem dL_isMade_8 : decode cL_isMade 8 = .ok (.iload_n 1, 1) := by decide +kernel
theorem dL_isMade_9 : decode cL_isMade 9 = .ok (.iconst 0, 1) := by decide +kernel
theorem dL_isMade_10 : decode cL_isMade 10 = .ok (.invokestatic 184, 3) := by decide +kernel
theorem dL_isMade_13 : decode cL_isMade 13 = .ok (.aload_n 0, 1) := by decide +kernel
theorem dL_isMade_14 : decode cL_isMade 14 = .ok (.bipush 6, 2) := by decide +kernel
theorem dL_isMade_16 : decode cL_isMade 16 = .ok (.iload_n 1, 1) := by decide +kernel
theorem dL_isMade_17 : decode cL_isMade 17 = .ok (.iload_n 2, 1) := by decide +kernel
theorem dL_isMade_18 : decode cL_isMade 18 = .ok (.invokestatic 184, 3) := by decide +kernel
theorem dL_isMade_21 : decode cL_isMade 21 = .ok (.isub, 1) := by decide +kernel
theorem dL_isMade_22 : decode cL_isMade 22 = .ok (.i2l, 1) := by decide +kernel
theorem dL_isMade_23 : decode cL_isMade 23 = .ok (.lcmp, 1) := by decide +kernel
theorem dL_isMade_24 : decode cL_isMade 24 = .ok (.ifCond .ne 26, 3) := by decide +kernel
theorem dL_isMade_27 : decode cL_isMade 27 = .ok (.aload_n 0, 1) := by decide +kernel
theorem dL_isMade_28 : decode cL_isMade 28 = .ok (.bipush 6, 2) := by decide +kernel
theorem dL_isMade_30 : decode cL_isMade 30 = .ok (.iload_n 2, 1) := by decide +kernel
theorem dL_isMade_31 : decode cL_isMade 31 = .ok (.iload_n 1, 1) := by decide +kernel
theorem dL_isMade_32 : decode cL_isMade 32 = .ok (.invokestatic 184, 3) := by decide +kernel
theorem dL_isMade_35 : decode cL_isMade 35 = .ok (.aload_n 0, 1) := by decide +kernel
theorem dL_isMade_36 : decode cL_isMade 36 = .ok (.bipush 6, 2) := by decide +kernel
theorem dL_isMade_38 : decode cL_isMade 38 = .ok (.iload_n 1, 1) := by decide +kernel
theorem dL_isMade_39 : decode cL_isMade 39 = .ok (.iload_n 2, 1) := by decide +kernel
theorem dL_isMade_40 : decode cL_isMade 40 = .ok (.invokestatic 184, 3) := by decide +kernel
theorem dL_isMade_43 : decode cL_isMade 43 = .ok (.if_icmp .ne 7, 3) := by decide +kernel
theorem dL_isMade_46 : decode cL_isMade 46 = .ok (.iconst 1, 1) := by decide +kernel
theorem dL_isMade_47 : decode cL_isMade 47 = .ok (.goto 4, 3) := by decide +kernel
theorem dL_isMade_50 : decode cL_isMade 50 = .ok (.iconst 0, 1) := by decide +kernel
theorem dL_isMade_51 : decode cL_isMade 51 = .ok (.ireturn, 1) := by decide +kernel
theorem dL_value_0 : decode cL_value 0 = .ok (.aload 4, 2) := by decide +kernel
theorem dL_value_2 : decode cL_value 2 = .ok (.iconst 0, 1) := by decide +kernel
theorem dL_value_3 : decode cL_value 3 = .ok (.iaload, 1) := by decide +kernel
theorem dL_value_4 : decode cL_value 4 = .ok (.bipush 60, 2) := by decide +kernel
theorem dL_value_6 : decode cL_value 6 = .ok (.if_icmp .ne 38, 3) := by decide +kernel
theorem dL_value_9 : decode cL_value 9 = .ok (.aload_n 0, 1) := by decide +kernel
theorem dL_value_10 : decode cL_value 10 = .ok (.iconst 0, 1) := by decide +kernel
theorem dL_value_11 : decode cL_value 11 = .ok (.iconst 0, 1) := by decide +kernel
theorem dL_value_12 : decode cL_value 12 = .ok (.iconst 0, 1) := by decide +kernel
theorem dL_value_13 : decode cL_value 13 = .ok (.iconst 0, 1) := by decide +kernel
theorem dL_value_14 : decode cL_value 14 = .ok (.invokestatic 191, 3) := by decide +kernel
theorem dL_value_17 : decode cL_value 17 = .ok (.sipush (-20003), 3) := by decide +kernel
theorem dL_value_20 : decode cL_value 20 = .ok (.if_icmp .ne 22, 3) := by decide +kernel
theorem dL_value_23 : decode cL_value 23 = .ok (.aload_n 0, 1) := by decide +kernel
theorem dL_value_24 : decode cL_value 24 = .ok (.bipush 8, 2) := by decide +kernel
theorem dL_value_26 : decode cL_value 26 = .ok (.iconst 0, 1) := by decide +kernel
theorem dL_value_27 : decode cL_value 27 = .ok (.iconst 0, 1) := by decide +kernel
theorem dL_value_28 : decode cL_value 28 = .ok (.iconst 0, 1) := by decide +kernel
theorem dL_value_29 : decode cL_value 29 = .ok (.invokestatic 191, 3) := by decide +kernel
theorem dL_value_32 : decode cL_value 32 = .ok (.sipush (-20003), 3) := by decide +kernel
theorem dL_value_35 : decode cL_value 35 = .ok (.if_icmp .ne 7, 3) := by decide +kernel
theorem dL_value_38 : decode cL_value 38 = .ok (.iconst 1, 1) := by decide +kernel
theorem dL_value_39 : decode cL_value 39 = .ok (.goto 4, 3) := by decide +kernel
theorem dL_value_42 : decode cL_value 42 = .ok (.iconst 0, 1) := by decide +kernel
theorem dL_value_43 : decode cL_value 43 = .ok (.ireturn, 1) := by decide +kernel
theorem dL_value_44 : decode cL_value 44 = .ok (.aload 4, 2) := by decide +kernel
theorem dL_value_46 : decode cL_value 46 = .ok (.iconst 0, 1) := by decide +kernel
theorem dL_value_47 : decode cL_value 47 = .ok (.iaload, 1) := by decide +kernel
theorem dL_value_48 : decode cL_value 48 = .ok (.ifCond .ne 7, 3) := by decide +kernel
theorem dL_value_51 : decode cL_value 51 = .ok (.iconst 0, 1) := by decide +kernel
theorem dL_value_52 : decode cL_value 52 = .ok (.goto 26, 3) := by decide +kernel
theorem dL_value_55 : decode cL_value 55 = .ok (.aload 4, 2) := by decide +kernel
theorem dL_value_57 : decode cL_value 57 = .ok (.iconst 0, 1) := by decide +kernel
theorem dL_value_58 : decode cL_value 58 = .ok (.iaload, 1) := by decide +kernel
theorem dL_value_59 : decode cL_value 59 = .ok (.iconst 1, 1) := by decide +kernel
theorem dL_value_60 : decode cL_value 60 = .ok (.isub, 1) := by decide +kernel
theorem dL_value_61 : decode cL_value 61 = .ok (.aload_n 1, 1) := by decide +kernel
theorem dL_value_62 : decode cL_value 62 = .ok (.iload_n 2, 1) := by decide +kernel
theorem dL_value_63 : decode cL_value 63 = .ok (.iconst 1, 1) := by decide +kernel
theorem dL_value_64 : decode cL_value 64 = .ok (.iadd, 1) := by decide +kernel
theorem dL_value_65 : decode cL_value 65 = .ok (.bipush 6, 2) := by decide +kernel
theorem dL_value_67 : decode cL_value 67 = .ok (.aload 4, 2) := by decide +kernel
theorem dL_value_69 : decode cL_value 69 = .ok (.iconst 0, 1) := by decide +kernel
theorem dL_value_70 : decode cL_value 70 = .ok (.iaload, 1) := by decide +kernel
theorem dL_value_71 : decode cL_value 71 = .ok (.invokestatic 194, 3) := by decide +kernel
theorem dL_value_74 : decode cL_value 74 = .ok (.invokestatic 199, 3) := by decide +kernel
theorem dL_value_77 : decode cL_value 77 = .ok (.isub, 1) := by decide +kernel
theorem dL_value_78 : decode cL_value 78 = .ok (.istore 5, 2) := by decide +kernel
theorem dL_value_80 : decode cL_value 80 = .ok (.aload 4, 2) := by decide +kernel
theorem dL_value_82 : decode cL_value 82 = .ok (.iconst 0, 1) := by decide +kernel
theorem dL_value_83 : decode cL_value 83 = .ok (.iaload, 1) := by decide +kernel
theorem dL_value_84 : decode cL_value 84 = .ok (.ifCond .ne 12, 3) := by decide +kernel
theorem dL_value_87 : decode cL_value 87 = .ok (.aload_n 1, 1) := by decide +kernel
theorem dL_value_88 : decode cL_value 88 = .ok (.iload_n 2, 1) := by decide +kernel
theorem dL_value_89 : decode cL_value 89 = .ok (.iconst 2, 1) := by decide +kernel
theorem dL_value_90 : decode cL_value 90 = .ok (.invokestatic 199, 3) := by decide +kernel
theorem dL_value_93 : decode cL_value 93 = .ok (.goto 10, 3) := by decide +kernel
theorem dL_value_96 : decode cL_value 96 = .ok (.aload_n 1, 1) := by decide +kernel
theorem dL_value_97 : decode cL_value 97 = .ok (.iload_n 2, 1) := by decide +kernel
theorem dL_value_98 : decode cL_value 98 = .ok (.bipush 16, 2) := by decide +kernel
theorem dL_value_100 : decode cL_value 100 = .ok (.invokestatic 199, 3) := by decide +kernel
theorem dL_value_103 : decode cL_value 103 = .ok (.istore 6, 2) := by decide +kernel
theorem dL_value_105 : decode cL_value 105 = .ok (.aload_n 1, 1) := by decide +kernel
theorem dL_value_106 : decode cL_value 106 = .ok (.iload_n 2, 1) := by decide +kernel
theorem dL_value_107 : decode cL_value 107 = .ok (.iconst 2, 1) := by decide +kernel
theorem dL_value_108 : decode cL_value 108 = .ok (.iadd, 1) := by decide +kernel
theorem dL_value_109 : decode cL_value 109 = .ok (.bipush 9, 2) := by decide +kernel
theorem dL_value_111 : decode cL_value 111 = .ok (.invokestatic 199, 3) := by decide +kernel
theorem dL_value_114 : decode cL_value 114 = .ok (.iconst 4, 1) := by decide +kernel
theorem dL_value_115 : decode cL_value 115 = .ok (.isub, 1) := by decide +kernel
theorem dL_value_116 : decode cL_value 116 = .ok (.istore 7, 2) := by decide +kernel
theorem dL_value_118 : decode cL_value 118 = .ok (.aload_n 0, 1) := by decide +kernel
theorem dL_value_119 : decode cL_value 119 = .ok (.invokevirtual 187, 3) := by decide +kernel
theorem dL_value_122 : decode cL_value 122 = .ok (.lstore 8, 2) := by decide +kernel
theorem dL_value_124 : decode cL_value 124 = .ok (.aload 4, 2) := by decide +kernel
theorem dL_value_126 : decode cL_value 126 = .ok (.iconst 0, 1) := by decide +kernel
theorem dL_value_127 : decode cL_value 127 = .ok (.iaload, 1) := by decide +kernel
theorem dL_value_128 : decode cL_value 128 = .ok (.istore 10, 2) := by decide +kernel
theorem dL_value_130 : decode cL_value 130 = .ok (.bipush 70, 2) := by decide +kernel
theorem dL_value_132 : decode cL_value 132 = .ok (.newarray .int, 2) := by decide +kernel
theorem dL_value_134 : decode cL_value 134 = .ok (.astore 11, 2) := by decide +kernel
theorem dL_value_136 : decode cL_value 136 = .ok (.iload 6, 2) := by decide +kernel
theorem dL_value_138 : decode cL_value 138 = .ok (.iconst 2, 1) := by decide +kernel
theorem dL_value_139 : decode cL_value 139 = .ok (.if_icmp .ge 106, 3) := by decide +kernel
theorem dL_value_142 : decode cL_value 142 = .ok (.aload 11, 2) := by decide +kernel
theorem dL_value_144 : decode cL_value 144 = .ok (.iconst 0, 1) := by decide +kernel
theorem dL_value_145 : decode cL_value 145 = .ok (.iload 6, 2) := by decide +kernel
theorem dL_value_147 : decode cL_value 147 = .ok (.ifCond .ne 8, 3) := by decide +kernel
theorem dL_value_150 : decode cL_value 150 = .ok (.bipush 118, 2) := by decide +kernel
theorem dL_value_152 : decode cL_value 152 = .ok (.goto 5, 3) := by decide +kernel
theorem dL_value_155 : decode cL_value 155 = .ok (.bipush 109, 2) := by decide +kernel
theorem dL_value_157 : decode cL_value 157 = .ok (.iastore, 1) := by decide +kernel
theorem dL_value_158 : decode cL_value 158 = .ok (.iconst 0, 1) := by decide +kernel
theorem dL_value_159 : decode cL_value 159 = .ok (.istore 12, 2) := by decide +kernel
theorem dL_value_161 : decode cL_value 161 = .ok (.iload 12, 2) := by decide +kernel
theorem dL_value_163 : decode cL_value 163 = .ok (.bipush 40, 2) := by decide +kernel
theorem dL_value_165 : decode cL_value 165 = .ok (.if_icmp .ge 25, 3) := by decide +kernel
theorem dL_value_168 : decode cL_value 168 = .ok (.iload 6, 2) := by decide +kernel
theorem dL_value_170 : decode cL_value 170 = .ok (.iconst 1, 1) := by decide +kernel
theorem dL_value_171 : decode cL_value 171 = .ok (.if_icmp .ne 19, 3) := by decide +kernel
theorem dL_value_174 : decode cL_value 174 = .ok (.aload 11, 2) := by decide +kernel
theorem dL_value_176 : decode cL_value 176 = .ok (.iconst 2, 1) := by decide +kernel
theorem dL_value_177 : decode cL_value 177 = .ok (.iload 12, 2) := by decide +kernel
theorem dL_value_179 : decode cL_value 179 = .ok (.iadd, 1) := by decide +kernel
theorem dL_value_180 : decode cL_value 180 = .ok (.sipush 2000, 3) := by decide +kernel
theorem dL_value_183 : decode cL_value 183 = .ok (.iastore, 1) := by decide +kernel
theorem dL_value_184 : decode cL_value 184 = .ok (.iinc 12 1, 3) := by decide +kernel
theorem dL_value_187 : decode cL_value 187 = .ok (.goto (-26), 3) := by decide +kernel
theorem dL_value_190 : decode cL_value 190 = .ok (.aload_n 3, 1) := by decide +kernel
theorem dL_value_191 : decode cL_value 191 = .ok (.iload 10, 2) := by decide +kernel
theorem dL_value_193 : decode cL_value 193 = .ok (.aload 11, 2) := by decide +kernel
theorem dL_value_195 : decode cL_value 195 = .ok (.aastore, 1) := by decide +kernel
theorem dL_value_196 : decode cL_value 196 = .ok (.aload 4, 2) := by decide +kernel
theorem dL_value_198 : decode cL_value 198 = .ok (.iconst 0, 1) := by decide +kernel
theorem dL_value_199 : decode cL_value 199 = .ok (.dup2, 1) := by decide +kernel
theorem dL_value_200 : decode cL_value 200 = .ok (.iaload, 1) := by decide +kernel
theorem dL_value_201 : decode cL_value 201 = .ok (.iconst 1, 1) := by decide +kernel
theorem dL_value_202 : decode cL_value 202 = .ok (.iadd, 1) := by decide +kernel
theorem dL_value_203 : decode cL_value 203 = .ok (.iastore, 1) := by decide +kernel
theorem dL_value_204 : decode cL_value 204 = .ok (.aload_n 0, 1) := by decide +kernel
theorem dL_value_205 : decode cL_value 205 = .ok (.iload 6, 2) := by decide +kernel
theorem dL_value_207 : decode cL_value 207 = .ok (.ifCond .ne 7, 3) := by decide +kernel
theorem dL_value_210 : decode cL_value 210 = .ok (.iconst 0, 1) := by decide +kernel
theorem dL_value_211 : decode cL_value 211 = .ok (.goto 5, 3) := by decide +kernel
theorem dL_value_214 : decode cL_value 214 = .ok (.bipush 8, 2) := by decide +kernel
theorem dL_value_216 : decode cL_value 216 = .ok (.iconst 0, 1) := by decide +kernel
theorem dL_value_217 : decode cL_value 217 = .ok (.iconst 0, 1) := by decide +kernel
theorem dL_value_218 : decode cL_value 218 = .ok (.iconst 0, 1) := by decide +kernel
theorem dL_value_219 : decode cL_value 219 = .ok (.invokestatic 191, 3) := by decide +kernel
theorem dL_value_222 : decode cL_value 222 = .ok (.iload 10, 2) := by decide +kernel
theorem dL_value_224 : decode cL_value 224 = .ok (.if_icmp .ne 19, 3) := by decide +kernel
theorem dL_value_227 : decode cL_value 227 = .ok (.aload_n 0, 1) := by decide +kernel
theorem dL_value_228 : decode cL_value 228 = .ok (.invokevirtual 187, 3) := by decide +kernel
theorem dL_value_231 : decode cL_value 231 = .ok (.lload 8, 2) := by decide +kernel
theorem dL_value_233 : decode cL_value 233 = .ok (.lconst 1, 1) := by decide +kernel
theorem dL_value_234 : decode cL_value 234 = .ok (.ladd, 1) := by decide +kernel
theorem dL_value_235 : decode cL_value 235 = .ok (.lcmp, 1) := by decide +kernel
theorem dL_value_236 : decode cL_value 236 = .ok (.ifCond .ne 7, 3) := by decide +kernel
theorem dL_value_239 : decode cL_value 239 = .ok (.iconst 1, 1) := by decide +kernel
theorem dL_value_240 : decode cL_value 240 = .ok (.goto 4, 3) := by decide +kernel
theorem dL_value_243 : decode cL_value 243 = .ok (.iconst 0, 1) := by decide +kernel
theorem dL_value_244 : decode cL_value 244 = .ok (.ireturn, 1) := by decide +kernel
theorem dL_value_245 : decode cL_value 245 = .ok (.iconst 0, 1) := by decide +kernel
theorem dL_value_246 : decode cL_value 246 = .ok (.istore 12, 2) := by decide +kernel
theorem dL_value_248 : decode cL_value 248 = .ok (.iload 12, 2) := by decide +kernel
theorem dL_value_250 : decode cL_value 250 = .ok (.bipush 70, 2) := by decide +kernel
theorem dL_value_252 : decode cL_value 252 = .ok (.if_icmp .ge 21, 3) := by decide +kernel
theorem dL_value_255 : decode cL_value 255 = .ok (.aload 11, 2) := by decide +kernel
theorem dL_value_257 : decode cL_value 257 = .ok (.iload 12, 2) := by decide +kernel
theorem dL_value_259 : decode cL_value 259 = .ok (.aload_n 3, 1) := by decide +kernel
theorem dL_value_260 : decode cL_value 260 = .ok (.iload 5, 2) := by decide +kernel
theorem dL_value_262 : decode cL_value 262 = .ok (.aaload, 1) := by decide +kernel
theorem dL_value_263 : decode cL_value 263 = .ok (.iload 12, 2) := by decide +kernel
theorem dL_value_265 : decode cL_value 265 = .ok (.iaload, 1) := by decide +kernel
theorem dL_value_266 : decode cL_value 266 = .ok (.iastore, 1) := by decide +kernel
theorem dL_value_267 : decode cL_value 267 = .ok (.iinc 12 1, 3) := by decide +kernel
theorem dL_value_270 : decode cL_value 270 = .ok (.goto (-22), 3) := by decide +kernel
theorem dL_value_273 : decode cL_value 273 = .ok (.aload 11, 2) := by decide +kernel
theorem dL_value_275 : decode cL_value 275 = .ok (.iconst 1, 1) := by decide +kernel
theorem dL_value_276 : decode cL_value 276 = .ok (.iaload, 1) := by decide +kernel
theorem dL_value_277 : decode cL_value 277 = .ok (.istore 12, 2) := by decide +kernel
theorem dL_value_279 : decode cL_value 279 = .ok (.aload_n 1, 1) := by decide +kernel
theorem dL_value_280 : decode cL_value 280 = .ok (.iload_n 2, 1) := by decide +kernel
theorem dL_value_281 : decode cL_value 281 = .ok (.iconst 3, 1) := by decide +kernel
theorem dL_value_282 : decode cL_value 282 = .ok (.iadd, 1) := by decide +kernel
theorem dL_value_283 : decode cL_value 283 = .ok (.bipush 20, 2) := by decide +kernel
theorem dL_value_285 : decode cL_value 285 = .ok (.invokestatic 199, 3) := by decide +kernel
theorem dL_value_288 : decode cL_value 288 = .ok (.istore 13, 2) := by decide +kernel
theorem dL_value_290 : decode cL_value 290 = .ok (.aload 11, 2) := by decide +kernel
theorem dL_value_292 : decode cL_value 292 = .ok (.iconst 0, 1) := by decide +kernel
theorem dL_value_293 : decode cL_value 293 = .ok (.iaload, 1) := by decide +kernel
theorem dL_value_294 : decode cL_value 294 = .ok (.bipush 118, 2) := by decide +kernel
theorem dL_value_296 : decode cL_value 296 = .ok (.if_icmp .ne 239, 3) := by decide +kernel
theorem dL_value_299 : decode cL_value 299 = .ok (.iload 6, 2) := by decide +kernel
theorem dL_value_301 : decode cL_value 301 = .ok (.bipush 10, 2) := by decide +kernel
theorem dL_value_303 : decode cL_value 303 = .ok (.if_icmp .ge 232, 3) := by decide +kernel
theorem dL_value_306 : decode cL_value 306 = .ok (.iload 6, 2) := by decide +kernel
theorem dL_value_308 : decode cL_value 308 = .ok (.bipush 7, 2) := by decide +kernel
theorem dL_value_310 : decode cL_value 310 = .ok (.if_icmp .ge 84, 3) := by decide +kernel
theorem dL_value_313 : decode cL_value 313 = .ok (.aload_n 0, 1) := by decide +kernel
theorem dL_value_314 : decode cL_value 314 = .ok (.iconst 1, 1) := by decide +kernel
theorem dL_value_315 : decode cL_value 315 = .ok (.iload 5, 2) := by decide +kernel
theorem dL_value_317 : decode cL_value 317 = .ok (.iload 7, 2) := by decide +kernel
theorem dL_value_319 : decode cL_value 319 = .ok (.iconst 0, 1) := by decide +kernel
theorem dL_value_320 : decode cL_value 320 = .ok (.invokestatic 191, 3) := by decide +kernel
theorem dL_value_323 : decode cL_value 323 = .ok (.istore 14, 2) := by decide +kernel
theorem dL_value_325 : decode cL_value 325 = .ok (.iload 12, 2) := by decide +kernel
theorem dL_value_327 : decode cL_value 327 = .ok (.bipush 64, 2) := by decide +kernel
theorem dL_value_329 : decode cL_value 329 = .ok (.if_icmp .ge 7, 3) := by decide +kernel
theorem dL_value_332 : decode cL_value 332 = .ok (.iconst 1, 1) := by decide +kernel
theorem dL_value_333 : decode cL_value 333 = .ok (.goto 4, 3) := by decide +kernel
theorem dL_value_336 : decode cL_value 336 = .ok (.iconst 0, 1) := by decide +kernel
theorem dL_value_337 : decode cL_value 337 = .ok (.istore 15, 2) := by decide +kernel
theorem dL_value_339 : decode cL_value 339 = .ok (.aload 11, 2) := by decide +kernel
theorem dL_value_341 : decode cL_value 341 = .ok (.iconst 2, 1) := by decide +kernel
theorem dL_value_342 : decode cL_value 342 = .ok (.bipush 63, 2) := by decide +kernel
theorem dL_value_344 : decode cL_value 344 = .ok (.iload 12, 2) := by decide +kernel
theorem dL_value_346 : decode cL_value 346 = .ok (.invokestatic 194, 3) := by decide +kernel
theorem dL_value_349 : decode cL_value 349 = .ok (.iadd, 1) := by decide +kernel
theorem dL_value_350 : decode cL_value 350 = .ok (.iload 7, 2) := by decide +kernel
theorem dL_value_352 : decode cL_value 352 = .ok (.iastore, 1) := by decide +kernel
theorem dL_value_353 : decode cL_value 353 = .ok (.aload 11, 2) := by decide +kernel
theorem dL_value_355 : decode cL_value 355 = .ok (.iconst 1, 1) := by decide +kernel
theorem dL_value_356 : decode cL_value 356 = .ok (.dup2, 1) := by decide +kernel
theorem dL_value_357 : decode cL_value 357 = .ok (.iaload, 1) := by decide +kernel
theorem dL_value_358 : decode cL_value 358 = .ok (.iload 15, 2) := by decide +kernel
theorem dL_value_360 : decode cL_value 360 = .ok (.ifCond .eq 7, 3) := by decide +kernel
theorem dL_value_363 : decode cL_value 363 = .ok (.iconst 1, 1) := by decide +kernel
theorem dL_value_364 : decode cL_value 364 = .ok (.goto 4, 3) := by decide +kernel
theorem dL_value_367 : decode cL_value 367 = .ok (.iconst 0, 1) := by decide +kernel
theorem dL_value_368 : decode cL_value 368 = .ok (.iadd, 1) := by decide +kernel
theorem dL_value_369 : decode cL_value 369 = .ok (.iastore, 1) := by decide +kernel
theorem dL_value_370 : decode cL_value 370 = .ok (.iload 15, 2) := by decide +kernel
theorem dL_value_372 : decode cL_value 372 = .ok (.ifCond .ne 11, 3) := by decide +kernel
theorem dL_value_375 : decode cL_value 375 = .ok (.iload 14, 2) := by decide +kernel
theorem dL_value_377 : decode cL_value 377 = .ok (.sipush (-20004), 3) := by decide +kernel
theorem dL_value_380 : decode cL_value 380 = .ok (.if_icmp .eq 8, 3) := by decide +kernel
theorem dL_value_383 : decode cL_value 383 = .ok (.iload 14, 2) := by decide +kernel
theorem dL_value_385 : decode cL_value 385 = .ok (.goto 4, 3) := by decide +kernel
theorem dL_value_388 : decode cL_value 388 = .ok (.iconst (-1), 1) := by decide +kernel
theorem dL_value_389 : decode cL_value 389 = .ok (.istore 14, 2) := by decide +kernel
theorem dL_value_391 : decode cL_value 391 = .ok (.goto 681, 3) := by decide +kernel
theorem dL_value_394 : decode cL_value 394 = .ok (.iload 6, 2) := by decide +kernel
theorem dL_value_396 : decode cL_value 396 = .ok (.bipush 9, 2) := by decide +kernel
theorem dL_value_398 : decode cL_value 398 = .ok (.if_icmp .ge 73, 3) := by decide +kernel
theorem dL_value_401 : decode cL_value 401 = .ok (.aload_n 0, 1) := by decide +kernel
theorem dL_value_402 : decode cL_value 402 = .ok (.iconst 2, 1) := by decide +kernel
theorem dL_value_403 : decode cL_value 403 = .ok (.iload 5, 2) := by decide +kernel
theorem dL_value_405 : decode cL_value 405 = .ok (.iload 13, 2) := by decide +kernel
theorem dL_value_407 : decode cL_value 407 = .ok (.iload 7, 2) := by decide +kernel
theorem dL_value_409 : decode cL_value 409 = .ok (.invokestatic 191, 3) := by decide +kernel
theorem dL_value_412 : decode cL_value 412 = .ok (.istore 14, 2) := by decide +kernel
theorem dL_value_414 : decode cL_value 414 = .ok (.iload 13, 2) := by decide +kernel
theorem dL_value_416 : decode cL_value 416 = .ok (.iload 12, 2) := by decide +kernel
theorem dL_value_418 : decode cL_value 418 = .ok (.if_icmp .ge 7, 3) := by decide +kernel
theorem dL_value_421 : decode cL_value 421 = .ok (.iconst 1, 1) := by decide +kernel
theorem dL_value_422 : decode cL_value 422 = .ok (.goto 4, 3) := by decide +kernel
theorem dL_value_425 : decode cL_value 425 = .ok (.iconst 0, 1) := by decide +kernel
theorem dL_value_426 : decode cL_value 426 = .ok (.istore 15, 2) := by decide +kernel
theorem dL_value_428 : decode cL_value 428 = .ok (.aload 11, 2) := by decide +kernel
theorem dL_value_430 : decode cL_value 430 = .ok (.iconst 2, 1) := by decide +kernel
theorem dL_value_431 : decode cL_value 431 = .ok (.iload 15, 2) := by decide +kernel
theorem dL_value_433 : decode cL_value 433 = .ok (.ifCond .eq 8, 3) := by decide +kernel
theorem dL_value_436 : decode cL_value 436 = .ok (.iload 13, 2) := by decide +kernel
theorem dL_value_438 : decode cL_value 438 = .ok (.goto 5, 3) := by decide +kernel
theorem dL_value_441 : decode cL_value 441 = .ok (.bipush 65, 2) := by decide +kernel
theorem dL_value_443 : decode cL_value 443 = .ok (.iadd, 1) := by decide +kernel
theorem dL_value_444 : decode cL_value 444 = .ok (.iload 7, 2) := by decide +kernel
theorem dL_value_446 : decode cL_value 446 = .ok (.iastore, 1) := by decide +kernel
theorem dL_value_447 : decode cL_value 447 = .ok (.iload 15, 2) := by decide +kernel
theorem dL_value_449 : decode cL_value 449 = .ok (.ifCond .ne 11, 3) := by decide +kernel
theorem dL_value_452 : decode cL_value 452 = .ok (.iload 14, 2) := by decide +kernel
theorem dL_value_454 : decode cL_value 454 = .ok (.sipush (-20005), 3) := by decide +kernel
theorem dL_value_457 : decode cL_value 457 = .ok (.if_icmp .eq 8, 3) := by decide +kernel
theorem dL_value_460 : decode cL_value 460 = .ok (.iload 14, 2) := by decide +kernel
theorem dL_value_462 : decode cL_value 462 = .ok (.goto 4, 3) := by decide +kernel
theorem dL_value_465 : decode cL_value 465 = .ok (.iconst (-1), 1) := by decide +kernel
theorem dL_value_466 : decode cL_value 466 = .ok (.istore 14, 2) := by decide +kernel
theorem dL_value_468 : decode cL_value 468 = .ok (.goto 604, 3) := by decide +kernel
theorem dL_value_471 : decode cL_value 471 = .ok (.aload_n 0, 1) := by decide +kernel
theorem dL_value_472 : decode cL_value 472 = .ok (.iconst 3, 1) := by decide +kernel
theorem dL_value_473 : decode cL_value 473 = .ok (.iload 5, 2) := by decide +kernel
theorem dL_value_475 : decode cL_value 475 = .ok (.iconst 0, 1) := by decide +kernel
theorem dL_value_476 : decode cL_value 476 = .ok (.iconst 0, 1) := by decide +kernel
theorem dL_value_477 : decode cL_value 477 = .ok (.invokestatic 191, 3) := by decide +kernel
theorem dL_value_480 : decode cL_value 480 = .ok (.istore 14, 2) := by decide +kernel
theorem dL_value_482 : decode cL_value 482 = .ok (.iload 12, 2) := by decide +kernel
theorem dL_value_484 : decode cL_value 484 = .ok (.ifCond .le 7, 3) := by decide +kernel
theorem dL_value_487 : decode cL_value 487 = .ok (.iconst 1, 1) := by decide +kernel
theorem dL_value_488 : decode cL_value 488 = .ok (.goto 4, 3) := by decide +kernel
theorem dL_value_491 : decode cL_value 491 = .ok (.iconst 0, 1) := by decide +kernel
theorem dL_value_492 : decode cL_value 492 = .ok (.istore 15, 2) := by decide +kernel
theorem dL_value_494 : decode cL_value 494 = .ok (.aload 11, 2) := by decide +kernel
theorem dL_value_496 : decode cL_value 496 = .ok (.iconst 1, 1) := by decide +kernel
theorem dL_value_497 : decode cL_value 497 = .ok (.dup2, 1) := by decide +kernel
theorem dL_value_498 : decode cL_value 498 = .ok (.iaload, 1) := by decide +kernel
theorem dL_value_499 : decode cL_value 499 = .ok (.iload 15, 2) := by decide +kernel
theorem dL_value_501 : decode cL_value 501 = .ok (.ifCond .eq 7, 3) := by decide +kernel
theorem dL_value_504 : decode cL_value 504 = .ok (.iconst 1, 1) := by decide +kernel
theorem dL_value_505 : decode cL_value 505 = .ok (.goto 4, 3) := by decide +kernel
theorem dL_value_508 : decode cL_value 508 = .ok (.iconst 0, 1) := by decide +kernel
theorem dL_value_509 : decode cL_value 509 = .ok (.isub, 1) := by decide +kernel
theorem dL_value_510 : decode cL_value 510 = .ok (.iastore, 1) := by decide +kernel
theorem dL_value_511 : decode cL_value 511 = .ok (.iload 15, 2) := by decide +kernel
theorem dL_value_513 : decode cL_value 513 = .ok (.ifCond .ne 11, 3) := by decide +kernel
theorem dL_value_516 : decode cL_value 516 = .ok (.iload 14, 2) := by decide +kernel
theorem dL_value_518 : decode cL_value 518 = .ok (.sipush (-20005), 3) := by decide +kernel
theorem dL_value_521 : decode cL_value 521 = .ok (.if_icmp .eq 8, 3) := by decide +kernel
theorem dL_value_524 : decode cL_value 524 = .ok (.iload 14, 2) := by decide +kernel
theorem dL_value_526 : decode cL_value 526 = .ok (.goto 4, 3) := by decide +kernel
theorem dL_value_529 : decode cL_value 529 = .ok (.iconst (-1), 1) := by decide +kernel
theorem dL_value_530 : decode cL_value 530 = .ok (.istore 14, 2) := by decide +kernel
theorem dL_value_532 : decode cL_value 532 = .ok (.goto 540, 3) := by decide +kernel
theorem dL_value_535 : decode cL_value 535 = .ok (.aload 11, 2) := by decide +kernel
theorem dL_value_537 : decode cL_value 537 = .ok (.iconst 0, 1) := by decide +kernel
theorem dL_value_538 : decode cL_value 538 = .ok (.iaload, 1) := by decide +kernel
theorem dL_value_539 : decode cL_value 539 = .ok (.bipush 118, 2) := by decide +kernel
theorem dL_value_541 : decode cL_value 541 = .ok (.if_icmp .ne 42, 3) := by decide +kernel
theorem dL_value_544 : decode cL_value 544 = .ok (.aload_n 0, 1) := by decide +kernel
theorem dL_value_545 : decode cL_value 545 = .ok (.iconst 4, 1) := by decide +kernel
theorem dL_value_546 : decode cL_value 546 = .ok (.iload 5, 2) := by decide +kernel
theorem dL_value_548 : decode cL_value 548 = .ok (.iconst 0, 1) := by decide +kernel
theorem dL_value_549 : decode cL_value 549 = .ok (.iconst 0, 1) := by decide +kernel
theorem dL_value_550 : decode cL_value 550 = .ok (.invokestatic 191, 3) := by decide +kernel
theorem dL_value_553 : decode cL_value 553 = .ok (.istore 14, 2) := by decide +kernel
theorem dL_value_555 : decode cL_value 555 = .ok (.iconst 1, 1) := by decide +kernel
theorem dL_value_556 : decode cL_value 556 = .ok (.istore 15, 2) := by decide +kernel
theorem dL_value_558 : decode cL_value 558 = .ok (.aload 11, 2) := by decide +kernel
theorem dL_value_560 : decode cL_value 560 = .ok (.iconst 0, 1) := by decide +kernel
theorem dL_value_561 : decode cL_value 561 = .ok (.bipush 111, 2) := by decide +kernel
theorem dL_value_563 : decode cL_value 563 = .ok (.iastore, 1) := by decide +kernel
theorem dL_value_564 : decode cL_value 564 = .ok (.iload 14, 2) := by decide +kernel
theorem dL_value_566 : decode cL_value 566 = .ok (.iload 10, 2) := by decide +kernel
theorem dL_value_568 : decode cL_value 568 = .ok (.if_icmp .ne 504, 3) := by decide +kernel
theorem dL_value_571 : decode cL_value 571 = .ok (.aload_n 0, 1) := by decide +kernel
theorem dL_value_572 : decode cL_value 572 = .ok (.invokevirtual 187, 3) := by decide +kernel
theorem dL_value_575 : decode cL_value 575 = .ok (.lload 8, 2) := by decide +kernel
theorem dL_value_577 : decode cL_value 577 = .ok (.lcmp, 1) := by decide +kernel
theorem dL_value_578 : decode cL_value 578 = .ok (.ifCond .eq 494, 3) := by decide +kernel
theorem dL_value_581 : decode cL_value 581 = .ok (.iconst 0, 1) := by decide +kernel
theorem dL_value_582 : decode cL_value 582 = .ok (.ireturn, 1) := by decide +kernel
theorem dL_value_583 : decode cL_value 583 = .ok (.aload 11, 2) := by decide +kernel
theorem dL_value_585 : decode cL_value 585 = .ok (.iconst 0, 1) := by decide +kernel
theorem dL_value_586 : decode cL_value 586 = .ok (.iaload, 1) := by decide +kernel
theorem dL_value_587 : decode cL_value 587 = .ok (.bipush 111, 2) := by decide +kernel
theorem dL_value_589 : decode cL_value 589 = .ok (.if_icmp .ne 278, 3) := by decide +kernel
theorem dL_value_592 : decode cL_value 592 = .ok (.iload 6, 2) := by decide +kernel
theorem dL_value_594 : decode cL_value 594 = .ok (.bipush 12, 2) := by decide +kernel
theorem dL_value_596 : decode cL_value 596 = .ok (.if_icmp .le 102, 3) := by decide +kernel
theorem dL_value_599 : decode cL_value 599 = .ok (.aload_n 0, 1) := by decide +kernel
theorem dL_value_600 : decode cL_value 600 = .ok (.bipush 7, 2) := by decide +kernel
theorem dL_value_602 : decode cL_value 602 = .ok (.iload 5, 2) := by decide +kernel
theorem dL_value_604 : decode cL_value 604 = .ok (.iconst 0, 1) := by decide +kernel
theorem dL_value_605 : decode cL_value 605 = .ok (.iconst 0, 1) := by decide +kernel
theorem dL_value_606 : decode cL_value 606 = .ok (.invokestatic 191, 3) := by decide +kernel
theorem dL_value_609 : decode cL_value 609 = .ok (.istore 14, 2) := by decide +kernel
theorem dL_value_611 : decode cL_value 611 = .ok (.aload 11, 2) := by decide +kernel
theorem dL_value_613 : decode cL_value 613 = .ok (.iconst 0, 1) := by decide +kernel
theorem dL_value_614 : decode cL_value 614 = .ok (.bipush 118, 2) := by decide +kernel
theorem dL_value_616 : decode cL_value 616 = .ok (.iastore, 1) := by decide +kernel
theorem dL_value_617 : decode cL_value 617 = .ok (.aload_n 3, 1) := by decide +kernel
theorem dL_value_618 : decode cL_value 618 = .ok (.iload 5, 2) := by decide +kernel
theorem dL_value_620 : decode cL_value 620 = .ok (.aaload, 1) := by decide +kernel
theorem dL_value_621 : decode cL_value 621 = .ok (.iconst 0, 1) := by decide +kernel
theorem dL_value_622 : decode cL_value 622 = .ok (.bipush 120, 2) := by decide +kernel
theorem dL_value_624 : decode cL_value 624 = .ok (.iastore, 1) := by decide +kernel
theorem dL_value_625 : decode cL_value 625 = .ok (.aload_n 3, 1) := by decide +kernel
theorem dL_value_626 : decode cL_value 626 = .ok (.iload 5, 2) := by decide +kernel
theorem dL_value_628 : decode cL_value 628 = .ok (.aaload, 1) := by decide +kernel
theorem dL_value_629 : decode cL_value 629 = .ok (.iconst 1, 1) := by decide +kernel
theorem dL_value_630 : decode cL_value 630 = .ok (.iconst 0, 1) := by decide +kernel
theorem dL_value_631 : decode cL_value 631 = .ok (.iastore, 1) := by decide +kernel
theorem dL_value_632 : decode cL_value 632 = .ok (.aload_n 3, 1) := by decide +kernel
theorem dL_value_633 : decode cL_value 633 = .ok (.iload 10, 2) := by decide +kernel
theorem dL_value_635 : decode cL_value 635 = .ok (.aload 11, 2) := by decide +kernel
theorem dL_value_637 : decode cL_value 637 = .ok (.aastore, 1) := by decide +kernel
theorem dL_value_638 : decode cL_value 638 = .ok (.aload 4, 2) := by decide +kernel
theorem dL_value_640 : decode cL_value 640 = .ok (.iconst 0, 1) := by decide +kernel
theorem dL_value_641 : decode cL_value 641 = .ok (.dup2, 1) := by decide +kernel
theorem dL_value_642 : decode cL_value 642 = .ok (.iaload, 1) := by decide +kernel
theorem dL_value_643 : decode cL_value 643 = .ok (.iconst 1, 1) := by decide +kernel
theorem dL_value_644 : decode cL_value 644 = .ok (.iadd, 1) := by decide +kernel
theorem dL_value_645 : decode cL_value 645 = .ok (.iastore, 1) := by decide +kernel
theorem dL_value_646 : decode cL_value 646 = .ok (.iload 14, 2) := by decide +kernel
theorem dL_value_648 : decode cL_value 648 = .ok (.iload 10, 2) := by decide +kernel
theorem dL_value_650 : decode cL_value 650 = .ok (.if_icmp .ne 46, 3) := by decide +kernel
theorem dL_value_653 : decode cL_value 653 = .ok (.aload_n 0, 1) := by decide +kernel
theorem dL_value_654 : decode cL_value 654 = .ok (.invokevirtual 187, 3) := by decide +kernel
theorem dL_value_657 : decode cL_value 657 = .ok (.lload 8, 2) := by decide +kernel
theorem dL_value_659 : decode cL_value 659 = .ok (.lcmp, 1) := by decide +kernel
theorem dL_value_660 : decode cL_value 660 = .ok (.ifCond .ne 36, 3) := by decide +kernel
theorem dL_value_663 : decode cL_value 663 = .ok (.aload_n 0, 1) := by decide +kernel
theorem dL_value_664 : decode cL_value 664 = .ok (.bipush 7, 2) := by decide +kernel
theorem dL_value_666 : decode cL_value 666 = .ok (.iload 5, 2) := by decide +kernel
theorem dL_value_668 : decode cL_value 668 = .ok (.iload 10, 2) := by decide +kernel
theorem dL_value_670 : decode cL_value 670 = .ok (.invokestatic 184, 3) := by decide +kernel
theorem dL_value_673 : decode cL_value 673 = .ok (.sipush (-20005), 3) := by decide +kernel
theorem dL_value_676 : decode cL_value 676 = .ok (.if_icmp .ne 20, 3) := by decide +kernel
theorem dL_value_679 : decode cL_value 679 = .ok (.aload_n 0, 1) := by decide +kernel
theorem dL_value_680 : decode cL_value 680 = .ok (.bipush 6, 2) := by decide +kernel
theorem dL_value_682 : decode cL_value 682 = .ok (.iload 5, 2) := by decide +kernel
theorem dL_value_684 : decode cL_value 684 = .ok (.iload 10, 2) := by decide +kernel
theorem dL_value_686 : decode cL_value 686 = .ok (.invokestatic 184, 3) := by decide +kernel
theorem dL_value_689 : decode cL_value 689 = .ok (.ifCond .ne 7, 3) := by decide +kernel
theorem dL_value_692 : decode cL_value 692 = .ok (.iconst 1, 1) := by decide +kernel
theorem dL_value_693 : decode cL_value 693 = .ok (.goto 4, 3) := by decide +kernel
theorem dL_value_696 : decode cL_value 696 = .ok (.iconst 0, 1) := by decide +kernel
theorem dL_value_697 : decode cL_value 697 = .ok (.ireturn, 1) := by decide +kernel
theorem dL_value_698 : decode cL_value 698 = .ok (.iload 6, 2) := by decide +kernel
theorem dL_value_700 : decode cL_value 700 = .ok (.bipush 8, 2) := by decide +kernel
theorem dL_value_702 : decode cL_value 702 = .ok (.if_icmp .lt 8, 3) := by decide +kernel
theorem dL_value_705 : decode cL_value 705 = .ok (.iload 12, 2) := by decide +kernel
theorem dL_value_707 : decode cL_value 707 = .ok (.ifCond .ne 7, 3) := by decide +kernel
theorem dL_value_710 : decode cL_value 710 = .ok (.iconst 1, 1) := by decide +kernel
theorem dL_value_711 : decode cL_value 711 = .ok (.goto 4, 3) := by decide +kernel
theorem dL_value_714 : decode cL_value 714 = .ok (.iconst 0, 1) := by decide +kernel
theorem dL_value_715 : decode cL_value 715 = .ok (.istore 16, 2) := by decide +kernel
theorem dL_value_717 : decode cL_value 717 = .ok (.iload 16, 2) := by decide +kernel
theorem dL_value_719 : decode cL_value 719 = .ok (.ifCond .eq 16, 3) := by decide +kernel
theorem dL_value_722 : decode cL_value 722 = .ok (.aload_n 0, 1) := by decide +kernel
theorem dL_value_723 : decode cL_value 723 = .ok (.iconst 5, 1) := by decide +kernel
theorem dL_value_724 : decode cL_value 724 = .ok (.iload 5, 2) := by decide +kernel
theorem dL_value_726 : decode cL_value 726 = .ok (.iload 7, 2) := by decide +kernel
theorem dL_value_728 : decode cL_value 728 = .ok (.iconst 0, 1) := by decide +kernel
theorem dL_value_729 : decode cL_value 729 = .ok (.invokestatic 191, 3) := by decide +kernel
theorem dL_value_732 : decode cL_value 732 = .ok (.goto 18, 3) := by decide +kernel
theorem dL_value_735 : decode cL_value 735 = .ok (.aload_n 0, 1) := by decide +kernel
theorem dL_value_736 : decode cL_value 736 = .ok (.bipush 6, 2) := by decide +kernel
theorem dL_value_738 : decode cL_value 738 = .ok (.iload 5, 2) := by decide +kernel
theorem dL_value_740 : decode cL_value 740 = .ok (.iload 13, 2) := by decide +kernel
theorem dL_value_742 : decode cL_value 742 = .ok (.iload 12, 2) := by decide +kernel
theorem dL_value_744 : decode cL_value 744 = .ok (.irem, 1) := by decide +kernel
theorem dL_value_745 : decode cL_value 745 = .ok (.iload 7, 2) := by decide +kernel
theorem dL_value_747 : decode cL_value 747 = .ok (.invokestatic 191, 3) := by decide +kernel
theorem dL_value_750 : decode cL_value 750 = .ok (.istore 14, 2) := by decide +kernel
theorem dL_value_752 : decode cL_value 752 = .ok (.iload 16, 2) := by decide +kernel
theorem dL_value_754 : decode cL_value 754 = .ok (.ifCond .eq 24, 3) := by decide +kernel
theorem dL_value_757 : decode cL_value 757 = .ok (.iload 12, 2) := by decide +kernel
theorem dL_value_759 : decode cL_value 759 = .ok (.bipush 64, 2) := by decide +kernel
theorem dL_value_761 : decode cL_value 761 = .ok (.if_icmp .ne 17, 3) := by decide +kernel
theorem dL_value_764 : decode cL_value 764 = .ok (.iload 14, 2) := by decide +kernel
theorem dL_value_766 : decode cL_value 766 = .ok (.sipush (-20004), 3) := by decide +kernel
theorem dL_value_769 : decode cL_value 769 = .ok (.if_icmp .ne 7, 3) := by decide +kernel
theorem dL_value_772 : decode cL_value 772 = .ok (.iconst 1, 1) := by decide +kernel
theorem dL_value_773 : decode cL_value 773 = .ok (.goto 4, 3) := by decide +kernel
theorem dL_value_776 : decode cL_value 776 = .ok (.iconst 0, 1) := by decide +kernel
theorem dL_value_777 : decode cL_value 777 = .ok (.ireturn, 1) := by decide +kernel
theorem dL_value_778 : decode cL_value 778 = .ok (.aload_n 3, 1) := by decide +kernel
theorem dL_value_779 : decode cL_value 779 = .ok (.iload 5, 2) := by decide +kernel
theorem dL_value_781 : decode cL_value 781 = .ok (.aaload, 1) := by decide +kernel
theorem dL_value_782 : decode cL_value 782 = .ok (.iconst 2, 1) := by decide +kernel
theorem dL_value_783 : decode cL_value 783 = .ok (.iload 16, 2) := by decide +kernel
theorem dL_value_785 : decode cL_value 785 = .ok (.ifCond .eq 8, 3) := by decide +kernel
theorem dL_value_788 : decode cL_value 788 = .ok (.iload 12, 2) := by decide +kernel
theorem dL_value_790 : decode cL_value 790 = .ok (.goto 8, 3) := by decide +kernel
theorem dL_value_793 : decode cL_value 793 = .ok (.iload 13, 2) := by decide +kernel
theorem dL_value_795 : decode cL_value 795 = .ok (.iload 12, 2) := by decide +kernel
theorem dL_value_797 : decode cL_value 797 = .ok (.irem, 1) := by decide +kernel
theorem dL_value_798 : decode cL_value 798 = .ok (.iadd, 1) := by decide +kernel
theorem dL_value_799 : decode cL_value 799 = .ok (.iload 7, 2) := by decide +kernel
theorem dL_value_801 : decode cL_value 801 = .ok (.iastore, 1) := by decide +kernel
theorem dL_value_802 : decode cL_value 802 = .ok (.aload_n 3, 1) := by decide +kernel
theorem dL_value_803 : decode cL_value 803 = .ok (.iload 5, 2) := by decide +kernel
theorem dL_value_805 : decode cL_value 805 = .ok (.aaload, 1) := by decide +kernel
theorem dL_value_806 : decode cL_value 806 = .ok (.iconst 1, 1) := by decide +kernel
theorem dL_value_807 : decode cL_value 807 = .ok (.dup2, 1) := by decide +kernel
theorem dL_value_808 : decode cL_value 808 = .ok (.iaload, 1) := by decide +kernel
theorem dL_value_809 : decode cL_value 809 = .ok (.iload 16, 2) := by decide +kernel
theorem dL_value_811 : decode cL_value 811 = .ok (.ifCond .eq 7, 3) := by decide +kernel
theorem dL_value_814 : decode cL_value 814 = .ok (.iconst 1, 1) := by decide +kernel
theorem dL_value_815 : decode cL_value 815 = .ok (.goto 4, 3) := by decide +kernel
theorem dL_value_818 : decode cL_value 818 = .ok (.iconst 0, 1) := by decide +kernel
theorem dL_value_819 : decode cL_value 819 = .ok (.iadd, 1) := by decide +kernel
theorem dL_value_820 : decode cL_value 820 = .ok (.iastore, 1) := by decide +kernel
theorem dL_value_821 : decode cL_value 821 = .ok (.iload 14, 2) := by decide +kernel
theorem dL_value_823 : decode cL_value 823 = .ok (.ifCond .lt 42, 3) := by decide +kernel
theorem dL_value_826 : decode cL_value 826 = .ok (.iload 14, 2) := by decide +kernel
theorem dL_value_828 : decode cL_value 828 = .ok (.iconst 3, 1) := by decide +kernel
theorem dL_value_829 : decode cL_value 829 = .ok (.if_icmp .gt 36, 3) := by decide +kernel
theorem dL_value_832 : decode cL_value 832 = .ok (.aload_n 0, 1) := by decide +kernel
theorem dL_value_833 : decode cL_value 833 = .ok (.invokevirtual 187, 3) := by decide +kernel
theorem dL_value_836 : decode cL_value 836 = .ok (.lload 8, 2) := by decide +kernel
theorem dL_value_838 : decode cL_value 838 = .ok (.iload 14, 2) := by decide +kernel
theorem dL_value_840 : decode cL_value 840 = .ok (.i2l, 1) := by decide +kernel
theorem dL_value_841 : decode cL_value 841 = .ok (.ladd, 1) := by decide +kernel
theorem dL_value_842 : decode cL_value 842 = .ok (.lcmp, 1) := by decide +kernel
theorem dL_value_843 : decode cL_value 843 = .ok (.ifCond .ne 22, 3) := by decide +kernel
theorem dL_value_846 : decode cL_value 846 = .ok (.aload_n 0, 1) := by decide +kernel
theorem dL_value_847 : decode cL_value 847 = .ok (.iconst 1, 1) := by decide +kernel
theorem dL_value_848 : decode cL_value 848 = .ok (.iload 5, 2) := by decide +kernel
theorem dL_value_850 : decode cL_value 850 = .ok (.iconst 0, 1) := by decide +kernel
theorem dL_value_851 : decode cL_value 851 = .ok (.iconst 0, 1) := by decide +kernel
theorem dL_value_852 : decode cL_value 852 = .ok (.invokestatic 191, 3) := by decide +kernel
theorem dL_value_855 : decode cL_value 855 = .ok (.sipush (-20004), 3) := by decide +kernel
theorem dL_value_858 : decode cL_value 858 = .ok (.if_icmp .ne 7, 3) := by decide +kernel
theorem dL_value_861 : decode cL_value 861 = .ok (.iconst 1, 1) := by decide +kernel
theorem dL_value_862 : decode cL_value 862 = .ok (.goto 4, 3) := by decide +kernel
theorem dL_value_865 : decode cL_value 865 = .ok (.iconst 0, 1) := by decide +kernel
theorem dL_value_866 : decode cL_value 866 = .ok (.ireturn, 1) := by decide +kernel
theorem dL_value_867 : decode cL_value 867 = .ok (.aload 11, 2) := by decide +kernel
theorem dL_value_869 : decode cL_value 869 = .ok (.iconst 0, 1) := by decide +kernel
theorem dL_value_870 : decode cL_value 870 = .ok (.iaload, 1) := by decide +kernel
theorem dL_value_871 : decode cL_value 871 = .ok (.bipush 109, 2) := by decide +kernel
theorem dL_value_873 : decode cL_value 873 = .ok (.if_icmp .ne 147, 3) := by decide +kernel
theorem dL_value_876 : decode cL_value 876 = .ok (.aload_n 1, 1) := by decide +kernel
theorem dL_value_877 : decode cL_value 877 = .ok (.iload_n 2, 1) := by decide +kernel
theorem dL_value_878 : decode cL_value 878 = .ok (.iconst 3, 1) := by decide +kernel
theorem dL_value_879 : decode cL_value 879 = .ok (.iadd, 1) := by decide +kernel
theorem dL_value_880 : decode cL_value 880 = .ok (.bipush 40, 2) := by decide +kernel
theorem dL_value_882 : decode cL_value 882 = .ok (.invokestatic 199, 3) := by decide +kernel
theorem dL_value_885 : decode cL_value 885 = .ok (.istore 16, 2) := by decide +kernel
theorem dL_value_887 : decode cL_value 887 = .ok (.aload 11, 2) := by decide +kernel
theorem dL_value_889 : decode cL_value 889 = .ok (.iconst 2, 1) := by decide +kernel
theorem dL_value_890 : decode cL_value 890 = .ok (.iload 16, 2) := by decide +kernel
theorem dL_value_892 : decode cL_value 892 = .ok (.iadd, 1) := by decide +kernel
theorem dL_value_893 : decode cL_value 893 = .ok (.iaload, 1) := by decide +kernel
theorem dL_value_894 : decode cL_value 894 = .ok (.sipush 2000, 3) := by decide +kernel
theorem dL_value_897 : decode cL_value 897 = .ok (.if_icmp .eq 7, 3) := by decide +kernel
theorem dL_value_900 : decode cL_value 900 = .ok (.iconst 1, 1) := by decide +kernel
theorem dL_value_901 : decode cL_value 901 = .ok (.goto 4, 3) := by decide +kernel
theorem dL_value_904 : decode cL_value 904 = .ok (.iconst 0, 1) := by decide +kernel
theorem dL_value_905 : decode cL_value 905 = .ok (.istore 17, 2) := by decide +kernel
theorem dL_value_907 : decode cL_value 907 = .ok (.iload 6, 2) := by decide +kernel
theorem dL_value_909 : decode cL_value 909 = .ok (.bipush 11, 2) := by decide +kernel
theorem dL_value_911 : decode cL_value 911 = .ok (.if_icmp .lt 8, 3) := by decide +kernel
theorem dL_value_914 : decode cL_value 914 = .ok (.iload 17, 2) := by decide +kernel
theorem dL_value_916 : decode cL_value 916 = .ok (.ifCond .ne 7, 3) := by decide +kernel
theorem dL_value_919 : decode cL_value 919 = .ok (.iconst 1, 1) := by decide +kernel
theorem dL_value_920 : decode cL_value 920 = .ok (.goto 4, 3) := by decide +kernel
theorem dL_value_923 : decode cL_value 923 = .ok (.iconst 0, 1) := by decide +kernel
theorem dL_value_924 : decode cL_value 924 = .ok (.istore 18, 2) := by decide +kernel
theorem dL_value_926 : decode cL_value 926 = .ok (.iload 18, 2) := by decide +kernel
theorem dL_value_928 : decode cL_value 928 = .ok (.ifCond .eq 21, 3) := by decide +kernel
theorem dL_value_931 : decode cL_value 931 = .ok (.aload_n 0, 1) := by decide +kernel
theorem dL_value_932 : decode cL_value 932 = .ok (.bipush 9, 2) := by decide +kernel
theorem dL_value_934 : decode cL_value 934 = .ok (.iload 5, 2) := by decide +kernel
theorem dL_value_936 : decode cL_value 936 = .ok (.bipush 25, 2) := by decide +kernel
theorem dL_value_938 : decode cL_value 938 = .ok (.iload 16, 2) := by decide +kernel
theorem dL_value_940 : decode cL_value 940 = .ok (.imul, 1) := by decide +kernel
theorem dL_value_941 : decode cL_value 941 = .ok (.iload 7, 2) := by decide +kernel
theorem dL_value_943 : decode cL_value 943 = .ok (.invokestatic 191, 3) := by decide +kernel
theorem dL_value_946 : decode cL_value 946 = .ok (.goto 17, 3) := by decide +kernel
theorem dL_value_949 : decode cL_value 949 = .ok (.aload_n 0, 1) := by decide +kernel
theorem dL_value_950 : decode cL_value 950 = .ok (.bipush 10, 2) := by decide +kernel
theorem dL_value_952 : decode cL_value 952 = .ok (.iload 5, 2) := by decide +kernel
theorem dL_value_954 : decode cL_value 954 = .ok (.bipush 25, 2) := by decide +kernel
theorem dL_value_956 : decode cL_value 956 = .ok (.iload 16, 2) := by decide +kernel
theorem dL_value_958 : decode cL_value 958 = .ok (.imul, 1) := by decide +kernel
theorem dL_value_959 : decode cL_value 959 = .ok (.iconst 0, 1) := by decide +kernel
theorem dL_value_960 : decode cL_value 960 = .ok (.invokestatic 191, 3) := by decide +kernel
theorem dL_value_963 : decode cL_value 963 = .ok (.istore 14, 2) := by decide +kernel
theorem dL_value_965 : decode cL_value 965 = .ok (.iconst 1, 1) := by decide +kernel
theorem dL_value_966 : decode cL_value 966 = .ok (.istore 15, 2) := by decide +kernel
theorem dL_value_968 : decode cL_value 968 = .ok (.aload 11, 2) := by decide +kernel
theorem dL_value_970 : decode cL_value 970 = .ok (.iconst 1, 1) := by decide +kernel
theorem dL_value_971 : decode cL_value 971 = .ok (.dup2, 1) := by decide +kernel
theorem dL_value_972 : decode cL_value 972 = .ok (.iaload, 1) := by decide +kernel
theorem dL_value_973 : decode cL_value 973 = .ok (.iload 18, 2) := by decide +kernel
theorem dL_value_975 : decode cL_value 975 = .ok (.ifCond .eq 19, 3) := by decide +kernel
theorem dL_value_978 : decode cL_value 978 = .ok (.iload 17, 2) := by decide +kernel
theorem dL_value_980 : decode cL_value 980 = .ok (.ifCond .ne 7, 3) := by decide +kernel
theorem dL_value_983 : decode cL_value 983 = .ok (.iconst 1, 1) := by decide +kernel
theorem dL_value_984 : decode cL_value 984 = .ok (.goto 4, 3) := by decide +kernel
theorem dL_value_987 : decode cL_value 987 = .ok (.iconst 0, 1) := by decide +kernel
theorem dL_value_988 : decode cL_value 988 = .ok (.invokestatic 83, 3) := by decide +kernel
theorem dL_value_991 : decode cL_value 991 = .ok (.goto 4, 3) := by decide +kernel
theorem dL_value_994 : decode cL_value 994 = .ok (.iconst (-1), 1) := by decide +kernel
theorem dL_value_995 : decode cL_value 995 = .ok (.iadd, 1) := by decide +kernel
theorem dL_value_996 : decode cL_value 996 = .ok (.iastore, 1) := by decide +kernel
theorem dL_value_997 : decode cL_value 997 = .ok (.aload 11, 2) := by decide +kernel
theorem dL_value_999 : decode cL_value 999 = .ok (.iconst 2, 1) := by decide +kernel
theorem dL_value_1000 : decode cL_value 1000 = .ok (.iload 16, 2) := by decide +kernel
theorem dL_value_1002 : decode cL_value 1002 = .ok (.iadd, 1) := by decide +kernel
theorem dL_value_1003 : decode cL_value 1003 = .ok (.iload 18, 2) := by decide +kernel
theorem dL_value_1005 : decode cL_value 1005 = .ok (.ifCond .eq 8, 3) := by decide +kernel
theorem dL_value_1008 : decode cL_value 1008 = .ok (.iload 7, 2) := by decide +kernel
theorem dL_value_1010 : decode cL_value 1010 = .ok (.goto 6, 3) := by decide +kernel
theorem dL_value_1013 : decode cL_value 1013 = .ok (.sipush 2000, 3) := by decide +kernel
theorem dL_value_1016 : decode cL_value 1016 = .ok (.iastore, 1) := by decide +kernel
theorem dL_value_1017 : decode cL_value 1017 = .ok (.goto 55, 3) := by decide +kernel
theorem dL_value_1020 : decode cL_value 1020 = .ok (.aload_n 0, 1) := by decide +kernel
theorem dL_value_1021 : decode cL_value 1021 = .ok (.iconst 5, 1) := by decide +kernel
theorem dL_value_1022 : decode cL_value 1022 = .ok (.iload 5, 2) := by decide +kernel
theorem dL_value_1024 : decode cL_value 1024 = .ok (.iconst 0, 1) := by decide +kernel
theorem dL_value_1025 : decode cL_value 1025 = .ok (.iconst 0, 1) := by decide +kernel
theorem dL_value_1026 : decode cL_value 1026 = .ok (.invokestatic 191, 3) := by decide +kernel
theorem dL_value_1029 : decode cL_value 1029 = .ok (.sipush (-20004), 3) := by decide +kernel
theorem dL_value_1032 : decode cL_value 1032 = .ok (.if_icmp .ne 38, 3) := by decide +kernel
theorem dL_value_1035 : decode cL_value 1035 = .ok (.aload_n 0, 1) := by decide +kernel
theorem dL_value_1036 : decode cL_value 1036 = .ok (.bipush 7, 2) := by decide +kernel
theorem dL_value_1038 : decode cL_value 1038 = .ok (.iload 5, 2) := by decide +kernel
theorem dL_value_1040 : decode cL_value 1040 = .ok (.iconst 0, 1) := by decide +kernel
theorem dL_value_1041 : decode cL_value 1041 = .ok (.iconst 0, 1) := by decide +kernel
theorem dL_value_1042 : decode cL_value 1042 = .ok (.invokestatic 191, 3) := by decide +kernel
theorem dL_value_1045 : decode cL_value 1045 = .ok (.sipush (-20004), 3) := by decide +kernel
theorem dL_value_1048 : decode cL_value 1048 = .ok (.if_icmp .ne 22, 3) := by decide +kernel
theorem dL_value_1051 : decode cL_value 1051 = .ok (.aload_n 0, 1) := by decide +kernel
theorem dL_value_1052 : decode cL_value 1052 = .ok (.iconst 4, 1) := by decide +kernel
theorem dL_value_1053 : decode cL_value 1053 = .ok (.iload 5, 2) := by decide +kernel
theorem dL_value_1055 : decode cL_value 1055 = .ok (.iconst 0, 1) := by decide +kernel
theorem dL_value_1056 : decode cL_value 1056 = .ok (.iconst 0, 1) := by decide +kernel
theorem dL_value_1057 : decode cL_value 1057 = .ok (.invokestatic 191, 3) := by decide +kernel
theorem dL_value_1060 : decode cL_value 1060 = .ok (.sipush (-20004), 3) := by decide +kernel
theorem dL_value_1063 : decode cL_value 1063 = .ok (.if_icmp .ne 7, 3) := by decide +kernel
theorem dL_value_1066 : decode cL_value 1066 = .ok (.iconst 1, 1) := by decide +kernel
theorem dL_value_1067 : decode cL_value 1067 = .ok (.goto 4, 3) := by decide +kernel
theorem dL_value_1070 : decode cL_value 1070 = .ok (.iconst 0, 1) := by decide +kernel
theorem dL_value_1071 : decode cL_value 1071 = .ok (.ireturn, 1) := by decide +kernel
theorem dL_value_1072 : decode cL_value 1072 = .ok (.iload 15, 2) := by decide +kernel
theorem dL_value_1074 : decode cL_value 1074 = .ok (.ifCond .ne 15, 3) := by decide +kernel
theorem dL_value_1077 : decode cL_value 1077 = .ok (.iload 14, 2) := by decide +kernel
theorem dL_value_1079 : decode cL_value 1079 = .ok (.iconst (-1), 1) := by decide +kernel
theorem dL_value_1080 : decode cL_value 1080 = .ok (.if_icmp .ne 7, 3) := by decide +kernel
theorem dL_value_1083 : decode cL_value 1083 = .ok (.iconst 1, 1) := by decide +kernel
theorem dL_value_1084 : decode cL_value 1084 = .ok (.goto 4, 3) := by decide +kernel
theorem dL_value_1087 : decode cL_value 1087 = .ok (.iconst 0, 1) := by decide +kernel
theorem dL_value_1088 : decode cL_value 1088 = .ok (.ireturn, 1) := by decide +kernel
theorem dL_value_1089 : decode cL_value 1089 = .ok (.aload_n 3, 1) := by decide +kernel
theorem dL_value_1090 : decode cL_value 1090 = .ok (.iload 10, 2) := by decide +kernel
theorem dL_value_1092 : decode cL_value 1092 = .ok (.aload 11, 2) := by decide +kernel
theorem dL_value_1094 : decode cL_value 1094 = .ok (.aastore, 1) := by decide +kernel
theorem dL_value_1095 : decode cL_value 1095 = .ok (.aload 4, 2) := by decide +kernel
theorem dL_value_1097 : decode cL_value 1097 = .ok (.iconst 0, 1) := by decide +kernel
theorem dL_value_1098 : decode cL_value 1098 = .ok (.dup2, 1) := by decide +kernel
theorem dL_value_1099 : decode cL_value 1099 = .ok (.iaload, 1) := by decide +kernel
theorem dL_value_1100 : decode cL_value 1100 = .ok (.iconst 1, 1) := by decide +kernel
theorem dL_value_1101 : decode cL_value 1101 = .ok (.iadd, 1) := by decide +kernel
theorem dL_value_1102 : decode cL_value 1102 = .ok (.iastore, 1) := by decide +kernel
theorem dL_value_1103 : decode cL_value 1103 = .ok (.iload 14, 2) := by decide +kernel
theorem dL_value_1105 : decode cL_value 1105 = .ok (.iload 10, 2) := by decide +kernel
theorem dL_value_1107 : decode cL_value 1107 = .ok (.if_icmp .ne 20, 3) := by decide +kernel
theorem dL_value_1110 : decode cL_value 1110 = .ok (.aload_n 0, 1) := by decide +kernel
theorem dL_value_1111 : decode cL_value 1111 = .ok (.iload 10, 2) := by decide +kernel
theorem dL_value_1113 : decode cL_value 1113 = .ok (.iload 5, 2) := by decide +kernel
theorem dL_value_1115 : decode cL_value 1115 = .ok (.lload 8, 2) := by decide +kernel
theorem dL_value_1117 : decode cL_value 1117 = .ok (.invokestatic 203, 3) := by decide +kernel
theorem dL_value_1120 : decode cL_value 1120 = .ok (.ifCond .eq 7, 3) := by decide +kernel
theorem dL_value_1123 : decode cL_value 1123 = .ok (.iconst 1, 1) := by decide +kernel
theorem dL_value_1124 : decode cL_value 1124 = .ok (.goto 4, 3) := by decide +kernel
theorem dL_value_1127 : decode cL_value 1127 = .ok (.iconst 0, 1) := by decide +kernel
theorem dL_value_1128 : decode cL_value 1128 = .ok (.ireturn, 1) := by decide +kernel
theorem dL_sequence_0 : decode cL_sequence 0 = .ok (.aload_n 3, 1) := by decide +kernel
theorem dL_sequence_1 : decode cL_sequence 1 = .ok (.iconst 1, 1) := by decide +kernel
theorem dL_sequence_2 : decode cL_sequence 2 = .ok (.iaload, 1) := by decide +kernel
theorem dL_sequence_3 : decode cL_sequence 3 = .ok (.ifCond .ne 7, 3) := by decide +kernel
theorem dL_sequence_6 : decode cL_sequence 6 = .ok (.iconst 0, 1) := by decide +kernel
theorem dL_sequence_7 : decode cL_sequence 7 = .ok (.goto 10, 3) := by decide +kernel
theorem dL_sequence_10 : decode cL_sequence 10 = .ok (.aload_n 1, 1) := by decide +kernel
theorem dL_sequence_11 : decode cL_sequence 11 = .ok (.iload_n 2, 1) := by decide +kernel
theorem dL_sequence_12 : decode cL_sequence 12 = .ok (.bipush 6, 2) := by decide +kernel
theorem dL_sequence_14 : decode cL_sequence 14 = .ok (.invokestatic 199, 3) := by decide +kernel
theorem dL_sequence_17 : decode cL_sequence 17 = .ok (.istore 4, 2) := by decide +kernel
theorem dL_sequence_19 : decode cL_sequence 19 = .ok (.aload_n 3, 1) := by decide +kernel
theorem dL_sequence_20 : decode cL_sequence 20 = .ok (.iconst 1, 1) := by decide +kernel
theorem dL_sequence_21 : decode cL_sequence 21 = .ok (.iaload, 1) := by decide +kernel
theorem dL_sequence_22 : decode cL_sequence 22 = .ok (.ifCond .ne 7, 3) := by decide +kernel
theorem dL_sequence_25 : decode cL_sequence 25 = .ok (.iconst 0, 1) := by decide +kernel
theorem dL_sequence_26 : decode cL_sequence 26 = .ok (.goto 13, 3) := by decide +kernel
theorem dL_sequence_29 : decode cL_sequence 29 = .ok (.aload_n 1, 1) := by decide +kernel
theorem dL_sequence_30 : decode cL_sequence 30 = .ok (.iload_n 2, 1) := by decide +kernel
theorem dL_sequence_31 : decode cL_sequence 31 = .ok (.iconst 1, 1) := by decide +kernel
theorem dL_sequence_32 : decode cL_sequence 32 = .ok (.iadd, 1) := by decide +kernel
theorem dL_sequence_33 : decode cL_sequence 33 = .ok (.aload_n 3, 1) := by decide +kernel
theorem dL_sequence_34 : decode cL_sequence 34 = .ok (.iconst 1, 1) := by decide +kernel
theorem dL_sequence_35 : decode cL_sequence 35 = .ok (.iaload, 1) := by decide +kernel
theorem dL_sequence_36 : decode cL_sequence 36 = .ok (.invokestatic 199, 3) := by decide +kernel
theorem dL_sequence_39 : decode cL_sequence 39 = .ok (.istore 5, 2) := by decide +kernel
theorem dL_sequence_41 : decode cL_sequence 41 = .ok (.iload 4, 2) := by decide +kernel
theorem dL_sequence_43 : decode cL_sequence 43 = .ok (.iconst 2, 1) := by decide +kernel
theorem dL_sequence_44 : decode cL_sequence 44 = .ok (.if_icmp .ge 138, 3) := by decide +kernel
theorem dL_sequence_47 : decode cL_sequence 47 = .ok (.aload_n 3, 1) := by decide +kernel
theorem dL_sequence_48 : decode cL_sequence 48 = .ok (.iconst 1, 1) := by decide +kernel
theorem dL_sequence_49 : decode cL_sequence 49 = .ok (.iaload, 1) := by decide +kernel
theorem dL_sequence_50 : decode cL_sequence 50 = .ok (.bipush 12, 2) := by decide +kernel
theorem dL_sequence_52 : decode cL_sequence 52 = .ok (.if_icmp .ge 130, 3) := by decide +kernel
theorem dL_sequence_55 : decode cL_sequence 55 = .ok (.aload_n 3, 1) := by decide +kernel
theorem dL_sequence_56 : decode cL_sequence 56 = .ok (.iconst 1, 1) := by decide +kernel
theorem dL_sequence_57 : decode cL_sequence 57 = .ok (.iaload, 1) := by decide +kernel
theorem dL_sequence_58 : decode cL_sequence 58 = .ok (.iconst 2, 1) := by decide +kernel
theorem dL_sequence_59 : decode cL_sequence 59 = .ok (.if_icmp .ge 42, 3) := by decide +kernel
theorem dL_sequence_62 : decode cL_sequence 62 = .ok (.aload_n 0, 1) := by decide +kernel
theorem dL_sequence_63 : decode cL_sequence 63 = .ok (.bipush 11, 2) := by decide +kernel
theorem dL_sequence_65 : decode cL_sequence 65 = .ok (.aload_n 1, 1) := by decide +kernel
theorem dL_sequence_66 : decode cL_sequence 66 = .ok (.iload_n 2, 1) := by decide +kernel
theorem dL_sequence_67 : decode cL_sequence 67 = .ok (.iconst 2, 1) := by decide +kernel
theorem dL_sequence_68 : decode cL_sequence 68 = .ok (.iadd, 1) := by decide +kernel
theorem dL_sequence_69 : decode cL_sequence 69 = .ok (.bipush 9, 2) := by decide +kernel
theorem dL_sequence_71 : decode cL_sequence 71 = .ok (.invokestatic 199, 3) := by decide +kernel
theorem dL_sequence_74 : decode cL_sequence 74 = .ok (.iconst 4, 1) := by decide +kernel
theorem dL_sequence_75 : decode cL_sequence 75 = .ok (.isub, 1) := by decide +kernel
theorem dL_sequence_76 : decode cL_sequence 76 = .ok (.aload_n 1, 1) := by decide +kernel
theorem dL_sequence_77 : decode cL_sequence 77 = .ok (.iload_n 2, 1) := by decide +kernel
theorem dL_sequence_78 : decode cL_sequence 78 = .ok (.iconst 3, 1) := by decide +kernel
theorem dL_sequence_79 : decode cL_sequence 79 = .ok (.iadd, 1) := by decide +kernel
theorem dL_sequence_80 : decode cL_sequence 80 = .ok (.iconst 5, 1) := by decide +kernel
theorem dL_sequence_81 : decode cL_sequence 81 = .ok (.invokestatic 199, 3) := by decide +kernel
theorem dL_sequence_84 : decode cL_sequence 84 = .ok (.iconst 2, 1) := by decide +kernel
theorem dL_sequence_85 : decode cL_sequence 85 = .ok (.isub, 1) := by decide +kernel
theorem dL_sequence_86 : decode cL_sequence 86 = .ok (.aload_n 1, 1) := by decide +kernel
theorem dL_sequence_87 : decode cL_sequence 87 = .ok (.iload_n 2, 1) := by decide +kernel
theorem dL_sequence_88 : decode cL_sequence 88 = .ok (.iconst 4, 1) := by decide +kernel
theorem dL_sequence_89 : decode cL_sequence 89 = .ok (.iadd, 1) := by decide +kernel
theorem dL_sequence_90 : decode cL_sequence 90 = .ok (.bipush 25, 2) := by decide +kernel
theorem dL_sequence_92 : decode cL_sequence 92 = .ok (.invokestatic 199, 3) := by decide +kernel
theorem dL_sequence_95 : decode cL_sequence 95 = .ok (.invokestatic 191, 3) := by decide +kernel
theorem dL_sequence_98 : decode cL_sequence 98 = .ok (.goto 35, 3) := by decide +kernel
theorem dL_sequence_101 : decode cL_sequence 101 = .ok (.aload_n 0, 1) := by decide +kernel
theorem dL_sequence_102 : decode cL_sequence 102 = .ok (.bipush 12, 2) := by decide +kernel
theorem dL_sequence_104 : decode cL_sequence 104 = .ok (.iload 5, 2) := by decide +kernel
theorem dL_sequence_106 : decode cL_sequence 106 = .ok (.ldc 207, 2) := by decide +kernel
theorem dL_sequence_108 : decode cL_sequence 108 = .ok (.aload_n 1, 1) := by decide +kernel
theorem dL_sequence_109 : decode cL_sequence 109 = .ok (.iload_n 2, 1) := by decide +kernel
theorem dL_sequence_110 : decode cL_sequence 110 = .ok (.iconst 2, 1) := by decide +kernel
theorem dL_sequence_111 : decode cL_sequence 111 = .ok (.iadd, 1) := by decide +kernel
theorem dL_sequence_112 : decode cL_sequence 112 = .ok (.iconst 4, 1) := by decide +kernel
theorem dL_sequence_113 : decode cL_sequence 113 = .ok (.invokestatic 199, 3) := by decide +kernel
theorem dL_sequence_116 : decode cL_sequence 116 = .ok (.invokevirtual 209, 3) := by decide +kernel
theorem dL_sequence_119 : decode cL_sequence 119 = .ok (.iconst 1, 1) := by decide +kernel
theorem dL_sequence_120 : decode cL_sequence 120 = .ok (.aload_n 1, 1) := by decide +kernel
theorem dL_sequence_121 : decode cL_sequence 121 = .ok (.iload_n 2, 1) := by decide +kernel
theorem dL_sequence_122 : decode cL_sequence 122 = .ok (.iconst 3, 1) := by decide +kernel
theorem dL_sequence_123 : decode cL_sequence 123 = .ok (.iadd, 1) := by decide +kernel
theorem dL_sequence_124 : decode cL_sequence 124 = .ok (.bipush 6, 2) := by decide +kernel
theorem dL_sequence_126 : decode cL_sequence 126 = .ok (.invokestatic 199, 3) := by decide +kernel
theorem dL_sequence_129 : decode cL_sequence 129 = .ok (.iadd, 1) := by decide +kernel
theorem dL_sequence_130 : decode cL_sequence 130 = .ok (.invokestatic 191, 3) := by decide +kernel
theorem dL_sequence_133 : decode cL_sequence 133 = .ok (.istore 6, 2) := by decide +kernel
theorem dL_sequence_135 : decode cL_sequence 135 = .ok (.aload_n 3, 1) := by decide +kernel
theorem dL_sequence_136 : decode cL_sequence 136 = .ok (.iconst 1, 1) := by decide +kernel
theorem dL_sequence_137 : decode cL_sequence 137 = .ok (.dup2, 1) := by decide +kernel
theorem dL_sequence_138 : decode cL_sequence 138 = .ok (.iaload, 1) := by decide +kernel
theorem dL_sequence_139 : decode cL_sequence 139 = .ok (.iconst 1, 1) := by decide +kernel
theorem dL_sequence_140 : decode cL_sequence 140 = .ok (.iadd, 1) := by decide +kernel
theorem dL_sequence_141 : decode cL_sequence 141 = .ok (.iastore, 1) := by decide +kernel
theorem dL_sequence_142 : decode cL_sequence 142 = .ok (.iload 6, 2) := by decide +kernel
theorem dL_sequence_144 : decode cL_sequence 144 = .ok (.aload_n 3, 1) := by decide +kernel
theorem dL_sequence_145 : decode cL_sequence 145 = .ok (.iconst 1, 1) := by decide +kernel
theorem dL_sequence_146 : decode cL_sequence 146 = .ok (.iaload, 1) := by decide +kernel
theorem dL_sequence_147 : decode cL_sequence 147 = .ok (.iconst 1, 1) := by decide +kernel
theorem dL_sequence_148 : decode cL_sequence 148 = .ok (.isub, 1) := by decide +kernel
theorem dL_sequence_149 : decode cL_sequence 149 = .ok (.if_icmp .ne 31, 3) := by decide +kernel
theorem dL_sequence_152 : decode cL_sequence 152 = .ok (.aload_n 0, 1) := by decide +kernel
theorem dL_sequence_153 : decode cL_sequence 153 = .ok (.bipush 8, 2) := by decide +kernel
theorem dL_sequence_155 : decode cL_sequence 155 = .ok (.iload 6, 2) := by decide +kernel
theorem dL_sequence_157 : decode cL_sequence 157 = .ok (.iconst 0, 1) := by decide +kernel
theorem dL_sequence_158 : decode cL_sequence 158 = .ok (.invokestatic 184, 3) := by decide +kernel
theorem dL_sequence_161 : decode cL_sequence 161 = .ok (.ifCond .ne 19, 3) := by decide +kernel
theorem dL_sequence_164 : decode cL_sequence 164 = .ok (.aload_n 0, 1) := by decide +kernel
theorem dL_sequence_165 : decode cL_sequence 165 = .ok (.bipush 9, 2) := by decide +kernel
theorem dL_sequence_167 : decode cL_sequence 167 = .ok (.iload 6, 2) := by decide +kernel
theorem dL_sequence_169 : decode cL_sequence 169 = .ok (.iconst 0, 1) := by decide +kernel
theorem dL_sequence_170 : decode cL_sequence 170 = .ok (.invokestatic 184, 3) := by decide +kernel
theorem dL_sequence_173 : decode cL_sequence 173 = .ok (.ifCond .ne 7, 3) := by decide +kernel
theorem dL_sequence_176 : decode cL_sequence 176 = .ok (.iconst 1, 1) := by decide +kernel
theorem dL_sequence_177 : decode cL_sequence 177 = .ok (.goto 4, 3) := by decide +kernel
theorem dL_sequence_180 : decode cL_sequence 180 = .ok (.iconst 0, 1) := by decide +kernel
theorem dL_sequence_181 : decode cL_sequence 181 = .ok (.ireturn, 1) := by decide +kernel
theorem dL_sequence_182 : decode cL_sequence 182 = .ok (.aload_n 0, 1) := by decide +kernel
theorem dL_sequence_183 : decode cL_sequence 183 = .ok (.bipush 8, 2) := by decide +kernel
theorem dL_sequence_185 : decode cL_sequence 185 = .ok (.iload 5, 2) := by decide +kernel
theorem dL_sequence_187 : decode cL_sequence 187 = .ok (.iconst 0, 1) := by decide +kernel
theorem dL_sequence_188 : decode cL_sequence 188 = .ok (.invokestatic 184, 3) := by decide +kernel
theorem dL_sequence_191 : decode cL_sequence 191 = .ok (.istore 6, 2) := by decide +kernel
theorem dL_sequence_193 : decode cL_sequence 193 = .ok (.aload_n 0, 1) := by decide +kernel
theorem dL_sequence_194 : decode cL_sequence 194 = .ok (.bipush 9, 2) := by decide +kernel
theorem dL_sequence_196 : decode cL_sequence 196 = .ok (.iload 5, 2) := by decide +kernel
theorem dL_sequence_198 : decode cL_sequence 198 = .ok (.iconst 0, 1) := by decide +kernel
theorem dL_sequence_199 : decode cL_sequence 199 = .ok (.invokestatic 184, 3) := by decide +kernel
theorem dL_sequence_202 : decode cL_sequence 202 = .ok (.istore 7, 2) := by decide +kernel
theorem dL_sequence_204 : decode cL_sequence 204 = .ok (.aload_n 1, 1) := by decide +kernel
theorem dL_sequence_205 : decode cL_sequence 205 = .ok (.iload_n 2, 1) := by decide +kernel
theorem dL_sequence_206 : decode cL_sequence 206 = .ok (.iconst 2, 1) := by decide +kernel
theorem dL_sequence_207 : decode cL_sequence 207 = .ok (.iadd, 1) := by decide +kernel
theorem dL_sequence_208 : decode cL_sequence 208 = .ok (.bipush 12, 2) := by decide +kernel
theorem dL_sequence_210 : decode cL_sequence 210 = .ok (.invokestatic 199, 3) := by decide +kernel
theorem dL_sequence_213 : decode cL_sequence 213 = .ok (.istore 8, 2) := by decide +kernel
theorem dL_sequence_215 : decode cL_sequence 215 = .ok (.iload 4, 2) := by decide +kernel
theorem dL_sequence_217 : decode cL_sequence 217 = .ok (.iconst 5, 1) := by decide +kernel
theorem dL_sequence_218 : decode cL_sequence 218 = .ok (.if_icmp .ge 17, 3) := by decide +kernel
theorem dL_sequence_221 : decode cL_sequence 221 = .ok (.aload_n 0, 1) := by decide +kernel
theorem dL_sequence_222 : decode cL_sequence 222 = .ok (.bipush 13, 2) := by decide +kernel
theorem dL_sequence_224 : decode cL_sequence 224 = .ok (.iload 5, 2) := by decide +kernel
theorem dL_sequence_226 : decode cL_sequence 226 = .ok (.iload 8, 2) := by decide +kernel
theorem dL_sequence_228 : decode cL_sequence 228 = .ok (.iconst 0, 1) := by decide +kernel
theorem dL_sequence_229 : decode cL_sequence 229 = .ok (.invokestatic 191, 3) := by decide +kernel
theorem dL_sequence_232 : decode cL_sequence 232 = .ok (.goto 13, 3) := by decide +kernel
theorem dL_sequence_235 : decode cL_sequence 235 = .ok (.aload_n 0, 1) := by decide +kernel
theorem dL_sequence_236 : decode cL_sequence 236 = .ok (.bipush 14, 2) := by decide +kernel
theorem dL_sequence_238 : decode cL_sequence 238 = .ok (.iload 5, 2) := by decide +kernel
theorem dL_sequence_240 : decode cL_sequence 240 = .ok (.iconst 0, 1) := by decide +kernel
theorem dL_sequence_241 : decode cL_sequence 241 = .ok (.iconst 0, 1) := by decide +kernel
theorem dL_sequence_242 : decode cL_sequence 242 = .ok (.invokestatic 191, 3) := by decide +kernel
theorem dL_sequence_245 : decode cL_sequence 245 = .ok (.istore 9, 2) := by decide +kernel
theorem dL_sequence_247 : decode cL_sequence 247 = .ok (.aload_n 0, 1) := by decide +kernel
theorem dL_sequence_248 : decode cL_sequence 248 = .ok (.bipush 8, 2) := by decide +kernel
theorem dL_sequence_250 : decode cL_sequence 250 = .ok (.iload 5, 2) := by decide +kernel
theorem dL_sequence_252 : decode cL_sequence 252 = .ok (.iconst 0, 1) := by decide +kernel
theorem dL_sequence_253 : decode cL_sequence 253 = .ok (.invokestatic 184, 3) := by decide +kernel
theorem dL_sequence_256 : decode cL_sequence 256 = .ok (.istore 10, 2) := by decide +kernel
theorem dL_sequence_258 : decode cL_sequence 258 = .ok (.iload 10, 2) := by decide +kernel
theorem dL_sequence_260 : decode cL_sequence 260 = .ok (.iload 6, 2) := by decide +kernel
theorem dL_sequence_262 : decode cL_sequence 262 = .ok (.if_icmp .lt 21, 3) := by decide +kernel
theorem dL_sequence_265 : decode cL_sequence 265 = .ok (.aload_n 0, 1) := by decide +kernel
theorem dL_sequence_266 : decode cL_sequence 266 = .ok (.bipush 9, 2) := by decide +kernel
theorem dL_sequence_268 : decode cL_sequence 268 = .ok (.iload 5, 2) := by decide +kernel
theorem dL_sequence_270 : decode cL_sequence 270 = .ok (.iconst 0, 1) := by decide +kernel
theorem dL_sequence_271 : decode cL_sequence 271 = .ok (.invokestatic 184, 3) := by decide +kernel
theorem dL_sequence_274 : decode cL_sequence 274 = .ok (.iload 7, 2) := by decide +kernel
theorem dL_sequence_276 : decode cL_sequence 276 = .ok (.if_icmp .lt 7, 3) := by decide +kernel
theorem dL_sequence_279 : decode cL_sequence 279 = .ok (.iconst 1, 1) := by decide +kernel
theorem dL_sequence_280 : decode cL_sequence 280 = .ok (.goto 4, 3) := by decide +kernel
theorem dL_sequence_283 : decode cL_sequence 283 = .ok (.iconst 0, 1) := by decide +kernel
theorem dL_sequence_284 : decode cL_sequence 284 = .ok (.istore 11, 2) := by decide +kernel
theorem dL_sequence_286 : decode cL_sequence 286 = .ok (.iload 9, 2) := by decide +kernel
theorem dL_sequence_288 : decode cL_sequence 288 = .ok (.sipush (-20004), 3) := by decide +kernel
theorem dL_sequence_291 : decode cL_sequence 291 = .ok (.if_icmp .eq 11, 3) := by decide +kernel
theorem dL_sequence_294 : decode cL_sequence 294 = .ok (.iload 9, 2) := by decide +kernel
theorem dL_sequence_296 : decode cL_sequence 296 = .ok (.sipush (-20005), 3) := by decide +kernel
theorem dL_sequence_299 : decode cL_sequence 299 = .ok (.if_icmp .ne 36, 3) := by decide +kernel
theorem dL_sequence_302 : decode cL_sequence 302 = .ok (.iload 11, 2) := by decide +kernel
theorem dL_sequence_304 : decode cL_sequence 304 = .ok (.ifCond .eq 29, 3) := by decide +kernel
theorem dL_sequence_307 : decode cL_sequence 307 = .ok (.iload 10, 2) := by decide +kernel
theorem dL_sequence_309 : decode cL_sequence 309 = .ok (.iload 6, 2) := by decide +kernel
theorem dL_sequence_311 : decode cL_sequence 311 = .ok (.if_icmp .ne 22, 3) := by decide +kernel
theorem dL_sequence_314 : decode cL_sequence 314 = .ok (.iload 9, 2) := by decide +kernel
theorem dL_sequence_316 : decode cL_sequence 316 = .ok (.sipush (-20004), 3) := by decide +kernel
theorem dL_sequence_319 : decode cL_sequence 319 = .ok (.if_icmp .eq 10, 3) := by decide +kernel
theorem dL_sequence_322 : decode cL_sequence 322 = .ok (.iload 8, 2) := by decide +kernel
theorem dL_sequence_324 : decode cL_sequence 324 = .ok (.iload 6, 2) := by decide +kernel
theorem dL_sequence_326 : decode cL_sequence 326 = .ok (.if_icmp .lt 7, 3) := by decide +kernel
theorem dL_sequence_329 : decode cL_sequence 329 = .ok (.iconst 1, 1) := by decide +kernel
theorem dL_sequence_330 : decode cL_sequence 330 = .ok (.goto 4, 3) := by decide +kernel
theorem dL_sequence_333 : decode cL_sequence 333 = .ok (.iconst 0, 1) := by decide +kernel
theorem dL_sequence_334 : decode cL_sequence 334 = .ok (.ireturn, 1) := by decide +kernel
theorem dL_sequence_335 : decode cL_sequence 335 = .ok (.iload 11, 2) := by decide +kernel
theorem dL_sequence_337 : decode cL_sequence 337 = .ok (.ifCond .eq 60, 3) := by decide +kernel
theorem dL_sequence_340 : decode cL_sequence 340 = .ok (.iload 4, 2) := by decide +kernel
theorem dL_sequence_342 : decode cL_sequence 342 = .ok (.iconst 5, 1) := by decide +kernel
theorem dL_sequence_343 : decode cL_sequence 343 = .ok (.if_icmp .ge 43, 3) := by decide +kernel
theorem dL_sequence_346 : decode cL_sequence 346 = .ok (.iload 10, 2) := by decide +kernel
theorem dL_sequence_348 : decode cL_sequence 348 = .ok (.iload 8, 2) := by decide +kernel
theorem dL_sequence_350 : decode cL_sequence 350 = .ok (.if_icmp .le 47, 3) := by decide +kernel
theorem dL_sequence_353 : decode cL_sequence 353 = .ok (.aload_n 0, 1) := by decide +kernel
theorem dL_sequence_354 : decode cL_sequence 354 = .ok (.bipush 13, 2) := by decide +kernel
theorem dL_sequence_356 : decode cL_sequence 356 = .ok (.iload 5, 2) := by decide +kernel
theorem dL_sequence_358 : decode cL_sequence 358 = .ok (.iload 8, 2) := by decide +kernel
theorem dL_sequence_360 : decode cL_sequence 360 = .ok (.iconst 0, 1) := by decide +kernel
theorem dL_sequence_361 : decode cL_sequence 361 = .ok (.invokestatic 191, 3) := by decide +kernel
theorem dL_sequence_364 : decode cL_sequence 364 = .ok (.iload 9, 2) := by decide +kernel
theorem dL_sequence_366 : decode cL_sequence 366 = .ok (.if_icmp .ne 31, 3) := by decide +kernel
theorem dL_sequence_369 : decode cL_sequence 369 = .ok (.aload_n 0, 1) := by decide +kernel
theorem dL_sequence_370 : decode cL_sequence 370 = .ok (.bipush 8, 2) := by decide +kernel
theorem dL_sequence_372 : decode cL_sequence 372 = .ok (.iload 5, 2) := by decide +kernel
theorem dL_sequence_374 : decode cL_sequence 374 = .ok (.iconst 0, 1) := by decide +kernel
theorem dL_sequence_375 : decode cL_sequence 375 = .ok (.invokestatic 184, 3) := by decide +kernel
theorem dL_sequence_378 : decode cL_sequence 378 = .ok (.iload 10, 2) := by decide +kernel
theorem dL_sequence_380 : decode cL_sequence 380 = .ok (.if_icmp .ne 17, 3) := by decide +kernel
theorem dL_sequence_383 : decode cL_sequence 383 = .ok (.goto 10, 3) := by decide +kernel
theorem dL_sequence_386 : decode cL_sequence 386 = .ok (.iload 10, 2) := by decide +kernel
theorem dL_sequence_388 : decode cL_sequence 388 = .ok (.iload 9, 2) := by decide +kernel
theorem dL_sequence_390 : decode cL_sequence 390 = .ok (.if_icmp .ne 7, 3) := by decide +kernel
theorem dL_sequence_393 : decode cL_sequence 393 = .ok (.iconst 1, 1) := by decide +kernel
theorem dL_sequence_394 : decode cL_sequence 394 = .ok (.goto 4, 3) := by decide +kernel
theorem dL_sequence_397 : decode cL_sequence 397 = .ok (.iconst 0, 1) := by decide +kernel
theorem dL_sequence_398 : decode cL_sequence 398 = .ok (.ireturn, 1) := by decide +kernel
theorem dL_transact_0 : decode cL_transact 0 = .ok (.aload_n 1, 1) := by decide +kernel
theorem dL_transact_1 : decode cL_transact 1 = .ok (.iload_n 2, 1) := by decide +kernel
theorem dL_transact_2 : decode cL_transact 2 = .ok (.iconst 1, 1) := by decide +kernel
theorem dL_transact_3 : decode cL_transact 3 = .ok (.iadd, 1) := by decide +kernel
theorem dL_transact_4 : decode cL_transact 4 = .ok (.iconst 3, 1) := by decide +kernel
theorem dL_transact_5 : decode cL_transact 5 = .ok (.invokestatic 199, 3) := by decide +kernel
theorem dL_transact_8 : decode cL_transact 8 = .ok (.istore 5, 2) := by decide +kernel
theorem dL_transact_10 : decode cL_transact 10 = .ok (.aload_n 1, 1) := by decide +kernel
theorem dL_transact_11 : decode cL_transact 11 = .ok (.iload_n 2, 1) := by decide +kernel
theorem dL_transact_12 : decode cL_transact 12 = .ok (.iconst 2, 1) := by decide +kernel
theorem dL_transact_13 : decode cL_transact 13 = .ok (.iadd, 1) := by decide +kernel
theorem dL_transact_14 : decode cL_transact 14 = .ok (.bipush 6, 2) := by decide +kernel
theorem dL_transact_16 : decode cL_transact 16 = .ok (.invokestatic 199, 3) := by decide +kernel
theorem dL_transact_19 : decode cL_transact 19 = .ok (.istore 6, 2) := by decide +kernel
theorem dL_transact_21 : decode cL_transact 21 = .ok (.aload_n 1, 1) := by decide +kernel
theorem dL_transact_22 : decode cL_transact 22 = .ok (.iload_n 2, 1) := by decide +kernel
theorem dL_transact_23 : decode cL_transact 23 = .ok (.bipush 9, 2) := by decide +kernel
theorem dL_transact_25 : decode cL_transact 25 = .ok (.invokestatic 199, 3) := by decide +kernel
theorem dL_transact_28 : decode cL_transact 28 = .ok (.istore 7, 2) := by decide +kernel
theorem dL_transact_30 : decode cL_transact 30 = .ok (.iload 7, 2) := by decide +kernel
theorem dL_transact_32 : decode cL_transact 32 = .ok (.ifCond .ne 51, 3) := by decide +kernel
theorem dL_transact_35 : decode cL_transact 35 = .ok (.aload_n 3, 1) := by decide +kernel
theorem dL_transact_36 : decode cL_transact 36 = .ok (.iconst 2, 1) := by decide +kernel
theorem dL_transact_37 : decode cL_transact 37 = .ok (.iaload, 1) := by decide +kernel
theorem dL_transact_38 : decode cL_transact 38 = .ok (.bipush 6, 2) := by decide +kernel
theorem dL_transact_40 : decode cL_transact 40 = .ok (.if_icmp .ge 43, 3) := by decide +kernel
theorem dL_transact_43 : decode cL_transact 43 = .ok (.aload_n 3, 1) := by decide +kernel
theorem dL_transact_44 : decode cL_transact 44 = .ok (.iconst 2, 1) := by decide +kernel
theorem dL_transact_45 : decode cL_transact 45 = .ok (.dup2, 1) := by decide +kernel
theorem dL_transact_46 : decode cL_transact 46 = .ok (.iaload, 1) := by decide +kernel
theorem dL_transact_47 : decode cL_transact 47 = .ok (.iconst 1, 1) := by decide +kernel
theorem dL_transact_48 : decode cL_transact 48 = .ok (.iadd, 1) := by decide +kernel
theorem dL_transact_49 : decode cL_transact 49 = .ok (.iastore, 1) := by decide +kernel
theorem dL_transact_50 : decode cL_transact 50 = .ok (.aload_n 0, 1) := by decide +kernel
theorem dL_transact_51 : decode cL_transact 51 = .ok (.bipush 16, 2) := by decide +kernel
theorem dL_transact_53 : decode cL_transact 53 = .ok (.iload 6, 2) := by decide +kernel
theorem dL_transact_55 : decode cL_transact 55 = .ok (.iconst 3, 1) := by decide +kernel
theorem dL_transact_56 : decode cL_transact 56 = .ok (.isub, 1) := by decide +kernel
theorem dL_transact_57 : decode cL_transact 57 = .ok (.bipush (-5), 2) := by decide +kernel
theorem dL_transact_59 : decode cL_transact 59 = .ok (.iload 6, 2) := by decide +kernel
theorem dL_transact_61 : decode cL_transact 61 = .ok (.isub, 1) := by decide +kernel
theorem dL_transact_62 : decode cL_transact 62 = .ok (.iconst 5, 1) := by decide +kernel
theorem dL_transact_63 : decode cL_transact 63 = .ok (.iload 6, 2) := by decide +kernel
theorem dL_transact_65 : decode cL_transact 65 = .ok (.iadd, 1) := by decide +kernel
theorem dL_transact_66 : decode cL_transact 66 = .ok (.invokestatic 191, 3) := by decide +kernel
theorem dL_transact_69 : decode cL_transact 69 = .ok (.aload_n 3, 1) := by decide +kernel
theorem dL_transact_70 : decode cL_transact 70 = .ok (.iconst 2, 1) := by decide +kernel
theorem dL_transact_71 : decode cL_transact 71 = .ok (.iaload, 1) := by decide +kernel
theorem dL_transact_72 : decode cL_transact 72 = .ok (.iconst 1, 1) := by decide +kernel
theorem dL_transact_73 : decode cL_transact 73 = .ok (.isub, 1) := by decide +kernel
theorem dL_transact_74 : decode cL_transact 74 = .ok (.if_icmp .ne 7, 3) := by decide +kernel
theorem dL_transact_77 : decode cL_transact 77 = .ok (.iconst 1, 1) := by decide +kernel
theorem dL_transact_78 : decode cL_transact 78 = .ok (.goto 4, 3) := by decide +kernel
theorem dL_transact_81 : decode cL_transact 81 = .ok (.iconst 0, 1) := by decide +kernel
theorem dL_transact_82 : decode cL_transact 82 = .ok (.ireturn, 1) := by decide +kernel
theorem dL_transact_83 : decode cL_transact 83 = .ok (.iload 7, 2) := by decide +kernel
theorem dL_transact_85 : decode cL_transact 85 = .ok (.iconst 3, 1) := by decide +kernel
theorem dL_transact_86 : decode cL_transact 86 = .ok (.if_icmp .ge 68, 3) := by decide +kernel
theorem dL_transact_89 : decode cL_transact 89 = .ok (.aload 4, 2) := by decide +kernel
theorem dL_transact_91 : decode cL_transact 91 = .ok (.iload 5, 2) := by decide +kernel
theorem dL_transact_93 : decode cL_transact 93 = .ok (.baload, 1) := by decide +kernel
theorem dL_transact_94 : decode cL_transact 94 = .ok (.ifCond .ne 60, 3) := by decide +kernel
theorem dL_transact_97 : decode cL_transact 97 = .ok (.aload 4, 2) := by decide +kernel
theorem dL_transact_99 : decode cL_transact 99 = .ok (.iload 5, 2) := by decide +kernel
theorem dL_transact_101 : decode cL_transact 101 = .ok (.iconst 1, 1) := by decide +kernel
theorem dL_transact_102 : decode cL_transact 102 = .ok (.bastore, 1) := by decide +kernel
theorem dL_transact_103 : decode cL_transact 103 = .ok (.aload_n 0, 1) := by decide +kernel
theorem dL_transact_104 : decode cL_transact 104 = .ok (.bipush 17, 2) := by decide +kernel
theorem dL_transact_106 : decode cL_transact 106 = .ok (.iload 5, 2) := by decide +kernel
theorem dL_transact_108 : decode cL_transact 108 = .ok (.iconst 0, 1) := by decide +kernel
theorem dL_transact_109 : decode cL_transact 109 = .ok (.iconst 0, 1) := by decide +kernel
theorem dL_transact_110 : decode cL_transact 110 = .ok (.invokestatic 191, 3) := by decide +kernel
theorem dL_transact_113 : decode cL_transact 113 = .ok (.aload_n 0, 1) := by decide +kernel
theorem dL_transact_114 : decode cL_transact 114 = .ok (.invokevirtual 214, 3) := by decide +kernel
theorem dL_transact_117 : decode cL_transact 117 = .ok (.if_icmp .ne 35, 3) := by decide +kernel
theorem dL_transact_120 : decode cL_transact 120 = .ok (.aload_n 0, 1) := by decide +kernel
theorem dL_transact_121 : decode cL_transact 121 = .ok (.bipush 10, 2) := by decide +kernel
theorem dL_transact_123 : decode cL_transact 123 = .ok (.iload 5, 2) := by decide +kernel
theorem dL_transact_125 : decode cL_transact 125 = .ok (.iconst 0, 1) := by decide +kernel
theorem dL_transact_126 : decode cL_transact 126 = .ok (.invokestatic 184, 3) := by decide +kernel
theorem dL_transact_129 : decode cL_transact 129 = .ok (.ifCond .ne 23, 3) := by decide +kernel
theorem dL_transact_132 : decode cL_transact 132 = .ok (.aload_n 0, 1) := by decide +kernel
theorem dL_transact_133 : decode cL_transact 133 = .ok (.bipush 17, 2) := by decide +kernel
theorem dL_transact_135 : decode cL_transact 135 = .ok (.iload 5, 2) := by decide +kernel
theorem dL_transact_137 : decode cL_transact 137 = .ok (.iconst 0, 1) := by decide +kernel
theorem dL_transact_138 : decode cL_transact 138 = .ok (.iconst 0, 1) := by decide +kernel
theorem dL_transact_139 : decode cL_transact 139 = .ok (.invokestatic 191, 3) := by decide +kernel
theorem dL_transact_142 : decode cL_transact 142 = .ok (.sipush (-20003), 3) := by decide +kernel
theorem dL_transact_145 : decode cL_transact 145 = .ok (.if_icmp .ne 7, 3) := by decide +kernel
theorem dL_transact_148 : decode cL_transact 148 = .ok (.iconst 1, 1) := by decide +kernel
theorem dL_transact_149 : decode cL_transact 149 = .ok (.goto 4, 3) := by decide +kernel
theorem dL_transact_152 : decode cL_transact 152 = .ok (.iconst 0, 1) := by decide +kernel
theorem dL_transact_153 : decode cL_transact 153 = .ok (.ireturn, 1) := by decide +kernel
theorem dL_transact_154 : decode cL_transact 154 = .ok (.aload_n 0, 1) := by decide +kernel
theorem dL_transact_155 : decode cL_transact 155 = .ok (.bipush 10, 2) := by decide +kernel
theorem dL_transact_157 : decode cL_transact 157 = .ok (.iload 5, 2) := by decide +kernel
theorem dL_transact_159 : decode cL_transact 159 = .ok (.iconst 0, 1) := by decide +kernel
theorem dL_transact_160 : decode cL_transact 160 = .ok (.invokestatic 184, 3) := by decide +kernel
theorem dL_transact_163 : decode cL_transact 163 = .ok (.istore 8, 2) := by decide +kernel
theorem dL_transact_165 : decode cL_transact 165 = .ok (.aload_n 0, 1) := by decide +kernel
theorem dL_transact_166 : decode cL_transact 166 = .ok (.invokevirtual 217, 3) := by decide +kernel
theorem dL_transact_169 : decode cL_transact 169 = .ok (.istore 9, 2) := by decide +kernel
theorem dL_transact_171 : decode cL_transact 171 = .ok (.aload_n 0, 1) := by decide +kernel
theorem dL_transact_172 : decode cL_transact 172 = .ok (.invokevirtual 214, 3) := by decide +kernel
theorem dL_transact_175 : decode cL_transact 175 = .ok (.istore 10, 2) := by decide +kernel
theorem dL_transact_177 : decode cL_transact 177 = .ok (.iload 7, 2) := by decide +kernel
theorem dL_transact_179 : decode cL_transact 179 = .ok (.bipush 6, 2) := by decide +kernel
theorem dL_transact_181 : decode cL_transact 181 = .ok (.if_icmp .le 192, 3) := by decide +kernel
theorem dL_transact_184 : decode cL_transact 184 = .ok (.iload 7, 2) := by decide +kernel
theorem dL_transact_186 : decode cL_transact 186 = .ok (.bipush 7, 2) := by decide +kernel
theorem dL_transact_188 : decode cL_transact 188 = .ok (.if_icmp .ne 16, 3) := by decide +kernel
theorem dL_transact_191 : decode cL_transact 191 = .ok (.aload_n 0, 1) := by decide +kernel
theorem dL_transact_192 : decode cL_transact 192 = .ok (.bipush 22, 2) := by decide +kernel
theorem dL_transact_194 : decode cL_transact 194 = .ok (.iload 5, 2) := by decide +kernel
theorem dL_transact_196 : decode cL_transact 196 = .ok (.iconst 0, 1) := by decide +kernel
theorem dL_transact_197 : decode cL_transact 197 = .ok (.iconst 0, 1) := by decide +kernel
theorem dL_transact_198 : decode cL_transact 198 = .ok (.invokestatic 191, 3) := by decide +kernel
theorem dL_transact_201 : decode cL_transact 201 = .ok (.goto 37, 3) := by decide +kernel
theorem dL_transact_204 : decode cL_transact 204 = .ok (.aload_n 1, 1) := by decide +kernel
theorem dL_transact_205 : decode cL_transact 205 = .ok (.iload_n 2, 1) := by decide +kernel
theorem dL_transact_206 : decode cL_transact 206 = .ok (.iconst 3, 1) := by decide +kernel
theorem dL_transact_207 : decode cL_transact 207 = .ok (.iadd, 1) := by decide +kernel
theorem dL_transact_208 : decode cL_transact 208 = .ok (.iconst 4, 1) := by decide +kernel
theorem dL_transact_209 : decode cL_transact 209 = .ok (.invokestatic 199, 3) := by decide +kernel
theorem dL_transact_212 : decode cL_transact 212 = .ok (.ifCond .ne 16, 3) := by decide +kernel
theorem dL_transact_215 : decode cL_transact 215 = .ok (.aload_n 0, 1) := by decide +kernel
theorem dL_transact_216 : decode cL_transact 216 = .ok (.bipush 23, 2) := by decide +kernel
theorem dL_transact_218 : decode cL_transact 218 = .ok (.iload 5, 2) := by decide +kernel
theorem dL_transact_220 : decode cL_transact 220 = .ok (.iconst 0, 1) := by decide +kernel
theorem dL_transact_221 : decode cL_transact 221 = .ok (.iconst 0, 1) := by decide +kernel
theorem dL_transact_222 : decode cL_transact 222 = .ok (.invokestatic 191, 3) := by decide +kernel
theorem dL_transact_225 : decode cL_transact 225 = .ok (.goto 13, 3) := by decide +kernel
theorem dL_transact_228 : decode cL_transact 228 = .ok (.aload_n 0, 1) := by decide +kernel
theorem dL_transact_229 : decode cL_transact 229 = .ok (.bipush 22, 2) := by decide +kernel
theorem dL_transact_231 : decode cL_transact 231 = .ok (.iload 5, 2) := by decide +kernel
theorem dL_transact_233 : decode cL_transact 233 = .ok (.iconst 0, 1) := by decide +kernel
theorem dL_transact_234 : decode cL_transact 234 = .ok (.iconst 0, 1) := by decide +kernel
theorem dL_transact_235 : decode cL_transact 235 = .ok (.invokestatic 191, 3) := by decide +kernel
theorem dL_transact_238 : decode cL_transact 238 = .ok (.istore 11, 2) := by decide +kernel
theorem dL_transact_240 : decode cL_transact 240 = .ok (.aload 4, 2) := by decide +kernel
theorem dL_transact_242 : decode cL_transact 242 = .ok (.iload 5, 2) := by decide +kernel
theorem dL_transact_244 : decode cL_transact 244 = .ok (.baload, 1) := by decide +kernel
theorem dL_transact_245 : decode cL_transact 245 = .ok (.istore 12, 2) := by decide +kernel
theorem dL_transact_247 : decode cL_transact 247 = .ok (.aload 4, 2) := by decide +kernel
theorem dL_transact_249 : decode cL_transact 249 = .ok (.iload 5, 2) := by decide +kernel
theorem dL_transact_251 : decode cL_transact 251 = .ok (.iload 11, 2) := by decide +kernel
theorem dL_transact_253 : decode cL_transact 253 = .ok (.bipush 115, 2) := by decide +kernel
theorem dL_transact_255 : decode cL_transact 255 = .ok (.if_icmp .ne 7, 3) := by decide +kernel
theorem dL_transact_258 : decode cL_transact 258 = .ok (.iconst 1, 1) := by decide +kernel
theorem dL_transact_259 : decode cL_transact 259 = .ok (.goto 4, 3) := by decide +kernel
theorem dL_transact_262 : decode cL_transact 262 = .ok (.iconst 0, 1) := by decide +kernel
theorem dL_transact_263 : decode cL_transact 263 = .ok (.bastore, 1) := by decide +kernel
theorem dL_transact_264 : decode cL_transact 264 = .ok (.iload 11, 2) := by decide +kernel
theorem dL_transact_266 : decode cL_transact 266 = .ok (.bipush 99, 2) := by decide +kernel
theorem dL_transact_268 : decode cL_transact 268 = .ok (.if_icmp .ne 16, 3) := by decide +kernel
theorem dL_transact_271 : decode cL_transact 271 = .ok (.aload_n 0, 1) := by decide +kernel
theorem dL_transact_272 : decode cL_transact 272 = .ok (.invokevirtual 217, 3) := by decide +kernel
theorem dL_transact_275 : decode cL_transact 275 = .ok (.iload 9, 2) := by decide +kernel
theorem dL_transact_277 : decode cL_transact 277 = .ok (.if_icmp .le 7, 3) := by decide +kernel
theorem dL_transact_280 : decode cL_transact 280 = .ok (.iconst 1, 1) := by decide +kernel
theorem dL_transact_281 : decode cL_transact 281 = .ok (.goto 4, 3) := by decide +kernel
theorem dL_transact_284 : decode cL_transact 284 = .ok (.iconst 0, 1) := by decide +kernel
theorem dL_transact_285 : decode cL_transact 285 = .ok (.istore 13, 2) := by decide +kernel
theorem dL_transact_287 : decode cL_transact 287 = .ok (.iload 11, 2) := by decide +kernel
theorem dL_transact_289 : decode cL_transact 289 = .ok (.sipush (-20003), 3) := by decide +kernel
theorem dL_transact_292 : decode cL_transact 292 = .ok (.if_icmp .ne 7, 3) := by decide +kernel
theorem dL_transact_295 : decode cL_transact 295 = .ok (.iconst 1, 1) := by decide +kernel
theorem dL_transact_296 : decode cL_transact 296 = .ok (.goto 4, 3) := by decide +kernel
theorem dL_transact_299 : decode cL_transact 299 = .ok (.iconst 0, 1) := by decide +kernel
theorem dL_transact_300 : decode cL_transact 300 = .ok (.iload 12, 2) := by decide +kernel
theorem dL_transact_302 : decode cL_transact 302 = .ok (.ifCond .ne 7, 3) := by decide +kernel
theorem dL_transact_305 : decode cL_transact 305 = .ok (.iconst 1, 1) := by decide +kernel
theorem dL_transact_306 : decode cL_transact 306 = .ok (.goto 4, 3) := by decide +kernel
theorem dL_transact_309 : decode cL_transact 309 = .ok (.iconst 0, 1) := by decide +kernel
theorem dL_transact_310 : decode cL_transact 310 = .ok (.if_icmp .ne 61, 3) := by decide +kernel
theorem dL_transact_313 : decode cL_transact 313 = .ok (.aload_n 0, 1) := by decide +kernel
theorem dL_transact_314 : decode cL_transact 314 = .ok (.invokevirtual 214, 3) := by decide +kernel
theorem dL_transact_317 : decode cL_transact 317 = .ok (.iload 10, 2) := by decide +kernel
theorem dL_transact_319 : decode cL_transact 319 = .ok (.iload 13, 2) := by decide +kernel
theorem dL_transact_321 : decode cL_transact 321 = .ok (.invokestatic 83, 3) := by decide +kernel
theorem dL_transact_324 : decode cL_transact 324 = .ok (.iadd, 1) := by decide +kernel
theorem dL_transact_325 : decode cL_transact 325 = .ok (.if_icmp .ne 46, 3) := by decide +kernel
theorem dL_transact_328 : decode cL_transact 328 = .ok (.iload 13, 2) := by decide +kernel
theorem dL_transact_330 : decode cL_transact 330 = .ok (.ifCond .ne 12, 3) := by decide +kernel
theorem dL_transact_333 : decode cL_transact 333 = .ok (.aload_n 0, 1) := by decide +kernel
theorem dL_transact_334 : decode cL_transact 334 = .ok (.invokevirtual 217, 3) := by decide +kernel
theorem dL_transact_337 : decode cL_transact 337 = .ok (.iload 9, 2) := by decide +kernel
theorem dL_transact_339 : decode cL_transact 339 = .ok (.if_icmp .ne 32, 3) := by decide +kernel
theorem dL_transact_342 : decode cL_transact 342 = .ok (.iload 13, 2) := by decide +kernel
theorem dL_transact_344 : decode cL_transact 344 = .ok (.ifCond .eq 23, 3) := by decide +kernel
theorem dL_transact_347 : decode cL_transact 347 = .ok (.aload_n 0, 1) := by decide +kernel
theorem dL_transact_348 : decode cL_transact 348 = .ok (.bipush 14, 2) := by decide +kernel
theorem dL_transact_350 : decode cL_transact 350 = .ok (.aload_n 0, 1) := by decide +kernel
theorem dL_transact_351 : decode cL_transact 351 = .ok (.invokevirtual 217, 3) := by decide +kernel
theorem dL_transact_354 : decode cL_transact 354 = .ok (.iconst 1, 1) := by decide +kernel
theorem dL_transact_355 : decode cL_transact 355 = .ok (.isub, 1) := by decide +kernel
theorem dL_transact_356 : decode cL_transact 356 = .ok (.iconst 0, 1) := by decide +kernel
theorem dL_transact_357 : decode cL_transact 357 = .ok (.invokestatic 184, 3) := by decide +kernel
theorem dL_transact_360 : decode cL_transact 360 = .ok (.iload 10, 2) := by decide +kernel
theorem dL_transact_362 : decode cL_transact 362 = .ok (.iconst 1, 1) := by decide +kernel
theorem dL_transact_363 : decode cL_transact 363 = .ok (.iadd, 1) := by decide +kernel
theorem dL_transact_364 : decode cL_transact 364 = .ok (.if_icmp .ne 7, 3) := by decide +kernel
theorem dL_transact_367 : decode cL_transact 367 = .ok (.iconst 1, 1) := by decide +kernel
theorem dL_transact_368 : decode cL_transact 368 = .ok (.goto 4, 3) := by decide +kernel
theorem dL_transact_371 : decode cL_transact 371 = .ok (.iconst 0, 1) := by decide +kernel
theorem dL_transact_372 : decode cL_transact 372 = .ok (.ireturn, 1) := by decide +kernel
theorem dL_transact_373 : decode cL_transact 373 = .ok (.iload 7, 2) := by decide +kernel
theorem dL_transact_375 : decode cL_transact 375 = .ok (.iconst 3, 1) := by decide +kernel
theorem dL_transact_376 : decode cL_transact 376 = .ok (.if_icmp .ne 17, 3) := by decide +kernel
theorem dL_transact_379 : decode cL_transact 379 = .ok (.aload_n 0, 1) := by decide +kernel
theorem dL_transact_380 : decode cL_transact 380 = .ok (.bipush 18, 2) := by decide +kernel
theorem dL_transact_382 : decode cL_transact 382 = .ok (.iload 5, 2) := by decide +kernel
theorem dL_transact_384 : decode cL_transact 384 = .ok (.iload 6, 2) := by decide +kernel
theorem dL_transact_386 : decode cL_transact 386 = .ok (.iconst 0, 1) := by decide +kernel
theorem dL_transact_387 : decode cL_transact 387 = .ok (.invokestatic 191, 3) := by decide +kernel
theorem dL_transact_390 : decode cL_transact 390 = .ok (.goto 74, 3) := by decide +kernel
theorem dL_transact_393 : decode cL_transact 393 = .ok (.iload 7, 2) := by decide +kernel
theorem dL_transact_395 : decode cL_transact 395 = .ok (.iconst 4, 1) := by decide +kernel
theorem dL_transact_396 : decode cL_transact 396 = .ok (.if_icmp .ne 28, 3) := by decide +kernel
theorem dL_transact_399 : decode cL_transact 399 = .ok (.aload_n 0, 1) := by decide +kernel
theorem dL_transact_400 : decode cL_transact 400 = .ok (.bipush 19, 2) := by decide +kernel
theorem dL_transact_402 : decode cL_transact 402 = .ok (.iload 5, 2) := by decide +kernel
theorem dL_transact_404 : decode cL_transact 404 = .ok (.iload 6, 2) := by decide +kernel
theorem dL_transact_406 : decode cL_transact 406 = .ok (.aload_n 1, 1) := by decide +kernel
theorem dL_transact_407 : decode cL_transact 407 = .ok (.iload_n 2, 1) := by decide +kernel
theorem dL_transact_408 : decode cL_transact 408 = .ok (.iconst 3, 1) := by decide +kernel
theorem dL_transact_409 : decode cL_transact 409 = .ok (.iadd, 1) := by decide +kernel
theorem dL_transact_410 : decode cL_transact 410 = .ok (.bipush 21, 2) := by decide +kernel
theorem dL_transact_412 : decode cL_transact 412 = .ok (.invokestatic 199, 3) := by decide +kernel
theorem dL_transact_415 : decode cL_transact 415 = .ok (.bipush 10, 2) := by decide +kernel
theorem dL_transact_417 : decode cL_transact 417 = .ok (.isub, 1) := by decide +kernel
theorem dL_transact_418 : decode cL_transact 418 = .ok (.invokestatic 191, 3) := by decide +kernel
theorem dL_transact_421 : decode cL_transact 421 = .ok (.goto 43, 3) := by decide +kernel
theorem dL_transact_424 : decode cL_transact 424 = .ok (.iload 7, 2) := by decide +kernel
theorem dL_transact_426 : decode cL_transact 426 = .ok (.iconst 5, 1) := by decide +kernel
theorem dL_transact_427 : decode cL_transact 427 = .ok (.if_icmp .ne 17, 3) := by decide +kernel
theorem dL_transact_430 : decode cL_transact 430 = .ok (.aload_n 0, 1) := by decide +kernel
theorem dL_transact_431 : decode cL_transact 431 = .ok (.bipush 20, 2) := by decide +kernel
theorem dL_transact_433 : decode cL_transact 433 = .ok (.iload 5, 2) := by decide +kernel
theorem dL_transact_435 : decode cL_transact 435 = .ok (.iload 6, 2) := by decide +kernel
theorem dL_transact_437 : decode cL_transact 437 = .ok (.iconst 0, 1) := by decide +kernel
theorem dL_transact_438 : decode cL_transact 438 = .ok (.invokestatic 191, 3) := by decide +kernel
theorem dL_transact_441 : decode cL_transact 441 = .ok (.goto 23, 3) := by decide +kernel
theorem dL_transact_444 : decode cL_transact 444 = .ok (.aload_n 0, 1) := by decide +kernel
theorem dL_transact_445 : decode cL_transact 445 = .ok (.bipush 21, 2) := by decide +kernel
theorem dL_transact_447 : decode cL_transact 447 = .ok (.iload 5, 2) := by decide +kernel
theorem dL_transact_449 : decode cL_transact 449 = .ok (.iload 6, 2) := by decide +kernel
theorem dL_transact_451 : decode cL_transact 451 = .ok (.aload_n 1, 1) := by decide +kernel
theorem dL_transact_452 : decode cL_transact 452 = .ok (.iload_n 2, 1) := by decide +kernel
theorem dL_transact_453 : decode cL_transact 453 = .ok (.iconst 3, 1) := by decide +kernel
theorem dL_transact_454 : decode cL_transact 454 = .ok (.iadd, 1) := by decide +kernel
theorem dL_transact_455 : decode cL_transact 455 = .ok (.iconst 5, 1) := by decide +kernel
theorem dL_transact_456 : decode cL_transact 456 = .ok (.invokestatic 199, 3) := by decide +kernel
theorem dL_transact_459 : decode cL_transact 459 = .ok (.iconst 2, 1) := by decide +kernel
theorem dL_transact_460 : decode cL_transact 460 = .ok (.isub, 1) := by decide +kernel
theorem dL_transact_461 : decode cL_transact 461 = .ok (.invokestatic 191, 3) := by decide +kernel
theorem dL_transact_464 : decode cL_transact 464 = .ok (.istore 11, 2) := by decide +kernel
theorem dL_transact_466 : decode cL_transact 466 = .ok (.iload 6, 2) := by decide +kernel
theorem dL_transact_468 : decode cL_transact 468 = .ok (.aload_n 3, 1) := by decide +kernel
theorem dL_transact_469 : decode cL_transact 469 = .ok (.iconst 2, 1) := by decide +kernel
theorem dL_transact_470 : decode cL_transact 470 = .ok (.iaload, 1) := by decide +kernel
theorem dL_transact_471 : decode cL_transact 471 = .ok (.if_icmp .lt 17, 3) := by decide +kernel
theorem dL_transact_474 : decode cL_transact 474 = .ok (.iload 11, 2) := by decide +kernel
theorem dL_transact_476 : decode cL_transact 476 = .ok (.sipush (-20001), 3) := by decide +kernel
theorem dL_transact_479 : decode cL_transact 479 = .ok (.if_icmp .ne 7, 3) := by decide +kernel
theorem dL_transact_482 : decode cL_transact 482 = .ok (.iconst 1, 1) := by decide +kernel
theorem dL_transact_483 : decode cL_transact 483 = .ok (.goto 4, 3) := by decide +kernel
theorem dL_transact_486 : decode cL_transact 486 = .ok (.iconst 0, 1) := by decide +kernel
theorem dL_transact_487 : decode cL_transact 487 = .ok (.ireturn, 1) := by decide +kernel
theorem dL_transact_488 : decode cL_transact 488 = .ok (.aload 4, 2) := by decide +kernel
theorem dL_transact_490 : decode cL_transact 490 = .ok (.iload 5, 2) := by decide +kernel
theorem dL_transact_492 : decode cL_transact 492 = .ok (.baload, 1) := by decide +kernel
theorem dL_transact_493 : decode cL_transact 493 = .ok (.ifCond .ne 17, 3) := by decide +kernel
theorem dL_transact_496 : decode cL_transact 496 = .ok (.iload 11, 2) := by decide +kernel
theorem dL_transact_498 : decode cL_transact 498 = .ok (.sipush (-20003), 3) := by decide +kernel
theorem dL_transact_501 : decode cL_transact 501 = .ok (.if_icmp .ne 7, 3) := by decide +kernel
theorem dL_transact_504 : decode cL_transact 504 = .ok (.iconst 1, 1) := by decide +kernel
theorem dL_transact_505 : decode cL_transact 505 = .ok (.goto 4, 3) := by decide +kernel
theorem dL_transact_508 : decode cL_transact 508 = .ok (.iconst 0, 1) := by decide +kernel
theorem dL_transact_509 : decode cL_transact 509 = .ok (.ireturn, 1) := by decide +kernel
theorem dL_transact_510 : decode cL_transact 510 = .ok (.iload 7, 2) := by decide +kernel
theorem dL_transact_512 : decode cL_transact 512 = .ok (.iconst 3, 1) := by decide +kernel
theorem dL_transact_513 : decode cL_transact 513 = .ok (.if_icmp .ne 19, 3) := by decide +kernel
theorem dL_transact_516 : decode cL_transact 516 = .ok (.iload 11, 2) := by decide +kernel
theorem dL_transact_518 : decode cL_transact 518 = .ok (.sipush (-10000), 3) := by decide +kernel
theorem dL_transact_521 : decode cL_transact 521 = .ok (.if_icmp .ne 7, 3) := by decide +kernel
theorem dL_transact_524 : decode cL_transact 524 = .ok (.iconst 1, 1) := by decide +kernel
theorem dL_transact_525 : decode cL_transact 525 = .ok (.goto 17, 3) := by decide +kernel
theorem dL_transact_528 : decode cL_transact 528 = .ok (.iconst 0, 1) := by decide +kernel
theorem dL_transact_529 : decode cL_transact 529 = .ok (.goto 13, 3) := by decide +kernel
theorem dL_transact_532 : decode cL_transact 532 = .ok (.iload 11, 2) := by decide +kernel
theorem dL_transact_534 : decode cL_transact 534 = .ok (.ifCond .ne 7, 3) := by decide +kernel
theorem dL_transact_537 : decode cL_transact 537 = .ok (.iconst 1, 1) := by decide +kernel
theorem dL_transact_538 : decode cL_transact 538 = .ok (.goto 4, 3) := by decide +kernel
theorem dL_transact_541 : decode cL_transact 541 = .ok (.iconst 0, 1) := by decide +kernel
theorem dL_transact_542 : decode cL_transact 542 = .ok (.istore 12, 2) := by decide +kernel
theorem dL_transact_544 : decode cL_transact 544 = .ok (.iload 11, 2) := by decide +kernel
theorem dL_transact_546 : decode cL_transact 546 = .ok (.sipush (-20004), 3) := by decide +kernel
theorem dL_transact_549 : decode cL_transact 549 = .ok (.if_icmp .ne 16, 3) := by decide +kernel
theorem dL_transact_552 : decode cL_transact 552 = .ok (.iload 7, 2) := by decide +kernel
theorem dL_transact_554 : decode cL_transact 554 = .ok (.iconst 4, 1) := by decide +kernel
theorem dL_transact_555 : decode cL_transact 555 = .ok (.if_icmp .eq 76, 3) := by decide +kernel
theorem dL_transact_558 : decode cL_transact 558 = .ok (.iload 7, 2) := by decide +kernel
theorem dL_transact_560 : decode cL_transact 560 = .ok (.bipush 6, 2) := by decide +kernel
theorem dL_transact_562 : decode cL_transact 562 = .ok (.if_icmp .eq 69, 3) := by decide +kernel
theorem dL_transact_565 : decode cL_transact 565 = .ok (.aload_n 0, 1) := by decide +kernel
theorem dL_transact_566 : decode cL_transact 566 = .ok (.bipush 10, 2) := by decide +kernel
theorem dL_transact_568 : decode cL_transact 568 = .ok (.iload 5, 2) := by decide +kernel
theorem dL_transact_570 : decode cL_transact 570 = .ok (.iconst 0, 1) := by decide +kernel
theorem dL_transact_571 : decode cL_transact 571 = .ok (.invokestatic 184, 3) := by decide +kernel
theorem dL_transact_574 : decode cL_transact 574 = .ok (.iload 8, 2) := by decide +kernel
theorem dL_transact_576 : decode cL_transact 576 = .ok (.iload 12, 2) := by decide +kernel
theorem dL_transact_578 : decode cL_transact 578 = .ok (.invokestatic 83, 3) := by decide +kernel
theorem dL_transact_581 : decode cL_transact 581 = .ok (.iadd, 1) := by decide +kernel
theorem dL_transact_582 : decode cL_transact 582 = .ok (.if_icmp .ne 53, 3) := by decide +kernel
theorem dL_transact_585 : decode cL_transact 585 = .ok (.aload_n 0, 1) := by decide +kernel
theorem dL_transact_586 : decode cL_transact 586 = .ok (.invokevirtual 217, 3) := by decide +kernel
theorem dL_transact_589 : decode cL_transact 589 = .ok (.iload 9, 2) := by decide +kernel
theorem dL_transact_591 : decode cL_transact 591 = .ok (.if_icmp .ne 44, 3) := by decide +kernel
theorem dL_transact_594 : decode cL_transact 594 = .ok (.iload 7, 2) := by decide +kernel
theorem dL_transact_596 : decode cL_transact 596 = .ok (.iconst 4, 1) := by decide +kernel
theorem dL_transact_597 : decode cL_transact 597 = .ok (.if_icmp .ne 34, 3) := by decide +kernel
theorem dL_transact_600 : decode cL_transact 600 = .ok (.iload 12, 2) := by decide +kernel
theorem dL_transact_602 : decode cL_transact 602 = .ok (.ifCond .ne 29, 3) := by decide +kernel
theorem dL_transact_605 : decode cL_transact 605 = .ok (.aload_n 0, 1) := by decide +kernel
theorem dL_transact_606 : decode cL_transact 606 = .ok (.bipush 18, 2) := by decide +kernel
theorem dL_transact_608 : decode cL_transact 608 = .ok (.iload 5, 2) := by decide +kernel
theorem dL_transact_610 : decode cL_transact 610 = .ok (.iload 6, 2) := by decide +kernel
theorem dL_transact_612 : decode cL_transact 612 = .ok (.iconst 0, 1) := by decide +kernel
theorem dL_transact_613 : decode cL_transact 613 = .ok (.invokestatic 191, 3) := by decide +kernel
theorem dL_transact_616 : decode cL_transact 616 = .ok (.aload_n 1, 1) := by decide +kernel
theorem dL_transact_617 : decode cL_transact 617 = .ok (.iload_n 2, 1) := by decide +kernel
theorem dL_transact_618 : decode cL_transact 618 = .ok (.iconst 3, 1) := by decide +kernel
theorem dL_transact_619 : decode cL_transact 619 = .ok (.iadd, 1) := by decide +kernel
theorem dL_transact_620 : decode cL_transact 620 = .ok (.bipush 21, 2) := by decide +kernel
theorem dL_transact_622 : decode cL_transact 622 = .ok (.invokestatic 199, 3) := by decide +kernel
theorem dL_transact_625 : decode cL_transact 625 = .ok (.bipush 10, 2) := by decide +kernel
theorem dL_transact_627 : decode cL_transact 627 = .ok (.isub, 1) := by decide +kernel
theorem dL_transact_628 : decode cL_transact 628 = .ok (.if_icmp .ne 7, 3) := by decide +kernel
theorem dL_transact_631 : decode cL_transact 631 = .ok (.iconst 1, 1) := by decide +kernel
theorem dL_transact_632 : decode cL_transact 632 = .ok (.goto 4, 3) := by decide +kernel
theorem dL_transact_635 : decode cL_transact 635 = .ok (.iconst 0, 1) := by decide +kernel
theorem dL_transact_636 : decode cL_transact 636 = .ok (.ireturn, 1) := by decide +kernel
theorem dL_areReferences_0 : decode cL_areReferences 0 = .ok (.aload_n 0, 1) := by decide +kernel
theorem dL_areReferences_1 : decode cL_areReferences 1 = .ok (.bipush 11, 2) := by decide +kernel
theorem dL_areReferences_3 : decode cL_areReferences 3 = .ok (.iload_n 1, 1) := by decide +kernel
theorem dL_areReferences_4 : decode cL_areReferences 4 = .ok (.iconst 0, 1) := by decide +kernel
theorem dL_areReferences_5 : decode cL_areReferences 5 = .ok (.invokestatic 184, 3) := by decide +kernel
theorem dL_areReferences_8 : decode cL_areReferences 8 = .ok (.sipush (-20001), 3) := by decide +kernel
theorem dL_areReferences_11 : decode cL_areReferences 11 = .ok (.if_icmp .ne 7, 3) := by decide +kernel
theorem dL_areReferences_14 : decode cL_areReferences 14 = .ok (.iconst 1, 1) := by decide +kernel
theorem dL_areReferences_15 : decode cL_areReferences 15 = .ok (.goto 4, 3) := by decide +kernel
theorem dL_areReferences_18 : decode cL_areReferences 18 = .ok (.iconst 0, 1) := by decide +kernel
theorem dL_areReferences_19 : decode cL_areReferences 19 = .ok (.istore_n 2, 1) := by decide +kernel
theorem dL_areReferences_20 : decode cL_areReferences 20 = .ok (.iconst 0, 1) := by decide +kernel
theorem dL_areReferences_21 : decode cL_areReferences 21 = .ok (.istore_n 3, 1) := by decide +kernel
theorem dL_areReferences_22 : decode cL_areReferences 22 = .ok (.iload_n 3, 1) := by decide +kernel
theorem dL_areReferences_23 : decode cL_areReferences 23 = .ok (.iload_n 1, 1) := by decide +kernel
theorem dL_areReferences_24 : decode cL_areReferences 24 = .ok (.if_icmp .ge 81, 3) := by decide +kernel
theorem dL_areReferences_27 : decode cL_areReferences 27 = .ok (.iload_n 2, 1) := by decide +kernel
theorem dL_areReferences_28 : decode cL_areReferences 28 = .ok (.ifCond .eq 77, 3) := by decide +kernel
theorem dL_areReferences_31 : decode cL_areReferences 31 = .ok (.aload_n 0, 1) := by decide +kernel
theorem dL_areReferences_32 : decode cL_areReferences 32 = .ok (.bipush 11, 2) := by decide +kernel
theorem dL_areReferences_34 : decode cL_areReferences 34 = .ok (.iload_n 3, 1) := by decide +kernel
theorem dL_areReferences_35 : decode cL_areReferences 35 = .ok (.iconst 0, 1) := by decide +kernel
theorem dL_areReferences_36 : decode cL_areReferences 36 = .ok (.invokestatic 184, 3) := by decide +kernel
theorem dL_areReferences_39 : decode cL_areReferences 39 = .ok (.istore 4, 2) := by decide +kernel
theorem dL_areReferences_41 : decode cL_areReferences 41 = .ok (.iload 4, 2) := by decide +kernel
theorem dL_areReferences_43 : decode cL_areReferences 43 = .ok (.bipush (-10), 2) := by decide +kernel
theorem dL_areReferences_45 : decode cL_areReferences 45 = .ok (.if_icmp .lt 52, 3) := by decide +kernel
theorem dL_areReferences_48 : decode cL_areReferences 48 = .ok (.iload 4, 2) := by decide +kernel
theorem dL_areReferences_50 : decode cL_areReferences 50 = .ok (.bipush 10, 2) := by decide +kernel
theorem dL_areReferences_52 : decode cL_areReferences 52 = .ok (.if_icmp .gt 45, 3) := by decide +kernel
theorem dL_areReferences_55 : decode cL_areReferences 55 = .ok (.aload_n 0, 1) := by decide +kernel
theorem dL_areReferences_56 : decode cL_areReferences 56 = .ok (.bipush 12, 2) := by decide +kernel
theorem dL_areReferences_58 : decode cL_areReferences 58 = .ok (.iload_n 3, 1) := by decide +kernel
theorem dL_areReferences_59 : decode cL_areReferences 59 = .ok (.iconst 0, 1) := by decide +kernel
theorem dL_areReferences_60 : decode cL_areReferences 60 = .ok (.invokestatic 184, 3) := by decide +kernel
theorem dL_areReferences_63 : decode cL_areReferences 63 = .ok (.iload 4, 2) := by decide +kernel
theorem dL_areReferences_65 : decode cL_areReferences 65 = .ok (.if_icmp .ne 32, 3) := by decide +kernel
theorem dL_areReferences_68 : decode cL_areReferences 68 = .ok (.aload_n 0, 1) := by decide +kernel
theorem dL_areReferences_69 : decode cL_areReferences 69 = .ok (.bipush 13, 2) := by decide +kernel
theorem dL_areReferences_71 : decode cL_areReferences 71 = .ok (.iload_n 3, 1) := by decide +kernel
theorem dL_areReferences_72 : decode cL_areReferences 72 = .ok (.iconst 0, 1) := by decide +kernel
theorem dL_areReferences_73 : decode cL_areReferences 73 = .ok (.invokestatic 184, 3) := by decide +kernel
theorem dL_areReferences_76 : decode cL_areReferences 76 = .ok (.iconst 1, 1) := by decide +kernel
theorem dL_areReferences_77 : decode cL_areReferences 77 = .ok (.if_icmp .lt 20, 3) := by decide +kernel
theorem dL_areReferences_80 : decode cL_areReferences 80 = .ok (.aload_n 0, 1) := by decide +kernel
theorem dL_areReferences_81 : decode cL_areReferences 81 = .ok (.bipush 13, 2) := by decide +kernel
theorem dL_areReferences_83 : decode cL_areReferences 83 = .ok (.iload_n 3, 1) := by decide +kernel
theorem dL_areReferences_84 : decode cL_areReferences 84 = .ok (.iconst 0, 1) := by decide +kernel
theorem dL_areReferences_85 : decode cL_areReferences 85 = .ok (.invokestatic 184, 3) := by decide +kernel
theorem dL_areReferences_88 : decode cL_areReferences 88 = .ok (.bipush 8, 2) := by decide +kernel
theorem dL_areReferences_90 : decode cL_areReferences 90 = .ok (.if_icmp .gt 7, 3) := by decide +kernel
theorem dL_areReferences_93 : decode cL_areReferences 93 = .ok (.iconst 1, 1) := by decide +kernel
theorem dL_areReferences_94 : decode cL_areReferences 94 = .ok (.goto 4, 3) := by decide +kernel
theorem dL_areReferences_97 : decode cL_areReferences 97 = .ok (.iconst 0, 1) := by decide +kernel
theorem dL_areReferences_98 : decode cL_areReferences 98 = .ok (.istore_n 2, 1) := by decide +kernel
theorem dL_areReferences_99 : decode cL_areReferences 99 = .ok (.iinc 3 1, 3) := by decide +kernel
theorem dL_areReferences_102 : decode cL_areReferences 102 = .ok (.goto (-80), 3) := by decide +kernel
theorem dL_areReferences_105 : decode cL_areReferences 105 = .ok (.iconst 0, 1) := by decide +kernel
theorem dL_areReferences_106 : decode cL_areReferences 106 = .ok (.istore_n 3, 1) := by decide +kernel
theorem dL_areReferences_107 : decode cL_areReferences 107 = .ok (.bipush 6, 2) := by decide +kernel
theorem dL_areReferences_109 : decode cL_areReferences 109 = .ok (.newarray .int, 2) := by decide +kernel
theorem dL_areReferences_111 : decode cL_areReferences 111 = .ok (.astore 4, 2) := by decide +kernel
theorem dL_areReferences_113 : decode cL_areReferences 113 = .ok (.bipush 6, 2) := by decide +kernel
theorem dL_areReferences_115 : decode cL_areReferences 115 = .ok (.newarray .boolean, 2) := by decide +kernel
theorem dL_areReferences_117 : decode cL_areReferences 117 = .ok (.astore 5, 2) := by decide +kernel
theorem dL_areReferences_119 : decode cL_areReferences 119 = .ok (.iconst 0, 1) := by decide +kernel
theorem dL_areReferences_120 : decode cL_areReferences 120 = .ok (.istore 6, 2) := by decide +kernel
theorem dL_areReferences_122 : decode cL_areReferences 122 = .ok (.iload 6, 2) := by decide +kernel
theorem dL_areReferences_124 : decode cL_areReferences 124 = .ok (.aload_n 0, 1) := by decide +kernel
theorem dL_areReferences_125 : decode cL_areReferences 125 = .ok (.invokevirtual 217, 3) := by decide +kernel
theorem dL_areReferences_128 : decode cL_areReferences 128 = .ok (.if_icmp .ge 125, 3) := by decide +kernel
theorem dL_areReferences_131 : decode cL_areReferences 131 = .ok (.iload_n 2, 1) := by decide +kernel
theorem dL_areReferences_132 : decode cL_areReferences 132 = .ok (.ifCond .eq 121, 3) := by decide +kernel
theorem dL_areReferences_135 : decode cL_areReferences 135 = .ok (.aload_n 0, 1) := by decide +kernel
theorem dL_areReferences_136 : decode cL_areReferences 136 = .ok (.bipush 14, 2) := by decide +kernel
theorem dL_areReferences_138 : decode cL_areReferences 138 = .ok (.iload 6, 2) := by decide +kernel
theorem dL_areReferences_140 : decode cL_areReferences 140 = .ok (.iconst 1, 1) := by decide +kernel
theorem dL_areReferences_141 : decode cL_areReferences 141 = .ok (.invokestatic 184, 3) := by decide +kernel
theorem dL_areReferences_144 : decode cL_areReferences 144 = .ok (.istore 7, 2) := by decide +kernel
theorem dL_areReferences_146 : decode cL_areReferences 146 = .ok (.aload_n 0, 1) := by decide +kernel
theorem dL_areReferences_147 : decode cL_areReferences 147 = .ok (.bipush 14, 2) := by decide +kernel
theorem dL_areReferences_149 : decode cL_areReferences 149 = .ok (.iload 6, 2) := by decide +kernel
theorem dL_areReferences_151 : decode cL_areReferences 151 = .ok (.iconst 0, 1) := by decide +kernel
theorem dL_areReferences_152 : decode cL_areReferences 152 = .ok (.invokestatic 184, 3) := by decide +kernel
theorem dL_areReferences_155 : decode cL_areReferences 155 = .ok (.iload_n 3, 1) := by decide +kernel
theorem dL_areReferences_156 : decode cL_areReferences 156 = .ok (.if_icmp .lt 59, 3) := by decide +kernel
theorem dL_areReferences_159 : decode cL_areReferences 159 = .ok (.aload_n 0, 1) := by decide +kernel
theorem dL_areReferences_160 : decode cL_areReferences 160 = .ok (.bipush 14, 2) := by decide +kernel
theorem dL_areReferences_162 : decode cL_areReferences 162 = .ok (.iload 6, 2) := by decide +kernel
theorem dL_areReferences_164 : decode cL_areReferences 164 = .ok (.iconst 0, 1) := by decide +kernel
theorem dL_areReferences_165 : decode cL_areReferences 165 = .ok (.invokestatic 184, 3) := by decide +kernel
theorem dL_areReferences_168 : decode cL_areReferences 168 = .ok (.aload_n 0, 1) := by decide +kernel
theorem dL_areReferences_169 : decode cL_areReferences 169 = .ok (.invokevirtual 214, 3) := by decide +kernel
theorem dL_areReferences_172 : decode cL_areReferences 172 = .ok (.if_icmp .gt 43, 3) := by decide +kernel
theorem dL_areReferences_175 : decode cL_areReferences 175 = .ok (.iload 7, 2) := by decide +kernel
theorem dL_areReferences_177 : decode cL_areReferences 177 = .ok (.ifCond .lt 38, 3) := by decide +kernel
theorem dL_areReferences_180 : decode cL_areReferences 180 = .ok (.iload 7, 2) := by decide +kernel
theorem dL_areReferences_182 : decode cL_areReferences 182 = .ok (.iload_n 1, 1) := by decide +kernel
theorem dL_areReferences_183 : decode cL_areReferences 183 = .ok (.if_icmp .ge 32, 3) := by decide +kernel
theorem dL_areReferences_186 : decode cL_areReferences 186 = .ok (.aload 5, 2) := by decide +kernel
theorem dL_areReferences_188 : decode cL_areReferences 188 = .ok (.iload 7, 2) := by decide +kernel
theorem dL_areReferences_190 : decode cL_areReferences 190 = .ok (.baload, 1) := by decide +kernel
theorem dL_areReferences_191 : decode cL_areReferences 191 = .ok (.ifCond .eq 20, 3) := by decide +kernel
theorem dL_areReferences_194 : decode cL_areReferences 194 = .ok (.aload_n 0, 1) := by decide +kernel
theorem dL_areReferences_195 : decode cL_areReferences 195 = .ok (.bipush 14, 2) := by decide +kernel
theorem dL_areReferences_197 : decode cL_areReferences 197 = .ok (.iload 6, 2) := by decide +kernel
theorem dL_areReferences_199 : decode cL_areReferences 199 = .ok (.iconst 2, 1) := by decide +kernel
theorem dL_areReferences_200 : decode cL_areReferences 200 = .ok (.invokestatic 184, 3) := by decide +kernel
theorem dL_areReferences_203 : decode cL_areReferences 203 = .ok (.aload 4, 2) := by decide +kernel
theorem dL_areReferences_205 : decode cL_areReferences 205 = .ok (.iload 7, 2) := by decide +kernel
theorem dL_areReferences_207 : decode cL_areReferences 207 = .ok (.iaload, 1) := by decide +kernel
theorem dL_areReferences_208 : decode cL_areReferences 208 = .ok (.if_icmp .ne 7, 3) := by decide +kernel
theorem dL_areReferences_211 : decode cL_areReferences 211 = .ok (.iconst 1, 1) := by decide +kernel
theorem dL_areReferences_212 : decode cL_areReferences 212 = .ok (.goto 4, 3) := by decide +kernel
theorem dL_areReferences_215 : decode cL_areReferences 215 = .ok (.iconst 0, 1) := by decide +kernel
theorem dL_areReferences_216 : decode cL_areReferences 216 = .ok (.istore_n 2, 1) := by decide +kernel
theorem dL_areReferences_217 : decode cL_areReferences 217 = .ok (.aload_n 0, 1) := by decide +kernel
theorem dL_areReferences_218 : decode cL_areReferences 218 = .ok (.bipush 14, 2) := by decide +kernel
theorem dL_areReferences_220 : decode cL_areReferences 220 = .ok (.iload 6, 2) := by decide +kernel
theorem dL_areReferences_222 : decode cL_areReferences 222 = .ok (.iconst 0, 1) := by decide +kernel
theorem dL_areReferences_223 : decode cL_areReferences 223 = .ok (.invokestatic 184, 3) := by decide +kernel
theorem dL_areReferences_226 : decode cL_areReferences 226 = .ok (.istore_n 3, 1) := by decide +kernel
theorem dL_areReferences_227 : decode cL_areReferences 227 = .ok (.aload 4, 2) := by decide +kernel
theorem dL_areReferences_229 : decode cL_areReferences 229 = .ok (.iload 7, 2) := by decide +kernel
theorem dL_areReferences_231 : decode cL_areReferences 231 = .ok (.aload_n 0, 1) := by decide +kernel
theorem dL_areReferences_232 : decode cL_areReferences 232 = .ok (.bipush 14, 2) := by decide +kernel
theorem dL_areReferences_234 : decode cL_areReferences 234 = .ok (.iload 6, 2) := by decide +kernel
theorem dL_areReferences_236 : decode cL_areReferences 236 = .ok (.iconst 3, 1) := by decide +kernel
theorem dL_areReferences_237 : decode cL_areReferences 237 = .ok (.invokestatic 184, 3) := by decide +kernel
theorem dL_areReferences_240 : decode cL_areReferences 240 = .ok (.iastore, 1) := by decide +kernel
theorem dL_areReferences_241 : decode cL_areReferences 241 = .ok (.aload 5, 2) := by decide +kernel
theorem dL_areReferences_243 : decode cL_areReferences 243 = .ok (.iload 7, 2) := by decide +kernel
theorem dL_areReferences_245 : decode cL_areReferences 245 = .ok (.iconst 1, 1) := by decide +kernel
theorem dL_areReferences_246 : decode cL_areReferences 246 = .ok (.bastore, 1) := by decide +kernel
theorem dL_areReferences_247 : decode cL_areReferences 247 = .ok (.iinc 6 1, 3) := by decide +kernel
theorem dL_areReferences_250 : decode cL_areReferences 250 = .ok (.goto (-128), 3) := by decide +kernel
theorem dL_areReferences_253 : decode cL_areReferences 253 = .ok (.iload_n 2, 1) := by decide +kernel
theorem dL_areReferences_254 : decode cL_areReferences 254 = .ok (.ifCond .eq 15, 3) := by decide +kernel
theorem dL_areReferences_257 : decode cL_areReferences 257 = .ok (.iload_n 3, 1) := by decide +kernel
theorem dL_areReferences_258 : decode cL_areReferences 258 = .ok (.aload_n 0, 1) := by decide +kernel
theorem dL_areReferences_259 : decode cL_areReferences 259 = .ok (.invokevirtual 214, 3) := by decide +kernel
theorem dL_areReferences_262 : decode cL_areReferences 262 = .ok (.if_icmp .ne 7, 3) := by decide +kernel
theorem dL_areReferences_265 : decode cL_areReferences 265 = .ok (.iconst 1, 1) := by decide +kernel
theorem dL_areReferences_266 : decode cL_areReferences 266 = .ok (.goto 4, 3) := by decide +kernel
theorem dL_areReferences_269 : decode cL_areReferences 269 = .ok (.iconst 0, 1) := by decide +kernel
theorem dL_areReferences_270 : decode cL_areReferences 270 = .ok (.ireturn, 1) := by decide +kernel
theorem dL_law_0 : decode cL_law 0 = .ok (.new 16, 3) := by decide +kernel
theorem dL_law_3 : decode cL_law 3 = .ok (.dup, 1) := by decide +kernel
theorem dL_law_4 : decode cL_law 4 = .ok (.invokespecial 220, 3) := by decide +kernel
theorem dL_law_7 : decode cL_law 7 = .ok (.astore_n 1, 1) := by decide +kernel
theorem dL_law_8 : decode cL_law 8 = .ok (.bipush 60, 2) := by decide +kernel
theorem dL_law_10 : decode cL_law 10 = .ok (.anewarray 221, 3) := by decide +kernel
theorem dL_law_13 : decode cL_law 13 = .ok (.astore_n 2, 1) := by decide +kernel
theorem dL_law_14 : decode cL_law 14 = .ok (.iconst 3, 1) := by decide +kernel
theorem dL_law_15 : decode cL_law 15 = .ok (.newarray .int, 2) := by decide +kernel
theorem dL_law_17 : decode cL_law 17 = .ok (.astore_n 3, 1) := by decide +kernel
theorem dL_law_18 : decode cL_law 18 = .ok (.iconst 3, 1) := by decide +kernel
theorem dL_law_19 : decode cL_law 19 = .ok (.newarray .boolean, 2) := by decide +kernel
theorem dL_law_21 : decode cL_law 21 = .ok (.astore 4, 2) := by decide +kernel
theorem dL_law_23 : decode cL_law 23 = .ok (.iconst 1, 1) := by decide +kernel
theorem dL_law_24 : decode cL_law 24 = .ok (.istore 5, 2) := by decide +kernel
theorem dL_law_26 : decode cL_law 26 = .ok (.iconst 0, 1) := by decide +kernel
theorem dL_law_27 : decode cL_law 27 = .ok (.istore 6, 2) := by decide +kernel
theorem dL_law_29 : decode cL_law 29 = .ok (.iload 6, 2) := by decide +kernel
theorem dL_law_31 : decode cL_law 31 = .ok (.bipush 110, 2) := by decide +kernel
theorem dL_law_33 : decode cL_law 33 = .ok (.if_icmp .ge 163, 3) := by decide +kernel
theorem dL_law_36 : decode cL_law 36 = .ok (.iload 5, 2) := by decide +kernel
theorem dL_law_38 : decode cL_law 38 = .ok (.ifCond .eq 158, 3) := by decide +kernel
theorem dL_law_41 : decode cL_law 41 = .ok (.bipush 10, 2) := by decide +kernel
theorem dL_law_43 : decode cL_law 43 = .ok (.bipush 6, 2) := by decide +kernel
theorem dL_law_45 : decode cL_law 45 = .ok (.iload 6, 2) := by decide +kernel
theorem dL_law_47 : decode cL_law 47 = .ok (.imul, 1) := by decide +kernel
theorem dL_law_48 : decode cL_law 48 = .ok (.iadd, 1) := by decide +kernel
theorem dL_law_49 : decode cL_law 49 = .ok (.istore 7, 2) := by decide +kernel
theorem dL_law_51 : decode cL_law 51 = .ok (.aload_n 0, 1) := by decide +kernel
theorem dL_law_52 : decode cL_law 52 = .ok (.iload 7, 2) := by decide +kernel
theorem dL_law_54 : decode cL_law 54 = .ok (.iconst 5, 1) := by decide +kernel
theorem dL_law_55 : decode cL_law 55 = .ok (.iadd, 1) := by decide +kernel
theorem dL_law_56 : decode cL_law 56 = .ok (.iconst 5, 1) := by decide +kernel
theorem dL_law_57 : decode cL_law 57 = .ok (.invokestatic 199, 3) := by decide +kernel
theorem dL_law_60 : decode cL_law 60 = .ok (.istore 8, 2) := by decide +kernel
theorem dL_law_62 : decode cL_law 62 = .ok (.iload 8, 2) := by decide +kernel
theorem dL_law_64 : decode cL_law 64 = .ok (.iconst 3, 1) := by decide +kernel
theorem dL_law_65 : decode cL_law 65 = .ok (.if_icmp .ge 15, 3) := by decide +kernel
theorem dL_law_68 : decode cL_law 68 = .ok (.aload_n 1, 1) := by decide +kernel
theorem dL_law_69 : decode cL_law 69 = .ok (.aload_n 0, 1) := by decide +kernel
theorem dL_law_70 : decode cL_law 70 = .ok (.iload 7, 2) := by decide +kernel
theorem dL_law_72 : decode cL_law 72 = .ok (.aload_n 2, 1) := by decide +kernel
theorem dL_law_73 : decode cL_law 73 = .ok (.aload_n 3, 1) := by decide +kernel
theorem dL_law_74 : decode cL_law 74 = .ok (.invokestatic 223, 3) := by decide +kernel
theorem dL_law_77 : decode cL_law 77 = .ok (.goto 30, 3) := by decide +kernel
theorem dL_law_80 : decode cL_law 80 = .ok (.iload 8, 2) := by decide +kernel
theorem dL_law_82 : decode cL_law 82 = .ok (.iconst 3, 1) := by decide +kernel
theorem dL_law_83 : decode cL_law 83 = .ok (.if_icmp .ne 14, 3) := by decide +kernel
theorem dL_law_86 : decode cL_law 86 = .ok (.aload_n 1, 1) := by decide +kernel
theorem dL_law_87 : decode cL_law 87 = .ok (.aload_n 0, 1) := by decide +kernel
theorem dL_law_88 : decode cL_law 88 = .ok (.iload 7, 2) := by decide +kernel
theorem dL_law_90 : decode cL_law 90 = .ok (.aload_n 3, 1) := by decide +kernel
theorem dL_law_91 : decode cL_law 91 = .ok (.invokestatic 227, 3) := by decide +kernel
theorem dL_law_94 : decode cL_law 94 = .ok (.goto 13, 3) := by decide +kernel
theorem dL_law_97 : decode cL_law 97 = .ok (.aload_n 1, 1) := by decide +kernel
theorem dL_law_98 : decode cL_law 98 = .ok (.aload_n 0, 1) := by decide +kernel
theorem dL_law_99 : decode cL_law 99 = .ok (.iload 7, 2) := by decide +kernel
theorem dL_law_101 : decode cL_law 101 = .ok (.aload_n 3, 1) := by decide +kernel
theorem dL_law_102 : decode cL_law 102 = .ok (.aload 4, 2) := by decide +kernel
theorem dL_law_104 : decode cL_law 104 = .ok (.invokestatic 231, 3) := by decide +kernel
theorem dL_law_107 : decode cL_law 107 = .ok (.istore 5, 2) := by decide +kernel
theorem dL_law_109 : decode cL_law 109 = .ok (.iload 6, 2) := by decide +kernel
theorem dL_law_111 : decode cL_law 111 = .ok (.bipush 22, 2) := by decide +kernel
theorem dL_law_113 : decode cL_law 113 = .ok (.irem, 1) := by decide +kernel
theorem dL_law_114 : decode cL_law 114 = .ok (.bipush 21, 2) := by decide +kernel
theorem dL_law_116 : decode cL_law 116 = .ok (.if_icmp .ne 74, 3) := by decide +kernel
theorem dL_law_119 : decode cL_law 119 = .ok (.iconst 0, 1) := by decide +kernel
theorem dL_law_120 : decode cL_law 120 = .ok (.istore 9, 2) := by decide +kernel
theorem dL_law_122 : decode cL_law 122 = .ok (.iload 9, 2) := by decide +kernel
theorem dL_law_124 : decode cL_law 124 = .ok (.aload_n 3, 1) := by decide +kernel
theorem dL_law_125 : decode cL_law 125 = .ok (.iconst 0, 1) := by decide +kernel
theorem dL_law_126 : decode cL_law 126 = .ok (.iaload, 1) := by decide +kernel
theorem dL_law_127 : decode cL_law 127 = .ok (.if_icmp .ge 26, 3) := by decide +kernel
theorem dL_law_130 : decode cL_law 130 = .ok (.iload 5, 2) := by decide +kernel
theorem dL_law_132 : decode cL_law 132 = .ok (.ifCond .eq 21, 3) := by decide +kernel
theorem dL_law_135 : decode cL_law 135 = .ok (.aload_n 1, 1) := by decide +kernel
theorem dL_law_136 : decode cL_law 136 = .ok (.iload 9, 2) := by decide +kernel
theorem dL_law_138 : decode cL_law 138 = .ok (.aload_n 2, 1) := by decide +kernel
theorem dL_law_139 : decode cL_law 139 = .ok (.iload 9, 2) := by decide +kernel
theorem dL_law_141 : decode cL_law 141 = .ok (.aaload, 1) := by decide +kernel
theorem dL_law_142 : decode cL_law 142 = .ok (.invokestatic 235, 3) := by decide +kernel
theorem dL_law_145 : decode cL_law 145 = .ok (.istore 5, 2) := by decide +kernel
theorem dL_law_147 : decode cL_law 147 = .ok (.iinc 9 1, 3) := by decide +kernel
theorem dL_law_150 : decode cL_law 150 = .ok (.goto (-28), 3) := by decide +kernel
theorem dL_law_153 : decode cL_law 153 = .ok (.iload 5, 2) := by decide +kernel
theorem dL_law_155 : decode cL_law 155 = .ok (.ifCond .eq 32, 3) := by decide +kernel
theorem dL_law_158 : decode cL_law 158 = .ok (.aload_n 1, 1) := by decide +kernel
theorem dL_law_159 : decode cL_law 159 = .ok (.aload_n 3, 1) := by decide +kernel
theorem dL_law_160 : decode cL_law 160 = .ok (.iconst 2, 1) := by decide +kernel
theorem dL_law_161 : decode cL_law 161 = .ok (.iaload, 1) := by decide +kernel
theorem dL_law_162 : decode cL_law 162 = .ok (.invokestatic 239, 3) := by decide +kernel
theorem dL_law_165 : decode cL_law 165 = .ok (.ifCond .eq 22, 3) := by decide +kernel
theorem dL_law_168 : decode cL_law 168 = .ok (.aload_n 1, 1) := by decide +kernel
theorem dL_law_169 : decode cL_law 169 = .ok (.iconst 4, 1) := by decide +kernel
theorem dL_law_170 : decode cL_law 170 = .ok (.aload_n 3, 1) := by decide +kernel
theorem dL_law_171 : decode cL_law 171 = .ok (.iconst 0, 1) := by decide +kernel
theorem dL_law_172 : decode cL_law 172 = .ok (.iaload, 1) := by decide +kernel
theorem dL_law_173 : decode cL_law 173 = .ok (.iconst 0, 1) := by decide +kernel
theorem dL_law_174 : decode cL_law 174 = .ok (.invokestatic 184, 3) := by decide +kernel
theorem dL_law_177 : decode cL_law 177 = .ok (.sipush (-20001), 3) := by decide +kernel
theorem dL_law_180 : decode cL_law 180 = .ok (.if_icmp .ne 7, 3) := by decide +kernel
theorem dL_law_183 : decode cL_law 183 = .ok (.iconst 1, 1) := by decide +kernel
theorem dL_law_184 : decode cL_law 184 = .ok (.goto 4, 3) := by decide +kernel
theorem dL_law_187 : decode cL_law 187 = .ok (.iconst 0, 1) := by decide +kernel
theorem dL_law_188 : decode cL_law 188 = .ok (.istore 5, 2) := by decide +kernel
theorem dL_law_190 : decode cL_law 190 = .ok (.iinc 6 1, 3) := by decide +kernel
theorem dL_law_193 : decode cL_law 193 = .ok (.goto (-164), 3) := by decide +kernel
theorem dL_law_196 : decode cL_law 196 = .ok (.iconst 0, 1) := by decide +kernel
theorem dL_law_197 : decode cL_law 197 = .ok (.istore 6, 2) := by decide +kernel
theorem dL_law_199 : decode cL_law 199 = .ok (.iload 6, 2) := by decide +kernel
theorem dL_law_201 : decode cL_law 201 = .ok (.aload_n 3, 1) := by decide +kernel
theorem dL_law_202 : decode cL_law 202 = .ok (.iconst 0, 1) := by decide +kernel
theorem dL_law_203 : decode cL_law 203 = .ok (.iaload, 1) := by decide +kernel
theorem dL_law_204 : decode cL_law 204 = .ok (.if_icmp .ge 233, 3) := by decide +kernel
theorem dL_law_207 : decode cL_law 207 = .ok (.iload 5, 2) := by decide +kernel
theorem dL_law_209 : decode cL_law 209 = .ok (.ifCond .eq 228, 3) := by decide +kernel
theorem dL_law_212 : decode cL_law 212 = .ok (.aload_n 0, 1) := by decide +kernel
theorem dL_law_213 : decode cL_law 213 = .ok (.sipush 800, 3) := by decide +kernel
theorem dL_law_216 : decode cL_law 216 = .ok (.iload 6, 2) := by decide +kernel
theorem dL_law_218 : decode cL_law 218 = .ok (.iadd, 1) := by decide +kernel
theorem dL_law_219 : decode cL_law 219 = .ok (.aload_n 3, 1) := by decide +kernel
theorem dL_law_220 : decode cL_law 220 = .ok (.iconst 0, 1) := by decide +kernel
theorem dL_law_221 : decode cL_law 221 = .ok (.iaload, 1) := by decide +kernel
theorem dL_law_222 : decode cL_law 222 = .ok (.invokestatic 199, 3) := by decide +kernel
theorem dL_law_225 : decode cL_law 225 = .ok (.istore 7, 2) := by decide +kernel
theorem dL_law_227 : decode cL_law 227 = .ok (.aload_n 2, 1) := by decide +kernel
theorem dL_law_228 : decode cL_law 228 = .ok (.iload 6, 2) := by decide +kernel
theorem dL_law_230 : decode cL_law 230 = .ok (.aaload, 1) := by decide +kernel
theorem dL_law_231 : decode cL_law 231 = .ok (.iconst 0, 1) := by decide +kernel
theorem dL_law_232 : decode cL_law 232 = .ok (.iaload, 1) := by decide +kernel
theorem dL_law_233 : decode cL_law 233 = .ok (.bipush 120, 2) := by decide +kernel
theorem dL_law_235 : decode cL_law 235 = .ok (.if_icmp .eq 14, 3) := by decide +kernel
theorem dL_law_238 : decode cL_law 238 = .ok (.aload_n 2, 1) := by decide +kernel
theorem dL_law_239 : decode cL_law 239 = .ok (.iload 7, 2) := by decide +kernel
theorem dL_law_241 : decode cL_law 241 = .ok (.aaload, 1) := by decide +kernel
theorem dL_law_242 : decode cL_law 242 = .ok (.iconst 0, 1) := by decide +kernel
theorem dL_law_243 : decode cL_law 243 = .ok (.iaload, 1) := by decide +kernel
theorem dL_law_244 : decode cL_law 244 = .ok (.bipush 120, 2) := by decide +kernel
theorem dL_law_246 : decode cL_law 246 = .ok (.if_icmp .ne 7, 3) := by decide +kernel
theorem dL_law_249 : decode cL_law 249 = .ok (.iconst 1, 1) := by decide +kernel
theorem dL_law_250 : decode cL_law 250 = .ok (.goto 4, 3) := by decide +kernel
theorem dL_law_253 : decode cL_law 253 = .ok (.iconst 0, 1) := by decide +kernel
theorem dL_law_254 : decode cL_law 254 = .ok (.istore 8, 2) := by decide +kernel
theorem dL_law_256 : decode cL_law 256 = .ok (.aload_n 2, 1) := by decide +kernel
theorem dL_law_257 : decode cL_law 257 = .ok (.iload 6, 2) := by decide +kernel
theorem dL_law_259 : decode cL_law 259 = .ok (.aaload, 1) := by decide +kernel
theorem dL_law_260 : decode cL_law 260 = .ok (.iconst 0, 1) := by decide +kernel
theorem dL_law_261 : decode cL_law 261 = .ok (.iaload, 1) := by decide +kernel
theorem dL_law_262 : decode cL_law 262 = .ok (.bipush 109, 2) := by decide +kernel
theorem dL_law_264 : decode cL_law 264 = .ok (.if_icmp .ne 7, 3) := by decide +kernel
theorem dL_law_267 : decode cL_law 267 = .ok (.iconst 1, 1) := by decide +kernel
theorem dL_law_268 : decode cL_law 268 = .ok (.goto 4, 3) := by decide +kernel
theorem dL_law_271 : decode cL_law 271 = .ok (.iconst 0, 1) := by decide +kernel
theorem dL_law_272 : decode cL_law 272 = .ok (.aload_n 2, 1) := by decide +kernel
theorem dL_law_273 : decode cL_law 273 = .ok (.iload 7, 2) := by decide +kernel
theorem dL_law_275 : decode cL_law 275 = .ok (.aaload, 1) := by decide +kernel
theorem dL_law_276 : decode cL_law 276 = .ok (.iconst 0, 1) := by decide +kernel
theorem dL_law_277 : decode cL_law 277 = .ok (.iaload, 1) := by decide +kernel
theorem dL_law_278 : decode cL_law 278 = .ok (.bipush 109, 2) := by decide +kernel
theorem dL_law_280 : decode cL_law 280 = .ok (.if_icmp .ne 7, 3) := by decide +kernel
theorem dL_law_283 : decode cL_law 283 = .ok (.iconst 1, 1) := by decide +kernel
theorem dL_law_284 : decode cL_law 284 = .ok (.goto 4, 3) := by decide +kernel
theorem dL_law_287 : decode cL_law 287 = .ok (.iconst 0, 1) := by decide +kernel
theorem dL_law_288 : decode cL_law 288 = .ok (.if_icmp .ne 22, 3) := by decide +kernel
theorem dL_law_291 : decode cL_law 291 = .ok (.aload_n 2, 1) := by decide +kernel
theorem dL_law_292 : decode cL_law 292 = .ok (.iload 6, 2) := by decide +kernel
theorem dL_law_294 : decode cL_law 294 = .ok (.aaload, 1) := by decide +kernel
theorem dL_law_295 : decode cL_law 295 = .ok (.iconst 1, 1) := by decide +kernel
theorem dL_law_296 : decode cL_law 296 = .ok (.iaload, 1) := by decide +kernel
theorem dL_law_297 : decode cL_law 297 = .ok (.aload_n 2, 1) := by decide +kernel
theorem dL_law_298 : decode cL_law 298 = .ok (.iload 7, 2) := by decide +kernel
theorem dL_law_300 : decode cL_law 300 = .ok (.aaload, 1) := by decide +kernel
theorem dL_law_301 : decode cL_law 301 = .ok (.iconst 1, 1) := by decide +kernel
theorem dL_law_302 : decode cL_law 302 = .ok (.iaload, 1) := by decide +kernel
theorem dL_law_303 : decode cL_law 303 = .ok (.if_icmp .ne 7, 3) := by decide +kernel
theorem dL_law_306 : decode cL_law 306 = .ok (.iconst 1, 1) := by decide +kernel
theorem dL_law_307 : decode cL_law 307 = .ok (.goto 4, 3) := by decide +kernel
theorem dL_law_310 : decode cL_law 310 = .ok (.iconst 0, 1) := by decide +kernel
theorem dL_law_311 : decode cL_law 311 = .ok (.istore 9, 2) := by decide +kernel
theorem dL_law_313 : decode cL_law 313 = .ok (.iconst 0, 1) := by decide +kernel
theorem dL_law_314 : decode cL_law 314 = .ok (.istore 10, 2) := by decide +kernel
theorem dL_law_316 : decode cL_law 316 = .ok (.iload 10, 2) := by decide +kernel
theorem dL_law_318 : decode cL_law 318 = .ok (.aload_n 2, 1) := by decide +kernel
theorem dL_law_319 : decode cL_law 319 = .ok (.iload 6, 2) := by decide +kernel
theorem dL_law_321 : decode cL_law 321 = .ok (.aaload, 1) := by decide +kernel
theorem dL_law_322 : decode cL_law 322 = .ok (.iconst 0, 1) := by decide +kernel
theorem dL_law_323 : decode cL_law 323 = .ok (.iaload, 1) := by decide +kernel
theorem dL_law_324 : decode cL_law 324 = .ok (.bipush 109, 2) := by decide +kernel
theorem dL_law_326 : decode cL_law 326 = .ok (.if_icmp .ne 8, 3) := by decide +kernel
theorem dL_law_329 : decode cL_law 329 = .ok (.bipush 40, 2) := by decide +kernel
theorem dL_law_331 : decode cL_law 331 = .ok (.goto 9, 3) := by decide +kernel
theorem dL_law_334 : decode cL_law 334 = .ok (.aload_n 2, 1) := by decide +kernel
theorem dL_law_335 : decode cL_law 335 = .ok (.iload 6, 2) := by decide +kernel
theorem dL_law_337 : decode cL_law 337 = .ok (.aaload, 1) := by decide +kernel
theorem dL_law_338 : decode cL_law 338 = .ok (.iconst 1, 1) := by decide +kernel
theorem dL_law_339 : decode cL_law 339 = .ok (.iaload, 1) := by decide +kernel
theorem dL_law_340 : decode cL_law 340 = .ok (.if_icmp .ge 42, 3) := by decide +kernel
theorem dL_law_343 : decode cL_law 343 = .ok (.iload 9, 2) := by decide +kernel
theorem dL_law_345 : decode cL_law 345 = .ok (.ifCond .eq 37, 3) := by decide +kernel
theorem dL_law_348 : decode cL_law 348 = .ok (.aload_n 2, 1) := by decide +kernel
theorem dL_law_349 : decode cL_law 349 = .ok (.iload 6, 2) := by decide +kernel
theorem dL_law_351 : decode cL_law 351 = .ok (.aaload, 1) := by decide +kernel
theorem dL_law_352 : decode cL_law 352 = .ok (.iconst 2, 1) := by decide +kernel
theorem dL_law_353 : decode cL_law 353 = .ok (.iload 10, 2) := by decide +kernel
theorem dL_law_355 : decode cL_law 355 = .ok (.iadd, 1) := by decide +kernel
theorem dL_law_356 : decode cL_law 356 = .ok (.iaload, 1) := by decide +kernel
theorem dL_law_357 : decode cL_law 357 = .ok (.aload_n 2, 1) := by decide +kernel
theorem dL_law_358 : decode cL_law 358 = .ok (.iload 7, 2) := by decide +kernel
theorem dL_law_360 : decode cL_law 360 = .ok (.aaload, 1) := by decide +kernel
theorem dL_law_361 : decode cL_law 361 = .ok (.iconst 2, 1) := by decide +kernel
theorem dL_law_362 : decode cL_law 362 = .ok (.iload 10, 2) := by decide +kernel
theorem dL_law_364 : decode cL_law 364 = .ok (.iadd, 1) := by decide +kernel
theorem dL_law_365 : decode cL_law 365 = .ok (.iaload, 1) := by decide +kernel
theorem dL_law_366 : decode cL_law 366 = .ok (.if_icmp .ne 7, 3) := by decide +kernel
theorem dL_law_369 : decode cL_law 369 = .ok (.iconst 1, 1) := by decide +kernel
theorem dL_law_370 : decode cL_law 370 = .ok (.goto 4, 3) := by decide +kernel
theorem dL_law_373 : decode cL_law 373 = .ok (.iconst 0, 1) := by decide +kernel
theorem dL_law_374 : decode cL_law 374 = .ok (.istore 9, 2) := by decide +kernel
theorem dL_law_376 : decode cL_law 376 = .ok (.iinc 10 1, 3) := by decide +kernel
theorem dL_law_379 : decode cL_law 379 = .ok (.goto (-63), 3) := by decide +kernel
theorem dL_law_382 : decode cL_law 382 = .ok (.aload_n 1, 1) := by decide +kernel
theorem dL_law_383 : decode cL_law 383 = .ok (.iload 6, 2) := by decide +kernel
theorem dL_law_385 : decode cL_law 385 = .ok (.aload_n 2, 1) := by decide +kernel
theorem dL_law_386 : decode cL_law 386 = .ok (.iload 6, 2) := by decide +kernel
theorem dL_law_388 : decode cL_law 388 = .ok (.aaload, 1) := by decide +kernel
theorem dL_law_389 : decode cL_law 389 = .ok (.invokestatic 235, 3) := by decide +kernel
theorem dL_law_392 : decode cL_law 392 = .ok (.ifCond .eq 36, 3) := by decide +kernel
theorem dL_law_395 : decode cL_law 395 = .ok (.aload_n 1, 1) := by decide +kernel
theorem dL_law_396 : decode cL_law 396 = .ok (.bipush 7, 2) := by decide +kernel
theorem dL_law_398 : decode cL_law 398 = .ok (.iload 6, 2) := by decide +kernel
theorem dL_law_400 : decode cL_law 400 = .ok (.iload 7, 2) := by decide +kernel
theorem dL_law_402 : decode cL_law 402 = .ok (.invokestatic 184, 3) := by decide +kernel
theorem dL_law_405 : decode cL_law 405 = .ok (.iload 8, 2) := by decide +kernel
theorem dL_law_407 : decode cL_law 407 = .ok (.ifCond .eq 9, 3) := by decide +kernel
theorem dL_law_410 : decode cL_law 410 = .ok (.sipush (-20005), 3) := by decide +kernel
theorem dL_law_413 : decode cL_law 413 = .ok (.goto 8, 3) := by decide +kernel
theorem dL_law_416 : decode cL_law 416 = .ok (.iload 9, 2) := by decide +kernel
theorem dL_law_418 : decode cL_law 418 = .ok (.invokestatic 83, 3) := by decide +kernel
theorem dL_law_421 : decode cL_law 421 = .ok (.if_icmp .ne 7, 3) := by decide +kernel
theorem dL_law_424 : decode cL_law 424 = .ok (.iconst 1, 1) := by decide +kernel
theorem dL_law_425 : decode cL_law 425 = .ok (.goto 4, 3) := by decide +kernel
theorem dL_law_428 : decode cL_law 428 = .ok (.iconst 0, 1) := by decide +kernel
theorem dL_law_429 : decode cL_law 429 = .ok (.istore 5, 2) := by decide +kernel
theorem dL_law_431 : decode cL_law 431 = .ok (.iinc 6 1, 3) := by decide +kernel
theorem dL_law_434 : decode cL_law 434 = .ok (.goto (-235), 3) := by decide +kernel
theorem dL_law_437 : decode cL_law 437 = .ok (.iload 5, 2) := by decide +kernel
theorem dL_law_439 : decode cL_law 439 = .ok (.ifCond .eq 31, 3) := by decide +kernel
theorem dL_law_442 : decode cL_law 442 = .ok (.aload_n 3, 1) := by decide +kernel
theorem dL_law_443 : decode cL_law 443 = .ok (.iconst 0, 1) := by decide +kernel
theorem dL_law_444 : decode cL_law 444 = .ok (.iaload, 1) := by decide +kernel
theorem dL_law_445 : decode cL_law 445 = .ok (.ifCond .eq 21, 3) := by decide +kernel
theorem dL_law_448 : decode cL_law 448 = .ok (.aload_n 1, 1) := by decide +kernel
theorem dL_law_449 : decode cL_law 449 = .ok (.invokevirtual 243, 3) := by decide +kernel
theorem dL_law_452 : decode cL_law 452 = .ok (.fconst 0, 1) := by decide +kernel
theorem dL_law_453 : decode cL_law 453 = .ok (.fcmp .l, 1) := by decide +kernel
theorem dL_law_454 : decode cL_law 454 = .ok (.ifCond .le 16, 3) := by decide +kernel
theorem dL_law_457 : decode cL_law 457 = .ok (.aload_n 1, 1) := by decide +kernel
theorem dL_law_458 : decode cL_law 458 = .ok (.invokevirtual 243, 3) := by decide +kernel
theorem dL_law_461 : decode cL_law 461 = .ok (.fconst 1, 1) := by decide +kernel
theorem dL_law_462 : decode cL_law 462 = .ok (.fcmp .g, 1) := by decide +kernel
theorem dL_law_463 : decode cL_law 463 = .ok (.ifCond .gt 7, 3) := by decide +kernel
theorem dL_law_466 : decode cL_law 466 = .ok (.iconst 1, 1) := by decide +kernel
theorem dL_law_467 : decode cL_law 467 = .ok (.goto 4, 3) := by decide +kernel
theorem dL_law_470 : decode cL_law 470 = .ok (.iconst 0, 1) := by decide +kernel
theorem dL_law_471 : decode cL_law 471 = .ok (.ireturn, 1) := by decide +kernel
