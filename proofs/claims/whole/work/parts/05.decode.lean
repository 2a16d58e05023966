theorem d_La_cell_0 : decode b_La_cell 0 = .ok (.iload_n 1, 1) := by decide +kernel
theorem d_La_cell_1 : decode b_La_cell 1 = .ok (.aload_n 0, 1) := by decide +kernel
theorem d_La_cell_2 : decode b_La_cell 2 = .ok (.arraylength, 1) := by decide +kernel
theorem d_La_cell_3 : decode b_La_cell 3 = .ok (.if_icmp .ge 9, 3) := by decide +kernel
theorem d_La_cell_6 : decode b_La_cell 6 = .ok (.aload_n 0, 1) := by decide +kernel
theorem d_La_cell_7 : decode b_La_cell 7 = .ok (.iload_n 1, 1) := by decide +kernel
theorem d_La_cell_8 : decode b_La_cell 8 = .ok (.iaload, 1) := by decide +kernel
theorem d_La_cell_9 : decode b_La_cell 9 = .ok (.goto 4, 3) := by decide +kernel
theorem d_La_cell_12 : decode b_La_cell 12 = .ok (.iconst 0, 1) := by decide +kernel
theorem d_La_cell_13 : decode b_La_cell 13 = .ok (.ireturn, 1) := by decide +kernel
theorem d_La_divide_0 : decode b_La_divide 0 = .ok (.aload 6, 2) := by decide +kernel
theorem d_La_divide_2 : decode b_La_divide 2 = .ok (.iconst 0, 1) := by decide +kernel
theorem d_La_divide_3 : decode b_La_divide 3 = .ok (.aload_n 0, 1) := by decide +kernel
theorem d_La_divide_4 : decode b_La_divide 4 = .ok (.iload_n 1, 1) := by decide +kernel
theorem d_La_divide_5 : decode b_La_divide 5 = .ok (.lload_n 2, 1) := by decide +kernel
theorem d_La_divide_6 : decode b_La_divide 6 = .ok (.lload 4, 2) := by decide +kernel
theorem d_La_divide_8 : decode b_La_divide 8 = .ok (.invokevirtual 7, 3) := by decide +kernel
theorem d_La_divide_11 : decode b_La_divide 11 = .ok (.lastore, 1) := by decide +kernel
theorem d_La_divide_12 : decode b_La_divide 12 = .ok (.goto 7, 3) := by decide +kernel
theorem d_La_divide_15 : decode b_La_divide 15 = .ok (.astore 7, 2) := by decide +kernel
theorem d_La_divide_17 : decode b_La_divide 17 = .ok (.iconst 1, 1) := by decide +kernel
theorem d_La_divide_18 : decode b_La_divide 18 = .ok (.ireturn, 1) := by decide +kernel
theorem d_La_divide_19 : decode b_La_divide 19 = .ok (.iconst 0, 1) := by decide +kernel
theorem d_La_divide_20 : decode b_La_divide 20 = .ok (.ireturn, 1) := by decide +kernel
theorem d_La_handle_0 : decode b_La_handle 0 = .ok (.aload_n 2, 1) := by decide +kernel
theorem d_La_handle_1 : decode b_La_handle 1 = .ok (.iconst 0, 1) := by decide +kernel
theorem d_La_handle_2 : decode b_La_handle 2 = .ok (.aload_n 0, 1) := by decide +kernel
theorem d_La_handle_3 : decode b_La_handle 3 = .ok (.iload_n 1, 1) := by decide +kernel
theorem d_La_handle_4 : decode b_La_handle 4 = .ok (.invokevirtual 15, 3) := by decide +kernel
theorem d_La_handle_7 : decode b_La_handle 7 = .ok (.i2l, 1) := by decide +kernel
theorem d_La_handle_8 : decode b_La_handle 8 = .ok (.lastore, 1) := by decide +kernel
theorem d_La_handle_9 : decode b_La_handle 9 = .ok (.goto 6, 3) := by decide +kernel
theorem d_La_handle_12 : decode b_La_handle 12 = .ok (.astore_n 3, 1) := by decide +kernel
theorem d_La_handle_13 : decode b_La_handle 13 = .ok (.iconst 1, 1) := by decide +kernel
theorem d_La_handle_14 : decode b_La_handle 14 = .ok (.ireturn, 1) := by decide +kernel
theorem d_La_handle_15 : decode b_La_handle 15 = .ok (.iconst 0, 1) := by decide +kernel
theorem d_La_handle_16 : decode b_La_handle 16 = .ok (.ireturn, 1) := by decide +kernel
theorem d_La_law_0 : decode b_La_law 0 = .ok (.new 8, 3) := by decide +kernel
theorem d_La_law_3 : decode b_La_law 3 = .ok (.dup, 1) := by decide +kernel
theorem d_La_law_4 : decode b_La_law 4 = .ok (.aload_n 0, 1) := by decide +kernel
theorem d_La_law_5 : decode b_La_law 5 = .ok (.iconst 0, 1) := by decide +kernel
theorem d_La_law_6 : decode b_La_law 6 = .ok (.invokestatic 21, 3) := by decide +kernel
theorem d_La_law_9 : decode b_La_law 9 = .ok (.invokespecial 27, 3) := by decide +kernel
theorem d_La_law_12 : decode b_La_law 12 = .ok (.astore_n 1, 1) := by decide +kernel
theorem d_La_law_13 : decode b_La_law 13 = .ok (.new 30, 3) := by decide +kernel
theorem d_La_law_16 : decode b_La_law 16 = .ok (.dup, 1) := by decide +kernel
theorem d_La_law_17 : decode b_La_law 17 = .ok (.aload_n 0, 1) := by decide +kernel
theorem d_La_law_18 : decode b_La_law 18 = .ok (.iconst 0, 1) := by decide +kernel
theorem d_La_law_19 : decode b_La_law 19 = .ok (.invokestatic 21, 3) := by decide +kernel
theorem d_La_law_22 : decode b_La_law 22 = .ok (.invokespecial 32, 3) := by decide +kernel
theorem d_La_law_25 : decode b_La_law 25 = .ok (.astore_n 2, 1) := by decide +kernel
theorem d_La_law_26 : decode b_La_law 26 = .ok (.iconst 1, 1) := by decide +kernel
theorem d_La_law_27 : decode b_La_law 27 = .ok (.newarray .long, 2) := by decide +kernel
theorem d_La_law_29 : decode b_La_law 29 = .ok (.astore_n 3, 1) := by decide +kernel
theorem d_La_law_30 : decode b_La_law 30 = .ok (.iconst 1, 1) := by decide +kernel
theorem d_La_law_31 : decode b_La_law 31 = .ok (.istore 4, 2) := by decide +kernel
theorem d_La_law_33 : decode b_La_law 33 = .ok (.iload 4, 2) := by decide +kernel
theorem d_La_law_35 : decode b_La_law 35 = .ok (.aload_n 0, 1) := by decide +kernel
theorem d_La_law_36 : decode b_La_law 36 = .ok (.arraylength, 1) := by decide +kernel
theorem d_La_law_37 : decode b_La_law 37 = .ok (.bipush 6, 2) := by decide +kernel
theorem d_La_law_39 : decode b_La_law 39 = .ok (.isub, 1) := by decide +kernel
theorem d_La_law_40 : decode b_La_law 40 = .ok (.if_icmp .gt 844, 3) := by decide +kernel
theorem d_La_law_43 : decode b_La_law 43 = .ok (.aload_n 0, 1) := by decide +kernel
theorem d_La_law_44 : decode b_La_law 44 = .ok (.iload 4, 2) := by decide +kernel
theorem d_La_law_46 : decode b_La_law 46 = .ok (.iaload, 1) := by decide +kernel
theorem d_La_law_47 : decode b_La_law 47 = .ok (.bipush 15, 2) := by decide +kernel
theorem d_La_law_49 : decode b_La_law 49 = .ok (.iand, 1) := by decide +kernel
theorem d_La_law_50 : decode b_La_law 50 = .ok (.tableswitch 828 0 14 #[74, 123, 204, 285, 354, 379, 416, 441, 467, 492, 529, 555, 592, 629, 772], 74) := by decide +kernel
theorem d_La_law_124 : decode b_La_law 124 = .ok (.aload_n 1, 1) := by decide +kernel
theorem d_La_law_125 : decode b_La_law 125 = .ok (.aload_n 0, 1) := by decide +kernel
theorem d_La_law_126 : decode b_La_law 126 = .ok (.iload 4, 2) := by decide +kernel
theorem d_La_law_128 : decode b_La_law 128 = .ok (.iconst 1, 1) := by decide +kernel
theorem d_La_law_129 : decode b_La_law 129 = .ok (.iadd, 1) := by decide +kernel
theorem d_La_law_130 : decode b_La_law 130 = .ok (.iaload, 1) := by decide +kernel
theorem d_La_law_131 : decode b_La_law 131 = .ok (.aload_n 0, 1) := by decide +kernel
theorem d_La_law_132 : decode b_La_law 132 = .ok (.iload 4, 2) := by decide +kernel
theorem d_La_law_134 : decode b_La_law 134 = .ok (.iconst 2, 1) := by decide +kernel
theorem d_La_law_135 : decode b_La_law 135 = .ok (.iadd, 1) := by decide +kernel
theorem d_La_law_136 : decode b_La_law 136 = .ok (.iaload, 1) := by decide +kernel
theorem d_La_law_137 : decode b_La_law 137 = .ok (.aload_n 0, 1) := by decide +kernel
theorem d_La_law_138 : decode b_La_law 138 = .ok (.iload 4, 2) := by decide +kernel
theorem d_La_law_140 : decode b_La_law 140 = .ok (.iconst 3, 1) := by decide +kernel
theorem d_La_law_141 : decode b_La_law 141 = .ok (.iadd, 1) := by decide +kernel
theorem d_La_law_142 : decode b_La_law 142 = .ok (.iaload, 1) := by decide +kernel
theorem d_La_law_143 : decode b_La_law 143 = .ok (.invokevirtual 33, 3) := by decide +kernel
theorem d_La_law_146 : decode b_La_law 146 = .ok (.aload_n 2, 1) := by decide +kernel
theorem d_La_law_147 : decode b_La_law 147 = .ok (.aload_n 0, 1) := by decide +kernel
theorem d_La_law_148 : decode b_La_law 148 = .ok (.iload 4, 2) := by decide +kernel
theorem d_La_law_150 : decode b_La_law 150 = .ok (.iconst 1, 1) := by decide +kernel
theorem d_La_law_151 : decode b_La_law 151 = .ok (.iadd, 1) := by decide +kernel
theorem d_La_law_152 : decode b_La_law 152 = .ok (.iaload, 1) := by decide +kernel
theorem d_La_law_153 : decode b_La_law 153 = .ok (.aload_n 0, 1) := by decide +kernel
theorem d_La_law_154 : decode b_La_law 154 = .ok (.iload 4, 2) := by decide +kernel
theorem d_La_law_156 : decode b_La_law 156 = .ok (.iconst 2, 1) := by decide +kernel
theorem d_La_law_157 : decode b_La_law 157 = .ok (.iadd, 1) := by decide +kernel
theorem d_La_law_158 : decode b_La_law 158 = .ok (.iaload, 1) := by decide +kernel
theorem d_La_law_159 : decode b_La_law 159 = .ok (.aload_n 0, 1) := by decide +kernel
theorem d_La_law_160 : decode b_La_law 160 = .ok (.iload 4, 2) := by decide +kernel
theorem d_La_law_162 : decode b_La_law 162 = .ok (.iconst 3, 1) := by decide +kernel
theorem d_La_law_163 : decode b_La_law 163 = .ok (.iadd, 1) := by decide +kernel
theorem d_La_law_164 : decode b_La_law 164 = .ok (.iaload, 1) := by decide +kernel
theorem d_La_law_165 : decode b_La_law 165 = .ok (.invokevirtual 37, 3) := by decide +kernel
theorem d_La_law_168 : decode b_La_law 168 = .ok (.if_icmp .eq 710, 3) := by decide +kernel
theorem d_La_law_171 : decode b_La_law 171 = .ok (.iconst 0, 1) := by decide +kernel
theorem d_La_law_172 : decode b_La_law 172 = .ok (.ireturn, 1) := by decide +kernel
theorem d_La_law_173 : decode b_La_law 173 = .ok (.aload_n 1, 1) := by decide +kernel
theorem d_La_law_174 : decode b_La_law 174 = .ok (.aload_n 0, 1) := by decide +kernel
theorem d_La_law_175 : decode b_La_law 175 = .ok (.iload 4, 2) := by decide +kernel
theorem d_La_law_177 : decode b_La_law 177 = .ok (.iconst 1, 1) := by decide +kernel
theorem d_La_law_178 : decode b_La_law 178 = .ok (.iadd, 1) := by decide +kernel
theorem d_La_law_179 : decode b_La_law 179 = .ok (.iaload, 1) := by decide +kernel
theorem d_La_law_180 : decode b_La_law 180 = .ok (.aload_n 0, 1) := by decide +kernel
theorem d_La_law_181 : decode b_La_law 181 = .ok (.iload 4, 2) := by decide +kernel
theorem d_La_law_183 : decode b_La_law 183 = .ok (.iconst 2, 1) := by decide +kernel
theorem d_La_law_184 : decode b_La_law 184 = .ok (.iadd, 1) := by decide +kernel
theorem d_La_law_185 : decode b_La_law 185 = .ok (.iaload, 1) := by decide +kernel
theorem d_La_law_186 : decode b_La_law 186 = .ok (.aload_n 0, 1) := by decide +kernel
theorem d_La_law_187 : decode b_La_law 187 = .ok (.iload 4, 2) := by decide +kernel
theorem d_La_law_189 : decode b_La_law 189 = .ok (.iconst 3, 1) := by decide +kernel
theorem d_La_law_190 : decode b_La_law 190 = .ok (.iadd, 1) := by decide +kernel
theorem d_La_law_191 : decode b_La_law 191 = .ok (.iaload, 1) := by decide +kernel
theorem d_La_law_192 : decode b_La_law 192 = .ok (.i2l, 1) := by decide +kernel
theorem d_La_law_193 : decode b_La_law 193 = .ok (.bipush 32, 2) := by decide +kernel
theorem d_La_law_195 : decode b_La_law 195 = .ok (.lshl, 1) := by decide +kernel
theorem d_La_law_196 : decode b_La_law 196 = .ok (.aload_n 0, 1) := by decide +kernel
theorem d_La_law_197 : decode b_La_law 197 = .ok (.iload 4, 2) := by decide +kernel
theorem d_La_law_199 : decode b_La_law 199 = .ok (.iconst 4, 1) := by decide +kernel
theorem d_La_law_200 : decode b_La_law 200 = .ok (.iadd, 1) := by decide +kernel
theorem d_La_law_201 : decode b_La_law 201 = .ok (.iaload, 1) := by decide +kernel
theorem d_La_law_202 : decode b_La_law 202 = .ok (.i2l, 1) := by decide +kernel
theorem d_La_law_203 : decode b_La_law 203 = .ok (.ldc2_w 38, 3) := by decide +kernel
theorem d_La_law_206 : decode b_La_law 206 = .ok (.land, 1) := by decide +kernel
theorem d_La_law_207 : decode b_La_law 207 = .ok (.lor, 1) := by decide +kernel
theorem d_La_law_208 : decode b_La_law 208 = .ok (.invokevirtual 40, 3) := by decide +kernel
theorem d_La_law_211 : decode b_La_law 211 = .ok (.aload_n 2, 1) := by decide +kernel
theorem d_La_law_212 : decode b_La_law 212 = .ok (.aload_n 0, 1) := by decide +kernel
theorem d_La_law_213 : decode b_La_law 213 = .ok (.iload 4, 2) := by decide +kernel
theorem d_La_law_215 : decode b_La_law 215 = .ok (.iconst 1, 1) := by decide +kernel
theorem d_La_law_216 : decode b_La_law 216 = .ok (.iadd, 1) := by decide +kernel
theorem d_La_law_217 : decode b_La_law 217 = .ok (.iaload, 1) := by decide +kernel
theorem d_La_law_218 : decode b_La_law 218 = .ok (.aload_n 0, 1) := by decide +kernel
theorem d_La_law_219 : decode b_La_law 219 = .ok (.iload 4, 2) := by decide +kernel
theorem d_La_law_221 : decode b_La_law 221 = .ok (.iconst 2, 1) := by decide +kernel
theorem d_La_law_222 : decode b_La_law 222 = .ok (.iadd, 1) := by decide +kernel
theorem d_La_law_223 : decode b_La_law 223 = .ok (.iaload, 1) := by decide +kernel
theorem d_La_law_224 : decode b_La_law 224 = .ok (.aload_n 0, 1) := by decide +kernel
theorem d_La_law_225 : decode b_La_law 225 = .ok (.iload 4, 2) := by decide +kernel
theorem d_La_law_227 : decode b_La_law 227 = .ok (.iconst 3, 1) := by decide +kernel
theorem d_La_law_228 : decode b_La_law 228 = .ok (.iadd, 1) := by decide +kernel
theorem d_La_law_229 : decode b_La_law 229 = .ok (.iaload, 1) := by decide +kernel
theorem d_La_law_230 : decode b_La_law 230 = .ok (.i2l, 1) := by decide +kernel
theorem d_La_law_231 : decode b_La_law 231 = .ok (.bipush 32, 2) := by decide +kernel
theorem d_La_law_233 : decode b_La_law 233 = .ok (.lshl, 1) := by decide +kernel
theorem d_La_law_234 : decode b_La_law 234 = .ok (.aload_n 0, 1) := by decide +kernel
theorem d_La_law_235 : decode b_La_law 235 = .ok (.iload 4, 2) := by decide +kernel
theorem d_La_law_237 : decode b_La_law 237 = .ok (.iconst 4, 1) := by decide +kernel
theorem d_La_law_238 : decode b_La_law 238 = .ok (.iadd, 1) := by decide +kernel
theorem d_La_law_239 : decode b_La_law 239 = .ok (.iaload, 1) := by decide +kernel
theorem d_La_law_240 : decode b_La_law 240 = .ok (.i2l, 1) := by decide +kernel
theorem d_La_law_241 : decode b_La_law 241 = .ok (.ldc2_w 38, 3) := by decide +kernel
theorem d_La_law_244 : decode b_La_law 244 = .ok (.land, 1) := by decide +kernel
theorem d_La_law_245 : decode b_La_law 245 = .ok (.lor, 1) := by decide +kernel
theorem d_La_law_246 : decode b_La_law 246 = .ok (.invokevirtual 44, 3) := by decide +kernel
theorem d_La_law_249 : decode b_La_law 249 = .ok (.if_icmp .eq 629, 3) := by decide +kernel
theorem d_La_law_252 : decode b_La_law 252 = .ok (.iconst 0, 1) := by decide +kernel
theorem d_La_law_253 : decode b_La_law 253 = .ok (.ireturn, 1) := by decide +kernel
theorem d_La_law_254 : decode b_La_law 254 = .ok (.aload_n 1, 1) := by decide +kernel
theorem d_La_law_255 : decode b_La_law 255 = .ok (.aload_n 0, 1) := by decide +kernel
theorem d_La_law_256 : decode b_La_law 256 = .ok (.iload 4, 2) := by decide +kernel
theorem d_La_law_258 : decode b_La_law 258 = .ok (.iconst 1, 1) := by decide +kernel
theorem d_La_law_259 : decode b_La_law 259 = .ok (.iadd, 1) := by decide +kernel
theorem d_La_law_260 : decode b_La_law 260 = .ok (.iaload, 1) := by decide +kernel
theorem d_La_law_261 : decode b_La_law 261 = .ok (.aload_n 0, 1) := by decide +kernel
theorem d_La_law_262 : decode b_La_law 262 = .ok (.iload 4, 2) := by decide +kernel
theorem d_La_law_264 : decode b_La_law 264 = .ok (.iconst 2, 1) := by decide +kernel
theorem d_La_law_265 : decode b_La_law 265 = .ok (.iadd, 1) := by decide +kernel
theorem d_La_law_266 : decode b_La_law 266 = .ok (.iaload, 1) := by decide +kernel
theorem d_La_law_267 : decode b_La_law 267 = .ok (.aload_n 0, 1) := by decide +kernel
theorem d_La_law_268 : decode b_La_law 268 = .ok (.iload 4, 2) := by decide +kernel
theorem d_La_law_270 : decode b_La_law 270 = .ok (.iconst 3, 1) := by decide +kernel
theorem d_La_law_271 : decode b_La_law 271 = .ok (.iadd, 1) := by decide +kernel
theorem d_La_law_272 : decode b_La_law 272 = .ok (.iaload, 1) := by decide +kernel
theorem d_La_law_273 : decode b_La_law 273 = .ok (.i2l, 1) := by decide +kernel
theorem d_La_law_274 : decode b_La_law 274 = .ok (.bipush 32, 2) := by decide +kernel
theorem d_La_law_276 : decode b_La_law 276 = .ok (.lshl, 1) := by decide +kernel
theorem d_La_law_277 : decode b_La_law 277 = .ok (.aload_n 0, 1) := by decide +kernel
theorem d_La_law_278 : decode b_La_law 278 = .ok (.iload 4, 2) := by decide +kernel
theorem d_La_law_280 : decode b_La_law 280 = .ok (.iconst 4, 1) := by decide +kernel
theorem d_La_law_281 : decode b_La_law 281 = .ok (.iadd, 1) := by decide +kernel
theorem d_La_law_282 : decode b_La_law 282 = .ok (.iaload, 1) := by decide +kernel
theorem d_La_law_283 : decode b_La_law 283 = .ok (.i2l, 1) := by decide +kernel
theorem d_La_law_284 : decode b_La_law 284 = .ok (.ldc2_w 38, 3) := by decide +kernel
theorem d_La_law_287 : decode b_La_law 287 = .ok (.land, 1) := by decide +kernel
theorem d_La_law_288 : decode b_La_law 288 = .ok (.lor, 1) := by decide +kernel
theorem d_La_law_289 : decode b_La_law 289 = .ok (.invokevirtual 45, 3) := by decide +kernel
theorem d_La_law_292 : decode b_La_law 292 = .ok (.aload_n 2, 1) := by decide +kernel
theorem d_La_law_293 : decode b_La_law 293 = .ok (.aload_n 0, 1) := by decide +kernel
theorem d_La_law_294 : decode b_La_law 294 = .ok (.iload 4, 2) := by decide +kernel
theorem d_La_law_296 : decode b_La_law 296 = .ok (.iconst 1, 1) := by decide +kernel
theorem d_La_law_297 : decode b_La_law 297 = .ok (.iadd, 1) := by decide +kernel
theorem d_La_law_298 : decode b_La_law 298 = .ok (.iaload, 1) := by decide +kernel
theorem d_La_law_299 : decode b_La_law 299 = .ok (.aload_n 0, 1) := by decide +kernel
theorem d_La_law_300 : decode b_La_law 300 = .ok (.iload 4, 2) := by decide +kernel
theorem d_La_law_302 : decode b_La_law 302 = .ok (.iconst 2, 1) := by decide +kernel
theorem d_La_law_303 : decode b_La_law 303 = .ok (.iadd, 1) := by decide +kernel
theorem d_La_law_304 : decode b_La_law 304 = .ok (.iaload, 1) := by decide +kernel
theorem d_La_law_305 : decode b_La_law 305 = .ok (.aload_n 0, 1) := by decide +kernel
theorem d_La_law_306 : decode b_La_law 306 = .ok (.iload 4, 2) := by decide +kernel
theorem d_La_law_308 : decode b_La_law 308 = .ok (.iconst 3, 1) := by decide +kernel
theorem d_La_law_309 : decode b_La_law 309 = .ok (.iadd, 1) := by decide +kernel
theorem d_La_law_310 : decode b_La_law 310 = .ok (.iaload, 1) := by decide +kernel
theorem d_La_law_311 : decode b_La_law 311 = .ok (.i2l, 1) := by decide +kernel
theorem d_La_law_312 : decode b_La_law 312 = .ok (.bipush 32, 2) := by decide +kernel
theorem d_La_law_314 : decode b_La_law 314 = .ok (.lshl, 1) := by decide +kernel
theorem d_La_law_315 : decode b_La_law 315 = .ok (.aload_n 0, 1) := by decide +kernel
theorem d_La_law_316 : decode b_La_law 316 = .ok (.iload 4, 2) := by decide +kernel
theorem d_La_law_318 : decode b_La_law 318 = .ok (.iconst 4, 1) := by decide +kernel
theorem d_La_law_319 : decode b_La_law 319 = .ok (.iadd, 1) := by decide +kernel
theorem d_La_law_320 : decode b_La_law 320 = .ok (.iaload, 1) := by decide +kernel
theorem d_La_law_321 : decode b_La_law 321 = .ok (.i2l, 1) := by decide +kernel
theorem d_La_law_322 : decode b_La_law 322 = .ok (.ldc2_w 38, 3) := by decide +kernel
theorem d_La_law_325 : decode b_La_law 325 = .ok (.land, 1) := by decide +kernel
theorem d_La_law_326 : decode b_La_law 326 = .ok (.lor, 1) := by decide +kernel
theorem d_La_law_327 : decode b_La_law 327 = .ok (.invokevirtual 48, 3) := by decide +kernel
theorem d_La_law_330 : decode b_La_law 330 = .ok (.if_icmp .eq 548, 3) := by decide +kernel
theorem d_La_law_333 : decode b_La_law 333 = .ok (.iconst 0, 1) := by decide +kernel
theorem d_La_law_334 : decode b_La_law 334 = .ok (.ireturn, 1) := by decide +kernel
theorem d_La_law_335 : decode b_La_law 335 = .ok (.aload_n 1, 1) := by decide +kernel
theorem d_La_law_336 : decode b_La_law 336 = .ok (.aload_n 0, 1) := by decide +kernel
theorem d_La_law_337 : decode b_La_law 337 = .ok (.iload 4, 2) := by decide +kernel
theorem d_La_law_339 : decode b_La_law 339 = .ok (.iconst 1, 1) := by decide +kernel
theorem d_La_law_340 : decode b_La_law 340 = .ok (.iadd, 1) := by decide +kernel
theorem d_La_law_341 : decode b_La_law 341 = .ok (.iaload, 1) := by decide +kernel
theorem d_La_law_342 : decode b_La_law 342 = .ok (.aload_n 0, 1) := by decide +kernel
theorem d_La_law_343 : decode b_La_law 343 = .ok (.iload 4, 2) := by decide +kernel
theorem d_La_law_345 : decode b_La_law 345 = .ok (.iconst 2, 1) := by decide +kernel
theorem d_La_law_346 : decode b_La_law 346 = .ok (.iadd, 1) := by decide +kernel
theorem d_La_law_347 : decode b_La_law 347 = .ok (.iaload, 1) := by decide +kernel
theorem d_La_law_348 : decode b_La_law 348 = .ok (.i2l, 1) := by decide +kernel
theorem d_La_law_349 : decode b_La_law 349 = .ok (.bipush 32, 2) := by decide +kernel
theorem d_La_law_351 : decode b_La_law 351 = .ok (.lshl, 1) := by decide +kernel
theorem d_La_law_352 : decode b_La_law 352 = .ok (.aload_n 0, 1) := by decide +kernel
theorem d_La_law_353 : decode b_La_law 353 = .ok (.iload 4, 2) := by decide +kernel
theorem d_La_law_355 : decode b_La_law 355 = .ok (.iconst 3, 1) := by decide +kernel
theorem d_La_law_356 : decode b_La_law 356 = .ok (.iadd, 1) := by decide +kernel
theorem d_La_law_357 : decode b_La_law 357 = .ok (.iaload, 1) := by decide +kernel
theorem d_La_law_358 : decode b_La_law 358 = .ok (.i2l, 1) := by decide +kernel
theorem d_La_law_359 : decode b_La_law 359 = .ok (.ldc2_w 38, 3) := by decide +kernel
theorem d_La_law_362 : decode b_La_law 362 = .ok (.land, 1) := by decide +kernel
theorem d_La_law_363 : decode b_La_law 363 = .ok (.lor, 1) := by decide +kernel
theorem d_La_law_364 : decode b_La_law 364 = .ok (.invokevirtual 49, 3) := by decide +kernel
theorem d_La_law_367 : decode b_La_law 367 = .ok (.aload_n 2, 1) := by decide +kernel
theorem d_La_law_368 : decode b_La_law 368 = .ok (.aload_n 0, 1) := by decide +kernel
theorem d_La_law_369 : decode b_La_law 369 = .ok (.iload 4, 2) := by decide +kernel
theorem d_La_law_371 : decode b_La_law 371 = .ok (.iconst 1, 1) := by decide +kernel
theorem d_La_law_372 : decode b_La_law 372 = .ok (.iadd, 1) := by decide +kernel
theorem d_La_law_373 : decode b_La_law 373 = .ok (.iaload, 1) := by decide +kernel
theorem d_La_law_374 : decode b_La_law 374 = .ok (.aload_n 0, 1) := by decide +kernel
theorem d_La_law_375 : decode b_La_law 375 = .ok (.iload 4, 2) := by decide +kernel
theorem d_La_law_377 : decode b_La_law 377 = .ok (.iconst 2, 1) := by decide +kernel
theorem d_La_law_378 : decode b_La_law 378 = .ok (.iadd, 1) := by decide +kernel
theorem d_La_law_379 : decode b_La_law 379 = .ok (.iaload, 1) := by decide +kernel
theorem d_La_law_380 : decode b_La_law 380 = .ok (.i2l, 1) := by decide +kernel
theorem d_La_law_381 : decode b_La_law 381 = .ok (.bipush 32, 2) := by decide +kernel
theorem d_La_law_383 : decode b_La_law 383 = .ok (.lshl, 1) := by decide +kernel
theorem d_La_law_384 : decode b_La_law 384 = .ok (.aload_n 0, 1) := by decide +kernel
theorem d_La_law_385 : decode b_La_law 385 = .ok (.iload 4, 2) := by decide +kernel
theorem d_La_law_387 : decode b_La_law 387 = .ok (.iconst 3, 1) := by decide +kernel
theorem d_La_law_388 : decode b_La_law 388 = .ok (.iadd, 1) := by decide +kernel
theorem d_La_law_389 : decode b_La_law 389 = .ok (.iaload, 1) := by decide +kernel
theorem d_La_law_390 : decode b_La_law 390 = .ok (.i2l, 1) := by decide +kernel
theorem d_La_law_391 : decode b_La_law 391 = .ok (.ldc2_w 38, 3) := by decide +kernel
theorem d_La_law_394 : decode b_La_law 394 = .ok (.land, 1) := by decide +kernel
theorem d_La_law_395 : decode b_La_law 395 = .ok (.lor, 1) := by decide +kernel
theorem d_La_law_396 : decode b_La_law 396 = .ok (.invokevirtual 53, 3) := by decide +kernel
theorem d_La_law_399 : decode b_La_law 399 = .ok (.if_icmp .eq 479, 3) := by decide +kernel
theorem d_La_law_402 : decode b_La_law 402 = .ok (.iconst 0, 1) := by decide +kernel
theorem d_La_law_403 : decode b_La_law 403 = .ok (.ireturn, 1) := by decide +kernel
theorem d_La_law_404 : decode b_La_law 404 = .ok (.aload_n 1, 1) := by decide +kernel
theorem d_La_law_405 : decode b_La_law 405 = .ok (.aload_n 0, 1) := by decide +kernel
theorem d_La_law_406 : decode b_La_law 406 = .ok (.iload 4, 2) := by decide +kernel
theorem d_La_law_408 : decode b_La_law 408 = .ok (.iconst 1, 1) := by decide +kernel
theorem d_La_law_409 : decode b_La_law 409 = .ok (.iadd, 1) := by decide +kernel
theorem d_La_law_410 : decode b_La_law 410 = .ok (.iaload, 1) := by decide +kernel
theorem d_La_law_411 : decode b_La_law 411 = .ok (.invokevirtual 54, 3) := by decide +kernel
theorem d_La_law_414 : decode b_La_law 414 = .ok (.aload_n 2, 1) := by decide +kernel
theorem d_La_law_415 : decode b_La_law 415 = .ok (.aload_n 0, 1) := by decide +kernel
theorem d_La_law_416 : decode b_La_law 416 = .ok (.iload 4, 2) := by decide +kernel
theorem d_La_law_418 : decode b_La_law 418 = .ok (.iconst 1, 1) := by decide +kernel
theorem d_La_law_419 : decode b_La_law 419 = .ok (.iadd, 1) := by decide +kernel
theorem d_La_law_420 : decode b_La_law 420 = .ok (.iaload, 1) := by decide +kernel
theorem d_La_law_421 : decode b_La_law 421 = .ok (.invokevirtual 57, 3) := by decide +kernel
theorem d_La_law_424 : decode b_La_law 424 = .ok (.if_icmp .eq 454, 3) := by decide +kernel
theorem d_La_law_427 : decode b_La_law 427 = .ok (.iconst 0, 1) := by decide +kernel
theorem d_La_law_428 : decode b_La_law 428 = .ok (.ireturn, 1) := by decide +kernel
theorem d_La_law_429 : decode b_La_law 429 = .ok (.aload_n 1, 1) := by decide +kernel
theorem d_La_law_430 : decode b_La_law 430 = .ok (.aload_n 0, 1) := by decide +kernel
theorem d_La_law_431 : decode b_La_law 431 = .ok (.iload 4, 2) := by decide +kernel
theorem d_La_law_433 : decode b_La_law 433 = .ok (.iconst 1, 1) := by decide +kernel
theorem d_La_law_434 : decode b_La_law 434 = .ok (.iadd, 1) := by decide +kernel
theorem d_La_law_435 : decode b_La_law 435 = .ok (.iaload, 1) := by decide +kernel
theorem d_La_law_436 : decode b_La_law 436 = .ok (.aload_n 0, 1) := by decide +kernel
theorem d_La_law_437 : decode b_La_law 437 = .ok (.iload 4, 2) := by decide +kernel
theorem d_La_law_439 : decode b_La_law 439 = .ok (.iconst 2, 1) := by decide +kernel
theorem d_La_law_440 : decode b_La_law 440 = .ok (.iadd, 1) := by decide +kernel
theorem d_La_law_441 : decode b_La_law 441 = .ok (.iaload, 1) := by decide +kernel
theorem d_La_law_442 : decode b_La_law 442 = .ok (.invokevirtual 58, 3) := by decide +kernel
