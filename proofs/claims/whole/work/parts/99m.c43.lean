theorem dL_query_0 : decode cL_query 0 = .ok (.aload_n 1, 1) := by decide +kernel
theorem dL_query_1 : decode cL_query 1 = .ok (.iconst 0, 1) := by decide +kernel
theorem dL_query_2 : decode cL_query 2 = .ok (.aload_n 0, 1) := by decide +kernel
theorem dL_query_3 : decode cL_query 3 = .ok (.invokevirtual 7, 3) := by decide +kernel
theorem dL_query_6 : decode cL_query 6 = .ok (.i2l, 1) := by decide +kernel
theorem dL_query_7 : decode cL_query 7 = .ok (.lastore, 1) := by decide +kernel
theorem dL_query_8 : decode cL_query 8 = .ok (.goto 6, 3) := by decide +kernel
theorem dL_query_11 : decode cL_query 11 = .ok (.astore_n 2, 1) := by decide +kernel
theorem dL_query_12 : decode cL_query 12 = .ok (.iconst 1, 1) := by decide +kernel
theorem dL_query_13 : decode cL_query 13 = .ok (.ireturn, 1) := by decide +kernel
theorem dL_query_14 : decode cL_query 14 = .ok (.iconst 0, 1) := by decide +kernel
theorem dL_query_15 : decode cL_query 15 = .ok (.ireturn, 1) := by decide +kernel
theorem dL_key_0 : decode cL_key 0 = .ok (.aload_n 3, 1) := by decide +kernel
theorem dL_key_1 : decode cL_key 1 = .ok (.iconst 0, 1) := by decide +kernel
theorem dL_key_2 : decode cL_key 2 = .ok (.aload_n 0, 1) := by decide +kernel
theorem dL_key_3 : decode cL_key 3 = .ok (.iload_n 1, 1) := by decide +kernel
theorem dL_key_4 : decode cL_key 4 = .ok (.iload_n 2, 1) := by decide +kernel
theorem dL_key_5 : decode cL_key 5 = .ok (.invokevirtual 15, 3) := by decide +kernel
theorem dL_key_8 : decode cL_key 8 = .ok (.lastore, 1) := by decide +kernel
theorem dL_key_9 : decode cL_key 9 = .ok (.goto 7, 3) := by decide +kernel
theorem dL_key_12 : decode cL_key 12 = .ok (.astore 4, 2) := by decide +kernel
theorem dL_key_14 : decode cL_key 14 = .ok (.iconst 1, 1) := by decide +kernel
theorem dL_key_15 : decode cL_key 15 = .ok (.ireturn, 1) := by decide +kernel
theorem dL_key_16 : decode cL_key 16 = .ok (.iconst 0, 1) := by decide +kernel
theorem dL_key_17 : decode cL_key 17 = .ok (.ireturn, 1) := by decide +kernel
theorem dL_group_0 : decode cL_group 0 = .ok (.aload 4, 2) := by decide +kernel
theorem dL_group_2 : decode cL_group 2 = .ok (.iconst 0, 1) := by decide +kernel
theorem dL_group_3 : decode cL_group 3 = .ok (.aload_n 0, 1) := by decide +kernel
theorem dL_group_4 : decode cL_group 4 = .ok (.iload_n 1, 1) := by decide +kernel
theorem dL_group_5 : decode cL_group 5 = .ok (.iload_n 2, 1) := by decide +kernel
theorem dL_group_6 : decode cL_group 6 = .ok (.iload_n 3, 1) := by decide +kernel
theorem dL_group_7 : decode cL_group 7 = .ok (.invokevirtual 21, 3) := by decide +kernel
theorem dL_group_10 : decode cL_group 10 = .ok (.lastore, 1) := by decide +kernel
theorem dL_group_11 : decode cL_group 11 = .ok (.goto 7, 3) := by decide +kernel
theorem dL_group_14 : decode cL_group 14 = .ok (.astore 5, 2) := by decide +kernel
theorem dL_group_16 : decode cL_group 16 = .ok (.iconst 1, 1) := by decide +kernel
theorem dL_group_17 : decode cL_group 17 = .ok (.ireturn, 1) := by decide +kernel
theorem dL_group_18 : decode cL_group 18 = .ok (.iconst 0, 1) := by decide +kernel
theorem dL_group_19 : decode cL_group 19 = .ok (.ireturn, 1) := by decide +kernel
theorem dL_look_0 : decode cL_look 0 = .ok (.aload_n 3, 1) := by decide +kernel
theorem dL_look_1 : decode cL_look 1 = .ok (.iconst 0, 1) := by decide +kernel
theorem dL_look_2 : decode cL_look 2 = .ok (.aload_n 0, 1) := by decide +kernel
theorem dL_look_3 : decode cL_look 3 = .ok (.iload_n 1, 1) := by decide +kernel
theorem dL_look_4 : decode cL_look 4 = .ok (.iload_n 2, 1) := by decide +kernel
theorem dL_look_5 : decode cL_look 5 = .ok (.invokevirtual 25, 3) := by decide +kernel
theorem dL_look_8 : decode cL_look 8 = .ok (.lastore, 1) := by decide +kernel
theorem dL_look_9 : decode cL_look 9 = .ok (.goto 7, 3) := by decide +kernel
theorem dL_look_12 : decode cL_look 12 = .ok (.astore 4, 2) := by decide +kernel
theorem dL_look_14 : decode cL_look 14 = .ok (.iconst 1, 1) := by decide +kernel
theorem dL_look_15 : decode cL_look 15 = .ok (.ireturn, 1) := by decide +kernel
theorem dL_look_16 : decode cL_look 16 = .ok (.iconst 0, 1) := by decide +kernel
theorem dL_look_17 : decode cL_look 17 = .ok (.ireturn, 1) := by decide +kernel
theorem dL_law_0 : decode cL_law 0 = .ok (.new 8, 3) := by decide +kernel
theorem dL_law_3 : decode cL_law 3 = .ok (.dup, 1) := by decide +kernel
theorem dL_law_4 : decode cL_law 4 = .ok (.invokespecial 28, 3) := by decide +kernel
theorem dL_law_7 : decode cL_law 7 = .ok (.astore_n 1, 1) := by decide +kernel
theorem dL_law_8 : decode cL_law 8 = .ok (.new 29, 3) := by decide +kernel
theorem dL_law_11 : decode cL_law 11 = .ok (.dup, 1) := by decide +kernel
theorem dL_law_12 : decode cL_law 12 = .ok (.invokespecial 31, 3) := by decide +kernel
theorem dL_law_15 : decode cL_law 15 = .ok (.astore_n 2, 1) := by decide +kernel
theorem dL_law_16 : decode cL_law 16 = .ok (.iconst 1, 1) := by decide +kernel
theorem dL_law_17 : decode cL_law 17 = .ok (.newarray .long, 2) := by decide +kernel
theorem dL_law_19 : decode cL_law 19 = .ok (.astore_n 3, 1) := by decide +kernel
theorem dL_law_20 : decode cL_law 20 = .ok (.iconst 0, 1) := by decide +kernel
theorem dL_law_21 : decode cL_law 21 = .ok (.istore 4, 2) := by decide +kernel
theorem dL_law_23 : decode cL_law 23 = .ok (.iload 4, 2) := by decide +kernel
theorem dL_law_25 : decode cL_law 25 = .ok (.aload_n 0, 1) := by decide +kernel
theorem dL_law_26 : decode cL_law 26 = .ok (.arraylength, 1) := by decide +kernel
theorem dL_law_27 : decode cL_law 27 = .ok (.iconst 5, 1) := by decide +kernel
theorem dL_law_28 : decode cL_law 28 = .ok (.isub, 1) := by decide +kernel
theorem dL_law_29 : decode cL_law 29 = .ok (.if_icmp .gt 849, 3) := by decide +kernel
theorem dL_law_32 : decode cL_law 32 = .ok (.aload_n 0, 1) := by decide +kernel
theorem dL_law_33 : decode cL_law 33 = .ok (.iload 4, 2) := by decide +kernel
theorem dL_law_35 : decode cL_law 35 = .ok (.iaload, 1) := by decide +kernel
theorem dL_law_36 : decode cL_law 36 = .ok (.bipush 15, 2) := by decide +kernel
theorem dL_law_38 : decode cL_law 38 = .ok (.iand, 1) := by decide +kernel
theorem dL_law_39 : decode cL_law 39 = .ok (.tableswitch 833 0 14 #[73, 98, 179, 216, 253, 334, 359, 428, 472, 509, 546, 613, 692, 729, 766], 73) := by decide +kernel
theorem dL_law_112 : decode cL_law 112 = .ok (.aload_n 1, 1) := by decide +kernel
theorem dL_law_113 : decode cL_law 113 = .ok (.aload_n 0, 1) := by decide +kernel
theorem dL_law_114 : decode cL_law 114 = .ok (.iload 4, 2) := by decide +kernel
theorem dL_law_116 : decode cL_law 116 = .ok (.iconst 1, 1) := by decide +kernel
theorem dL_law_117 : decode cL_law 117 = .ok (.iadd, 1) := by decide +kernel
theorem dL_law_118 : decode cL_law 118 = .ok (.iaload, 1) := by decide +kernel
theorem dL_law_119 : decode cL_law 119 = .ok (.invokevirtual 32, 3) := by decide +kernel
theorem dL_law_122 : decode cL_law 122 = .ok (.aload_n 2, 1) := by decide +kernel
theorem dL_law_123 : decode cL_law 123 = .ok (.aload_n 0, 1) := by decide +kernel
theorem dL_law_124 : decode cL_law 124 = .ok (.iload 4, 2) := by decide +kernel
theorem dL_law_126 : decode cL_law 126 = .ok (.iconst 1, 1) := by decide +kernel
theorem dL_law_127 : decode cL_law 127 = .ok (.iadd, 1) := by decide +kernel
theorem dL_law_128 : decode cL_law 128 = .ok (.iaload, 1) := by decide +kernel
theorem dL_law_129 : decode cL_law 129 = .ok (.invokevirtual 36, 3) := by decide +kernel
theorem dL_law_132 : decode cL_law 132 = .ok (.if_icmp .eq 740, 3) := by decide +kernel
theorem dL_law_135 : decode cL_law 135 = .ok (.iconst 0, 1) := by decide +kernel
theorem dL_law_136 : decode cL_law 136 = .ok (.ireturn, 1) := by decide +kernel
theorem dL_law_137 : decode cL_law 137 = .ok (.aload_n 1, 1) := by decide +kernel
theorem dL_law_138 : decode cL_law 138 = .ok (.aload_n 0, 1) := by decide +kernel
theorem dL_law_139 : decode cL_law 139 = .ok (.iload 4, 2) := by decide +kernel
theorem dL_law_141 : decode cL_law 141 = .ok (.iconst 1, 1) := by decide +kernel
theorem dL_law_142 : decode cL_law 142 = .ok (.iadd, 1) := by decide +kernel
theorem dL_law_143 : decode cL_law 143 = .ok (.iaload, 1) := by decide +kernel
theorem dL_law_144 : decode cL_law 144 = .ok (.aload_n 0, 1) := by decide +kernel
theorem dL_law_145 : decode cL_law 145 = .ok (.iload 4, 2) := by decide +kernel
theorem dL_law_147 : decode cL_law 147 = .ok (.iconst 2, 1) := by decide +kernel
theorem dL_law_148 : decode cL_law 148 = .ok (.iadd, 1) := by decide +kernel
theorem dL_law_149 : decode cL_law 149 = .ok (.iaload, 1) := by decide +kernel
theorem dL_law_150 : decode cL_law 150 = .ok (.aload_n 0, 1) := by decide +kernel
theorem dL_law_151 : decode cL_law 151 = .ok (.iload 4, 2) := by decide +kernel
theorem dL_law_153 : decode cL_law 153 = .ok (.iconst 3, 1) := by decide +kernel
theorem dL_law_154 : decode cL_law 154 = .ok (.iadd, 1) := by decide +kernel
theorem dL_law_155 : decode cL_law 155 = .ok (.iaload, 1) := by decide +kernel
theorem dL_law_156 : decode cL_law 156 = .ok (.i2l, 1) := by decide +kernel
theorem dL_law_157 : decode cL_law 157 = .ok (.bipush 32, 2) := by decide +kernel
theorem dL_law_159 : decode cL_law 159 = .ok (.lshl, 1) := by decide +kernel
theorem dL_law_160 : decode cL_law 160 = .ok (.aload_n 0, 1) := by decide +kernel
theorem dL_law_161 : decode cL_law 161 = .ok (.iload 4, 2) := by decide +kernel
theorem dL_law_163 : decode cL_law 163 = .ok (.iconst 4, 1) := by decide +kernel
theorem dL_law_164 : decode cL_law 164 = .ok (.iadd, 1) := by decide +kernel
theorem dL_law_165 : decode cL_law 165 = .ok (.iaload, 1) := by decide +kernel
theorem dL_law_166 : decode cL_law 166 = .ok (.i2l, 1) := by decide +kernel
theorem dL_law_167 : decode cL_law 167 = .ok (.ldc2_w 37, 3) := by decide +kernel
theorem dL_law_170 : decode cL_law 170 = .ok (.land, 1) := by decide +kernel
theorem dL_law_171 : decode cL_law 171 = .ok (.lor, 1) := by decide +kernel
theorem dL_law_172 : decode cL_law 172 = .ok (.invokevirtual 39, 3) := by decide +kernel
theorem dL_law_175 : decode cL_law 175 = .ok (.aload_n 2, 1) := by decide +kernel
theorem dL_law_176 : decode cL_law 176 = .ok (.aload_n 0, 1) := by decide +kernel
theorem dL_law_177 : decode cL_law 177 = .ok (.iload 4, 2) := by decide +kernel
theorem dL_law_179 : decode cL_law 179 = .ok (.iconst 1, 1) := by decide +kernel
theorem dL_law_180 : decode cL_law 180 = .ok (.iadd, 1) := by decide +kernel
theorem dL_law_181 : decode cL_law 181 = .ok (.iaload, 1) := by decide +kernel
theorem dL_law_182 : decode cL_law 182 = .ok (.aload_n 0, 1) := by decide +kernel
theorem dL_law_183 : decode cL_law 183 = .ok (.iload 4, 2) := by decide +kernel
theorem dL_law_185 : decode cL_law 185 = .ok (.iconst 2, 1) := by decide +kernel
theorem dL_law_186 : decode cL_law 186 = .ok (.iadd, 1) := by decide +kernel
theorem dL_law_187 : decode cL_law 187 = .ok (.iaload, 1) := by decide +kernel
theorem dL_law_188 : decode cL_law 188 = .ok (.aload_n 0, 1) := by decide +kernel
theorem dL_law_189 : decode cL_law 189 = .ok (.iload 4, 2) := by decide +kernel
theorem dL_law_191 : decode cL_law 191 = .ok (.iconst 3, 1) := by decide +kernel
theorem dL_law_192 : decode cL_law 192 = .ok (.iadd, 1) := by decide +kernel
theorem dL_law_193 : decode cL_law 193 = .ok (.iaload, 1) := by decide +kernel
theorem dL_law_194 : decode cL_law 194 = .ok (.i2l, 1) := by decide +kernel
theorem dL_law_195 : decode cL_law 195 = .ok (.bipush 32, 2) := by decide +kernel
theorem dL_law_197 : decode cL_law 197 = .ok (.lshl, 1) := by decide +kernel
theorem dL_law_198 : decode cL_law 198 = .ok (.aload_n 0, 1) := by decide +kernel
theorem dL_law_199 : decode cL_law 199 = .ok (.iload 4, 2) := by decide +kernel
theorem dL_law_201 : decode cL_law 201 = .ok (.iconst 4, 1) := by decide +kernel
theorem dL_law_202 : decode cL_law 202 = .ok (.iadd, 1) := by decide +kernel
theorem dL_law_203 : decode cL_law 203 = .ok (.iaload, 1) := by decide +kernel
theorem dL_law_204 : decode cL_law 204 = .ok (.i2l, 1) := by decide +kernel
theorem dL_law_205 : decode cL_law 205 = .ok (.ldc2_w 37, 3) := by decide +kernel
theorem dL_law_208 : decode cL_law 208 = .ok (.land, 1) := by decide +kernel
theorem dL_law_209 : decode cL_law 209 = .ok (.lor, 1) := by decide +kernel
theorem dL_law_210 : decode cL_law 210 = .ok (.invokevirtual 43, 3) := by decide +kernel
theorem dL_law_213 : decode cL_law 213 = .ok (.if_icmp .eq 659, 3) := by decide +kernel
theorem dL_law_216 : decode cL_law 216 = .ok (.iconst 0, 1) := by decide +kernel
theorem dL_law_217 : decode cL_law 217 = .ok (.ireturn, 1) := by decide +kernel
theorem dL_law_218 : decode cL_law 218 = .ok (.aload_n 1, 1) := by decide +kernel
theorem dL_law_219 : decode cL_law 219 = .ok (.aload_n 0, 1) := by decide +kernel
theorem dL_law_220 : decode cL_law 220 = .ok (.iload 4, 2) := by decide +kernel
theorem dL_law_222 : decode cL_law 222 = .ok (.iconst 1, 1) := by decide +kernel
theorem dL_law_223 : decode cL_law 223 = .ok (.iadd, 1) := by decide +kernel
theorem dL_law_224 : decode cL_law 224 = .ok (.iaload, 1) := by decide +kernel
theorem dL_law_225 : decode cL_law 225 = .ok (.aload_n 0, 1) := by decide +kernel
theorem dL_law_226 : decode cL_law 226 = .ok (.iload 4, 2) := by decide +kernel
theorem dL_law_228 : decode cL_law 228 = .ok (.iconst 2, 1) := by decide +kernel
theorem dL_law_229 : decode cL_law 229 = .ok (.iadd, 1) := by decide +kernel
theorem dL_law_230 : decode cL_law 230 = .ok (.iaload, 1) := by decide +kernel
theorem dL_law_231 : decode cL_law 231 = .ok (.invokevirtual 44, 3) := by decide +kernel
theorem dL_law_234 : decode cL_law 234 = .ok (.aload_n 2, 1) := by decide +kernel
theorem dL_law_235 : decode cL_law 235 = .ok (.aload_n 0, 1) := by decide +kernel
theorem dL_law_236 : decode cL_law 236 = .ok (.iload 4, 2) := by decide +kernel
theorem dL_law_238 : decode cL_law 238 = .ok (.iconst 1, 1) := by decide +kernel
theorem dL_law_239 : decode cL_law 239 = .ok (.iadd, 1) := by decide +kernel
theorem dL_law_240 : decode cL_law 240 = .ok (.iaload, 1) := by decide +kernel
theorem dL_law_241 : decode cL_law 241 = .ok (.aload_n 0, 1) := by decide +kernel
theorem dL_law_242 : decode cL_law 242 = .ok (.iload 4, 2) := by decide +kernel
theorem dL_law_244 : decode cL_law 244 = .ok (.iconst 2, 1) := by decide +kernel
theorem dL_law_245 : decode cL_law 245 = .ok (.iadd, 1) := by decide +kernel
theorem dL_law_246 : decode cL_law 246 = .ok (.iaload, 1) := by decide +kernel
theorem dL_law_247 : decode cL_law 247 = .ok (.invokevirtual 48, 3) := by decide +kernel
theorem dL_law_250 : decode cL_law 250 = .ok (.if_icmp .eq 622, 3) := by decide +kernel
theorem dL_law_253 : decode cL_law 253 = .ok (.iconst 0, 1) := by decide +kernel
theorem dL_law_254 : decode cL_law 254 = .ok (.ireturn, 1) := by decide +kernel
theorem dL_law_255 : decode cL_law 255 = .ok (.aload_n 1, 1) := by decide +kernel
theorem dL_law_256 : decode cL_law 256 = .ok (.aload_n 0, 1) := by decide +kernel
theorem dL_law_257 : decode cL_law 257 = .ok (.iload 4, 2) := by decide +kernel
theorem dL_law_259 : decode cL_law 259 = .ok (.iconst 1, 1) := by decide +kernel
theorem dL_law_260 : decode cL_law 260 = .ok (.iadd, 1) := by decide +kernel
theorem dL_law_261 : decode cL_law 261 = .ok (.iaload, 1) := by decide +kernel
theorem dL_law_262 : decode cL_law 262 = .ok (.aload_n 0, 1) := by decide +kernel
theorem dL_law_263 : decode cL_law 263 = .ok (.iload 4, 2) := by decide +kernel
theorem dL_law_265 : decode cL_law 265 = .ok (.iconst 2, 1) := by decide +kernel
theorem dL_law_266 : decode cL_law 266 = .ok (.iadd, 1) := by decide +kernel
theorem dL_law_267 : decode cL_law 267 = .ok (.iaload, 1) := by decide +kernel
theorem dL_law_268 : decode cL_law 268 = .ok (.invokevirtual 49, 3) := by decide +kernel
theorem dL_law_271 : decode cL_law 271 = .ok (.aload_n 2, 1) := by decide +kernel
theorem dL_law_272 : decode cL_law 272 = .ok (.aload_n 0, 1) := by decide +kernel
theorem dL_law_273 : decode cL_law 273 = .ok (.iload 4, 2) := by decide +kernel
theorem dL_law_275 : decode cL_law 275 = .ok (.iconst 1, 1) := by decide +kernel
theorem dL_law_276 : decode cL_law 276 = .ok (.iadd, 1) := by decide +kernel
theorem dL_law_277 : decode cL_law 277 = .ok (.iaload, 1) := by decide +kernel
theorem dL_law_278 : decode cL_law 278 = .ok (.aload_n 0, 1) := by decide +kernel
theorem dL_law_279 : decode cL_law 279 = .ok (.iload 4, 2) := by decide +kernel
theorem dL_law_281 : decode cL_law 281 = .ok (.iconst 2, 1) := by decide +kernel
theorem dL_law_282 : decode cL_law 282 = .ok (.iadd, 1) := by decide +kernel
theorem dL_law_283 : decode cL_law 283 = .ok (.iaload, 1) := by decide +kernel
theorem dL_law_284 : decode cL_law 284 = .ok (.invokevirtual 52, 3) := by decide +kernel
theorem dL_law_287 : decode cL_law 287 = .ok (.if_icmp .eq 585, 3) := by decide +kernel
theorem dL_law_290 : decode cL_law 290 = .ok (.iconst 0, 1) := by decide +kernel
theorem dL_law_291 : decode cL_law 291 = .ok (.ireturn, 1) := by decide +kernel
theorem dL_law_292 : decode cL_law 292 = .ok (.aload_n 1, 1) := by decide +kernel
theorem dL_law_293 : decode cL_law 293 = .ok (.aload_n 0, 1) := by decide +kernel
theorem dL_law_294 : decode cL_law 294 = .ok (.iload 4, 2) := by decide +kernel
theorem dL_law_296 : decode cL_law 296 = .ok (.iconst 1, 1) := by decide +kernel
theorem dL_law_297 : decode cL_law 297 = .ok (.iadd, 1) := by decide +kernel
theorem dL_law_298 : decode cL_law 298 = .ok (.iaload, 1) := by decide +kernel
theorem dL_law_299 : decode cL_law 299 = .ok (.aload_n 0, 1) := by decide +kernel
theorem dL_law_300 : decode cL_law 300 = .ok (.iload 4, 2) := by decide +kernel
theorem dL_law_302 : decode cL_law 302 = .ok (.iconst 2, 1) := by decide +kernel
theorem dL_law_303 : decode cL_law 303 = .ok (.iadd, 1) := by decide +kernel
theorem dL_law_304 : decode cL_law 304 = .ok (.iaload, 1) := by decide +kernel
theorem dL_law_305 : decode cL_law 305 = .ok (.aload_n 0, 1) := by decide +kernel
theorem dL_law_306 : decode cL_law 306 = .ok (.iload 4, 2) := by decide +kernel
theorem dL_law_308 : decode cL_law 308 = .ok (.iconst 3, 1) := by decide +kernel
theorem dL_law_309 : decode cL_law 309 = .ok (.iadd, 1) := by decide +kernel
theorem dL_law_310 : decode cL_law 310 = .ok (.iaload, 1) := by decide +kernel
theorem dL_law_311 : decode cL_law 311 = .ok (.i2l, 1) := by decide +kernel
theorem dL_law_312 : decode cL_law 312 = .ok (.bipush 32, 2) := by decide +kernel
theorem dL_law_314 : decode cL_law 314 = .ok (.lshl, 1) := by decide +kernel
theorem dL_law_315 : decode cL_law 315 = .ok (.aload_n 0, 1) := by decide +kernel
theorem dL_law_316 : decode cL_law 316 = .ok (.iload 4, 2) := by decide +kernel
theorem dL_law_318 : decode cL_law 318 = .ok (.iconst 4, 1) := by decide +kernel
theorem dL_law_319 : decode cL_law 319 = .ok (.iadd, 1) := by decide +kernel
theorem dL_law_320 : decode cL_law 320 = .ok (.iaload, 1) := by decide +kernel
theorem dL_law_321 : decode cL_law 321 = .ok (.i2l, 1) := by decide +kernel
theorem dL_law_322 : decode cL_law 322 = .ok (.ldc2_w 37, 3) := by decide +kernel
theorem dL_law_325 : decode cL_law 325 = .ok (.land, 1) := by decide +kernel
theorem dL_law_326 : decode cL_law 326 = .ok (.lor, 1) := by decide +kernel
theorem dL_law_327 : decode cL_law 327 = .ok (.invokevirtual 53, 3) := by decide +kernel
theorem dL_law_330 : decode cL_law 330 = .ok (.aload_n 2, 1) := by decide +kernel
theorem dL_law_331 : decode cL_law 331 = .ok (.aload_n 0, 1) := by decide +kernel
theorem dL_law_332 : decode cL_law 332 = .ok (.iload 4, 2) := by decide +kernel
theorem dL_law_334 : decode cL_law 334 = .ok (.iconst 1, 1) := by decide +kernel
theorem dL_law_335 : decode cL_law 335 = .ok (.iadd, 1) := by decide +kernel
theorem dL_law_336 : decode cL_law 336 = .ok (.iaload, 1) := by decide +kernel
theorem dL_law_337 : decode cL_law 337 = .ok (.aload_n 0, 1) := by decide +kernel
theorem dL_law_338 : decode cL_law 338 = .ok (.iload 4, 2) := by decide +kernel
theorem dL_law_340 : decode cL_law 340 = .ok (.iconst 2, 1) := by decide +kernel
theorem dL_law_341 : decode cL_law 341 = .ok (.iadd, 1) := by decide +kernel
theorem dL_law_342 : decode cL_law 342 = .ok (.iaload, 1) := by decide +kernel
theorem dL_law_343 : decode cL_law 343 = .ok (.aload_n 0, 1) := by decide +kernel
theorem dL_law_344 : decode cL_law 344 = .ok (.iload 4, 2) := by decide +kernel
theorem dL_law_346 : decode cL_law 346 = .ok (.iconst 3, 1) := by decide +kernel
theorem dL_law_347 : decode cL_law 347 = .ok (.iadd, 1) := by decide +kernel
theorem dL_law_348 : decode cL_law 348 = .ok (.iaload, 1) := by decide +kernel
theorem dL_law_349 : decode cL_law 349 = .ok (.i2l, 1) := by decide +kernel
theorem dL_law_350 : decode cL_law 350 = .ok (.bipush 32, 2) := by decide +kernel
theorem dL_law_352 : decode cL_law 352 = .ok (.lshl, 1) := by decide +kernel
theorem dL_law_353 : decode cL_law 353 = .ok (.aload_n 0, 1) := by decide +kernel
theorem dL_law_354 : decode cL_law 354 = .ok (.iload 4, 2) := by decide +kernel
theorem dL_law_356 : decode cL_law 356 = .ok (.iconst 4, 1) := by decide +kernel
theorem dL_law_357 : decode cL_law 357 = .ok (.iadd, 1) := by decide +kernel
theorem dL_law_358 : decode cL_law 358 = .ok (.iaload, 1) := by decide +kernel
theorem dL_law_359 : decode cL_law 359 = .ok (.i2l, 1) := by decide +kernel
theorem dL_law_360 : decode cL_law 360 = .ok (.ldc2_w 37, 3) := by decide +kernel
theorem dL_law_363 : decode cL_law 363 = .ok (.land, 1) := by decide +kernel
theorem dL_law_364 : decode cL_law 364 = .ok (.lor, 1) := by decide +kernel
theorem dL_law_365 : decode cL_law 365 = .ok (.invokevirtual 56, 3) := by decide +kernel
theorem dL_law_368 : decode cL_law 368 = .ok (.if_icmp .eq 504, 3) := by decide +kernel
theorem dL_law_371 : decode cL_law 371 = .ok (.iconst 0, 1) := by decide +kernel
theorem dL_law_372 : decode cL_law 372 = .ok (.ireturn, 1) := by decide +kernel
theorem dL_law_373 : decode cL_law 373 = .ok (.aload_n 1, 1) := by decide +kernel
theorem dL_law_374 : decode cL_law 374 = .ok (.aload_n 0, 1) := by decide +kernel
theorem dL_law_375 : decode cL_law 375 = .ok (.iload 4, 2) := by decide +kernel
theorem dL_law_377 : decode cL_law 377 = .ok (.iconst 1, 1) := by decide +kernel
theorem dL_law_378 : decode cL_law 378 = .ok (.iadd, 1) := by decide +kernel
theorem dL_law_379 : decode cL_law 379 = .ok (.iaload, 1) := by decide +kernel
theorem dL_law_380 : decode cL_law 380 = .ok (.invokevirtual 57, 3) := by decide +kernel
theorem dL_law_383 : decode cL_law 383 = .ok (.aload_n 2, 1) := by decide +kernel
theorem dL_law_384 : decode cL_law 384 = .ok (.aload_n 0, 1) := by decide +kernel
theorem dL_law_385 : decode cL_law 385 = .ok (.iload 4, 2) := by decide +kernel
theorem dL_law_387 : decode cL_law 387 = .ok (.iconst 1, 1) := by decide +kernel
theorem dL_law_388 : decode cL_law 388 = .ok (.iadd, 1) := by decide +kernel
theorem dL_law_389 : decode cL_law 389 = .ok (.iaload, 1) := by decide +kernel
theorem dL_law_390 : decode cL_law 390 = .ok (.invokevirtual 60, 3) := by decide +kernel
theorem dL_law_393 : decode cL_law 393 = .ok (.if_icmp .eq 479, 3) := by decide +kernel
theorem dL_law_396 : decode cL_law 396 = .ok (.iconst 0, 1) := by decide +kernel
theorem dL_law_397 : decode cL_law 397 = .ok (.ireturn, 1) := by decide +kernel
theorem dL_law_398 : decode cL_law 398 = .ok (.aload_n 1, 1) := by decide +kernel
theorem dL_law_399 : decode cL_law 399 = .ok (.aload_n 0, 1) := by decide +kernel
theorem dL_law_400 : decode cL_law 400 = .ok (.iload 4, 2) := by decide +kernel
theorem dL_law_402 : decode cL_law 402 = .ok (.iconst 1, 1) := by decide +kernel
theorem dL_law_403 : decode cL_law 403 = .ok (.iadd, 1) := by decide +kernel
theorem dL_law_404 : decode cL_law 404 = .ok (.iaload, 1) := by decide +kernel
theorem dL_law_405 : decode cL_law 405 = .ok (.i2l, 1) := by decide +kernel
theorem dL_law_406 : decode cL_law 406 = .ok (.bipush 32, 2) := by decide +kernel
theorem dL_law_408 : decode cL_law 408 = .ok (.lshl, 1) := by decide +kernel
theorem dL_law_409 : decode cL_law 409 = .ok (.aload_n 0, 1) := by decide +kernel
theorem dL_law_410 : decode cL_law 410 = .ok (.iload 4, 2) := by decide +kernel
theorem dL_law_412 : decode cL_law 412 = .ok (.iconst 2, 1) := by decide +kernel
theorem dL_law_413 : decode cL_law 413 = .ok (.iadd, 1) := by decide +kernel
theorem dL_law_414 : decode cL_law 414 = .ok (.iaload, 1) := by decide +kernel
theorem dL_law_415 : decode cL_law 415 = .ok (.i2l, 1) := by decide +kernel
theorem dL_law_416 : decode cL_law 416 = .ok (.ldc2_w 37, 3) := by decide +kernel
theorem dL_law_419 : decode cL_law 419 = .ok (.land, 1) := by decide +kernel
theorem dL_law_420 : decode cL_law 420 = .ok (.lor, 1) := by decide +kernel
theorem dL_law_421 : decode cL_law 421 = .ok (.aload_n 0, 1) := by decide +kernel
theorem dL_law_422 : decode cL_law 422 = .ok (.iload 4, 2) := by decide +kernel
theorem dL_law_424 : decode cL_law 424 = .ok (.iconst 3, 1) := by decide +kernel
theorem dL_law_425 : decode cL_law 425 = .ok (.iadd, 1) := by decide +kernel
theorem dL_law_426 : decode cL_law 426 = .ok (.iaload, 1) := by decide +kernel
theorem dL_law_427 : decode cL_law 427 = .ok (.invokevirtual 61, 3) := by decide +kernel
theorem dL_law_430 : decode cL_law 430 = .ok (.aload_n 2, 1) := by decide +kernel
theorem dL_law_431 : decode cL_law 431 = .ok (.aload_n 0, 1) := by decide +kernel
theorem dL_law_432 : decode cL_law 432 = .ok (.iload 4, 2) := by decide +kernel
theorem dL_law_434 : decode cL_law 434 = .ok (.iconst 1, 1) := by decide +kernel
theorem dL_law_435 : decode cL_law 435 = .ok (.iadd, 1) := by decide +kernel
theorem dL_law_436 : decode cL_law 436 = .ok (.iaload, 1) := by decide +kernel
theorem dL_law_437 : decode cL_law 437 = .ok (.i2l, 1) := by decide +kernel
theorem dL_law_438 : decode cL_law 438 = .ok (.bipush 32, 2) := by decide +kernel
theorem dL_law_440 : decode cL_law 440 = .ok (.lshl, 1) := by decide +kernel
theorem dL_law_441 : decode cL_law 441 = .ok (.aload_n 0, 1) := by decide +kernel
theorem dL_law_442 : decode cL_law 442 = .ok (.iload 4, 2) := by decide +kernel
theorem dL_law_444 : decode cL_law 444 = .ok (.iconst 2, 1) := by decide +kernel
theorem dL_law_445 : decode cL_law 445 = .ok (.iadd, 1) := by decide +kernel
theorem dL_law_446 : decode cL_law 446 = .ok (.iaload, 1) := by decide +kernel
theorem dL_law_447 : decode cL_law 447 = .ok (.i2l, 1) := by decide +kernel
theorem dL_law_448 : decode cL_law 448 = .ok (.ldc2_w 37, 3) := by decide +kernel
theorem dL_law_451 : decode cL_law 451 = .ok (.land, 1) := by decide +kernel
theorem dL_law_452 : decode cL_law 452 = .ok (.lor, 1) := by decide +kernel
theorem dL_law_453 : decode cL_law 453 = .ok (.aload_n 0, 1) := by decide +kernel
theorem dL_law_454 : decode cL_law 454 = .ok (.iload 4, 2) := by decide +kernel
theorem dL_law_456 : decode cL_law 456 = .ok (.iconst 3, 1) := by decide +kernel
theorem dL_law_457 : decode cL_law 457 = .ok (.iadd, 1) := by decide +kernel
theorem dL_law_458 : decode cL_law 458 = .ok (.iaload, 1) := by decide +kernel
theorem dL_law_459 : decode cL_law 459 = .ok (.invokevirtual 65, 3) := by decide +kernel
theorem dL_law_462 : decode cL_law 462 = .ok (.if_icmp .eq 410, 3) := by decide +kernel
theorem dL_law_465 : decode cL_law 465 = .ok (.iconst 0, 1) := by decide +kernel
theorem dL_law_466 : decode cL_law 466 = .ok (.ireturn, 1) := by decide +kernel
theorem dL_law_467 : decode cL_law 467 = .ok (.aload_n 1, 1) := by decide +kernel
theorem dL_law_468 : decode cL_law 468 = .ok (.aload_n 3, 1) := by decide +kernel
theorem dL_law_469 : decode cL_law 469 = .ok (.invokestatic 66, 3) := by decide +kernel
theorem dL_law_472 : decode cL_law 472 = .ok (.istore 5, 2) := by decide +kernel
theorem dL_law_474 : decode cL_law 474 = .ok (.aload_n 2, 1) := by decide +kernel
theorem dL_law_475 : decode cL_law 475 = .ok (.invokevirtual 71, 3) := by decide +kernel
theorem dL_law_478 : decode cL_law 478 = .ok (.istore 6, 2) := by decide +kernel
theorem dL_law_480 : decode cL_law 480 = .ok (.aload_n 2, 1) := by decide +kernel
theorem dL_law_481 : decode cL_law 481 = .ok (.invokevirtual 72, 3) := by decide +kernel
theorem dL_law_484 : decode cL_law 484 = .ok (.iload 5, 2) := by decide +kernel
theorem dL_law_486 : decode cL_law 486 = .ok (.if_icmp .eq 5, 3) := by decide +kernel
theorem dL_law_489 : decode cL_law 489 = .ok (.iconst 0, 1) := by decide +kernel
theorem dL_law_490 : decode cL_law 490 = .ok (.ireturn, 1) := by decide +kernel
theorem dL_law_491 : decode cL_law 491 = .ok (.iload 5, 2) := by decide +kernel
theorem dL_law_493 : decode cL_law 493 = .ok (.ifCond .ne 15, 3) := by decide +kernel
theorem dL_law_496 : decode cL_law 496 = .ok (.aload_n 3, 1) := by decide +kernel
theorem dL_law_497 : decode cL_law 497 = .ok (.iconst 0, 1) := by decide +kernel
theorem dL_law_498 : decode cL_law 498 = .ok (.laload, 1) := by decide +kernel
theorem dL_law_499 : decode cL_law 499 = .ok (.iload 6, 2) := by decide +kernel
theorem dL_law_501 : decode cL_law 501 = .ok (.i2l, 1) := by decide +kernel
theorem dL_law_502 : decode cL_law 502 = .ok (.lcmp, 1) := by decide +kernel
theorem dL_law_503 : decode cL_law 503 = .ok (.ifCond .eq 5, 3) := by decide +kernel
theorem dL_law_506 : decode cL_law 506 = .ok (.iconst 0, 1) := by decide +kernel
theorem dL_law_507 : decode cL_law 507 = .ok (.ireturn, 1) := by decide +kernel
theorem dL_law_508 : decode cL_law 508 = .ok (.goto 364, 3) := by decide +kernel
theorem dL_law_511 : decode cL_law 511 = .ok (.aload_n 1, 1) := by decide +kernel
theorem dL_law_512 : decode cL_law 512 = .ok (.aload_n 0, 1) := by decide +kernel
theorem dL_law_513 : decode cL_law 513 = .ok (.iload 4, 2) := by decide +kernel
theorem dL_law_515 : decode cL_law 515 = .ok (.iconst 1, 1) := by decide +kernel
theorem dL_law_516 : decode cL_law 516 = .ok (.iadd, 1) := by decide +kernel
theorem dL_law_517 : decode cL_law 517 = .ok (.iaload, 1) := by decide +kernel
theorem dL_law_518 : decode cL_law 518 = .ok (.aload_n 0, 1) := by decide +kernel
theorem dL_law_519 : decode cL_law 519 = .ok (.iload 4, 2) := by decide +kernel
theorem dL_law_521 : decode cL_law 521 = .ok (.iconst 2, 1) := by decide +kernel
theorem dL_law_522 : decode cL_law 522 = .ok (.iadd, 1) := by decide +kernel
theorem dL_law_523 : decode cL_law 523 = .ok (.iaload, 1) := by decide +kernel
theorem dL_law_524 : decode cL_law 524 = .ok (.invokevirtual 75, 3) := by decide +kernel
theorem dL_law_527 : decode cL_law 527 = .ok (.aload_n 2, 1) := by decide +kernel
theorem dL_law_528 : decode cL_law 528 = .ok (.aload_n 0, 1) := by decide +kernel
theorem dL_law_529 : decode cL_law 529 = .ok (.iload 4, 2) := by decide +kernel
theorem dL_law_531 : decode cL_law 531 = .ok (.iconst 1, 1) := by decide +kernel
theorem dL_law_532 : decode cL_law 532 = .ok (.iadd, 1) := by decide +kernel
theorem dL_law_533 : decode cL_law 533 = .ok (.iaload, 1) := by decide +kernel
theorem dL_law_534 : decode cL_law 534 = .ok (.aload_n 0, 1) := by decide +kernel
theorem dL_law_535 : decode cL_law 535 = .ok (.iload 4, 2) := by decide +kernel
theorem dL_law_537 : decode cL_law 537 = .ok (.iconst 2, 1) := by decide +kernel
theorem dL_law_538 : decode cL_law 538 = .ok (.iadd, 1) := by decide +kernel
theorem dL_law_539 : decode cL_law 539 = .ok (.iaload, 1) := by decide +kernel
theorem dL_law_540 : decode cL_law 540 = .ok (.invokevirtual 78, 3) := by decide +kernel
theorem dL_law_543 : decode cL_law 543 = .ok (.if_icmp .eq 329, 3) := by decide +kernel
theorem dL_law_546 : decode cL_law 546 = .ok (.iconst 0, 1) := by decide +kernel
theorem dL_law_547 : decode cL_law 547 = .ok (.ireturn, 1) := by decide +kernel
theorem dL_law_548 : decode cL_law 548 = .ok (.aload_n 1, 1) := by decide +kernel
theorem dL_law_549 : decode cL_law 549 = .ok (.aload_n 0, 1) := by decide +kernel
theorem dL_law_550 : decode cL_law 550 = .ok (.iload 4, 2) := by decide +kernel
theorem dL_law_552 : decode cL_law 552 = .ok (.iconst 1, 1) := by decide +kernel
theorem dL_law_553 : decode cL_law 553 = .ok (.iadd, 1) := by decide +kernel
theorem dL_law_554 : decode cL_law 554 = .ok (.iaload, 1) := by decide +kernel
theorem dL_law_555 : decode cL_law 555 = .ok (.aload_n 0, 1) := by decide +kernel
theorem dL_law_556 : decode cL_law 556 = .ok (.iload 4, 2) := by decide +kernel
theorem dL_law_558 : decode cL_law 558 = .ok (.iconst 2, 1) := by decide +kernel
theorem dL_law_559 : decode cL_law 559 = .ok (.iadd, 1) := by decide +kernel
theorem dL_law_560 : decode cL_law 560 = .ok (.iaload, 1) := by decide +kernel
theorem dL_law_561 : decode cL_law 561 = .ok (.invokevirtual 79, 3) := by decide +kernel
theorem dL_law_564 : decode cL_law 564 = .ok (.aload_n 2, 1) := by decide +kernel
theorem dL_law_565 : decode cL_law 565 = .ok (.aload_n 0, 1) := by decide +kernel
theorem dL_law_566 : decode cL_law 566 = .ok (.iload 4, 2) := by decide +kernel
theorem dL_law_568 : decode cL_law 568 = .ok (.iconst 1, 1) := by decide +kernel
theorem dL_law_569 : decode cL_law 569 = .ok (.iadd, 1) := by decide +kernel
theorem dL_law_570 : decode cL_law 570 = .ok (.iaload, 1) := by decide +kernel
theorem dL_law_571 : decode cL_law 571 = .ok (.aload_n 0, 1) := by decide +kernel
theorem dL_law_572 : decode cL_law 572 = .ok (.iload 4, 2) := by decide +kernel
theorem dL_law_574 : decode cL_law 574 = .ok (.iconst 2, 1) := by decide +kernel
theorem dL_law_575 : decode cL_law 575 = .ok (.iadd, 1) := by decide +kernel
theorem dL_law_576 : decode cL_law 576 = .ok (.iaload, 1) := by decide +kernel
theorem dL_law_577 : decode cL_law 577 = .ok (.invokevirtual 82, 3) := by decide +kernel
theorem dL_law_580 : decode cL_law 580 = .ok (.if_icmp .eq 292, 3) := by decide +kernel
theorem dL_law_583 : decode cL_law 583 = .ok (.iconst 0, 1) := by decide +kernel
theorem dL_law_584 : decode cL_law 584 = .ok (.ireturn, 1) := by decide +kernel
theorem dL_law_585 : decode cL_law 585 = .ok (.aload_n 1, 1) := by decide +kernel
theorem dL_law_586 : decode cL_law 586 = .ok (.aload_n 0, 1) := by decide +kernel
theorem dL_law_587 : decode cL_law 587 = .ok (.iload 4, 2) := by decide +kernel
theorem dL_law_589 : decode cL_law 589 = .ok (.iconst 1, 1) := by decide +kernel
theorem dL_law_590 : decode cL_law 590 = .ok (.iadd, 1) := by decide +kernel
theorem dL_law_591 : decode cL_law 591 = .ok (.iaload, 1) := by decide +kernel
theorem dL_law_592 : decode cL_law 592 = .ok (.aload_n 0, 1) := by decide +kernel
theorem dL_law_593 : decode cL_law 593 = .ok (.iload 4, 2) := by decide +kernel
theorem dL_law_595 : decode cL_law 595 = .ok (.iconst 2, 1) := by decide +kernel
theorem dL_law_596 : decode cL_law 596 = .ok (.iadd, 1) := by decide +kernel
theorem dL_law_597 : decode cL_law 597 = .ok (.iaload, 1) := by decide +kernel
theorem dL_law_598 : decode cL_law 598 = .ok (.aload_n 3, 1) := by decide +kernel
theorem dL_law_599 : decode cL_law 599 = .ok (.invokestatic 83, 3) := by decide +kernel
theorem dL_law_602 : decode cL_law 602 = .ok (.istore 5, 2) := by decide +kernel
theorem dL_law_604 : decode cL_law 604 = .ok (.aload_n 2, 1) := by decide +kernel
theorem dL_law_605 : decode cL_law 605 = .ok (.aload_n 0, 1) := by decide +kernel
theorem dL_law_606 : decode cL_law 606 = .ok (.iload 4, 2) := by decide +kernel
theorem dL_law_608 : decode cL_law 608 = .ok (.iconst 1, 1) := by decide +kernel
theorem dL_law_609 : decode cL_law 609 = .ok (.iadd, 1) := by decide +kernel
theorem dL_law_610 : decode cL_law 610 = .ok (.iaload, 1) := by decide +kernel
theorem dL_law_611 : decode cL_law 611 = .ok (.aload_n 0, 1) := by decide +kernel
theorem dL_law_612 : decode cL_law 612 = .ok (.iload 4, 2) := by decide +kernel
theorem dL_law_614 : decode cL_law 614 = .ok (.iconst 2, 1) := by decide +kernel
theorem dL_law_615 : decode cL_law 615 = .ok (.iadd, 1) := by decide +kernel
theorem dL_law_616 : decode cL_law 616 = .ok (.iaload, 1) := by decide +kernel
theorem dL_law_617 : decode cL_law 617 = .ok (.invokevirtual 86, 3) := by decide +kernel
theorem dL_law_620 : decode cL_law 620 = .ok (.lstore 6, 2) := by decide +kernel
theorem dL_law_622 : decode cL_law 622 = .ok (.aload_n 2, 1) := by decide +kernel
theorem dL_law_623 : decode cL_law 623 = .ok (.invokevirtual 72, 3) := by decide +kernel
theorem dL_law_626 : decode cL_law 626 = .ok (.iload 5, 2) := by decide +kernel
theorem dL_law_628 : decode cL_law 628 = .ok (.if_icmp .eq 5, 3) := by decide +kernel
theorem dL_law_631 : decode cL_law 631 = .ok (.iconst 0, 1) := by decide +kernel
theorem dL_law_632 : decode cL_law 632 = .ok (.ireturn, 1) := by decide +kernel
theorem dL_law_633 : decode cL_law 633 = .ok (.iload 5, 2) := by decide +kernel
theorem dL_law_635 : decode cL_law 635 = .ok (.ifCond .ne 14, 3) := by decide +kernel
theorem dL_law_638 : decode cL_law 638 = .ok (.aload_n 3, 1) := by decide +kernel
theorem dL_law_639 : decode cL_law 639 = .ok (.iconst 0, 1) := by decide +kernel
theorem dL_law_640 : decode cL_law 640 = .ok (.laload, 1) := by decide +kernel
theorem dL_law_641 : decode cL_law 641 = .ok (.lload 6, 2) := by decide +kernel
theorem dL_law_643 : decode cL_law 643 = .ok (.lcmp, 1) := by decide +kernel
theorem dL_law_644 : decode cL_law 644 = .ok (.ifCond .eq 5, 3) := by decide +kernel
theorem dL_law_647 : decode cL_law 647 = .ok (.iconst 0, 1) := by decide +kernel
theorem dL_law_648 : decode cL_law 648 = .ok (.ireturn, 1) := by decide +kernel
theorem dL_law_649 : decode cL_law 649 = .ok (.goto 223, 3) := by decide +kernel
theorem dL_law_652 : decode cL_law 652 = .ok (.aload_n 1, 1) := by decide +kernel
theorem dL_law_653 : decode cL_law 653 = .ok (.aload_n 0, 1) := by decide +kernel
theorem dL_law_654 : decode cL_law 654 = .ok (.iload 4, 2) := by decide +kernel
theorem dL_law_656 : decode cL_law 656 = .ok (.iconst 1, 1) := by decide +kernel
theorem dL_law_657 : decode cL_law 657 = .ok (.iadd, 1) := by decide +kernel
theorem dL_law_658 : decode cL_law 658 = .ok (.iaload, 1) := by decide +kernel
theorem dL_law_659 : decode cL_law 659 = .ok (.aload_n 0, 1) := by decide +kernel
theorem dL_law_660 : decode cL_law 660 = .ok (.iload 4, 2) := by decide +kernel
theorem dL_law_662 : decode cL_law 662 = .ok (.iconst 2, 1) := by decide +kernel
theorem dL_law_663 : decode cL_law 663 = .ok (.iadd, 1) := by decide +kernel
theorem dL_law_664 : decode cL_law 664 = .ok (.iaload, 1) := by decide +kernel
theorem dL_law_665 : decode cL_law 665 = .ok (.aload_n 0, 1) := by decide +kernel
theorem dL_law_666 : decode cL_law 666 = .ok (.iload 4, 2) := by decide +kernel
theorem dL_law_668 : decode cL_law 668 = .ok (.iconst 3, 1) := by decide +kernel
theorem dL_law_669 : decode cL_law 669 = .ok (.iadd, 1) := by decide +kernel
theorem dL_law_670 : decode cL_law 670 = .ok (.iaload, 1) := by decide +kernel
theorem dL_law_671 : decode cL_law 671 = .ok (.aload_n 3, 1) := by decide +kernel
theorem dL_law_672 : decode cL_law 672 = .ok (.invokestatic 87, 3) := by decide +kernel
theorem dL_law_675 : decode cL_law 675 = .ok (.istore 5, 2) := by decide +kernel
theorem dL_law_677 : decode cL_law 677 = .ok (.aload_n 2, 1) := by decide +kernel
theorem dL_law_678 : decode cL_law 678 = .ok (.aload_n 0, 1) := by decide +kernel
theorem dL_law_679 : decode cL_law 679 = .ok (.iload 4, 2) := by decide +kernel
theorem dL_law_681 : decode cL_law 681 = .ok (.iconst 1, 1) := by decide +kernel
theorem dL_law_682 : decode cL_law 682 = .ok (.iadd, 1) := by decide +kernel
theorem dL_law_683 : decode cL_law 683 = .ok (.iaload, 1) := by decide +kernel
theorem dL_law_684 : decode cL_law 684 = .ok (.aload_n 0, 1) := by decide +kernel
theorem dL_law_685 : decode cL_law 685 = .ok (.iload 4, 2) := by decide +kernel
theorem dL_law_687 : decode cL_law 687 = .ok (.iconst 2, 1) := by decide +kernel
theorem dL_law_688 : decode cL_law 688 = .ok (.iadd, 1) := by decide +kernel
theorem dL_law_689 : decode cL_law 689 = .ok (.iaload, 1) := by decide +kernel
theorem dL_law_690 : decode cL_law 690 = .ok (.aload_n 0, 1) := by decide +kernel
theorem dL_law_691 : decode cL_law 691 = .ok (.iload 4, 2) := by decide +kernel
theorem dL_law_693 : decode cL_law 693 = .ok (.iconst 3, 1) := by decide +kernel
theorem dL_law_694 : decode cL_law 694 = .ok (.iadd, 1) := by decide +kernel
theorem dL_law_695 : decode cL_law 695 = .ok (.iaload, 1) := by decide +kernel
theorem dL_law_696 : decode cL_law 696 = .ok (.invokevirtual 90, 3) := by decide +kernel
theorem dL_law_699 : decode cL_law 699 = .ok (.lstore 6, 2) := by decide +kernel
theorem dL_law_701 : decode cL_law 701 = .ok (.aload_n 2, 1) := by decide +kernel
theorem dL_law_702 : decode cL_law 702 = .ok (.invokevirtual 72, 3) := by decide +kernel
theorem dL_law_705 : decode cL_law 705 = .ok (.iload 5, 2) := by decide +kernel
theorem dL_law_707 : decode cL_law 707 = .ok (.if_icmp .eq 5, 3) := by decide +kernel
theorem dL_law_710 : decode cL_law 710 = .ok (.iconst 0, 1) := by decide +kernel
theorem dL_law_711 : decode cL_law 711 = .ok (.ireturn, 1) := by decide +kernel
theorem dL_law_712 : decode cL_law 712 = .ok (.iload 5, 2) := by decide +kernel
theorem dL_law_714 : decode cL_law 714 = .ok (.ifCond .ne 14, 3) := by decide +kernel
theorem dL_law_717 : decode cL_law 717 = .ok (.aload_n 3, 1) := by decide +kernel
theorem dL_law_718 : decode cL_law 718 = .ok (.iconst 0, 1) := by decide +kernel
theorem dL_law_719 : decode cL_law 719 = .ok (.laload, 1) := by decide +kernel
theorem dL_law_720 : decode cL_law 720 = .ok (.lload 6, 2) := by decide +kernel
theorem dL_law_722 : decode cL_law 722 = .ok (.lcmp, 1) := by decide +kernel
theorem dL_law_723 : decode cL_law 723 = .ok (.ifCond .eq 5, 3) := by decide +kernel
theorem dL_law_726 : decode cL_law 726 = .ok (.iconst 0, 1) := by decide +kernel
theorem dL_law_727 : decode cL_law 727 = .ok (.ireturn, 1) := by decide +kernel
theorem dL_law_728 : decode cL_law 728 = .ok (.goto 144, 3) := by decide +kernel
theorem dL_law_731 : decode cL_law 731 = .ok (.aload_n 1, 1) := by decide +kernel
theorem dL_law_732 : decode cL_law 732 = .ok (.aload_n 0, 1) := by decide +kernel
theorem dL_law_733 : decode cL_law 733 = .ok (.iload 4, 2) := by decide +kernel
theorem dL_law_735 : decode cL_law 735 = .ok (.iconst 1, 1) := by decide +kernel
theorem dL_law_736 : decode cL_law 736 = .ok (.iadd, 1) := by decide +kernel
theorem dL_law_737 : decode cL_law 737 = .ok (.iaload, 1) := by decide +kernel
theorem dL_law_738 : decode cL_law 738 = .ok (.aload_n 0, 1) := by decide +kernel
theorem dL_law_739 : decode cL_law 739 = .ok (.iload 4, 2) := by decide +kernel
theorem dL_law_741 : decode cL_law 741 = .ok (.iconst 2, 1) := by decide +kernel
theorem dL_law_742 : decode cL_law 742 = .ok (.iadd, 1) := by decide +kernel
theorem dL_law_743 : decode cL_law 743 = .ok (.iaload, 1) := by decide +kernel
theorem dL_law_744 : decode cL_law 744 = .ok (.invokevirtual 91, 3) := by decide +kernel
theorem dL_law_747 : decode cL_law 747 = .ok (.aload_n 2, 1) := by decide +kernel
theorem dL_law_748 : decode cL_law 748 = .ok (.aload_n 0, 1) := by decide +kernel
theorem dL_law_749 : decode cL_law 749 = .ok (.iload 4, 2) := by decide +kernel
theorem dL_law_751 : decode cL_law 751 = .ok (.iconst 1, 1) := by decide +kernel
theorem dL_law_752 : decode cL_law 752 = .ok (.iadd, 1) := by decide +kernel
theorem dL_law_753 : decode cL_law 753 = .ok (.iaload, 1) := by decide +kernel
theorem dL_law_754 : decode cL_law 754 = .ok (.aload_n 0, 1) := by decide +kernel
theorem dL_law_755 : decode cL_law 755 = .ok (.iload 4, 2) := by decide +kernel
theorem dL_law_757 : decode cL_law 757 = .ok (.iconst 2, 1) := by decide +kernel
theorem dL_law_758 : decode cL_law 758 = .ok (.iadd, 1) := by decide +kernel
theorem dL_law_759 : decode cL_law 759 = .ok (.iaload, 1) := by decide +kernel
theorem dL_law_760 : decode cL_law 760 = .ok (.invokevirtual 94, 3) := by decide +kernel
theorem dL_law_763 : decode cL_law 763 = .ok (.if_icmp .eq 109, 3) := by decide +kernel
theorem dL_law_766 : decode cL_law 766 = .ok (.iconst 0, 1) := by decide +kernel
theorem dL_law_767 : decode cL_law 767 = .ok (.ireturn, 1) := by decide +kernel
theorem dL_law_768 : decode cL_law 768 = .ok (.aload_n 1, 1) := by decide +kernel
theorem dL_law_769 : decode cL_law 769 = .ok (.aload_n 0, 1) := by decide +kernel
theorem dL_law_770 : decode cL_law 770 = .ok (.iload 4, 2) := by decide +kernel
theorem dL_law_772 : decode cL_law 772 = .ok (.iconst 1, 1) := by decide +kernel
theorem dL_law_773 : decode cL_law 773 = .ok (.iadd, 1) := by decide +kernel
theorem dL_law_774 : decode cL_law 774 = .ok (.iaload, 1) := by decide +kernel
theorem dL_law_775 : decode cL_law 775 = .ok (.aload_n 0, 1) := by decide +kernel
theorem dL_law_776 : decode cL_law 776 = .ok (.iload 4, 2) := by decide +kernel
theorem dL_law_778 : decode cL_law 778 = .ok (.iconst 2, 1) := by decide +kernel
theorem dL_law_779 : decode cL_law 779 = .ok (.iadd, 1) := by decide +kernel
theorem dL_law_780 : decode cL_law 780 = .ok (.iaload, 1) := by decide +kernel
theorem dL_law_781 : decode cL_law 781 = .ok (.invokevirtual 95, 3) := by decide +kernel
theorem dL_law_784 : decode cL_law 784 = .ok (.aload_n 2, 1) := by decide +kernel
theorem dL_law_785 : decode cL_law 785 = .ok (.aload_n 0, 1) := by decide +kernel
theorem dL_law_786 : decode cL_law 786 = .ok (.iload 4, 2) := by decide +kernel
theorem dL_law_788 : decode cL_law 788 = .ok (.iconst 1, 1) := by decide +kernel
theorem dL_law_789 : decode cL_law 789 = .ok (.iadd, 1) := by decide +kernel
theorem dL_law_790 : decode cL_law 790 = .ok (.iaload, 1) := by decide +kernel
theorem dL_law_791 : decode cL_law 791 = .ok (.aload_n 0, 1) := by decide +kernel
theorem dL_law_792 : decode cL_law 792 = .ok (.iload 4, 2) := by decide +kernel
theorem dL_law_794 : decode cL_law 794 = .ok (.iconst 2, 1) := by decide +kernel
theorem dL_law_795 : decode cL_law 795 = .ok (.iadd, 1) := by decide +kernel
theorem dL_law_796 : decode cL_law 796 = .ok (.iaload, 1) := by decide +kernel
theorem dL_law_797 : decode cL_law 797 = .ok (.invokevirtual 98, 3) := by decide +kernel
theorem dL_law_800 : decode cL_law 800 = .ok (.if_icmp .eq 72, 3) := by decide +kernel
theorem dL_law_803 : decode cL_law 803 = .ok (.iconst 0, 1) := by decide +kernel
theorem dL_law_804 : decode cL_law 804 = .ok (.ireturn, 1) := by decide +kernel
theorem dL_law_805 : decode cL_law 805 = .ok (.aload_n 1, 1) := by decide +kernel
theorem dL_law_806 : decode cL_law 806 = .ok (.aload_n 0, 1) := by decide +kernel
theorem dL_law_807 : decode cL_law 807 = .ok (.iload 4, 2) := by decide +kernel
theorem dL_law_809 : decode cL_law 809 = .ok (.iconst 1, 1) := by decide +kernel
theorem dL_law_810 : decode cL_law 810 = .ok (.iadd, 1) := by decide +kernel
theorem dL_law_811 : decode cL_law 811 = .ok (.iaload, 1) := by decide +kernel
theorem dL_law_812 : decode cL_law 812 = .ok (.aload_n 0, 1) := by decide +kernel
theorem dL_law_813 : decode cL_law 813 = .ok (.iload 4, 2) := by decide +kernel
theorem dL_law_815 : decode cL_law 815 = .ok (.iconst 2, 1) := by decide +kernel
theorem dL_law_816 : decode cL_law 816 = .ok (.iadd, 1) := by decide +kernel
theorem dL_law_817 : decode cL_law 817 = .ok (.iaload, 1) := by decide +kernel
theorem dL_law_818 : decode cL_law 818 = .ok (.aload_n 3, 1) := by decide +kernel
theorem dL_law_819 : decode cL_law 819 = .ok (.invokestatic 99, 3) := by decide +kernel
theorem dL_law_822 : decode cL_law 822 = .ok (.istore 5, 2) := by decide +kernel
theorem dL_law_824 : decode cL_law 824 = .ok (.aload_n 2, 1) := by decide +kernel
theorem dL_law_825 : decode cL_law 825 = .ok (.aload_n 0, 1) := by decide +kernel
theorem dL_law_826 : decode cL_law 826 = .ok (.iload 4, 2) := by decide +kernel
theorem dL_law_828 : decode cL_law 828 = .ok (.iconst 1, 1) := by decide +kernel
theorem dL_law_829 : decode cL_law 829 = .ok (.iadd, 1) := by decide +kernel
theorem dL_law_830 : decode cL_law 830 = .ok (.iaload, 1) := by decide +kernel
theorem dL_law_831 : decode cL_law 831 = .ok (.aload_n 0, 1) := by decide +kernel
theorem dL_law_832 : decode cL_law 832 = .ok (.iload 4, 2) := by decide +kernel
theorem dL_law_834 : decode cL_law 834 = .ok (.iconst 2, 1) := by decide +kernel
theorem dL_law_835 : decode cL_law 835 = .ok (.iadd, 1) := by decide +kernel
theorem dL_law_836 : decode cL_law 836 = .ok (.iaload, 1) := by decide +kernel
theorem dL_law_837 : decode cL_law 837 = .ok (.invokevirtual 101, 3) := by decide +kernel
theorem dL_law_840 : decode cL_law 840 = .ok (.lstore 6, 2) := by decide +kernel
theorem dL_law_842 : decode cL_law 842 = .ok (.aload_n 2, 1) := by decide +kernel
theorem dL_law_843 : decode cL_law 843 = .ok (.invokevirtual 72, 3) := by decide +kernel
theorem dL_law_846 : decode cL_law 846 = .ok (.iload 5, 2) := by decide +kernel
theorem dL_law_848 : decode cL_law 848 = .ok (.if_icmp .eq 5, 3) := by decide +kernel
theorem dL_law_851 : decode cL_law 851 = .ok (.iconst 0, 1) := by decide +kernel
theorem dL_law_852 : decode cL_law 852 = .ok (.ireturn, 1) := by decide +kernel
theorem dL_law_853 : decode cL_law 853 = .ok (.iload 5, 2) := by decide +kernel
theorem dL_law_855 : decode cL_law 855 = .ok (.ifCond .ne 14, 3) := by decide +kernel
theorem dL_law_858 : decode cL_law 858 = .ok (.aload_n 3, 1) := by decide +kernel
theorem dL_law_859 : decode cL_law 859 = .ok (.iconst 0, 1) := by decide +kernel
theorem dL_law_860 : decode cL_law 860 = .ok (.laload, 1) := by decide +kernel
theorem dL_law_861 : decode cL_law 861 = .ok (.lload 6, 2) := by decide +kernel
theorem dL_law_863 : decode cL_law 863 = .ok (.lcmp, 1) := by decide +kernel
theorem dL_law_864 : decode cL_law 864 = .ok (.ifCond .eq 5, 3) := by decide +kernel
theorem dL_law_867 : decode cL_law 867 = .ok (.iconst 0, 1) := by decide +kernel
theorem dL_law_868 : decode cL_law 868 = .ok (.ireturn, 1) := by decide +kernel
theorem dL_law_869 : decode cL_law 869 = .ok (.goto 3, 3) := by decide +kernel
theorem dL_law_872 : decode cL_law 872 = .ok (.iinc 4 5, 3) := by decide +kernel
theorem dL_law_875 : decode cL_law 875 = .ok (.goto (-852), 3) := by decide +kernel
theorem dL_law_878 : decode cL_law 878 = .ok (.iconst 1, 1) := by decide +kernel
theorem dL_law_879 : decode cL_law 879 = .ok (.ireturn, 1) := by decide +kernel
set_option maxRecDepth 100000 in
theorem ww_Law_101 : Cond.code yX8_look cX8_look 3 (some .long) ∈ lw_tb ∧ Cond.methodLink "LiveQueriesLaw" 101 yX8_look ∈ lw_tb ∧ Cond.instanceMethod yX8_look ∈ lw_tb ∧ Cond.selects yX8_look.cls yX8_look yX8_look ∈ lw_tb ∧ Cond.initialized yX8_look.cls ∈ lw_tb := ⟨tb 1165 rfl rfl, tb 1162 (by decide +kernel) (by decide +kernel), tb 1163 (by decide +kernel) (by decide +kernel), tb 1164 (by decide +kernel) (by decide +kernel), tb 78 (by decide +kernel) (by decide +kernel)⟩
set_option maxRecDepth 100000 in
theorem ww_Law_15 : Cond.code yX7_key cX7_key 4 (some .long) ∈ lw_tb ∧ Cond.methodLink "LiveQueriesLaw" 15 yX7_key ∈ lw_tb ∧ Cond.instanceMethod yX7_key ∈ lw_tb ∧ Cond.selects yX7_key.cls yX7_key yX7_key ∈ lw_tb ∧ Cond.initialized yX7_key.cls ∈ lw_tb := ⟨tb 786 rfl rfl, tb 783 (by decide +kernel) (by decide +kernel), tb 784 (by decide +kernel) (by decide +kernel), tb 785 (by decide +kernel) (by decide +kernel), tb 70 (by decide +kernel) (by decide +kernel)⟩
set_option maxRecDepth 100000 in
theorem ww_Law_21 : Cond.code yX7_group cX7_group 5 (some .long) ∈ lw_tb ∧ Cond.methodLink "LiveQueriesLaw" 21 yX7_group ∈ lw_tb ∧ Cond.instanceMethod yX7_group ∈ lw_tb ∧ Cond.selects yX7_group.cls yX7_group yX7_group ∈ lw_tb ∧ Cond.initialized yX7_group.cls ∈ lw_tb := ⟨tb 814 rfl rfl, tb 811 (by decide +kernel) (by decide +kernel), tb 812 (by decide +kernel) (by decide +kernel), tb 813 (by decide +kernel) (by decide +kernel), tb 70 (by decide +kernel) (by decide +kernel)⟩
set_option maxRecDepth 100000 in
theorem ww_Law_25 : Cond.code yX7_look cX7_look 3 (some .long) ∈ lw_tb ∧ Cond.methodLink "LiveQueriesLaw" 25 yX7_look ∈ lw_tb ∧ Cond.instanceMethod yX7_look ∈ lw_tb ∧ Cond.selects yX7_look.cls yX7_look yX7_look ∈ lw_tb ∧ Cond.initialized yX7_look.cls ∈ lw_tb := ⟨tb 840 rfl rfl, tb 837 (by decide +kernel) (by decide +kernel), tb 838 (by decide +kernel) (by decide +kernel), tb 839 (by decide +kernel) (by decide +kernel), tb 70 (by decide +kernel) (by decide +kernel)⟩
set_option maxRecDepth 100000 in
theorem ww_Law_32 : Cond.code yX7_object cX7_object 3 (some .int) ∈ lw_tb ∧ Cond.methodLink "LiveQueriesLaw" 32 yX7_object ∈ lw_tb ∧ Cond.instanceMethod yX7_object ∈ lw_tb ∧ Cond.selects yX7_object.cls yX7_object yX7_object ∈ lw_tb ∧ Cond.initialized yX7_object.cls ∈ lw_tb := ⟨tb 325 rfl rfl, tb 322 (by decide +kernel) (by decide +kernel), tb 323 (by decide +kernel) (by decide +kernel), tb 324 (by decide +kernel) (by decide +kernel), tb 70 (by decide +kernel) (by decide +kernel)⟩
set_option maxRecDepth 100000 in
theorem ww_Law_36 : Cond.code yX8_object cX8_object 3 (some .int) ∈ lw_tb ∧ Cond.methodLink "LiveQueriesLaw" 36 yX8_object ∈ lw_tb ∧ Cond.instanceMethod yX8_object ∈ lw_tb ∧ Cond.selects yX8_object.cls yX8_object yX8_object ∈ lw_tb ∧ Cond.initialized yX8_object.cls ∈ lw_tb := ⟨tb 980 rfl rfl, tb 977 (by decide +kernel) (by decide +kernel), tb 978 (by decide +kernel) (by decide +kernel), tb 979 (by decide +kernel) (by decide +kernel), tb 78 (by decide +kernel) (by decide +kernel)⟩
set_option maxRecDepth 100000 in
theorem ww_Law_39 : Cond.code yX7_put cX7_put 5 (some .int) ∈ lw_tb ∧ Cond.methodLink "LiveQueriesLaw" 39 yX7_put ∈ lw_tb ∧ Cond.instanceMethod yX7_put ∈ lw_tb ∧ Cond.selects yX7_put.cls yX7_put yX7_put ∈ lw_tb ∧ Cond.initialized yX7_put.cls ∈ lw_tb := ⟨tb 498 rfl rfl, tb 495 (by decide +kernel) (by decide +kernel), tb 496 (by decide +kernel) (by decide +kernel), tb 497 (by decide +kernel) (by decide +kernel), tb 70 (by decide +kernel) (by decide +kernel)⟩
set_option maxRecDepth 100000 in
theorem ww_Law_43 : Cond.code yX8_put cX8_put 5 (some .int) ∈ lw_tb ∧ Cond.methodLink "LiveQueriesLaw" 43 yX8_put ∈ lw_tb ∧ Cond.instanceMethod yX8_put ∈ lw_tb ∧ Cond.selects yX8_put.cls yX8_put yX8_put ∈ lw_tb ∧ Cond.initialized yX8_put.cls ∈ lw_tb := ⟨tb 1032 rfl rfl, tb 1029 (by decide +kernel) (by decide +kernel), tb 1030 (by decide +kernel) (by decide +kernel), tb 1031 (by decide +kernel) (by decide +kernel), tb 78 (by decide +kernel) (by decide +kernel)⟩
set_option maxRecDepth 100000 in
theorem ww_Law_44 : Cond.code yX7_refer cX7_refer 3 (some .int) ∈ lw_tb ∧ Cond.methodLink "LiveQueriesLaw" 44 yX7_refer ∈ lw_tb ∧ Cond.instanceMethod yX7_refer ∈ lw_tb ∧ Cond.selects yX7_refer.cls yX7_refer yX7_refer ∈ lw_tb ∧ Cond.initialized yX7_refer.cls ∈ lw_tb := ⟨tb 506 rfl rfl, tb 503 (by decide +kernel) (by decide +kernel), tb 504 (by decide +kernel) (by decide +kernel), tb 505 (by decide +kernel) (by decide +kernel), tb 70 (by decide +kernel) (by decide +kernel)⟩
set_option maxRecDepth 100000 in
theorem ww_Law_48 : Cond.code yX8_refer cX8_refer 3 (some .int) ∈ lw_tb ∧ Cond.methodLink "LiveQueriesLaw" 48 yX8_refer ∈ lw_tb ∧ Cond.instanceMethod yX8_refer ∈ lw_tb ∧ Cond.selects yX8_refer.cls yX8_refer yX8_refer ∈ lw_tb ∧ Cond.initialized yX8_refer.cls ∈ lw_tb := ⟨tb 1040 rfl rfl, tb 1037 (by decide +kernel) (by decide +kernel), tb 1038 (by decide +kernel) (by decide +kernel), tb 1039 (by decide +kernel) (by decide +kernel), tb 78 (by decide +kernel) (by decide +kernel)⟩
set_option maxRecDepth 100000 in
theorem ww_Law_49 : Cond.code yX7_row cX7_row 3 (some .int) ∈ lw_tb ∧ Cond.methodLink "LiveQueriesLaw" 49 yX7_row ∈ lw_tb ∧ Cond.instanceMethod yX7_row ∈ lw_tb ∧ Cond.selects yX7_row.cls yX7_row yX7_row ∈ lw_tb ∧ Cond.initialized yX7_row.cls ∈ lw_tb := ⟨tb 514 rfl rfl, tb 511 (by decide +kernel) (by decide +kernel), tb 512 (by decide +kernel) (by decide +kernel), tb 513 (by decide +kernel) (by decide +kernel), tb 70 (by decide +kernel) (by decide +kernel)⟩
set_option maxRecDepth 100000 in
theorem ww_Law_52 : Cond.code yX8_row cX8_row 4 (some .int) ∈ lw_tb ∧ Cond.methodLink "LiveQueriesLaw" 52 yX8_row ∈ lw_tb ∧ Cond.instanceMethod yX8_row ∈ lw_tb ∧ Cond.selects yX8_row.cls yX8_row yX8_row ∈ lw_tb ∧ Cond.initialized yX8_row.cls ∈ lw_tb := ⟨tb 1044 rfl rfl, tb 1041 (by decide +kernel) (by decide +kernel), tb 1042 (by decide +kernel) (by decide +kernel), tb 1043 (by decide +kernel) (by decide +kernel), tb 78 (by decide +kernel) (by decide +kernel)⟩
set_option maxRecDepth 100000 in
theorem ww_Law_53 : Cond.code yX7_item cX7_item 5 (some .int) ∈ lw_tb ∧ Cond.methodLink "LiveQueriesLaw" 53 yX7_item ∈ lw_tb ∧ Cond.instanceMethod yX7_item ∈ lw_tb ∧ Cond.selects yX7_item.cls yX7_item yX7_item ∈ lw_tb ∧ Cond.initialized yX7_item.cls ∈ lw_tb := ⟨tb 522 rfl rfl, tb 519 (by decide +kernel) (by decide +kernel), tb 520 (by decide +kernel) (by decide +kernel), tb 521 (by decide +kernel) (by decide +kernel), tb 70 (by decide +kernel) (by decide +kernel)⟩
set_option maxRecDepth 100000 in
theorem ww_Law_56 : Cond.code yX8_item cX8_item 5 (some .int) ∈ lw_tb ∧ Cond.methodLink "LiveQueriesLaw" 56 yX8_item ∈ lw_tb ∧ Cond.instanceMethod yX8_item ∈ lw_tb ∧ Cond.selects yX8_item.cls yX8_item yX8_item ∈ lw_tb ∧ Cond.initialized yX8_item.cls ∈ lw_tb := ⟨tb 1048 rfl rfl, tb 1045 (by decide +kernel) (by decide +kernel), tb 1046 (by decide +kernel) (by decide +kernel), tb 1047 (by decide +kernel) (by decide +kernel), tb 78 (by decide +kernel) (by decide +kernel)⟩
set_option maxRecDepth 100000 in
theorem ww_Law_57 : Cond.code yX7_drop cX7_drop 2 (some .int) ∈ lw_tb ∧ Cond.methodLink "LiveQueriesLaw" 57 yX7_drop ∈ lw_tb ∧ Cond.instanceMethod yX7_drop ∈ lw_tb ∧ Cond.selects yX7_drop.cls yX7_drop yX7_drop ∈ lw_tb ∧ Cond.initialized yX7_drop.cls ∈ lw_tb := ⟨tb 530 rfl rfl, tb 527 (by decide +kernel) (by decide +kernel), tb 528 (by decide +kernel) (by decide +kernel), tb 529 (by decide +kernel) (by decide +kernel), tb 70 (by decide +kernel) (by decide +kernel)⟩
set_option maxRecDepth 100000 in
theorem ww_Law_60 : Cond.code yX8_drop cX8_drop 2 (some .int) ∈ lw_tb ∧ Cond.methodLink "LiveQueriesLaw" 60 yX8_drop ∈ lw_tb ∧ Cond.instanceMethod yX8_drop ∈ lw_tb ∧ Cond.selects yX8_drop.cls yX8_drop yX8_drop ∈ lw_tb ∧ Cond.initialized yX8_drop.cls ∈ lw_tb := ⟨tb 1052 rfl rfl, tb 1049 (by decide +kernel) (by decide +kernel), tb 1050 (by decide +kernel) (by decide +kernel), tb 1051 (by decide +kernel) (by decide +kernel), tb 78 (by decide +kernel) (by decide +kernel)⟩
set_option maxRecDepth 100000 in
theorem ww_Law_61 : Cond.code yX7_type cX7_type 4 (some .boolean) ∈ lw_tb ∧ Cond.methodLink "LiveQueriesLaw" 61 yX7_type ∈ lw_tb ∧ Cond.instanceMethod yX7_type ∈ lw_tb ∧ Cond.selects yX7_type.cls yX7_type yX7_type ∈ lw_tb ∧ Cond.initialized yX7_type.cls ∈ lw_tb := ⟨tb 538 rfl rfl, tb 535 (by decide +kernel) (by decide +kernel), tb 536 (by decide +kernel) (by decide +kernel), tb 537 (by decide +kernel) (by decide +kernel), tb 70 (by decide +kernel) (by decide +kernel)⟩
set_option maxRecDepth 100000 in
theorem ww_Law_65 : Cond.code yX8_type cX8_type 6 (some .boolean) ∈ lw_tb ∧ Cond.methodLink "LiveQueriesLaw" 65 yX8_type ∈ lw_tb ∧ Cond.instanceMethod yX8_type ∈ lw_tb ∧ Cond.selects yX8_type.cls yX8_type yX8_type ∈ lw_tb ∧ Cond.initialized yX8_type.cls ∈ lw_tb := ⟨tb 1056 rfl rfl, tb 1053 (by decide +kernel) (by decide +kernel), tb 1054 (by decide +kernel) (by decide +kernel), tb 1055 (by decide +kernel) (by decide +kernel), tb 78 (by decide +kernel) (by decide +kernel)⟩
set_option maxRecDepth 100000 in
theorem ww_Law_7 : Cond.code yX7_query cX7_query 3 (some .int) ∈ lw_tb ∧ Cond.methodLink "LiveQueriesLaw" 7 yX7_query ∈ lw_tb ∧ Cond.instanceMethod yX7_query ∈ lw_tb ∧ Cond.selects yX7_query.cls yX7_query yX7_query ∈ lw_tb ∧ Cond.initialized yX7_query.cls ∈ lw_tb := ⟨tb 611 rfl rfl, tb 608 (by decide +kernel) (by decide +kernel), tb 609 (by decide +kernel) (by decide +kernel), tb 610 (by decide +kernel) (by decide +kernel), tb 70 (by decide +kernel) (by decide +kernel)⟩
set_option maxRecDepth 100000 in
theorem ww_Law_71 : Cond.code yX8_query cX8_query 2 (some .int) ∈ lw_tb ∧ Cond.methodLink "LiveQueriesLaw" 71 yX8_query ∈ lw_tb ∧ Cond.instanceMethod yX8_query ∈ lw_tb ∧ Cond.selects yX8_query.cls yX8_query yX8_query ∈ lw_tb ∧ Cond.initialized yX8_query.cls ∈ lw_tb := ⟨tb 1061 rfl rfl, tb 1058 (by decide +kernel) (by decide +kernel), tb 1059 (by decide +kernel) (by decide +kernel), tb 1060 (by decide +kernel) (by decide +kernel), tb 78 (by decide +kernel) (by decide +kernel)⟩
set_option maxRecDepth 100000 in
theorem ww_Law_72 : Cond.code yX8_thrown cX8_thrown 1 (some .int) ∈ lw_tb ∧ Cond.methodLink "LiveQueriesLaw" 72 yX8_thrown ∈ lw_tb ∧ Cond.instanceMethod yX8_thrown ∈ lw_tb ∧ Cond.selects yX8_thrown.cls yX8_thrown yX8_thrown ∈ lw_tb ∧ Cond.initialized yX8_thrown.cls ∈ lw_tb := ⟨tb 976 rfl rfl, tb 973 (by decide +kernel) (by decide +kernel), tb 974 (by decide +kernel) (by decide +kernel), tb 975 (by decide +kernel) (by decide +kernel), tb 78 (by decide +kernel) (by decide +kernel)⟩
set_option maxRecDepth 100000 in
theorem ww_Law_75 : Cond.code yX7_size cX7_size 4 (some .int) ∈ lw_tb ∧ Cond.methodLink "LiveQueriesLaw" 75 yX7_size ∈ lw_tb ∧ Cond.instanceMethod yX7_size ∈ lw_tb ∧ Cond.selects yX7_size.cls yX7_size yX7_size ∈ lw_tb ∧ Cond.initialized yX7_size.cls ∈ lw_tb := ⟨tb 553 rfl rfl, tb 550 (by decide +kernel) (by decide +kernel), tb 551 (by decide +kernel) (by decide +kernel), tb 552 (by decide +kernel) (by decide +kernel), tb 70 (by decide +kernel) (by decide +kernel)⟩
set_option maxRecDepth 100000 in
theorem ww_Law_78 : Cond.code yX8_size cX8_size 3 (some .int) ∈ lw_tb ∧ Cond.methodLink "LiveQueriesLaw" 78 yX8_size ∈ lw_tb ∧ Cond.instanceMethod yX8_size ∈ lw_tb ∧ Cond.selects yX8_size.cls yX8_size yX8_size ∈ lw_tb ∧ Cond.initialized yX8_size.cls ∈ lw_tb := ⟨tb 1129 rfl rfl, tb 1126 (by decide +kernel) (by decide +kernel), tb 1127 (by decide +kernel) (by decide +kernel), tb 1128 (by decide +kernel) (by decide +kernel), tb 78 (by decide +kernel) (by decide +kernel)⟩
set_option maxRecDepth 100000 in
theorem ww_Law_79 : Cond.code yX7_got cX7_got 3 (some .int) ∈ lw_tb ∧ Cond.methodLink "LiveQueriesLaw" 79 yX7_got ∈ lw_tb ∧ Cond.instanceMethod yX7_got ∈ lw_tb ∧ Cond.selects yX7_got.cls yX7_got yX7_got ∈ lw_tb ∧ Cond.initialized yX7_got.cls ∈ lw_tb := ⟨tb 570 rfl rfl, tb 567 (by decide +kernel) (by decide +kernel), tb 568 (by decide +kernel) (by decide +kernel), tb 569 (by decide +kernel) (by decide +kernel), tb 70 (by decide +kernel) (by decide +kernel)⟩
set_option maxRecDepth 100000 in
theorem ww_Law_82 : Cond.code yX8_got cX8_got 3 (some .int) ∈ lw_tb ∧ Cond.methodLink "LiveQueriesLaw" 82 yX8_got ∈ lw_tb ∧ Cond.instanceMethod yX8_got ∈ lw_tb ∧ Cond.selects yX8_got.cls yX8_got yX8_got ∈ lw_tb ∧ Cond.initialized yX8_got.cls ∈ lw_tb := ⟨tb 1145 rfl rfl, tb 1142 (by decide +kernel) (by decide +kernel), tb 1143 (by decide +kernel) (by decide +kernel), tb 1144 (by decide +kernel) (by decide +kernel), tb 78 (by decide +kernel) (by decide +kernel)⟩
set_option maxRecDepth 100000 in
theorem ww_Law_86 : Cond.code yX8_key cX8_key 3 (some .long) ∈ lw_tb ∧ Cond.methodLink "LiveQueriesLaw" 86 yX8_key ∈ lw_tb ∧ Cond.instanceMethod yX8_key ∈ lw_tb ∧ Cond.selects yX8_key.cls yX8_key yX8_key ∈ lw_tb ∧ Cond.initialized yX8_key.cls ∈ lw_tb := ⟨tb 1149 rfl rfl, tb 1146 (by decide +kernel) (by decide +kernel), tb 1147 (by decide +kernel) (by decide +kernel), tb 1148 (by decide +kernel) (by decide +kernel), tb 78 (by decide +kernel) (by decide +kernel)⟩
set_option maxRecDepth 100000 in
theorem ww_Law_90 : Cond.code yX8_group cX8_group 4 (some .long) ∈ lw_tb ∧ Cond.methodLink "LiveQueriesLaw" 90 yX8_group ∈ lw_tb ∧ Cond.instanceMethod yX8_group ∈ lw_tb ∧ Cond.selects yX8_group.cls yX8_group yX8_group ∈ lw_tb ∧ Cond.initialized yX8_group.cls ∈ lw_tb := ⟨tb 1153 rfl rfl, tb 1150 (by decide +kernel) (by decide +kernel), tb 1151 (by decide +kernel) (by decide +kernel), tb 1152 (by decide +kernel) (by decide +kernel), tb 78 (by decide +kernel) (by decide +kernel)⟩
set_option maxRecDepth 100000 in
theorem ww_Law_91 : Cond.code yX7_differ cX7_differ 6 (some .int) ∈ lw_tb ∧ Cond.methodLink "LiveQueriesLaw" 91 yX7_differ ∈ lw_tb ∧ Cond.instanceMethod yX7_differ ∈ lw_tb ∧ Cond.selects yX7_differ.cls yX7_differ yX7_differ ∈ lw_tb ∧ Cond.initialized yX7_differ.cls ∈ lw_tb := ⟨tb 578 rfl rfl, tb 575 (by decide +kernel) (by decide +kernel), tb 576 (by decide +kernel) (by decide +kernel), tb 577 (by decide +kernel) (by decide +kernel), tb 70 (by decide +kernel) (by decide +kernel)⟩
set_option maxRecDepth 100000 in
theorem ww_Law_94 : Cond.code yX8_differ cX8_differ 3 (some .int) ∈ lw_tb ∧ Cond.methodLink "LiveQueriesLaw" 94 yX8_differ ∈ lw_tb ∧ Cond.instanceMethod yX8_differ ∈ lw_tb ∧ Cond.selects yX8_differ.cls yX8_differ yX8_differ ∈ lw_tb ∧ Cond.initialized yX8_differ.cls ∈ lw_tb := ⟨tb 1157 rfl rfl, tb 1154 (by decide +kernel) (by decide +kernel), tb 1155 (by decide +kernel) (by decide +kernel), tb 1156 (by decide +kernel) (by decide +kernel), tb 78 (by decide +kernel) (by decide +kernel)⟩
set_option maxRecDepth 100000 in
theorem ww_Law_95 : Cond.code yX7_uses cX7_uses 3 (some .int) ∈ lw_tb ∧ Cond.methodLink "LiveQueriesLaw" 95 yX7_uses ∈ lw_tb ∧ Cond.instanceMethod yX7_uses ∈ lw_tb ∧ Cond.selects yX7_uses.cls yX7_uses yX7_uses ∈ lw_tb ∧ Cond.initialized yX7_uses.cls ∈ lw_tb := ⟨tb 598 rfl rfl, tb 595 (by decide +kernel) (by decide +kernel), tb 596 (by decide +kernel) (by decide +kernel), tb 597 (by decide +kernel) (by decide +kernel), tb 70 (by decide +kernel) (by decide +kernel)⟩
set_option maxRecDepth 100000 in
theorem ww_Law_98 : Cond.code yX8_uses cX8_uses 5 (some .int) ∈ lw_tb ∧ Cond.methodLink "LiveQueriesLaw" 98 yX8_uses ∈ lw_tb ∧ Cond.instanceMethod yX8_uses ∈ lw_tb ∧ Cond.selects yX8_uses.cls yX8_uses yX8_uses ∈ lw_tb ∧ Cond.initialized yX8_uses.cls ∈ lw_tb := ⟨tb 1161 rfl rfl, tb 1158 (by decide +kernel) (by decide +kernel), tb 1159 (by decide +kernel) (by decide +kernel), tb 1160 (by decide +kernel) (by decide +kernel), tb 78 (by decide +kernel) (by decide +kernel)⟩
theorem tw_1166 : Cond.constantLong "LiveQueriesLaw" 37 4294967295 ∈ lw_tb := tb 1166 (by decide +kernel) (by decide +kernel)
set_option maxRecDepth 100000 in
theorem wh_query : Cond.codeWith yL_query cL_query 3 (some .int) [(0, 8, 11, 13)] ∈ lw_tb ∧ Cond.methodLink "LiveQueriesLaw" 66 yL_query ∈ lw_tb ∧ Cond.static yL_query ∈ lw_tb ∧ Cond.initialized yL_query.cls ∈ lw_tb := ⟨tb 606 rfl rfl, tb 604 (by decide +kernel) (by decide +kernel), tb 605 (by decide +kernel) (by decide +kernel), tb 69 (by decide +kernel) (by decide +kernel)⟩
set_option maxRecDepth 100000 in
theorem wh_key : Cond.codeWith yL_key cL_key 5 (some .int) [(0, 9, 12, 19)] ∈ lw_tb ∧ Cond.methodLink "LiveQueriesLaw" 83 yL_key ∈ lw_tb ∧ Cond.static yL_key ∈ lw_tb ∧ Cond.initialized yL_key.cls ∈ lw_tb := ⟨tb 781 rfl rfl, tb 779 (by decide +kernel) (by decide +kernel), tb 780 (by decide +kernel) (by decide +kernel), tb 69 (by decide +kernel) (by decide +kernel)⟩
set_option maxRecDepth 100000 in
theorem wh_group : Cond.codeWith yL_group cL_group 6 (some .int) [(0, 11, 14, 19)] ∈ lw_tb ∧ Cond.methodLink "LiveQueriesLaw" 87 yL_group ∈ lw_tb ∧ Cond.static yL_group ∈ lw_tb ∧ Cond.initialized yL_group.cls ∈ lw_tb := ⟨tb 810 rfl rfl, tb 808 (by decide +kernel) (by decide +kernel), tb 809 (by decide +kernel) (by decide +kernel), tb 69 (by decide +kernel) (by decide +kernel)⟩
set_option maxRecDepth 100000 in
theorem wh_look : Cond.codeWith yL_look cL_look 5 (some .int) [(0, 9, 12, 19)] ∈ lw_tb ∧ Cond.methodLink "LiveQueriesLaw" 99 yL_look ∈ lw_tb ∧ Cond.static yL_look ∈ lw_tb ∧ Cond.initialized yL_look.cls ∈ lw_tb := ⟨tb 836 rfl rfl, tb 834 (by decide +kernel) (by decide +kernel), tb 835 (by decide +kernel) (by decide +kernel), tb 69 (by decide +kernel) (by decide +kernel)⟩
/-! the law's own rows: the class's state and the reference's in one world; try, catch; the script -/
abbrev cS : Type := zS × zS × zS × zS × zS × zS × (Nat → zS) × (Nat → zS) × (Nat → zS) × Value × Nat
abbrev cR : Type := (Nat → Nat) × (Nat → Nat) × (Nat → Nat) × (Nat → Nat) × (Nat → Nat) × (Nat → Nat) × (Nat → Nat → Nat) × (Nat → Nat → Nat) × (Nat → Nat → Nat)
def cW (E : zE) : cR → cS → va_W
  | (r, rs, rt, rr, rq, rw, rk, rp, rg), (S, SQ, SS, ST, SR, SW, SK, SG, SP, xp, nq) => lqw E r (rs 0) (rt 0) (rr 0) (rq 0) (mrd S (nI nq)) ++ qaw E rq (fun q => some (rk q 0)) SQ ++ sw E rs SS ++ tpw E rt ST ++ rdw E rr (rt 0) xp SR ++ wkw E rw (rs 0) SW ++ k6 E rk rp rg rs rw SK SG SP
def RELx : cS → zS → Prop
  | (_, _, SS, ST, _, _, SK, SG, SP, _, nq), SM => ∃ (m : Nat) (D : Nat → Nat → zD) (G : Nat → List zNd) (lm : Nat → Nat) (sx : Nat → Nat → Nat) (c : Nat → zC), REL SM SS ST SK SG SP m nq D G lm sx c ∧ (dLs SK nq).length ≤ 360
def ow (E : zE) (ro : Nat → Nat) (S : zS) : va_W := [(ro 0, .inl (E.2 1, 1, .inr (.inl (zb S 0))))]
abbrev lwW (E : zE) (R : cR) (ro rm : Nat → Nat) (c : cS) (f SM : zS) : va_W := cW E R c ++ (ow E ro f ++ mw E rm SM)
abbrev cP (E : zE) (R : cR) (a : Value) (P : cS → Prop) : Option Value → va_W → Prop := fun v_ w_ => v_ = some a ∧ ∃ c : cS, w_ = cW E R c ∧ P c
abbrev mP (E : zE) (rm : Nat → Nat) (a : Value) (Q : zS → Prop) : Option Value → va_W → Prop := fun v_ w_ => v_ = some a ∧ ∃ S : zS, w_ = mw E rm S ∧ Q S
theorem cW_0 (E : zE) (R : cR) (c : cS) : ∃ fs : List Value, (cW E R c)[0]? = some (R.1 0, .inr (7, fs)) := ⟨_, rfl⟩
theorem mw_0 (E : zE) (rm : Nat → Nat) (S : zS) : ∃ fs : List Value, (mw E rm S)[0]? = some (rm 0, .inr (8, fs)) := ⟨_, rfl⟩
/-- a contract of a method with a table of handlers -/
def CtH (l : Launch) (y : MethodName) (b : ByteArray) (nl : Nat) (rt : Option FieldType) (hh : List (Nat × Nat × Nat × Nat)) (rm : Room) (E : zE) (w0 : va_W) (as : List Value) (post : Option Value → va_W → Prop) : Prop :=
  ∀ sz : Nat, Met l y (.codeWith y b nl rt hh :: lw_tb) rm (xPre E w0 as sz) (ctQ E w0 sz post) rm.cells rm.slots (va_A w0 sz)
def zX (X : zT) : Prop :=
  match X with
  | (_, l, _, _, s, _, _, _, _, _, _, A, _, _) => l.stackTraces = false ∧ xOk A s
def zXt (X : zT) (hh : List (Nat × Nat × Nat × Nat)) : Prop :=
  match X with
  | (_, _, _, _, _, _, _, _, _, c, _, _, _, _) => c.exceptionTable.toList = tableOf hh
theorem CtH.of {l : Launch} {y : MethodName} {b : ByteArray} {nl : Nat} {rt : Option FieldType} {hh : List (Nat × Nat × Nat × Nat)} {rm : Room} {E : zE} {w0 : va_W} {as : List Value} {post : Option Value → va_W → Prop} (hl : l.stackTraces = false) (hy : plainName y.cls = true) (ha : (lg_sl as).length ≤ nl) {lv : List (Nat × Value)} (hlv : lv_args 0 as = lv)
    (body : ∀ X : zT, zF X l rm E b nl y.cls → zR X rt post rm.cells rm.slots → zX X → zXt X hh → Z X 0 0 w0 lv 0 []) : CtH l y b nl rt hh rm E w0 as post := by
  intro sz
  refine MetFree.of_bodyS (code := b) (maxLocals := nl) (ret := rt) hy ?_ ?_
  · intro args s m h hn
    obtain ⟨m9, meth, c, hn9, h1, h2, h3, h4, -, h5, h6, -⟩ := Cond.codeWith_spec (atoms_spec (ws := .codeWith y b nl rt hh :: lw_tb) h _ List.mem_cons_self)
    cases hn.symm.trans hn9
    exact ⟨meth, c, h1, h2, h3, h4, h5, h6⟩
  · intro p e s m args below meth c s₁ B hml hv _
    have hh0 : s₁.heap = s.heap := by rw [B.state]; rfl
    obtain ⟨rfl, hsz, hP, hK, hD0, hNw, hX⟩ := hv
    subst hsz
    have hts := atoms_spec (ws := .codeWith y b nl rt hh :: lw_tb) B.pre
    have hown : s.vm.findClass y.cls = some m.cls := findClass_of_methodNamed B.named
    have ht := vx_table (x := y) B (hts _ List.mem_cons_self)
    have K := body (p, l, e, rm, s, m, as.toArray, below, meth, c, E, va_A w0 s.heap.size, nl, MQ below (ctQ E w0 s.heap.size post) as.toArray s rm.cells rm.slots (va_A w0 s.heap.size))
      ⟨rfl, rfl, rfl, rfl, B.exec, B.bytes, hml, hown, fun w hw => hts w (List.mem_cons_of_mem _ hw), hK, fun q h => Or.inr h, B.notSynchronized, hNw⟩ ⟨B.returns, w0, rfl, rfl⟩ ⟨hl, hX⟩ ht
    have hlx := lv_entry as (n := nl) ha
    have KW : W p l e rm s m as.toArray below meth c s.heap [] 0 0 (MQ below (ctQ E w0 s.heap.size post) as.toArray s rm.cells rm.slots (va_A w0 s.heap.size)) (entryFrame m as.toArray nl) := by
      rw [lg_entry_eq]
      generalize (lg_sl as ++ List.replicate (nl - (lg_sl as).length) Slot.unset).toArray = ls at hlx ⊢
      exact K s.heap [] ls hP hD0.self va_S.rf (by rw [← hlv]; exact hlx)
    obtain ⟨t, a1, o, b1, b2, b3, b4⟩ := KW s₁ hh0 (Stand.of_body B)
    exact ⟨t, o, a1, b1, b2, b3, b4⟩
section LROWS
variable {X : zT} {l : Launch} {rm : Room} {E : zE} {cc : ByteArray} {nl : Nat} {own : String} {k n : Nat} {ws : va_W} {lv : List (Nat × Value)} {pc : Nat} {st : List Value}
variable {y : MethodName} {b : ByteArray} {nl' : Nat} {rt : Option FieldType} {rm' : Room} {wc wr : va_W} {As rest : List Value} {post : Option Value → va_W → Prop} {index : Nat}
theorem fl_R (wc wr : va_W) : va_nd ((List.range wr.length).map (· + wc.length)) = true ∧ ∀ i ∈ (List.range wr.length).map (· + wc.length), i ∉ List.range wc.length := by
  refine ⟨nd_of ?_, fun i hi h => ?_⟩
  · have hx : ((List.range wr.length).map (· + wc.length)).Pairwise (· ≠ ·) := List.pairwise_map.mpr (List.nodup_range.imp (fun h e => h (by omega)))
    exact hx
  · obtain ⟨j, -, rfl⟩ := List.mem_map.mp hi
    have := List.mem_range.mp h
    omega
/-- a call that throws, caught by the one row of this method's table -/
theorem z_callXC (F : zF X l rm E cc nl own) (hZ : zX X) {en hp ct : Nat} (hT : zXt X [(0, en, hp, ct)]) {a ci q0 : Nat} {r : vw_C} {fs : List Value} {cl : String} {w1 : va_W} (hM : CtX l y b nl' rt rm' E wc (.ref a :: As) cl w1) (na : Nat)
    (hw : Cond.code y b nl' rt ∈ lw_tb ∧ Cond.methodLink own index y ∈ lw_tb ∧ Cond.instanceMethod y ∈ lw_tb ∧ Cond.selects y.cls y y ∈ lw_tb ∧ Cond.initialized y.cls ∈ lw_tb)
    (hy : y.cls ≠ "java/lang/invoke/MethodHandle" ∧ y.cls ≠ "java/lang/invoke/VarHandle" ∧ (parseMethodDescriptor y.desc).map (fun d => d.parameters.length) = some na) (hna : As.length = na)
    (hrm : rm'.frames + 1 ≤ rm.frames ∧ 8 + (nl' + 11) + rm'.locals ≤ rm.locals) (hcs : k + rm'.cells ≤ rm.cells ∧ n + rm'.slots ≤ rm.slots)
    (he : wc[q0]? = some (a, .inr (ci, fs))) (hc : vwCl[ci]? = some r) (hr : r.1 = y.cls)
    (hst : st = As.reverse ++ .ref a :: rest) (hcat : (rest.map fun v => v.category).sum ≤ 8) (hd : decode cc pc = .ok (.invokevirtual index, 3))
    (hpc : pc < en) (hct : ct ≠ 0) (hlk : Cond.classLink own ct cl ∈ lw_tb) (hca : Cond.castable cl cl ∈ lw_tbl)
    (K : ∀ q : Nat, Z X (k + rm'.cells) (n + rm'.slots) (w1 ++ wr) lv hp [.ref q]) : Z X k n (wc ++ wr) lv pc st := by
  obtain ⟨p, l, e, R, s, m, args, below, meth, c, E, A, nL, Q⟩ := X
  obtain ⟨rfl, rfl, rfl, rfl, hx, hb, hml, hown, hts, hK, hA, hlo, hnw⟩ := F
  obtain ⟨hl9, hxo⟩ := hZ
  have hT : c.exceptionTable.toList = tableOf [(0, en, hp, ct)] := hT
  intro H locs ls hP hD hS hl
  have hC := rg_C wc wr
  have hR := rg_R wc wr
  have hPc := hP.sub (ws' := wc) (List.range wc.length) (by have := congrArg (List.filterMap id) hC; rw [List.filterMap_map, List.filterMap_map] at this; simpa using this)
  have hDc := hD.sub (ws' := wc) (List.range wc.length) (nd_of List.nodup_range) hC
  have hF := va_free (wc := wc) hD hS hA (List.range wc.length) hC
  have he' : (wc ++ wr)[q0]? = some (a, .inr (ci, fs)) := by rw [List.getElem?_append_left (List.getElem?_eq_some_iff.mp he).1]; exact he
  subst hst
  intro T hTh XX
  rcases (vx_runV (C := y.cls) (As := As) (rest := rest) (g := F0 m pc ls (As.reverse ++ .ref a :: rest)) ⟨hx, hb, hml, hown, hts⟩ (hM H.size) ⟨callB_of (Ts := lw_tb) na hts (z_goodIn hw.1) rfl rfl rfl (hts _ hw.2.2.2.2) (hts _ hw.2.1) hy hrm, hts _ hw.2.2.1, hts _ hw.2.2.2.1⟩ ⟨x_blind, by rw [← hr]; exact va_recv hK hP hc he', fun U hU hW => ⟨rfl, by rw [hU], by rw [hU]; exact hPc, va_K.moved hW.alike hK, hDc.weaken (fun _ _ _ _ => trivial), hnw.moved hW, hxo.to hS hU hW hF⟩⟩ rfl hna hl.1 rfl (lv_room hcat) hd hcs) T hTh XX with ⟨v, st₀, t, T', L, h0, X', hL, e1, e2, hq, go⟩ | ⟨q, st₀, t, T', L, Ec, ce, h0, X', hL, e1, e2, ⟨rfl, hP1, hD1, hz, hk⟩, hce, hcv, hcl, st1⟩
  · exact absurd hq id
  · rw [h0] at hz hk
    have hk' : ∀ q : Nat, q < H.size → ¬ va_A wc H.size q → T'.heap[q]? = H[q]? := fun q h1 h2 => by rw [e1]; exact hk q h1 h2
    obtain ⟨hP2, hD2⟩ := va_join (wr := wr) (w1 := w1) hP hD (List.range wc.length) ((List.range wr.length).map (· + wc.length)) hC hR (fl_R wc wr).1 (fl_R wc wr).2 hk' hF (by rw [e1]; exact hP1) hD1
    have hS2 : va_S A s.heap T'.heap (locs ++ L) := ⟨Nat.le_trans hS.1 (by rw [e1]; exact hz), fun q h1 h2 => by
      rw [e1, hk q (Nat.lt_of_lt_of_le h1 hS.1) (fun z => h2 (hF q z))]
      exact hS.2.1 q h1 h2, fun q hq => by
      rcases List.mem_append.mp hq with h | h
      · exact hS.2.2 q h
      · exact hF _ (hL q h)⟩
    have KK := vx_catch (own := own) (name := Ec) (E := Ec) (pc := pc) (rest := rest) (ls := ls) hown [] ⟨0, en, hp, ct⟩ [] (by rw [hT]; rfl) (fun z hz => nomatch hz) (by simp [covers, hpc]) hct (hts _ hlk) (va_Nw.use (A := args) rfl (hxo.2.2.2 _ hca rfl)) (by rw [e1]; exact hce) hcv hcl (K q T'.heap (locs ++ L) ls (va_P_perm List.perm_append_comm hP2) (va_D_perm List.perm_append_comm hD2) hS2 hl)
    obtain ⟨t2, a1, b1⟩ := KK T' rfl X'
    exact ⟨t2, st1.trans a1, b1⟩
/-- a static call of a method with handlers of its own; its world stands ahead -/
theorem z_callSH (F : zF X l rm E cc nl own) (hZ : zX X) {hh : List (Nat × Nat × Nat × Nat)} (hM : CtH l y b nl' rt hh rm' E wc As post) (na : Nat)
    (hw : Cond.codeWith y b nl' rt hh ∈ lw_tb ∧ Cond.methodLink own index y ∈ lw_tb ∧ Cond.static y ∈ lw_tb ∧ Cond.initialized y.cls ∈ lw_tb)
    (hy : y.cls ≠ "java/lang/invoke/MethodHandle" ∧ y.cls ≠ "java/lang/invoke/VarHandle" ∧ (parseMethodDescriptor y.desc).map (fun d => d.parameters.length) = some na) (hna : As.length = na)
    (hrm : rm'.frames + 1 ≤ rm.frames ∧ 8 + (nl' + 11) + rm'.locals ≤ rm.locals) (hcs : k + rm'.cells ≤ rm.cells ∧ n + rm'.slots ≤ rm.slots)
    (hst : st = As.reverse ++ rest) (hcat : (rest.map fun v => v.category).sum ≤ 8) (hd : decode cc pc = .ok (.invokestatic index, 3))
    (K : ∀ (v : Option Value) (w1 : va_W), post v w1 → Z X (k + rm'.cells) (n + rm'.slots) (w1 ++ wr) lv (pc + 3) (v.toList ++ rest)) : Z X k n (wc ++ wr) lv pc st := by
  obtain ⟨p, l, e, R, s, m, args, below, meth, c, E, A, nL, Q⟩ := X
  obtain ⟨rfl, rfl, rfl, rfl, hx, hb, hml, hown, hts, hK, hA, hlk, hnw⟩ := F
  obtain ⟨hl9, hxo⟩ := hZ
  intro H locs ls hP hD hS hl
  have hC := rg_C wc wr
  have hR := rg_R wc wr
  have hPc := hP.sub (ws' := wc) (List.range wc.length) (by have := congrArg (List.filterMap id) hC; rw [List.filterMap_map, List.filterMap_map] at this; simpa using this)
  have hDc := hD.sub (ws' := wc) (List.range wc.length) (nd_of List.nodup_range) hC
  have hF := va_free (wc := wc) hD hS hA (List.range wc.length) hC
  have hgd : GoodIn lw_tb (va_wsS own index y (.codeWith y b nl' rt hh :: lw_tb)) := by
    intro w hw9
    have hm : w ∈ lw_tb := by
      unfold va_wsS at hw9
      simp only [List.cons_append, List.nil_append, List.mem_cons] at hw9
      rcases hw9 with rfl | rfl | rfl | rfl | h
      · exact hw.2.1
      · exact hw.2.2.1
      · exact hw.2.2.2
      · exact hw.1
      · exact h
    exact ⟨hm, good_of_word (List.all_eq_true.mp lw_good w hm)⟩
  subst hst
  refine z_after (wc := wc) (wr := wr) (post := post) (vx_runSW (hh := hh) (As := As) (rest := rest) ⟨hx, hb, hml, hown, hts⟩ (hM H.size) (vx_cwSW (Ts := lw_tb) na hts hgd rfl rfl rfl hy hrm) ⟨x_blind, fun U hU hW => ⟨rfl, by rw [hU], by rw [hU]; exact hPc, va_K.moved hW.alike hK, hDc.weaken (fun _ _ _ _ => trivial), hnw.moved hW, hxo.to hS hU hW hF⟩⟩ rfl hna hl.1 rfl (lv_room hcat) hd hcs) hP hD hS hA (List.range wc.length) ((List.range wr.length).map (· + wc.length)) hC hR (fl_R wc wr).1 (fl_R wc wr).2 (fun v w1 hp H1 locs1 hP1 hD1 hS1 => z_perm List.perm_append_comm (K v w1 hp) H1 locs1 ls hP1 hD1 hS1 hl)
/-- a call of which the callee's world stands last of three -/
theorem z_callVM {wa wb : va_W} (F : zF X l rm E cc nl own) {a ci q0 : Nat} {r : vw_C} {fs : List Value} (hM : Ct l y b nl' rt rm' E wc (.ref a :: As) post) (na : Nat)
    (hw : Cond.code y b nl' rt ∈ lw_tb ∧ Cond.methodLink own index y ∈ lw_tb ∧ Cond.instanceMethod y ∈ lw_tb ∧ Cond.selects y.cls y y ∈ lw_tb ∧ Cond.initialized y.cls ∈ lw_tb)
    (hy : y.cls ≠ "java/lang/invoke/MethodHandle" ∧ y.cls ≠ "java/lang/invoke/VarHandle" ∧ (parseMethodDescriptor y.desc).map (fun d => d.parameters.length) = some na) (hna : As.length = na)
    (hrm : rm'.frames + 1 ≤ rm.frames ∧ 8 + (nl' + 11) + rm'.locals ≤ rm.locals) (hcs : k + rm'.cells ≤ rm.cells ∧ n + rm'.slots ≤ rm.slots)
    (he : wc[q0]? = some (a, .inr (ci, fs))) (hc : vwCl[ci]? = some r) (hr : r.1 = y.cls)
    (hst : st = As.reverse ++ .ref a :: rest) (hcat : (rest.map fun v => v.category).sum ≤ 8) (hd : decode cc pc = .ok (.invokevirtual index, 3))
    (K : ∀ (v : Option Value) (w1 : va_W), post v w1 → Z X (k + rm'.cells) (n + rm'.slots) (wa ++ (wb ++ w1)) lv (pc + 3) (v.toList ++ rest)) : Z X k n (wa ++ (wb ++ wc)) lv pc st := by
  refine z_perm (ws' := wc ++ (wa ++ wb)) (by rw [← List.append_assoc]; exact List.perm_append_comm) ?_
  refine z_callVF (wr := wa ++ wb) F hM na hw hy hna hrm hcs he hc hr hst hcat hd (fun v w1 hp => ?_)
  exact z_perm (ws' := wa ++ (wb ++ w1)) (by rw [← List.append_assoc wa wb w1]; exact List.perm_append_comm) (K v w1 hp)
theorem z_outst {wa : va_W} {ro : Nat → Nat} {f : zS} {v : Int64} (F : zF X l rm E cc nl own) (hd : decode cc pc = .ok (.lastore, 1)) (K : Z X k n (wa ++ ow E ro (zB f 0 0 v)) lv (pc + 1) st) : Z X k n (wa ++ ow E ro f) lv pc (.long v :: .int 0 :: .ref (ro 0) :: st) := by
  refine z_perm (ws' := ow E ro f ++ wa) List.perm_append_comm ?_
  refine z_lastN (ws' := ow E ro (zB f 0 0 v) ++ wa) (f := zb f 0) F 0 1 rfl rfl 0 (by decide) (by decide) (by decide) hd rfl ?_
  exact z_perm List.perm_append_comm K
theorem z_outld {wa wb : va_W} {ro : Nat → Nat} {f : zS} (F : zF X l rm E cc nl own) (hd : decode cc pc = .ok (.laload, 1)) (K : Z X k n (wa ++ (ow E ro f ++ wb)) lv (pc + 1) (.long (zb f 0 0) :: st)) : Z X k n (wa ++ (ow E ro f ++ wb)) lv pc (.int 0 :: .ref (ro 0) :: st) := by
  have hp : (wa ++ (ow E ro f ++ wb)).Perm (ow E ro f ++ (wb ++ wa)) := by
    rw [← List.append_assoc (ow E ro f)]
    exact List.perm_append_comm
  refine z_perm hp ?_
  refine z_laldN (f := zb f 0) F 0 1 rfl rfl 0 (by decide) (by decide) (by decide) hd ?_
  exact z_perm hp.symm K
/-- the script lies below all that is made -/
def scr (X : zT) (b L : Nat) (xs : Nat → Int32) : Prop :=
  match X with
  | (_, _, _, _, s, _, _, _, _, _, _, A, _, _) => va_X b L xs s s.heap ∧ b < s.heap.size ∧ ¬ A b
theorem z_sld {sb L : Nat} {xs : Nat → Int32} (F : zF X l rm E cc nl own) (hs : scr X sb L xs) {i : Int32} (j : Nat) (hi : i = nI j) (hj : j < L) (hL : L < 2 ^ 31) (hd : decode cc pc = .ok (.iaload, 1)) (K : Z X k n ws lv (pc + 1) (.int (xs j) :: st)) : Z X k n ws lv pc (.int i :: .ref sb :: st) := by
  subst hi
  obtain ⟨p, l, e, R, s, m, args, below, meth, c, E, A, nL, Q⟩ := X
  obtain ⟨rfl, rfl, rfl, rfl, hx, hb, hml, hown, hts, hK, hA, hlk, hnw⟩ := F
  obtain ⟨h1, h2, h3⟩ := hs
  intro H locs ls hP hD hS hl
  refine va_sld hx hb h1 h2 h3 hS (vp_in_nI hj hL) hd ?_
  rw [nI_clamp (by omega)]
  exact K H locs ls hP hD hS hl
theorem z_slen {sb L : Nat} {xs : Nat → Int32} (F : zF X l rm E cc nl own) (hs : scr X sb L xs) (hd : decode cc pc = .ok (.arraylength, 1)) (K : Z X k n ws lv (pc + 1) (.int (nI L) :: st)) : Z X k n ws lv pc (.ref sb :: st) := by
  obtain ⟨p, l, e, R, s, m, args, below, meth, c, E, A, nL, Q⟩ := X
  obtain ⟨rfl, rfl, rfl, rfl, hx, hb, hml, hown, hts, hK, hA, hlk, hnw⟩ := F
  obtain ⟨h1, h2, h3⟩ := hs
  intro H locs ls hP hD hS hl
  exact va_slen hx hb h1 h2 h3 hS hd (K H locs ls hP hD hS hl)
end LROWS
