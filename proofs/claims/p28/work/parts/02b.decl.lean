theorem dL_cell_0 : decode cL_cell 0 = .ok (.iload_n 1, 1) := by decide +kernel
theorem dL_cell_1 : decode cL_cell 1 = .ok (.aload_n 0, 1) := by decide +kernel
theorem dL_cell_2 : decode cL_cell 2 = .ok (.arraylength, 1) := by decide +kernel
theorem dL_cell_3 : decode cL_cell 3 = .ok (.if_icmp .ge 9, 3) := by decide +kernel
theorem dL_cell_6 : decode cL_cell 6 = .ok (.aload_n 0, 1) := by decide +kernel
theorem dL_cell_7 : decode cL_cell 7 = .ok (.iload_n 1, 1) := by decide +kernel
theorem dL_cell_8 : decode cL_cell 8 = .ok (.iaload, 1) := by decide +kernel
theorem dL_cell_9 : decode cL_cell 9 = .ok (.goto 11, 3) := by decide +kernel
theorem dL_cell_12 : decode cL_cell 12 = .ok (.ldc 7, 2) := by decide +kernel
theorem dL_cell_14 : decode cL_cell 14 = .ok (.iload_n 1, 1) := by decide +kernel
theorem dL_cell_15 : decode cL_cell 15 = .ok (.imul, 1) := by decide +kernel
theorem dL_cell_16 : decode cL_cell 16 = .ok (.sipush 977, 3) := by decide +kernel
theorem dL_cell_19 : decode cL_cell 19 = .ok (.iadd, 1) := by decide +kernel
theorem dL_cell_20 : decode cL_cell 20 = .ok (.ireturn, 1) := by decide +kernel
theorem dL_low_0 : decode cL_low 0 = .ok (.iload_n 0, 1) := by decide +kernel
theorem dL_low_1 : decode cL_low 1 = .ok (.ldc 8, 2) := by decide +kernel
theorem dL_low_3 : decode cL_low 3 = .ok (.iand, 1) := by decide +kernel
theorem dL_low_4 : decode cL_low 4 = .ok (.iload_n 1, 1) := by decide +kernel
theorem dL_low_5 : decode cL_low 5 = .ok (.irem, 1) := by decide +kernel
theorem dL_low_6 : decode cL_low 6 = .ok (.ireturn, 1) := by decide +kernel
theorem dL_number_0 : decode cL_number 0 = .ok (.iconst 1, 1) := by decide +kernel
theorem dL_number_1 : decode cL_number 1 = .ok (.iload_n 0, 1) := by decide +kernel
theorem dL_number_2 : decode cL_number 2 = .ok (.bipush 6, 2) := by decide +kernel
theorem dL_number_4 : decode cL_number 4 = .ok (.invokestatic 9, 3) := by decide +kernel
theorem dL_number_7 : decode cL_number 7 = .ok (.iadd, 1) := by decide +kernel
theorem dL_number_8 : decode cL_number 8 = .ok (.istore_n 1, 1) := by decide +kernel
theorem dL_number_9 : decode cL_number 9 = .ok (.iconst 0, 1) := by decide +kernel
theorem dL_number_10 : decode cL_number 10 = .ok (.istore_n 2, 1) := by decide +kernel
theorem dL_number_11 : decode cL_number 11 = .ok (.iconst 0, 1) := by decide +kernel
theorem dL_number_12 : decode cL_number 12 = .ok (.istore_n 3, 1) := by decide +kernel
theorem dL_number_13 : decode cL_number 13 = .ok (.iload_n 3, 1) := by decide +kernel
theorem dL_number_14 : decode cL_number 14 = .ok (.iload_n 1, 1) := by decide +kernel
theorem dL_number_15 : decode cL_number 15 = .ok (.if_icmp .ge 43, 3) := by decide +kernel
theorem dL_number_18 : decode cL_number 18 = .ok (.bipush 10, 2) := by decide +kernel
theorem dL_number_20 : decode cL_number 20 = .ok (.iload_n 2, 1) := by decide +kernel
theorem dL_number_21 : decode cL_number 21 = .ok (.imul, 1) := by decide +kernel
theorem dL_number_22 : decode cL_number 22 = .ok (.iload_n 0, 1) := by decide +kernel
theorem dL_number_23 : decode cL_number 23 = .ok (.iconst 4, 1) := by decide +kernel
theorem dL_number_24 : decode cL_number 24 = .ok (.iload_n 3, 1) := by decide +kernel
theorem dL_number_25 : decode cL_number 25 = .ok (.iadd, 1) := by decide +kernel
theorem dL_number_26 : decode cL_number 26 = .ok (.ishr, 1) := by decide +kernel
theorem dL_number_27 : decode cL_number 27 = .ok (.iconst 1, 1) := by decide +kernel
theorem dL_number_28 : decode cL_number 28 = .ok (.iand, 1) := by decide +kernel
theorem dL_number_29 : decode cL_number 29 = .ok (.ifCond .ne 8, 3) := by decide +kernel
theorem dL_number_32 : decode cL_number 32 = .ok (.bipush 9, 2) := by decide +kernel
theorem dL_number_34 : decode cL_number 34 = .ok (.goto 16, 3) := by decide +kernel
theorem dL_number_37 : decode cL_number 37 = .ok (.iload_n 0, 1) := by decide +kernel
theorem dL_number_38 : decode cL_number 38 = .ok (.bipush 10, 2) := by decide +kernel
theorem dL_number_40 : decode cL_number 40 = .ok (.iconst 2, 1) := by decide +kernel
theorem dL_number_41 : decode cL_number 41 = .ok (.iload_n 3, 1) := by decide +kernel
theorem dL_number_42 : decode cL_number 42 = .ok (.imul, 1) := by decide +kernel
theorem dL_number_43 : decode cL_number 43 = .ok (.iadd, 1) := by decide +kernel
theorem dL_number_44 : decode cL_number 44 = .ok (.ishr, 1) := by decide +kernel
theorem dL_number_45 : decode cL_number 45 = .ok (.bipush 10, 2) := by decide +kernel
theorem dL_number_47 : decode cL_number 47 = .ok (.invokestatic 9, 3) := by decide +kernel
theorem dL_number_50 : decode cL_number 50 = .ok (.iadd, 1) := by decide +kernel
theorem dL_number_51 : decode cL_number 51 = .ok (.istore_n 2, 1) := by decide +kernel
theorem dL_number_52 : decode cL_number 52 = .ok (.iinc 3 1, 3) := by decide +kernel
theorem dL_number_55 : decode cL_number 55 = .ok (.goto (-42), 3) := by decide +kernel
theorem dL_number_58 : decode cL_number 58 = .ok (.iload_n 2, 1) := by decide +kernel
theorem dL_number_59 : decode cL_number 59 = .ok (.ifCond .ne 7, 3) := by decide +kernel
theorem dL_number_62 : decode cL_number 62 = .ok (.iconst 1, 1) := by decide +kernel
theorem dL_number_63 : decode cL_number 63 = .ok (.goto 4, 3) := by decide +kernel
theorem dL_number_66 : decode cL_number 66 = .ok (.iload_n 2, 1) := by decide +kernel
theorem dL_number_67 : decode cL_number 67 = .ok (.ireturn, 1) := by decide +kernel
theorem dL_change_0 : decode cL_change 0 = .ok (.iload_n 2, 1) := by decide +kernel
theorem dL_change_1 : decode cL_change 1 = .ok (.bipush 7, 2) := by decide +kernel
theorem dL_change_3 : decode cL_change 3 = .ok (.invokestatic 9, 3) := by decide +kernel
theorem dL_change_6 : decode cL_change 6 = .ok (.istore_n 3, 1) := by decide +kernel
theorem dL_change_7 : decode cL_change 7 = .ok (.iload_n 2, 1) := by decide +kernel
theorem dL_change_8 : decode cL_change 8 = .ok (.iconst 4, 1) := by decide +kernel
theorem dL_change_9 : decode cL_change 9 = .ok (.ishr, 1) := by decide +kernel
theorem dL_change_10 : decode cL_change 10 = .ok (.bipush 7, 2) := by decide +kernel
theorem dL_change_12 : decode cL_change 12 = .ok (.invokestatic 9, 3) := by decide +kernel
theorem dL_change_15 : decode cL_change 15 = .ok (.istore 4, 2) := by decide +kernel
theorem dL_change_17 : decode cL_change 17 = .ok (.aload_n 0, 1) := by decide +kernel
theorem dL_change_18 : decode cL_change 18 = .ok (.iload_n 3, 1) := by decide +kernel
theorem dL_change_19 : decode cL_change 19 = .ok (.iconst 0, 1) := by decide +kernel
theorem dL_change_20 : decode cL_change 20 = .ok (.invokevirtual 15, 3) := by decide +kernel
theorem dL_change_23 : decode cL_change 23 = .ok (.istore 5, 2) := by decide +kernel
theorem dL_change_25 : decode cL_change 25 = .ok (.aload_n 0, 1) := by decide +kernel
theorem dL_change_26 : decode cL_change 26 = .ok (.iload_n 3, 1) := by decide +kernel
theorem dL_change_27 : decode cL_change 27 = .ok (.iconst 2, 1) := by decide +kernel
theorem dL_change_28 : decode cL_change 28 = .ok (.invokevirtual 15, 3) := by decide +kernel
theorem dL_change_31 : decode cL_change 31 = .ok (.istore 6, 2) := by decide +kernel
theorem dL_change_33 : decode cL_change 33 = .ok (.aload_n 0, 1) := by decide +kernel
theorem dL_change_34 : decode cL_change 34 = .ok (.bipush 6, 2) := by decide +kernel
theorem dL_change_36 : decode cL_change 36 = .ok (.invokevirtual 20, 3) := by decide +kernel
theorem dL_change_39 : decode cL_change 39 = .ok (.istore 7, 2) := by decide +kernel
theorem dL_change_41 : decode cL_change 41 = .ok (.aload_n 0, 1) := by decide +kernel
theorem dL_change_42 : decode cL_change 42 = .ok (.iconst 3, 1) := by decide +kernel
theorem dL_change_43 : decode cL_change 43 = .ok (.invokevirtual 20, 3) := by decide +kernel
theorem dL_change_46 : decode cL_change 46 = .ok (.istore 8, 2) := by decide +kernel
theorem dL_change_48 : decode cL_change 48 = .ok (.iconst 0, 1) := by decide +kernel
theorem dL_change_49 : decode cL_change 49 = .ok (.istore 9, 2) := by decide +kernel
theorem dL_change_51 : decode cL_change 51 = .ok (.iload_n 1, 1) := by decide +kernel
theorem dL_change_52 : decode cL_change 52 = .ok (.bipush 16, 2) := by decide +kernel
theorem dL_change_54 : decode cL_change 54 = .ok (.invokestatic 9, 3) := by decide +kernel
theorem dL_change_57 : decode cL_change 57 = .ok (.tableswitch 620 0 14 #[75, 75, 75, 75, 75, 75, 87, 87, 239, 239, 239, 355, 355, 458, 569], 75) := by decide +kernel
theorem dL_change_132 : decode cL_change 132 = .ok (.aload_n 0, 1) := by decide +kernel
theorem dL_change_133 : decode cL_change 133 = .ok (.iload_n 3, 1) := by decide +kernel
theorem dL_change_134 : decode cL_change 134 = .ok (.iload_n 2, 1) := by decide +kernel
theorem dL_change_135 : decode cL_change 135 = .ok (.iconst 3, 1) := by decide +kernel
theorem dL_change_136 : decode cL_change 136 = .ok (.ishr, 1) := by decide +kernel
theorem dL_change_137 : decode cL_change 137 = .ok (.invokestatic 24, 3) := by decide +kernel
theorem dL_change_140 : decode cL_change 140 = .ok (.invokestatic 27, 3) := by decide +kernel
theorem dL_change_143 : decode cL_change 143 = .ok (.ireturn, 1) := by decide +kernel
theorem dL_change_144 : decode cL_change 144 = .ok (.iload_n 3, 1) := by decide +kernel
theorem dL_change_145 : decode cL_change 145 = .ok (.iload 4, 2) := by decide +kernel
theorem dL_change_147 : decode cL_change 147 = .ok (.if_icmp .ne 5, 3) := by decide +kernel
theorem dL_change_150 : decode cL_change 150 = .ok (.iconst 1, 1) := by decide +kernel
theorem dL_change_151 : decode cL_change 151 = .ok (.ireturn, 1) := by decide +kernel
theorem dL_change_152 : decode cL_change 152 = .ok (.iload 5, 2) := by decide +kernel
theorem dL_change_154 : decode cL_change 154 = .ok (.ifCond .ne 7, 3) := by decide +kernel
theorem dL_change_157 : decode cL_change 157 = .ok (.iconst 0, 1) := by decide +kernel
theorem dL_change_158 : decode cL_change 158 = .ok (.goto 11, 3) := by decide +kernel
theorem dL_change_161 : decode cL_change 161 = .ok (.aload_n 0, 1) := by decide +kernel
theorem dL_change_162 : decode cL_change 162 = .ok (.iload 4, 2) := by decide +kernel
theorem dL_change_164 : decode cL_change 164 = .ok (.iload 5, 2) := by decide +kernel
theorem dL_change_166 : decode cL_change 166 = .ok (.invokevirtual 31, 3) := by decide +kernel
theorem dL_change_169 : decode cL_change 169 = .ok (.istore 9, 2) := by decide +kernel
theorem dL_change_171 : decode cL_change 171 = .ok (.aload_n 0, 1) := by decide +kernel
theorem dL_change_172 : decode cL_change 172 = .ok (.iload 4, 2) := by decide +kernel
theorem dL_change_174 : decode cL_change 174 = .ok (.iconst 0, 1) := by decide +kernel
theorem dL_change_175 : decode cL_change 175 = .ok (.invokevirtual 15, 3) := by decide +kernel
theorem dL_change_178 : decode cL_change 178 = .ok (.istore 10, 2) := by decide +kernel
theorem dL_change_180 : decode cL_change 180 = .ok (.aload_n 0, 1) := by decide +kernel
theorem dL_change_181 : decode cL_change 181 = .ok (.iload_n 3, 1) := by decide +kernel
theorem dL_change_182 : decode cL_change 182 = .ok (.iload 4, 2) := by decide +kernel
theorem dL_change_184 : decode cL_change 184 = .ok (.invokevirtual 34, 3) := by decide +kernel
theorem dL_change_187 : decode cL_change 187 = .ok (.istore 11, 2) := by decide +kernel
theorem dL_change_189 : decode cL_change 189 = .ok (.iload 5, 2) := by decide +kernel
theorem dL_change_191 : decode cL_change 191 = .ok (.ifCond .ne 11, 3) := by decide +kernel
theorem dL_change_194 : decode cL_change 194 = .ok (.iload 11, 2) := by decide +kernel
theorem dL_change_196 : decode cL_change 196 = .ok (.ifCond .ne 98, 3) := by decide +kernel
theorem dL_change_199 : decode cL_change 199 = .ok (.goto 34, 3) := by decide +kernel
theorem dL_change_202 : decode cL_change 202 = .ok (.iload 9, 2) := by decide +kernel
theorem dL_change_204 : decode cL_change 204 = .ok (.ifCond .le 13, 3) := by decide +kernel
theorem dL_change_207 : decode cL_change 207 = .ok (.iload 11, 2) := by decide +kernel
theorem dL_change_209 : decode cL_change 209 = .ok (.iload 9, 2) := by decide +kernel
theorem dL_change_211 : decode cL_change 211 = .ok (.if_icmp .ne 83, 3) := by decide +kernel
theorem dL_change_214 : decode cL_change 214 = .ok (.goto 19, 3) := by decide +kernel
theorem dL_change_217 : decode cL_change 217 = .ok (.iload 11, 2) := by decide +kernel
theorem dL_change_219 : decode cL_change 219 = .ok (.bipush 10, 2) := by decide +kernel
theorem dL_change_221 : decode cL_change 221 = .ok (.aload_n 0, 1) := by decide +kernel
theorem dL_change_222 : decode cL_change 222 = .ok (.iconst 3, 1) := by decide +kernel
theorem dL_change_223 : decode cL_change 223 = .ok (.invokevirtual 20, 3) := by decide +kernel
theorem dL_change_226 : decode cL_change 226 = .ok (.iadd, 1) := by decide +kernel
theorem dL_change_227 : decode cL_change 227 = .ok (.iload 8, 2) := by decide +kernel
theorem dL_change_229 : decode cL_change 229 = .ok (.isub, 1) := by decide +kernel
theorem dL_change_230 : decode cL_change 230 = .ok (.if_icmp .ne 64, 3) := by decide +kernel
theorem dL_change_233 : decode cL_change 233 = .ok (.aload_n 0, 1) := by decide +kernel
theorem dL_change_234 : decode cL_change 234 = .ok (.iload_n 3, 1) := by decide +kernel
theorem dL_change_235 : decode cL_change 235 = .ok (.iconst 0, 1) := by decide +kernel
theorem dL_change_236 : decode cL_change 236 = .ok (.invokevirtual 15, 3) := by decide +kernel
theorem dL_change_239 : decode cL_change 239 = .ok (.iload 5, 2) := by decide +kernel
theorem dL_change_241 : decode cL_change 241 = .ok (.if_icmp .ne 53, 3) := by decide +kernel
theorem dL_change_244 : decode cL_change 244 = .ok (.aload_n 0, 1) := by decide +kernel
theorem dL_change_245 : decode cL_change 245 = .ok (.iload 4, 2) := by decide +kernel
theorem dL_change_247 : decode cL_change 247 = .ok (.iconst 0, 1) := by decide +kernel
theorem dL_change_248 : decode cL_change 248 = .ok (.invokevirtual 15, 3) := by decide +kernel
set_option maxRecDepth 20000 in
theorem dL_change_251 : decode cL_change 251 = .ok (.iload 10, 2) := by decide +kernel
set_option maxRecDepth 20000 in
theorem dL_change_253 : decode cL_change 253 = .ok (.iload 9, 2) := by decide +kernel
set_option maxRecDepth 20000 in
theorem dL_change_255 : decode cL_change 255 = .ok (.ifCond .le 7, 3) := by decide +kernel
set_option maxRecDepth 20000 in
theorem dL_change_258 : decode cL_change 258 = .ok (.iconst 0, 1) := by decide +kernel
set_option maxRecDepth 20000 in
theorem dL_change_259 : decode cL_change 259 = .ok (.goto 5, 3) := by decide +kernel
set_option maxRecDepth 20000 in
theorem dL_change_262 : decode cL_change 262 = .ok (.iload 5, 2) := by decide +kernel
set_option maxRecDepth 20000 in
theorem dL_change_264 : decode cL_change 264 = .ok (.iadd, 1) := by decide +kernel
set_option maxRecDepth 20000 in
theorem dL_change_265 : decode cL_change 265 = .ok (.if_icmp .ne 29, 3) := by decide +kernel
set_option maxRecDepth 20000 in
theorem dL_change_268 : decode cL_change 268 = .ok (.aload_n 0, 1) := by decide +kernel
set_option maxRecDepth 20000 in
theorem dL_change_269 : decode cL_change 269 = .ok (.bipush 6, 2) := by decide +kernel
set_option maxRecDepth 20000 in
theorem dL_change_271 : decode cL_change 271 = .ok (.invokevirtual 20, 3) := by decide +kernel
set_option maxRecDepth 20000 in
theorem dL_change_274 : decode cL_change 274 = .ok (.iload 7, 2) := by decide +kernel
set_option maxRecDepth 20000 in
theorem dL_change_276 : decode cL_change 276 = .ok (.iload 9, 2) := by decide +kernel
set_option maxRecDepth 20000 in
theorem dL_change_278 : decode cL_change 278 = .ok (.ifCond .le 7, 3) := by decide +kernel
set_option maxRecDepth 20000 in
theorem dL_change_281 : decode cL_change 281 = .ok (.iconst 1, 1) := by decide +kernel
set_option maxRecDepth 20000 in
theorem dL_change_282 : decode cL_change 282 = .ok (.goto 4, 3) := by decide +kernel
set_option maxRecDepth 20000 in
theorem dL_change_285 : decode cL_change 285 = .ok (.iconst 0, 1) := by decide +kernel
set_option maxRecDepth 20000 in
theorem dL_change_286 : decode cL_change 286 = .ok (.iadd, 1) := by decide +kernel
set_option maxRecDepth 20000 in
theorem dL_change_287 : decode cL_change 287 = .ok (.if_icmp .ne 7, 3) := by decide +kernel
set_option maxRecDepth 20000 in
theorem dL_change_290 : decode cL_change 290 = .ok (.iconst 1, 1) := by decide +kernel
set_option maxRecDepth 20000 in
theorem dL_change_291 : decode cL_change 291 = .ok (.goto 4, 3) := by decide +kernel
set_option maxRecDepth 20000 in
theorem dL_change_294 : decode cL_change 294 = .ok (.iconst 0, 1) := by decide +kernel
set_option maxRecDepth 20000 in
theorem dL_change_295 : decode cL_change 295 = .ok (.ireturn, 1) := by decide +kernel
set_option maxRecDepth 20000 in
theorem dL_change_296 : decode cL_change 296 = .ok (.iload_n 2, 1) := by decide +kernel
set_option maxRecDepth 20000 in
theorem dL_change_297 : decode cL_change 297 = .ok (.iconst 4, 1) := by decide +kernel
set_option maxRecDepth 20000 in
theorem dL_change_298 : decode cL_change 298 = .ok (.ishr, 1) := by decide +kernel
set_option maxRecDepth 20000 in
theorem dL_change_299 : decode cL_change 299 = .ok (.bipush 6, 2) := by decide +kernel
set_option maxRecDepth 20000 in
theorem dL_change_301 : decode cL_change 301 = .ok (.invokestatic 9, 3) := by decide +kernel
set_option maxRecDepth 20000 in
theorem dL_change_304 : decode cL_change 304 = .ok (.istore 12, 2) := by decide +kernel
set_option maxRecDepth 20000 in
theorem dL_change_306 : decode cL_change 306 = .ok (.aload_n 0, 1) := by decide +kernel
set_option maxRecDepth 20000 in
theorem dL_change_307 : decode cL_change 307 = .ok (.iload_n 3, 1) := by decide +kernel
set_option maxRecDepth 20000 in
theorem dL_change_308 : decode cL_change 308 = .ok (.iload 12, 2) := by decide +kernel
set_option maxRecDepth 20000 in
theorem dL_change_310 : decode cL_change 310 = .ok (.iconst 2, 1) := by decide +kernel
set_option maxRecDepth 20000 in
theorem dL_change_311 : decode cL_change 311 = .ok (.invokevirtual 37, 3) := by decide +kernel
set_option maxRecDepth 20000 in
theorem dL_change_314 : decode cL_change 314 = .ok (.istore 13, 2) := by decide +kernel
set_option maxRecDepth 20000 in
theorem dL_change_316 : decode cL_change 316 = .ok (.aload_n 0, 1) := by decide +kernel
set_option maxRecDepth 20000 in
theorem dL_change_317 : decode cL_change 317 = .ok (.iload_n 3, 1) := by decide +kernel
set_option maxRecDepth 20000 in
theorem dL_change_318 : decode cL_change 318 = .ok (.iload 12, 2) := by decide +kernel
set_option maxRecDepth 20000 in
theorem dL_change_320 : decode cL_change 320 = .ok (.iconst 0, 1) := by decide +kernel
set_option maxRecDepth 20000 in
theorem dL_change_321 : decode cL_change 321 = .ok (.invokevirtual 37, 3) := by decide +kernel
set_option maxRecDepth 20000 in
theorem dL_change_324 : decode cL_change 324 = .ok (.istore 9, 2) := by decide +kernel
set_option maxRecDepth 20000 in
theorem dL_change_326 : decode cL_change 326 = .ok (.aload_n 0, 1) := by decide +kernel
set_option maxRecDepth 20000 in
theorem dL_change_327 : decode cL_change 327 = .ok (.iload_n 3, 1) := by decide +kernel
set_option maxRecDepth 20000 in
theorem dL_change_328 : decode cL_change 328 = .ok (.iload 12, 2) := by decide +kernel
set_option maxRecDepth 20000 in
theorem dL_change_330 : decode cL_change 330 = .ok (.invokevirtual 41, 3) := by decide +kernel
set_option maxRecDepth 20000 in
theorem dL_change_333 : decode cL_change 333 = .ok (.iload 13, 2) := by decide +kernel
set_option maxRecDepth 20000 in
theorem dL_change_335 : decode cL_change 335 = .ok (.ifCond .ne 7, 3) := by decide +kernel
set_option maxRecDepth 20000 in
theorem dL_change_338 : decode cL_change 338 = .ok (.iconst (-1), 1) := by decide +kernel
set_option maxRecDepth 20000 in
theorem dL_change_339 : decode cL_change 339 = .ok (.goto 7, 3) := by decide +kernel
set_option maxRecDepth 20000 in
theorem dL_change_342 : decode cL_change 342 = .ok (.iload 13, 2) := by decide +kernel
set_option maxRecDepth 20000 in
theorem dL_change_344 : decode cL_change 344 = .ok (.iconst 1, 1) := by decide +kernel
set_option maxRecDepth 20000 in
theorem dL_change_345 : decode cL_change 345 = .ok (.isub, 1) := by decide +kernel
set_option maxRecDepth 20000 in
theorem dL_change_346 : decode cL_change 346 = .ok (.if_icmp .ne 64, 3) := by decide +kernel
set_option maxRecDepth 20000 in
theorem dL_change_349 : decode cL_change 349 = .ok (.aload_n 0, 1) := by decide +kernel
set_option maxRecDepth 20000 in
theorem dL_change_350 : decode cL_change 350 = .ok (.iload_n 3, 1) := by decide +kernel
set_option maxRecDepth 20000 in
theorem dL_change_351 : decode cL_change 351 = .ok (.iload 12, 2) := by decide +kernel
set_option maxRecDepth 20000 in
theorem dL_change_353 : decode cL_change 353 = .ok (.iconst 0, 1) := by decide +kernel
set_option maxRecDepth 20000 in
theorem dL_change_354 : decode cL_change 354 = .ok (.invokevirtual 37, 3) := by decide +kernel
set_option maxRecDepth 20000 in
theorem dL_change_357 : decode cL_change 357 = .ok (.iload 9, 2) := by decide +kernel
set_option maxRecDepth 20000 in
theorem dL_change_359 : decode cL_change 359 = .ok (.iload 13, 2) := by decide +kernel
set_option maxRecDepth 20000 in
theorem dL_change_361 : decode cL_change 361 = .ok (.ifCond .ne 7, 3) := by decide +kernel
set_option maxRecDepth 20000 in
theorem dL_change_364 : decode cL_change 364 = .ok (.iconst 0, 1) := by decide +kernel
set_option maxRecDepth 20000 in
theorem dL_change_365 : decode cL_change 365 = .ok (.goto 4, 3) := by decide +kernel
set_option maxRecDepth 20000 in
theorem dL_change_368 : decode cL_change 368 = .ok (.iconst 1, 1) := by decide +kernel
set_option maxRecDepth 20000 in
theorem dL_change_369 : decode cL_change 369 = .ok (.isub, 1) := by decide +kernel
set_option maxRecDepth 20000 in
theorem dL_change_370 : decode cL_change 370 = .ok (.if_icmp .ne 40, 3) := by decide +kernel
set_option maxRecDepth 20000 in
theorem dL_change_373 : decode cL_change 373 = .ok (.aload_n 0, 1) := by decide +kernel
set_option maxRecDepth 20000 in
theorem dL_change_374 : decode cL_change 374 = .ok (.bipush 6, 2) := by decide +kernel
set_option maxRecDepth 20000 in
theorem dL_change_376 : decode cL_change 376 = .ok (.invokevirtual 20, 3) := by decide +kernel
set_option maxRecDepth 20000 in
theorem dL_change_379 : decode cL_change 379 = .ok (.iload 7, 2) := by decide +kernel
set_option maxRecDepth 20000 in
theorem dL_change_381 : decode cL_change 381 = .ok (.iload 13, 2) := by decide +kernel
set_option maxRecDepth 20000 in
theorem dL_change_383 : decode cL_change 383 = .ok (.ifCond .ne 7, 3) := by decide +kernel
set_option maxRecDepth 20000 in
theorem dL_change_386 : decode cL_change 386 = .ok (.iconst 1, 1) := by decide +kernel
set_option maxRecDepth 20000 in
theorem dL_change_387 : decode cL_change 387 = .ok (.goto 4, 3) := by decide +kernel
set_option maxRecDepth 20000 in
theorem dL_change_390 : decode cL_change 390 = .ok (.iconst 0, 1) := by decide +kernel
set_option maxRecDepth 20000 in
theorem dL_change_391 : decode cL_change 391 = .ok (.iadd, 1) := by decide +kernel
set_option maxRecDepth 20000 in
theorem dL_change_392 : decode cL_change 392 = .ok (.if_icmp .ne 18, 3) := by decide +kernel
set_option maxRecDepth 20000 in
theorem dL_change_395 : decode cL_change 395 = .ok (.aload_n 0, 1) := by decide +kernel
set_option maxRecDepth 20000 in
theorem dL_change_396 : decode cL_change 396 = .ok (.iload_n 3, 1) := by decide +kernel
set_option maxRecDepth 20000 in
theorem dL_change_397 : decode cL_change 397 = .ok (.iconst 2, 1) := by decide +kernel
set_option maxRecDepth 20000 in
theorem dL_change_398 : decode cL_change 398 = .ok (.invokevirtual 15, 3) := by decide +kernel
set_option maxRecDepth 20000 in
theorem dL_change_401 : decode cL_change 401 = .ok (.iload 6, 2) := by decide +kernel
set_option maxRecDepth 20000 in
theorem dL_change_403 : decode cL_change 403 = .ok (.if_icmp .ne 7, 3) := by decide +kernel
set_option maxRecDepth 20000 in
theorem dL_change_406 : decode cL_change 406 = .ok (.iconst 1, 1) := by decide +kernel
set_option maxRecDepth 20000 in
theorem dL_change_407 : decode cL_change 407 = .ok (.goto 4, 3) := by decide +kernel
set_option maxRecDepth 20000 in
theorem dL_change_410 : decode cL_change 410 = .ok (.iconst 0, 1) := by decide +kernel
set_option maxRecDepth 20000 in
theorem dL_change_411 : decode cL_change 411 = .ok (.ireturn, 1) := by decide +kernel
set_option maxRecDepth 20000 in
theorem dL_change_412 : decode cL_change 412 = .ok (.aload_n 0, 1) := by decide +kernel
set_option maxRecDepth 20000 in
theorem dL_change_413 : decode cL_change 413 = .ok (.iload_n 3, 1) := by decide +kernel
set_option maxRecDepth 20000 in
theorem dL_change_414 : decode cL_change 414 = .ok (.iconst 3, 1) := by decide +kernel
set_option maxRecDepth 20000 in
theorem dL_change_415 : decode cL_change 415 = .ok (.invokevirtual 15, 3) := by decide +kernel
set_option maxRecDepth 20000 in
theorem dL_change_418 : decode cL_change 418 = .ok (.istore 14, 2) := by decide +kernel
set_option maxRecDepth 20000 in
theorem dL_change_420 : decode cL_change 420 = .ok (.aload_n 0, 1) := by decide +kernel
set_option maxRecDepth 20000 in
theorem dL_change_421 : decode cL_change 421 = .ok (.iload_n 3, 1) := by decide +kernel
set_option maxRecDepth 20000 in
theorem dL_change_422 : decode cL_change 422 = .ok (.invokevirtual 44, 3) := by decide +kernel
set_option maxRecDepth 20000 in
theorem dL_change_425 : decode cL_change 425 = .ok (.istore 9, 2) := by decide +kernel
set_option maxRecDepth 20000 in
theorem dL_change_427 : decode cL_change 427 = .ok (.iload 9, 2) := by decide +kernel
set_option maxRecDepth 20000 in
theorem dL_change_429 : decode cL_change 429 = .ok (.iload 14, 2) := by decide +kernel
set_option maxRecDepth 20000 in
theorem dL_change_431 : decode cL_change 431 = .ok (.if_icmp .ne 30, 3) := by decide +kernel
set_option maxRecDepth 20000 in
theorem dL_change_434 : decode cL_change 434 = .ok (.aload_n 0, 1) := by decide +kernel
set_option maxRecDepth 20000 in
theorem dL_change_435 : decode cL_change 435 = .ok (.iload_n 3, 1) := by decide +kernel
set_option maxRecDepth 20000 in
theorem dL_change_436 : decode cL_change 436 = .ok (.iconst 3, 1) := by decide +kernel
set_option maxRecDepth 20000 in
theorem dL_change_437 : decode cL_change 437 = .ok (.invokevirtual 15, 3) := by decide +kernel
set_option maxRecDepth 20000 in
theorem dL_change_440 : decode cL_change 440 = .ok (.ifCond .ne 73, 3) := by decide +kernel
set_option maxRecDepth 20000 in
theorem dL_change_443 : decode cL_change 443 = .ok (.aload_n 0, 1) := by decide +kernel
set_option maxRecDepth 20000 in
theorem dL_change_444 : decode cL_change 444 = .ok (.iload_n 3, 1) := by decide +kernel
set_option maxRecDepth 20000 in
theorem dL_change_445 : decode cL_change 445 = .ok (.iconst 0, 1) := by decide +kernel
set_option maxRecDepth 20000 in
theorem dL_change_446 : decode cL_change 446 = .ok (.invokevirtual 15, 3) := by decide +kernel
set_option maxRecDepth 20000 in
theorem dL_change_449 : decode cL_change 449 = .ok (.aload_n 0, 1) := by decide +kernel
set_option maxRecDepth 20000 in
theorem dL_change_450 : decode cL_change 450 = .ok (.iload_n 3, 1) := by decide +kernel
set_option maxRecDepth 20000 in
theorem dL_change_451 : decode cL_change 451 = .ok (.iconst 1, 1) := by decide +kernel
set_option maxRecDepth 20000 in
theorem dL_change_452 : decode cL_change 452 = .ok (.invokevirtual 15, 3) := by decide +kernel
set_option maxRecDepth 20000 in
theorem dL_change_455 : decode cL_change 455 = .ok (.if_icmp .ne 58, 3) := by decide +kernel
set_option maxRecDepth 20000 in
theorem dL_change_458 : decode cL_change 458 = .ok (.goto 40, 3) := by decide +kernel
set_option maxRecDepth 20000 in
theorem dL_change_461 : decode cL_change 461 = .ok (.iload 9, 2) := by decide +kernel
set_option maxRecDepth 20000 in
theorem dL_change_463 : decode cL_change 463 = .ok (.iconst (-1), 1) := by decide +kernel
set_option maxRecDepth 20000 in
theorem dL_change_464 : decode cL_change 464 = .ok (.if_icmp .eq 10, 3) := by decide +kernel
set_option maxRecDepth 20000 in
theorem dL_change_467 : decode cL_change 467 = .ok (.iload 9, 2) := by decide +kernel
set_option maxRecDepth 20000 in
theorem dL_change_469 : decode cL_change 469 = .ok (.bipush (-2), 2) := by decide +kernel
set_option maxRecDepth 20000 in
theorem dL_change_471 : decode cL_change 471 = .ok (.if_icmp .ne 42, 3) := by decide +kernel
set_option maxRecDepth 20000 in
theorem dL_change_474 : decode cL_change 474 = .ok (.aload_n 0, 1) := by decide +kernel
set_option maxRecDepth 20000 in
theorem dL_change_475 : decode cL_change 475 = .ok (.iload_n 3, 1) := by decide +kernel
set_option maxRecDepth 20000 in
theorem dL_change_476 : decode cL_change 476 = .ok (.iconst 3, 1) := by decide +kernel
set_option maxRecDepth 20000 in
theorem dL_change_477 : decode cL_change 477 = .ok (.invokevirtual 15, 3) := by decide +kernel
set_option maxRecDepth 20000 in
theorem dL_change_480 : decode cL_change 480 = .ok (.iload 14, 2) := by decide +kernel
set_option maxRecDepth 20000 in
theorem dL_change_482 : decode cL_change 482 = .ok (.if_icmp .ne 31, 3) := by decide +kernel
set_option maxRecDepth 20000 in
theorem dL_change_485 : decode cL_change 485 = .ok (.aload_n 0, 1) := by decide +kernel
set_option maxRecDepth 20000 in
theorem dL_change_486 : decode cL_change 486 = .ok (.bipush 6, 2) := by decide +kernel
set_option maxRecDepth 20000 in
theorem dL_change_488 : decode cL_change 488 = .ok (.invokevirtual 20, 3) := by decide +kernel
set_option maxRecDepth 20000 in
theorem dL_change_491 : decode cL_change 491 = .ok (.iload 7, 2) := by decide +kernel
set_option maxRecDepth 20000 in
theorem dL_change_493 : decode cL_change 493 = .ok (.iconst 1, 1) := by decide +kernel
set_option maxRecDepth 20000 in
theorem dL_change_494 : decode cL_change 494 = .ok (.iadd, 1) := by decide +kernel
set_option maxRecDepth 20000 in
theorem dL_change_495 : decode cL_change 495 = .ok (.if_icmp .ne 18, 3) := by decide +kernel
set_option maxRecDepth 20000 in
theorem dL_change_498 : decode cL_change 498 = .ok (.aload_n 0, 1) := by decide +kernel
set_option maxRecDepth 20000 in
theorem dL_change_499 : decode cL_change 499 = .ok (.iload_n 3, 1) := by decide +kernel
set_option maxRecDepth 20000 in
theorem dL_change_500 : decode cL_change 500 = .ok (.iconst 2, 1) := by decide +kernel
set_option maxRecDepth 20000 in
theorem dL_change_501 : decode cL_change 501 = .ok (.invokevirtual 15, 3) := by decide +kernel
set_option maxRecDepth 20000 in
theorem dL_change_504 : decode cL_change 504 = .ok (.iload 6, 2) := by decide +kernel
set_option maxRecDepth 20000 in
theorem dL_change_506 : decode cL_change 506 = .ok (.if_icmp .ne 7, 3) := by decide +kernel
set_option maxRecDepth 20000 in
theorem dL_change_509 : decode cL_change 509 = .ok (.iconst 1, 1) := by decide +kernel
set_option maxRecDepth 20000 in
theorem dL_change_510 : decode cL_change 510 = .ok (.goto 4, 3) := by decide +kernel
set_option maxRecDepth 20000 in
theorem dL_change_513 : decode cL_change 513 = .ok (.iconst 0, 1) := by decide +kernel
set_option maxRecDepth 20000 in
theorem dL_change_514 : decode cL_change 514 = .ok (.ireturn, 1) := by decide +kernel
set_option maxRecDepth 20000 in
theorem dL_change_515 : decode cL_change 515 = .ok (.aload_n 0, 1) := by decide +kernel
set_option maxRecDepth 20000 in
theorem dL_change_516 : decode cL_change 516 = .ok (.iload_n 3, 1) := by decide +kernel
set_option maxRecDepth 20000 in
theorem dL_change_517 : decode cL_change 517 = .ok (.iconst 4, 1) := by decide +kernel
set_option maxRecDepth 20000 in
theorem dL_change_518 : decode cL_change 518 = .ok (.invokevirtual 15, 3) := by decide +kernel
set_option maxRecDepth 20000 in
theorem dL_change_521 : decode cL_change 521 = .ok (.istore 15, 2) := by decide +kernel
set_option maxRecDepth 20000 in
theorem dL_change_523 : decode cL_change 523 = .ok (.aload_n 0, 1) := by decide +kernel
set_option maxRecDepth 20000 in
theorem dL_change_524 : decode cL_change 524 = .ok (.iconst 5, 1) := by decide +kernel
set_option maxRecDepth 20000 in
theorem dL_change_525 : decode cL_change 525 = .ok (.invokevirtual 20, 3) := by decide +kernel
set_option maxRecDepth 20000 in
theorem dL_change_528 : decode cL_change 528 = .ok (.istore 16, 2) := by decide +kernel
set_option maxRecDepth 20000 in
theorem dL_change_530 : decode cL_change 530 = .ok (.aload_n 0, 1) := by decide +kernel
set_option maxRecDepth 20000 in
theorem dL_change_531 : decode cL_change 531 = .ok (.iload_n 3, 1) := by decide +kernel
set_option maxRecDepth 20000 in
theorem dL_change_532 : decode cL_change 532 = .ok (.bipush 6, 2) := by decide +kernel
set_option maxRecDepth 20000 in
theorem dL_change_534 : decode cL_change 534 = .ok (.invokevirtual 15, 3) := by decide +kernel
set_option maxRecDepth 20000 in
theorem dL_change_537 : decode cL_change 537 = .ok (.istore 17, 2) := by decide +kernel
set_option maxRecDepth 20000 in
theorem dL_change_539 : decode cL_change 539 = .ok (.iload_n 2, 1) := by decide +kernel
set_option maxRecDepth 20000 in
theorem dL_change_540 : decode cL_change 540 = .ok (.bipush 8, 2) := by decide +kernel
set_option maxRecDepth 20000 in
theorem dL_change_542 : decode cL_change 542 = .ok (.ishr, 1) := by decide +kernel
set_option maxRecDepth 20000 in
theorem dL_change_543 : decode cL_change 543 = .ok (.iconst 3, 1) := by decide +kernel
set_option maxRecDepth 20000 in
theorem dL_change_544 : decode cL_change 544 = .ok (.iand, 1) := by decide +kernel
set_option maxRecDepth 20000 in
theorem dL_change_545 : decode cL_change 545 = .ok (.ifCond .ne 75, 3) := by decide +kernel
set_option maxRecDepth 20000 in
theorem dL_change_548 : decode cL_change 548 = .ok (.aload_n 0, 1) := by decide +kernel
set_option maxRecDepth 20000 in
theorem dL_change_549 : decode cL_change 549 = .ok (.iload_n 3, 1) := by decide +kernel
set_option maxRecDepth 20000 in
theorem dL_change_550 : decode cL_change 550 = .ok (.invokevirtual 47, 3) := by decide +kernel
set_option maxRecDepth 20000 in
theorem dL_change_553 : decode cL_change 553 = .ok (.iload 5, 2) := by decide +kernel
set_option maxRecDepth 20000 in
theorem dL_change_555 : decode cL_change 555 = .ok (.if_icmp .ne 69, 3) := by decide +kernel
set_option maxRecDepth 20000 in
theorem dL_change_558 : decode cL_change 558 = .ok (.aload_n 0, 1) := by decide +kernel
set_option maxRecDepth 20000 in
theorem dL_change_559 : decode cL_change 559 = .ok (.iload_n 3, 1) := by decide +kernel
set_option maxRecDepth 20000 in
theorem dL_change_560 : decode cL_change 560 = .ok (.iconst 0, 1) := by decide +kernel
set_option maxRecDepth 20000 in
theorem dL_change_561 : decode cL_change 561 = .ok (.invokevirtual 15, 3) := by decide +kernel
set_option maxRecDepth 20000 in
theorem dL_change_564 : decode cL_change 564 = .ok (.ifCond .ne 60, 3) := by decide +kernel
set_option maxRecDepth 20000 in
theorem dL_change_567 : decode cL_change 567 = .ok (.aload_n 0, 1) := by decide +kernel
set_option maxRecDepth 20000 in
theorem dL_change_568 : decode cL_change 568 = .ok (.iload_n 3, 1) := by decide +kernel
set_option maxRecDepth 20000 in
theorem dL_change_569 : decode cL_change 569 = .ok (.iconst 2, 1) := by decide +kernel
set_option maxRecDepth 20000 in
theorem dL_change_570 : decode cL_change 570 = .ok (.invokevirtual 15, 3) := by decide +kernel
set_option maxRecDepth 20000 in
theorem dL_change_573 : decode cL_change 573 = .ok (.ifCond .ne 51, 3) := by decide +kernel
set_option maxRecDepth 20000 in
theorem dL_change_576 : decode cL_change 576 = .ok (.aload_n 0, 1) := by decide +kernel
set_option maxRecDepth 20000 in
theorem dL_change_577 : decode cL_change 577 = .ok (.iload_n 3, 1) := by decide +kernel
set_option maxRecDepth 20000 in
theorem dL_change_578 : decode cL_change 578 = .ok (.iconst 4, 1) := by decide +kernel
set_option maxRecDepth 20000 in
theorem dL_change_579 : decode cL_change 579 = .ok (.invokevirtual 15, 3) := by decide +kernel
set_option maxRecDepth 20000 in
theorem dL_change_582 : decode cL_change 582 = .ok (.ifCond .ne 42, 3) := by decide +kernel
set_option maxRecDepth 20000 in
theorem dL_change_585 : decode cL_change 585 = .ok (.aload_n 0, 1) := by decide +kernel
set_option maxRecDepth 20000 in
theorem dL_change_586 : decode cL_change 586 = .ok (.iconst 5, 1) := by decide +kernel
set_option maxRecDepth 20000 in
theorem dL_change_587 : decode cL_change 587 = .ok (.invokevirtual 20, 3) := by decide +kernel
set_option maxRecDepth 20000 in
theorem dL_change_590 : decode cL_change 590 = .ok (.iload 16, 2) := by decide +kernel
set_option maxRecDepth 20000 in
theorem dL_change_592 : decode cL_change 592 = .ok (.iload 15, 2) := by decide +kernel
set_option maxRecDepth 20000 in
theorem dL_change_594 : decode cL_change 594 = .ok (.iadd, 1) := by decide +kernel
set_option maxRecDepth 20000 in
theorem dL_change_595 : decode cL_change 595 = .ok (.if_icmp .ne 29, 3) := by decide +kernel
set_option maxRecDepth 20000 in
theorem dL_change_598 : decode cL_change 598 = .ok (.aload_n 0, 1) := by decide +kernel
set_option maxRecDepth 20000 in
theorem dL_change_599 : decode cL_change 599 = .ok (.iload_n 3, 1) := by decide +kernel
set_option maxRecDepth 20000 in
theorem dL_change_600 : decode cL_change 600 = .ok (.bipush 6, 2) := by decide +kernel
set_option maxRecDepth 20000 in
theorem dL_change_602 : decode cL_change 602 = .ok (.invokevirtual 15, 3) := by decide +kernel
set_option maxRecDepth 20000 in
theorem dL_change_605 : decode cL_change 605 = .ok (.iload 17, 2) := by decide +kernel
set_option maxRecDepth 20000 in
theorem dL_change_607 : decode cL_change 607 = .ok (.if_icmp .ne 17, 3) := by decide +kernel
set_option maxRecDepth 20000 in
theorem dL_change_610 : decode cL_change 610 = .ok (.aload_n 0, 1) := by decide +kernel
set_option maxRecDepth 20000 in
theorem dL_change_611 : decode cL_change 611 = .ok (.iload_n 3, 1) := by decide +kernel
set_option maxRecDepth 20000 in
theorem dL_change_612 : decode cL_change 612 = .ok (.bipush 7, 2) := by decide +kernel
set_option maxRecDepth 20000 in
theorem dL_change_614 : decode cL_change 614 = .ok (.invokevirtual 15, 3) := by decide +kernel
set_option maxRecDepth 20000 in
theorem dL_change_617 : decode cL_change 617 = .ok (.ifCond .ne 7, 3) := by decide +kernel
set_option maxRecDepth 20000 in
theorem dL_change_620 : decode cL_change 620 = .ok (.iconst 1, 1) := by decide +kernel
set_option maxRecDepth 20000 in
theorem dL_change_621 : decode cL_change 621 = .ok (.goto 4, 3) := by decide +kernel
set_option maxRecDepth 20000 in
theorem dL_change_624 : decode cL_change 624 = .ok (.iconst 0, 1) := by decide +kernel
set_option maxRecDepth 20000 in
theorem dL_change_625 : decode cL_change 625 = .ok (.ireturn, 1) := by decide +kernel
set_option maxRecDepth 20000 in
theorem dL_change_626 : decode cL_change 626 = .ok (.aload_n 0, 1) := by decide +kernel
set_option maxRecDepth 20000 in
theorem dL_change_627 : decode cL_change 627 = .ok (.iload_n 3, 1) := by decide +kernel
set_option maxRecDepth 20000 in
theorem dL_change_628 : decode cL_change 628 = .ok (.bipush 6, 2) := by decide +kernel
set_option maxRecDepth 20000 in
theorem dL_change_630 : decode cL_change 630 = .ok (.invokevirtual 15, 3) := by decide +kernel
set_option maxRecDepth 20000 in
theorem dL_change_633 : decode cL_change 633 = .ok (.istore 9, 2) := by decide +kernel
set_option maxRecDepth 20000 in
theorem dL_change_635 : decode cL_change 635 = .ok (.aload_n 0, 1) := by decide +kernel
set_option maxRecDepth 20000 in
theorem dL_change_636 : decode cL_change 636 = .ok (.iload_n 3, 1) := by decide +kernel
set_option maxRecDepth 20000 in
theorem dL_change_637 : decode cL_change 637 = .ok (.iload_n 2, 1) := by decide +kernel
set_option maxRecDepth 20000 in
theorem dL_change_638 : decode cL_change 638 = .ok (.iconst 4, 1) := by decide +kernel
set_option maxRecDepth 20000 in
theorem dL_change_639 : decode cL_change 639 = .ok (.ishr, 1) := by decide +kernel
set_option maxRecDepth 20000 in
theorem dL_change_640 : decode cL_change 640 = .ok (.bipush 6, 2) := by decide +kernel
set_option maxRecDepth 20000 in
theorem dL_change_642 : decode cL_change 642 = .ok (.invokestatic 9, 3) := by decide +kernel
set_option maxRecDepth 20000 in
theorem dL_change_645 : decode cL_change 645 = .ok (.invokevirtual 50, 3) := by decide +kernel
set_option maxRecDepth 20000 in
theorem dL_change_648 : decode cL_change 648 = .ok (.iload 9, 2) := by decide +kernel
set_option maxRecDepth 20000 in
theorem dL_change_650 : decode cL_change 650 = .ok (.if_icmp .ne 25, 3) := by decide +kernel
set_option maxRecDepth 20000 in
theorem dL_change_653 : decode cL_change 653 = .ok (.aload_n 0, 1) := by decide +kernel
set_option maxRecDepth 20000 in
theorem dL_change_654 : decode cL_change 654 = .ok (.iload_n 3, 1) := by decide +kernel
set_option maxRecDepth 20000 in
theorem dL_change_655 : decode cL_change 655 = .ok (.bipush 6, 2) := by decide +kernel
set_option maxRecDepth 20000 in
theorem dL_change_657 : decode cL_change 657 = .ok (.invokevirtual 15, 3) := by decide +kernel
set_option maxRecDepth 20000 in
theorem dL_change_660 : decode cL_change 660 = .ok (.iload_n 2, 1) := by decide +kernel
set_option maxRecDepth 20000 in
theorem dL_change_661 : decode cL_change 661 = .ok (.iconst 4, 1) := by decide +kernel
set_option maxRecDepth 20000 in
theorem dL_change_662 : decode cL_change 662 = .ok (.ishr, 1) := by decide +kernel
set_option maxRecDepth 20000 in
theorem dL_change_663 : decode cL_change 663 = .ok (.bipush 6, 2) := by decide +kernel
set_option maxRecDepth 20000 in
theorem dL_change_665 : decode cL_change 665 = .ok (.invokestatic 9, 3) := by decide +kernel
set_option maxRecDepth 20000 in
theorem dL_change_668 : decode cL_change 668 = .ok (.if_icmp .ne 7, 3) := by decide +kernel
set_option maxRecDepth 20000 in
theorem dL_change_671 : decode cL_change 671 = .ok (.iconst 1, 1) := by decide +kernel
set_option maxRecDepth 20000 in
theorem dL_change_672 : decode cL_change 672 = .ok (.goto 4, 3) := by decide +kernel
set_option maxRecDepth 20000 in
theorem dL_change_675 : decode cL_change 675 = .ok (.iconst 0, 1) := by decide +kernel
set_option maxRecDepth 20000 in
theorem dL_change_676 : decode cL_change 676 = .ok (.ireturn, 1) := by decide +kernel
set_option maxRecDepth 20000 in
theorem dL_change_677 : decode cL_change 677 = .ok (.aload_n 0, 1) := by decide +kernel
set_option maxRecDepth 20000 in
theorem dL_change_678 : decode cL_change 678 = .ok (.bipush 8, 2) := by decide +kernel
set_option maxRecDepth 20000 in
theorem dL_change_680 : decode cL_change 680 = .ok (.invokevirtual 20, 3) := by decide +kernel
set_option maxRecDepth 20000 in
theorem dL_change_683 : decode cL_change 683 = .ok (.istore 9, 2) := by decide +kernel
set_option maxRecDepth 20000 in
theorem dL_change_685 : decode cL_change 685 = .ok (.aload_n 0, 1) := by decide +kernel
set_option maxRecDepth 20000 in
theorem dL_change_686 : decode cL_change 686 = .ok (.bipush 20, 2) := by decide +kernel
set_option maxRecDepth 20000 in
theorem dL_change_688 : decode cL_change 688 = .ok (.iload_n 2, 1) := by decide +kernel
set_option maxRecDepth 20000 in
theorem dL_change_689 : decode cL_change 689 = .ok (.bipush 40, 2) := by decide +kernel
set_option maxRecDepth 20000 in
theorem dL_change_691 : decode cL_change 691 = .ok (.invokestatic 9, 3) := by decide +kernel
set_option maxRecDepth 20000 in
theorem dL_change_694 : decode cL_change 694 = .ok (.iadd, 1) := by decide +kernel
set_option maxRecDepth 20000 in
theorem dL_change_695 : decode cL_change 695 = .ok (.invokevirtual 53, 3) := by decide +kernel
set_option maxRecDepth 20000 in
theorem dL_change_698 : decode cL_change 698 = .ok (.iload 9, 2) := by decide +kernel
set_option maxRecDepth 20000 in
theorem dL_change_700 : decode cL_change 700 = .ok (.if_icmp .ne 25, 3) := by decide +kernel
set_option maxRecDepth 20000 in
theorem dL_change_703 : decode cL_change 703 = .ok (.aload_n 0, 1) := by decide +kernel
set_option maxRecDepth 20000 in
theorem dL_change_704 : decode cL_change 704 = .ok (.bipush 8, 2) := by decide +kernel
set_option maxRecDepth 20000 in
theorem dL_change_706 : decode cL_change 706 = .ok (.invokevirtual 20, 3) := by decide +kernel
set_option maxRecDepth 20000 in
theorem dL_change_709 : decode cL_change 709 = .ok (.bipush 20, 2) := by decide +kernel
set_option maxRecDepth 20000 in
theorem dL_change_711 : decode cL_change 711 = .ok (.iload_n 2, 1) := by decide +kernel
set_option maxRecDepth 20000 in
theorem dL_change_712 : decode cL_change 712 = .ok (.bipush 40, 2) := by decide +kernel
set_option maxRecDepth 20000 in
theorem dL_change_714 : decode cL_change 714 = .ok (.invokestatic 9, 3) := by decide +kernel
set_option maxRecDepth 20000 in
theorem dL_change_717 : decode cL_change 717 = .ok (.iadd, 1) := by decide +kernel
set_option maxRecDepth 20000 in
theorem dL_change_718 : decode cL_change 718 = .ok (.if_icmp .ne 7, 3) := by decide +kernel
set_option maxRecDepth 20000 in
theorem dL_change_721 : decode cL_change 721 = .ok (.iconst 1, 1) := by decide +kernel
set_option maxRecDepth 20000 in
theorem dL_change_722 : decode cL_change 722 = .ok (.goto 4, 3) := by decide +kernel
set_option maxRecDepth 20000 in
theorem dL_change_725 : decode cL_change 725 = .ok (.iconst 0, 1) := by decide +kernel
set_option maxRecDepth 20000 in
theorem dL_change_726 : decode cL_change 726 = .ok (.ireturn, 1) := by decide +kernel
theorem dL_ties_0 : decode cL_ties 0 = .ok (.aload_n 0, 1) := by decide +kernel
theorem dL_ties_1 : decode cL_ties 1 = .ok (.iload_n 1, 1) := by decide +kernel
theorem dL_ties_2 : decode cL_ties 2 = .ok (.iconst 0, 1) := by decide +kernel
theorem dL_ties_3 : decode cL_ties 3 = .ok (.invokevirtual 15, 3) := by decide +kernel
theorem dL_ties_6 : decode cL_ties 6 = .ok (.istore_n 3, 1) := by decide +kernel
theorem dL_ties_7 : decode cL_ties 7 = .ok (.aload_n 0, 1) := by decide +kernel
theorem dL_ties_8 : decode cL_ties 8 = .ok (.iload_n 1, 1) := by decide +kernel
theorem dL_ties_9 : decode cL_ties 9 = .ok (.iconst 2, 1) := by decide +kernel
theorem dL_ties_10 : decode cL_ties 10 = .ok (.invokevirtual 15, 3) := by decide +kernel
theorem dL_ties_13 : decode cL_ties 13 = .ok (.istore 4, 2) := by decide +kernel
theorem dL_ties_15 : decode cL_ties 15 = .ok (.aload_n 0, 1) := by decide +kernel
theorem dL_ties_16 : decode cL_ties 16 = .ok (.iload_n 1, 1) := by decide +kernel
theorem dL_ties_17 : decode cL_ties 17 = .ok (.iconst 4, 1) := by decide +kernel
theorem dL_ties_18 : decode cL_ties 18 = .ok (.invokevirtual 15, 3) := by decide +kernel
theorem dL_ties_21 : decode cL_ties 21 = .ok (.istore 5, 2) := by decide +kernel
theorem dL_ties_23 : decode cL_ties 23 = .ok (.aload_n 0, 1) := by decide +kernel
theorem dL_ties_24 : decode cL_ties 24 = .ok (.bipush 6, 2) := by decide +kernel
theorem dL_ties_26 : decode cL_ties 26 = .ok (.invokevirtual 20, 3) := by decide +kernel
theorem dL_ties_29 : decode cL_ties 29 = .ok (.istore 6, 2) := by decide +kernel
theorem dL_ties_31 : decode cL_ties 31 = .ok (.aload_n 0, 1) := by decide +kernel
theorem dL_ties_32 : decode cL_ties 32 = .ok (.iconst 2, 1) := by decide +kernel
theorem dL_ties_33 : decode cL_ties 33 = .ok (.invokevirtual 20, 3) := by decide +kernel
theorem dL_ties_36 : decode cL_ties 36 = .ok (.istore 7, 2) := by decide +kernel
theorem dL_ties_38 : decode cL_ties 38 = .ok (.aload_n 0, 1) := by decide +kernel
theorem dL_ties_39 : decode cL_ties 39 = .ok (.iconst 3, 1) := by decide +kernel
theorem dL_ties_40 : decode cL_ties 40 = .ok (.invokevirtual 20, 3) := by decide +kernel
theorem dL_ties_43 : decode cL_ties 43 = .ok (.istore 8, 2) := by decide +kernel
theorem dL_ties_45 : decode cL_ties 45 = .ok (.aload_n 0, 1) := by decide +kernel
theorem dL_ties_46 : decode cL_ties 46 = .ok (.iload_n 1, 1) := by decide +kernel
theorem dL_ties_47 : decode cL_ties 47 = .ok (.iload_n 2, 1) := by decide +kernel
theorem dL_ties_48 : decode cL_ties 48 = .ok (.invokevirtual 31, 3) := by decide +kernel
theorem dL_ties_51 : decode cL_ties 51 = .ok (.istore 9, 2) := by decide +kernel
theorem dL_ties_53 : decode cL_ties 53 = .ok (.aload_n 0, 1) := by decide +kernel
theorem dL_ties_54 : decode cL_ties 54 = .ok (.iload_n 1, 1) := by decide +kernel
theorem dL_ties_55 : decode cL_ties 55 = .ok (.iload_n 2, 1) := by decide +kernel
theorem dL_ties_56 : decode cL_ties 56 = .ok (.invokevirtual 56, 3) := by decide +kernel
theorem dL_ties_59 : decode cL_ties 59 = .ok (.istore 10, 2) := by decide +kernel
theorem dL_ties_61 : decode cL_ties 61 = .ok (.iconst 0, 1) := by decide +kernel
theorem dL_ties_62 : decode cL_ties 62 = .ok (.istore 11, 2) := by decide +kernel
theorem dL_ties_64 : decode cL_ties 64 = .ok (.iload_n 2, 1) := by decide +kernel
theorem dL_ties_65 : decode cL_ties 65 = .ok (.istore 12, 2) := by decide +kernel
theorem dL_ties_67 : decode cL_ties 67 = .ok (.iload 12, 2) := by decide +kernel
theorem dL_ties_69 : decode cL_ties 69 = .ok (.ifCond .le 23, 3) := by decide +kernel
theorem dL_ties_72 : decode cL_ties 72 = .ok (.iload 11, 2) := by decide +kernel
theorem dL_ties_74 : decode cL_ties 74 = .ok (.iload 12, 2) := by decide +kernel
theorem dL_ties_76 : decode cL_ties 76 = .ok (.bipush 10, 2) := by decide +kernel
theorem dL_ties_78 : decode cL_ties 78 = .ok (.irem, 1) := by decide +kernel
theorem dL_ties_79 : decode cL_ties 79 = .ok (.iadd, 1) := by decide +kernel
theorem dL_ties_80 : decode cL_ties 80 = .ok (.istore 11, 2) := by decide +kernel
theorem dL_ties_82 : decode cL_ties 82 = .ok (.iload 12, 2) := by decide +kernel
theorem dL_ties_84 : decode cL_ties 84 = .ok (.bipush 10, 2) := by decide +kernel
theorem dL_ties_86 : decode cL_ties 86 = .ok (.idiv, 1) := by decide +kernel
theorem dL_ties_87 : decode cL_ties 87 = .ok (.istore 12, 2) := by decide +kernel
theorem dL_ties_89 : decode cL_ties 89 = .ok (.goto (-22), 3) := by decide +kernel
theorem dL_ties_92 : decode cL_ties 92 = .ok (.iload 9, 2) := by decide +kernel
theorem dL_ties_94 : decode cL_ties 94 = .ok (.iconst 3, 1) := by decide +kernel
theorem dL_ties_95 : decode cL_ties 95 = .ok (.if_icmp .ne 18, 3) := by decide +kernel
theorem dL_ties_98 : decode cL_ties 98 = .ok (.iload 4, 2) := by decide +kernel
theorem dL_ties_100 : decode cL_ties 100 = .ok (.bipush 16, 2) := by decide +kernel
theorem dL_ties_102 : decode cL_ties 102 = .ok (.if_icmp .ne 7, 3) := by decide +kernel
theorem dL_ties_105 : decode cL_ties 105 = .ok (.iconst 1, 1) := by decide +kernel
theorem dL_ties_106 : decode cL_ties 106 = .ok (.goto 78, 3) := by decide +kernel
theorem dL_ties_109 : decode cL_ties 109 = .ok (.iconst 0, 1) := by decide +kernel
theorem dL_ties_110 : decode cL_ties 110 = .ok (.goto 74, 3) := by decide +kernel
theorem dL_ties_113 : decode cL_ties 113 = .ok (.iload 9, 2) := by decide +kernel
theorem dL_ties_115 : decode cL_ties 115 = .ok (.iconst 1, 1) := by decide +kernel
theorem dL_ties_116 : decode cL_ties 116 = .ok (.if_icmp .ne 19, 3) := by decide +kernel
theorem dL_ties_119 : decode cL_ties 119 = .ok (.iload_n 3, 1) := by decide +kernel
theorem dL_ties_120 : decode cL_ties 120 = .ok (.iload_n 2, 1) := by decide +kernel
theorem dL_ties_121 : decode cL_ties 121 = .ok (.iadd, 1) := by decide +kernel
theorem dL_ties_122 : decode cL_ties 122 = .ok (.ldc 59, 2) := by decide +kernel
theorem dL_ties_124 : decode cL_ties 124 = .ok (.if_icmp .le 7, 3) := by decide +kernel
theorem dL_ties_127 : decode cL_ties 127 = .ok (.iconst 1, 1) := by decide +kernel
theorem dL_ties_128 : decode cL_ties 128 = .ok (.goto 56, 3) := by decide +kernel
theorem dL_ties_131 : decode cL_ties 131 = .ok (.iconst 0, 1) := by decide +kernel
theorem dL_ties_132 : decode cL_ties 132 = .ok (.goto 52, 3) := by decide +kernel
theorem dL_ties_135 : decode cL_ties 135 = .ok (.iload 9, 2) := by decide +kernel
theorem dL_ties_137 : decode cL_ties 137 = .ok (.iconst 2, 1) := by decide +kernel
theorem dL_ties_138 : decode cL_ties 138 = .ok (.if_icmp .ne 26, 3) := by decide +kernel
theorem dL_ties_141 : decode cL_ties 141 = .ok (.iload_n 3, 1) := by decide +kernel
theorem dL_ties_142 : decode cL_ties 142 = .ok (.iload_n 2, 1) := by decide +kernel
theorem dL_ties_143 : decode cL_ties 143 = .ok (.iadd, 1) := by decide +kernel
theorem dL_ties_144 : decode cL_ties 144 = .ok (.ldc 59, 2) := by decide +kernel
theorem dL_ties_146 : decode cL_ties 146 = .ok (.if_icmp .gt 14, 3) := by decide +kernel
theorem dL_ties_149 : decode cL_ties 149 = .ok (.iload 4, 2) := by decide +kernel
theorem dL_ties_151 : decode cL_ties 151 = .ok (.bipush 16, 2) := by decide +kernel
theorem dL_ties_153 : decode cL_ties 153 = .ok (.if_icmp .ge 7, 3) := by decide +kernel
theorem dL_ties_156 : decode cL_ties 156 = .ok (.iconst 1, 1) := by decide +kernel
theorem dL_ties_157 : decode cL_ties 157 = .ok (.goto 27, 3) := by decide +kernel
theorem dL_ties_160 : decode cL_ties 160 = .ok (.iconst 0, 1) := by decide +kernel
theorem dL_ties_161 : decode cL_ties 161 = .ok (.goto 23, 3) := by decide +kernel
theorem dL_ties_164 : decode cL_ties 164 = .ok (.iload 4, 2) := by decide +kernel
theorem dL_ties_166 : decode cL_ties 166 = .ok (.bipush 16, 2) := by decide +kernel
theorem dL_ties_168 : decode cL_ties 168 = .ok (.if_icmp .ge 15, 3) := by decide +kernel
theorem dL_ties_171 : decode cL_ties 171 = .ok (.iload_n 3, 1) := by decide +kernel
theorem dL_ties_172 : decode cL_ties 172 = .ok (.iload_n 2, 1) := by decide +kernel
theorem dL_ties_173 : decode cL_ties 173 = .ok (.iadd, 1) := by decide +kernel
theorem dL_ties_174 : decode cL_ties 174 = .ok (.ldc 59, 2) := by decide +kernel
theorem dL_ties_176 : decode cL_ties 176 = .ok (.if_icmp .gt 7, 3) := by decide +kernel
theorem dL_ties_179 : decode cL_ties 179 = .ok (.iconst 1, 1) := by decide +kernel
theorem dL_ties_180 : decode cL_ties 180 = .ok (.goto 4, 3) := by decide +kernel
theorem dL_ties_183 : decode cL_ties 183 = .ok (.iconst 0, 1) := by decide +kernel
theorem dL_ties_184 : decode cL_ties 184 = .ok (.istore 12, 2) := by decide +kernel
theorem dL_ties_186 : decode cL_ties 186 = .ok (.aload_n 0, 1) := by decide +kernel
theorem dL_ties_187 : decode cL_ties 187 = .ok (.iload_n 1, 1) := by decide +kernel
theorem dL_ties_188 : decode cL_ties 188 = .ok (.iload_n 2, 1) := by decide +kernel
theorem dL_ties_189 : decode cL_ties 189 = .ok (.invokevirtual 60, 3) := by decide +kernel
theorem dL_ties_192 : decode cL_ties 192 = .ok (.istore 13, 2) := by decide +kernel
theorem dL_ties_194 : decode cL_ties 194 = .ok (.iload 9, 2) := by decide +kernel
theorem dL_ties_196 : decode cL_ties 196 = .ok (.ifCond .le 60, 3) := by decide +kernel
theorem dL_ties_199 : decode cL_ties 199 = .ok (.iload 12, 2) := by decide +kernel
theorem dL_ties_201 : decode cL_ties 201 = .ok (.ifCond .eq 53, 3) := by decide +kernel
theorem dL_ties_204 : decode cL_ties 204 = .ok (.iload 10, 2) := by decide +kernel
theorem dL_ties_206 : decode cL_ties 206 = .ok (.ifCond .ne 48, 3) := by decide +kernel
theorem dL_ties_209 : decode cL_ties 209 = .ok (.iload 13, 2) := by decide +kernel
theorem dL_ties_211 : decode cL_ties 211 = .ok (.iload 9, 2) := by decide +kernel
theorem dL_ties_213 : decode cL_ties 213 = .ok (.if_icmp .ne 41, 3) := by decide +kernel
theorem dL_ties_216 : decode cL_ties 216 = .ok (.aload_n 0, 1) := by decide +kernel
theorem dL_ties_217 : decode cL_ties 217 = .ok (.bipush 6, 2) := by decide +kernel
theorem dL_ties_219 : decode cL_ties 219 = .ok (.invokevirtual 20, 3) := by decide +kernel
theorem dL_ties_222 : decode cL_ties 222 = .ok (.iload 6, 2) := by decide +kernel
theorem dL_ties_224 : decode cL_ties 224 = .ok (.iconst 1, 1) := by decide +kernel
theorem dL_ties_225 : decode cL_ties 225 = .ok (.iadd, 1) := by decide +kernel
theorem dL_ties_226 : decode cL_ties 226 = .ok (.if_icmp .ne 28, 3) := by decide +kernel
theorem dL_ties_229 : decode cL_ties 229 = .ok (.aload_n 0, 1) := by decide +kernel
theorem dL_ties_230 : decode cL_ties 230 = .ok (.iload_n 1, 1) := by decide +kernel
theorem dL_ties_231 : decode cL_ties 231 = .ok (.iconst 0, 1) := by decide +kernel
theorem dL_ties_232 : decode cL_ties 232 = .ok (.invokevirtual 15, 3) := by decide +kernel
theorem dL_ties_235 : decode cL_ties 235 = .ok (.iload_n 3, 1) := by decide +kernel
theorem dL_ties_236 : decode cL_ties 236 = .ok (.if_icmp .ne 18, 3) := by decide +kernel
theorem dL_ties_239 : decode cL_ties 239 = .ok (.aload_n 0, 1) := by decide +kernel
theorem dL_ties_240 : decode cL_ties 240 = .ok (.iload_n 1, 1) := by decide +kernel
theorem dL_ties_241 : decode cL_ties 241 = .ok (.iconst 4, 1) := by decide +kernel
theorem dL_ties_242 : decode cL_ties 242 = .ok (.invokevirtual 15, 3) := by decide +kernel
theorem dL_ties_245 : decode cL_ties 245 = .ok (.iload 5, 2) := by decide +kernel
theorem dL_ties_247 : decode cL_ties 247 = .ok (.if_icmp .ne 7, 3) := by decide +kernel
theorem dL_ties_250 : decode cL_ties 250 = .ok (.iconst 1, 1) := by decide +kernel
set_option maxRecDepth 20000 in
theorem dL_ties_251 : decode cL_ties 251 = .ok (.goto 4, 3) := by decide +kernel
set_option maxRecDepth 20000 in
theorem dL_ties_254 : decode cL_ties 254 = .ok (.iconst 0, 1) := by decide +kernel
set_option maxRecDepth 20000 in
theorem dL_ties_255 : decode cL_ties 255 = .ok (.ireturn, 1) := by decide +kernel
set_option maxRecDepth 20000 in
theorem dL_ties_256 : decode cL_ties 256 = .ok (.iload 13, 2) := by decide +kernel
set_option maxRecDepth 20000 in
theorem dL_ties_258 : decode cL_ties 258 = .ok (.bipush 10, 2) := by decide +kernel
set_option maxRecDepth 20000 in
theorem dL_ties_260 : decode cL_ties 260 = .ok (.isub, 1) := by decide +kernel
set_option maxRecDepth 20000 in
theorem dL_ties_261 : decode cL_ties 261 = .ok (.istore 14, 2) := by decide +kernel
set_option maxRecDepth 20000 in
theorem dL_ties_263 : decode cL_ties 263 = .ok (.iload 12, 2) := by decide +kernel
set_option maxRecDepth 20000 in
theorem dL_ties_265 : decode cL_ties 265 = .ok (.ifCond .eq 90, 3) := by decide +kernel
set_option maxRecDepth 20000 in
theorem dL_ties_268 : decode cL_ties 268 = .ok (.iload 14, 2) := by decide +kernel
set_option maxRecDepth 20000 in
theorem dL_ties_270 : decode cL_ties 270 = .ok (.ifCond .lt 85, 3) := by decide +kernel
set_option maxRecDepth 20000 in
theorem dL_ties_273 : decode cL_ties 273 = .ok (.aload_n 0, 1) := by decide +kernel
set_option maxRecDepth 20000 in
theorem dL_ties_274 : decode cL_ties 274 = .ok (.iload_n 1, 1) := by decide +kernel
set_option maxRecDepth 20000 in
theorem dL_ties_275 : decode cL_ties 275 = .ok (.iconst 0, 1) := by decide +kernel
set_option maxRecDepth 20000 in
theorem dL_ties_276 : decode cL_ties 276 = .ok (.invokevirtual 15, 3) := by decide +kernel
set_option maxRecDepth 20000 in
theorem dL_ties_279 : decode cL_ties 279 = .ok (.iload_n 3, 1) := by decide +kernel
set_option maxRecDepth 20000 in
theorem dL_ties_280 : decode cL_ties 280 = .ok (.iload_n 2, 1) := by decide +kernel
set_option maxRecDepth 20000 in
theorem dL_ties_281 : decode cL_ties 281 = .ok (.iadd, 1) := by decide +kernel
set_option maxRecDepth 20000 in
theorem dL_ties_282 : decode cL_ties 282 = .ok (.if_icmp .ne 73, 3) := by decide +kernel
set_option maxRecDepth 20000 in
theorem dL_ties_285 : decode cL_ties 285 = .ok (.aload_n 0, 1) := by decide +kernel
set_option maxRecDepth 20000 in
theorem dL_ties_286 : decode cL_ties 286 = .ok (.iload_n 1, 1) := by decide +kernel
set_option maxRecDepth 20000 in
theorem dL_ties_287 : decode cL_ties 287 = .ok (.iconst 2, 1) := by decide +kernel
set_option maxRecDepth 20000 in
theorem dL_ties_288 : decode cL_ties 288 = .ok (.invokevirtual 15, 3) := by decide +kernel
set_option maxRecDepth 20000 in
theorem dL_ties_291 : decode cL_ties 291 = .ok (.iload 4, 2) := by decide +kernel
set_option maxRecDepth 20000 in
theorem dL_ties_293 : decode cL_ties 293 = .ok (.iconst 1, 1) := by decide +kernel
set_option maxRecDepth 20000 in
theorem dL_ties_294 : decode cL_ties 294 = .ok (.iadd, 1) := by decide +kernel
set_option maxRecDepth 20000 in
theorem dL_ties_295 : decode cL_ties 295 = .ok (.if_icmp .ne 60, 3) := by decide +kernel
set_option maxRecDepth 20000 in
theorem dL_ties_298 : decode cL_ties 298 = .ok (.aload_n 0, 1) := by decide +kernel
set_option maxRecDepth 20000 in
theorem dL_ties_299 : decode cL_ties 299 = .ok (.iload_n 1, 1) := by decide +kernel
set_option maxRecDepth 20000 in
theorem dL_ties_300 : decode cL_ties 300 = .ok (.iload 4, 2) := by decide +kernel
set_option maxRecDepth 20000 in
theorem dL_ties_302 : decode cL_ties 302 = .ok (.invokevirtual 63, 3) := by decide +kernel
set_option maxRecDepth 20000 in
theorem dL_ties_305 : decode cL_ties 305 = .ok (.iload_n 2, 1) := by decide +kernel
set_option maxRecDepth 20000 in
theorem dL_ties_306 : decode cL_ties 306 = .ok (.if_icmp .ne 49, 3) := by decide +kernel
set_option maxRecDepth 20000 in
theorem dL_ties_309 : decode cL_ties 309 = .ok (.aload_n 0, 1) := by decide +kernel
set_option maxRecDepth 20000 in
theorem dL_ties_310 : decode cL_ties 310 = .ok (.iload_n 1, 1) := by decide +kernel
set_option maxRecDepth 20000 in
theorem dL_ties_311 : decode cL_ties 311 = .ok (.iload 4, 2) := by decide +kernel
set_option maxRecDepth 20000 in
theorem dL_ties_313 : decode cL_ties 313 = .ok (.iconst 1, 1) := by decide +kernel
set_option maxRecDepth 20000 in
theorem dL_ties_314 : decode cL_ties 314 = .ok (.iadd, 1) := by decide +kernel
set_option maxRecDepth 20000 in
theorem dL_ties_315 : decode cL_ties 315 = .ok (.invokevirtual 63, 3) := by decide +kernel
set_option maxRecDepth 20000 in
theorem dL_ties_318 : decode cL_ties 318 = .ok (.iconst (-1), 1) := by decide +kernel
set_option maxRecDepth 20000 in
theorem dL_ties_319 : decode cL_ties 319 = .ok (.if_icmp .ne 36, 3) := by decide +kernel
set_option maxRecDepth 20000 in
theorem dL_ties_322 : decode cL_ties 322 = .ok (.aload_n 0, 1) := by decide +kernel
set_option maxRecDepth 20000 in
theorem dL_ties_323 : decode cL_ties 323 = .ok (.iconst 2, 1) := by decide +kernel
set_option maxRecDepth 20000 in
theorem dL_ties_324 : decode cL_ties 324 = .ok (.invokevirtual 20, 3) := by decide +kernel
set_option maxRecDepth 20000 in
theorem dL_ties_327 : decode cL_ties 327 = .ok (.iload 7, 2) := by decide +kernel
set_option maxRecDepth 20000 in
theorem dL_ties_329 : decode cL_ties 329 = .ok (.iload 11, 2) := by decide +kernel
set_option maxRecDepth 20000 in
theorem dL_ties_331 : decode cL_ties 331 = .ok (.iadd, 1) := by decide +kernel
set_option maxRecDepth 20000 in
theorem dL_ties_332 : decode cL_ties 332 = .ok (.iload 14, 2) := by decide +kernel
set_option maxRecDepth 20000 in
theorem dL_ties_334 : decode cL_ties 334 = .ok (.iadd, 1) := by decide +kernel
set_option maxRecDepth 20000 in
theorem dL_ties_335 : decode cL_ties 335 = .ok (.if_icmp .ne 20, 3) := by decide +kernel
set_option maxRecDepth 20000 in
theorem dL_ties_338 : decode cL_ties 338 = .ok (.aload_n 0, 1) := by decide +kernel
set_option maxRecDepth 20000 in
theorem dL_ties_339 : decode cL_ties 339 = .ok (.iconst 3, 1) := by decide +kernel
set_option maxRecDepth 20000 in
theorem dL_ties_340 : decode cL_ties 340 = .ok (.invokevirtual 20, 3) := by decide +kernel
set_option maxRecDepth 20000 in
theorem dL_ties_343 : decode cL_ties 343 = .ok (.iload 8, 2) := by decide +kernel
set_option maxRecDepth 20000 in
theorem dL_ties_345 : decode cL_ties 345 = .ok (.iload 14, 2) := by decide +kernel
set_option maxRecDepth 20000 in
theorem dL_ties_347 : decode cL_ties 347 = .ok (.iadd, 1) := by decide +kernel
set_option maxRecDepth 20000 in
theorem dL_ties_348 : decode cL_ties 348 = .ok (.if_icmp .ne 7, 3) := by decide +kernel
set_option maxRecDepth 20000 in
theorem dL_ties_351 : decode cL_ties 351 = .ok (.iconst 1, 1) := by decide +kernel
set_option maxRecDepth 20000 in
theorem dL_ties_352 : decode cL_ties 352 = .ok (.goto 4, 3) := by decide +kernel
set_option maxRecDepth 20000 in
theorem dL_ties_355 : decode cL_ties 355 = .ok (.iconst 0, 1) := by decide +kernel
set_option maxRecDepth 20000 in
theorem dL_ties_356 : decode cL_ties 356 = .ok (.istore 15, 2) := by decide +kernel
set_option maxRecDepth 20000 in
theorem dL_ties_358 : decode cL_ties 358 = .ok (.iload 15, 2) := by decide +kernel
set_option maxRecDepth 20000 in
theorem dL_ties_360 : decode cL_ties 360 = .ok (.ifCond .eq 50, 3) := by decide +kernel
set_option maxRecDepth 20000 in
theorem dL_ties_363 : decode cL_ties 363 = .ok (.aload_n 0, 1) := by decide +kernel
set_option maxRecDepth 20000 in
theorem dL_ties_364 : decode cL_ties 364 = .ok (.iload_n 1, 1) := by decide +kernel
set_option maxRecDepth 20000 in
theorem dL_ties_365 : decode cL_ties 365 = .ok (.iconst 4, 1) := by decide +kernel
set_option maxRecDepth 20000 in
theorem dL_ties_366 : decode cL_ties 366 = .ok (.invokevirtual 15, 3) := by decide +kernel
set_option maxRecDepth 20000 in
theorem dL_ties_369 : decode cL_ties 369 = .ok (.iload 5, 2) := by decide +kernel
set_option maxRecDepth 20000 in
theorem dL_ties_371 : decode cL_ties 371 = .ok (.iload 11, 2) := by decide +kernel
set_option maxRecDepth 20000 in
theorem dL_ties_373 : decode cL_ties 373 = .ok (.iadd, 1) := by decide +kernel
set_option maxRecDepth 20000 in
theorem dL_ties_374 : decode cL_ties 374 = .ok (.iconst 2, 1) := by decide +kernel
set_option maxRecDepth 20000 in
theorem dL_ties_375 : decode cL_ties 375 = .ok (.iload 14, 2) := by decide +kernel
set_option maxRecDepth 20000 in
theorem dL_ties_377 : decode cL_ties 377 = .ok (.imul, 1) := by decide +kernel
set_option maxRecDepth 20000 in
theorem dL_ties_378 : decode cL_ties 378 = .ok (.iadd, 1) := by decide +kernel
set_option maxRecDepth 20000 in
theorem dL_ties_379 : decode cL_ties 379 = .ok (.if_icmp .ne 31, 3) := by decide +kernel
set_option maxRecDepth 20000 in
theorem dL_ties_382 : decode cL_ties 382 = .ok (.iload 10, 2) := by decide +kernel
set_option maxRecDepth 20000 in
theorem dL_ties_384 : decode cL_ties 384 = .ok (.aload_n 0, 1) := by decide +kernel
set_option maxRecDepth 20000 in
theorem dL_ties_385 : decode cL_ties 385 = .ok (.iload_n 1, 1) := by decide +kernel
set_option maxRecDepth 20000 in
theorem dL_ties_386 : decode cL_ties 386 = .ok (.iload_n 2, 1) := by decide +kernel
set_option maxRecDepth 20000 in
theorem dL_ties_387 : decode cL_ties 387 = .ok (.invokevirtual 56, 3) := by decide +kernel
set_option maxRecDepth 20000 in
theorem dL_ties_390 : decode cL_ties 390 = .ok (.iconst 1, 1) := by decide +kernel
set_option maxRecDepth 20000 in
theorem dL_ties_391 : decode cL_ties 391 = .ok (.iadd, 1) := by decide +kernel
set_option maxRecDepth 20000 in
theorem dL_ties_392 : decode cL_ties 392 = .ok (.if_icmp .ne 18, 3) := by decide +kernel
set_option maxRecDepth 20000 in
theorem dL_ties_395 : decode cL_ties 395 = .ok (.aload_n 0, 1) := by decide +kernel
set_option maxRecDepth 20000 in
theorem dL_ties_396 : decode cL_ties 396 = .ok (.bipush 6, 2) := by decide +kernel
set_option maxRecDepth 20000 in
theorem dL_ties_398 : decode cL_ties 398 = .ok (.invokevirtual 20, 3) := by decide +kernel
set_option maxRecDepth 20000 in
theorem dL_ties_401 : decode cL_ties 401 = .ok (.iload 6, 2) := by decide +kernel
set_option maxRecDepth 20000 in
theorem dL_ties_403 : decode cL_ties 403 = .ok (.if_icmp .ne 7, 3) := by decide +kernel
set_option maxRecDepth 20000 in
theorem dL_ties_406 : decode cL_ties 406 = .ok (.iconst 1, 1) := by decide +kernel
set_option maxRecDepth 20000 in
theorem dL_ties_407 : decode cL_ties 407 = .ok (.goto 4, 3) := by decide +kernel
set_option maxRecDepth 20000 in
theorem dL_ties_410 : decode cL_ties 410 = .ok (.iconst 0, 1) := by decide +kernel
set_option maxRecDepth 20000 in
theorem dL_ties_411 : decode cL_ties 411 = .ok (.ireturn, 1) := by decide +kernel
theorem dL_isCord_0 : decode cL_isCord 0 = .ok (.iconst 0, 1) := by decide +kernel
theorem dL_isCord_1 : decode cL_isCord 1 = .ok (.istore_n 2, 1) := by decide +kernel
theorem dL_isCord_2 : decode cL_isCord 2 = .ok (.iconst 1, 1) := by decide +kernel
theorem dL_isCord_3 : decode cL_isCord 3 = .ok (.istore_n 3, 1) := by decide +kernel
theorem dL_isCord_4 : decode cL_isCord 4 = .ok (.iconst 0, 1) := by decide +kernel
theorem dL_isCord_5 : decode cL_isCord 5 = .ok (.istore 4, 2) := by decide +kernel
theorem dL_isCord_7 : decode cL_isCord 7 = .ok (.iconst 0, 1) := by decide +kernel
theorem dL_isCord_8 : decode cL_isCord 8 = .ok (.istore 5, 2) := by decide +kernel
theorem dL_isCord_10 : decode cL_isCord 10 = .ok (.iconst 0, 1) := by decide +kernel
theorem dL_isCord_11 : decode cL_isCord 11 = .ok (.istore 6, 2) := by decide +kernel
theorem dL_isCord_13 : decode cL_isCord 13 = .ok (.iconst 1, 1) := by decide +kernel
theorem dL_isCord_14 : decode cL_isCord 14 = .ok (.istore 7, 2) := by decide +kernel
theorem dL_isCord_16 : decode cL_isCord 16 = .ok (.iconst 0, 1) := by decide +kernel
theorem dL_isCord_17 : decode cL_isCord 17 = .ok (.istore 8, 2) := by decide +kernel
theorem dL_isCord_19 : decode cL_isCord 19 = .ok (.iload 8, 2) := by decide +kernel
theorem dL_isCord_21 : decode cL_isCord 21 = .ok (.bipush 6, 2) := by decide +kernel
theorem dL_isCord_23 : decode cL_isCord 23 = .ok (.if_icmp .ge 141, 3) := by decide +kernel
theorem dL_isCord_26 : decode cL_isCord 26 = .ok (.iload 7, 2) := by decide +kernel
theorem dL_isCord_28 : decode cL_isCord 28 = .ok (.ifCond .eq 136, 3) := by decide +kernel
theorem dL_isCord_31 : decode cL_isCord 31 = .ok (.aload_n 0, 1) := by decide +kernel
theorem dL_isCord_32 : decode cL_isCord 32 = .ok (.iload_n 1, 1) := by decide +kernel
theorem dL_isCord_33 : decode cL_isCord 33 = .ok (.iload 8, 2) := by decide +kernel
theorem dL_isCord_35 : decode cL_isCord 35 = .ok (.iconst 0, 1) := by decide +kernel
theorem dL_isCord_36 : decode cL_isCord 36 = .ok (.invokevirtual 37, 3) := by decide +kernel
theorem dL_isCord_39 : decode cL_isCord 39 = .ok (.istore 9, 2) := by decide +kernel
theorem dL_isCord_41 : decode cL_isCord 41 = .ok (.aload_n 0, 1) := by decide +kernel
theorem dL_isCord_42 : decode cL_isCord 42 = .ok (.iload_n 1, 1) := by decide +kernel
theorem dL_isCord_43 : decode cL_isCord 43 = .ok (.iload 8, 2) := by decide +kernel
theorem dL_isCord_45 : decode cL_isCord 45 = .ok (.iconst 1, 1) := by decide +kernel
theorem dL_isCord_46 : decode cL_isCord 46 = .ok (.invokevirtual 37, 3) := by decide +kernel
theorem dL_isCord_49 : decode cL_isCord 49 = .ok (.istore 10, 2) := by decide +kernel
theorem dL_isCord_51 : decode cL_isCord 51 = .ok (.aload_n 0, 1) := by decide +kernel
theorem dL_isCord_52 : decode cL_isCord 52 = .ok (.iload_n 1, 1) := by decide +kernel
theorem dL_isCord_53 : decode cL_isCord 53 = .ok (.iload 8, 2) := by decide +kernel
theorem dL_isCord_55 : decode cL_isCord 55 = .ok (.iconst 2, 1) := by decide +kernel
theorem dL_isCord_56 : decode cL_isCord 56 = .ok (.invokevirtual 37, 3) := by decide +kernel
theorem dL_isCord_59 : decode cL_isCord 59 = .ok (.istore 11, 2) := by decide +kernel
theorem dL_isCord_61 : decode cL_isCord 61 = .ok (.aload_n 0, 1) := by decide +kernel
theorem dL_isCord_62 : decode cL_isCord 62 = .ok (.bipush 8, 2) := by decide +kernel
theorem dL_isCord_64 : decode cL_isCord 64 = .ok (.invokevirtual 20, 3) := by decide +kernel
theorem dL_isCord_67 : decode cL_isCord 67 = .ok (.iload 9, 2) := by decide +kernel
theorem dL_isCord_69 : decode cL_isCord 69 = .ok (.isub, 1) := by decide +kernel
theorem dL_isCord_70 : decode cL_isCord 70 = .ok (.iload 10, 2) := by decide +kernel
theorem dL_isCord_72 : decode cL_isCord 72 = .ok (.isub, 1) := by decide +kernel
theorem dL_isCord_73 : decode cL_isCord 73 = .ok (.istore 12, 2) := by decide +kernel
theorem dL_isCord_75 : decode cL_isCord 75 = .ok (.iload 11, 2) := by decide +kernel
theorem dL_isCord_77 : decode cL_isCord 77 = .ok (.iload 9, 2) := by decide +kernel
theorem dL_isCord_79 : decode cL_isCord 79 = .ok (.bipush 10, 2) := by decide +kernel
theorem dL_isCord_81 : decode cL_isCord 81 = .ok (.iload 10, 2) := by decide +kernel
theorem dL_isCord_83 : decode cL_isCord 83 = .ok (.imul, 1) := by decide +kernel
theorem dL_isCord_84 : decode cL_isCord 84 = .ok (.isub, 1) := by decide +kernel
theorem dL_isCord_85 : decode cL_isCord 85 = .ok (.if_icmp .ne 41, 3) := by decide +kernel
theorem dL_isCord_88 : decode cL_isCord 88 = .ok (.iload 11, 2) := by decide +kernel
theorem dL_isCord_90 : decode cL_isCord 90 = .ok (.ifCond .lt 36, 3) := by decide +kernel
theorem dL_isCord_93 : decode cL_isCord 93 = .ok (.iload 11, 2) := by decide +kernel
theorem dL_isCord_95 : decode cL_isCord 95 = .ok (.bipush 10, 2) := by decide +kernel
theorem dL_isCord_97 : decode cL_isCord 97 = .ok (.if_icmp .ge 29, 3) := by decide +kernel
theorem dL_isCord_100 : decode cL_isCord 100 = .ok (.aload_n 0, 1) := by decide +kernel
theorem dL_isCord_101 : decode cL_isCord 101 = .ok (.iload_n 1, 1) := by decide +kernel
theorem dL_isCord_102 : decode cL_isCord 102 = .ok (.iload 8, 2) := by decide +kernel
theorem dL_isCord_104 : decode cL_isCord 104 = .ok (.iconst 3, 1) := by decide +kernel
theorem dL_isCord_105 : decode cL_isCord 105 = .ok (.invokevirtual 37, 3) := by decide +kernel
theorem dL_isCord_108 : decode cL_isCord 108 = .ok (.iload 12, 2) := by decide +kernel
theorem dL_isCord_110 : decode cL_isCord 110 = .ok (.ifCond .le 8, 3) := by decide +kernel
theorem dL_isCord_113 : decode cL_isCord 113 = .ok (.iload 12, 2) := by decide +kernel
theorem dL_isCord_115 : decode cL_isCord 115 = .ok (.goto 4, 3) := by decide +kernel
theorem dL_isCord_118 : decode cL_isCord 118 = .ok (.iconst 0, 1) := by decide +kernel
theorem dL_isCord_119 : decode cL_isCord 119 = .ok (.if_icmp .ne 7, 3) := by decide +kernel
theorem dL_isCord_122 : decode cL_isCord 122 = .ok (.iconst 1, 1) := by decide +kernel
theorem dL_isCord_123 : decode cL_isCord 123 = .ok (.goto 4, 3) := by decide +kernel
theorem dL_isCord_126 : decode cL_isCord 126 = .ok (.iconst 0, 1) := by decide +kernel
theorem dL_isCord_127 : decode cL_isCord 127 = .ok (.istore 7, 2) := by decide +kernel
theorem dL_isCord_129 : decode cL_isCord 129 = .ok (.iload_n 2, 1) := by decide +kernel
theorem dL_isCord_130 : decode cL_isCord 130 = .ok (.iload 11, 2) := by decide +kernel
theorem dL_isCord_132 : decode cL_isCord 132 = .ok (.iload_n 3, 1) := by decide +kernel
theorem dL_isCord_133 : decode cL_isCord 133 = .ok (.imul, 1) := by decide +kernel
theorem dL_isCord_134 : decode cL_isCord 134 = .ok (.iadd, 1) := by decide +kernel
theorem dL_isCord_135 : decode cL_isCord 135 = .ok (.istore_n 2, 1) := by decide +kernel
theorem dL_isCord_136 : decode cL_isCord 136 = .ok (.iload_n 3, 1) := by decide +kernel
theorem dL_isCord_137 : decode cL_isCord 137 = .ok (.bipush 10, 2) := by decide +kernel
theorem dL_isCord_139 : decode cL_isCord 139 = .ok (.imul, 1) := by decide +kernel
theorem dL_isCord_140 : decode cL_isCord 140 = .ok (.istore_n 3, 1) := by decide +kernel
theorem dL_isCord_141 : decode cL_isCord 141 = .ok (.iload 4, 2) := by decide +kernel
theorem dL_isCord_143 : decode cL_isCord 143 = .ok (.iload 9, 2) := by decide +kernel
theorem dL_isCord_145 : decode cL_isCord 145 = .ok (.iload 10, 2) := by decide +kernel
theorem dL_isCord_147 : decode cL_isCord 147 = .ok (.iadd, 1) := by decide +kernel
theorem dL_isCord_148 : decode cL_isCord 148 = .ok (.iadd, 1) := by decide +kernel
theorem dL_isCord_149 : decode cL_isCord 149 = .ok (.istore 4, 2) := by decide +kernel
theorem dL_isCord_151 : decode cL_isCord 151 = .ok (.iload 5, 2) := by decide +kernel
theorem dL_isCord_153 : decode cL_isCord 153 = .ok (.iload 10, 2) := by decide +kernel
theorem dL_isCord_155 : decode cL_isCord 155 = .ok (.iadd, 1) := by decide +kernel
theorem dL_isCord_156 : decode cL_isCord 156 = .ok (.istore 5, 2) := by decide +kernel
theorem dL_isCord_158 : decode cL_isCord 158 = .ok (.iinc 8 1, 3) := by decide +kernel
theorem dL_isCord_161 : decode cL_isCord 161 = .ok (.goto (-142), 3) := by decide +kernel
theorem dL_isCord_164 : decode cL_isCord 164 = .ok (.iconst 0, 1) := by decide +kernel
theorem dL_isCord_165 : decode cL_isCord 165 = .ok (.istore 8, 2) := by decide +kernel
theorem dL_isCord_167 : decode cL_isCord 167 = .ok (.iload 8, 2) := by decide +kernel
theorem dL_isCord_169 : decode cL_isCord 169 = .ok (.aload_n 0, 1) := by decide +kernel
theorem dL_isCord_170 : decode cL_isCord 170 = .ok (.iload_n 1, 1) := by decide +kernel
theorem dL_isCord_171 : decode cL_isCord 171 = .ok (.iconst 2, 1) := by decide +kernel
theorem dL_isCord_172 : decode cL_isCord 172 = .ok (.invokevirtual 15, 3) := by decide +kernel
theorem dL_isCord_175 : decode cL_isCord 175 = .ok (.if_icmp .ge 43, 3) := by decide +kernel
theorem dL_isCord_178 : decode cL_isCord 178 = .ok (.iload 7, 2) := by decide +kernel
theorem dL_isCord_180 : decode cL_isCord 180 = .ok (.ifCond .eq 38, 3) := by decide +kernel
theorem dL_isCord_183 : decode cL_isCord 183 = .ok (.iload 6, 2) := by decide +kernel
theorem dL_isCord_185 : decode cL_isCord 185 = .ok (.aload_n 0, 1) := by decide +kernel
theorem dL_isCord_186 : decode cL_isCord 186 = .ok (.iload_n 1, 1) := by decide +kernel
theorem dL_isCord_187 : decode cL_isCord 187 = .ok (.iload 8, 2) := by decide +kernel
theorem dL_isCord_189 : decode cL_isCord 189 = .ok (.invokevirtual 63, 3) := by decide +kernel
theorem dL_isCord_192 : decode cL_isCord 192 = .ok (.iadd, 1) := by decide +kernel
theorem dL_isCord_193 : decode cL_isCord 193 = .ok (.istore 6, 2) := by decide +kernel
theorem dL_isCord_195 : decode cL_isCord 195 = .ok (.aload_n 0, 1) := by decide +kernel
theorem dL_isCord_196 : decode cL_isCord 196 = .ok (.iload_n 1, 1) := by decide +kernel
theorem dL_isCord_197 : decode cL_isCord 197 = .ok (.iload 8, 2) := by decide +kernel
theorem dL_isCord_199 : decode cL_isCord 199 = .ok (.invokevirtual 63, 3) := by decide +kernel
theorem dL_isCord_202 : decode cL_isCord 202 = .ok (.ifCond .le 7, 3) := by decide +kernel
theorem dL_isCord_205 : decode cL_isCord 205 = .ok (.iconst 1, 1) := by decide +kernel
theorem dL_isCord_206 : decode cL_isCord 206 = .ok (.goto 4, 3) := by decide +kernel
theorem dL_isCord_209 : decode cL_isCord 209 = .ok (.iconst 0, 1) := by decide +kernel
theorem dL_isCord_210 : decode cL_isCord 210 = .ok (.istore 7, 2) := by decide +kernel
theorem dL_isCord_212 : decode cL_isCord 212 = .ok (.iinc 8 1, 3) := by decide +kernel
theorem dL_isCord_215 : decode cL_isCord 215 = .ok (.goto (-48), 3) := by decide +kernel
theorem dL_isCord_218 : decode cL_isCord 218 = .ok (.iload 7, 2) := by decide +kernel
theorem dL_isCord_220 : decode cL_isCord 220 = .ok (.ifCond .eq 79, 3) := by decide +kernel
theorem dL_isCord_223 : decode cL_isCord 223 = .ok (.iload_n 2, 1) := by decide +kernel
theorem dL_isCord_224 : decode cL_isCord 224 = .ok (.aload_n 0, 1) := by decide +kernel
theorem dL_isCord_225 : decode cL_isCord 225 = .ok (.iload_n 1, 1) := by decide +kernel
theorem dL_isCord_226 : decode cL_isCord 226 = .ok (.iconst 0, 1) := by decide +kernel
theorem dL_isCord_227 : decode cL_isCord 227 = .ok (.invokevirtual 15, 3) := by decide +kernel
theorem dL_isCord_230 : decode cL_isCord 230 = .ok (.if_icmp .ne 69, 3) := by decide +kernel
theorem dL_isCord_233 : decode cL_isCord 233 = .ok (.iload 6, 2) := by decide +kernel
theorem dL_isCord_235 : decode cL_isCord 235 = .ok (.aload_n 0, 1) := by decide +kernel
theorem dL_isCord_236 : decode cL_isCord 236 = .ok (.iload_n 1, 1) := by decide +kernel
theorem dL_isCord_237 : decode cL_isCord 237 = .ok (.iconst 1, 1) := by decide +kernel
theorem dL_isCord_238 : decode cL_isCord 238 = .ok (.invokevirtual 15, 3) := by decide +kernel
theorem dL_isCord_241 : decode cL_isCord 241 = .ok (.if_icmp .ne 58, 3) := by decide +kernel
theorem dL_isCord_244 : decode cL_isCord 244 = .ok (.aload_n 0, 1) := by decide +kernel
theorem dL_isCord_245 : decode cL_isCord 245 = .ok (.iload_n 1, 1) := by decide +kernel
theorem dL_isCord_246 : decode cL_isCord 246 = .ok (.iconst 3, 1) := by decide +kernel
theorem dL_isCord_247 : decode cL_isCord 247 = .ok (.invokevirtual 15, 3) := by decide +kernel
theorem dL_isCord_250 : decode cL_isCord 250 = .ok (.iload 6, 2) := by decide +kernel
set_option maxRecDepth 20000 in
theorem dL_isCord_252 : decode cL_isCord 252 = .ok (.iload_n 2, 1) := by decide +kernel
set_option maxRecDepth 20000 in
theorem dL_isCord_253 : decode cL_isCord 253 = .ok (.isub, 1) := by decide +kernel
set_option maxRecDepth 20000 in
theorem dL_isCord_254 : decode cL_isCord 254 = .ok (.if_icmp .ne 45, 3) := by decide +kernel
set_option maxRecDepth 20000 in
theorem dL_isCord_257 : decode cL_isCord 257 = .ok (.iload 6, 2) := by decide +kernel
set_option maxRecDepth 20000 in
theorem dL_isCord_259 : decode cL_isCord 259 = .ok (.iload_n 2, 1) := by decide +kernel
set_option maxRecDepth 20000 in
theorem dL_isCord_260 : decode cL_isCord 260 = .ok (.if_icmp .lt 39, 3) := by decide +kernel
set_option maxRecDepth 20000 in
theorem dL_isCord_263 : decode cL_isCord 263 = .ok (.iload 4, 2) := by decide +kernel
set_option maxRecDepth 20000 in
theorem dL_isCord_265 : decode cL_isCord 265 = .ok (.aload_n 0, 1) := by decide +kernel
set_option maxRecDepth 20000 in
theorem dL_isCord_266 : decode cL_isCord 266 = .ok (.iload_n 1, 1) := by decide +kernel
set_option maxRecDepth 20000 in
theorem dL_isCord_267 : decode cL_isCord 267 = .ok (.iconst 4, 1) := by decide +kernel
set_option maxRecDepth 20000 in
theorem dL_isCord_268 : decode cL_isCord 268 = .ok (.invokevirtual 15, 3) := by decide +kernel
set_option maxRecDepth 20000 in
theorem dL_isCord_271 : decode cL_isCord 271 = .ok (.if_icmp .ne 28, 3) := by decide +kernel
set_option maxRecDepth 20000 in
theorem dL_isCord_274 : decode cL_isCord 274 = .ok (.iload 5, 2) := by decide +kernel
set_option maxRecDepth 20000 in
theorem dL_isCord_276 : decode cL_isCord 276 = .ok (.aload_n 0, 1) := by decide +kernel
set_option maxRecDepth 20000 in
theorem dL_isCord_277 : decode cL_isCord 277 = .ok (.iload_n 1, 1) := by decide +kernel
set_option maxRecDepth 20000 in
theorem dL_isCord_278 : decode cL_isCord 278 = .ok (.iconst 5, 1) := by decide +kernel
set_option maxRecDepth 20000 in
theorem dL_isCord_279 : decode cL_isCord 279 = .ok (.invokevirtual 15, 3) := by decide +kernel
set_option maxRecDepth 20000 in
theorem dL_isCord_282 : decode cL_isCord 282 = .ok (.if_icmp .ne 17, 3) := by decide +kernel
set_option maxRecDepth 20000 in
theorem dL_isCord_285 : decode cL_isCord 285 = .ok (.aload_n 0, 1) := by decide +kernel
set_option maxRecDepth 20000 in
theorem dL_isCord_286 : decode cL_isCord 286 = .ok (.iload_n 1, 1) := by decide +kernel
set_option maxRecDepth 20000 in
theorem dL_isCord_287 : decode cL_isCord 287 = .ok (.bipush 7, 2) := by decide +kernel
set_option maxRecDepth 20000 in
theorem dL_isCord_289 : decode cL_isCord 289 = .ok (.invokevirtual 15, 3) := by decide +kernel
set_option maxRecDepth 20000 in
theorem dL_isCord_292 : decode cL_isCord 292 = .ok (.ifCond .lt 7, 3) := by decide +kernel
set_option maxRecDepth 20000 in
theorem dL_isCord_295 : decode cL_isCord 295 = .ok (.iconst 1, 1) := by decide +kernel
set_option maxRecDepth 20000 in
theorem dL_isCord_296 : decode cL_isCord 296 = .ok (.goto 4, 3) := by decide +kernel
set_option maxRecDepth 20000 in
theorem dL_isCord_299 : decode cL_isCord 299 = .ok (.iconst 0, 1) := by decide +kernel
set_option maxRecDepth 20000 in
theorem dL_isCord_300 : decode cL_isCord 300 = .ok (.ireturn, 1) := by decide +kernel
theorem dL_holds_0 : decode cL_holds 0 = .ok (.iconst 0, 1) := by decide +kernel
theorem dL_holds_1 : decode cL_holds 1 = .ok (.istore_n 2, 1) := by decide +kernel
theorem dL_holds_2 : decode cL_holds 2 = .ok (.iconst 0, 1) := by decide +kernel
theorem dL_holds_3 : decode cL_holds 3 = .ok (.istore_n 3, 1) := by decide +kernel
theorem dL_holds_4 : decode cL_holds 4 = .ok (.iconst 0, 1) := by decide +kernel
theorem dL_holds_5 : decode cL_holds 5 = .ok (.istore 4, 2) := by decide +kernel
theorem dL_holds_7 : decode cL_holds 7 = .ok (.iconst 0, 1) := by decide +kernel
theorem dL_holds_8 : decode cL_holds 8 = .ok (.istore 5, 2) := by decide +kernel
theorem dL_holds_10 : decode cL_holds 10 = .ok (.iconst 0, 1) := by decide +kernel
theorem dL_holds_11 : decode cL_holds 11 = .ok (.istore 6, 2) := by decide +kernel
theorem dL_holds_13 : decode cL_holds 13 = .ok (.iconst 0, 1) := by decide +kernel
theorem dL_holds_14 : decode cL_holds 14 = .ok (.istore 7, 2) := by decide +kernel
theorem dL_holds_16 : decode cL_holds 16 = .ok (.iconst 1, 1) := by decide +kernel
theorem dL_holds_17 : decode cL_holds 17 = .ok (.istore 8, 2) := by decide +kernel
theorem dL_holds_19 : decode cL_holds 19 = .ok (.iconst 0, 1) := by decide +kernel
theorem dL_holds_20 : decode cL_holds 20 = .ok (.istore 9, 2) := by decide +kernel
theorem dL_holds_22 : decode cL_holds 22 = .ok (.iload 9, 2) := by decide +kernel
theorem dL_holds_24 : decode cL_holds 24 = .ok (.bipush 7, 2) := by decide +kernel
theorem dL_holds_26 : decode cL_holds 26 = .ok (.if_icmp .ge 100, 3) := by decide +kernel
theorem dL_holds_29 : decode cL_holds 29 = .ok (.iload 8, 2) := by decide +kernel
theorem dL_holds_31 : decode cL_holds 31 = .ok (.ifCond .eq 95, 3) := by decide +kernel
theorem dL_holds_34 : decode cL_holds 34 = .ok (.aload_n 0, 1) := by decide +kernel
theorem dL_holds_35 : decode cL_holds 35 = .ok (.iload 9, 2) := by decide +kernel
theorem dL_holds_37 : decode cL_holds 37 = .ok (.invokestatic 66, 3) := by decide +kernel
theorem dL_holds_40 : decode cL_holds 40 = .ok (.istore 8, 2) := by decide +kernel
theorem dL_holds_42 : decode cL_holds 42 = .ok (.iload_n 2, 1) := by decide +kernel
theorem dL_holds_43 : decode cL_holds 43 = .ok (.aload_n 0, 1) := by decide +kernel
theorem dL_holds_44 : decode cL_holds 44 = .ok (.iload 9, 2) := by decide +kernel
theorem dL_holds_46 : decode cL_holds 46 = .ok (.iconst 0, 1) := by decide +kernel
theorem dL_holds_47 : decode cL_holds 47 = .ok (.invokevirtual 15, 3) := by decide +kernel
theorem dL_holds_50 : decode cL_holds 50 = .ok (.iadd, 1) := by decide +kernel
theorem dL_holds_51 : decode cL_holds 51 = .ok (.istore_n 2, 1) := by decide +kernel
theorem dL_holds_52 : decode cL_holds 52 = .ok (.iload_n 3, 1) := by decide +kernel
theorem dL_holds_53 : decode cL_holds 53 = .ok (.aload_n 0, 1) := by decide +kernel
theorem dL_holds_54 : decode cL_holds 54 = .ok (.iload 9, 2) := by decide +kernel
theorem dL_holds_56 : decode cL_holds 56 = .ok (.iconst 4, 1) := by decide +kernel
theorem dL_holds_57 : decode cL_holds 57 = .ok (.invokevirtual 15, 3) := by decide +kernel
theorem dL_holds_60 : decode cL_holds 60 = .ok (.iadd, 1) := by decide +kernel
theorem dL_holds_61 : decode cL_holds 61 = .ok (.istore_n 3, 1) := by decide +kernel
theorem dL_holds_62 : decode cL_holds 62 = .ok (.iload 4, 2) := by decide +kernel
theorem dL_holds_64 : decode cL_holds 64 = .ok (.aload_n 0, 1) := by decide +kernel
theorem dL_holds_65 : decode cL_holds 65 = .ok (.iload 9, 2) := by decide +kernel
theorem dL_holds_67 : decode cL_holds 67 = .ok (.iconst 5, 1) := by decide +kernel
theorem dL_holds_68 : decode cL_holds 68 = .ok (.invokevirtual 15, 3) := by decide +kernel
theorem dL_holds_71 : decode cL_holds 71 = .ok (.iadd, 1) := by decide +kernel
theorem dL_holds_72 : decode cL_holds 72 = .ok (.istore 4, 2) := by decide +kernel
theorem dL_holds_74 : decode cL_holds 74 = .ok (.iload 5, 2) := by decide +kernel
theorem dL_holds_76 : decode cL_holds 76 = .ok (.aload_n 0, 1) := by decide +kernel
theorem dL_holds_77 : decode cL_holds 77 = .ok (.iload 9, 2) := by decide +kernel
theorem dL_holds_79 : decode cL_holds 79 = .ok (.iconst 3, 1) := by decide +kernel
theorem dL_holds_80 : decode cL_holds 80 = .ok (.invokevirtual 15, 3) := by decide +kernel
theorem dL_holds_83 : decode cL_holds 83 = .ok (.ifCond .le 7, 3) := by decide +kernel
theorem dL_holds_86 : decode cL_holds 86 = .ok (.iconst 1, 1) := by decide +kernel
theorem dL_holds_87 : decode cL_holds 87 = .ok (.goto 4, 3) := by decide +kernel
theorem dL_holds_90 : decode cL_holds 90 = .ok (.iconst 0, 1) := by decide +kernel
theorem dL_holds_91 : decode cL_holds 91 = .ok (.iadd, 1) := by decide +kernel
theorem dL_holds_92 : decode cL_holds 92 = .ok (.istore 5, 2) := by decide +kernel
theorem dL_holds_94 : decode cL_holds 94 = .ok (.aload_n 0, 1) := by decide +kernel
theorem dL_holds_95 : decode cL_holds 95 = .ok (.iload 9, 2) := by decide +kernel
theorem dL_holds_97 : decode cL_holds 97 = .ok (.iconst 4, 1) := by decide +kernel
theorem dL_holds_98 : decode cL_holds 98 = .ok (.invokevirtual 15, 3) := by decide +kernel
theorem dL_holds_101 : decode cL_holds 101 = .ok (.aload_n 0, 1) := by decide +kernel
theorem dL_holds_102 : decode cL_holds 102 = .ok (.iload 7, 2) := by decide +kernel
theorem dL_holds_104 : decode cL_holds 104 = .ok (.iconst 4, 1) := by decide +kernel
theorem dL_holds_105 : decode cL_holds 105 = .ok (.invokevirtual 15, 3) := by decide +kernel
theorem dL_holds_108 : decode cL_holds 108 = .ok (.if_icmp .le 8, 3) := by decide +kernel
theorem dL_holds_111 : decode cL_holds 111 = .ok (.iload 9, 2) := by decide +kernel
theorem dL_holds_113 : decode cL_holds 113 = .ok (.goto 5, 3) := by decide +kernel
theorem dL_holds_116 : decode cL_holds 116 = .ok (.iload 7, 2) := by decide +kernel
theorem dL_holds_118 : decode cL_holds 118 = .ok (.istore 7, 2) := by decide +kernel
theorem dL_holds_120 : decode cL_holds 120 = .ok (.iinc 9 1, 3) := by decide +kernel
theorem dL_holds_123 : decode cL_holds 123 = .ok (.goto (-101), 3) := by decide +kernel
theorem dL_holds_126 : decode cL_holds 126 = .ok (.iconst 0, 1) := by decide +kernel
theorem dL_holds_127 : decode cL_holds 127 = .ok (.istore 9, 2) := by decide +kernel
theorem dL_holds_129 : decode cL_holds 129 = .ok (.iload 9, 2) := by decide +kernel
theorem dL_holds_131 : decode cL_holds 131 = .ok (.bipush 6, 2) := by decide +kernel
theorem dL_holds_133 : decode cL_holds 133 = .ok (.if_icmp .ge 20, 3) := by decide +kernel
theorem dL_holds_136 : decode cL_holds 136 = .ok (.iload 6, 2) := by decide +kernel
theorem dL_holds_138 : decode cL_holds 138 = .ok (.aload_n 0, 1) := by decide +kernel
theorem dL_holds_139 : decode cL_holds 139 = .ok (.iload 9, 2) := by decide +kernel
theorem dL_holds_141 : decode cL_holds 141 = .ok (.invokevirtual 70, 3) := by decide +kernel
theorem dL_holds_144 : decode cL_holds 144 = .ok (.iadd, 1) := by decide +kernel
theorem dL_holds_145 : decode cL_holds 145 = .ok (.istore 6, 2) := by decide +kernel
theorem dL_holds_147 : decode cL_holds 147 = .ok (.iinc 9 1, 3) := by decide +kernel
theorem dL_holds_150 : decode cL_holds 150 = .ok (.goto (-21), 3) := by decide +kernel
theorem dL_holds_153 : decode cL_holds 153 = .ok (.iload 8, 2) := by decide +kernel
theorem dL_holds_155 : decode cL_holds 155 = .ok (.ifCond .eq 78, 3) := by decide +kernel
theorem dL_holds_158 : decode cL_holds 158 = .ok (.iload_n 2, 1) := by decide +kernel
theorem dL_holds_159 : decode cL_holds 159 = .ok (.aload_n 0, 1) := by decide +kernel
theorem dL_holds_160 : decode cL_holds 160 = .ok (.iconst 0, 1) := by decide +kernel
theorem dL_holds_161 : decode cL_holds 161 = .ok (.invokevirtual 20, 3) := by decide +kernel
theorem dL_holds_164 : decode cL_holds 164 = .ok (.if_icmp .ne 69, 3) := by decide +kernel
theorem dL_holds_167 : decode cL_holds 167 = .ok (.iload_n 3, 1) := by decide +kernel
theorem dL_holds_168 : decode cL_holds 168 = .ok (.aload_n 0, 1) := by decide +kernel
theorem dL_holds_169 : decode cL_holds 169 = .ok (.iconst 1, 1) := by decide +kernel
theorem dL_holds_170 : decode cL_holds 170 = .ok (.invokevirtual 20, 3) := by decide +kernel
theorem dL_holds_173 : decode cL_holds 173 = .ok (.if_icmp .ne 60, 3) := by decide +kernel
theorem dL_holds_176 : decode cL_holds 176 = .ok (.iload 5, 2) := by decide +kernel
theorem dL_holds_178 : decode cL_holds 178 = .ok (.aload_n 0, 1) := by decide +kernel
theorem dL_holds_179 : decode cL_holds 179 = .ok (.bipush 7, 2) := by decide +kernel
theorem dL_holds_181 : decode cL_holds 181 = .ok (.invokevirtual 20, 3) := by decide +kernel
theorem dL_holds_184 : decode cL_holds 184 = .ok (.if_icmp .ne 49, 3) := by decide +kernel
theorem dL_holds_187 : decode cL_holds 187 = .ok (.iload 6, 2) := by decide +kernel
theorem dL_holds_189 : decode cL_holds 189 = .ok (.iload_n 2, 1) := by decide +kernel
theorem dL_holds_190 : decode cL_holds 190 = .ok (.if_icmp .ne 43, 3) := by decide +kernel
theorem dL_holds_193 : decode cL_holds 193 = .ok (.iload 7, 2) := by decide +kernel
theorem dL_holds_195 : decode cL_holds 195 = .ok (.aload_n 0, 1) := by decide +kernel
theorem dL_holds_196 : decode cL_holds 196 = .ok (.invokevirtual 73, 3) := by decide +kernel
theorem dL_holds_199 : decode cL_holds 199 = .ok (.if_icmp .ne 34, 3) := by decide +kernel
theorem dL_holds_202 : decode cL_holds 202 = .ok (.aload_n 0, 1) := by decide +kernel
theorem dL_holds_203 : decode cL_holds 203 = .ok (.iconst 2, 1) := by decide +kernel
theorem dL_holds_204 : decode cL_holds 204 = .ok (.invokevirtual 20, 3) := by decide +kernel
theorem dL_holds_207 : decode cL_holds 207 = .ok (.aload_n 0, 1) := by decide +kernel
theorem dL_holds_208 : decode cL_holds 208 = .ok (.iconst 3, 1) := by decide +kernel
theorem dL_holds_209 : decode cL_holds 209 = .ok (.invokevirtual 20, 3) := by decide +kernel
theorem dL_holds_212 : decode cL_holds 212 = .ok (.iadd, 1) := by decide +kernel
theorem dL_holds_213 : decode cL_holds 213 = .ok (.iload_n 3, 1) := by decide +kernel
theorem dL_holds_214 : decode cL_holds 214 = .ok (.aload_n 0, 1) := by decide +kernel
theorem dL_holds_215 : decode cL_holds 215 = .ok (.iconst 4, 1) := by decide +kernel
theorem dL_holds_216 : decode cL_holds 216 = .ok (.invokevirtual 20, 3) := by decide +kernel
theorem dL_holds_219 : decode cL_holds 219 = .ok (.iadd, 1) := by decide +kernel
theorem dL_holds_220 : decode cL_holds 220 = .ok (.aload_n 0, 1) := by decide +kernel
theorem dL_holds_221 : decode cL_holds 221 = .ok (.iconst 5, 1) := by decide +kernel
theorem dL_holds_222 : decode cL_holds 222 = .ok (.invokevirtual 20, 3) := by decide +kernel
theorem dL_holds_225 : decode cL_holds 225 = .ok (.iadd, 1) := by decide +kernel
theorem dL_holds_226 : decode cL_holds 226 = .ok (.if_icmp .ne 7, 3) := by decide +kernel
theorem dL_holds_229 : decode cL_holds 229 = .ok (.iconst 1, 1) := by decide +kernel
theorem dL_holds_230 : decode cL_holds 230 = .ok (.goto 4, 3) := by decide +kernel
theorem dL_holds_233 : decode cL_holds 233 = .ok (.iconst 0, 1) := by decide +kernel
theorem dL_holds_234 : decode cL_holds 234 = .ok (.istore 8, 2) := by decide +kernel
theorem dL_holds_236 : decode cL_holds 236 = .ok (.iload 8, 2) := by decide +kernel
theorem dL_holds_238 : decode cL_holds 238 = .ok (.ifCond .eq 37, 3) := by decide +kernel
theorem dL_holds_241 : decode cL_holds 241 = .ok (.aload_n 0, 1) := by decide +kernel
theorem dL_holds_242 : decode cL_holds 242 = .ok (.invokevirtual 77, 3) := by decide +kernel
theorem dL_holds_245 : decode cL_holds 245 = .ok (.iload_n 3, 1) := by decide +kernel
theorem dL_holds_246 : decode cL_holds 246 = .ok (.iload 4, 2) := by decide +kernel
theorem dL_holds_248 : decode cL_holds 248 = .ok (.if_icmp .ne 7, 3) := by decide +kernel
set_option maxRecDepth 20000 in
theorem dL_holds_251 : decode cL_holds 251 = .ok (.dconst 0, 1) := by decide +kernel
set_option maxRecDepth 20000 in
theorem dL_holds_252 : decode cL_holds 252 = .ok (.goto 15, 3) := by decide +kernel
set_option maxRecDepth 20000 in
theorem dL_holds_255 : decode cL_holds 255 = .ok (.bipush 10, 2) := by decide +kernel
set_option maxRecDepth 20000 in
theorem dL_holds_257 : decode cL_holds 257 = .ok (.iload 4, 2) := by decide +kernel
set_option maxRecDepth 20000 in
theorem dL_holds_259 : decode cL_holds 259 = .ok (.imul, 1) := by decide +kernel
set_option maxRecDepth 20000 in
theorem dL_holds_260 : decode cL_holds 260 = .ok (.i2d, 1) := by decide +kernel
set_option maxRecDepth 20000 in
theorem dL_holds_261 : decode cL_holds 261 = .ok (.iload_n 3, 1) := by decide +kernel
set_option maxRecDepth 20000 in
theorem dL_holds_262 : decode cL_holds 262 = .ok (.iload 4, 2) := by decide +kernel
set_option maxRecDepth 20000 in
theorem dL_holds_264 : decode cL_holds 264 = .ok (.isub, 1) := by decide +kernel
set_option maxRecDepth 20000 in
theorem dL_holds_265 : decode cL_holds 265 = .ok (.i2d, 1) := by decide +kernel
set_option maxRecDepth 20000 in
theorem dL_holds_266 : decode cL_holds 266 = .ok (.ddiv, 1) := by decide +kernel
set_option maxRecDepth 20000 in
theorem dL_holds_267 : decode cL_holds 267 = .ok (.dcmp .l, 1) := by decide +kernel
set_option maxRecDepth 20000 in
theorem dL_holds_268 : decode cL_holds 268 = .ok (.ifCond .ne 7, 3) := by decide +kernel
set_option maxRecDepth 20000 in
theorem dL_holds_271 : decode cL_holds 271 = .ok (.iconst 1, 1) := by decide +kernel
set_option maxRecDepth 20000 in
theorem dL_holds_272 : decode cL_holds 272 = .ok (.goto 4, 3) := by decide +kernel
set_option maxRecDepth 20000 in
theorem dL_holds_275 : decode cL_holds 275 = .ok (.iconst 0, 1) := by decide +kernel
set_option maxRecDepth 20000 in
theorem dL_holds_276 : decode cL_holds 276 = .ok (.istore 8, 2) := by decide +kernel
set_option maxRecDepth 20000 in
theorem dL_holds_278 : decode cL_holds 278 = .ok (.iconst 1, 1) := by decide +kernel
set_option maxRecDepth 20000 in
theorem dL_holds_279 : decode cL_holds 279 = .ok (.iload_n 1, 1) := by decide +kernel
set_option maxRecDepth 20000 in
theorem dL_holds_280 : decode cL_holds 280 = .ok (.bipush 127, 2) := by decide +kernel
set_option maxRecDepth 20000 in
theorem dL_holds_282 : decode cL_holds 282 = .ok (.invokestatic 9, 3) := by decide +kernel
set_option maxRecDepth 20000 in
theorem dL_holds_285 : decode cL_holds 285 = .ok (.iadd, 1) := by decide +kernel
set_option maxRecDepth 20000 in
theorem dL_holds_286 : decode cL_holds 286 = .ok (.istore 9, 2) := by decide +kernel
set_option maxRecDepth 20000 in
theorem dL_holds_288 : decode cL_holds 288 = .ok (.iconst 0, 1) := by decide +kernel
set_option maxRecDepth 20000 in
theorem dL_holds_289 : decode cL_holds 289 = .ok (.istore 10, 2) := by decide +kernel
set_option maxRecDepth 20000 in
theorem dL_holds_291 : decode cL_holds 291 = .ok (.iconst 0, 1) := by decide +kernel
set_option maxRecDepth 20000 in
theorem dL_holds_292 : decode cL_holds 292 = .ok (.istore 11, 2) := by decide +kernel
set_option maxRecDepth 20000 in
theorem dL_holds_294 : decode cL_holds 294 = .ok (.iload 11, 2) := by decide +kernel
set_option maxRecDepth 20000 in
theorem dL_holds_296 : decode cL_holds 296 = .ok (.bipush 7, 2) := by decide +kernel
set_option maxRecDepth 20000 in
theorem dL_holds_298 : decode cL_holds 298 = .ok (.if_icmp .ge 36, 3) := by decide +kernel
set_option maxRecDepth 20000 in
theorem dL_holds_301 : decode cL_holds 301 = .ok (.iload 10, 2) := by decide +kernel
set_option maxRecDepth 20000 in
theorem dL_holds_303 : decode cL_holds 303 = .ok (.iload 9, 2) := by decide +kernel
set_option maxRecDepth 20000 in
theorem dL_holds_305 : decode cL_holds 305 = .ok (.iload 11, 2) := by decide +kernel
set_option maxRecDepth 20000 in
theorem dL_holds_307 : decode cL_holds 307 = .ok (.ishr, 1) := by decide +kernel
set_option maxRecDepth 20000 in
theorem dL_holds_308 : decode cL_holds 308 = .ok (.iconst 1, 1) := by decide +kernel
set_option maxRecDepth 20000 in
theorem dL_holds_309 : decode cL_holds 309 = .ok (.iand, 1) := by decide +kernel
set_option maxRecDepth 20000 in
theorem dL_holds_310 : decode cL_holds 310 = .ok (.iconst 1, 1) := by decide +kernel
set_option maxRecDepth 20000 in
theorem dL_holds_311 : decode cL_holds 311 = .ok (.if_icmp .ne 13, 3) := by decide +kernel
set_option maxRecDepth 20000 in
theorem dL_holds_314 : decode cL_holds 314 = .ok (.aload_n 0, 1) := by decide +kernel
set_option maxRecDepth 20000 in
theorem dL_holds_315 : decode cL_holds 315 = .ok (.iload 11, 2) := by decide +kernel
set_option maxRecDepth 20000 in
theorem dL_holds_317 : decode cL_holds 317 = .ok (.iconst 0, 1) := by decide +kernel
set_option maxRecDepth 20000 in
theorem dL_holds_318 : decode cL_holds 318 = .ok (.invokevirtual 15, 3) := by decide +kernel
set_option maxRecDepth 20000 in
theorem dL_holds_321 : decode cL_holds 321 = .ok (.goto 4, 3) := by decide +kernel
set_option maxRecDepth 20000 in
theorem dL_holds_324 : decode cL_holds 324 = .ok (.iconst 0, 1) := by decide +kernel
set_option maxRecDepth 20000 in
theorem dL_holds_325 : decode cL_holds 325 = .ok (.iadd, 1) := by decide +kernel
set_option maxRecDepth 20000 in
theorem dL_holds_326 : decode cL_holds 326 = .ok (.istore 10, 2) := by decide +kernel
set_option maxRecDepth 20000 in
theorem dL_holds_328 : decode cL_holds 328 = .ok (.iinc 11 1, 3) := by decide +kernel
set_option maxRecDepth 20000 in
theorem dL_holds_331 : decode cL_holds 331 = .ok (.goto (-37), 3) := by decide +kernel
set_option maxRecDepth 20000 in
theorem dL_holds_334 : decode cL_holds 334 = .ok (.iload 10, 2) := by decide +kernel
set_option maxRecDepth 20000 in
theorem dL_holds_336 : decode cL_holds 336 = .ok (.ifCond .eq 13, 3) := by decide +kernel
set_option maxRecDepth 20000 in
theorem dL_holds_339 : decode cL_holds 339 = .ok (.iload_n 1, 1) := by decide +kernel
set_option maxRecDepth 20000 in
theorem dL_holds_340 : decode cL_holds 340 = .ok (.bipush 7, 2) := by decide +kernel
set_option maxRecDepth 20000 in
theorem dL_holds_342 : decode cL_holds 342 = .ok (.ishr, 1) := by decide +kernel
set_option maxRecDepth 20000 in
theorem dL_holds_343 : decode cL_holds 343 = .ok (.bipush 7, 2) := by decide +kernel
set_option maxRecDepth 20000 in
theorem dL_holds_345 : decode cL_holds 345 = .ok (.iand, 1) := by decide +kernel
set_option maxRecDepth 20000 in
theorem dL_holds_346 : decode cL_holds 346 = .ok (.ifCond .ne 18, 3) := by decide +kernel
set_option maxRecDepth 20000 in
theorem dL_holds_349 : decode cL_holds 349 = .ok (.iconst 1, 1) := by decide +kernel
set_option maxRecDepth 20000 in
theorem dL_holds_350 : decode cL_holds 350 = .ok (.iload_n 1, 1) := by decide +kernel
set_option maxRecDepth 20000 in
theorem dL_holds_351 : decode cL_holds 351 = .ok (.bipush 7, 2) := by decide +kernel
set_option maxRecDepth 20000 in
theorem dL_holds_353 : decode cL_holds 353 = .ok (.ishr, 1) := by decide +kernel
set_option maxRecDepth 20000 in
theorem dL_holds_354 : decode cL_holds 354 = .ok (.sipush 2000, 3) := by decide +kernel
set_option maxRecDepth 20000 in
theorem dL_holds_357 : decode cL_holds 357 = .ok (.invokestatic 9, 3) := by decide +kernel
set_option maxRecDepth 20000 in
theorem dL_holds_360 : decode cL_holds 360 = .ok (.iadd, 1) := by decide +kernel
set_option maxRecDepth 20000 in
theorem dL_holds_361 : decode cL_holds 361 = .ok (.goto 5, 3) := by decide +kernel
set_option maxRecDepth 20000 in
theorem dL_holds_364 : decode cL_holds 364 = .ok (.iload 10, 2) := by decide +kernel
set_option maxRecDepth 20000 in
theorem dL_holds_366 : decode cL_holds 366 = .ok (.istore 10, 2) := by decide +kernel
set_option maxRecDepth 20000 in
theorem dL_holds_368 : decode cL_holds 368 = .ok (.iconst (-1), 1) := by decide +kernel
set_option maxRecDepth 20000 in
theorem dL_holds_369 : decode cL_holds 369 = .ok (.istore 11, 2) := by decide +kernel
set_option maxRecDepth 20000 in
theorem dL_holds_371 : decode cL_holds 371 = .ok (.iconst 1, 1) := by decide +kernel
set_option maxRecDepth 20000 in
theorem dL_holds_372 : decode cL_holds 372 = .ok (.istore 12, 2) := by decide +kernel
set_option maxRecDepth 20000 in
theorem dL_holds_374 : decode cL_holds 374 = .ok (.iload 12, 2) := by decide +kernel
set_option maxRecDepth 20000 in
theorem dL_holds_376 : decode cL_holds 376 = .ok (.sipush 128, 3) := by decide +kernel
set_option maxRecDepth 20000 in
theorem dL_holds_379 : decode cL_holds 379 = .ok (.if_icmp .ge 90, 3) := by decide +kernel
set_option maxRecDepth 20000 in
theorem dL_holds_382 : decode cL_holds 382 = .ok (.iconst 0, 1) := by decide +kernel
set_option maxRecDepth 20000 in
theorem dL_holds_383 : decode cL_holds 383 = .ok (.istore 13, 2) := by decide +kernel
set_option maxRecDepth 20000 in
theorem dL_holds_385 : decode cL_holds 385 = .ok (.iconst 0, 1) := by decide +kernel
set_option maxRecDepth 20000 in
theorem dL_holds_386 : decode cL_holds 386 = .ok (.istore 14, 2) := by decide +kernel
set_option maxRecDepth 20000 in
theorem dL_holds_388 : decode cL_holds 388 = .ok (.iload 14, 2) := by decide +kernel
set_option maxRecDepth 20000 in
theorem dL_holds_390 : decode cL_holds 390 = .ok (.bipush 7, 2) := by decide +kernel
set_option maxRecDepth 20000 in
theorem dL_holds_392 : decode cL_holds 392 = .ok (.if_icmp .ge 36, 3) := by decide +kernel
set_option maxRecDepth 20000 in
theorem dL_holds_395 : decode cL_holds 395 = .ok (.iload 13, 2) := by decide +kernel
set_option maxRecDepth 20000 in
theorem dL_holds_397 : decode cL_holds 397 = .ok (.iload 12, 2) := by decide +kernel
set_option maxRecDepth 20000 in
theorem dL_holds_399 : decode cL_holds 399 = .ok (.iload 14, 2) := by decide +kernel
set_option maxRecDepth 20000 in
theorem dL_holds_401 : decode cL_holds 401 = .ok (.ishr, 1) := by decide +kernel
set_option maxRecDepth 20000 in
theorem dL_holds_402 : decode cL_holds 402 = .ok (.iconst 1, 1) := by decide +kernel
set_option maxRecDepth 20000 in
theorem dL_holds_403 : decode cL_holds 403 = .ok (.iand, 1) := by decide +kernel
set_option maxRecDepth 20000 in
theorem dL_holds_404 : decode cL_holds 404 = .ok (.iconst 1, 1) := by decide +kernel
set_option maxRecDepth 20000 in
theorem dL_holds_405 : decode cL_holds 405 = .ok (.if_icmp .ne 13, 3) := by decide +kernel
set_option maxRecDepth 20000 in
theorem dL_holds_408 : decode cL_holds 408 = .ok (.aload_n 0, 1) := by decide +kernel
set_option maxRecDepth 20000 in
theorem dL_holds_409 : decode cL_holds 409 = .ok (.iload 14, 2) := by decide +kernel
set_option maxRecDepth 20000 in
theorem dL_holds_411 : decode cL_holds 411 = .ok (.iconst 0, 1) := by decide +kernel
set_option maxRecDepth 20000 in
theorem dL_holds_412 : decode cL_holds 412 = .ok (.invokevirtual 15, 3) := by decide +kernel
set_option maxRecDepth 20000 in
theorem dL_holds_415 : decode cL_holds 415 = .ok (.goto 4, 3) := by decide +kernel
set_option maxRecDepth 20000 in
theorem dL_holds_418 : decode cL_holds 418 = .ok (.iconst 0, 1) := by decide +kernel
set_option maxRecDepth 20000 in
theorem dL_holds_419 : decode cL_holds 419 = .ok (.iadd, 1) := by decide +kernel
set_option maxRecDepth 20000 in
theorem dL_holds_420 : decode cL_holds 420 = .ok (.istore 13, 2) := by decide +kernel
set_option maxRecDepth 20000 in
theorem dL_holds_422 : decode cL_holds 422 = .ok (.iinc 14 1, 3) := by decide +kernel
set_option maxRecDepth 20000 in
theorem dL_holds_425 : decode cL_holds 425 = .ok (.goto (-37), 3) := by decide +kernel
set_option maxRecDepth 20000 in
theorem dL_holds_428 : decode cL_holds 428 = .ok (.iload 13, 2) := by decide +kernel
set_option maxRecDepth 20000 in
theorem dL_holds_430 : decode cL_holds 430 = .ok (.iload 10, 2) := by decide +kernel
set_option maxRecDepth 20000 in
theorem dL_holds_432 : decode cL_holds 432 = .ok (.if_icmp .ne 27, 3) := by decide +kernel
set_option maxRecDepth 20000 in
theorem dL_holds_435 : decode cL_holds 435 = .ok (.iload 11, 2) := by decide +kernel
set_option maxRecDepth 20000 in
theorem dL_holds_437 : decode cL_holds 437 = .ok (.iconst (-1), 1) := by decide +kernel
set_option maxRecDepth 20000 in
theorem dL_holds_438 : decode cL_holds 438 = .ok (.if_icmp .eq 16, 3) := by decide +kernel
set_option maxRecDepth 20000 in
theorem dL_holds_441 : decode cL_holds 441 = .ok (.iload 12, 2) := by decide +kernel
set_option maxRecDepth 20000 in
theorem dL_holds_443 : decode cL_holds 443 = .ok (.invokestatic 81, 3) := by decide +kernel
set_option maxRecDepth 20000 in
theorem dL_holds_446 : decode cL_holds 446 = .ok (.iload 11, 2) := by decide +kernel
set_option maxRecDepth 20000 in
theorem dL_holds_448 : decode cL_holds 448 = .ok (.invokestatic 81, 3) := by decide +kernel
set_option maxRecDepth 20000 in
theorem dL_holds_451 : decode cL_holds 451 = .ok (.if_icmp .ge 8, 3) := by decide +kernel
set_option maxRecDepth 20000 in
theorem dL_holds_454 : decode cL_holds 454 = .ok (.iload 12, 2) := by decide +kernel
set_option maxRecDepth 20000 in
theorem dL_holds_456 : decode cL_holds 456 = .ok (.goto 5, 3) := by decide +kernel
set_option maxRecDepth 20000 in
theorem dL_holds_459 : decode cL_holds 459 = .ok (.iload 11, 2) := by decide +kernel
set_option maxRecDepth 20000 in
theorem dL_holds_461 : decode cL_holds 461 = .ok (.istore 11, 2) := by decide +kernel
set_option maxRecDepth 20000 in
theorem dL_holds_463 : decode cL_holds 463 = .ok (.iinc 12 1, 3) := by decide +kernel
set_option maxRecDepth 20000 in
theorem dL_holds_466 : decode cL_holds 466 = .ok (.goto (-92), 3) := by decide +kernel
set_option maxRecDepth 20000 in
theorem dL_holds_469 : decode cL_holds 469 = .ok (.iload 8, 2) := by decide +kernel
set_option maxRecDepth 20000 in
theorem dL_holds_471 : decode cL_holds 471 = .ok (.ifCond .eq 31, 3) := by decide +kernel
set_option maxRecDepth 20000 in
theorem dL_holds_474 : decode cL_holds 474 = .ok (.aload_n 0, 1) := by decide +kernel
set_option maxRecDepth 20000 in
theorem dL_holds_475 : decode cL_holds 475 = .ok (.iload 10, 2) := by decide +kernel
set_option maxRecDepth 20000 in
theorem dL_holds_477 : decode cL_holds 477 = .ok (.iconst 0, 1) := by decide +kernel
set_option maxRecDepth 20000 in
theorem dL_holds_478 : decode cL_holds 478 = .ok (.invokevirtual 84, 3) := by decide +kernel
set_option maxRecDepth 20000 in
theorem dL_holds_481 : decode cL_holds 481 = .ok (.iload 11, 2) := by decide +kernel
set_option maxRecDepth 20000 in
theorem dL_holds_483 : decode cL_holds 483 = .ok (.if_icmp .ne 19, 3) := by decide +kernel
set_option maxRecDepth 20000 in
theorem dL_holds_486 : decode cL_holds 486 = .ok (.aload_n 0, 1) := by decide +kernel
set_option maxRecDepth 20000 in
theorem dL_holds_487 : decode cL_holds 487 = .ok (.iload 10, 2) := by decide +kernel
set_option maxRecDepth 20000 in
theorem dL_holds_489 : decode cL_holds 489 = .ok (.iconst 1, 1) := by decide +kernel
set_option maxRecDepth 20000 in
theorem dL_holds_490 : decode cL_holds 490 = .ok (.invokevirtual 84, 3) := by decide +kernel
set_option maxRecDepth 20000 in
theorem dL_holds_493 : decode cL_holds 493 = .ok (.iload 11, 2) := by decide +kernel
set_option maxRecDepth 20000 in
theorem dL_holds_495 : decode cL_holds 495 = .ok (.if_icmp .ne 7, 3) := by decide +kernel
set_option maxRecDepth 20000 in
theorem dL_holds_498 : decode cL_holds 498 = .ok (.iconst 1, 1) := by decide +kernel
set_option maxRecDepth 20000 in
theorem dL_holds_499 : decode cL_holds 499 = .ok (.goto 4, 3) := by decide +kernel
set_option maxRecDepth 20000 in
theorem dL_holds_502 : decode cL_holds 502 = .ok (.iconst 0, 1) := by decide +kernel
set_option maxRecDepth 20000 in
theorem dL_holds_503 : decode cL_holds 503 = .ok (.ireturn, 1) := by decide +kernel
theorem dL_bits_0 : decode cL_bits 0 = .ok (.iconst 0, 1) := by decide +kernel
theorem dL_bits_1 : decode cL_bits 1 = .ok (.istore_n 1, 1) := by decide +kernel
theorem dL_bits_2 : decode cL_bits 2 = .ok (.iconst 0, 1) := by decide +kernel
theorem dL_bits_3 : decode cL_bits 3 = .ok (.istore_n 2, 1) := by decide +kernel
theorem dL_bits_4 : decode cL_bits 4 = .ok (.iload_n 2, 1) := by decide +kernel
theorem dL_bits_5 : decode cL_bits 5 = .ok (.bipush 7, 2) := by decide +kernel
theorem dL_bits_7 : decode cL_bits 7 = .ok (.if_icmp .ge 17, 3) := by decide +kernel
theorem dL_bits_10 : decode cL_bits 10 = .ok (.iload_n 1, 1) := by decide +kernel
theorem dL_bits_11 : decode cL_bits 11 = .ok (.iload_n 0, 1) := by decide +kernel
theorem dL_bits_12 : decode cL_bits 12 = .ok (.iload_n 2, 1) := by decide +kernel
theorem dL_bits_13 : decode cL_bits 13 = .ok (.ishr, 1) := by decide +kernel
theorem dL_bits_14 : decode cL_bits 14 = .ok (.iconst 1, 1) := by decide +kernel
theorem dL_bits_15 : decode cL_bits 15 = .ok (.iand, 1) := by decide +kernel
theorem dL_bits_16 : decode cL_bits 16 = .ok (.iadd, 1) := by decide +kernel
theorem dL_bits_17 : decode cL_bits 17 = .ok (.istore_n 1, 1) := by decide +kernel
theorem dL_bits_18 : decode cL_bits 18 = .ok (.iinc 2 1, 3) := by decide +kernel
theorem dL_bits_21 : decode cL_bits 21 = .ok (.goto (-17), 3) := by decide +kernel
theorem dL_bits_24 : decode cL_bits 24 = .ok (.iload_n 1, 1) := by decide +kernel
theorem dL_bits_25 : decode cL_bits 25 = .ok (.ireturn, 1) := by decide +kernel
