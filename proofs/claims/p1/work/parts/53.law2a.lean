theorem lw_ini : Cond.initialized "CiteForgeLaw" ∈ wAll := w_of1 0 (by decide +kernel) rfl
theorem lw_write_c : Cond.codeWith y_Law_write method_3_code 6 (some .int) [(0, 11, 14, 13), (0, 11, 18, 15)] ∈ wAll := w_of3 128 (by decide +kernel) rfl
theorem lw_write_l : Cond.methodLink "CiteForgeLaw" 74 y_Law_write ∈ wAll := w_of3 126 (by decide +kernel) rfl
theorem lw_write_s : Cond.static y_Law_write ∈ wAll := w_of3 127 (by decide +kernel) rfl
theorem lw_cite_c : Cond.codeWith y_Law_cite method_4_code 5 (some .int) [(0, 16, 19, 13), (0, 16, 23, 15)] ∈ wAll := w_of3 235 (by decide +kernel) rfl
theorem lw_cite_l : Cond.methodLink "CiteForgeLaw" 92 y_Law_cite ∈ wAll := w_of3 233 (by decide +kernel) rfl
theorem lw_cite_s : Cond.static y_Law_cite ∈ wAll := w_of3 234 (by decide +kernel) rfl
theorem lw_list_c : Cond.codeWith y_Law_list method_5_code 4 (some .int) [(0, 9, 12, 13)] ∈ wAll := w_of4 22 (by decide +kernel) rfl
theorem lw_list_l : Cond.methodLink "CiteForgeLaw" 100 y_Law_list ∈ wAll := w_of4 20 (by decide +kernel) rfl
theorem lw_list_s : Cond.static y_Law_list ∈ wAll := w_of4 21 (by decide +kernel) rfl
theorem lw_key_c : Cond.codeWith y_Law_key method_6_code 4 (some .int) [(0, 8, 11, 29)] ∈ wAll := w_of4 53 (by decide +kernel) rfl
theorem lw_key_l : Cond.methodLink "CiteForgeLaw" 104 y_Law_key ∈ wAll := w_of4 51 (by decide +kernel) rfl
theorem lw_key_s : Cond.static y_Law_key ∈ wAll := w_of4 52 (by decide +kernel) rfl
theorem lw_field_c : Cond.codeWith y_Law_field method_7_code 7 (some .int) [(0, 13, 16, 29), (0, 13, 20, 35)] ∈ wAll := w_of4 84 (by decide +kernel) rfl
theorem lw_field_l : Cond.methodLink "CiteForgeLaw" 112 y_Law_field ∈ wAll := w_of4 82 (by decide +kernel) rfl
theorem lw_field_s : Cond.static y_Law_field ∈ wAll := w_of4 83 (by decide +kernel) rfl
theorem lw_define_c : Cond.codeWith y_Law_define method_8_code 7 (some .int) [(0, 12, 15, 13), (0, 12, 19, 15)] ∈ wAll := w_of4 118 (by decide +kernel) rfl
theorem lw_define_l : Cond.methodLink "CiteForgeLaw" 116 y_Law_define ∈ wAll := w_of4 116 (by decide +kernel) rfl
theorem lw_define_s : Cond.static y_Law_define ∈ wAll := w_of4 117 (by decide +kernel) rfl
theorem lw_clear_c : Cond.codeWith y_Law_clear method_9_code 4 (some .int) [(0, 9, 12, 13)] ∈ wAll := w_of4 142 (by decide +kernel) rfl
theorem lw_clear_l : Cond.methodLink "CiteForgeLaw" 120 y_Law_clear ∈ wAll := w_of4 140 (by decide +kernel) rfl
theorem lw_clear_s : Cond.static y_Law_clear ∈ wAll := w_of4 141 (by decide +kernel) rfl
theorem lw_run_c : Cond.codeWith y_Law_run method_10_code 5 (some .int) [(0, 10, 13, 13), (0, 10, 17, 48)] ∈ wAll := w_of4 153 (by decide +kernel) rfl
theorem lw_run_l : Cond.methodLink "CiteForgeLaw" 123 y_Law_run ∈ wAll := w_of4 151 (by decide +kernel) rfl
theorem lw_run_s : Cond.static y_Law_run ∈ wAll := w_of4 152 (by decide +kernel) rfl
theorem lw_kind_c : Cond.codeWith y_Law_kind method_11_code 4 (some .int) [(0, 9, 12, 29)] ∈ wAll := w_of5 214 (by decide +kernel) rfl
theorem lw_kind_l : Cond.methodLink "CiteForgeLaw" 131 y_Law_kind ∈ wAll := w_of5 212 (by decide +kernel) rfl
theorem lw_kind_s : Cond.static y_Law_kind ∈ wAll := w_of5 213 (by decide +kernel) rfl
theorem lw_value_c : Cond.codeWith y_Law_value method_12_code 4 (some .int) [(0, 9, 12, 29)] ∈ wAll := w_of5 229 (by decide +kernel) rfl
theorem lw_value_l : Cond.methodLink "CiteForgeLaw" 134 y_Law_value ∈ wAll := w_of5 227 (by decide +kernel) rfl
theorem lw_value_s : Cond.static y_Law_value ∈ wAll := w_of5 228 (by decide +kernel) rfl
theorem lw_letter_c : Cond.codeWith y_Law_letter method_13_code 5 (some .int) [(0, 10, 13, 29)] ∈ wAll := w_of5 237 (by decide +kernel) rfl
theorem lw_letter_l : Cond.methodLink "CiteForgeLaw" 137 y_Law_letter ∈ wAll := w_of5 235 (by decide +kernel) rfl
theorem lw_letter_s : Cond.static y_Law_letter ∈ wAll := w_of5 236 (by decide +kernel) rfl
theorem lw_line_c : Cond.codeWith y_Law_line method_14_code 5 (some .int) [(0, 10, 13, 35), (0, 10, 17, 29)] ∈ wAll := w_of6 4 (by decide +kernel) rfl
theorem lw_line_l : Cond.methodLink "CiteForgeLaw" 144 y_Law_line ∈ wAll := w_of6 2 (by decide +kernel) rfl
theorem lw_line_s : Cond.static y_Law_line ∈ wAll := w_of6 3 (by decide +kernel) rfl
theorem lw_count_c : Cond.codeWith y_Law_count method_15_code 4 (some .int) [(0, 9, 12, 29)] ∈ wAll := w_of6 19 (by decide +kernel) rfl
theorem lw_count_l : Cond.methodLink "CiteForgeLaw" 147 y_Law_count ∈ wAll := w_of6 17 (by decide +kernel) rfl
theorem lw_count_s : Cond.static y_Law_count ∈ wAll := w_of6 18 (by decide +kernel) rfl
theorem lw_warnings_c : Cond.codeWith y_Law_warnings method_16_code 4 (some .int) [(0, 9, 12, 29)] ∈ wAll := w_of6 38 (by decide +kernel) rfl
theorem lw_warnings_l : Cond.methodLink "CiteForgeLaw" 150 y_Law_warnings ∈ wAll := w_of6 36 (by decide +kernel) rfl
theorem lw_warnings_s : Cond.static y_Law_warnings ∈ wAll := w_of6 37 (by decide +kernel) rfl
theorem d_Law_law_0 : decode code 0 = .ok (.new 8, 3) := by decide +kernel
theorem d_Law_law_3 : decode code 3 = .ok (.dup, 1) := by decide +kernel
theorem d_Law_law_4 : decode code 4 = .ok (.invokespecial 68, 3) := by decide +kernel
theorem d_Law_law_7 : decode code 7 = .ok (.astore_n 1, 1) := by decide +kernel
theorem d_Law_law_8 : decode code 8 = .ok (.new 69, 3) := by decide +kernel
theorem d_Law_law_11 : decode code 11 = .ok (.dup, 1) := by decide +kernel
theorem d_Law_law_12 : decode code 12 = .ok (.invokespecial 71, 3) := by decide +kernel
theorem d_Law_law_15 : decode code 15 = .ok (.astore_n 2, 1) := by decide +kernel
theorem d_Law_law_16 : decode code 16 = .ok (.iconst 1, 1) := by decide +kernel
theorem d_Law_law_17 : decode code 17 = .ok (.newarray .long, 2) := by decide +kernel
theorem d_Law_law_19 : decode code 19 = .ok (.astore_n 3, 1) := by decide +kernel
theorem d_Law_law_20 : decode code 20 = .ok (.iconst 0, 1) := by decide +kernel
theorem d_Law_law_21 : decode code 21 = .ok (.istore 4, 2) := by decide +kernel
theorem d_Law_law_23 : decode code 23 = .ok (.iload 4, 2) := by decide +kernel
theorem d_Law_law_25 : decode code 25 = .ok (.aload_n 0, 1) := by decide +kernel
theorem d_Law_law_26 : decode code 26 = .ok (.arraylength, 1) := by decide +kernel
theorem d_Law_law_27 : decode code 27 = .ok (.iconst 5, 1) := by decide +kernel
theorem d_Law_law_28 : decode code 28 = .ok (.isub, 1) := by decide +kernel
theorem d_Law_law_29 : decode code 29 = .ok (.if_icmp .gt 1201, 3) := by decide +kernel
theorem d_Law_law_32 : decode code 32 = .ok (.aload_n 0, 1) := by decide +kernel
theorem d_Law_law_33 : decode code 33 = .ok (.iload 4, 2) := by decide +kernel
theorem d_Law_law_35 : decode code 35 = .ok (.iaload, 1) := by decide +kernel
theorem d_Law_law_36 : decode code 36 = .ok (.bipush 31, 2) := by decide +kernel
theorem d_Law_law_38 : decode code 38 = .ok (.iand, 1) := by decide +kernel
theorem d_Law_law_39 : decode code 39 = .ok (.tableswitch 1185 0 19 #[93, 193, 206, 219, 314, 327, 383, 438, 451, 563, 675, 731, 799, 812, 868, 924, 992, 1005, 1073, 1129], 93) := by decide +kernel
theorem d_Law_law_132 : decode code 132 = .ok (.aload_n 1, 1) := by decide +kernel
theorem d_Law_law_133 : decode code 133 = .ok (.aload_n 0, 1) := by decide +kernel
theorem d_Law_law_134 : decode code 134 = .ok (.iload 4, 2) := by decide +kernel
theorem d_Law_law_136 : decode code 136 = .ok (.iconst 1, 1) := by decide +kernel
theorem d_Law_law_137 : decode code 137 = .ok (.iadd, 1) := by decide +kernel
theorem d_Law_law_138 : decode code 138 = .ok (.iaload, 1) := by decide +kernel
theorem d_Law_law_139 : decode code 139 = .ok (.i2l, 1) := by decide +kernel
theorem d_Law_law_140 : decode code 140 = .ok (.bipush 32, 2) := by decide +kernel
theorem d_Law_law_142 : decode code 142 = .ok (.lshl, 1) := by decide +kernel
theorem d_Law_law_143 : decode code 143 = .ok (.aload_n 0, 1) := by decide +kernel
theorem d_Law_law_144 : decode code 144 = .ok (.iload 4, 2) := by decide +kernel
theorem d_Law_law_146 : decode code 146 = .ok (.iconst 2, 1) := by decide +kernel
theorem d_Law_law_147 : decode code 147 = .ok (.iadd, 1) := by decide +kernel
theorem d_Law_law_148 : decode code 148 = .ok (.iaload, 1) := by decide +kernel
theorem d_Law_law_149 : decode code 149 = .ok (.i2l, 1) := by decide +kernel
theorem d_Law_law_150 : decode code 150 = .ok (.ldc2_w 72, 3) := by decide +kernel
theorem d_Law_law_153 : decode code 153 = .ok (.land, 1) := by decide +kernel
theorem d_Law_law_154 : decode code 154 = .ok (.lor, 1) := by decide +kernel
theorem d_Law_law_155 : decode code 155 = .ok (.aload_n 0, 1) := by decide +kernel
theorem d_Law_law_156 : decode code 156 = .ok (.iload 4, 2) := by decide +kernel
theorem d_Law_law_158 : decode code 158 = .ok (.iconst 3, 1) := by decide +kernel
theorem d_Law_law_159 : decode code 159 = .ok (.iadd, 1) := by decide +kernel
theorem d_Law_law_160 : decode code 160 = .ok (.iaload, 1) := by decide +kernel
theorem d_Law_law_161 : decode code 161 = .ok (.aload_n 3, 1) := by decide +kernel
theorem d_Law_law_162 : decode code 162 = .ok (.invokestatic 74, 3) := by decide +kernel
theorem d_Law_law_165 : decode code 165 = .ok (.istore 5, 2) := by decide +kernel
theorem d_Law_law_167 : decode code 167 = .ok (.aload_n 2, 1) := by decide +kernel
theorem d_Law_law_168 : decode code 168 = .ok (.aload_n 0, 1) := by decide +kernel
theorem d_Law_law_169 : decode code 169 = .ok (.iload 4, 2) := by decide +kernel
theorem d_Law_law_171 : decode code 171 = .ok (.iconst 1, 1) := by decide +kernel
theorem d_Law_law_172 : decode code 172 = .ok (.iadd, 1) := by decide +kernel
theorem d_Law_law_173 : decode code 173 = .ok (.iaload, 1) := by decide +kernel
theorem d_Law_law_174 : decode code 174 = .ok (.i2l, 1) := by decide +kernel
theorem d_Law_law_175 : decode code 175 = .ok (.bipush 32, 2) := by decide +kernel
theorem d_Law_law_177 : decode code 177 = .ok (.lshl, 1) := by decide +kernel
theorem d_Law_law_178 : decode code 178 = .ok (.aload_n 0, 1) := by decide +kernel
theorem d_Law_law_179 : decode code 179 = .ok (.iload 4, 2) := by decide +kernel
theorem d_Law_law_181 : decode code 181 = .ok (.iconst 2, 1) := by decide +kernel
theorem d_Law_law_182 : decode code 182 = .ok (.iadd, 1) := by decide +kernel
theorem d_Law_law_183 : decode code 183 = .ok (.iaload, 1) := by decide +kernel
theorem d_Law_law_184 : decode code 184 = .ok (.i2l, 1) := by decide +kernel
theorem d_Law_law_185 : decode code 185 = .ok (.ldc2_w 72, 3) := by decide +kernel
theorem d_Law_law_188 : decode code 188 = .ok (.land, 1) := by decide +kernel
theorem d_Law_law_189 : decode code 189 = .ok (.lor, 1) := by decide +kernel
theorem d_Law_law_190 : decode code 190 = .ok (.aload_n 0, 1) := by decide +kernel
theorem d_Law_law_191 : decode code 191 = .ok (.iload 4, 2) := by decide +kernel
theorem d_Law_law_193 : decode code 193 = .ok (.iconst 3, 1) := by decide +kernel
theorem d_Law_law_194 : decode code 194 = .ok (.iadd, 1) := by decide +kernel
theorem d_Law_law_195 : decode code 195 = .ok (.iaload, 1) := by decide +kernel
theorem d_Law_law_196 : decode code 196 = .ok (.invokevirtual 79, 3) := by decide +kernel
theorem d_Law_law_199 : decode code 199 = .ok (.istore 6, 2) := by decide +kernel
theorem d_Law_law_201 : decode code 201 = .ok (.aload_n 2, 1) := by decide +kernel
theorem d_Law_law_202 : decode code 202 = .ok (.invokevirtual 80, 3) := by decide +kernel
theorem d_Law_law_205 : decode code 205 = .ok (.iload 5, 2) := by decide +kernel
theorem d_Law_law_207 : decode code 207 = .ok (.if_icmp .eq 5, 3) := by decide +kernel
theorem d_Law_law_210 : decode code 210 = .ok (.iconst 0, 1) := by decide +kernel
theorem d_Law_law_211 : decode code 211 = .ok (.ireturn, 1) := by decide +kernel
theorem d_Law_law_212 : decode code 212 = .ok (.iload 5, 2) := by decide +kernel
theorem d_Law_law_214 : decode code 214 = .ok (.ifCond .ne 15, 3) := by decide +kernel
theorem d_Law_law_217 : decode code 217 = .ok (.aload_n 3, 1) := by decide +kernel
theorem d_Law_law_218 : decode code 218 = .ok (.iconst 0, 1) := by decide +kernel
theorem d_Law_law_219 : decode code 219 = .ok (.laload, 1) := by decide +kernel
theorem d_Law_law_220 : decode code 220 = .ok (.iload 6, 2) := by decide +kernel
theorem d_Law_law_222 : decode code 222 = .ok (.i2l, 1) := by decide +kernel
theorem d_Law_law_223 : decode code 223 = .ok (.lcmp, 1) := by decide +kernel
theorem d_Law_law_224 : decode code 224 = .ok (.ifCond .eq 5, 3) := by decide +kernel
theorem d_Law_law_227 : decode code 227 = .ok (.iconst 0, 1) := by decide +kernel
theorem d_Law_law_228 : decode code 228 = .ok (.ireturn, 1) := by decide +kernel
theorem d_Law_law_229 : decode code 229 = .ok (.goto 995, 3) := by decide +kernel
theorem d_Law_law_232 : decode code 232 = .ok (.aload_n 1, 1) := by decide +kernel
theorem d_Law_law_233 : decode code 233 = .ok (.invokevirtual 84, 3) := by decide +kernel
theorem d_Law_law_236 : decode code 236 = .ok (.aload_n 2, 1) := by decide +kernel
theorem d_Law_law_237 : decode code 237 = .ok (.invokevirtual 87, 3) := by decide +kernel
theorem d_Law_law_240 : decode code 240 = .ok (.if_icmp .eq 984, 3) := by decide +kernel
theorem d_Law_law_243 : decode code 243 = .ok (.iconst 0, 1) := by decide +kernel
theorem d_Law_law_244 : decode code 244 = .ok (.ireturn, 1) := by decide +kernel
theorem d_Law_law_245 : decode code 245 = .ok (.aload_n 1, 1) := by decide +kernel
theorem d_Law_law_246 : decode code 246 = .ok (.invokevirtual 88, 3) := by decide +kernel
theorem d_Law_law_249 : decode code 249 = .ok (.aload_n 2, 1) := by decide +kernel
theorem d_Law_law_250 : decode code 250 = .ok (.invokevirtual 91, 3) := by decide +kernel
theorem d_Law_law_253 : decode code 253 = .ok (.if_icmp .eq 971, 3) := by decide +kernel
theorem d_Law_law_256 : decode code 256 = .ok (.iconst 0, 1) := by decide +kernel
theorem d_Law_law_257 : decode code 257 = .ok (.ireturn, 1) := by decide +kernel
theorem d_Law_law_258 : decode code 258 = .ok (.aload_n 1, 1) := by decide +kernel
theorem d_Law_law_259 : decode code 259 = .ok (.aload_n 0, 1) := by decide +kernel
theorem d_Law_law_260 : decode code 260 = .ok (.iload 4, 2) := by decide +kernel
theorem d_Law_law_262 : decode code 262 = .ok (.iconst 1, 1) := by decide +kernel
theorem d_Law_law_263 : decode code 263 = .ok (.iadd, 1) := by decide +kernel
theorem d_Law_law_264 : decode code 264 = .ok (.iaload, 1) := by decide +kernel
theorem d_Law_law_265 : decode code 265 = .ok (.i2l, 1) := by decide +kernel
theorem d_Law_law_266 : decode code 266 = .ok (.bipush 32, 2) := by decide +kernel
theorem d_Law_law_268 : decode code 268 = .ok (.lshl, 1) := by decide +kernel
theorem d_Law_law_269 : decode code 269 = .ok (.aload_n 0, 1) := by decide +kernel
theorem d_Law_law_270 : decode code 270 = .ok (.iload 4, 2) := by decide +kernel
theorem d_Law_law_272 : decode code 272 = .ok (.iconst 2, 1) := by decide +kernel
theorem d_Law_law_273 : decode code 273 = .ok (.iadd, 1) := by decide +kernel
theorem d_Law_law_274 : decode code 274 = .ok (.iaload, 1) := by decide +kernel
theorem d_Law_law_275 : decode code 275 = .ok (.i2l, 1) := by decide +kernel
theorem d_Law_law_276 : decode code 276 = .ok (.ldc2_w 72, 3) := by decide +kernel
theorem d_Law_law_279 : decode code 279 = .ok (.land, 1) := by decide +kernel
theorem d_Law_law_280 : decode code 280 = .ok (.lor, 1) := by decide +kernel
theorem d_Law_law_281 : decode code 281 = .ok (.aload_n 3, 1) := by decide +kernel
theorem d_Law_law_282 : decode code 282 = .ok (.invokestatic 92, 3) := by decide +kernel
theorem d_Law_law_285 : decode code 285 = .ok (.istore 5, 2) := by decide +kernel
theorem d_Law_law_287 : decode code 287 = .ok (.aload_n 2, 1) := by decide +kernel
theorem d_Law_law_288 : decode code 288 = .ok (.aload_n 0, 1) := by decide +kernel
theorem d_Law_law_289 : decode code 289 = .ok (.iload 4, 2) := by decide +kernel
theorem d_Law_law_291 : decode code 291 = .ok (.iconst 1, 1) := by decide +kernel
theorem d_Law_law_292 : decode code 292 = .ok (.iadd, 1) := by decide +kernel
theorem d_Law_law_293 : decode code 293 = .ok (.iaload, 1) := by decide +kernel
theorem d_Law_law_294 : decode code 294 = .ok (.i2l, 1) := by decide +kernel
theorem d_Law_law_295 : decode code 295 = .ok (.bipush 32, 2) := by decide +kernel
theorem d_Law_law_297 : decode code 297 = .ok (.lshl, 1) := by decide +kernel
theorem d_Law_law_298 : decode code 298 = .ok (.aload_n 0, 1) := by decide +kernel
theorem d_Law_law_299 : decode code 299 = .ok (.iload 4, 2) := by decide +kernel
theorem d_Law_law_301 : decode code 301 = .ok (.iconst 2, 1) := by decide +kernel
theorem d_Law_law_302 : decode code 302 = .ok (.iadd, 1) := by decide +kernel
theorem d_Law_law_303 : decode code 303 = .ok (.iaload, 1) := by decide +kernel
theorem d_Law_law_304 : decode code 304 = .ok (.i2l, 1) := by decide +kernel
theorem d_Law_law_305 : decode code 305 = .ok (.ldc2_w 72, 3) := by decide +kernel
theorem d_Law_law_308 : decode code 308 = .ok (.land, 1) := by decide +kernel
theorem d_Law_law_309 : decode code 309 = .ok (.lor, 1) := by decide +kernel
theorem d_Law_law_310 : decode code 310 = .ok (.invokevirtual 95, 3) := by decide +kernel
theorem d_Law_law_313 : decode code 313 = .ok (.istore 6, 2) := by decide +kernel
theorem d_Law_law_315 : decode code 315 = .ok (.aload_n 2, 1) := by decide +kernel
theorem d_Law_law_316 : decode code 316 = .ok (.invokevirtual 80, 3) := by decide +kernel
theorem d_Law_law_319 : decode code 319 = .ok (.iload 5, 2) := by decide +kernel
theorem d_Law_law_321 : decode code 321 = .ok (.if_icmp .eq 5, 3) := by decide +kernel
theorem d_Law_law_324 : decode code 324 = .ok (.iconst 0, 1) := by decide +kernel
theorem d_Law_law_325 : decode code 325 = .ok (.ireturn, 1) := by decide +kernel
theorem d_Law_law_326 : decode code 326 = .ok (.iload 5, 2) := by decide +kernel
theorem d_Law_law_328 : decode code 328 = .ok (.ifCond .ne 22, 3) := by decide +kernel
theorem d_Law_law_331 : decode code 331 = .ok (.aload_n 3, 1) := by decide +kernel
theorem d_Law_law_332 : decode code 332 = .ok (.iconst 0, 1) := by decide +kernel
theorem d_Law_law_333 : decode code 333 = .ok (.laload, 1) := by decide +kernel
theorem d_Law_law_334 : decode code 334 = .ok (.iload 6, 2) := by decide +kernel
theorem d_Law_law_336 : decode code 336 = .ok (.ifCond .eq 7, 3) := by decide +kernel
theorem d_Law_law_339 : decode code 339 = .ok (.lconst 1, 1) := by decide +kernel
theorem d_Law_law_340 : decode code 340 = .ok (.goto 4, 3) := by decide +kernel
theorem d_Law_law_343 : decode code 343 = .ok (.lconst 0, 1) := by decide +kernel
theorem d_Law_law_344 : decode code 344 = .ok (.lcmp, 1) := by decide +kernel
theorem d_Law_law_345 : decode code 345 = .ok (.ifCond .eq 5, 3) := by decide +kernel
theorem d_Law_law_348 : decode code 348 = .ok (.iconst 0, 1) := by decide +kernel
theorem d_Law_law_349 : decode code 349 = .ok (.ireturn, 1) := by decide +kernel
theorem d_Law_law_350 : decode code 350 = .ok (.goto 874, 3) := by decide +kernel
theorem d_Law_law_353 : decode code 353 = .ok (.aload_n 1, 1) := by decide +kernel
theorem d_Law_law_354 : decode code 354 = .ok (.invokevirtual 96, 3) := by decide +kernel
theorem d_Law_law_357 : decode code 357 = .ok (.aload_n 2, 1) := by decide +kernel
theorem d_Law_law_358 : decode code 358 = .ok (.invokevirtual 99, 3) := by decide +kernel
theorem d_Law_law_361 : decode code 361 = .ok (.if_icmp .eq 863, 3) := by decide +kernel
theorem d_Law_law_364 : decode code 364 = .ok (.iconst 0, 1) := by decide +kernel
theorem d_Law_law_365 : decode code 365 = .ok (.ireturn, 1) := by decide +kernel
theorem d_Law_law_366 : decode code 366 = .ok (.aload_n 1, 1) := by decide +kernel
theorem d_Law_law_367 : decode code 367 = .ok (.aload_n 0, 1) := by decide +kernel
theorem d_Law_law_368 : decode code 368 = .ok (.iload 4, 2) := by decide +kernel
theorem d_Law_law_370 : decode code 370 = .ok (.iconst 1, 1) := by decide +kernel
theorem d_Law_law_371 : decode code 371 = .ok (.iadd, 1) := by decide +kernel
theorem d_Law_law_372 : decode code 372 = .ok (.iaload, 1) := by decide +kernel
theorem d_Law_law_373 : decode code 373 = .ok (.aload_n 3, 1) := by decide +kernel
theorem d_Law_law_374 : decode code 374 = .ok (.invokestatic 100, 3) := by decide +kernel
theorem d_Law_law_377 : decode code 377 = .ok (.istore 5, 2) := by decide +kernel
theorem d_Law_law_379 : decode code 379 = .ok (.aload_n 2, 1) := by decide +kernel
theorem d_Law_law_380 : decode code 380 = .ok (.aload_n 0, 1) := by decide +kernel
theorem d_Law_law_381 : decode code 381 = .ok (.iload 4, 2) := by decide +kernel
theorem d_Law_law_383 : decode code 383 = .ok (.iconst 1, 1) := by decide +kernel
theorem d_Law_law_384 : decode code 384 = .ok (.iadd, 1) := by decide +kernel
theorem d_Law_law_385 : decode code 385 = .ok (.iaload, 1) := by decide +kernel
theorem d_Law_law_386 : decode code 386 = .ok (.invokevirtual 103, 3) := by decide +kernel
theorem d_Law_law_389 : decode code 389 = .ok (.istore 6, 2) := by decide +kernel
theorem d_Law_law_391 : decode code 391 = .ok (.aload_n 2, 1) := by decide +kernel
theorem d_Law_law_392 : decode code 392 = .ok (.invokevirtual 80, 3) := by decide +kernel
theorem d_Law_law_395 : decode code 395 = .ok (.iload 5, 2) := by decide +kernel
theorem d_Law_law_397 : decode code 397 = .ok (.if_icmp .eq 5, 3) := by decide +kernel
theorem d_Law_law_400 : decode code 400 = .ok (.iconst 0, 1) := by decide +kernel
theorem d_Law_law_401 : decode code 401 = .ok (.ireturn, 1) := by decide +kernel
theorem d_Law_law_402 : decode code 402 = .ok (.iload 5, 2) := by decide +kernel
theorem d_Law_law_404 : decode code 404 = .ok (.ifCond .ne 15, 3) := by decide +kernel
theorem d_Law_law_407 : decode code 407 = .ok (.aload_n 3, 1) := by decide +kernel
theorem d_Law_law_408 : decode code 408 = .ok (.iconst 0, 1) := by decide +kernel
theorem d_Law_law_409 : decode code 409 = .ok (.laload, 1) := by decide +kernel
theorem d_Law_law_410 : decode code 410 = .ok (.iload 6, 2) := by decide +kernel
theorem d_Law_law_412 : decode code 412 = .ok (.i2l, 1) := by decide +kernel
theorem d_Law_law_413 : decode code 413 = .ok (.lcmp, 1) := by decide +kernel
theorem d_Law_law_414 : decode code 414 = .ok (.ifCond .eq 5, 3) := by decide +kernel
theorem d_Law_law_417 : decode code 417 = .ok (.iconst 0, 1) := by decide +kernel
theorem d_Law_law_418 : decode code 418 = .ok (.ireturn, 1) := by decide +kernel
theorem d_Law_law_419 : decode code 419 = .ok (.goto 805, 3) := by decide +kernel
theorem d_Law_law_422 : decode code 422 = .ok (.aload_n 1, 1) := by decide +kernel
theorem d_Law_law_423 : decode code 423 = .ok (.aload_n 0, 1) := by decide +kernel
theorem d_Law_law_424 : decode code 424 = .ok (.iload 4, 2) := by decide +kernel
theorem d_Law_law_426 : decode code 426 = .ok (.iconst 1, 1) := by decide +kernel
theorem d_Law_law_427 : decode code 427 = .ok (.iadd, 1) := by decide +kernel
theorem d_Law_law_428 : decode code 428 = .ok (.iaload, 1) := by decide +kernel
theorem d_Law_law_429 : decode code 429 = .ok (.aload_n 3, 1) := by decide +kernel
theorem d_Law_law_430 : decode code 430 = .ok (.invokestatic 104, 3) := by decide +kernel
theorem d_Law_law_433 : decode code 433 = .ok (.istore 5, 2) := by decide +kernel
theorem d_Law_law_435 : decode code 435 = .ok (.aload_n 2, 1) := by decide +kernel
theorem d_Law_law_436 : decode code 436 = .ok (.aload_n 0, 1) := by decide +kernel
theorem d_Law_law_437 : decode code 437 = .ok (.iload 4, 2) := by decide +kernel
theorem d_Law_law_439 : decode code 439 = .ok (.iconst 1, 1) := by decide +kernel
theorem d_Law_law_440 : decode code 440 = .ok (.iadd, 1) := by decide +kernel
theorem d_Law_law_441 : decode code 441 = .ok (.iaload, 1) := by decide +kernel
theorem d_Law_law_442 : decode code 442 = .ok (.invokevirtual 106, 3) := by decide +kernel
theorem d_Law_law_445 : decode code 445 = .ok (.lstore 6, 2) := by decide +kernel
theorem d_Law_law_447 : decode code 447 = .ok (.aload_n 2, 1) := by decide +kernel
theorem d_Law_law_448 : decode code 448 = .ok (.invokevirtual 80, 3) := by decide +kernel
theorem d_Law_law_451 : decode code 451 = .ok (.iload 5, 2) := by decide +kernel
theorem d_Law_law_453 : decode code 453 = .ok (.if_icmp .eq 5, 3) := by decide +kernel
theorem d_Law_law_456 : decode code 456 = .ok (.iconst 0, 1) := by decide +kernel
theorem d_Law_law_457 : decode code 457 = .ok (.ireturn, 1) := by decide +kernel
theorem d_Law_law_458 : decode code 458 = .ok (.iload 5, 2) := by decide +kernel
theorem d_Law_law_460 : decode code 460 = .ok (.ifCond .ne 14, 3) := by decide +kernel
theorem d_Law_law_463 : decode code 463 = .ok (.aload_n 3, 1) := by decide +kernel
theorem d_Law_law_464 : decode code 464 = .ok (.iconst 0, 1) := by decide +kernel
theorem d_Law_law_465 : decode code 465 = .ok (.laload, 1) := by decide +kernel
theorem d_Law_law_466 : decode code 466 = .ok (.lload 6, 2) := by decide +kernel
theorem d_Law_law_468 : decode code 468 = .ok (.lcmp, 1) := by decide +kernel
theorem d_Law_law_469 : decode code 469 = .ok (.ifCond .eq 5, 3) := by decide +kernel
theorem d_Law_law_472 : decode code 472 = .ok (.iconst 0, 1) := by decide +kernel
theorem d_Law_law_473 : decode code 473 = .ok (.ireturn, 1) := by decide +kernel
theorem d_Law_law_474 : decode code 474 = .ok (.goto 750, 3) := by decide +kernel
theorem d_Law_law_477 : decode code 477 = .ok (.aload_n 1, 1) := by decide +kernel
theorem d_Law_law_478 : decode code 478 = .ok (.invokevirtual 107, 3) := by decide +kernel
theorem d_Law_law_481 : decode code 481 = .ok (.aload_n 2, 1) := by decide +kernel
theorem d_Law_law_482 : decode code 482 = .ok (.invokevirtual 111, 3) := by decide +kernel
theorem d_Law_law_485 : decode code 485 = .ok (.if_icmp .eq 739, 3) := by decide +kernel
theorem d_Law_law_488 : decode code 488 = .ok (.iconst 0, 1) := by decide +kernel
theorem d_Law_law_489 : decode code 489 = .ok (.ireturn, 1) := by decide +kernel
theorem d_Law_law_490 : decode code 490 = .ok (.aload_n 1, 1) := by decide +kernel
theorem d_Law_law_491 : decode code 491 = .ok (.aload_n 0, 1) := by decide +kernel
theorem d_Law_law_492 : decode code 492 = .ok (.iload 4, 2) := by decide +kernel
theorem d_Law_law_494 : decode code 494 = .ok (.iconst 1, 1) := by decide +kernel
theorem d_Law_law_495 : decode code 495 = .ok (.iadd, 1) := by decide +kernel
theorem d_Law_law_496 : decode code 496 = .ok (.iaload, 1) := by decide +kernel
theorem d_Law_law_497 : decode code 497 = .ok (.aload_n 0, 1) := by decide +kernel
theorem d_Law_law_498 : decode code 498 = .ok (.iload 4, 2) := by decide +kernel
theorem d_Law_law_500 : decode code 500 = .ok (.iconst 2, 1) := by decide +kernel
theorem d_Law_law_501 : decode code 501 = .ok (.iadd, 1) := by decide +kernel
theorem d_Law_law_502 : decode code 502 = .ok (.iaload, 1) := by decide +kernel
theorem d_Law_law_503 : decode code 503 = .ok (.i2l, 1) := by decide +kernel
theorem d_Law_law_504 : decode code 504 = .ok (.bipush 32, 2) := by decide +kernel
theorem d_Law_law_506 : decode code 506 = .ok (.lshl, 1) := by decide +kernel
theorem d_Law_law_507 : decode code 507 = .ok (.aload_n 0, 1) := by decide +kernel
theorem d_Law_law_508 : decode code 508 = .ok (.iload 4, 2) := by decide +kernel
theorem d_Law_law_510 : decode code 510 = .ok (.iconst 3, 1) := by decide +kernel
theorem d_Law_law_511 : decode code 511 = .ok (.iadd, 1) := by decide +kernel
theorem d_Law_law_512 : decode code 512 = .ok (.iaload, 1) := by decide +kernel
theorem d_Law_law_513 : decode code 513 = .ok (.i2l, 1) := by decide +kernel
theorem d_Law_law_514 : decode code 514 = .ok (.ldc2_w 72, 3) := by decide +kernel
theorem d_Law_law_517 : decode code 517 = .ok (.land, 1) := by decide +kernel
theorem d_Law_law_518 : decode code 518 = .ok (.lor, 1) := by decide +kernel
theorem d_Law_law_519 : decode code 519 = .ok (.aload_n 0, 1) := by decide +kernel
theorem d_Law_law_520 : decode code 520 = .ok (.iload 4, 2) := by decide +kernel
theorem d_Law_law_522 : decode code 522 = .ok (.iconst 4, 1) := by decide +kernel
theorem d_Law_law_523 : decode code 523 = .ok (.iadd, 1) := by decide +kernel
theorem d_Law_law_524 : decode code 524 = .ok (.iaload, 1) := by decide +kernel
theorem d_Law_law_525 : decode code 525 = .ok (.aload_n 3, 1) := by decide +kernel
theorem d_Law_law_526 : decode code 526 = .ok (.invokestatic 112, 3) := by decide +kernel
theorem d_Law_law_529 : decode code 529 = .ok (.istore 5, 2) := by decide +kernel
theorem d_Law_law_531 : decode code 531 = .ok (.aload_n 2, 1) := by decide +kernel
theorem d_Law_law_532 : decode code 532 = .ok (.aload_n 0, 1) := by decide +kernel
theorem d_Law_law_533 : decode code 533 = .ok (.iload 4, 2) := by decide +kernel
theorem d_Law_law_535 : decode code 535 = .ok (.iconst 1, 1) := by decide +kernel
theorem d_Law_law_536 : decode code 536 = .ok (.iadd, 1) := by decide +kernel
theorem d_Law_law_537 : decode code 537 = .ok (.iaload, 1) := by decide +kernel
theorem d_Law_law_538 : decode code 538 = .ok (.aload_n 0, 1) := by decide +kernel
theorem d_Law_law_539 : decode code 539 = .ok (.iload 4, 2) := by decide +kernel
theorem d_Law_law_541 : decode code 541 = .ok (.iconst 2, 1) := by decide +kernel
theorem d_Law_law_542 : decode code 542 = .ok (.iadd, 1) := by decide +kernel
theorem d_Law_law_543 : decode code 543 = .ok (.iaload, 1) := by decide +kernel
theorem d_Law_law_544 : decode code 544 = .ok (.i2l, 1) := by decide +kernel
theorem d_Law_law_545 : decode code 545 = .ok (.bipush 32, 2) := by decide +kernel
theorem d_Law_law_547 : decode code 547 = .ok (.lshl, 1) := by decide +kernel
theorem d_Law_law_548 : decode code 548 = .ok (.aload_n 0, 1) := by decide +kernel
theorem d_Law_law_549 : decode code 549 = .ok (.iload 4, 2) := by decide +kernel
theorem d_Law_law_551 : decode code 551 = .ok (.iconst 3, 1) := by decide +kernel
theorem d_Law_law_552 : decode code 552 = .ok (.iadd, 1) := by decide +kernel
theorem d_Law_law_553 : decode code 553 = .ok (.iaload, 1) := by decide +kernel
theorem d_Law_law_554 : decode code 554 = .ok (.i2l, 1) := by decide +kernel
theorem d_Law_law_555 : decode code 555 = .ok (.ldc2_w 72, 3) := by decide +kernel
theorem d_Law_law_558 : decode code 558 = .ok (.land, 1) := by decide +kernel
theorem d_Law_law_559 : decode code 559 = .ok (.lor, 1) := by decide +kernel
theorem d_Law_law_560 : decode code 560 = .ok (.aload_n 0, 1) := by decide +kernel
theorem d_Law_law_561 : decode code 561 = .ok (.iload 4, 2) := by decide +kernel
theorem d_Law_law_563 : decode code 563 = .ok (.iconst 4, 1) := by decide +kernel
theorem d_Law_law_564 : decode code 564 = .ok (.iadd, 1) := by decide +kernel
theorem d_Law_law_565 : decode code 565 = .ok (.iaload, 1) := by decide +kernel
theorem d_Law_law_566 : decode code 566 = .ok (.invokevirtual 115, 3) := by decide +kernel
theorem d_Law_law_569 : decode code 569 = .ok (.istore 6, 2) := by decide +kernel
theorem d_Law_law_571 : decode code 571 = .ok (.aload_n 2, 1) := by decide +kernel
theorem d_Law_law_572 : decode code 572 = .ok (.invokevirtual 80, 3) := by decide +kernel
theorem d_Law_law_575 : decode code 575 = .ok (.iload 5, 2) := by decide +kernel
theorem d_Law_law_577 : decode code 577 = .ok (.if_icmp .eq 5, 3) := by decide +kernel
theorem d_Law_law_580 : decode code 580 = .ok (.iconst 0, 1) := by decide +kernel
theorem d_Law_law_581 : decode code 581 = .ok (.ireturn, 1) := by decide +kernel
theorem d_Law_law_582 : decode code 582 = .ok (.iload 5, 2) := by decide +kernel
theorem d_Law_law_584 : decode code 584 = .ok (.ifCond .ne 15, 3) := by decide +kernel
theorem d_Law_law_587 : decode code 587 = .ok (.aload_n 3, 1) := by decide +kernel
theorem d_Law_law_588 : decode code 588 = .ok (.iconst 0, 1) := by decide +kernel
theorem d_Law_law_589 : decode code 589 = .ok (.laload, 1) := by decide +kernel
theorem d_Law_law_590 : decode code 590 = .ok (.iload 6, 2) := by decide +kernel
theorem d_Law_law_592 : decode code 592 = .ok (.i2l, 1) := by decide +kernel
theorem d_Law_law_593 : decode code 593 = .ok (.lcmp, 1) := by decide +kernel
theorem d_Law_law_594 : decode code 594 = .ok (.ifCond .eq 5, 3) := by decide +kernel
theorem d_Law_law_597 : decode code 597 = .ok (.iconst 0, 1) := by decide +kernel
theorem d_Law_law_598 : decode code 598 = .ok (.ireturn, 1) := by decide +kernel
theorem d_Law_law_599 : decode code 599 = .ok (.goto 625, 3) := by decide +kernel
theorem d_Law_law_602 : decode code 602 = .ok (.aload_n 1, 1) := by decide +kernel
theorem d_Law_law_603 : decode code 603 = .ok (.aload_n 0, 1) := by decide +kernel
theorem d_Law_law_604 : decode code 604 = .ok (.iload 4, 2) := by decide +kernel
theorem d_Law_law_606 : decode code 606 = .ok (.iconst 1, 1) := by decide +kernel
theorem d_Law_law_607 : decode code 607 = .ok (.iadd, 1) := by decide +kernel
theorem d_Law_law_608 : decode code 608 = .ok (.iaload, 1) := by decide +kernel
theorem d_Law_law_609 : decode code 609 = .ok (.aload_n 0, 1) := by decide +kernel
theorem d_Law_law_610 : decode code 610 = .ok (.iload 4, 2) := by decide +kernel
theorem d_Law_law_612 : decode code 612 = .ok (.iconst 2, 1) := by decide +kernel
theorem d_Law_law_613 : decode code 613 = .ok (.iadd, 1) := by decide +kernel
theorem d_Law_law_614 : decode code 614 = .ok (.iaload, 1) := by decide +kernel
theorem d_Law_law_615 : decode code 615 = .ok (.aload_n 0, 1) := by decide +kernel
theorem d_Law_law_616 : decode code 616 = .ok (.iload 4, 2) := by decide +kernel
theorem d_Law_law_618 : decode code 618 = .ok (.iconst 3, 1) := by decide +kernel
theorem d_Law_law_619 : decode code 619 = .ok (.iadd, 1) := by decide +kernel
theorem d_Law_law_620 : decode code 620 = .ok (.iaload, 1) := by decide +kernel
theorem d_Law_law_621 : decode code 621 = .ok (.i2l, 1) := by decide +kernel
theorem d_Law_law_622 : decode code 622 = .ok (.bipush 32, 2) := by decide +kernel
theorem d_Law_law_624 : decode code 624 = .ok (.lshl, 1) := by decide +kernel
theorem d_Law_law_625 : decode code 625 = .ok (.aload_n 0, 1) := by decide +kernel
theorem d_Law_law_626 : decode code 626 = .ok (.iload 4, 2) := by decide +kernel
theorem d_Law_law_628 : decode code 628 = .ok (.iconst 4, 1) := by decide +kernel
theorem d_Law_law_629 : decode code 629 = .ok (.iadd, 1) := by decide +kernel
theorem d_Law_law_630 : decode code 630 = .ok (.iaload, 1) := by decide +kernel
theorem d_Law_law_631 : decode code 631 = .ok (.i2l, 1) := by decide +kernel
theorem d_Law_law_632 : decode code 632 = .ok (.ldc2_w 72, 3) := by decide +kernel
theorem d_Law_law_635 : decode code 635 = .ok (.land, 1) := by decide +kernel
theorem d_Law_law_636 : decode code 636 = .ok (.lor, 1) := by decide +kernel
theorem d_Law_law_637 : decode code 637 = .ok (.aload_n 3, 1) := by decide +kernel
theorem d_Law_law_638 : decode code 638 = .ok (.invokestatic 116, 3) := by decide +kernel
theorem d_Law_law_641 : decode code 641 = .ok (.istore 5, 2) := by decide +kernel
theorem d_Law_law_643 : decode code 643 = .ok (.aload_n 2, 1) := by decide +kernel
theorem d_Law_law_644 : decode code 644 = .ok (.aload_n 0, 1) := by decide +kernel
theorem d_Law_law_645 : decode code 645 = .ok (.iload 4, 2) := by decide +kernel
theorem d_Law_law_647 : decode code 647 = .ok (.iconst 1, 1) := by decide +kernel
theorem d_Law_law_648 : decode code 648 = .ok (.iadd, 1) := by decide +kernel
theorem d_Law_law_649 : decode code 649 = .ok (.iaload, 1) := by decide +kernel
theorem d_Law_law_650 : decode code 650 = .ok (.aload_n 0, 1) := by decide +kernel
theorem d_Law_law_651 : decode code 651 = .ok (.iload 4, 2) := by decide +kernel
theorem d_Law_law_653 : decode code 653 = .ok (.iconst 2, 1) := by decide +kernel
theorem d_Law_law_654 : decode code 654 = .ok (.iadd, 1) := by decide +kernel
theorem d_Law_law_655 : decode code 655 = .ok (.iaload, 1) := by decide +kernel
theorem d_Law_law_656 : decode code 656 = .ok (.aload_n 0, 1) := by decide +kernel
theorem d_Law_law_657 : decode code 657 = .ok (.iload 4, 2) := by decide +kernel
theorem d_Law_law_659 : decode code 659 = .ok (.iconst 3, 1) := by decide +kernel
theorem d_Law_law_660 : decode code 660 = .ok (.iadd, 1) := by decide +kernel
theorem d_Law_law_661 : decode code 661 = .ok (.iaload, 1) := by decide +kernel
theorem d_Law_law_662 : decode code 662 = .ok (.i2l, 1) := by decide +kernel
theorem d_Law_law_663 : decode code 663 = .ok (.bipush 32, 2) := by decide +kernel
theorem d_Law_law_665 : decode code 665 = .ok (.lshl, 1) := by decide +kernel
theorem d_Law_law_666 : decode code 666 = .ok (.aload_n 0, 1) := by decide +kernel
theorem d_Law_law_667 : decode code 667 = .ok (.iload 4, 2) := by decide +kernel
theorem d_Law_law_669 : decode code 669 = .ok (.iconst 4, 1) := by decide +kernel
theorem d_Law_law_670 : decode code 670 = .ok (.iadd, 1) := by decide +kernel
theorem d_Law_law_671 : decode code 671 = .ok (.iaload, 1) := by decide +kernel
theorem d_Law_law_672 : decode code 672 = .ok (.i2l, 1) := by decide +kernel
theorem d_Law_law_673 : decode code 673 = .ok (.ldc2_w 72, 3) := by decide +kernel
theorem d_Law_law_676 : decode code 676 = .ok (.land, 1) := by decide +kernel
theorem d_Law_law_677 : decode code 677 = .ok (.lor, 1) := by decide +kernel
theorem d_Law_law_678 : decode code 678 = .ok (.invokevirtual 119, 3) := by decide +kernel
theorem d_Law_law_681 : decode code 681 = .ok (.istore 6, 2) := by decide +kernel
theorem d_Law_law_683 : decode code 683 = .ok (.aload_n 2, 1) := by decide +kernel
theorem d_Law_law_684 : decode code 684 = .ok (.invokevirtual 80, 3) := by decide +kernel
theorem d_Law_law_687 : decode code 687 = .ok (.iload 5, 2) := by decide +kernel
theorem d_Law_law_689 : decode code 689 = .ok (.if_icmp .eq 5, 3) := by decide +kernel
theorem d_Law_law_692 : decode code 692 = .ok (.iconst 0, 1) := by decide +kernel
theorem d_Law_law_693 : decode code 693 = .ok (.ireturn, 1) := by decide +kernel
theorem d_Law_law_694 : decode code 694 = .ok (.iload 5, 2) := by decide +kernel
theorem d_Law_law_696 : decode code 696 = .ok (.ifCond .ne 15, 3) := by decide +kernel
theorem d_Law_law_699 : decode code 699 = .ok (.aload_n 3, 1) := by decide +kernel
theorem d_Law_law_700 : decode code 700 = .ok (.iconst 0, 1) := by decide +kernel
theorem d_Law_law_701 : decode code 701 = .ok (.laload, 1) := by decide +kernel
theorem d_Law_law_702 : decode code 702 = .ok (.iload 6, 2) := by decide +kernel
theorem d_Law_law_704 : decode code 704 = .ok (.i2l, 1) := by decide +kernel
theorem d_Law_law_705 : decode code 705 = .ok (.lcmp, 1) := by decide +kernel
theorem d_Law_law_706 : decode code 706 = .ok (.ifCond .eq 5, 3) := by decide +kernel
theorem d_Law_law_709 : decode code 709 = .ok (.iconst 0, 1) := by decide +kernel
theorem d_Law_law_710 : decode code 710 = .ok (.ireturn, 1) := by decide +kernel
theorem d_Law_law_711 : decode code 711 = .ok (.goto 513, 3) := by decide +kernel
theorem d_Law_law_714 : decode code 714 = .ok (.aload_n 1, 1) := by decide +kernel
theorem d_Law_law_715 : decode code 715 = .ok (.aload_n 0, 1) := by decide +kernel
theorem d_Law_law_716 : decode code 716 = .ok (.iload 4, 2) := by decide +kernel
theorem d_Law_law_718 : decode code 718 = .ok (.iconst 1, 1) := by decide +kernel
theorem d_Law_law_719 : decode code 719 = .ok (.iadd, 1) := by decide +kernel
theorem d_Law_law_720 : decode code 720 = .ok (.iaload, 1) := by decide +kernel
theorem d_Law_law_721 : decode code 721 = .ok (.aload_n 3, 1) := by decide +kernel
theorem d_Law_law_722 : decode code 722 = .ok (.invokestatic 120, 3) := by decide +kernel
theorem d_Law_law_725 : decode code 725 = .ok (.istore 5, 2) := by decide +kernel
theorem d_Law_law_727 : decode code 727 = .ok (.aload_n 2, 1) := by decide +kernel
theorem d_Law_law_728 : decode code 728 = .ok (.aload_n 0, 1) := by decide +kernel
theorem d_Law_law_729 : decode code 729 = .ok (.iload 4, 2) := by decide +kernel
theorem d_Law_law_731 : decode code 731 = .ok (.iconst 1, 1) := by decide +kernel
theorem d_Law_law_732 : decode code 732 = .ok (.iadd, 1) := by decide +kernel
theorem d_Law_law_733 : decode code 733 = .ok (.iaload, 1) := by decide +kernel
theorem d_Law_law_734 : decode code 734 = .ok (.invokevirtual 122, 3) := by decide +kernel
theorem d_Law_law_737 : decode code 737 = .ok (.istore 6, 2) := by decide +kernel
theorem d_Law_law_739 : decode code 739 = .ok (.aload_n 2, 1) := by decide +kernel
theorem d_Law_law_740 : decode code 740 = .ok (.invokevirtual 80, 3) := by decide +kernel
theorem d_Law_law_743 : decode code 743 = .ok (.iload 5, 2) := by decide +kernel
theorem d_Law_law_745 : decode code 745 = .ok (.if_icmp .eq 5, 3) := by decide +kernel
theorem d_Law_law_748 : decode code 748 = .ok (.iconst 0, 1) := by decide +kernel
theorem d_Law_law_749 : decode code 749 = .ok (.ireturn, 1) := by decide +kernel
theorem d_Law_law_750 : decode code 750 = .ok (.iload 5, 2) := by decide +kernel
theorem d_Law_law_752 : decode code 752 = .ok (.ifCond .ne 15, 3) := by decide +kernel
theorem d_Law_law_755 : decode code 755 = .ok (.aload_n 3, 1) := by decide +kernel
theorem d_Law_law_756 : decode code 756 = .ok (.iconst 0, 1) := by decide +kernel
theorem d_Law_law_757 : decode code 757 = .ok (.laload, 1) := by decide +kernel
theorem d_Law_law_758 : decode code 758 = .ok (.iload 6, 2) := by decide +kernel
theorem d_Law_law_760 : decode code 760 = .ok (.i2l, 1) := by decide +kernel
theorem d_Law_law_761 : decode code 761 = .ok (.lcmp, 1) := by decide +kernel
theorem d_Law_law_762 : decode code 762 = .ok (.ifCond .eq 5, 3) := by decide +kernel
theorem d_Law_law_765 : decode code 765 = .ok (.iconst 0, 1) := by decide +kernel
theorem d_Law_law_766 : decode code 766 = .ok (.ireturn, 1) := by decide +kernel
theorem d_Law_law_767 : decode code 767 = .ok (.goto 457, 3) := by decide +kernel
theorem d_Law_law_770 : decode code 770 = .ok (.aload_n 1, 1) := by decide +kernel
theorem d_Law_law_771 : decode code 771 = .ok (.aload_n 0, 1) := by decide +kernel
theorem d_Law_law_772 : decode code 772 = .ok (.iload 4, 2) := by decide +kernel
theorem d_Law_law_774 : decode code 774 = .ok (.iconst 1, 1) := by decide +kernel
theorem d_Law_law_775 : decode code 775 = .ok (.iadd, 1) := by decide +kernel
theorem d_Law_law_776 : decode code 776 = .ok (.iaload, 1) := by decide +kernel
theorem d_Law_law_777 : decode code 777 = .ok (.aload_n 0, 1) := by decide +kernel
theorem d_Law_law_778 : decode code 778 = .ok (.iload 4, 2) := by decide +kernel
theorem d_Law_law_780 : decode code 780 = .ok (.iconst 2, 1) := by decide +kernel
theorem d_Law_law_781 : decode code 781 = .ok (.iadd, 1) := by decide +kernel
theorem d_Law_law_782 : decode code 782 = .ok (.iaload, 1) := by decide +kernel
theorem d_Law_law_783 : decode code 783 = .ok (.aload_n 3, 1) := by decide +kernel
theorem d_Law_law_784 : decode code 784 = .ok (.invokestatic 123, 3) := by decide +kernel
theorem d_Law_law_787 : decode code 787 = .ok (.istore 5, 2) := by decide +kernel
theorem d_Law_law_789 : decode code 789 = .ok (.aload_n 2, 1) := by decide +kernel
theorem d_Law_law_790 : decode code 790 = .ok (.aload_n 0, 1) := by decide +kernel
theorem d_Law_law_791 : decode code 791 = .ok (.iload 4, 2) := by decide +kernel
theorem d_Law_law_793 : decode code 793 = .ok (.iconst 1, 1) := by decide +kernel
theorem d_Law_law_794 : decode code 794 = .ok (.iadd, 1) := by decide +kernel
theorem d_Law_law_795 : decode code 795 = .ok (.iaload, 1) := by decide +kernel
theorem d_Law_law_796 : decode code 796 = .ok (.aload_n 0, 1) := by decide +kernel
theorem d_Law_law_797 : decode code 797 = .ok (.iload 4, 2) := by decide +kernel
theorem d_Law_law_799 : decode code 799 = .ok (.iconst 2, 1) := by decide +kernel
theorem d_Law_law_800 : decode code 800 = .ok (.iadd, 1) := by decide +kernel
theorem d_Law_law_801 : decode code 801 = .ok (.iaload, 1) := by decide +kernel
theorem d_Law_law_802 : decode code 802 = .ok (.invokevirtual 126, 3) := by decide +kernel
theorem d_Law_law_805 : decode code 805 = .ok (.istore 6, 2) := by decide +kernel
theorem d_Law_law_807 : decode code 807 = .ok (.aload_n 2, 1) := by decide +kernel
theorem d_Law_law_808 : decode code 808 = .ok (.invokevirtual 80, 3) := by decide +kernel
theorem d_Law_law_811 : decode code 811 = .ok (.iload 5, 2) := by decide +kernel
theorem d_Law_law_813 : decode code 813 = .ok (.if_icmp .eq 5, 3) := by decide +kernel
theorem d_Law_law_816 : decode code 816 = .ok (.iconst 0, 1) := by decide +kernel
theorem d_Law_law_817 : decode code 817 = .ok (.ireturn, 1) := by decide +kernel
theorem d_Law_law_818 : decode code 818 = .ok (.iload 5, 2) := by decide +kernel
theorem d_Law_law_820 : decode code 820 = .ok (.ifCond .ne 15, 3) := by decide +kernel
theorem d_Law_law_823 : decode code 823 = .ok (.aload_n 3, 1) := by decide +kernel
theorem d_Law_law_824 : decode code 824 = .ok (.iconst 0, 1) := by decide +kernel
theorem d_Law_law_825 : decode code 825 = .ok (.laload, 1) := by decide +kernel
theorem d_Law_law_826 : decode code 826 = .ok (.iload 6, 2) := by decide +kernel
theorem d_Law_law_828 : decode code 828 = .ok (.i2l, 1) := by decide +kernel
theorem d_Law_law_829 : decode code 829 = .ok (.lcmp, 1) := by decide +kernel
theorem d_Law_law_830 : decode code 830 = .ok (.ifCond .eq 5, 3) := by decide +kernel
theorem d_Law_law_833 : decode code 833 = .ok (.iconst 0, 1) := by decide +kernel
theorem d_Law_law_834 : decode code 834 = .ok (.ireturn, 1) := by decide +kernel
theorem d_Law_law_835 : decode code 835 = .ok (.goto 389, 3) := by decide +kernel
theorem d_Law_law_838 : decode code 838 = .ok (.aload_n 1, 1) := by decide +kernel
theorem d_Law_law_839 : decode code 839 = .ok (.invokevirtual 127, 3) := by decide +kernel
theorem d_Law_law_842 : decode code 842 = .ok (.aload_n 2, 1) := by decide +kernel
theorem d_Law_law_843 : decode code 843 = .ok (.invokevirtual 130, 3) := by decide +kernel
theorem d_Law_law_846 : decode code 846 = .ok (.if_icmp .eq 378, 3) := by decide +kernel
theorem d_Law_law_849 : decode code 849 = .ok (.iconst 0, 1) := by decide +kernel
theorem d_Law_law_850 : decode code 850 = .ok (.ireturn, 1) := by decide +kernel
theorem d_Law_law_851 : decode code 851 = .ok (.aload_n 1, 1) := by decide +kernel
theorem d_Law_law_852 : decode code 852 = .ok (.aload_n 0, 1) := by decide +kernel
theorem d_Law_law_853 : decode code 853 = .ok (.iload 4, 2) := by decide +kernel
theorem d_Law_law_855 : decode code 855 = .ok (.iconst 1, 1) := by decide +kernel
theorem d_Law_law_856 : decode code 856 = .ok (.iadd, 1) := by decide +kernel
theorem d_Law_law_857 : decode code 857 = .ok (.iaload, 1) := by decide +kernel
theorem d_Law_law_858 : decode code 858 = .ok (.aload_n 3, 1) := by decide +kernel
theorem d_Law_law_859 : decode code 859 = .ok (.invokestatic 131, 3) := by decide +kernel
theorem d_Law_law_862 : decode code 862 = .ok (.istore 5, 2) := by decide +kernel
theorem d_Law_law_864 : decode code 864 = .ok (.aload_n 2, 1) := by decide +kernel
theorem d_Law_law_865 : decode code 865 = .ok (.aload_n 0, 1) := by decide +kernel
theorem d_Law_law_866 : decode code 866 = .ok (.iload 4, 2) := by decide +kernel
theorem d_Law_law_868 : decode code 868 = .ok (.iconst 1, 1) := by decide +kernel
theorem d_Law_law_869 : decode code 869 = .ok (.iadd, 1) := by decide +kernel
theorem d_Law_law_870 : decode code 870 = .ok (.iaload, 1) := by decide +kernel
theorem d_Law_law_871 : decode code 871 = .ok (.invokevirtual 133, 3) := by decide +kernel
theorem d_Law_law_874 : decode code 874 = .ok (.istore 6, 2) := by decide +kernel
theorem d_Law_law_876 : decode code 876 = .ok (.aload_n 2, 1) := by decide +kernel
theorem d_Law_law_877 : decode code 877 = .ok (.invokevirtual 80, 3) := by decide +kernel
theorem d_Law_law_880 : decode code 880 = .ok (.iload 5, 2) := by decide +kernel
theorem d_Law_law_882 : decode code 882 = .ok (.if_icmp .eq 5, 3) := by decide +kernel
theorem d_Law_law_885 : decode code 885 = .ok (.iconst 0, 1) := by decide +kernel
theorem d_Law_law_886 : decode code 886 = .ok (.ireturn, 1) := by decide +kernel
theorem d_Law_law_887 : decode code 887 = .ok (.iload 5, 2) := by decide +kernel
theorem d_Law_law_889 : decode code 889 = .ok (.ifCond .ne 15, 3) := by decide +kernel
theorem d_Law_law_892 : decode code 892 = .ok (.aload_n 3, 1) := by decide +kernel
theorem d_Law_law_893 : decode code 893 = .ok (.iconst 0, 1) := by decide +kernel
theorem d_Law_law_894 : decode code 894 = .ok (.laload, 1) := by decide +kernel
theorem d_Law_law_895 : decode code 895 = .ok (.iload 6, 2) := by decide +kernel
theorem d_Law_law_897 : decode code 897 = .ok (.i2l, 1) := by decide +kernel
theorem d_Law_law_898 : decode code 898 = .ok (.lcmp, 1) := by decide +kernel
theorem d_Law_law_899 : decode code 899 = .ok (.ifCond .eq 5, 3) := by decide +kernel
theorem d_Law_law_902 : decode code 902 = .ok (.iconst 0, 1) := by decide +kernel
theorem d_Law_law_903 : decode code 903 = .ok (.ireturn, 1) := by decide +kernel
theorem d_Law_law_904 : decode code 904 = .ok (.goto 320, 3) := by decide +kernel
theorem d_Law_law_907 : decode code 907 = .ok (.aload_n 1, 1) := by decide +kernel
theorem d_Law_law_908 : decode code 908 = .ok (.aload_n 0, 1) := by decide +kernel
theorem d_Law_law_909 : decode code 909 = .ok (.iload 4, 2) := by decide +kernel
theorem d_Law_law_911 : decode code 911 = .ok (.iconst 1, 1) := by decide +kernel
theorem d_Law_law_912 : decode code 912 = .ok (.iadd, 1) := by decide +kernel
theorem d_Law_law_913 : decode code 913 = .ok (.iaload, 1) := by decide +kernel
theorem d_Law_law_914 : decode code 914 = .ok (.aload_n 3, 1) := by decide +kernel
theorem d_Law_law_915 : decode code 915 = .ok (.invokestatic 134, 3) := by decide +kernel
theorem d_Law_law_918 : decode code 918 = .ok (.istore 5, 2) := by decide +kernel
theorem d_Law_law_920 : decode code 920 = .ok (.aload_n 2, 1) := by decide +kernel
theorem d_Law_law_921 : decode code 921 = .ok (.aload_n 0, 1) := by decide +kernel
theorem d_Law_law_922 : decode code 922 = .ok (.iload 4, 2) := by decide +kernel
theorem d_Law_law_924 : decode code 924 = .ok (.iconst 1, 1) := by decide +kernel
theorem d_Law_law_925 : decode code 925 = .ok (.iadd, 1) := by decide +kernel
theorem d_Law_law_926 : decode code 926 = .ok (.iaload, 1) := by decide +kernel
theorem d_Law_law_927 : decode code 927 = .ok (.invokevirtual 136, 3) := by decide +kernel
theorem d_Law_law_930 : decode code 930 = .ok (.istore 6, 2) := by decide +kernel
theorem d_Law_law_932 : decode code 932 = .ok (.aload_n 2, 1) := by decide +kernel
theorem d_Law_law_933 : decode code 933 = .ok (.invokevirtual 80, 3) := by decide +kernel
theorem d_Law_law_936 : decode code 936 = .ok (.iload 5, 2) := by decide +kernel
theorem d_Law_law_938 : decode code 938 = .ok (.if_icmp .eq 5, 3) := by decide +kernel
theorem d_Law_law_941 : decode code 941 = .ok (.iconst 0, 1) := by decide +kernel
theorem d_Law_law_942 : decode code 942 = .ok (.ireturn, 1) := by decide +kernel
theorem d_Law_law_943 : decode code 943 = .ok (.iload 5, 2) := by decide +kernel
theorem d_Law_law_945 : decode code 945 = .ok (.ifCond .ne 15, 3) := by decide +kernel
theorem d_Law_law_948 : decode code 948 = .ok (.aload_n 3, 1) := by decide +kernel
theorem d_Law_law_949 : decode code 949 = .ok (.iconst 0, 1) := by decide +kernel
theorem d_Law_law_950 : decode code 950 = .ok (.laload, 1) := by decide +kernel
theorem d_Law_law_951 : decode code 951 = .ok (.iload 6, 2) := by decide +kernel
theorem d_Law_law_953 : decode code 953 = .ok (.i2l, 1) := by decide +kernel
theorem d_Law_law_954 : decode code 954 = .ok (.lcmp, 1) := by decide +kernel
theorem d_Law_law_955 : decode code 955 = .ok (.ifCond .eq 5, 3) := by decide +kernel
theorem d_Law_law_958 : decode code 958 = .ok (.iconst 0, 1) := by decide +kernel
theorem d_Law_law_959 : decode code 959 = .ok (.ireturn, 1) := by decide +kernel
theorem d_Law_law_960 : decode code 960 = .ok (.goto 264, 3) := by decide +kernel
theorem d_Law_law_963 : decode code 963 = .ok (.aload_n 1, 1) := by decide +kernel
theorem d_Law_law_964 : decode code 964 = .ok (.aload_n 0, 1) := by decide +kernel
theorem d_Law_law_965 : decode code 965 = .ok (.iload 4, 2) := by decide +kernel
theorem d_Law_law_967 : decode code 967 = .ok (.iconst 1, 1) := by decide +kernel
theorem d_Law_law_968 : decode code 968 = .ok (.iadd, 1) := by decide +kernel
theorem d_Law_law_969 : decode code 969 = .ok (.iaload, 1) := by decide +kernel
theorem d_Law_law_970 : decode code 970 = .ok (.aload_n 0, 1) := by decide +kernel
theorem d_Law_law_971 : decode code 971 = .ok (.iload 4, 2) := by decide +kernel
theorem d_Law_law_973 : decode code 973 = .ok (.iconst 2, 1) := by decide +kernel
theorem d_Law_law_974 : decode code 974 = .ok (.iadd, 1) := by decide +kernel
theorem d_Law_law_975 : decode code 975 = .ok (.iaload, 1) := by decide +kernel
theorem d_Law_law_976 : decode code 976 = .ok (.aload_n 3, 1) := by decide +kernel
theorem d_Law_law_977 : decode code 977 = .ok (.invokestatic 137, 3) := by decide +kernel
theorem d_Law_law_980 : decode code 980 = .ok (.istore 5, 2) := by decide +kernel
theorem d_Law_law_982 : decode code 982 = .ok (.aload_n 2, 1) := by decide +kernel
theorem d_Law_law_983 : decode code 983 = .ok (.aload_n 0, 1) := by decide +kernel
theorem d_Law_law_984 : decode code 984 = .ok (.iload 4, 2) := by decide +kernel
theorem d_Law_law_986 : decode code 986 = .ok (.iconst 1, 1) := by decide +kernel
theorem d_Law_law_987 : decode code 987 = .ok (.iadd, 1) := by decide +kernel
theorem d_Law_law_988 : decode code 988 = .ok (.iaload, 1) := by decide +kernel
theorem d_Law_law_989 : decode code 989 = .ok (.aload_n 0, 1) := by decide +kernel
theorem d_Law_law_990 : decode code 990 = .ok (.iload 4, 2) := by decide +kernel
theorem d_Law_law_992 : decode code 992 = .ok (.iconst 2, 1) := by decide +kernel
theorem d_Law_law_993 : decode code 993 = .ok (.iadd, 1) := by decide +kernel
theorem d_Law_law_994 : decode code 994 = .ok (.iaload, 1) := by decide +kernel
theorem d_Law_law_995 : decode code 995 = .ok (.invokevirtual 139, 3) := by decide +kernel
theorem d_Law_law_998 : decode code 998 = .ok (.istore 6, 2) := by decide +kernel
theorem d_Law_law_1000 : decode code 1000 = .ok (.aload_n 2, 1) := by decide +kernel
theorem d_Law_law_1001 : decode code 1001 = .ok (.invokevirtual 80, 3) := by decide +kernel
theorem d_Law_law_1004 : decode code 1004 = .ok (.iload 5, 2) := by decide +kernel
theorem d_Law_law_1006 : decode code 1006 = .ok (.if_icmp .eq 5, 3) := by decide +kernel
theorem d_Law_law_1009 : decode code 1009 = .ok (.iconst 0, 1) := by decide +kernel
theorem d_Law_law_1010 : decode code 1010 = .ok (.ireturn, 1) := by decide +kernel
theorem d_Law_law_1011 : decode code 1011 = .ok (.iload 5, 2) := by decide +kernel
theorem d_Law_law_1013 : decode code 1013 = .ok (.ifCond .ne 15, 3) := by decide +kernel
theorem d_Law_law_1016 : decode code 1016 = .ok (.aload_n 3, 1) := by decide +kernel
theorem d_Law_law_1017 : decode code 1017 = .ok (.iconst 0, 1) := by decide +kernel
theorem d_Law_law_1018 : decode code 1018 = .ok (.laload, 1) := by decide +kernel
theorem d_Law_law_1019 : decode code 1019 = .ok (.iload 6, 2) := by decide +kernel
theorem d_Law_law_1021 : decode code 1021 = .ok (.i2l, 1) := by decide +kernel
theorem d_Law_law_1022 : decode code 1022 = .ok (.lcmp, 1) := by decide +kernel
theorem d_Law_law_1023 : decode code 1023 = .ok (.ifCond .eq 5, 3) := by decide +kernel
theorem d_Law_law_1026 : decode code 1026 = .ok (.iconst 0, 1) := by decide +kernel
theorem d_Law_law_1027 : decode code 1027 = .ok (.ireturn, 1) := by decide +kernel
theorem d_Law_law_1028 : decode code 1028 = .ok (.goto 196, 3) := by decide +kernel
theorem d_Law_law_1031 : decode code 1031 = .ok (.aload_n 1, 1) := by decide +kernel
theorem d_Law_law_1032 : decode code 1032 = .ok (.invokevirtual 140, 3) := by decide +kernel
theorem d_Law_law_1035 : decode code 1035 = .ok (.aload_n 2, 1) := by decide +kernel
theorem d_Law_law_1036 : decode code 1036 = .ok (.invokevirtual 143, 3) := by decide +kernel
theorem d_Law_law_1039 : decode code 1039 = .ok (.if_icmp .eq 185, 3) := by decide +kernel
theorem d_Law_law_1042 : decode code 1042 = .ok (.iconst 0, 1) := by decide +kernel
theorem d_Law_law_1043 : decode code 1043 = .ok (.ireturn, 1) := by decide +kernel
theorem d_Law_law_1044 : decode code 1044 = .ok (.aload_n 1, 1) := by decide +kernel
theorem d_Law_law_1045 : decode code 1045 = .ok (.aload_n 0, 1) := by decide +kernel
theorem d_Law_law_1046 : decode code 1046 = .ok (.iload 4, 2) := by decide +kernel
theorem d_Law_law_1048 : decode code 1048 = .ok (.iconst 1, 1) := by decide +kernel
theorem d_Law_law_1049 : decode code 1049 = .ok (.iadd, 1) := by decide +kernel
theorem d_Law_law_1050 : decode code 1050 = .ok (.iaload, 1) := by decide +kernel
theorem d_Law_law_1051 : decode code 1051 = .ok (.aload_n 0, 1) := by decide +kernel
theorem d_Law_law_1052 : decode code 1052 = .ok (.iload 4, 2) := by decide +kernel
theorem d_Law_law_1054 : decode code 1054 = .ok (.iconst 2, 1) := by decide +kernel
theorem d_Law_law_1055 : decode code 1055 = .ok (.iadd, 1) := by decide +kernel
theorem d_Law_law_1056 : decode code 1056 = .ok (.iaload, 1) := by decide +kernel
theorem d_Law_law_1057 : decode code 1057 = .ok (.aload_n 3, 1) := by decide +kernel
theorem d_Law_law_1058 : decode code 1058 = .ok (.invokestatic 144, 3) := by decide +kernel
theorem d_Law_law_1061 : decode code 1061 = .ok (.istore 5, 2) := by decide +kernel
theorem d_Law_law_1063 : decode code 1063 = .ok (.aload_n 2, 1) := by decide +kernel
theorem d_Law_law_1064 : decode code 1064 = .ok (.aload_n 0, 1) := by decide +kernel
theorem d_Law_law_1065 : decode code 1065 = .ok (.iload 4, 2) := by decide +kernel
theorem d_Law_law_1067 : decode code 1067 = .ok (.iconst 1, 1) := by decide +kernel
theorem d_Law_law_1068 : decode code 1068 = .ok (.iadd, 1) := by decide +kernel
theorem d_Law_law_1069 : decode code 1069 = .ok (.iaload, 1) := by decide +kernel
theorem d_Law_law_1070 : decode code 1070 = .ok (.aload_n 0, 1) := by decide +kernel
theorem d_Law_law_1071 : decode code 1071 = .ok (.iload 4, 2) := by decide +kernel
theorem d_Law_law_1073 : decode code 1073 = .ok (.iconst 2, 1) := by decide +kernel
theorem d_Law_law_1074 : decode code 1074 = .ok (.iadd, 1) := by decide +kernel
theorem d_Law_law_1075 : decode code 1075 = .ok (.iaload, 1) := by decide +kernel
theorem d_Law_law_1076 : decode code 1076 = .ok (.invokevirtual 146, 3) := by decide +kernel
theorem d_Law_law_1079 : decode code 1079 = .ok (.istore 6, 2) := by decide +kernel
theorem d_Law_law_1081 : decode code 1081 = .ok (.aload_n 2, 1) := by decide +kernel
theorem d_Law_law_1082 : decode code 1082 = .ok (.invokevirtual 80, 3) := by decide +kernel
theorem d_Law_law_1085 : decode code 1085 = .ok (.iload 5, 2) := by decide +kernel
theorem d_Law_law_1087 : decode code 1087 = .ok (.if_icmp .eq 5, 3) := by decide +kernel
theorem d_Law_law_1090 : decode code 1090 = .ok (.iconst 0, 1) := by decide +kernel
theorem d_Law_law_1091 : decode code 1091 = .ok (.ireturn, 1) := by decide +kernel
theorem d_Law_law_1092 : decode code 1092 = .ok (.iload 5, 2) := by decide +kernel
theorem d_Law_law_1094 : decode code 1094 = .ok (.ifCond .ne 15, 3) := by decide +kernel
theorem d_Law_law_1097 : decode code 1097 = .ok (.aload_n 3, 1) := by decide +kernel
theorem d_Law_law_1098 : decode code 1098 = .ok (.iconst 0, 1) := by decide +kernel
theorem d_Law_law_1099 : decode code 1099 = .ok (.laload, 1) := by decide +kernel
theorem d_Law_law_1100 : decode code 1100 = .ok (.iload 6, 2) := by decide +kernel
theorem d_Law_law_1102 : decode code 1102 = .ok (.i2l, 1) := by decide +kernel
theorem d_Law_law_1103 : decode code 1103 = .ok (.lcmp, 1) := by decide +kernel
theorem d_Law_law_1104 : decode code 1104 = .ok (.ifCond .eq 5, 3) := by decide +kernel
theorem d_Law_law_1107 : decode code 1107 = .ok (.iconst 0, 1) := by decide +kernel
theorem d_Law_law_1108 : decode code 1108 = .ok (.ireturn, 1) := by decide +kernel
theorem d_Law_law_1109 : decode code 1109 = .ok (.goto 115, 3) := by decide +kernel
theorem d_Law_law_1112 : decode code 1112 = .ok (.aload_n 1, 1) := by decide +kernel
theorem d_Law_law_1113 : decode code 1113 = .ok (.aload_n 0, 1) := by decide +kernel
theorem d_Law_law_1114 : decode code 1114 = .ok (.iload 4, 2) := by decide +kernel
theorem d_Law_law_1116 : decode code 1116 = .ok (.iconst 1, 1) := by decide +kernel
theorem d_Law_law_1117 : decode code 1117 = .ok (.iadd, 1) := by decide +kernel
theorem d_Law_law_1118 : decode code 1118 = .ok (.iaload, 1) := by decide +kernel
theorem d_Law_law_1119 : decode code 1119 = .ok (.aload_n 3, 1) := by decide +kernel
theorem d_Law_law_1120 : decode code 1120 = .ok (.invokestatic 147, 3) := by decide +kernel
theorem d_Law_law_1123 : decode code 1123 = .ok (.istore 5, 2) := by decide +kernel
theorem d_Law_law_1125 : decode code 1125 = .ok (.aload_n 2, 1) := by decide +kernel
theorem d_Law_law_1126 : decode code 1126 = .ok (.aload_n 0, 1) := by decide +kernel
theorem d_Law_law_1127 : decode code 1127 = .ok (.iload 4, 2) := by decide +kernel
theorem d_Law_law_1129 : decode code 1129 = .ok (.iconst 1, 1) := by decide +kernel
theorem d_Law_law_1130 : decode code 1130 = .ok (.iadd, 1) := by decide +kernel
theorem d_Law_law_1131 : decode code 1131 = .ok (.iaload, 1) := by decide +kernel
theorem d_Law_law_1132 : decode code 1132 = .ok (.invokevirtual 149, 3) := by decide +kernel
theorem d_Law_law_1135 : decode code 1135 = .ok (.istore 6, 2) := by decide +kernel
theorem d_Law_law_1137 : decode code 1137 = .ok (.aload_n 2, 1) := by decide +kernel
theorem d_Law_law_1138 : decode code 1138 = .ok (.invokevirtual 80, 3) := by decide +kernel
theorem d_Law_law_1141 : decode code 1141 = .ok (.iload 5, 2) := by decide +kernel
theorem d_Law_law_1143 : decode code 1143 = .ok (.if_icmp .eq 5, 3) := by decide +kernel
theorem d_Law_law_1146 : decode code 1146 = .ok (.iconst 0, 1) := by decide +kernel
theorem d_Law_law_1147 : decode code 1147 = .ok (.ireturn, 1) := by decide +kernel
theorem d_Law_law_1148 : decode code 1148 = .ok (.iload 5, 2) := by decide +kernel
theorem d_Law_law_1150 : decode code 1150 = .ok (.ifCond .ne 15, 3) := by decide +kernel
theorem d_Law_law_1153 : decode code 1153 = .ok (.aload_n 3, 1) := by decide +kernel
theorem d_Law_law_1154 : decode code 1154 = .ok (.iconst 0, 1) := by decide +kernel
theorem d_Law_law_1155 : decode code 1155 = .ok (.laload, 1) := by decide +kernel
theorem d_Law_law_1156 : decode code 1156 = .ok (.iload 6, 2) := by decide +kernel
theorem d_Law_law_1158 : decode code 1158 = .ok (.i2l, 1) := by decide +kernel
theorem d_Law_law_1159 : decode code 1159 = .ok (.lcmp, 1) := by decide +kernel
theorem d_Law_law_1160 : decode code 1160 = .ok (.ifCond .eq 5, 3) := by decide +kernel
theorem d_Law_law_1163 : decode code 1163 = .ok (.iconst 0, 1) := by decide +kernel
theorem d_Law_law_1164 : decode code 1164 = .ok (.ireturn, 1) := by decide +kernel
theorem d_Law_law_1165 : decode code 1165 = .ok (.goto 59, 3) := by decide +kernel
theorem d_Law_law_1168 : decode code 1168 = .ok (.aload_n 1, 1) := by decide +kernel
theorem d_Law_law_1169 : decode code 1169 = .ok (.aload_n 0, 1) := by decide +kernel
theorem d_Law_law_1170 : decode code 1170 = .ok (.iload 4, 2) := by decide +kernel
theorem d_Law_law_1172 : decode code 1172 = .ok (.iconst 1, 1) := by decide +kernel
theorem d_Law_law_1173 : decode code 1173 = .ok (.iadd, 1) := by decide +kernel
theorem d_Law_law_1174 : decode code 1174 = .ok (.iaload, 1) := by decide +kernel
theorem d_Law_law_1175 : decode code 1175 = .ok (.aload_n 3, 1) := by decide +kernel
theorem d_Law_law_1176 : decode code 1176 = .ok (.invokestatic 150, 3) := by decide +kernel
theorem d_Law_law_1179 : decode code 1179 = .ok (.istore 5, 2) := by decide +kernel
theorem d_Law_law_1181 : decode code 1181 = .ok (.aload_n 2, 1) := by decide +kernel
theorem d_Law_law_1182 : decode code 1182 = .ok (.aload_n 0, 1) := by decide +kernel
theorem d_Law_law_1183 : decode code 1183 = .ok (.iload 4, 2) := by decide +kernel
theorem d_Law_law_1185 : decode code 1185 = .ok (.iconst 1, 1) := by decide +kernel
theorem d_Law_law_1186 : decode code 1186 = .ok (.iadd, 1) := by decide +kernel
theorem d_Law_law_1187 : decode code 1187 = .ok (.iaload, 1) := by decide +kernel
theorem d_Law_law_1188 : decode code 1188 = .ok (.invokevirtual 152, 3) := by decide +kernel
theorem d_Law_law_1191 : decode code 1191 = .ok (.istore 6, 2) := by decide +kernel
theorem d_Law_law_1193 : decode code 1193 = .ok (.aload_n 2, 1) := by decide +kernel
theorem d_Law_law_1194 : decode code 1194 = .ok (.invokevirtual 80, 3) := by decide +kernel
theorem d_Law_law_1197 : decode code 1197 = .ok (.iload 5, 2) := by decide +kernel
theorem d_Law_law_1199 : decode code 1199 = .ok (.if_icmp .eq 5, 3) := by decide +kernel
theorem d_Law_law_1202 : decode code 1202 = .ok (.iconst 0, 1) := by decide +kernel
theorem d_Law_law_1203 : decode code 1203 = .ok (.ireturn, 1) := by decide +kernel
theorem d_Law_law_1204 : decode code 1204 = .ok (.iload 5, 2) := by decide +kernel
theorem d_Law_law_1206 : decode code 1206 = .ok (.ifCond .ne 15, 3) := by decide +kernel
theorem d_Law_law_1209 : decode code 1209 = .ok (.aload_n 3, 1) := by decide +kernel
theorem d_Law_law_1210 : decode code 1210 = .ok (.iconst 0, 1) := by decide +kernel
theorem d_Law_law_1211 : decode code 1211 = .ok (.laload, 1) := by decide +kernel
theorem d_Law_law_1212 : decode code 1212 = .ok (.iload 6, 2) := by decide +kernel
theorem d_Law_law_1214 : decode code 1214 = .ok (.i2l, 1) := by decide +kernel
theorem d_Law_law_1215 : decode code 1215 = .ok (.lcmp, 1) := by decide +kernel
theorem d_Law_law_1216 : decode code 1216 = .ok (.ifCond .eq 5, 3) := by decide +kernel
theorem d_Law_law_1219 : decode code 1219 = .ok (.iconst 0, 1) := by decide +kernel
theorem d_Law_law_1220 : decode code 1220 = .ok (.ireturn, 1) := by decide +kernel
theorem d_Law_law_1221 : decode code 1221 = .ok (.goto 3, 3) := by decide +kernel
theorem d_Law_law_1224 : decode code 1224 = .ok (.iinc 4 5, 3) := by decide +kernel
theorem d_Law_law_1227 : decode code 1227 = .ok (.goto (-1204), 3) := by decide +kernel
theorem d_Law_law_1230 : decode code 1230 = .ok (.iconst 1, 1) := by decide +kernel
theorem d_Law_law_1231 : decode code 1231 = .ok (.ireturn, 1) := by decide +kernel
