theorem kw_image : Cond.codeWith y_LA_image c_LA_image 5 (some .int) [(0, 17, 20, 13)] ∈ tb := tbm 303 (by decide +kernel) (by decide +kernel)
abbrev w_LA_image : List Cond := Cond.codeWith y_LA_image c_LA_image 5 (some .int) [(0, 17, 20, 13)] :: tb
theorem kw_translate : Cond.codeWith y_LA_translate c_LA_translate 4 (some .int) [(0, 9, 12, 13)] ∈ tb := tbm 376 (by decide +kernel) (by decide +kernel)
abbrev w_LA_translate : List Cond := Cond.codeWith y_LA_translate c_LA_translate 4 (some .int) [(0, 9, 12, 13)] :: tb
theorem kw_first : Cond.codeWith y_LA_first c_LA_first 4 (some .int) [(0, 9, 12, 13), (0, 9, 15, 22)] ∈ tb := tbm 483 (by decide +kernel) (by decide +kernel)
abbrev w_LA_first : List Cond := Cond.codeWith y_LA_first c_LA_first 4 (some .int) [(0, 9, 12, 13), (0, 9, 15, 22)] :: tb
theorem kw_second : Cond.codeWith y_LA_second c_LA_second 4 (some .int) [(0, 9, 12, 13), (0, 9, 15, 22)] ∈ tb := tbm 665 (by decide +kernel) (by decide +kernel)
abbrev w_LA_second : List Cond := Cond.codeWith y_LA_second c_LA_second 4 (some .int) [(0, 9, 12, 13), (0, 9, 15, 22)] :: tb
theorem kw_boundary : Cond.codeWith y_LA_boundary c_LA_boundary 3 (some .int) [(0, 8, 11, 22)] ∈ tb := tbm 675 (by decide +kernel) (by decide +kernel)
abbrev w_LA_boundary : List Cond := Cond.codeWith y_LA_boundary c_LA_boundary 3 (some .int) [(0, 8, 11, 22)] :: tb
theorem d_LA_image_0 : decode c_LA_image 0 = .ok (.aload_n 3, 1) := by decide +kernel
theorem d_LA_image_1 : decode c_LA_image 1 = .ok (.iconst 0, 1) := by decide +kernel
theorem d_LA_image_2 : decode c_LA_image 2 = .ok (.aload_n 0, 1) := by decide +kernel
theorem d_LA_image_3 : decode c_LA_image 3 = .ok (.iload_n 1, 1) := by decide +kernel
theorem d_LA_image_4 : decode c_LA_image 4 = .ok (.iload_n 2, 1) := by decide +kernel
theorem d_LA_image_5 : decode c_LA_image 5 = .ok (.invokevirtual 7, 3) := by decide +kernel
theorem d_LA_image_8 : decode c_LA_image 8 = .ok (.ifCond .eq 7, 3) := by decide +kernel
theorem d_LA_image_11 : decode c_LA_image 11 = .ok (.lconst 1, 1) := by decide +kernel
theorem d_LA_image_12 : decode c_LA_image 12 = .ok (.goto 4, 3) := by decide +kernel
theorem d_LA_image_15 : decode c_LA_image 15 = .ok (.lconst 0, 1) := by decide +kernel
theorem d_LA_image_16 : decode c_LA_image 16 = .ok (.lastore, 1) := by decide +kernel
theorem d_LA_image_17 : decode c_LA_image 17 = .ok (.goto 7, 3) := by decide +kernel
theorem d_LA_image_20 : decode c_LA_image 20 = .ok (.astore 4, 2) := by decide +kernel
theorem d_LA_image_22 : decode c_LA_image 22 = .ok (.iconst 1, 1) := by decide +kernel
theorem d_LA_image_23 : decode c_LA_image 23 = .ok (.ireturn, 1) := by decide +kernel
theorem d_LA_image_24 : decode c_LA_image 24 = .ok (.iconst 0, 1) := by decide +kernel
theorem d_LA_image_25 : decode c_LA_image 25 = .ok (.ireturn, 1) := by decide +kernel
theorem d_LA_translate_0 : decode c_LA_translate 0 = .ok (.aload_n 2, 1) := by decide +kernel
theorem d_LA_translate_1 : decode c_LA_translate 1 = .ok (.iconst 0, 1) := by decide +kernel
theorem d_LA_translate_2 : decode c_LA_translate 2 = .ok (.aload_n 0, 1) := by decide +kernel
theorem d_LA_translate_3 : decode c_LA_translate 3 = .ok (.iload_n 1, 1) := by decide +kernel
theorem d_LA_translate_4 : decode c_LA_translate 4 = .ok (.invokevirtual 15, 3) := by decide +kernel
theorem d_LA_translate_7 : decode c_LA_translate 7 = .ok (.i2l, 1) := by decide +kernel
theorem d_LA_translate_8 : decode c_LA_translate 8 = .ok (.lastore, 1) := by decide +kernel
theorem d_LA_translate_9 : decode c_LA_translate 9 = .ok (.goto 6, 3) := by decide +kernel
theorem d_LA_translate_12 : decode c_LA_translate 12 = .ok (.astore_n 3, 1) := by decide +kernel
theorem d_LA_translate_13 : decode c_LA_translate 13 = .ok (.iconst 1, 1) := by decide +kernel
theorem d_LA_translate_14 : decode c_LA_translate 14 = .ok (.ireturn, 1) := by decide +kernel
theorem d_LA_translate_15 : decode c_LA_translate 15 = .ok (.iconst 0, 1) := by decide +kernel
theorem d_LA_translate_16 : decode c_LA_translate 16 = .ok (.ireturn, 1) := by decide +kernel
theorem d_LA_first_0 : decode c_LA_first 0 = .ok (.aload_n 2, 1) := by decide +kernel
theorem d_LA_first_1 : decode c_LA_first 1 = .ok (.iconst 0, 1) := by decide +kernel
theorem d_LA_first_2 : decode c_LA_first 2 = .ok (.aload_n 0, 1) := by decide +kernel
theorem d_LA_first_3 : decode c_LA_first 3 = .ok (.iload_n 1, 1) := by decide +kernel
theorem d_LA_first_4 : decode c_LA_first 4 = .ok (.invokevirtual 19, 3) := by decide +kernel
theorem d_LA_first_7 : decode c_LA_first 7 = .ok (.i2l, 1) := by decide +kernel
theorem d_LA_first_8 : decode c_LA_first 8 = .ok (.lastore, 1) := by decide +kernel
theorem d_LA_first_9 : decode c_LA_first 9 = .ok (.goto 9, 3) := by decide +kernel
theorem d_LA_first_12 : decode c_LA_first 12 = .ok (.astore_n 3, 1) := by decide +kernel
theorem d_LA_first_13 : decode c_LA_first 13 = .ok (.iconst 1, 1) := by decide +kernel
theorem d_LA_first_14 : decode c_LA_first 14 = .ok (.ireturn, 1) := by decide +kernel
theorem d_LA_first_15 : decode c_LA_first 15 = .ok (.astore_n 3, 1) := by decide +kernel
theorem d_LA_first_16 : decode c_LA_first 16 = .ok (.iconst 2, 1) := by decide +kernel
theorem d_LA_first_17 : decode c_LA_first 17 = .ok (.ireturn, 1) := by decide +kernel
theorem d_LA_first_18 : decode c_LA_first 18 = .ok (.iconst 0, 1) := by decide +kernel
theorem d_LA_first_19 : decode c_LA_first 19 = .ok (.ireturn, 1) := by decide +kernel
theorem d_LA_second_0 : decode c_LA_second 0 = .ok (.aload_n 2, 1) := by decide +kernel
theorem d_LA_second_1 : decode c_LA_second 1 = .ok (.iconst 0, 1) := by decide +kernel
theorem d_LA_second_2 : decode c_LA_second 2 = .ok (.aload_n 0, 1) := by decide +kernel
theorem d_LA_second_3 : decode c_LA_second 3 = .ok (.iload_n 1, 1) := by decide +kernel
theorem d_LA_second_4 : decode c_LA_second 4 = .ok (.invokevirtual 24, 3) := by decide +kernel
theorem d_LA_second_7 : decode c_LA_second 7 = .ok (.i2l, 1) := by decide +kernel
theorem d_LA_second_8 : decode c_LA_second 8 = .ok (.lastore, 1) := by decide +kernel
theorem d_LA_second_9 : decode c_LA_second 9 = .ok (.goto 9, 3) := by decide +kernel
theorem d_LA_second_12 : decode c_LA_second 12 = .ok (.astore_n 3, 1) := by decide +kernel
theorem d_LA_second_13 : decode c_LA_second 13 = .ok (.iconst 1, 1) := by decide +kernel
theorem d_LA_second_14 : decode c_LA_second 14 = .ok (.ireturn, 1) := by decide +kernel
theorem d_LA_second_15 : decode c_LA_second 15 = .ok (.astore_n 3, 1) := by decide +kernel
theorem d_LA_second_16 : decode c_LA_second 16 = .ok (.iconst 2, 1) := by decide +kernel
theorem d_LA_second_17 : decode c_LA_second 17 = .ok (.ireturn, 1) := by decide +kernel
theorem d_LA_second_18 : decode c_LA_second 18 = .ok (.iconst 0, 1) := by decide +kernel
theorem d_LA_second_19 : decode c_LA_second 19 = .ok (.ireturn, 1) := by decide +kernel
theorem d_LA_boundary_0 : decode c_LA_boundary 0 = .ok (.aload_n 1, 1) := by decide +kernel
theorem d_LA_boundary_1 : decode c_LA_boundary 1 = .ok (.iconst 0, 1) := by decide +kernel
theorem d_LA_boundary_2 : decode c_LA_boundary 2 = .ok (.aload_n 0, 1) := by decide +kernel
theorem d_LA_boundary_3 : decode c_LA_boundary 3 = .ok (.invokevirtual 27, 3) := by decide +kernel
theorem d_LA_boundary_6 : decode c_LA_boundary 6 = .ok (.i2l, 1) := by decide +kernel
theorem d_LA_boundary_7 : decode c_LA_boundary 7 = .ok (.lastore, 1) := by decide +kernel
theorem d_LA_boundary_8 : decode c_LA_boundary 8 = .ok (.goto 6, 3) := by decide +kernel
theorem d_LA_boundary_11 : decode c_LA_boundary 11 = .ok (.astore_n 2, 1) := by decide +kernel
theorem d_LA_boundary_12 : decode c_LA_boundary 12 = .ok (.iconst 1, 1) := by decide +kernel
theorem d_LA_boundary_13 : decode c_LA_boundary 13 = .ok (.ireturn, 1) := by decide +kernel
theorem d_LA_boundary_14 : decode c_LA_boundary 14 = .ok (.iconst 0, 1) := by decide +kernel
theorem d_LA_boundary_15 : decode c_LA_boundary 15 = .ok (.ireturn, 1) := by decide +kernel
abbrev c_LA_law : ByteArray := code
theorem d_LA_law_0 : decode c_LA_law 0 = .ok (.new 8, 3) := by decide +kernel
theorem d_LA_law_3 : decode c_LA_law 3 = .ok (.dup, 1) := by decide +kernel
theorem d_LA_law_4 : decode c_LA_law 4 = .ok (.invokespecial 31, 3) := by decide +kernel
theorem d_LA_law_7 : decode c_LA_law 7 = .ok (.astore_n 1, 1) := by decide +kernel
theorem d_LA_law_8 : decode c_LA_law 8 = .ok (.new 32, 3) := by decide +kernel
theorem d_LA_law_11 : decode c_LA_law 11 = .ok (.dup, 1) := by decide +kernel
theorem d_LA_law_12 : decode c_LA_law 12 = .ok (.invokespecial 34, 3) := by decide +kernel
theorem d_LA_law_15 : decode c_LA_law 15 = .ok (.astore_n 2, 1) := by decide +kernel
theorem d_LA_law_16 : decode c_LA_law 16 = .ok (.iconst 1, 1) := by decide +kernel
theorem d_LA_law_17 : decode c_LA_law 17 = .ok (.newarray .long, 2) := by decide +kernel
theorem d_LA_law_19 : decode c_LA_law 19 = .ok (.astore_n 3, 1) := by decide +kernel
theorem d_LA_law_20 : decode c_LA_law 20 = .ok (.iconst 0, 1) := by decide +kernel
theorem d_LA_law_21 : decode c_LA_law 21 = .ok (.istore 4, 2) := by decide +kernel
theorem d_LA_law_23 : decode c_LA_law 23 = .ok (.iload 4, 2) := by decide +kernel
theorem d_LA_law_25 : decode c_LA_law 25 = .ok (.aload_n 0, 1) := by decide +kernel
theorem d_LA_law_26 : decode c_LA_law 26 = .ok (.arraylength, 1) := by decide +kernel
theorem d_LA_law_27 : decode c_LA_law 27 = .ok (.iconst 3, 1) := by decide +kernel
theorem d_LA_law_28 : decode c_LA_law 28 = .ok (.isub, 1) := by decide +kernel
theorem d_LA_law_29 : decode c_LA_law 29 = .ok (.if_icmp .gt 505, 3) := by decide +kernel
theorem d_LA_law_32 : decode c_LA_law 32 = .ok (.aload_n 0, 1) := by decide +kernel
theorem d_LA_law_33 : decode c_LA_law 33 = .ok (.iload 4, 2) := by decide +kernel
theorem d_LA_law_35 : decode c_LA_law 35 = .ok (.iaload, 1) := by decide +kernel
theorem d_LA_law_36 : decode c_LA_law 36 = .ok (.bipush 15, 2) := by decide +kernel
theorem d_LA_law_38 : decode c_LA_law 38 = .ok (.iand, 1) := by decide +kernel
theorem d_LA_law_39 : decode c_LA_law 39 = .ok (.tableswitch 489 0 9 #[53, 128, 184, 240, 296, 340, 353, 390, 415, 452], 53) := by decide +kernel
theorem d_LA_law_92 : decode c_LA_law 92 = .ok (.aload_n 1, 1) := by decide +kernel
theorem d_LA_law_93 : decode c_LA_law 93 = .ok (.aload_n 0, 1) := by decide +kernel
theorem d_LA_law_94 : decode c_LA_law 94 = .ok (.iload 4, 2) := by decide +kernel
theorem d_LA_law_96 : decode c_LA_law 96 = .ok (.iconst 1, 1) := by decide +kernel
theorem d_LA_law_97 : decode c_LA_law 97 = .ok (.iadd, 1) := by decide +kernel
theorem d_LA_law_98 : decode c_LA_law 98 = .ok (.iaload, 1) := by decide +kernel
theorem d_LA_law_99 : decode c_LA_law 99 = .ok (.aload_n 0, 1) := by decide +kernel
theorem d_LA_law_100 : decode c_LA_law 100 = .ok (.iload 4, 2) := by decide +kernel
theorem d_LA_law_102 : decode c_LA_law 102 = .ok (.iconst 2, 1) := by decide +kernel
theorem d_LA_law_103 : decode c_LA_law 103 = .ok (.iadd, 1) := by decide +kernel
theorem d_LA_law_104 : decode c_LA_law 104 = .ok (.iaload, 1) := by decide +kernel
theorem d_LA_law_105 : decode c_LA_law 105 = .ok (.aload_n 3, 1) := by decide +kernel
theorem d_LA_law_106 : decode c_LA_law 106 = .ok (.invokestatic 35, 3) := by decide +kernel
theorem d_LA_law_109 : decode c_LA_law 109 = .ok (.istore 5, 2) := by decide +kernel
theorem d_LA_law_111 : decode c_LA_law 111 = .ok (.aload_n 2, 1) := by decide +kernel
theorem d_LA_law_112 : decode c_LA_law 112 = .ok (.aload_n 0, 1) := by decide +kernel
theorem d_LA_law_113 : decode c_LA_law 113 = .ok (.iload 4, 2) := by decide +kernel
theorem d_LA_law_115 : decode c_LA_law 115 = .ok (.iconst 1, 1) := by decide +kernel
theorem d_LA_law_116 : decode c_LA_law 116 = .ok (.iadd, 1) := by decide +kernel
theorem d_LA_law_117 : decode c_LA_law 117 = .ok (.iaload, 1) := by decide +kernel
theorem d_LA_law_118 : decode c_LA_law 118 = .ok (.aload_n 0, 1) := by decide +kernel
theorem d_LA_law_119 : decode c_LA_law 119 = .ok (.iload 4, 2) := by decide +kernel
theorem d_LA_law_121 : decode c_LA_law 121 = .ok (.iconst 2, 1) := by decide +kernel
theorem d_LA_law_122 : decode c_LA_law 122 = .ok (.iadd, 1) := by decide +kernel
theorem d_LA_law_123 : decode c_LA_law 123 = .ok (.iaload, 1) := by decide +kernel
theorem d_LA_law_124 : decode c_LA_law 124 = .ok (.invokevirtual 40, 3) := by decide +kernel
theorem d_LA_law_127 : decode c_LA_law 127 = .ok (.istore 6, 2) := by decide +kernel
theorem d_LA_law_129 : decode c_LA_law 129 = .ok (.aload_n 2, 1) := by decide +kernel
theorem d_LA_law_130 : decode c_LA_law 130 = .ok (.invokevirtual 41, 3) := by decide +kernel
theorem d_LA_law_133 : decode c_LA_law 133 = .ok (.iload 5, 2) := by decide +kernel
theorem d_LA_law_135 : decode c_LA_law 135 = .ok (.if_icmp .eq 5, 3) := by decide +kernel
theorem d_LA_law_138 : decode c_LA_law 138 = .ok (.iconst 0, 1) := by decide +kernel
theorem d_LA_law_139 : decode c_LA_law 139 = .ok (.ireturn, 1) := by decide +kernel
theorem d_LA_law_140 : decode c_LA_law 140 = .ok (.iload 5, 2) := by decide +kernel
theorem d_LA_law_142 : decode c_LA_law 142 = .ok (.ifCond .ne 22, 3) := by decide +kernel
theorem d_LA_law_145 : decode c_LA_law 145 = .ok (.aload_n 3, 1) := by decide +kernel
theorem d_LA_law_146 : decode c_LA_law 146 = .ok (.iconst 0, 1) := by decide +kernel
theorem d_LA_law_147 : decode c_LA_law 147 = .ok (.laload, 1) := by decide +kernel
theorem d_LA_law_148 : decode c_LA_law 148 = .ok (.iload 6, 2) := by decide +kernel
theorem d_LA_law_150 : decode c_LA_law 150 = .ok (.ifCond .eq 7, 3) := by decide +kernel
theorem d_LA_law_153 : decode c_LA_law 153 = .ok (.lconst 1, 1) := by decide +kernel
theorem d_LA_law_154 : decode c_LA_law 154 = .ok (.goto 4, 3) := by decide +kernel
theorem d_LA_law_157 : decode c_LA_law 157 = .ok (.lconst 0, 1) := by decide +kernel
theorem d_LA_law_158 : decode c_LA_law 158 = .ok (.lcmp, 1) := by decide +kernel
theorem d_LA_law_159 : decode c_LA_law 159 = .ok (.ifCond .eq 5, 3) := by decide +kernel
theorem d_LA_law_162 : decode c_LA_law 162 = .ok (.iconst 0, 1) := by decide +kernel
theorem d_LA_law_163 : decode c_LA_law 163 = .ok (.ireturn, 1) := by decide +kernel
theorem d_LA_law_164 : decode c_LA_law 164 = .ok (.goto 364, 3) := by decide +kernel
theorem d_LA_law_167 : decode c_LA_law 167 = .ok (.aload_n 1, 1) := by decide +kernel
theorem d_LA_law_168 : decode c_LA_law 168 = .ok (.aload_n 0, 1) := by decide +kernel
theorem d_LA_law_169 : decode c_LA_law 169 = .ok (.iload 4, 2) := by decide +kernel
theorem d_LA_law_171 : decode c_LA_law 171 = .ok (.iconst 1, 1) := by decide +kernel
theorem d_LA_law_172 : decode c_LA_law 172 = .ok (.iadd, 1) := by decide +kernel
theorem d_LA_law_173 : decode c_LA_law 173 = .ok (.iaload, 1) := by decide +kernel
theorem d_LA_law_174 : decode c_LA_law 174 = .ok (.aload_n 3, 1) := by decide +kernel
theorem d_LA_law_175 : decode c_LA_law 175 = .ok (.invokestatic 44, 3) := by decide +kernel
theorem d_LA_law_178 : decode c_LA_law 178 = .ok (.istore 5, 2) := by decide +kernel
theorem d_LA_law_180 : decode c_LA_law 180 = .ok (.aload_n 2, 1) := by decide +kernel
theorem d_LA_law_181 : decode c_LA_law 181 = .ok (.aload_n 0, 1) := by decide +kernel
theorem d_LA_law_182 : decode c_LA_law 182 = .ok (.iload 4, 2) := by decide +kernel
theorem d_LA_law_184 : decode c_LA_law 184 = .ok (.iconst 1, 1) := by decide +kernel
theorem d_LA_law_185 : decode c_LA_law 185 = .ok (.iadd, 1) := by decide +kernel
theorem d_LA_law_186 : decode c_LA_law 186 = .ok (.iaload, 1) := by decide +kernel
theorem d_LA_law_187 : decode c_LA_law 187 = .ok (.invokevirtual 47, 3) := by decide +kernel
theorem d_LA_law_190 : decode c_LA_law 190 = .ok (.istore 6, 2) := by decide +kernel
theorem d_LA_law_192 : decode c_LA_law 192 = .ok (.aload_n 2, 1) := by decide +kernel
theorem d_LA_law_193 : decode c_LA_law 193 = .ok (.invokevirtual 41, 3) := by decide +kernel
theorem d_LA_law_196 : decode c_LA_law 196 = .ok (.iload 5, 2) := by decide +kernel
theorem d_LA_law_198 : decode c_LA_law 198 = .ok (.if_icmp .eq 5, 3) := by decide +kernel
theorem d_LA_law_201 : decode c_LA_law 201 = .ok (.iconst 0, 1) := by decide +kernel
theorem d_LA_law_202 : decode c_LA_law 202 = .ok (.ireturn, 1) := by decide +kernel
theorem d_LA_law_203 : decode c_LA_law 203 = .ok (.iload 5, 2) := by decide +kernel
theorem d_LA_law_205 : decode c_LA_law 205 = .ok (.ifCond .ne 15, 3) := by decide +kernel
theorem d_LA_law_208 : decode c_LA_law 208 = .ok (.aload_n 3, 1) := by decide +kernel
theorem d_LA_law_209 : decode c_LA_law 209 = .ok (.iconst 0, 1) := by decide +kernel
theorem d_LA_law_210 : decode c_LA_law 210 = .ok (.laload, 1) := by decide +kernel
theorem d_LA_law_211 : decode c_LA_law 211 = .ok (.iload 6, 2) := by decide +kernel
theorem d_LA_law_213 : decode c_LA_law 213 = .ok (.i2l, 1) := by decide +kernel
theorem d_LA_law_214 : decode c_LA_law 214 = .ok (.lcmp, 1) := by decide +kernel
theorem d_LA_law_215 : decode c_LA_law 215 = .ok (.ifCond .eq 5, 3) := by decide +kernel
theorem d_LA_law_218 : decode c_LA_law 218 = .ok (.iconst 0, 1) := by decide +kernel
theorem d_LA_law_219 : decode c_LA_law 219 = .ok (.ireturn, 1) := by decide +kernel
theorem d_LA_law_220 : decode c_LA_law 220 = .ok (.goto 308, 3) := by decide +kernel
theorem d_LA_law_223 : decode c_LA_law 223 = .ok (.aload_n 1, 1) := by decide +kernel
theorem d_LA_law_224 : decode c_LA_law 224 = .ok (.aload_n 0, 1) := by decide +kernel
theorem d_LA_law_225 : decode c_LA_law 225 = .ok (.iload 4, 2) := by decide +kernel
theorem d_LA_law_227 : decode c_LA_law 227 = .ok (.iconst 1, 1) := by decide +kernel
theorem d_LA_law_228 : decode c_LA_law 228 = .ok (.iadd, 1) := by decide +kernel
theorem d_LA_law_229 : decode c_LA_law 229 = .ok (.iaload, 1) := by decide +kernel
theorem d_LA_law_230 : decode c_LA_law 230 = .ok (.aload_n 3, 1) := by decide +kernel
theorem d_LA_law_231 : decode c_LA_law 231 = .ok (.invokestatic 48, 3) := by decide +kernel
theorem d_LA_law_234 : decode c_LA_law 234 = .ok (.istore 5, 2) := by decide +kernel
theorem d_LA_law_236 : decode c_LA_law 236 = .ok (.aload_n 2, 1) := by decide +kernel
theorem d_LA_law_237 : decode c_LA_law 237 = .ok (.aload_n 0, 1) := by decide +kernel
theorem d_LA_law_238 : decode c_LA_law 238 = .ok (.iload 4, 2) := by decide +kernel
theorem d_LA_law_240 : decode c_LA_law 240 = .ok (.iconst 1, 1) := by decide +kernel
theorem d_LA_law_241 : decode c_LA_law 241 = .ok (.iadd, 1) := by decide +kernel
theorem d_LA_law_242 : decode c_LA_law 242 = .ok (.iaload, 1) := by decide +kernel
theorem d_LA_law_243 : decode c_LA_law 243 = .ok (.invokevirtual 50, 3) := by decide +kernel
theorem d_LA_law_246 : decode c_LA_law 246 = .ok (.istore 6, 2) := by decide +kernel
theorem d_LA_law_248 : decode c_LA_law 248 = .ok (.aload_n 2, 1) := by decide +kernel
theorem d_LA_law_249 : decode c_LA_law 249 = .ok (.invokevirtual 41, 3) := by decide +kernel
theorem d_LA_law_252 : decode c_LA_law 252 = .ok (.iload 5, 2) := by decide +kernel
theorem d_LA_law_254 : decode c_LA_law 254 = .ok (.if_icmp .eq 5, 3) := by decide +kernel
theorem d_LA_law_257 : decode c_LA_law 257 = .ok (.iconst 0, 1) := by decide +kernel
theorem d_LA_law_258 : decode c_LA_law 258 = .ok (.ireturn, 1) := by decide +kernel
theorem d_LA_law_259 : decode c_LA_law 259 = .ok (.iload 5, 2) := by decide +kernel
theorem d_LA_law_261 : decode c_LA_law 261 = .ok (.ifCond .ne 15, 3) := by decide +kernel
theorem d_LA_law_264 : decode c_LA_law 264 = .ok (.aload_n 3, 1) := by decide +kernel
theorem d_LA_law_265 : decode c_LA_law 265 = .ok (.iconst 0, 1) := by decide +kernel
theorem d_LA_law_266 : decode c_LA_law 266 = .ok (.laload, 1) := by decide +kernel
theorem d_LA_law_267 : decode c_LA_law 267 = .ok (.iload 6, 2) := by decide +kernel
theorem d_LA_law_269 : decode c_LA_law 269 = .ok (.i2l, 1) := by decide +kernel
theorem d_LA_law_270 : decode c_LA_law 270 = .ok (.lcmp, 1) := by decide +kernel
theorem d_LA_law_271 : decode c_LA_law 271 = .ok (.ifCond .eq 5, 3) := by decide +kernel
theorem d_LA_law_274 : decode c_LA_law 274 = .ok (.iconst 0, 1) := by decide +kernel
theorem d_LA_law_275 : decode c_LA_law 275 = .ok (.ireturn, 1) := by decide +kernel
theorem d_LA_law_276 : decode c_LA_law 276 = .ok (.goto 252, 3) := by decide +kernel
theorem d_LA_law_279 : decode c_LA_law 279 = .ok (.aload_n 1, 1) := by decide +kernel
theorem d_LA_law_280 : decode c_LA_law 280 = .ok (.aload_n 0, 1) := by decide +kernel
theorem d_LA_law_281 : decode c_LA_law 281 = .ok (.iload 4, 2) := by decide +kernel
theorem d_LA_law_283 : decode c_LA_law 283 = .ok (.iconst 1, 1) := by decide +kernel
theorem d_LA_law_284 : decode c_LA_law 284 = .ok (.iadd, 1) := by decide +kernel
theorem d_LA_law_285 : decode c_LA_law 285 = .ok (.iaload, 1) := by decide +kernel
theorem d_LA_law_286 : decode c_LA_law 286 = .ok (.aload_n 3, 1) := by decide +kernel
theorem d_LA_law_287 : decode c_LA_law 287 = .ok (.invokestatic 51, 3) := by decide +kernel
theorem d_LA_law_290 : decode c_LA_law 290 = .ok (.istore 5, 2) := by decide +kernel
theorem d_LA_law_292 : decode c_LA_law 292 = .ok (.aload_n 2, 1) := by decide +kernel
theorem d_LA_law_293 : decode c_LA_law 293 = .ok (.aload_n 0, 1) := by decide +kernel
theorem d_LA_law_294 : decode c_LA_law 294 = .ok (.iload 4, 2) := by decide +kernel
theorem d_LA_law_296 : decode c_LA_law 296 = .ok (.iconst 1, 1) := by decide +kernel
theorem d_LA_law_297 : decode c_LA_law 297 = .ok (.iadd, 1) := by decide +kernel
theorem d_LA_law_298 : decode c_LA_law 298 = .ok (.iaload, 1) := by decide +kernel
theorem d_LA_law_299 : decode c_LA_law 299 = .ok (.invokevirtual 53, 3) := by decide +kernel
theorem d_LA_law_302 : decode c_LA_law 302 = .ok (.istore 6, 2) := by decide +kernel
theorem d_LA_law_304 : decode c_LA_law 304 = .ok (.aload_n 2, 1) := by decide +kernel
theorem d_LA_law_305 : decode c_LA_law 305 = .ok (.invokevirtual 41, 3) := by decide +kernel
theorem d_LA_law_308 : decode c_LA_law 308 = .ok (.iload 5, 2) := by decide +kernel
theorem d_LA_law_310 : decode c_LA_law 310 = .ok (.if_icmp .eq 5, 3) := by decide +kernel
theorem d_LA_law_313 : decode c_LA_law 313 = .ok (.iconst 0, 1) := by decide +kernel
theorem d_LA_law_314 : decode c_LA_law 314 = .ok (.ireturn, 1) := by decide +kernel
theorem d_LA_law_315 : decode c_LA_law 315 = .ok (.iload 5, 2) := by decide +kernel
theorem d_LA_law_317 : decode c_LA_law 317 = .ok (.ifCond .ne 15, 3) := by decide +kernel
theorem d_LA_law_320 : decode c_LA_law 320 = .ok (.aload_n 3, 1) := by decide +kernel
theorem d_LA_law_321 : decode c_LA_law 321 = .ok (.iconst 0, 1) := by decide +kernel
theorem d_LA_law_322 : decode c_LA_law 322 = .ok (.laload, 1) := by decide +kernel
theorem d_LA_law_323 : decode c_LA_law 323 = .ok (.iload 6, 2) := by decide +kernel
theorem d_LA_law_325 : decode c_LA_law 325 = .ok (.i2l, 1) := by decide +kernel
theorem d_LA_law_326 : decode c_LA_law 326 = .ok (.lcmp, 1) := by decide +kernel
theorem d_LA_law_327 : decode c_LA_law 327 = .ok (.ifCond .eq 5, 3) := by decide +kernel
theorem d_LA_law_330 : decode c_LA_law 330 = .ok (.iconst 0, 1) := by decide +kernel
theorem d_LA_law_331 : decode c_LA_law 331 = .ok (.ireturn, 1) := by decide +kernel
theorem d_LA_law_332 : decode c_LA_law 332 = .ok (.goto 196, 3) := by decide +kernel
theorem d_LA_law_335 : decode c_LA_law 335 = .ok (.aload_n 1, 1) := by decide +kernel
theorem d_LA_law_336 : decode c_LA_law 336 = .ok (.aload_n 3, 1) := by decide +kernel
theorem d_LA_law_337 : decode c_LA_law 337 = .ok (.invokestatic 54, 3) := by decide +kernel
theorem d_LA_law_340 : decode c_LA_law 340 = .ok (.istore 5, 2) := by decide +kernel
theorem d_LA_law_342 : decode c_LA_law 342 = .ok (.aload_n 2, 1) := by decide +kernel
theorem d_LA_law_343 : decode c_LA_law 343 = .ok (.invokevirtual 57, 3) := by decide +kernel
theorem d_LA_law_346 : decode c_LA_law 346 = .ok (.istore 6, 2) := by decide +kernel
theorem d_LA_law_348 : decode c_LA_law 348 = .ok (.aload_n 2, 1) := by decide +kernel
theorem d_LA_law_349 : decode c_LA_law 349 = .ok (.invokevirtual 41, 3) := by decide +kernel
theorem d_LA_law_352 : decode c_LA_law 352 = .ok (.iload 5, 2) := by decide +kernel
theorem d_LA_law_354 : decode c_LA_law 354 = .ok (.if_icmp .eq 5, 3) := by decide +kernel
theorem d_LA_law_357 : decode c_LA_law 357 = .ok (.iconst 0, 1) := by decide +kernel
theorem d_LA_law_358 : decode c_LA_law 358 = .ok (.ireturn, 1) := by decide +kernel
theorem d_LA_law_359 : decode c_LA_law 359 = .ok (.iload 5, 2) := by decide +kernel
theorem d_LA_law_361 : decode c_LA_law 361 = .ok (.ifCond .ne 15, 3) := by decide +kernel
theorem d_LA_law_364 : decode c_LA_law 364 = .ok (.aload_n 3, 1) := by decide +kernel
theorem d_LA_law_365 : decode c_LA_law 365 = .ok (.iconst 0, 1) := by decide +kernel
theorem d_LA_law_366 : decode c_LA_law 366 = .ok (.laload, 1) := by decide +kernel
theorem d_LA_law_367 : decode c_LA_law 367 = .ok (.iload 6, 2) := by decide +kernel
theorem d_LA_law_369 : decode c_LA_law 369 = .ok (.i2l, 1) := by decide +kernel
theorem d_LA_law_370 : decode c_LA_law 370 = .ok (.lcmp, 1) := by decide +kernel
theorem d_LA_law_371 : decode c_LA_law 371 = .ok (.ifCond .eq 5, 3) := by decide +kernel
theorem d_LA_law_374 : decode c_LA_law 374 = .ok (.iconst 0, 1) := by decide +kernel
theorem d_LA_law_375 : decode c_LA_law 375 = .ok (.ireturn, 1) := by decide +kernel
theorem d_LA_law_376 : decode c_LA_law 376 = .ok (.goto 152, 3) := by decide +kernel
theorem d_LA_law_379 : decode c_LA_law 379 = .ok (.aload_n 1, 1) := by decide +kernel
theorem d_LA_law_380 : decode c_LA_law 380 = .ok (.invokevirtual 58, 3) := by decide +kernel
theorem d_LA_law_383 : decode c_LA_law 383 = .ok (.aload_n 2, 1) := by decide +kernel
theorem d_LA_law_384 : decode c_LA_law 384 = .ok (.invokevirtual 62, 3) := by decide +kernel
theorem d_LA_law_387 : decode c_LA_law 387 = .ok (.if_icmp .eq 141, 3) := by decide +kernel
theorem d_LA_law_390 : decode c_LA_law 390 = .ok (.iconst 0, 1) := by decide +kernel
theorem d_LA_law_391 : decode c_LA_law 391 = .ok (.ireturn, 1) := by decide +kernel
theorem d_LA_law_392 : decode c_LA_law 392 = .ok (.aload_n 1, 1) := by decide +kernel
theorem d_LA_law_393 : decode c_LA_law 393 = .ok (.aload_n 0, 1) := by decide +kernel
theorem d_LA_law_394 : decode c_LA_law 394 = .ok (.iload 4, 2) := by decide +kernel
theorem d_LA_law_396 : decode c_LA_law 396 = .ok (.iconst 1, 1) := by decide +kernel
theorem d_LA_law_397 : decode c_LA_law 397 = .ok (.iadd, 1) := by decide +kernel
theorem d_LA_law_398 : decode c_LA_law 398 = .ok (.iaload, 1) := by decide +kernel
theorem d_LA_law_399 : decode c_LA_law 399 = .ok (.aload_n 0, 1) := by decide +kernel
theorem d_LA_law_400 : decode c_LA_law 400 = .ok (.iload 4, 2) := by decide +kernel
theorem d_LA_law_402 : decode c_LA_law 402 = .ok (.iconst 2, 1) := by decide +kernel
theorem d_LA_law_403 : decode c_LA_law 403 = .ok (.iadd, 1) := by decide +kernel
theorem d_LA_law_404 : decode c_LA_law 404 = .ok (.iaload, 1) := by decide +kernel
theorem d_LA_law_405 : decode c_LA_law 405 = .ok (.invokevirtual 63, 3) := by decide +kernel
theorem d_LA_law_408 : decode c_LA_law 408 = .ok (.aload_n 2, 1) := by decide +kernel
theorem d_LA_law_409 : decode c_LA_law 409 = .ok (.aload_n 0, 1) := by decide +kernel
theorem d_LA_law_410 : decode c_LA_law 410 = .ok (.iload 4, 2) := by decide +kernel
theorem d_LA_law_412 : decode c_LA_law 412 = .ok (.iconst 1, 1) := by decide +kernel
theorem d_LA_law_413 : decode c_LA_law 413 = .ok (.iadd, 1) := by decide +kernel
theorem d_LA_law_414 : decode c_LA_law 414 = .ok (.iaload, 1) := by decide +kernel
theorem d_LA_law_415 : decode c_LA_law 415 = .ok (.aload_n 0, 1) := by decide +kernel
theorem d_LA_law_416 : decode c_LA_law 416 = .ok (.iload 4, 2) := by decide +kernel
theorem d_LA_law_418 : decode c_LA_law 418 = .ok (.iconst 2, 1) := by decide +kernel
theorem d_LA_law_419 : decode c_LA_law 419 = .ok (.iadd, 1) := by decide +kernel
theorem d_LA_law_420 : decode c_LA_law 420 = .ok (.iaload, 1) := by decide +kernel
theorem d_LA_law_421 : decode c_LA_law 421 = .ok (.invokevirtual 67, 3) := by decide +kernel
theorem d_LA_law_424 : decode c_LA_law 424 = .ok (.if_icmp .eq 104, 3) := by decide +kernel
theorem d_LA_law_427 : decode c_LA_law 427 = .ok (.iconst 0, 1) := by decide +kernel
theorem d_LA_law_428 : decode c_LA_law 428 = .ok (.ireturn, 1) := by decide +kernel
theorem d_LA_law_429 : decode c_LA_law 429 = .ok (.aload_n 1, 1) := by decide +kernel
theorem d_LA_law_430 : decode c_LA_law 430 = .ok (.aload_n 0, 1) := by decide +kernel
theorem d_LA_law_431 : decode c_LA_law 431 = .ok (.iload 4, 2) := by decide +kernel
theorem d_LA_law_433 : decode c_LA_law 433 = .ok (.iconst 1, 1) := by decide +kernel
theorem d_LA_law_434 : decode c_LA_law 434 = .ok (.iadd, 1) := by decide +kernel
theorem d_LA_law_435 : decode c_LA_law 435 = .ok (.iaload, 1) := by decide +kernel
theorem d_LA_law_436 : decode c_LA_law 436 = .ok (.invokevirtual 68, 3) := by decide +kernel
theorem d_LA_law_439 : decode c_LA_law 439 = .ok (.aload_n 2, 1) := by decide +kernel
theorem d_LA_law_440 : decode c_LA_law 440 = .ok (.aload_n 0, 1) := by decide +kernel
theorem d_LA_law_441 : decode c_LA_law 441 = .ok (.iload 4, 2) := by decide +kernel
theorem d_LA_law_443 : decode c_LA_law 443 = .ok (.iconst 1, 1) := by decide +kernel
theorem d_LA_law_444 : decode c_LA_law 444 = .ok (.iadd, 1) := by decide +kernel
theorem d_LA_law_445 : decode c_LA_law 445 = .ok (.iaload, 1) := by decide +kernel
theorem d_LA_law_446 : decode c_LA_law 446 = .ok (.invokevirtual 71, 3) := by decide +kernel
theorem d_LA_law_449 : decode c_LA_law 449 = .ok (.if_icmp .eq 79, 3) := by decide +kernel
theorem d_LA_law_452 : decode c_LA_law 452 = .ok (.iconst 0, 1) := by decide +kernel
theorem d_LA_law_453 : decode c_LA_law 453 = .ok (.ireturn, 1) := by decide +kernel
theorem d_LA_law_454 : decode c_LA_law 454 = .ok (.aload_n 1, 1) := by decide +kernel
theorem d_LA_law_455 : decode c_LA_law 455 = .ok (.aload_n 0, 1) := by decide +kernel
theorem d_LA_law_456 : decode c_LA_law 456 = .ok (.iload 4, 2) := by decide +kernel
theorem d_LA_law_458 : decode c_LA_law 458 = .ok (.iconst 1, 1) := by decide +kernel
theorem d_LA_law_459 : decode c_LA_law 459 = .ok (.iadd, 1) := by decide +kernel
theorem d_LA_law_460 : decode c_LA_law 460 = .ok (.iaload, 1) := by decide +kernel
theorem d_LA_law_461 : decode c_LA_law 461 = .ok (.aload_n 0, 1) := by decide +kernel
theorem d_LA_law_462 : decode c_LA_law 462 = .ok (.iload 4, 2) := by decide +kernel
theorem d_LA_law_464 : decode c_LA_law 464 = .ok (.iconst 2, 1) := by decide +kernel
theorem d_LA_law_465 : decode c_LA_law 465 = .ok (.iadd, 1) := by decide +kernel
theorem d_LA_law_466 : decode c_LA_law 466 = .ok (.iaload, 1) := by decide +kernel
theorem d_LA_law_467 : decode c_LA_law 467 = .ok (.invokevirtual 72, 3) := by decide +kernel
theorem d_LA_law_470 : decode c_LA_law 470 = .ok (.aload_n 2, 1) := by decide +kernel
theorem d_LA_law_471 : decode c_LA_law 471 = .ok (.aload_n 0, 1) := by decide +kernel
theorem d_LA_law_472 : decode c_LA_law 472 = .ok (.iload 4, 2) := by decide +kernel
theorem d_LA_law_474 : decode c_LA_law 474 = .ok (.iconst 1, 1) := by decide +kernel
theorem d_LA_law_475 : decode c_LA_law 475 = .ok (.iadd, 1) := by decide +kernel
theorem d_LA_law_476 : decode c_LA_law 476 = .ok (.iaload, 1) := by decide +kernel
theorem d_LA_law_477 : decode c_LA_law 477 = .ok (.aload_n 0, 1) := by decide +kernel
theorem d_LA_law_478 : decode c_LA_law 478 = .ok (.iload 4, 2) := by decide +kernel
theorem d_LA_law_480 : decode c_LA_law 480 = .ok (.iconst 2, 1) := by decide +kernel
theorem d_LA_law_481 : decode c_LA_law 481 = .ok (.iadd, 1) := by decide +kernel
theorem d_LA_law_482 : decode c_LA_law 482 = .ok (.iaload, 1) := by decide +kernel
theorem d_LA_law_483 : decode c_LA_law 483 = .ok (.invokevirtual 75, 3) := by decide +kernel
theorem d_LA_law_486 : decode c_LA_law 486 = .ok (.if_icmp .eq 42, 3) := by decide +kernel
theorem d_LA_law_489 : decode c_LA_law 489 = .ok (.iconst 0, 1) := by decide +kernel
theorem d_LA_law_490 : decode c_LA_law 490 = .ok (.ireturn, 1) := by decide +kernel
theorem d_LA_law_491 : decode c_LA_law 491 = .ok (.aload_n 1, 1) := by decide +kernel
theorem d_LA_law_492 : decode c_LA_law 492 = .ok (.aload_n 0, 1) := by decide +kernel
theorem d_LA_law_493 : decode c_LA_law 493 = .ok (.iload 4, 2) := by decide +kernel
theorem d_LA_law_495 : decode c_LA_law 495 = .ok (.iconst 1, 1) := by decide +kernel
theorem d_LA_law_496 : decode c_LA_law 496 = .ok (.iadd, 1) := by decide +kernel
theorem d_LA_law_497 : decode c_LA_law 497 = .ok (.iaload, 1) := by decide +kernel
theorem d_LA_law_498 : decode c_LA_law 498 = .ok (.aload_n 0, 1) := by decide +kernel
theorem d_LA_law_499 : decode c_LA_law 499 = .ok (.iload 4, 2) := by decide +kernel
theorem d_LA_law_501 : decode c_LA_law 501 = .ok (.iconst 2, 1) := by decide +kernel
theorem d_LA_law_502 : decode c_LA_law 502 = .ok (.iadd, 1) := by decide +kernel
theorem d_LA_law_503 : decode c_LA_law 503 = .ok (.iaload, 1) := by decide +kernel
theorem d_LA_law_504 : decode c_LA_law 504 = .ok (.invokevirtual 76, 3) := by decide +kernel
theorem d_LA_law_507 : decode c_LA_law 507 = .ok (.aload_n 2, 1) := by decide +kernel
theorem d_LA_law_508 : decode c_LA_law 508 = .ok (.aload_n 0, 1) := by decide +kernel
theorem d_LA_law_509 : decode c_LA_law 509 = .ok (.iload 4, 2) := by decide +kernel
theorem d_LA_law_511 : decode c_LA_law 511 = .ok (.iconst 1, 1) := by decide +kernel
theorem d_LA_law_512 : decode c_LA_law 512 = .ok (.iadd, 1) := by decide +kernel
theorem d_LA_law_513 : decode c_LA_law 513 = .ok (.iaload, 1) := by decide +kernel
theorem d_LA_law_514 : decode c_LA_law 514 = .ok (.aload_n 0, 1) := by decide +kernel
theorem d_LA_law_515 : decode c_LA_law 515 = .ok (.iload 4, 2) := by decide +kernel
theorem d_LA_law_517 : decode c_LA_law 517 = .ok (.iconst 2, 1) := by decide +kernel
theorem d_LA_law_518 : decode c_LA_law 518 = .ok (.iadd, 1) := by decide +kernel
theorem d_LA_law_519 : decode c_LA_law 519 = .ok (.iaload, 1) := by decide +kernel
theorem d_LA_law_520 : decode c_LA_law 520 = .ok (.invokevirtual 79, 3) := by decide +kernel
theorem d_LA_law_523 : decode c_LA_law 523 = .ok (.if_icmp .eq 5, 3) := by decide +kernel
theorem d_LA_law_526 : decode c_LA_law 526 = .ok (.iconst 0, 1) := by decide +kernel
theorem d_LA_law_527 : decode c_LA_law 527 = .ok (.ireturn, 1) := by decide +kernel
theorem d_LA_law_528 : decode c_LA_law 528 = .ok (.iinc 4 3, 3) := by decide +kernel
theorem d_LA_law_531 : decode c_LA_law 531 = .ok (.goto (-508), 3) := by decide +kernel
theorem d_LA_law_534 : decode c_LA_law 534 = .ok (.iconst 1, 1) := by decide +kernel
theorem d_LA_law_535 : decode c_LA_law 535 = .ok (.ireturn, 1) := by decide +kernel
