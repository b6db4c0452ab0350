theorem dX12_init_0 : decode cX12_init 0 = .ok (.aload_n 0, 1) := by decide +kernel
theorem dX12_init_1 : decode cX12_init 1 = .ok (.invokespecial 1, 3) := by decide +kernel
theorem dX12_init_4 : decode cX12_init 4 = .ok (.aload_n 0, 1) := by decide +kernel
theorem dX12_init_5 : decode cX12_init 5 = .ok (.bipush 14, 2) := by decide +kernel
theorem dX12_init_7 : decode cX12_init 7 = .ok (.newarray .int, 2) := by decide +kernel
theorem dX12_init_9 : decode cX12_init 9 = .ok (.putfield 7, 3) := by decide +kernel
theorem dX12_init_12 : decode cX12_init 12 = .ok (.aload_n 0, 1) := by decide +kernel
theorem dX12_init_13 : decode cX12_init 13 = .ok (.bipush 14, 2) := by decide +kernel
theorem dX12_init_15 : decode cX12_init 15 = .ok (.newarray .int, 2) := by decide +kernel
theorem dX12_init_17 : decode cX12_init 17 = .ok (.putfield 13, 3) := by decide +kernel
theorem dX12_init_20 : decode cX12_init 20 = .ok (.aload_n 0, 1) := by decide +kernel
theorem dX12_init_21 : decode cX12_init 21 = .ok (.bipush 14, 2) := by decide +kernel
theorem dX12_init_23 : decode cX12_init 23 = .ok (.newarray .int, 2) := by decide +kernel
theorem dX12_init_25 : decode cX12_init 25 = .ok (.putfield 16, 3) := by decide +kernel
theorem dX12_init_28 : decode cX12_init 28 = .ok (.aload_n 0, 1) := by decide +kernel
theorem dX12_init_29 : decode cX12_init 29 = .ok (.bipush 20, 2) := by decide +kernel
theorem dX12_init_31 : decode cX12_init 31 = .ok (.newarray .int, 2) := by decide +kernel
theorem dX12_init_33 : decode cX12_init 33 = .ok (.putfield 19, 3) := by decide +kernel
theorem dX12_init_36 : decode cX12_init 36 = .ok (.aload_n 0, 1) := by decide +kernel
theorem dX12_init_37 : decode cX12_init 37 = .ok (.bipush 20, 2) := by decide +kernel
theorem dX12_init_39 : decode cX12_init 39 = .ok (.newarray .int, 2) := by decide +kernel
theorem dX12_init_41 : decode cX12_init 41 = .ok (.putfield 22, 3) := by decide +kernel
theorem dX12_init_44 : decode cX12_init 44 = .ok (.aload_n 0, 1) := by decide +kernel
theorem dX12_init_45 : decode cX12_init 45 = .ok (.bipush 20, 2) := by decide +kernel
theorem dX12_init_47 : decode cX12_init 47 = .ok (.newarray .int, 2) := by decide +kernel
theorem dX12_init_49 : decode cX12_init 49 = .ok (.putfield 25, 3) := by decide +kernel
theorem dX12_init_52 : decode cX12_init 52 = .ok (.aload_n 0, 1) := by decide +kernel
theorem dX12_init_53 : decode cX12_init 53 = .ok (.bipush 9, 2) := by decide +kernel
theorem dX12_init_55 : decode cX12_init 55 = .ok (.newarray .int, 2) := by decide +kernel
theorem dX12_init_57 : decode cX12_init 57 = .ok (.putfield 28, 3) := by decide +kernel
theorem dX12_init_60 : decode cX12_init 60 = .ok (.aload_n 0, 1) := by decide +kernel
theorem dX12_init_61 : decode cX12_init 61 = .ok (.bipush 45, 2) := by decide +kernel
theorem dX12_init_63 : decode cX12_init 63 = .ok (.newarray .int, 2) := by decide +kernel
theorem dX12_init_65 : decode cX12_init 65 = .ok (.putfield 31, 3) := by decide +kernel
theorem dX12_init_68 : decode cX12_init 68 = .ok (.aload_n 0, 1) := by decide +kernel
theorem dX12_init_69 : decode cX12_init 69 = .ok (.bipush 81, 2) := by decide +kernel
theorem dX12_init_71 : decode cX12_init 71 = .ok (.newarray .int, 2) := by decide +kernel
theorem dX12_init_73 : decode cX12_init 73 = .ok (.putfield 34, 3) := by decide +kernel
theorem dX12_init_76 : decode cX12_init 76 = .ok (.aload_n 0, 1) := by decide +kernel
theorem dX12_init_77 : decode cX12_init 77 = .ok (.bipush 81, 2) := by decide +kernel
theorem dX12_init_79 : decode cX12_init 79 = .ok (.newarray .int, 2) := by decide +kernel
theorem dX12_init_81 : decode cX12_init 81 = .ok (.putfield 37, 3) := by decide +kernel
theorem dX12_init_84 : decode cX12_init 84 = .ok (.aload_n 0, 1) := by decide +kernel
theorem dX12_init_85 : decode cX12_init 85 = .ok (.bipush 9, 2) := by decide +kernel
theorem dX12_init_87 : decode cX12_init 87 = .ok (.newarray .int, 2) := by decide +kernel
theorem dX12_init_89 : decode cX12_init 89 = .ok (.putfield 40, 3) := by decide +kernel
theorem dX12_init_92 : decode cX12_init 92 = .ok (.aload_n 0, 1) := by decide +kernel
theorem dX12_init_93 : decode cX12_init 93 = .ok (.bipush 9, 2) := by decide +kernel
theorem dX12_init_95 : decode cX12_init 95 = .ok (.newarray .int, 2) := by decide +kernel
theorem dX12_init_97 : decode cX12_init 97 = .ok (.putfield 43, 3) := by decide +kernel
theorem dX12_init_100 : decode cX12_init 100 = .ok (.aload_n 0, 1) := by decide +kernel
theorem dX12_init_101 : decode cX12_init 101 = .ok (.bipush 81, 2) := by decide +kernel
theorem dX12_init_103 : decode cX12_init 103 = .ok (.newarray .int, 2) := by decide +kernel
theorem dX12_init_105 : decode cX12_init 105 = .ok (.putfield 46, 3) := by decide +kernel
theorem dX12_init_108 : decode cX12_init 108 = .ok (.aload_n 0, 1) := by decide +kernel
theorem dX12_init_109 : decode cX12_init 109 = .ok (.sipush 400, 3) := by decide +kernel
theorem dX12_init_112 : decode cX12_init 112 = .ok (.newarray .int, 2) := by decide +kernel
theorem dX12_init_114 : decode cX12_init 114 = .ok (.putfield 49, 3) := by decide +kernel
theorem dX12_init_117 : decode cX12_init 117 = .ok (.aload_n 0, 1) := by decide +kernel
theorem dX12_init_118 : decode cX12_init 118 = .ok (.iconst (-1), 1) := by decide +kernel
theorem dX12_init_119 : decode cX12_init 119 = .ok (.putfield 52, 3) := by decide +kernel
theorem dX12_init_122 : decode cX12_init 122 = .ok (.aload_n 0, 1) := by decide +kernel
theorem dX12_init_123 : decode cX12_init 123 = .ok (.bipush 14, 2) := by decide +kernel
theorem dX12_init_125 : decode cX12_init 125 = .ok (.newarray .int, 2) := by decide +kernel
theorem dX12_init_127 : decode cX12_init 127 = .ok (.putfield 56, 3) := by decide +kernel
theorem dX12_init_130 : decode cX12_init 130 = .ok (.aload_n 0, 1) := by decide +kernel
theorem dX12_init_131 : decode cX12_init 131 = .ok (.bipush 14, 2) := by decide +kernel
theorem dX12_init_133 : decode cX12_init 133 = .ok (.newarray .int, 2) := by decide +kernel
theorem dX12_init_135 : decode cX12_init 135 = .ok (.putfield 59, 3) := by decide +kernel
theorem dX12_init_138 : decode cX12_init 138 = .ok (.aload_n 0, 1) := by decide +kernel
theorem dX12_init_139 : decode cX12_init 139 = .ok (.bipush 14, 2) := by decide +kernel
theorem dX12_init_141 : decode cX12_init 141 = .ok (.newarray .int, 2) := by decide +kernel
theorem dX12_init_143 : decode cX12_init 143 = .ok (.putfield 62, 3) := by decide +kernel
theorem dX12_init_146 : decode cX12_init 146 = .ok (.aload_n 0, 1) := by decide +kernel
theorem dX12_init_147 : decode cX12_init 147 = .ok (.bipush 20, 2) := by decide +kernel
theorem dX12_init_149 : decode cX12_init 149 = .ok (.newarray .int, 2) := by decide +kernel
theorem dX12_init_151 : decode cX12_init 151 = .ok (.putfield 65, 3) := by decide +kernel
theorem dX12_init_154 : decode cX12_init 154 = .ok (.aload_n 0, 1) := by decide +kernel
theorem dX12_init_155 : decode cX12_init 155 = .ok (.bipush 20, 2) := by decide +kernel
theorem dX12_init_157 : decode cX12_init 157 = .ok (.newarray .int, 2) := by decide +kernel
theorem dX12_init_159 : decode cX12_init 159 = .ok (.putfield 68, 3) := by decide +kernel
theorem dX12_init_162 : decode cX12_init 162 = .ok (.aload_n 0, 1) := by decide +kernel
theorem dX12_init_163 : decode cX12_init 163 = .ok (.bipush 20, 2) := by decide +kernel
theorem dX12_init_165 : decode cX12_init 165 = .ok (.newarray .int, 2) := by decide +kernel
theorem dX12_init_167 : decode cX12_init 167 = .ok (.putfield 71, 3) := by decide +kernel
theorem dX12_init_170 : decode cX12_init 170 = .ok (.aload_n 0, 1) := by decide +kernel
theorem dX12_init_171 : decode cX12_init 171 = .ok (.bipush 10, 2) := by decide +kernel
theorem dX12_init_173 : decode cX12_init 173 = .ok (.newarray .int, 2) := by decide +kernel
theorem dX12_init_175 : decode cX12_init 175 = .ok (.putfield 74, 3) := by decide +kernel
theorem dX12_init_178 : decode cX12_init 178 = .ok (.aload_n 0, 1) := by decide +kernel
theorem dX12_init_179 : decode cX12_init 179 = .ok (.bipush 10, 2) := by decide +kernel
theorem dX12_init_181 : decode cX12_init 181 = .ok (.newarray .int, 2) := by decide +kernel
theorem dX12_init_183 : decode cX12_init 183 = .ok (.putfield 77, 3) := by decide +kernel
theorem dX12_init_186 : decode cX12_init 186 = .ok (.aload_n 0, 1) := by decide +kernel
theorem dX12_init_187 : decode cX12_init 187 = .ok (.bipush 40, 2) := by decide +kernel
theorem dX12_init_189 : decode cX12_init 189 = .ok (.newarray .int, 2) := by decide +kernel
theorem dX12_init_191 : decode cX12_init 191 = .ok (.putfield 80, 3) := by decide +kernel
theorem dX12_init_194 : decode cX12_init 194 = .ok (.aload_n 0, 1) := by decide +kernel
theorem dX12_init_195 : decode cX12_init 195 = .ok (.bipush 40, 2) := by decide +kernel
theorem dX12_init_197 : decode cX12_init 197 = .ok (.newarray .int, 2) := by decide +kernel
theorem dX12_init_199 : decode cX12_init 199 = .ok (.putfield 83, 3) := by decide +kernel
theorem dX12_init_202 : decode cX12_init 202 = .ok (.aload_n 0, 1) := by decide +kernel
theorem dX12_init_203 : decode cX12_init 203 = .ok (.bipush 40, 2) := by decide +kernel
theorem dX12_init_205 : decode cX12_init 205 = .ok (.newarray .int, 2) := by decide +kernel
theorem dX12_init_207 : decode cX12_init 207 = .ok (.putfield 86, 3) := by decide +kernel
theorem dX12_init_210 : decode cX12_init 210 = .ok (.aload_n 0, 1) := by decide +kernel
theorem dX12_init_211 : decode cX12_init 211 = .ok (.bipush 64, 2) := by decide +kernel
theorem dX12_init_213 : decode cX12_init 213 = .ok (.newarray .int, 2) := by decide +kernel
theorem dX12_init_215 : decode cX12_init 215 = .ok (.putfield 89, 3) := by decide +kernel
theorem dX12_init_218 : decode cX12_init 218 = .ok (.aload_n 0, 1) := by decide +kernel
theorem dX12_init_219 : decode cX12_init 219 = .ok (.bipush 64, 2) := by decide +kernel
theorem dX12_init_221 : decode cX12_init 221 = .ok (.newarray .int, 2) := by decide +kernel
theorem dX12_init_223 : decode cX12_init 223 = .ok (.putfield 92, 3) := by decide +kernel
theorem dX12_init_226 : decode cX12_init 226 = .ok (.aload_n 0, 1) := by decide +kernel
theorem dX12_init_227 : decode cX12_init 227 = .ok (.bipush 64, 2) := by decide +kernel
theorem dX12_init_229 : decode cX12_init 229 = .ok (.newarray .long, 2) := by decide +kernel
theorem dX12_init_231 : decode cX12_init 231 = .ok (.putfield 95, 3) := by decide +kernel
theorem dX12_init_234 : decode cX12_init 234 = .ok (.aload_n 0, 1) := by decide +kernel
theorem dX12_init_235 : decode cX12_init 235 = .ok (.bipush 20, 2) := by decide +kernel
theorem dX12_init_237 : decode cX12_init 237 = .ok (.newarray .int, 2) := by decide +kernel
theorem dX12_init_239 : decode cX12_init 239 = .ok (.putfield 99, 3) := by decide +kernel
theorem dX12_init_242 : decode cX12_init 242 = .ok (.aload_n 0, 1) := by decide +kernel
theorem dX12_init_243 : decode cX12_init 243 = .ok (.bipush 20, 2) := by decide +kernel
theorem dX12_init_245 : decode cX12_init 245 = .ok (.newarray .int, 2) := by decide +kernel
theorem dX12_init_247 : decode cX12_init 247 = .ok (.putfield 102, 3) := by decide +kernel
theorem dX12_init_250 : decode cX12_init 250 = .ok (.aload_n 0, 1) := by decide +kernel
theorem dX12_init_251 : decode cX12_init 251 = .ok (.bipush 20, 2) := by decide +kernel
theorem dX12_init_253 : decode cX12_init 253 = .ok (.newarray .int, 2) := by decide +kernel
theorem dX12_init_255 : decode cX12_init 255 = .ok (.putfield 105, 3) := by decide +kernel
theorem dX12_init_258 : decode cX12_init 258 = .ok (.aload_n 0, 1) := by decide +kernel
theorem dX12_init_259 : decode cX12_init 259 = .ok (.bipush 20, 2) := by decide +kernel
theorem dX12_init_261 : decode cX12_init 261 = .ok (.newarray .int, 2) := by decide +kernel
theorem dX12_init_263 : decode cX12_init 263 = .ok (.putfield 108, 3) := by decide +kernel
theorem dX12_init_266 : decode cX12_init 266 = .ok (.aload_n 0, 1) := by decide +kernel
theorem dX12_init_267 : decode cX12_init 267 = .ok (.sipush 200, 3) := by decide +kernel
theorem dX12_init_270 : decode cX12_init 270 = .ok (.newarray .int, 2) := by decide +kernel
theorem dX12_init_272 : decode cX12_init 272 = .ok (.putfield 111, 3) := by decide +kernel
theorem dX12_init_275 : decode cX12_init 275 = .ok (.aload_n 0, 1) := by decide +kernel
theorem dX12_init_276 : decode cX12_init 276 = .ok (.iconst 2, 1) := by decide +kernel
theorem dX12_init_277 : decode cX12_init 277 = .ok (.newarray .boolean, 2) := by decide +kernel
theorem dX12_init_279 : decode cX12_init 279 = .ok (.putfield 114, 3) := by decide +kernel
theorem dX12_init_282 : decode cX12_init 282 = .ok (.aload_n 0, 1) := by decide +kernel
theorem dX12_init_283 : decode cX12_init 283 = .ok (.iconst 0, 1) := by decide +kernel
theorem dX12_init_284 : decode cX12_init 284 = .ok (.putfield 118, 3) := by decide +kernel
theorem dX12_init_287 : decode cX12_init 287 = .ok (.return_, 1) := by decide +kernel
theorem dX12_in_0 : decode cX12_in 0 = .ok (.lload_n 0, 1) := by decide +kernel
theorem dX12_in_1 : decode cX12_in 1 = .ok (.lload_n 2, 1) := by decide +kernel
theorem dX12_in_2 : decode cX12_in 2 = .ok (.lcmp, 1) := by decide +kernel
theorem dX12_in_3 : decode cX12_in 3 = .ok (.ifCond .lt 14, 3) := by decide +kernel
theorem dX12_in_6 : decode cX12_in 6 = .ok (.lload_n 0, 1) := by decide +kernel
theorem dX12_in_7 : decode cX12_in 7 = .ok (.lload 4, 2) := by decide +kernel
theorem dX12_in_9 : decode cX12_in 9 = .ok (.lcmp, 1) := by decide +kernel
theorem dX12_in_10 : decode cX12_in 10 = .ok (.ifCond .gt 7, 3) := by decide +kernel
theorem dX12_in_13 : decode cX12_in 13 = .ok (.iconst 1, 1) := by decide +kernel
theorem dX12_in_14 : decode cX12_in 14 = .ok (.goto 4, 3) := by decide +kernel
theorem dX12_in_17 : decode cX12_in 17 = .ok (.iconst 0, 1) := by decide +kernel
theorem dX12_in_18 : decode cX12_in 18 = .ok (.ireturn, 1) := by decide +kernel
theorem dX12_has_0 : decode cX12_has 0 = .ok (.iload_n 0, 1) := by decide +kernel
theorem dX12_has_1 : decode cX12_has 1 = .ok (.iload_n 1, 1) := by decide +kernel
theorem dX12_has_2 : decode cX12_has 2 = .ok (.ishr, 1) := by decide +kernel
theorem dX12_has_3 : decode cX12_has 3 = .ok (.iconst 1, 1) := by decide +kernel
theorem dX12_has_4 : decode cX12_has 4 = .ok (.iand, 1) := by decide +kernel
theorem dX12_has_5 : decode cX12_has 5 = .ok (.iconst 1, 1) := by decide +kernel
theorem dX12_has_6 : decode cX12_has 6 = .ok (.if_icmp .ne 7, 3) := by decide +kernel
theorem dX12_has_9 : decode cX12_has 9 = .ok (.iconst 1, 1) := by decide +kernel
theorem dX12_has_10 : decode cX12_has 10 = .ok (.goto 4, 3) := by decide +kernel
theorem dX12_has_13 : decode cX12_has 13 = .ok (.iconst 0, 1) := by decide +kernel
theorem dX12_has_14 : decode cX12_has 14 = .ok (.ireturn, 1) := by decide +kernel
theorem dX12_bits_0 : decode cX12_bits 0 = .ok (.iconst 0, 1) := by decide +kernel
theorem dX12_bits_1 : decode cX12_bits 1 = .ok (.istore_n 1, 1) := by decide +kernel
theorem dX12_bits_2 : decode cX12_bits 2 = .ok (.iconst 0, 1) := by decide +kernel
theorem dX12_bits_3 : decode cX12_bits 3 = .ok (.istore_n 2, 1) := by decide +kernel
theorem dX12_bits_4 : decode cX12_bits 4 = .ok (.iload_n 2, 1) := by decide +kernel
theorem dX12_bits_5 : decode cX12_bits 5 = .ok (.bipush 9, 2) := by decide +kernel
theorem dX12_bits_7 : decode cX12_bits 7 = .ok (.if_icmp .ge 17, 3) := by decide +kernel
theorem dX12_bits_10 : decode cX12_bits 10 = .ok (.iload_n 1, 1) := by decide +kernel
theorem dX12_bits_11 : decode cX12_bits 11 = .ok (.iload_n 0, 1) := by decide +kernel
theorem dX12_bits_12 : decode cX12_bits 12 = .ok (.iload_n 2, 1) := by decide +kernel
theorem dX12_bits_13 : decode cX12_bits 13 = .ok (.ishr, 1) := by decide +kernel
theorem dX12_bits_14 : decode cX12_bits 14 = .ok (.iconst 1, 1) := by decide +kernel
theorem dX12_bits_15 : decode cX12_bits 15 = .ok (.iand, 1) := by decide +kernel
theorem dX12_bits_16 : decode cX12_bits 16 = .ok (.iadd, 1) := by decide +kernel
theorem dX12_bits_17 : decode cX12_bits 17 = .ok (.istore_n 1, 1) := by decide +kernel
theorem dX12_bits_18 : decode cX12_bits 18 = .ok (.iinc 2 1, 3) := by decide +kernel
theorem dX12_bits_21 : decode cX12_bits 21 = .ok (.goto (-17), 3) := by decide +kernel
theorem dX12_bits_24 : decode cX12_bits 24 = .ok (.iload_n 1, 1) := by decide +kernel
theorem dX12_bits_25 : decode cX12_bits 25 = .ok (.ireturn, 1) := by decide +kernel
theorem dX12_isPlace_0 : decode cX12_isPlace 0 = .ok (.iload_n 1, 1) := by decide +kernel
theorem dX12_isPlace_1 : decode cX12_isPlace 1 = .ok (.i2l, 1) := by decide +kernel
theorem dX12_isPlace_2 : decode cX12_isPlace 2 = .ok (.lconst 0, 1) := by decide +kernel
theorem dX12_isPlace_3 : decode cX12_isPlace 3 = .ok (.aload_n 0, 1) := by decide +kernel
theorem dX12_isPlace_4 : decode cX12_isPlace 4 = .ok (.getfield 118, 3) := by decide +kernel
theorem dX12_isPlace_7 : decode cX12_isPlace 7 = .ok (.iconst 1, 1) := by decide +kernel
theorem dX12_isPlace_8 : decode cX12_isPlace 8 = .ok (.isub, 1) := by decide +kernel
theorem dX12_isPlace_9 : decode cX12_isPlace 9 = .ok (.i2l, 1) := by decide +kernel
theorem dX12_isPlace_10 : decode cX12_isPlace 10 = .ok (.invokestatic 121, 3) := by decide +kernel
theorem dX12_isPlace_13 : decode cX12_isPlace 13 = .ok (.ireturn, 1) := by decide +kernel
theorem dX12_areTwo_0 : decode cX12_areTwo 0 = .ok (.aload_n 0, 1) := by decide +kernel
theorem dX12_areTwo_1 : decode cX12_areTwo 1 = .ok (.iload_n 1, 1) := by decide +kernel
theorem dX12_areTwo_2 : decode cX12_areTwo 2 = .ok (.invokevirtual 125, 3) := by decide +kernel
theorem dX12_areTwo_5 : decode cX12_areTwo 5 = .ok (.ifCond .eq 15, 3) := by decide +kernel
theorem dX12_areTwo_8 : decode cX12_areTwo 8 = .ok (.aload_n 0, 1) := by decide +kernel
theorem dX12_areTwo_9 : decode cX12_areTwo 9 = .ok (.iload_n 2, 1) := by decide +kernel
theorem dX12_areTwo_10 : decode cX12_areTwo 10 = .ok (.invokevirtual 125, 3) := by decide +kernel
theorem dX12_areTwo_13 : decode cX12_areTwo 13 = .ok (.ifCond .eq 7, 3) := by decide +kernel
theorem dX12_areTwo_16 : decode cX12_areTwo 16 = .ok (.iconst 1, 1) := by decide +kernel
theorem dX12_areTwo_17 : decode cX12_areTwo 17 = .ok (.goto 4, 3) := by decide +kernel
theorem dX12_areTwo_20 : decode cX12_areTwo 20 = .ok (.iconst 0, 1) := by decide +kernel
theorem dX12_areTwo_21 : decode cX12_areTwo 21 = .ok (.ireturn, 1) := by decide +kernel
theorem dX12_isSet_0 : decode cX12_isSet 0 = .ok (.iload_n 1, 1) := by decide +kernel
theorem dX12_isSet_1 : decode cX12_isSet 1 = .ok (.i2l, 1) := by decide +kernel
theorem dX12_isSet_2 : decode cX12_isSet 2 = .ok (.lconst 0, 1) := by decide +kernel
theorem dX12_isSet_3 : decode cX12_isSet 3 = .ok (.iconst 1, 1) := by decide +kernel
theorem dX12_isSet_4 : decode cX12_isSet 4 = .ok (.aload_n 0, 1) := by decide +kernel
theorem dX12_isSet_5 : decode cX12_isSet 5 = .ok (.getfield 118, 3) := by decide +kernel
theorem dX12_isSet_8 : decode cX12_isSet 8 = .ok (.ishl, 1) := by decide +kernel
theorem dX12_isSet_9 : decode cX12_isSet 9 = .ok (.iconst 1, 1) := by decide +kernel
theorem dX12_isSet_10 : decode cX12_isSet 10 = .ok (.isub, 1) := by decide +kernel
theorem dX12_isSet_11 : decode cX12_isSet 11 = .ok (.i2l, 1) := by decide +kernel
theorem dX12_isSet_12 : decode cX12_isSet 12 = .ok (.invokestatic 121, 3) := by decide +kernel
theorem dX12_isSet_15 : decode cX12_isSet 15 = .ok (.ireturn, 1) := by decide +kernel
theorem dX12_otherEnd_0 : decode cX12_otherEnd 0 = .ok (.aload_n 0, 1) := by decide +kernel
theorem dX12_otherEnd_1 : decode cX12_otherEnd 1 = .ok (.getfield 7, 3) := by decide +kernel
theorem dX12_otherEnd_4 : decode cX12_otherEnd 4 = .ok (.iload_n 1, 1) := by decide +kernel
theorem dX12_otherEnd_5 : decode cX12_otherEnd 5 = .ok (.iaload, 1) := by decide +kernel
theorem dX12_otherEnd_6 : decode cX12_otherEnd 6 = .ok (.iload_n 2, 1) := by decide +kernel
theorem dX12_otherEnd_7 : decode cX12_otherEnd 7 = .ok (.if_icmp .ne 12, 3) := by decide +kernel
theorem dX12_otherEnd_10 : decode cX12_otherEnd 10 = .ok (.aload_n 0, 1) := by decide +kernel
theorem dX12_otherEnd_11 : decode cX12_otherEnd 11 = .ok (.getfield 13, 3) := by decide +kernel
theorem dX12_otherEnd_14 : decode cX12_otherEnd 14 = .ok (.iload_n 1, 1) := by decide +kernel
theorem dX12_otherEnd_15 : decode cX12_otherEnd 15 = .ok (.iaload, 1) := by decide +kernel
theorem dX12_otherEnd_16 : decode cX12_otherEnd 16 = .ok (.goto 23, 3) := by decide +kernel
theorem dX12_otherEnd_19 : decode cX12_otherEnd 19 = .ok (.aload_n 0, 1) := by decide +kernel
theorem dX12_otherEnd_20 : decode cX12_otherEnd 20 = .ok (.getfield 13, 3) := by decide +kernel
theorem dX12_otherEnd_23 : decode cX12_otherEnd 23 = .ok (.iload_n 1, 1) := by decide +kernel
theorem dX12_otherEnd_24 : decode cX12_otherEnd 24 = .ok (.iaload, 1) := by decide +kernel
theorem dX12_otherEnd_25 : decode cX12_otherEnd 25 = .ok (.iload_n 2, 1) := by decide +kernel
theorem dX12_otherEnd_26 : decode cX12_otherEnd 26 = .ok (.if_icmp .ne 12, 3) := by decide +kernel
theorem dX12_otherEnd_29 : decode cX12_otherEnd 29 = .ok (.aload_n 0, 1) := by decide +kernel
theorem dX12_otherEnd_30 : decode cX12_otherEnd 30 = .ok (.getfield 7, 3) := by decide +kernel
theorem dX12_otherEnd_33 : decode cX12_otherEnd 33 = .ok (.iload_n 1, 1) := by decide +kernel
theorem dX12_otherEnd_34 : decode cX12_otherEnd 34 = .ok (.iaload, 1) := by decide +kernel
theorem dX12_otherEnd_35 : decode cX12_otherEnd 35 = .ok (.goto 4, 3) := by decide +kernel
theorem dX12_otherEnd_38 : decode cX12_otherEnd 38 = .ok (.iconst (-1), 1) := by decide +kernel
theorem dX12_otherEnd_39 : decode cX12_otherEnd 39 = .ok (.ireturn, 1) := by decide +kernel
theorem dX12_feed_0 : decode cX12_feed 0 = .ok (.iload_n 1, 1) := by decide +kernel
theorem dX12_feed_1 : decode cX12_feed 1 = .ok (.i2l, 1) := by decide +kernel
theorem dX12_feed_2 : decode cX12_feed 2 = .ok (.lconst 1, 1) := by decide +kernel
theorem dX12_feed_3 : decode cX12_feed 3 = .ok (.ldc2_w 129, 3) := by decide +kernel
theorem dX12_feed_6 : decode cX12_feed 6 = .ok (.invokestatic 121, 3) := by decide +kernel
theorem dX12_feed_9 : decode cX12_feed 9 = .ok (.ifCond .ne 6, 3) := by decide +kernel
theorem dX12_feed_12 : decode cX12_feed 12 = .ok (.ldc 131, 2) := by decide +kernel
theorem dX12_feed_14 : decode cX12_feed 14 = .ok (.ireturn, 1) := by decide +kernel
theorem dX12_feed_15 : decode cX12_feed 15 = .ok (.aload_n 0, 1) := by decide +kernel
theorem dX12_feed_16 : decode cX12_feed 16 = .ok (.getfield 132, 3) := by decide +kernel
theorem dX12_feed_19 : decode cX12_feed 19 = .ok (.iload_n 1, 1) := by decide +kernel
theorem dX12_feed_20 : decode cX12_feed 20 = .ok (.iadd, 1) := by decide +kernel
theorem dX12_feed_21 : decode cX12_feed 21 = .ok (.sipush 400, 3) := by decide +kernel
theorem dX12_feed_24 : decode cX12_feed 24 = .ok (.if_icmp .le 6, 3) := by decide +kernel
theorem dX12_feed_27 : decode cX12_feed 27 = .ok (.ldc 135, 2) := by decide +kernel
theorem dX12_feed_29 : decode cX12_feed 29 = .ok (.ireturn, 1) := by decide +kernel
theorem dX12_feed_30 : decode cX12_feed 30 = .ok (.iload_n 1, 1) := by decide +kernel
theorem dX12_feed_31 : decode cX12_feed 31 = .ok (.iconst 1, 1) := by decide +kernel
theorem dX12_feed_32 : decode cX12_feed 32 = .ok (.isub, 1) := by decide +kernel
theorem dX12_feed_33 : decode cX12_feed 33 = .ok (.istore 4, 2) := by decide +kernel
theorem dX12_feed_35 : decode cX12_feed 35 = .ok (.iload 4, 2) := by decide +kernel
theorem dX12_feed_37 : decode cX12_feed 37 = .ok (.ifCond .lt 40, 3) := by decide +kernel
theorem dX12_feed_40 : decode cX12_feed 40 = .ok (.aload_n 0, 1) := by decide +kernel
theorem dX12_feed_41 : decode cX12_feed 41 = .ok (.getfield 49, 3) := by decide +kernel
theorem dX12_feed_44 : decode cX12_feed 44 = .ok (.aload_n 0, 1) := by decide +kernel
theorem dX12_feed_45 : decode cX12_feed 45 = .ok (.getfield 132, 3) := by decide +kernel
theorem dX12_feed_48 : decode cX12_feed 48 = .ok (.lload_n 2, 1) := by decide +kernel
theorem dX12_feed_49 : decode cX12_feed 49 = .ok (.bipush 8, 2) := by decide +kernel
theorem dX12_feed_51 : decode cX12_feed 51 = .ok (.iload 4, 2) := by decide +kernel
theorem dX12_feed_53 : decode cX12_feed 53 = .ok (.imul, 1) := by decide +kernel
theorem dX12_feed_54 : decode cX12_feed 54 = .ok (.lshr, 1) := by decide +kernel
theorem dX12_feed_55 : decode cX12_feed 55 = .ok (.ldc2_w 136, 3) := by decide +kernel
theorem dX12_feed_58 : decode cX12_feed 58 = .ok (.land, 1) := by decide +kernel
theorem dX12_feed_59 : decode cX12_feed 59 = .ok (.l2i, 1) := by decide +kernel
theorem dX12_feed_60 : decode cX12_feed 60 = .ok (.iastore, 1) := by decide +kernel
theorem dX12_feed_61 : decode cX12_feed 61 = .ok (.aload_n 0, 1) := by decide +kernel
theorem dX12_feed_62 : decode cX12_feed 62 = .ok (.dup, 1) := by decide +kernel
theorem dX12_feed_63 : decode cX12_feed 63 = .ok (.getfield 132, 3) := by decide +kernel
theorem dX12_feed_66 : decode cX12_feed 66 = .ok (.iconst 1, 1) := by decide +kernel
theorem dX12_feed_67 : decode cX12_feed 67 = .ok (.iadd, 1) := by decide +kernel
theorem dX12_feed_68 : decode cX12_feed 68 = .ok (.putfield 132, 3) := by decide +kernel
theorem dX12_feed_71 : decode cX12_feed 71 = .ok (.iinc 4 (-1), 3) := by decide +kernel
theorem dX12_feed_74 : decode cX12_feed 74 = .ok (.goto (-39), 3) := by decide +kernel
theorem dX12_feed_77 : decode cX12_feed 77 = .ok (.aload_n 0, 1) := by decide +kernel
theorem dX12_feed_78 : decode cX12_feed 78 = .ok (.getfield 132, 3) := by decide +kernel
theorem dX12_feed_81 : decode cX12_feed 81 = .ok (.ireturn, 1) := by decide +kernel
theorem dX12_here_0 : decode cX12_here 0 = .ok (.aload_n 0, 1) := by decide +kernel
theorem dX12_here_1 : decode cX12_here 1 = .ok (.getfield 138, 3) := by decide +kernel
theorem dX12_here_4 : decode cX12_here 4 = .ok (.aload_n 0, 1) := by decide +kernel
theorem dX12_here_5 : decode cX12_here 5 = .ok (.getfield 132, 3) := by decide +kernel
theorem dX12_here_8 : decode cX12_here 8 = .ok (.if_icmp .ge 30, 3) := by decide +kernel
theorem dX12_here_11 : decode cX12_here 11 = .ok (.aload_n 0, 1) := by decide +kernel
theorem dX12_here_12 : decode cX12_here 12 = .ok (.getfield 49, 3) := by decide +kernel
theorem dX12_here_15 : decode cX12_here 15 = .ok (.aload_n 0, 1) := by decide +kernel
theorem dX12_here_16 : decode cX12_here 16 = .ok (.getfield 138, 3) := by decide +kernel
theorem dX12_here_19 : decode cX12_here 19 = .ok (.iaload, 1) := by decide +kernel
theorem dX12_here_20 : decode cX12_here 20 = .ok (.bipush 32, 2) := by decide +kernel
theorem dX12_here_22 : decode cX12_here 22 = .ok (.if_icmp .ne 16, 3) := by decide +kernel
theorem dX12_here_25 : decode cX12_here 25 = .ok (.aload_n 0, 1) := by decide +kernel
theorem dX12_here_26 : decode cX12_here 26 = .ok (.dup, 1) := by decide +kernel
theorem dX12_here_27 : decode cX12_here 27 = .ok (.getfield 138, 3) := by decide +kernel
theorem dX12_here_30 : decode cX12_here 30 = .ok (.iconst 1, 1) := by decide +kernel
theorem dX12_here_31 : decode cX12_here 31 = .ok (.iadd, 1) := by decide +kernel
theorem dX12_here_32 : decode cX12_here 32 = .ok (.putfield 138, 3) := by decide +kernel
theorem dX12_here_35 : decode cX12_here 35 = .ok (.goto (-35), 3) := by decide +kernel
theorem dX12_here_38 : decode cX12_here 38 = .ok (.aload_n 0, 1) := by decide +kernel
theorem dX12_here_39 : decode cX12_here 39 = .ok (.getfield 138, 3) := by decide +kernel
theorem dX12_here_42 : decode cX12_here 42 = .ok (.aload_n 0, 1) := by decide +kernel
theorem dX12_here_43 : decode cX12_here 43 = .ok (.getfield 132, 3) := by decide +kernel
theorem dX12_here_46 : decode cX12_here 46 = .ok (.if_icmp .ge 15, 3) := by decide +kernel
theorem dX12_here_49 : decode cX12_here 49 = .ok (.aload_n 0, 1) := by decide +kernel
theorem dX12_here_50 : decode cX12_here 50 = .ok (.getfield 49, 3) := by decide +kernel
theorem dX12_here_53 : decode cX12_here 53 = .ok (.aload_n 0, 1) := by decide +kernel
theorem dX12_here_54 : decode cX12_here 54 = .ok (.getfield 138, 3) := by decide +kernel
theorem dX12_here_57 : decode cX12_here 57 = .ok (.iaload, 1) := by decide +kernel
theorem dX12_here_58 : decode cX12_here 58 = .ok (.goto 4, 3) := by decide +kernel
theorem dX12_here_61 : decode cX12_here 61 = .ok (.iconst (-1), 1) := by decide +kernel
theorem dX12_here_62 : decode cX12_here 62 = .ok (.ireturn, 1) := by decide +kernel
theorem dX12_fails_0 : decode cX12_fails 0 = .ok (.aload_n 0, 1) := by decide +kernel
theorem dX12_fails_1 : decode cX12_fails 1 = .ok (.iload_n 2, 1) := by decide +kernel
theorem dX12_fails_2 : decode cX12_fails 2 = .ok (.putfield 52, 3) := by decide +kernel
theorem dX12_fails_5 : decode cX12_fails 5 = .ok (.iload_n 1, 1) := by decide +kernel
theorem dX12_fails_6 : decode cX12_fails 6 = .ok (.ireturn, 1) := by decide +kernel
theorem dX12_readWord_0 : decode cX12_readWord 0 = .ok (.aload_n 0, 1) := by decide +kernel
theorem dX12_readWord_1 : decode cX12_readWord 1 = .ok (.invokevirtual 141, 3) := by decide +kernel
theorem dX12_readWord_4 : decode cX12_readWord 4 = .ok (.istore_n 1, 1) := by decide +kernel
theorem dX12_readWord_5 : decode cX12_readWord 5 = .ok (.aload_n 0, 1) := by decide +kernel
theorem dX12_readWord_6 : decode cX12_readWord 6 = .ok (.lconst 0, 1) := by decide +kernel
theorem dX12_readWord_7 : decode cX12_readWord 7 = .ok (.putfield 145, 3) := by decide +kernel
theorem dX12_readWord_10 : decode cX12_readWord 10 = .ok (.aload_n 0, 1) := by decide +kernel
theorem dX12_readWord_11 : decode cX12_readWord 11 = .ok (.aload_n 0, 1) := by decide +kernel
theorem dX12_readWord_12 : decode cX12_readWord 12 = .ok (.getfield 138, 3) := by decide +kernel
theorem dX12_readWord_15 : decode cX12_readWord 15 = .ok (.putfield 149, 3) := by decide +kernel
theorem dX12_readWord_18 : decode cX12_readWord 18 = .ok (.aload_n 0, 1) := by decide +kernel
theorem dX12_readWord_19 : decode cX12_readWord 19 = .ok (.getfield 149, 3) := by decide +kernel
theorem dX12_readWord_22 : decode cX12_readWord 22 = .ok (.aload_n 0, 1) := by decide +kernel
theorem dX12_readWord_23 : decode cX12_readWord 23 = .ok (.getfield 132, 3) := by decide +kernel
theorem dX12_readWord_26 : decode cX12_readWord 26 = .ok (.if_icmp .ge 82, 3) := by decide +kernel
theorem dX12_readWord_29 : decode cX12_readWord 29 = .ok (.aload_n 0, 1) := by decide +kernel
theorem dX12_readWord_30 : decode cX12_readWord 30 = .ok (.getfield 49, 3) := by decide +kernel
theorem dX12_readWord_33 : decode cX12_readWord 33 = .ok (.aload_n 0, 1) := by decide +kernel
theorem dX12_readWord_34 : decode cX12_readWord 34 = .ok (.getfield 149, 3) := by decide +kernel
theorem dX12_readWord_37 : decode cX12_readWord 37 = .ok (.iaload, 1) := by decide +kernel
theorem dX12_readWord_38 : decode cX12_readWord 38 = .ok (.i2l, 1) := by decide +kernel
theorem dX12_readWord_39 : decode cX12_readWord 39 = .ok (.ldc2_w 152, 3) := by decide +kernel
theorem dX12_readWord_42 : decode cX12_readWord 42 = .ok (.ldc2_w 154, 3) := by decide +kernel
theorem dX12_readWord_45 : decode cX12_readWord 45 = .ok (.invokestatic 121, 3) := by decide +kernel
theorem dX12_readWord_48 : decode cX12_readWord 48 = .ok (.ifCond .eq 60, 3) := by decide +kernel
theorem dX12_readWord_51 : decode cX12_readWord 51 = .ok (.aload_n 0, 1) := by decide +kernel
theorem dX12_readWord_52 : decode cX12_readWord 52 = .ok (.aload_n 0, 1) := by decide +kernel
theorem dX12_readWord_53 : decode cX12_readWord 53 = .ok (.getfield 145, 3) := by decide +kernel
theorem dX12_readWord_56 : decode cX12_readWord 56 = .ok (.ldc2_w 156, 3) := by decide +kernel
theorem dX12_readWord_59 : decode cX12_readWord 59 = .ok (.lcmp, 1) := by decide +kernel
theorem dX12_readWord_60 : decode cX12_readWord 60 = .ok (.ifCond .le 9, 3) := by decide +kernel
theorem dX12_readWord_63 : decode cX12_readWord 63 = .ok (.ldc2_w 158, 3) := by decide +kernel
theorem dX12_readWord_66 : decode cX12_readWord 66 = .ok (.goto 26, 3) := by decide +kernel
theorem dX12_readWord_69 : decode cX12_readWord 69 = .ok (.ldc2_w 160, 3) := by decide +kernel
theorem dX12_readWord_72 : decode cX12_readWord 72 = .ok (.aload_n 0, 1) := by decide +kernel
theorem dX12_readWord_73 : decode cX12_readWord 73 = .ok (.getfield 145, 3) := by decide +kernel
theorem dX12_readWord_76 : decode cX12_readWord 76 = .ok (.lmul, 1) := by decide +kernel
theorem dX12_readWord_77 : decode cX12_readWord 77 = .ok (.aload_n 0, 1) := by decide +kernel
theorem dX12_readWord_78 : decode cX12_readWord 78 = .ok (.getfield 49, 3) := by decide +kernel
theorem dX12_readWord_81 : decode cX12_readWord 81 = .ok (.aload_n 0, 1) := by decide +kernel
theorem dX12_readWord_82 : decode cX12_readWord 82 = .ok (.getfield 149, 3) := by decide +kernel
theorem dX12_readWord_85 : decode cX12_readWord 85 = .ok (.iaload, 1) := by decide +kernel
theorem dX12_readWord_86 : decode cX12_readWord 86 = .ok (.i2l, 1) := by decide +kernel
theorem dX12_readWord_87 : decode cX12_readWord 87 = .ok (.ladd, 1) := by decide +kernel
theorem dX12_readWord_88 : decode cX12_readWord 88 = .ok (.ldc2_w 162, 3) := by decide +kernel
theorem dX12_readWord_91 : decode cX12_readWord 91 = .ok (.lsub, 1) := by decide +kernel
theorem dX12_readWord_92 : decode cX12_readWord 92 = .ok (.putfield 145, 3) := by decide +kernel
theorem dX12_readWord_95 : decode cX12_readWord 95 = .ok (.aload_n 0, 1) := by decide +kernel
theorem dX12_readWord_96 : decode cX12_readWord 96 = .ok (.dup, 1) := by decide +kernel
theorem dX12_readWord_97 : decode cX12_readWord 97 = .ok (.getfield 149, 3) := by decide +kernel
theorem dX12_readWord_100 : decode cX12_readWord 100 = .ok (.iconst 1, 1) := by decide +kernel
theorem dX12_readWord_101 : decode cX12_readWord 101 = .ok (.iadd, 1) := by decide +kernel
theorem dX12_readWord_102 : decode cX12_readWord 102 = .ok (.putfield 149, 3) := by decide +kernel
theorem dX12_readWord_105 : decode cX12_readWord 105 = .ok (.goto (-87), 3) := by decide +kernel
theorem dX12_readWord_108 : decode cX12_readWord 108 = .ok (.return_, 1) := by decide +kernel
theorem dX12_code_0 : decode cX12_code 0 = .ok (.ldc2_w 160, 3) := by decide +kernel
theorem dX12_code_3 : decode cX12_code 3 = .ok (.ldc2_w 160, 3) := by decide +kernel
theorem dX12_code_6 : decode cX12_code 6 = .ok (.ldc2_w 160, 3) := by decide +kernel
theorem dX12_code_9 : decode cX12_code 9 = .ok (.iload_n 0, 1) := by decide +kernel
theorem dX12_code_10 : decode cX12_code 10 = .ok (.i2l, 1) := by decide +kernel
theorem dX12_code_11 : decode cX12_code 11 = .ok (.ldc2_w 162, 3) := by decide +kernel
theorem dX12_code_14 : decode cX12_code 14 = .ok (.lsub, 1) := by decide +kernel
theorem dX12_code_15 : decode cX12_code 15 = .ok (.lmul, 1) := by decide +kernel
theorem dX12_code_16 : decode cX12_code 16 = .ok (.iload_n 1, 1) := by decide +kernel
theorem dX12_code_17 : decode cX12_code 17 = .ok (.i2l, 1) := by decide +kernel
theorem dX12_code_18 : decode cX12_code 18 = .ok (.ladd, 1) := by decide +kernel
theorem dX12_code_19 : decode cX12_code 19 = .ok (.ldc2_w 162, 3) := by decide +kernel
theorem dX12_code_22 : decode cX12_code 22 = .ok (.lsub, 1) := by decide +kernel
theorem dX12_code_23 : decode cX12_code 23 = .ok (.lmul, 1) := by decide +kernel
theorem dX12_code_24 : decode cX12_code 24 = .ok (.iload_n 2, 1) := by decide +kernel
theorem dX12_code_25 : decode cX12_code 25 = .ok (.i2l, 1) := by decide +kernel
theorem dX12_code_26 : decode cX12_code 26 = .ok (.ladd, 1) := by decide +kernel
theorem dX12_code_27 : decode cX12_code 27 = .ok (.ldc2_w 162, 3) := by decide +kernel
theorem dX12_code_30 : decode cX12_code 30 = .ok (.lsub, 1) := by decide +kernel
theorem dX12_code_31 : decode cX12_code 31 = .ok (.lmul, 1) := by decide +kernel
theorem dX12_code_32 : decode cX12_code 32 = .ok (.iload_n 3, 1) := by decide +kernel
theorem dX12_code_33 : decode cX12_code 33 = .ok (.i2l, 1) := by decide +kernel
theorem dX12_code_34 : decode cX12_code 34 = .ok (.ladd, 1) := by decide +kernel
theorem dX12_code_35 : decode cX12_code 35 = .ok (.ldc2_w 162, 3) := by decide +kernel
theorem dX12_code_38 : decode cX12_code 38 = .ok (.lsub, 1) := by decide +kernel
theorem dX12_code_39 : decode cX12_code 39 = .ok (.lreturn, 1) := by decide +kernel
theorem dX12_takeNumber_0 : decode cX12_takeNumber 0 = .ok (.aload_n 0, 1) := by decide +kernel
theorem dX12_takeNumber_1 : decode cX12_takeNumber 1 = .ok (.invokevirtual 141, 3) := by decide +kernel
theorem dX12_takeNumber_4 : decode cX12_takeNumber 4 = .ok (.istore_n 3, 1) := by decide +kernel
theorem dX12_takeNumber_5 : decode cX12_takeNumber 5 = .ok (.iload_n 3, 1) := by decide +kernel
theorem dX12_takeNumber_6 : decode cX12_takeNumber 6 = .ok (.i2l, 1) := by decide +kernel
theorem dX12_takeNumber_7 : decode cX12_takeNumber 7 = .ok (.ldc2_w 164, 3) := by decide +kernel
theorem dX12_takeNumber_10 : decode cX12_takeNumber 10 = .ok (.ldc2_w 166, 3) := by decide +kernel
theorem dX12_takeNumber_13 : decode cX12_takeNumber 13 = .ok (.invokestatic 121, 3) := by decide +kernel
theorem dX12_takeNumber_16 : decode cX12_takeNumber 16 = .ok (.ifCond .ne 13, 3) := by decide +kernel
theorem dX12_takeNumber_19 : decode cX12_takeNumber 19 = .ok (.aload_n 0, 1) := by decide +kernel
theorem dX12_takeNumber_20 : decode cX12_takeNumber 20 = .ok (.iconst 1, 1) := by decide +kernel
theorem dX12_takeNumber_21 : decode cX12_takeNumber 21 = .ok (.aload_n 0, 1) := by decide +kernel
theorem dX12_takeNumber_22 : decode cX12_takeNumber 22 = .ok (.getfield 138, 3) := by decide +kernel
theorem dX12_takeNumber_25 : decode cX12_takeNumber 25 = .ok (.invokevirtual 168, 3) := by decide +kernel
theorem dX12_takeNumber_28 : decode cX12_takeNumber 28 = .ok (.ireturn, 1) := by decide +kernel
theorem dX12_takeNumber_29 : decode cX12_takeNumber 29 = .ok (.aload_n 0, 1) := by decide +kernel
theorem dX12_takeNumber_30 : decode cX12_takeNumber 30 = .ok (.aload_n 0, 1) := by decide +kernel
theorem dX12_takeNumber_31 : decode cX12_takeNumber 31 = .ok (.getfield 138, 3) := by decide +kernel
theorem dX12_takeNumber_34 : decode cX12_takeNumber 34 = .ok (.putfield 172, 3) := by decide +kernel
theorem dX12_takeNumber_37 : decode cX12_takeNumber 37 = .ok (.aload_n 0, 1) := by decide +kernel
theorem dX12_takeNumber_38 : decode cX12_takeNumber 38 = .ok (.iconst 0, 1) := by decide +kernel
theorem dX12_takeNumber_39 : decode cX12_takeNumber 39 = .ok (.putfield 175, 3) := by decide +kernel
theorem dX12_takeNumber_42 : decode cX12_takeNumber 42 = .ok (.aload_n 0, 1) := by decide +kernel
theorem dX12_takeNumber_43 : decode cX12_takeNumber 43 = .ok (.getfield 138, 3) := by decide +kernel
theorem dX12_takeNumber_46 : decode cX12_takeNumber 46 = .ok (.aload_n 0, 1) := by decide +kernel
theorem dX12_takeNumber_47 : decode cX12_takeNumber 47 = .ok (.getfield 132, 3) := by decide +kernel
theorem dX12_takeNumber_50 : decode cX12_takeNumber 50 = .ok (.if_icmp .ge 79, 3) := by decide +kernel
theorem dX12_takeNumber_53 : decode cX12_takeNumber 53 = .ok (.aload_n 0, 1) := by decide +kernel
theorem dX12_takeNumber_54 : decode cX12_takeNumber 54 = .ok (.getfield 49, 3) := by decide +kernel
theorem dX12_takeNumber_57 : decode cX12_takeNumber 57 = .ok (.aload_n 0, 1) := by decide +kernel
theorem dX12_takeNumber_58 : decode cX12_takeNumber 58 = .ok (.getfield 138, 3) := by decide +kernel
theorem dX12_takeNumber_61 : decode cX12_takeNumber 61 = .ok (.iaload, 1) := by decide +kernel
theorem dX12_takeNumber_62 : decode cX12_takeNumber 62 = .ok (.i2l, 1) := by decide +kernel
theorem dX12_takeNumber_63 : decode cX12_takeNumber 63 = .ok (.ldc2_w 164, 3) := by decide +kernel
theorem dX12_takeNumber_66 : decode cX12_takeNumber 66 = .ok (.ldc2_w 166, 3) := by decide +kernel
theorem dX12_takeNumber_69 : decode cX12_takeNumber 69 = .ok (.invokestatic 121, 3) := by decide +kernel
theorem dX12_takeNumber_72 : decode cX12_takeNumber 72 = .ok (.ifCond .eq 57, 3) := by decide +kernel
theorem dX12_takeNumber_75 : decode cX12_takeNumber 75 = .ok (.aload_n 0, 1) := by decide +kernel
theorem dX12_takeNumber_76 : decode cX12_takeNumber 76 = .ok (.aload_n 0, 1) := by decide +kernel
theorem dX12_takeNumber_77 : decode cX12_takeNumber 77 = .ok (.getfield 175, 3) := by decide +kernel
theorem dX12_takeNumber_80 : decode cX12_takeNumber 80 = .ok (.sipush 10000, 3) := by decide +kernel
theorem dX12_takeNumber_83 : decode cX12_takeNumber 83 = .ok (.if_icmp .le 10, 3) := by decide +kernel
theorem dX12_takeNumber_86 : decode cX12_takeNumber 86 = .ok (.aload_n 0, 1) := by decide +kernel
theorem dX12_takeNumber_87 : decode cX12_takeNumber 87 = .ok (.getfield 175, 3) := by decide +kernel
theorem dX12_takeNumber_90 : decode cX12_takeNumber 90 = .ok (.goto 23, 3) := by decide +kernel
theorem dX12_takeNumber_93 : decode cX12_takeNumber 93 = .ok (.bipush 10, 2) := by decide +kernel
theorem dX12_takeNumber_95 : decode cX12_takeNumber 95 = .ok (.aload_n 0, 1) := by decide +kernel
theorem dX12_takeNumber_96 : decode cX12_takeNumber 96 = .ok (.getfield 175, 3) := by decide +kernel
theorem dX12_takeNumber_99 : decode cX12_takeNumber 99 = .ok (.imul, 1) := by decide +kernel
theorem dX12_takeNumber_100 : decode cX12_takeNumber 100 = .ok (.aload_n 0, 1) := by decide +kernel
theorem dX12_takeNumber_101 : decode cX12_takeNumber 101 = .ok (.getfield 49, 3) := by decide +kernel
theorem dX12_takeNumber_104 : decode cX12_takeNumber 104 = .ok (.aload_n 0, 1) := by decide +kernel
theorem dX12_takeNumber_105 : decode cX12_takeNumber 105 = .ok (.getfield 138, 3) := by decide +kernel
theorem dX12_takeNumber_108 : decode cX12_takeNumber 108 = .ok (.iaload, 1) := by decide +kernel
theorem dX12_takeNumber_109 : decode cX12_takeNumber 109 = .ok (.iadd, 1) := by decide +kernel
theorem dX12_takeNumber_110 : decode cX12_takeNumber 110 = .ok (.bipush 48, 2) := by decide +kernel
theorem dX12_takeNumber_112 : decode cX12_takeNumber 112 = .ok (.isub, 1) := by decide +kernel
theorem dX12_takeNumber_113 : decode cX12_takeNumber 113 = .ok (.putfield 175, 3) := by decide +kernel
theorem dX12_takeNumber_116 : decode cX12_takeNumber 116 = .ok (.aload_n 0, 1) := by decide +kernel
theorem dX12_takeNumber_117 : decode cX12_takeNumber 117 = .ok (.dup, 1) := by decide +kernel
theorem dX12_takeNumber_118 : decode cX12_takeNumber 118 = .ok (.getfield 138, 3) := by decide +kernel
theorem dX12_takeNumber_121 : decode cX12_takeNumber 121 = .ok (.iconst 1, 1) := by decide +kernel
theorem dX12_takeNumber_122 : decode cX12_takeNumber 122 = .ok (.iadd, 1) := by decide +kernel
theorem dX12_takeNumber_123 : decode cX12_takeNumber 123 = .ok (.putfield 138, 3) := by decide +kernel
theorem dX12_takeNumber_126 : decode cX12_takeNumber 126 = .ok (.goto (-84), 3) := by decide +kernel
theorem dX12_takeNumber_129 : decode cX12_takeNumber 129 = .ok (.aload_n 0, 1) := by decide +kernel
theorem dX12_takeNumber_130 : decode cX12_takeNumber 130 = .ok (.getfield 138, 3) := by decide +kernel
theorem dX12_takeNumber_133 : decode cX12_takeNumber 133 = .ok (.aload_n 0, 1) := by decide +kernel
theorem dX12_takeNumber_134 : decode cX12_takeNumber 134 = .ok (.getfield 172, 3) := by decide +kernel
theorem dX12_takeNumber_137 : decode cX12_takeNumber 137 = .ok (.isub, 1) := by decide +kernel
theorem dX12_takeNumber_138 : decode cX12_takeNumber 138 = .ok (.iconst 3, 1) := by decide +kernel
theorem dX12_takeNumber_139 : decode cX12_takeNumber 139 = .ok (.if_icmp .gt 18, 3) := by decide +kernel
theorem dX12_takeNumber_142 : decode cX12_takeNumber 142 = .ok (.aload_n 0, 1) := by decide +kernel
theorem dX12_takeNumber_143 : decode cX12_takeNumber 143 = .ok (.getfield 175, 3) := by decide +kernel
theorem dX12_takeNumber_146 : decode cX12_takeNumber 146 = .ok (.i2l, 1) := by decide +kernel
theorem dX12_takeNumber_147 : decode cX12_takeNumber 147 = .ok (.iload_n 1, 1) := by decide +kernel
theorem dX12_takeNumber_148 : decode cX12_takeNumber 148 = .ok (.i2l, 1) := by decide +kernel
theorem dX12_takeNumber_149 : decode cX12_takeNumber 149 = .ok (.iload_n 2, 1) := by decide +kernel
theorem dX12_takeNumber_150 : decode cX12_takeNumber 150 = .ok (.i2l, 1) := by decide +kernel
theorem dX12_takeNumber_151 : decode cX12_takeNumber 151 = .ok (.invokestatic 121, 3) := by decide +kernel
theorem dX12_takeNumber_154 : decode cX12_takeNumber 154 = .ok (.ifCond .ne 15, 3) := by decide +kernel
theorem dX12_takeNumber_157 : decode cX12_takeNumber 157 = .ok (.aload_n 0, 1) := by decide +kernel
theorem dX12_takeNumber_158 : decode cX12_takeNumber 158 = .ok (.iconst 2, 1) := by decide +kernel
theorem dX12_takeNumber_159 : decode cX12_takeNumber 159 = .ok (.aload_n 0, 1) := by decide +kernel
theorem dX12_takeNumber_160 : decode cX12_takeNumber 160 = .ok (.getfield 172, 3) := by decide +kernel
theorem dX12_takeNumber_163 : decode cX12_takeNumber 163 = .ok (.invokevirtual 168, 3) := by decide +kernel
theorem dX12_takeNumber_166 : decode cX12_takeNumber 166 = .ok (.goto 4, 3) := by decide +kernel
theorem dX12_takeNumber_169 : decode cX12_takeNumber 169 = .ok (.iconst 0, 1) := by decide +kernel
theorem dX12_takeNumber_170 : decode cX12_takeNumber 170 = .ok (.ireturn, 1) := by decide +kernel
theorem dX12_into_0 : decode cX12_into 0 = .ok (.aload_n 0, 1) := by decide +kernel
theorem dX12_into_1 : decode cX12_into 1 = .ok (.iload_n 3, 1) := by decide +kernel
theorem dX12_into_2 : decode cX12_into 2 = .ok (.iload 4, 2) := by decide +kernel
theorem dX12_into_4 : decode cX12_into 4 = .ok (.invokevirtual 178, 3) := by decide +kernel
theorem dX12_into_7 : decode cX12_into 7 = .ok (.istore 5, 2) := by decide +kernel
theorem dX12_into_9 : decode cX12_into 9 = .ok (.aload_n 1, 1) := by decide +kernel
theorem dX12_into_10 : decode cX12_into 10 = .ok (.iload_n 2, 1) := by decide +kernel
theorem dX12_into_11 : decode cX12_into 11 = .ok (.aload_n 0, 1) := by decide +kernel
theorem dX12_into_12 : decode cX12_into 12 = .ok (.getfield 175, 3) := by decide +kernel
theorem dX12_into_15 : decode cX12_into 15 = .ok (.iastore, 1) := by decide +kernel
theorem dX12_into_16 : decode cX12_into 16 = .ok (.iload 5, 2) := by decide +kernel
theorem dX12_into_18 : decode cX12_into 18 = .ok (.ireturn, 1) := by decide +kernel
theorem dX12_readAt_0 : decode cX12_readAt 0 = .ok (.iconst 0, 1) := by decide +kernel
theorem dX12_readAt_1 : decode cX12_readAt 1 = .ok (.istore_n 2, 1) := by decide +kernel
theorem dX12_readAt_2 : decode cX12_readAt 2 = .ok (.iconst 0, 1) := by decide +kernel
theorem dX12_readAt_3 : decode cX12_readAt 3 = .ok (.istore_n 3, 1) := by decide +kernel
theorem dX12_readAt_4 : decode cX12_readAt 4 = .ok (.iload_n 3, 1) := by decide +kernel
theorem dX12_readAt_5 : decode cX12_readAt 5 = .ok (.aload_n 0, 1) := by decide +kernel
theorem dX12_readAt_6 : decode cX12_readAt 6 = .ok (.getfield 181, 3) := by decide +kernel
theorem dX12_readAt_9 : decode cX12_readAt 9 = .ok (.if_icmp .ge 37, 3) := by decide +kernel
theorem dX12_readAt_12 : decode cX12_readAt 12 = .ok (.iload_n 2, 1) := by decide +kernel
theorem dX12_readAt_13 : decode cX12_readAt 13 = .ok (.aload_n 0, 1) := by decide +kernel
theorem dX12_readAt_14 : decode cX12_readAt 14 = .ok (.getfield 56, 3) := by decide +kernel
theorem dX12_readAt_17 : decode cX12_readAt 17 = .ok (.iload_n 3, 1) := by decide +kernel
theorem dX12_readAt_18 : decode cX12_readAt 18 = .ok (.iaload, 1) := by decide +kernel
theorem dX12_readAt_19 : decode cX12_readAt 19 = .ok (.iload_n 1, 1) := by decide +kernel
theorem dX12_readAt_20 : decode cX12_readAt 20 = .ok (.if_icmp .eq 13, 3) := by decide +kernel
theorem dX12_readAt_23 : decode cX12_readAt 23 = .ok (.aload_n 0, 1) := by decide +kernel
theorem dX12_readAt_24 : decode cX12_readAt 24 = .ok (.getfield 59, 3) := by decide +kernel
theorem dX12_readAt_27 : decode cX12_readAt 27 = .ok (.iload_n 3, 1) := by decide +kernel
theorem dX12_readAt_28 : decode cX12_readAt 28 = .ok (.iaload, 1) := by decide +kernel
theorem dX12_readAt_29 : decode cX12_readAt 29 = .ok (.iload_n 1, 1) := by decide +kernel
theorem dX12_readAt_30 : decode cX12_readAt 30 = .ok (.if_icmp .ne 7, 3) := by decide +kernel
theorem dX12_readAt_33 : decode cX12_readAt 33 = .ok (.iconst 1, 1) := by decide +kernel
theorem dX12_readAt_34 : decode cX12_readAt 34 = .ok (.goto 4, 3) := by decide +kernel
theorem dX12_readAt_37 : decode cX12_readAt 37 = .ok (.iconst 0, 1) := by decide +kernel
theorem dX12_readAt_38 : decode cX12_readAt 38 = .ok (.iadd, 1) := by decide +kernel
theorem dX12_readAt_39 : decode cX12_readAt 39 = .ok (.istore_n 2, 1) := by decide +kernel
theorem dX12_readAt_40 : decode cX12_readAt 40 = .ok (.iinc 3 1, 3) := by decide +kernel
theorem dX12_readAt_43 : decode cX12_readAt 43 = .ok (.goto (-39), 3) := by decide +kernel
theorem dX12_readAt_46 : decode cX12_readAt 46 = .ok (.iload_n 2, 1) := by decide +kernel
theorem dX12_readAt_47 : decode cX12_readAt 47 = .ok (.ireturn, 1) := by decide +kernel
theorem dX12_takeRoad_0 : decode cX12_takeRoad 0 = .ok (.aload_n 0, 1) := by decide +kernel
theorem dX12_takeRoad_1 : decode cX12_takeRoad 1 = .ok (.getfield 181, 3) := by decide +kernel
theorem dX12_takeRoad_4 : decode cX12_takeRoad 4 = .ok (.istore_n 1, 1) := by decide +kernel
theorem dX12_takeRoad_5 : decode cX12_takeRoad 5 = .ok (.aload_n 0, 1) := by decide +kernel
theorem dX12_takeRoad_6 : decode cX12_takeRoad 6 = .ok (.aload_n 0, 1) := by decide +kernel
theorem dX12_takeRoad_7 : decode cX12_takeRoad 7 = .ok (.getfield 56, 3) := by decide +kernel
theorem dX12_takeRoad_10 : decode cX12_takeRoad 10 = .ok (.iload_n 1, 1) := by decide +kernel
theorem dX12_takeRoad_11 : decode cX12_takeRoad 11 = .ok (.iconst 0, 1) := by decide +kernel
theorem dX12_takeRoad_12 : decode cX12_takeRoad 12 = .ok (.aload_n 0, 1) := by decide +kernel
theorem dX12_takeRoad_13 : decode cX12_takeRoad 13 = .ok (.getfield 184, 3) := by decide +kernel
theorem dX12_takeRoad_16 : decode cX12_takeRoad 16 = .ok (.iconst 1, 1) := by decide +kernel
theorem dX12_takeRoad_17 : decode cX12_takeRoad 17 = .ok (.isub, 1) := by decide +kernel
theorem dX12_takeRoad_18 : decode cX12_takeRoad 18 = .ok (.invokevirtual 187, 3) := by decide +kernel
theorem dX12_takeRoad_21 : decode cX12_takeRoad 21 = .ok (.istore_n 2, 1) := by decide +kernel
theorem dX12_takeRoad_22 : decode cX12_takeRoad 22 = .ok (.iload_n 2, 1) := by decide +kernel
theorem dX12_takeRoad_23 : decode cX12_takeRoad 23 = .ok (.ifCond .le 7, 3) := by decide +kernel
theorem dX12_takeRoad_26 : decode cX12_takeRoad 26 = .ok (.iload_n 2, 1) := by decide +kernel
theorem dX12_takeRoad_27 : decode cX12_takeRoad 27 = .ok (.goto 19, 3) := by decide +kernel
theorem dX12_takeRoad_30 : decode cX12_takeRoad 30 = .ok (.aload_n 0, 1) := by decide +kernel
theorem dX12_takeRoad_31 : decode cX12_takeRoad 31 = .ok (.aload_n 0, 1) := by decide +kernel
theorem dX12_takeRoad_32 : decode cX12_takeRoad 32 = .ok (.getfield 59, 3) := by decide +kernel
theorem dX12_takeRoad_35 : decode cX12_takeRoad 35 = .ok (.iload_n 1, 1) := by decide +kernel
theorem dX12_takeRoad_36 : decode cX12_takeRoad 36 = .ok (.iconst 0, 1) := by decide +kernel
theorem dX12_takeRoad_37 : decode cX12_takeRoad 37 = .ok (.aload_n 0, 1) := by decide +kernel
theorem dX12_takeRoad_38 : decode cX12_takeRoad 38 = .ok (.getfield 184, 3) := by decide +kernel
theorem dX12_takeRoad_41 : decode cX12_takeRoad 41 = .ok (.iconst 1, 1) := by decide +kernel
theorem dX12_takeRoad_42 : decode cX12_takeRoad 42 = .ok (.isub, 1) := by decide +kernel
theorem dX12_takeRoad_43 : decode cX12_takeRoad 43 = .ok (.invokevirtual 187, 3) := by decide +kernel
theorem dX12_takeRoad_46 : decode cX12_takeRoad 46 = .ok (.istore_n 2, 1) := by decide +kernel
theorem dX12_takeRoad_47 : decode cX12_takeRoad 47 = .ok (.iload_n 2, 1) := by decide +kernel
theorem dX12_takeRoad_48 : decode cX12_takeRoad 48 = .ok (.ifCond .le 5, 3) := by decide +kernel
theorem dX12_takeRoad_51 : decode cX12_takeRoad 51 = .ok (.iload_n 2, 1) := by decide +kernel
theorem dX12_takeRoad_52 : decode cX12_takeRoad 52 = .ok (.ireturn, 1) := by decide +kernel
theorem dX12_takeRoad_53 : decode cX12_takeRoad 53 = .ok (.aload_n 0, 1) := by decide +kernel
theorem dX12_takeRoad_54 : decode cX12_takeRoad 54 = .ok (.getfield 56, 3) := by decide +kernel
theorem dX12_takeRoad_57 : decode cX12_takeRoad 57 = .ok (.iload_n 1, 1) := by decide +kernel
theorem dX12_takeRoad_58 : decode cX12_takeRoad 58 = .ok (.iaload, 1) := by decide +kernel
theorem dX12_takeRoad_59 : decode cX12_takeRoad 59 = .ok (.istore_n 3, 1) := by decide +kernel
theorem dX12_takeRoad_60 : decode cX12_takeRoad 60 = .ok (.aload_n 0, 1) := by decide +kernel
theorem dX12_takeRoad_61 : decode cX12_takeRoad 61 = .ok (.getfield 59, 3) := by decide +kernel
theorem dX12_takeRoad_64 : decode cX12_takeRoad 64 = .ok (.iload_n 1, 1) := by decide +kernel
theorem dX12_takeRoad_65 : decode cX12_takeRoad 65 = .ok (.iaload, 1) := by decide +kernel
theorem dX12_takeRoad_66 : decode cX12_takeRoad 66 = .ok (.istore 4, 2) := by decide +kernel
theorem dX12_takeRoad_68 : decode cX12_takeRoad 68 = .ok (.iload_n 3, 1) := by decide +kernel
theorem dX12_takeRoad_69 : decode cX12_takeRoad 69 = .ok (.iload 4, 2) := by decide +kernel
theorem dX12_takeRoad_71 : decode cX12_takeRoad 71 = .ok (.if_icmp .eq 26, 3) := by decide +kernel
theorem dX12_takeRoad_74 : decode cX12_takeRoad 74 = .ok (.aload_n 0, 1) := by decide +kernel
theorem dX12_takeRoad_75 : decode cX12_takeRoad 75 = .ok (.iload_n 3, 1) := by decide +kernel
theorem dX12_takeRoad_76 : decode cX12_takeRoad 76 = .ok (.invokevirtual 191, 3) := by decide +kernel
theorem dX12_takeRoad_79 : decode cX12_takeRoad 79 = .ok (.iconst 5, 1) := by decide +kernel
theorem dX12_takeRoad_80 : decode cX12_takeRoad 80 = .ok (.if_icmp .ge 17, 3) := by decide +kernel
theorem dX12_takeRoad_83 : decode cX12_takeRoad 83 = .ok (.aload_n 0, 1) := by decide +kernel
theorem dX12_takeRoad_84 : decode cX12_takeRoad 84 = .ok (.iload 4, 2) := by decide +kernel
theorem dX12_takeRoad_86 : decode cX12_takeRoad 86 = .ok (.invokevirtual 191, 3) := by decide +kernel
theorem dX12_takeRoad_89 : decode cX12_takeRoad 89 = .ok (.iconst 5, 1) := by decide +kernel
theorem dX12_takeRoad_90 : decode cX12_takeRoad 90 = .ok (.if_icmp .ge 7, 3) := by decide +kernel
theorem dX12_takeRoad_93 : decode cX12_takeRoad 93 = .ok (.iconst 1, 1) := by decide +kernel
theorem dX12_takeRoad_94 : decode cX12_takeRoad 94 = .ok (.goto 4, 3) := by decide +kernel
theorem dX12_takeRoad_97 : decode cX12_takeRoad 97 = .ok (.iconst 0, 1) := by decide +kernel
theorem dX12_takeRoad_98 : decode cX12_takeRoad 98 = .ok (.istore 5, 2) := by decide +kernel
theorem dX12_takeRoad_100 : decode cX12_takeRoad 100 = .ok (.iconst 0, 1) := by decide +kernel
theorem dX12_takeRoad_101 : decode cX12_takeRoad 101 = .ok (.istore 6, 2) := by decide +kernel
theorem dX12_takeRoad_103 : decode cX12_takeRoad 103 = .ok (.iload 6, 2) := by decide +kernel
theorem dX12_takeRoad_105 : decode cX12_takeRoad 105 = .ok (.iload_n 1, 1) := by decide +kernel
theorem dX12_takeRoad_106 : decode cX12_takeRoad 106 = .ok (.if_icmp .ge 67, 3) := by decide +kernel
theorem dX12_takeRoad_109 : decode cX12_takeRoad 109 = .ok (.iload 5, 2) := by decide +kernel
theorem dX12_takeRoad_111 : decode cX12_takeRoad 111 = .ok (.ifCond .eq 53, 3) := by decide +kernel
theorem dX12_takeRoad_114 : decode cX12_takeRoad 114 = .ok (.aload_n 0, 1) := by decide +kernel
theorem dX12_takeRoad_115 : decode cX12_takeRoad 115 = .ok (.getfield 56, 3) := by decide +kernel
theorem dX12_takeRoad_118 : decode cX12_takeRoad 118 = .ok (.iload 6, 2) := by decide +kernel
theorem dX12_takeRoad_120 : decode cX12_takeRoad 120 = .ok (.iaload, 1) := by decide +kernel
theorem dX12_takeRoad_121 : decode cX12_takeRoad 121 = .ok (.iload_n 3, 1) := by decide +kernel
theorem dX12_takeRoad_122 : decode cX12_takeRoad 122 = .ok (.if_icmp .ne 15, 3) := by decide +kernel
theorem dX12_takeRoad_125 : decode cX12_takeRoad 125 = .ok (.aload_n 0, 1) := by decide +kernel
theorem dX12_takeRoad_126 : decode cX12_takeRoad 126 = .ok (.getfield 59, 3) := by decide +kernel
theorem dX12_takeRoad_129 : decode cX12_takeRoad 129 = .ok (.iload 6, 2) := by decide +kernel
theorem dX12_takeRoad_131 : decode cX12_takeRoad 131 = .ok (.iaload, 1) := by decide +kernel
theorem dX12_takeRoad_132 : decode cX12_takeRoad 132 = .ok (.iload 4, 2) := by decide +kernel
theorem dX12_takeRoad_134 : decode cX12_takeRoad 134 = .ok (.if_icmp .eq 30, 3) := by decide +kernel
theorem dX12_takeRoad_137 : decode cX12_takeRoad 137 = .ok (.aload_n 0, 1) := by decide +kernel
theorem dX12_takeRoad_138 : decode cX12_takeRoad 138 = .ok (.getfield 56, 3) := by decide +kernel
theorem dX12_takeRoad_141 : decode cX12_takeRoad 141 = .ok (.iload 6, 2) := by decide +kernel
theorem dX12_takeRoad_143 : decode cX12_takeRoad 143 = .ok (.iaload, 1) := by decide +kernel
theorem dX12_takeRoad_144 : decode cX12_takeRoad 144 = .ok (.iload 4, 2) := by decide +kernel
theorem dX12_takeRoad_146 : decode cX12_takeRoad 146 = .ok (.if_icmp .ne 14, 3) := by decide +kernel
theorem dX12_takeRoad_149 : decode cX12_takeRoad 149 = .ok (.aload_n 0, 1) := by decide +kernel
theorem dX12_takeRoad_150 : decode cX12_takeRoad 150 = .ok (.getfield 59, 3) := by decide +kernel
theorem dX12_takeRoad_153 : decode cX12_takeRoad 153 = .ok (.iload 6, 2) := by decide +kernel
theorem dX12_takeRoad_155 : decode cX12_takeRoad 155 = .ok (.iaload, 1) := by decide +kernel
theorem dX12_takeRoad_156 : decode cX12_takeRoad 156 = .ok (.iload_n 3, 1) := by decide +kernel
theorem dX12_takeRoad_157 : decode cX12_takeRoad 157 = .ok (.if_icmp .eq 7, 3) := by decide +kernel
theorem dX12_takeRoad_160 : decode cX12_takeRoad 160 = .ok (.iconst 1, 1) := by decide +kernel
theorem dX12_takeRoad_161 : decode cX12_takeRoad 161 = .ok (.goto 4, 3) := by decide +kernel
theorem dX12_takeRoad_164 : decode cX12_takeRoad 164 = .ok (.iconst 0, 1) := by decide +kernel
theorem dX12_takeRoad_165 : decode cX12_takeRoad 165 = .ok (.istore 5, 2) := by decide +kernel
theorem dX12_takeRoad_167 : decode cX12_takeRoad 167 = .ok (.iinc 6 1, 3) := by decide +kernel
theorem dX12_takeRoad_170 : decode cX12_takeRoad 170 = .ok (.goto (-67), 3) := by decide +kernel
theorem dX12_takeRoad_173 : decode cX12_takeRoad 173 = .ok (.iload 5, 2) := by decide +kernel
theorem dX12_takeRoad_175 : decode cX12_takeRoad 175 = .ok (.ifCond .ne 13, 3) := by decide +kernel
theorem dX12_takeRoad_178 : decode cX12_takeRoad 178 = .ok (.aload_n 0, 1) := by decide +kernel
theorem dX12_takeRoad_179 : decode cX12_takeRoad 179 = .ok (.iconst 4, 1) := by decide +kernel
theorem dX12_takeRoad_180 : decode cX12_takeRoad 180 = .ok (.aload_n 0, 1) := by decide +kernel
theorem dX12_takeRoad_181 : decode cX12_takeRoad 181 = .ok (.getfield 172, 3) := by decide +kernel
theorem dX12_takeRoad_184 : decode cX12_takeRoad 184 = .ok (.invokevirtual 168, 3) := by decide +kernel
theorem dX12_takeRoad_187 : decode cX12_takeRoad 187 = .ok (.ireturn, 1) := by decide +kernel
theorem dX12_takeRoad_188 : decode cX12_takeRoad 188 = .ok (.aload_n 0, 1) := by decide +kernel
theorem dX12_takeRoad_189 : decode cX12_takeRoad 189 = .ok (.aload_n 0, 1) := by decide +kernel
theorem dX12_takeRoad_190 : decode cX12_takeRoad 190 = .ok (.getfield 62, 3) := by decide +kernel
theorem dX12_takeRoad_193 : decode cX12_takeRoad 193 = .ok (.iload_n 1, 1) := by decide +kernel
theorem dX12_takeRoad_194 : decode cX12_takeRoad 194 = .ok (.iconst 1, 1) := by decide +kernel
theorem dX12_takeRoad_195 : decode cX12_takeRoad 195 = .ok (.bipush 99, 2) := by decide +kernel
theorem dX12_takeRoad_197 : decode cX12_takeRoad 197 = .ok (.invokevirtual 187, 3) := by decide +kernel
theorem dX12_takeRoad_200 : decode cX12_takeRoad 200 = .ok (.istore_n 2, 1) := by decide +kernel
theorem dX12_takeRoad_201 : decode cX12_takeRoad 201 = .ok (.aload_n 0, 1) := by decide +kernel
theorem dX12_takeRoad_202 : decode cX12_takeRoad 202 = .ok (.dup, 1) := by decide +kernel
theorem dX12_takeRoad_203 : decode cX12_takeRoad 203 = .ok (.getfield 181, 3) := by decide +kernel
theorem dX12_takeRoad_206 : decode cX12_takeRoad 206 = .ok (.iconst 1, 1) := by decide +kernel
theorem dX12_takeRoad_207 : decode cX12_takeRoad 207 = .ok (.iadd, 1) := by decide +kernel
theorem dX12_takeRoad_208 : decode cX12_takeRoad 208 = .ok (.putfield 181, 3) := by decide +kernel
theorem dX12_takeRoad_211 : decode cX12_takeRoad 211 = .ok (.iload_n 2, 1) := by decide +kernel
theorem dX12_takeRoad_212 : decode cX12_takeRoad 212 = .ok (.ireturn, 1) := by decide +kernel
theorem dX12_takeTravel_0 : decode cX12_takeTravel 0 = .ok (.aload_n 0, 1) := by decide +kernel
theorem dX12_takeTravel_1 : decode cX12_takeTravel 1 = .ok (.getfield 195, 3) := by decide +kernel
theorem dX12_takeTravel_4 : decode cX12_takeTravel 4 = .ok (.istore_n 1, 1) := by decide +kernel
theorem dX12_takeTravel_5 : decode cX12_takeTravel 5 = .ok (.aload_n 0, 1) := by decide +kernel
theorem dX12_takeTravel_6 : decode cX12_takeTravel 6 = .ok (.aload_n 0, 1) := by decide +kernel
theorem dX12_takeTravel_7 : decode cX12_takeTravel 7 = .ok (.getfield 65, 3) := by decide +kernel
theorem dX12_takeTravel_10 : decode cX12_takeTravel 10 = .ok (.iload_n 1, 1) := by decide +kernel
theorem dX12_takeTravel_11 : decode cX12_takeTravel 11 = .ok (.iconst 0, 1) := by decide +kernel
theorem dX12_takeTravel_12 : decode cX12_takeTravel 12 = .ok (.aload_n 0, 1) := by decide +kernel
theorem dX12_takeTravel_13 : decode cX12_takeTravel 13 = .ok (.getfield 184, 3) := by decide +kernel
theorem dX12_takeTravel_16 : decode cX12_takeTravel 16 = .ok (.iconst 1, 1) := by decide +kernel
theorem dX12_takeTravel_17 : decode cX12_takeTravel 17 = .ok (.isub, 1) := by decide +kernel
theorem dX12_takeTravel_18 : decode cX12_takeTravel 18 = .ok (.invokevirtual 187, 3) := by decide +kernel
theorem dX12_takeTravel_21 : decode cX12_takeTravel 21 = .ok (.istore_n 2, 1) := by decide +kernel
theorem dX12_takeTravel_22 : decode cX12_takeTravel 22 = .ok (.iload_n 2, 1) := by decide +kernel
theorem dX12_takeTravel_23 : decode cX12_takeTravel 23 = .ok (.ifCond .le 7, 3) := by decide +kernel
theorem dX12_takeTravel_26 : decode cX12_takeTravel 26 = .ok (.iload_n 2, 1) := by decide +kernel
theorem dX12_takeTravel_27 : decode cX12_takeTravel 27 = .ok (.goto 19, 3) := by decide +kernel
theorem dX12_takeTravel_30 : decode cX12_takeTravel 30 = .ok (.aload_n 0, 1) := by decide +kernel
theorem dX12_takeTravel_31 : decode cX12_takeTravel 31 = .ok (.aload_n 0, 1) := by decide +kernel
theorem dX12_takeTravel_32 : decode cX12_takeTravel 32 = .ok (.getfield 68, 3) := by decide +kernel
theorem dX12_takeTravel_35 : decode cX12_takeTravel 35 = .ok (.iload_n 1, 1) := by decide +kernel
theorem dX12_takeTravel_36 : decode cX12_takeTravel 36 = .ok (.iconst 0, 1) := by decide +kernel
theorem dX12_takeTravel_37 : decode cX12_takeTravel 37 = .ok (.aload_n 0, 1) := by decide +kernel
theorem dX12_takeTravel_38 : decode cX12_takeTravel 38 = .ok (.getfield 184, 3) := by decide +kernel
theorem dX12_takeTravel_41 : decode cX12_takeTravel 41 = .ok (.iconst 1, 1) := by decide +kernel
theorem dX12_takeTravel_42 : decode cX12_takeTravel 42 = .ok (.isub, 1) := by decide +kernel
theorem dX12_takeTravel_43 : decode cX12_takeTravel 43 = .ok (.invokevirtual 187, 3) := by decide +kernel
theorem dX12_takeTravel_46 : decode cX12_takeTravel 46 = .ok (.istore_n 2, 1) := by decide +kernel
theorem dX12_takeTravel_47 : decode cX12_takeTravel 47 = .ok (.iload_n 2, 1) := by decide +kernel
theorem dX12_takeTravel_48 : decode cX12_takeTravel 48 = .ok (.ifCond .le 5, 3) := by decide +kernel
theorem dX12_takeTravel_51 : decode cX12_takeTravel 51 = .ok (.iload_n 2, 1) := by decide +kernel
theorem dX12_takeTravel_52 : decode cX12_takeTravel 52 = .ok (.ireturn, 1) := by decide +kernel
theorem dX12_takeTravel_53 : decode cX12_takeTravel 53 = .ok (.aload_n 0, 1) := by decide +kernel
theorem dX12_takeTravel_54 : decode cX12_takeTravel 54 = .ok (.getfield 65, 3) := by decide +kernel
theorem dX12_takeTravel_57 : decode cX12_takeTravel 57 = .ok (.iload_n 1, 1) := by decide +kernel
theorem dX12_takeTravel_58 : decode cX12_takeTravel 58 = .ok (.iaload, 1) := by decide +kernel
theorem dX12_takeTravel_59 : decode cX12_takeTravel 59 = .ok (.aload_n 0, 1) := by decide +kernel
theorem dX12_takeTravel_60 : decode cX12_takeTravel 60 = .ok (.getfield 68, 3) := by decide +kernel
theorem dX12_takeTravel_63 : decode cX12_takeTravel 63 = .ok (.iload_n 1, 1) := by decide +kernel
theorem dX12_takeTravel_64 : decode cX12_takeTravel 64 = .ok (.iaload, 1) := by decide +kernel
theorem dX12_takeTravel_65 : decode cX12_takeTravel 65 = .ok (.if_icmp .ne 13, 3) := by decide +kernel
theorem dX12_takeTravel_68 : decode cX12_takeTravel 68 = .ok (.aload_n 0, 1) := by decide +kernel
theorem dX12_takeTravel_69 : decode cX12_takeTravel 69 = .ok (.iconst 4, 1) := by decide +kernel
theorem dX12_takeTravel_70 : decode cX12_takeTravel 70 = .ok (.aload_n 0, 1) := by decide +kernel
theorem dX12_takeTravel_71 : decode cX12_takeTravel 71 = .ok (.getfield 172, 3) := by decide +kernel
theorem dX12_takeTravel_74 : decode cX12_takeTravel 74 = .ok (.invokevirtual 168, 3) := by decide +kernel
theorem dX12_takeTravel_77 : decode cX12_takeTravel 77 = .ok (.ireturn, 1) := by decide +kernel
theorem dX12_takeTravel_78 : decode cX12_takeTravel 78 = .ok (.aload_n 0, 1) := by decide +kernel
theorem dX12_takeTravel_79 : decode cX12_takeTravel 79 = .ok (.dup, 1) := by decide +kernel
theorem dX12_takeTravel_80 : decode cX12_takeTravel 80 = .ok (.getfield 195, 3) := by decide +kernel
theorem dX12_takeTravel_83 : decode cX12_takeTravel 83 = .ok (.iconst 1, 1) := by decide +kernel
theorem dX12_takeTravel_84 : decode cX12_takeTravel 84 = .ok (.iadd, 1) := by decide +kernel
theorem dX12_takeTravel_85 : decode cX12_takeTravel 85 = .ok (.putfield 195, 3) := by decide +kernel
theorem dX12_takeTravel_88 : decode cX12_takeTravel 88 = .ok (.aload_n 0, 1) := by decide +kernel
theorem dX12_takeTravel_89 : decode cX12_takeTravel 89 = .ok (.aload_n 0, 1) := by decide +kernel
theorem dX12_takeTravel_90 : decode cX12_takeTravel 90 = .ok (.getfield 71, 3) := by decide +kernel
theorem dX12_takeTravel_93 : decode cX12_takeTravel 93 = .ok (.iload_n 1, 1) := by decide +kernel
theorem dX12_takeTravel_94 : decode cX12_takeTravel 94 = .ok (.iconst 1, 1) := by decide +kernel
theorem dX12_takeTravel_95 : decode cX12_takeTravel 95 = .ok (.bipush 99, 2) := by decide +kernel
theorem dX12_takeTravel_97 : decode cX12_takeTravel 97 = .ok (.invokevirtual 187, 3) := by decide +kernel
theorem dX12_takeTravel_100 : decode cX12_takeTravel 100 = .ok (.ireturn, 1) := by decide +kernel
theorem dX12_takeClause_0 : decode cX12_takeClause 0 = .ok (.aload_n 0, 1) := by decide +kernel
theorem dX12_takeClause_1 : decode cX12_takeClause 1 = .ok (.invokevirtual 198, 3) := by decide +kernel
theorem dX12_takeClause_4 : decode cX12_takeClause 4 = .ok (.aload_n 0, 1) := by decide +kernel
theorem dX12_takeClause_5 : decode cX12_takeClause 5 = .ok (.getfield 145, 3) := by decide +kernel
theorem dX12_takeClause_8 : decode cX12_takeClause 8 = .ok (.ldc2_w 160, 3) := by decide +kernel
theorem dX12_takeClause_11 : decode cX12_takeClause 11 = .ok (.ldc2_w 160, 3) := by decide +kernel
theorem dX12_takeClause_14 : decode cX12_takeClause 14 = .ok (.bipush 112, 2) := by decide +kernel
theorem dX12_takeClause_16 : decode cX12_takeClause 16 = .ok (.bipush 108, 2) := by decide +kernel
theorem dX12_takeClause_18 : decode cX12_takeClause 18 = .ok (.bipush 97, 2) := by decide +kernel
theorem dX12_takeClause_20 : decode cX12_takeClause 20 = .ok (.bipush 99, 2) := by decide +kernel
theorem dX12_takeClause_22 : decode cX12_takeClause 22 = .ok (.invokestatic 201, 3) := by decide +kernel
theorem dX12_takeClause_25 : decode cX12_takeClause 25 = .ok (.lmul, 1) := by decide +kernel
theorem dX12_takeClause_26 : decode cX12_takeClause 26 = .ok (.ldc2_w 205, 3) := by decide +kernel
theorem dX12_takeClause_29 : decode cX12_takeClause 29 = .ok (.ladd, 1) := by decide +kernel
theorem dX12_takeClause_30 : decode cX12_takeClause 30 = .ok (.ldc2_w 162, 3) := by decide +kernel
theorem dX12_takeClause_33 : decode cX12_takeClause 33 = .ok (.lsub, 1) := by decide +kernel
theorem dX12_takeClause_34 : decode cX12_takeClause 34 = .ok (.lmul, 1) := by decide +kernel
theorem dX12_takeClause_35 : decode cX12_takeClause 35 = .ok (.ldc2_w 207, 3) := by decide +kernel
theorem dX12_takeClause_38 : decode cX12_takeClause 38 = .ok (.ladd, 1) := by decide +kernel
theorem dX12_takeClause_39 : decode cX12_takeClause 39 = .ok (.ldc2_w 162, 3) := by decide +kernel
theorem dX12_takeClause_42 : decode cX12_takeClause 42 = .ok (.lsub, 1) := by decide +kernel
theorem dX12_takeClause_43 : decode cX12_takeClause 43 = .ok (.lcmp, 1) := by decide +kernel
theorem dX12_takeClause_44 : decode cX12_takeClause 44 = .ok (.ifCond .ne 7, 3) := by decide +kernel
theorem dX12_takeClause_47 : decode cX12_takeClause 47 = .ok (.iconst 0, 1) := by decide +kernel
theorem dX12_takeClause_48 : decode cX12_takeClause 48 = .ok (.goto 50, 3) := by decide +kernel
theorem dX12_takeClause_51 : decode cX12_takeClause 51 = .ok (.aload_n 0, 1) := by decide +kernel
theorem dX12_takeClause_52 : decode cX12_takeClause 52 = .ok (.getfield 145, 3) := by decide +kernel
theorem dX12_takeClause_55 : decode cX12_takeClause 55 = .ok (.bipush 114, 2) := by decide +kernel
theorem dX12_takeClause_57 : decode cX12_takeClause 57 = .ok (.bipush 111, 2) := by decide +kernel
theorem dX12_takeClause_59 : decode cX12_takeClause 59 = .ok (.bipush 97, 2) := by decide +kernel
theorem dX12_takeClause_61 : decode cX12_takeClause 61 = .ok (.bipush 100, 2) := by decide +kernel
theorem dX12_takeClause_63 : decode cX12_takeClause 63 = .ok (.invokestatic 201, 3) := by decide +kernel
theorem dX12_takeClause_66 : decode cX12_takeClause 66 = .ok (.lcmp, 1) := by decide +kernel
theorem dX12_takeClause_67 : decode cX12_takeClause 67 = .ok (.ifCond .ne 7, 3) := by decide +kernel
theorem dX12_takeClause_70 : decode cX12_takeClause 70 = .ok (.iconst 1, 1) := by decide +kernel
theorem dX12_takeClause_71 : decode cX12_takeClause 71 = .ok (.goto 27, 3) := by decide +kernel
theorem dX12_takeClause_74 : decode cX12_takeClause 74 = .ok (.aload_n 0, 1) := by decide +kernel
theorem dX12_takeClause_75 : decode cX12_takeClause 75 = .ok (.getfield 145, 3) := by decide +kernel
theorem dX12_takeClause_78 : decode cX12_takeClause 78 = .ok (.bipush 103, 2) := by decide +kernel
theorem dX12_takeClause_80 : decode cX12_takeClause 80 = .ok (.bipush 111, 2) := by decide +kernel
theorem dX12_takeClause_82 : decode cX12_takeClause 82 = .ok (.bipush 101, 2) := by decide +kernel
theorem dX12_takeClause_84 : decode cX12_takeClause 84 = .ok (.bipush 115, 2) := by decide +kernel
theorem dX12_takeClause_86 : decode cX12_takeClause 86 = .ok (.invokestatic 201, 3) := by decide +kernel
theorem dX12_takeClause_89 : decode cX12_takeClause 89 = .ok (.lcmp, 1) := by decide +kernel
theorem dX12_takeClause_90 : decode cX12_takeClause 90 = .ok (.ifCond .ne 7, 3) := by decide +kernel
theorem dX12_takeClause_93 : decode cX12_takeClause 93 = .ok (.iconst 2, 1) := by decide +kernel
theorem dX12_takeClause_94 : decode cX12_takeClause 94 = .ok (.goto 4, 3) := by decide +kernel
theorem dX12_takeClause_97 : decode cX12_takeClause 97 = .ok (.iconst (-1), 1) := by decide +kernel
theorem dX12_takeClause_98 : decode cX12_takeClause 98 = .ok (.istore_n 1, 1) := by decide +kernel
theorem dX12_takeClause_99 : decode cX12_takeClause 99 = .ok (.iload_n 1, 1) := by decide +kernel
theorem dX12_takeClause_100 : decode cX12_takeClause 100 = .ok (.ifCond .lt 14, 3) := by decide +kernel
theorem dX12_takeClause_103 : decode cX12_takeClause 103 = .ok (.iload_n 1, 1) := by decide +kernel
theorem dX12_takeClause_104 : decode cX12_takeClause 104 = .ok (.ifCond .le 20, 3) := by decide +kernel
theorem dX12_takeClause_107 : decode cX12_takeClause 107 = .ok (.aload_n 0, 1) := by decide +kernel
theorem dX12_takeClause_108 : decode cX12_takeClause 108 = .ok (.getfield 184, 3) := by decide +kernel
theorem dX12_takeClause_111 : decode cX12_takeClause 111 = .ok (.ifCond .ne 13, 3) := by decide +kernel
theorem dX12_takeClause_114 : decode cX12_takeClause 114 = .ok (.aload_n 0, 1) := by decide +kernel
theorem dX12_takeClause_115 : decode cX12_takeClause 115 = .ok (.iconst 1, 1) := by decide +kernel
theorem dX12_takeClause_116 : decode cX12_takeClause 116 = .ok (.aload_n 0, 1) := by decide +kernel
theorem dX12_takeClause_117 : decode cX12_takeClause 117 = .ok (.getfield 138, 3) := by decide +kernel
theorem dX12_takeClause_120 : decode cX12_takeClause 120 = .ok (.invokevirtual 168, 3) := by decide +kernel
theorem dX12_takeClause_123 : decode cX12_takeClause 123 = .ok (.ireturn, 1) := by decide +kernel
theorem dX12_takeClause_124 : decode cX12_takeClause 124 = .ok (.iload_n 1, 1) := by decide +kernel
theorem dX12_takeClause_125 : decode cX12_takeClause 125 = .ok (.ifCond .ne 13, 3) := by decide +kernel
theorem dX12_takeClause_128 : decode cX12_takeClause 128 = .ok (.aload_n 0, 1) := by decide +kernel
theorem dX12_takeClause_129 : decode cX12_takeClause 129 = .ok (.getfield 184, 3) := by decide +kernel
theorem dX12_takeClause_132 : decode cX12_takeClause 132 = .ok (.ifCond .le 42, 3) := by decide +kernel
theorem dX12_takeClause_135 : decode cX12_takeClause 135 = .ok (.goto 29, 3) := by decide +kernel
theorem dX12_takeClause_138 : decode cX12_takeClause 138 = .ok (.iload_n 1, 1) := by decide +kernel
theorem dX12_takeClause_139 : decode cX12_takeClause 139 = .ok (.iconst 1, 1) := by decide +kernel
theorem dX12_takeClause_140 : decode cX12_takeClause 140 = .ok (.if_icmp .ne 15, 3) := by decide +kernel
theorem dX12_takeClause_143 : decode cX12_takeClause 143 = .ok (.aload_n 0, 1) := by decide +kernel
theorem dX12_takeClause_144 : decode cX12_takeClause 144 = .ok (.getfield 181, 3) := by decide +kernel
theorem dX12_takeClause_147 : decode cX12_takeClause 147 = .ok (.bipush 14, 2) := by decide +kernel
theorem dX12_takeClause_149 : decode cX12_takeClause 149 = .ok (.if_icmp .ne 25, 3) := by decide +kernel
theorem dX12_takeClause_152 : decode cX12_takeClause 152 = .ok (.goto 12, 3) := by decide +kernel
theorem dX12_takeClause_155 : decode cX12_takeClause 155 = .ok (.aload_n 0, 1) := by decide +kernel
theorem dX12_takeClause_156 : decode cX12_takeClause 156 = .ok (.getfield 195, 3) := by decide +kernel
theorem dX12_takeClause_159 : decode cX12_takeClause 159 = .ok (.bipush 20, 2) := by decide +kernel
theorem dX12_takeClause_161 : decode cX12_takeClause 161 = .ok (.if_icmp .ne 13, 3) := by decide +kernel
theorem dX12_takeClause_164 : decode cX12_takeClause 164 = .ok (.aload_n 0, 1) := by decide +kernel
theorem dX12_takeClause_165 : decode cX12_takeClause 165 = .ok (.iconst 3, 1) := by decide +kernel
theorem dX12_takeClause_166 : decode cX12_takeClause 166 = .ok (.aload_n 0, 1) := by decide +kernel
theorem dX12_takeClause_167 : decode cX12_takeClause 167 = .ok (.getfield 138, 3) := by decide +kernel
theorem dX12_takeClause_170 : decode cX12_takeClause 170 = .ok (.invokevirtual 168, 3) := by decide +kernel
theorem dX12_takeClause_173 : decode cX12_takeClause 173 = .ok (.ireturn, 1) := by decide +kernel
theorem dX12_takeClause_174 : decode cX12_takeClause 174 = .ok (.aload_n 0, 1) := by decide +kernel
theorem dX12_takeClause_175 : decode cX12_takeClause 175 = .ok (.aload_n 0, 1) := by decide +kernel
theorem dX12_takeClause_176 : decode cX12_takeClause 176 = .ok (.getfield 149, 3) := by decide +kernel
theorem dX12_takeClause_179 : decode cX12_takeClause 179 = .ok (.putfield 138, 3) := by decide +kernel
theorem dX12_takeClause_182 : decode cX12_takeClause 182 = .ok (.iconst 0, 1) := by decide +kernel
theorem dX12_takeClause_183 : decode cX12_takeClause 183 = .ok (.istore_n 2, 1) := by decide +kernel
theorem dX12_takeClause_184 : decode cX12_takeClause 184 = .ok (.iload_n 1, 1) := by decide +kernel
theorem dX12_takeClause_185 : decode cX12_takeClause 185 = .ok (.ifCond .ne 22, 3) := by decide +kernel
theorem dX12_takeClause_188 : decode cX12_takeClause 188 = .ok (.aload_n 0, 1) := by decide +kernel
theorem dX12_takeClause_189 : decode cX12_takeClause 189 = .ok (.iconst 1, 1) := by decide +kernel
theorem dX12_takeClause_190 : decode cX12_takeClause 190 = .ok (.bipush 9, 2) := by decide +kernel
theorem dX12_takeClause_192 : decode cX12_takeClause 192 = .ok (.invokevirtual 178, 3) := by decide +kernel
theorem dX12_takeClause_195 : decode cX12_takeClause 195 = .ok (.istore_n 2, 1) := by decide +kernel
theorem dX12_takeClause_196 : decode cX12_takeClause 196 = .ok (.aload_n 0, 1) := by decide +kernel
theorem dX12_takeClause_197 : decode cX12_takeClause 197 = .ok (.aload_n 0, 1) := by decide +kernel
theorem dX12_takeClause_198 : decode cX12_takeClause 198 = .ok (.getfield 175, 3) := by decide +kernel
theorem dX12_takeClause_201 : decode cX12_takeClause 201 = .ok (.putfield 184, 3) := by decide +kernel
theorem dX12_takeClause_204 : decode cX12_takeClause 204 = .ok (.goto 20, 3) := by decide +kernel
theorem dX12_takeClause_207 : decode cX12_takeClause 207 = .ok (.iload_n 1, 1) := by decide +kernel
theorem dX12_takeClause_208 : decode cX12_takeClause 208 = .ok (.iconst 1, 1) := by decide +kernel
theorem dX12_takeClause_209 : decode cX12_takeClause 209 = .ok (.if_icmp .ne 10, 3) := by decide +kernel
theorem dX12_takeClause_212 : decode cX12_takeClause 212 = .ok (.aload_n 0, 1) := by decide +kernel
theorem dX12_takeClause_213 : decode cX12_takeClause 213 = .ok (.invokevirtual 209, 3) := by decide +kernel
theorem dX12_takeClause_216 : decode cX12_takeClause 216 = .ok (.goto 7, 3) := by decide +kernel
theorem dX12_takeClause_219 : decode cX12_takeClause 219 = .ok (.aload_n 0, 1) := by decide +kernel
theorem dX12_takeClause_220 : decode cX12_takeClause 220 = .ok (.invokevirtual 212, 3) := by decide +kernel
theorem dX12_takeClause_223 : decode cX12_takeClause 223 = .ok (.istore_n 2, 1) := by decide +kernel
theorem dX12_takeClause_224 : decode cX12_takeClause 224 = .ok (.iload_n 2, 1) := by decide +kernel
theorem dX12_takeClause_225 : decode cX12_takeClause 225 = .ok (.ifCond .ne 22, 3) := by decide +kernel
theorem dX12_takeClause_228 : decode cX12_takeClause 228 = .ok (.aload_n 0, 1) := by decide +kernel
theorem dX12_takeClause_229 : decode cX12_takeClause 229 = .ok (.invokevirtual 141, 3) := by decide +kernel
theorem dX12_takeClause_232 : decode cX12_takeClause 232 = .ok (.bipush 59, 2) := by decide +kernel
theorem dX12_takeClause_234 : decode cX12_takeClause 234 = .ok (.if_icmp .eq 13, 3) := by decide +kernel
theorem dX12_takeClause_237 : decode cX12_takeClause 237 = .ok (.aload_n 0, 1) := by decide +kernel
theorem dX12_takeClause_238 : decode cX12_takeClause 238 = .ok (.iconst 1, 1) := by decide +kernel
theorem dX12_takeClause_239 : decode cX12_takeClause 239 = .ok (.aload_n 0, 1) := by decide +kernel
theorem dX12_takeClause_240 : decode cX12_takeClause 240 = .ok (.getfield 138, 3) := by decide +kernel
theorem dX12_takeClause_243 : decode cX12_takeClause 243 = .ok (.invokevirtual 168, 3) := by decide +kernel
theorem dX12_takeClause_246 : decode cX12_takeClause 246 = .ok (.ireturn, 1) := by decide +kernel
theorem dX12_takeClause_247 : decode cX12_takeClause 247 = .ok (.aload_n 0, 1) := by decide +kernel
theorem dX12_takeClause_248 : decode cX12_takeClause 248 = .ok (.dup, 1) := by decide +kernel
theorem dX12_takeClause_249 : decode cX12_takeClause 249 = .ok (.getfield 138, 3) := by decide +kernel
theorem dX12_takeClause_252 : decode cX12_takeClause 252 = .ok (.iconst 1, 1) := by decide +kernel
theorem dX12_takeClause_253 : decode cX12_takeClause 253 = .ok (.iadd, 1) := by decide +kernel
theorem dX12_takeClause_254 : decode cX12_takeClause 254 = .ok (.putfield 138, 3) := by decide +kernel
theorem dX12_takeClause_257 : decode cX12_takeClause 257 = .ok (.iload_n 2, 1) := by decide +kernel
theorem dX12_takeClause_258 : decode cX12_takeClause 258 = .ok (.ireturn, 1) := by decide +kernel
theorem dX12_land_0 : decode cX12_land 0 = .ok (.aload_n 0, 1) := by decide +kernel
theorem dX12_land_1 : decode cX12_land 1 = .ok (.iconst (-1), 1) := by decide +kernel
theorem dX12_land_2 : decode cX12_land 2 = .ok (.putfield 52, 3) := by decide +kernel
theorem dX12_land_5 : decode cX12_land 5 = .ok (.aload_n 0, 1) := by decide +kernel
theorem dX12_land_6 : decode cX12_land 6 = .ok (.iconst 0, 1) := by decide +kernel
theorem dX12_land_7 : decode cX12_land 7 = .ok (.putfield 138, 3) := by decide +kernel
theorem dX12_land_10 : decode cX12_land 10 = .ok (.aload_n 0, 1) := by decide +kernel
theorem dX12_land_11 : decode cX12_land 11 = .ok (.iconst 0, 1) := by decide +kernel
theorem dX12_land_12 : decode cX12_land 12 = .ok (.putfield 184, 3) := by decide +kernel
theorem dX12_land_15 : decode cX12_land 15 = .ok (.aload_n 0, 1) := by decide +kernel
theorem dX12_land_16 : decode cX12_land 16 = .ok (.iconst 0, 1) := by decide +kernel
theorem dX12_land_17 : decode cX12_land 17 = .ok (.putfield 181, 3) := by decide +kernel
theorem dX12_land_20 : decode cX12_land 20 = .ok (.aload_n 0, 1) := by decide +kernel
theorem dX12_land_21 : decode cX12_land 21 = .ok (.iconst 0, 1) := by decide +kernel
theorem dX12_land_22 : decode cX12_land 22 = .ok (.putfield 195, 3) := by decide +kernel
theorem dX12_land_25 : decode cX12_land 25 = .ok (.iconst 0, 1) := by decide +kernel
theorem dX12_land_26 : decode cX12_land 26 = .ok (.istore_n 1, 1) := by decide +kernel
theorem dX12_land_27 : decode cX12_land 27 = .ok (.iload_n 1, 1) := by decide +kernel
theorem dX12_land_28 : decode cX12_land 28 = .ok (.ifCond .ne 18, 3) := by decide +kernel
theorem dX12_land_31 : decode cX12_land 31 = .ok (.aload_n 0, 1) := by decide +kernel
theorem dX12_land_32 : decode cX12_land 32 = .ok (.invokevirtual 141, 3) := by decide +kernel
theorem dX12_land_35 : decode cX12_land 35 = .ok (.ifCond .lt 11, 3) := by decide +kernel
theorem dX12_land_38 : decode cX12_land 38 = .ok (.aload_n 0, 1) := by decide +kernel
theorem dX12_land_39 : decode cX12_land 39 = .ok (.invokevirtual 215, 3) := by decide +kernel
theorem dX12_land_42 : decode cX12_land 42 = .ok (.istore_n 1, 1) := by decide +kernel
theorem dX12_land_43 : decode cX12_land 43 = .ok (.goto (-16), 3) := by decide +kernel
theorem dX12_land_46 : decode cX12_land 46 = .ok (.aload_n 0, 1) := by decide +kernel
theorem dX12_land_47 : decode cX12_land 47 = .ok (.iconst 0, 1) := by decide +kernel
theorem dX12_land_48 : decode cX12_land 48 = .ok (.putfield 132, 3) := by decide +kernel
theorem dX12_land_51 : decode cX12_land 51 = .ok (.iload_n 1, 1) := by decide +kernel
theorem dX12_land_52 : decode cX12_land 52 = .ok (.ifCond .le 8, 3) := by decide +kernel
theorem dX12_land_55 : decode cX12_land 55 = .ok (.bipush (-10), 2) := by decide +kernel
theorem dX12_land_57 : decode cX12_land 57 = .ok (.iload_n 1, 1) := by decide +kernel
theorem dX12_land_58 : decode cX12_land 58 = .ok (.isub, 1) := by decide +kernel
theorem dX12_land_59 : decode cX12_land 59 = .ok (.ireturn, 1) := by decide +kernel
theorem dX12_land_60 : decode cX12_land 60 = .ok (.aload_n 0, 1) := by decide +kernel
theorem dX12_land_61 : decode cX12_land 61 = .ok (.aload_n 0, 1) := by decide +kernel
theorem dX12_land_62 : decode cX12_land 62 = .ok (.getfield 184, 3) := by decide +kernel
theorem dX12_land_65 : decode cX12_land 65 = .ok (.putfield 118, 3) := by decide +kernel
theorem dX12_land_68 : decode cX12_land 68 = .ok (.aload_n 0, 1) := by decide +kernel
theorem dX12_land_69 : decode cX12_land 69 = .ok (.aload_n 0, 1) := by decide +kernel
theorem dX12_land_70 : decode cX12_land 70 = .ok (.getfield 181, 3) := by decide +kernel
theorem dX12_land_73 : decode cX12_land 73 = .ok (.putfield 218, 3) := by decide +kernel
theorem dX12_land_76 : decode cX12_land 76 = .ok (.aload_n 0, 1) := by decide +kernel
theorem dX12_land_77 : decode cX12_land 77 = .ok (.aload_n 0, 1) := by decide +kernel
theorem dX12_land_78 : decode cX12_land 78 = .ok (.getfield 195, 3) := by decide +kernel
theorem dX12_land_81 : decode cX12_land 81 = .ok (.putfield 221, 3) := by decide +kernel
theorem dX12_land_84 : decode cX12_land 84 = .ok (.iconst 0, 1) := by decide +kernel
theorem dX12_land_85 : decode cX12_land 85 = .ok (.istore_n 2, 1) := by decide +kernel
theorem dX12_land_86 : decode cX12_land 86 = .ok (.iload_n 2, 1) := by decide +kernel
theorem dX12_land_87 : decode cX12_land 87 = .ok (.bipush 14, 2) := by decide +kernel
theorem dX12_land_89 : decode cX12_land 89 = .ok (.if_icmp .ge 45, 3) := by decide +kernel
theorem dX12_land_92 : decode cX12_land 92 = .ok (.aload_n 0, 1) := by decide +kernel
theorem dX12_land_93 : decode cX12_land 93 = .ok (.getfield 7, 3) := by decide +kernel
theorem dX12_land_96 : decode cX12_land 96 = .ok (.iload_n 2, 1) := by decide +kernel
theorem dX12_land_97 : decode cX12_land 97 = .ok (.aload_n 0, 1) := by decide +kernel
theorem dX12_land_98 : decode cX12_land 98 = .ok (.getfield 56, 3) := by decide +kernel
theorem dX12_land_101 : decode cX12_land 101 = .ok (.iload_n 2, 1) := by decide +kernel
theorem dX12_land_102 : decode cX12_land 102 = .ok (.iaload, 1) := by decide +kernel
theorem dX12_land_103 : decode cX12_land 103 = .ok (.iastore, 1) := by decide +kernel
theorem dX12_land_104 : decode cX12_land 104 = .ok (.aload_n 0, 1) := by decide +kernel
theorem dX12_land_105 : decode cX12_land 105 = .ok (.getfield 13, 3) := by decide +kernel
theorem dX12_land_108 : decode cX12_land 108 = .ok (.iload_n 2, 1) := by decide +kernel
theorem dX12_land_109 : decode cX12_land 109 = .ok (.aload_n 0, 1) := by decide +kernel
theorem dX12_land_110 : decode cX12_land 110 = .ok (.getfield 59, 3) := by decide +kernel
theorem dX12_land_113 : decode cX12_land 113 = .ok (.iload_n 2, 1) := by decide +kernel
theorem dX12_land_114 : decode cX12_land 114 = .ok (.iaload, 1) := by decide +kernel
theorem dX12_land_115 : decode cX12_land 115 = .ok (.iastore, 1) := by decide +kernel
theorem dX12_land_116 : decode cX12_land 116 = .ok (.aload_n 0, 1) := by decide +kernel
theorem dX12_land_117 : decode cX12_land 117 = .ok (.getfield 16, 3) := by decide +kernel
theorem dX12_land_120 : decode cX12_land 120 = .ok (.iload_n 2, 1) := by decide +kernel
theorem dX12_land_121 : decode cX12_land 121 = .ok (.aload_n 0, 1) := by decide +kernel
theorem dX12_land_122 : decode cX12_land 122 = .ok (.getfield 62, 3) := by decide +kernel
theorem dX12_land_125 : decode cX12_land 125 = .ok (.iload_n 2, 1) := by decide +kernel
theorem dX12_land_126 : decode cX12_land 126 = .ok (.iaload, 1) := by decide +kernel
theorem dX12_land_127 : decode cX12_land 127 = .ok (.iastore, 1) := by decide +kernel
theorem dX12_land_128 : decode cX12_land 128 = .ok (.iinc 2 1, 3) := by decide +kernel
theorem dX12_land_131 : decode cX12_land 131 = .ok (.goto (-45), 3) := by decide +kernel
theorem dX12_land_134 : decode cX12_land 134 = .ok (.iconst 0, 1) := by decide +kernel
theorem dX12_land_135 : decode cX12_land 135 = .ok (.istore_n 2, 1) := by decide +kernel
theorem dX12_land_136 : decode cX12_land 136 = .ok (.iload_n 2, 1) := by decide +kernel
theorem dX12_land_137 : decode cX12_land 137 = .ok (.bipush 20, 2) := by decide +kernel
theorem dX12_land_139 : decode cX12_land 139 = .ok (.if_icmp .ge 45, 3) := by decide +kernel
theorem dX12_land_142 : decode cX12_land 142 = .ok (.aload_n 0, 1) := by decide +kernel
theorem dX12_land_143 : decode cX12_land 143 = .ok (.getfield 19, 3) := by decide +kernel
theorem dX12_land_146 : decode cX12_land 146 = .ok (.iload_n 2, 1) := by decide +kernel
theorem dX12_land_147 : decode cX12_land 147 = .ok (.aload_n 0, 1) := by decide +kernel
theorem dX12_land_148 : decode cX12_land 148 = .ok (.getfield 65, 3) := by decide +kernel
theorem dX12_land_151 : decode cX12_land 151 = .ok (.iload_n 2, 1) := by decide +kernel
theorem dX12_land_152 : decode cX12_land 152 = .ok (.iaload, 1) := by decide +kernel
theorem dX12_land_153 : decode cX12_land 153 = .ok (.iastore, 1) := by decide +kernel
theorem dX12_land_154 : decode cX12_land 154 = .ok (.aload_n 0, 1) := by decide +kernel
theorem dX12_land_155 : decode cX12_land 155 = .ok (.getfield 22, 3) := by decide +kernel
theorem dX12_land_158 : decode cX12_land 158 = .ok (.iload_n 2, 1) := by decide +kernel
theorem dX12_land_159 : decode cX12_land 159 = .ok (.aload_n 0, 1) := by decide +kernel
theorem dX12_land_160 : decode cX12_land 160 = .ok (.getfield 68, 3) := by decide +kernel
theorem dX12_land_163 : decode cX12_land 163 = .ok (.iload_n 2, 1) := by decide +kernel
theorem dX12_land_164 : decode cX12_land 164 = .ok (.iaload, 1) := by decide +kernel
theorem dX12_land_165 : decode cX12_land 165 = .ok (.iastore, 1) := by decide +kernel
theorem dX12_land_166 : decode cX12_land 166 = .ok (.aload_n 0, 1) := by decide +kernel
theorem dX12_land_167 : decode cX12_land 167 = .ok (.getfield 25, 3) := by decide +kernel
theorem dX12_land_170 : decode cX12_land 170 = .ok (.iload_n 2, 1) := by decide +kernel
theorem dX12_land_171 : decode cX12_land 171 = .ok (.aload_n 0, 1) := by decide +kernel
theorem dX12_land_172 : decode cX12_land 172 = .ok (.getfield 71, 3) := by decide +kernel
theorem dX12_land_175 : decode cX12_land 175 = .ok (.iload_n 2, 1) := by decide +kernel
theorem dX12_land_176 : decode cX12_land 176 = .ok (.iaload, 1) := by decide +kernel
theorem dX12_land_177 : decode cX12_land 177 = .ok (.iastore, 1) := by decide +kernel
theorem dX12_land_178 : decode cX12_land 178 = .ok (.iinc 2 1, 3) := by decide +kernel
theorem dX12_land_181 : decode cX12_land 181 = .ok (.goto (-45), 3) := by decide +kernel
theorem dX12_land_184 : decode cX12_land 184 = .ok (.aload_n 0, 1) := by decide +kernel
theorem dX12_land_185 : decode cX12_land 185 = .ok (.invokevirtual 224, 3) := by decide +kernel
theorem dX12_land_188 : decode cX12_land 188 = .ok (.aload_n 0, 1) := by decide +kernel
theorem dX12_land_189 : decode cX12_land 189 = .ok (.iconst 1, 1) := by decide +kernel
theorem dX12_land_190 : decode cX12_land 190 = .ok (.aload_n 0, 1) := by decide +kernel
theorem dX12_land_191 : decode cX12_land 191 = .ok (.getfield 118, 3) := by decide +kernel
theorem dX12_land_194 : decode cX12_land 194 = .ok (.ishl, 1) := by decide +kernel
theorem dX12_land_195 : decode cX12_land 195 = .ok (.iconst 1, 1) := by decide +kernel
theorem dX12_land_196 : decode cX12_land 196 = .ok (.isub, 1) := by decide +kernel
theorem dX12_land_197 : decode cX12_land 197 = .ok (.invokevirtual 227, 3) := by decide +kernel
theorem dX12_land_200 : decode cX12_land 200 = .ok (.istore_n 2, 1) := by decide +kernel
theorem dX12_land_201 : decode cX12_land 201 = .ok (.aload_n 0, 1) := by decide +kernel
theorem dX12_land_202 : decode cX12_land 202 = .ok (.iconst 0, 1) := by decide +kernel
theorem dX12_land_203 : decode cX12_land 203 = .ok (.putfield 230, 3) := by decide +kernel
theorem dX12_land_206 : decode cX12_land 206 = .ok (.aload_n 0, 1) := by decide +kernel
theorem dX12_land_207 : decode cX12_land 207 = .ok (.iconst 0, 1) := by decide +kernel
theorem dX12_land_208 : decode cX12_land 208 = .ok (.putfield 233, 3) := by decide +kernel
theorem dX12_land_211 : decode cX12_land 211 = .ok (.aload_n 0, 1) := by decide +kernel
theorem dX12_land_212 : decode cX12_land 212 = .ok (.getfield 114, 3) := by decide +kernel
theorem dX12_land_215 : decode cX12_land 215 = .ok (.iconst 0, 1) := by decide +kernel
theorem dX12_land_216 : decode cX12_land 216 = .ok (.iconst 0, 1) := by decide +kernel
theorem dX12_land_217 : decode cX12_land 217 = .ok (.bastore, 1) := by decide +kernel
theorem dX12_land_218 : decode cX12_land 218 = .ok (.aload_n 0, 1) := by decide +kernel
theorem dX12_land_219 : decode cX12_land 219 = .ok (.getfield 114, 3) := by decide +kernel
theorem dX12_land_222 : decode cX12_land 222 = .ok (.iconst 1, 1) := by decide +kernel
theorem dX12_land_223 : decode cX12_land 223 = .ok (.iconst 0, 1) := by decide +kernel
theorem dX12_land_224 : decode cX12_land 224 = .ok (.bastore, 1) := by decide +kernel
theorem dX12_land_225 : decode cX12_land 225 = .ok (.aload_n 0, 1) := by decide +kernel
theorem dX12_land_226 : decode cX12_land 226 = .ok (.getfield 118, 3) := by decide +kernel
theorem dX12_land_229 : decode cX12_land 229 = .ok (.ireturn, 1) := by decide +kernel
theorem dX12_findLand_0 : decode cX12_findLand 0 = .ok (.iconst 0, 1) := by decide +kernel
theorem dX12_findLand_1 : decode cX12_findLand 1 = .ok (.istore_n 1, 1) := by decide +kernel
theorem dX12_findLand_2 : decode cX12_findLand 2 = .ok (.iload_n 1, 1) := by decide +kernel
theorem dX12_findLand_3 : decode cX12_findLand 3 = .ok (.bipush 81, 2) := by decide +kernel
theorem dX12_findLand_5 : decode cX12_findLand 5 = .ok (.if_icmp .ge 39, 3) := by decide +kernel
theorem dX12_findLand_8 : decode cX12_findLand 8 = .ok (.aload_n 0, 1) := by decide +kernel
theorem dX12_findLand_9 : decode cX12_findLand 9 = .ok (.getfield 34, 3) := by decide +kernel
theorem dX12_findLand_12 : decode cX12_findLand 12 = .ok (.iload_n 1, 1) := by decide +kernel
theorem dX12_findLand_13 : decode cX12_findLand 13 = .ok (.iload_n 1, 1) := by decide +kernel
theorem dX12_findLand_14 : decode cX12_findLand 14 = .ok (.bipush 9, 2) := by decide +kernel
theorem dX12_findLand_16 : decode cX12_findLand 16 = .ok (.idiv, 1) := by decide +kernel
theorem dX12_findLand_17 : decode cX12_findLand 17 = .ok (.iload_n 1, 1) := by decide +kernel
theorem dX12_findLand_18 : decode cX12_findLand 18 = .ok (.bipush 9, 2) := by decide +kernel
theorem dX12_findLand_20 : decode cX12_findLand 20 = .ok (.irem, 1) := by decide +kernel
theorem dX12_findLand_21 : decode cX12_findLand 21 = .ok (.if_icmp .ne 7, 3) := by decide +kernel
theorem dX12_findLand_24 : decode cX12_findLand 24 = .ok (.iconst 0, 1) := by decide +kernel
theorem dX12_findLand_25 : decode cX12_findLand 25 = .ok (.goto 5, 3) := by decide +kernel
theorem dX12_findLand_28 : decode cX12_findLand 28 = .ok (.ldc 236, 2) := by decide +kernel
theorem dX12_findLand_30 : decode cX12_findLand 30 = .ok (.iastore, 1) := by decide +kernel
theorem dX12_findLand_31 : decode cX12_findLand 31 = .ok (.aload_n 0, 1) := by decide +kernel
theorem dX12_findLand_32 : decode cX12_findLand 32 = .ok (.getfield 37, 3) := by decide +kernel
theorem dX12_findLand_35 : decode cX12_findLand 35 = .ok (.iload_n 1, 1) := by decide +kernel
theorem dX12_findLand_36 : decode cX12_findLand 36 = .ok (.iconst (-1), 1) := by decide +kernel
theorem dX12_findLand_37 : decode cX12_findLand 37 = .ok (.iastore, 1) := by decide +kernel
theorem dX12_findLand_38 : decode cX12_findLand 38 = .ok (.iinc 1 1, 3) := by decide +kernel
theorem dX12_findLand_41 : decode cX12_findLand 41 = .ok (.goto (-39), 3) := by decide +kernel
theorem dX12_findLand_44 : decode cX12_findLand 44 = .ok (.iconst 0, 1) := by decide +kernel
theorem dX12_findLand_45 : decode cX12_findLand 45 = .ok (.istore_n 1, 1) := by decide +kernel
theorem dX12_findLand_46 : decode cX12_findLand 46 = .ok (.iload_n 1, 1) := by decide +kernel
theorem dX12_findLand_47 : decode cX12_findLand 47 = .ok (.bipush 9, 2) := by decide +kernel
theorem dX12_findLand_49 : decode cX12_findLand 49 = .ok (.if_icmp .ge 16, 3) := by decide +kernel
theorem dX12_findLand_52 : decode cX12_findLand 52 = .ok (.aload_n 0, 1) := by decide +kernel
theorem dX12_findLand_53 : decode cX12_findLand 53 = .ok (.getfield 28, 3) := by decide +kernel
theorem dX12_findLand_56 : decode cX12_findLand 56 = .ok (.iload_n 1, 1) := by decide +kernel
theorem dX12_findLand_57 : decode cX12_findLand 57 = .ok (.iconst 0, 1) := by decide +kernel
theorem dX12_findLand_58 : decode cX12_findLand 58 = .ok (.iastore, 1) := by decide +kernel
theorem dX12_findLand_59 : decode cX12_findLand 59 = .ok (.iinc 1 1, 3) := by decide +kernel
theorem dX12_findLand_62 : decode cX12_findLand 62 = .ok (.goto (-16), 3) := by decide +kernel
theorem dX12_findLand_65 : decode cX12_findLand 65 = .ok (.iconst 0, 1) := by decide +kernel
theorem dX12_findLand_66 : decode cX12_findLand 66 = .ok (.istore_n 1, 1) := by decide +kernel
theorem dX12_findLand_67 : decode cX12_findLand 67 = .ok (.iload_n 1, 1) := by decide +kernel
theorem dX12_findLand_68 : decode cX12_findLand 68 = .ok (.aload_n 0, 1) := by decide +kernel
theorem dX12_findLand_69 : decode cX12_findLand 69 = .ok (.getfield 218, 3) := by decide +kernel
theorem dX12_findLand_72 : decode cX12_findLand 72 = .ok (.if_icmp .ge 109, 3) := by decide +kernel
theorem dX12_findLand_75 : decode cX12_findLand 75 = .ok (.aload_n 0, 1) := by decide +kernel
theorem dX12_findLand_76 : decode cX12_findLand 76 = .ok (.getfield 7, 3) := by decide +kernel
theorem dX12_findLand_79 : decode cX12_findLand 79 = .ok (.iload_n 1, 1) := by decide +kernel
theorem dX12_findLand_80 : decode cX12_findLand 80 = .ok (.iaload, 1) := by decide +kernel
theorem dX12_findLand_81 : decode cX12_findLand 81 = .ok (.istore_n 2, 1) := by decide +kernel
theorem dX12_findLand_82 : decode cX12_findLand 82 = .ok (.aload_n 0, 1) := by decide +kernel
theorem dX12_findLand_83 : decode cX12_findLand 83 = .ok (.getfield 13, 3) := by decide +kernel
theorem dX12_findLand_86 : decode cX12_findLand 86 = .ok (.iload_n 1, 1) := by decide +kernel
theorem dX12_findLand_87 : decode cX12_findLand 87 = .ok (.iaload, 1) := by decide +kernel
theorem dX12_findLand_88 : decode cX12_findLand 88 = .ok (.istore_n 3, 1) := by decide +kernel
theorem dX12_findLand_89 : decode cX12_findLand 89 = .ok (.aload_n 0, 1) := by decide +kernel
theorem dX12_findLand_90 : decode cX12_findLand 90 = .ok (.getfield 34, 3) := by decide +kernel
theorem dX12_findLand_93 : decode cX12_findLand 93 = .ok (.bipush 9, 2) := by decide +kernel
theorem dX12_findLand_95 : decode cX12_findLand 95 = .ok (.iload_n 2, 1) := by decide +kernel
theorem dX12_findLand_96 : decode cX12_findLand 96 = .ok (.imul, 1) := by decide +kernel
theorem dX12_findLand_97 : decode cX12_findLand 97 = .ok (.iload_n 3, 1) := by decide +kernel
theorem dX12_findLand_98 : decode cX12_findLand 98 = .ok (.iadd, 1) := by decide +kernel
theorem dX12_findLand_99 : decode cX12_findLand 99 = .ok (.aload_n 0, 1) := by decide +kernel
theorem dX12_findLand_100 : decode cX12_findLand 100 = .ok (.getfield 16, 3) := by decide +kernel
theorem dX12_findLand_103 : decode cX12_findLand 103 = .ok (.iload_n 1, 1) := by decide +kernel
theorem dX12_findLand_104 : decode cX12_findLand 104 = .ok (.iaload, 1) := by decide +kernel
theorem dX12_findLand_105 : decode cX12_findLand 105 = .ok (.iastore, 1) := by decide +kernel
theorem dX12_findLand_106 : decode cX12_findLand 106 = .ok (.aload_n 0, 1) := by decide +kernel
theorem dX12_findLand_107 : decode cX12_findLand 107 = .ok (.getfield 34, 3) := by decide +kernel
theorem dX12_findLand_110 : decode cX12_findLand 110 = .ok (.bipush 9, 2) := by decide +kernel
theorem dX12_findLand_112 : decode cX12_findLand 112 = .ok (.iload_n 3, 1) := by decide +kernel
theorem dX12_findLand_113 : decode cX12_findLand 113 = .ok (.imul, 1) := by decide +kernel
theorem dX12_findLand_114 : decode cX12_findLand 114 = .ok (.iload_n 2, 1) := by decide +kernel
theorem dX12_findLand_115 : decode cX12_findLand 115 = .ok (.iadd, 1) := by decide +kernel
theorem dX12_findLand_116 : decode cX12_findLand 116 = .ok (.aload_n 0, 1) := by decide +kernel
theorem dX12_findLand_117 : decode cX12_findLand 117 = .ok (.getfield 16, 3) := by decide +kernel
theorem dX12_findLand_120 : decode cX12_findLand 120 = .ok (.iload_n 1, 1) := by decide +kernel
theorem dX12_findLand_121 : decode cX12_findLand 121 = .ok (.iaload, 1) := by decide +kernel
theorem dX12_findLand_122 : decode cX12_findLand 122 = .ok (.iastore, 1) := by decide +kernel
theorem dX12_findLand_123 : decode cX12_findLand 123 = .ok (.aload_n 0, 1) := by decide +kernel
theorem dX12_findLand_124 : decode cX12_findLand 124 = .ok (.getfield 31, 3) := by decide +kernel
theorem dX12_findLand_127 : decode cX12_findLand 127 = .ok (.iconst 5, 1) := by decide +kernel
theorem dX12_findLand_128 : decode cX12_findLand 128 = .ok (.iload_n 2, 1) := by decide +kernel
theorem dX12_findLand_129 : decode cX12_findLand 129 = .ok (.imul, 1) := by decide +kernel
theorem dX12_findLand_130 : decode cX12_findLand 130 = .ok (.aload_n 0, 1) := by decide +kernel
theorem dX12_findLand_131 : decode cX12_findLand 131 = .ok (.getfield 28, 3) := by decide +kernel
theorem dX12_findLand_134 : decode cX12_findLand 134 = .ok (.iload_n 2, 1) := by decide +kernel
theorem dX12_findLand_135 : decode cX12_findLand 135 = .ok (.iaload, 1) := by decide +kernel
theorem dX12_findLand_136 : decode cX12_findLand 136 = .ok (.iadd, 1) := by decide +kernel
theorem dX12_findLand_137 : decode cX12_findLand 137 = .ok (.iload_n 1, 1) := by decide +kernel
theorem dX12_findLand_138 : decode cX12_findLand 138 = .ok (.iastore, 1) := by decide +kernel
theorem dX12_findLand_139 : decode cX12_findLand 139 = .ok (.aload_n 0, 1) := by decide +kernel
theorem dX12_findLand_140 : decode cX12_findLand 140 = .ok (.getfield 28, 3) := by decide +kernel
theorem dX12_findLand_143 : decode cX12_findLand 143 = .ok (.iload_n 2, 1) := by decide +kernel
theorem dX12_findLand_144 : decode cX12_findLand 144 = .ok (.dup2, 1) := by decide +kernel
theorem dX12_findLand_145 : decode cX12_findLand 145 = .ok (.iaload, 1) := by decide +kernel
theorem dX12_findLand_146 : decode cX12_findLand 146 = .ok (.iconst 1, 1) := by decide +kernel
theorem dX12_findLand_147 : decode cX12_findLand 147 = .ok (.iadd, 1) := by decide +kernel
theorem dX12_findLand_148 : decode cX12_findLand 148 = .ok (.iastore, 1) := by decide +kernel
theorem dX12_findLand_149 : decode cX12_findLand 149 = .ok (.aload_n 0, 1) := by decide +kernel
theorem dX12_findLand_150 : decode cX12_findLand 150 = .ok (.getfield 31, 3) := by decide +kernel
theorem dX12_findLand_153 : decode cX12_findLand 153 = .ok (.iconst 5, 1) := by decide +kernel
theorem dX12_findLand_154 : decode cX12_findLand 154 = .ok (.iload_n 3, 1) := by decide +kernel
theorem dX12_findLand_155 : decode cX12_findLand 155 = .ok (.imul, 1) := by decide +kernel
theorem dX12_findLand_156 : decode cX12_findLand 156 = .ok (.aload_n 0, 1) := by decide +kernel
theorem dX12_findLand_157 : decode cX12_findLand 157 = .ok (.getfield 28, 3) := by decide +kernel
theorem dX12_findLand_160 : decode cX12_findLand 160 = .ok (.iload_n 3, 1) := by decide +kernel
theorem dX12_findLand_161 : decode cX12_findLand 161 = .ok (.iaload, 1) := by decide +kernel
theorem dX12_findLand_162 : decode cX12_findLand 162 = .ok (.iadd, 1) := by decide +kernel
theorem dX12_findLand_163 : decode cX12_findLand 163 = .ok (.iload_n 1, 1) := by decide +kernel
theorem dX12_findLand_164 : decode cX12_findLand 164 = .ok (.iastore, 1) := by decide +kernel
theorem dX12_findLand_165 : decode cX12_findLand 165 = .ok (.aload_n 0, 1) := by decide +kernel
theorem dX12_findLand_166 : decode cX12_findLand 166 = .ok (.getfield 28, 3) := by decide +kernel
theorem dX12_findLand_169 : decode cX12_findLand 169 = .ok (.iload_n 3, 1) := by decide +kernel
theorem dX12_findLand_170 : decode cX12_findLand 170 = .ok (.dup2, 1) := by decide +kernel
theorem dX12_findLand_171 : decode cX12_findLand 171 = .ok (.iaload, 1) := by decide +kernel
theorem dX12_findLand_172 : decode cX12_findLand 172 = .ok (.iconst 1, 1) := by decide +kernel
theorem dX12_findLand_173 : decode cX12_findLand 173 = .ok (.iadd, 1) := by decide +kernel
theorem dX12_findLand_174 : decode cX12_findLand 174 = .ok (.iastore, 1) := by decide +kernel
theorem dX12_findLand_175 : decode cX12_findLand 175 = .ok (.iinc 1 1, 3) := by decide +kernel
theorem dX12_findLand_178 : decode cX12_findLand 178 = .ok (.goto (-111), 3) := by decide +kernel
theorem dX12_findLand_181 : decode cX12_findLand 181 = .ok (.iconst 0, 1) := by decide +kernel
theorem dX12_findLand_182 : decode cX12_findLand 182 = .ok (.istore_n 1, 1) := by decide +kernel
theorem dX12_findLand_183 : decode cX12_findLand 183 = .ok (.iload_n 1, 1) := by decide +kernel
theorem dX12_findLand_184 : decode cX12_findLand 184 = .ok (.aload_n 0, 1) := by decide +kernel
theorem dX12_findLand_185 : decode cX12_findLand 185 = .ok (.getfield 118, 3) := by decide +kernel
theorem dX12_findLand_188 : decode cX12_findLand 188 = .ok (.if_icmp .ge 79, 3) := by decide +kernel
theorem dX12_findLand_191 : decode cX12_findLand 191 = .ok (.iconst 0, 1) := by decide +kernel
theorem dX12_findLand_192 : decode cX12_findLand 192 = .ok (.istore_n 2, 1) := by decide +kernel
theorem dX12_findLand_193 : decode cX12_findLand 193 = .ok (.iload_n 2, 1) := by decide +kernel
theorem dX12_findLand_194 : decode cX12_findLand 194 = .ok (.bipush 81, 2) := by decide +kernel
theorem dX12_findLand_196 : decode cX12_findLand 196 = .ok (.if_icmp .ge 65, 3) := by decide +kernel
theorem dX12_findLand_199 : decode cX12_findLand 199 = .ok (.aload_n 0, 1) := by decide +kernel
theorem dX12_findLand_200 : decode cX12_findLand 200 = .ok (.getfield 34, 3) := by decide +kernel
theorem dX12_findLand_203 : decode cX12_findLand 203 = .ok (.bipush 9, 2) := by decide +kernel
theorem dX12_findLand_205 : decode cX12_findLand 205 = .ok (.iload_n 2, 1) := by decide +kernel
theorem dX12_findLand_206 : decode cX12_findLand 206 = .ok (.bipush 9, 2) := by decide +kernel
theorem dX12_findLand_208 : decode cX12_findLand 208 = .ok (.idiv, 1) := by decide +kernel
theorem dX12_findLand_209 : decode cX12_findLand 209 = .ok (.imul, 1) := by decide +kernel
theorem dX12_findLand_210 : decode cX12_findLand 210 = .ok (.iload_n 1, 1) := by decide +kernel
theorem dX12_findLand_211 : decode cX12_findLand 211 = .ok (.iadd, 1) := by decide +kernel
theorem dX12_findLand_212 : decode cX12_findLand 212 = .ok (.iaload, 1) := by decide +kernel
theorem dX12_findLand_213 : decode cX12_findLand 213 = .ok (.aload_n 0, 1) := by decide +kernel
theorem dX12_findLand_214 : decode cX12_findLand 214 = .ok (.getfield 34, 3) := by decide +kernel
theorem dX12_findLand_217 : decode cX12_findLand 217 = .ok (.bipush 9, 2) := by decide +kernel
theorem dX12_findLand_219 : decode cX12_findLand 219 = .ok (.iload_n 1, 1) := by decide +kernel
theorem dX12_findLand_220 : decode cX12_findLand 220 = .ok (.imul, 1) := by decide +kernel
theorem dX12_findLand_221 : decode cX12_findLand 221 = .ok (.iload_n 2, 1) := by decide +kernel
theorem dX12_findLand_222 : decode cX12_findLand 222 = .ok (.bipush 9, 2) := by decide +kernel
theorem dX12_findLand_224 : decode cX12_findLand 224 = .ok (.irem, 1) := by decide +kernel
theorem dX12_findLand_225 : decode cX12_findLand 225 = .ok (.iadd, 1) := by decide +kernel
theorem dX12_findLand_226 : decode cX12_findLand 226 = .ok (.iaload, 1) := by decide +kernel
theorem dX12_findLand_227 : decode cX12_findLand 227 = .ok (.iadd, 1) := by decide +kernel
theorem dX12_findLand_228 : decode cX12_findLand 228 = .ok (.istore_n 3, 1) := by decide +kernel
theorem dX12_findLand_229 : decode cX12_findLand 229 = .ok (.aload_n 0, 1) := by decide +kernel
theorem dX12_findLand_230 : decode cX12_findLand 230 = .ok (.getfield 34, 3) := by decide +kernel
theorem dX12_findLand_233 : decode cX12_findLand 233 = .ok (.iload_n 2, 1) := by decide +kernel
theorem dX12_findLand_234 : decode cX12_findLand 234 = .ok (.iload_n 3, 1) := by decide +kernel
theorem dX12_findLand_235 : decode cX12_findLand 235 = .ok (.aload_n 0, 1) := by decide +kernel
theorem dX12_findLand_236 : decode cX12_findLand 236 = .ok (.getfield 34, 3) := by decide +kernel
theorem dX12_findLand_239 : decode cX12_findLand 239 = .ok (.iload_n 2, 1) := by decide +kernel
theorem dX12_findLand_240 : decode cX12_findLand 240 = .ok (.iaload, 1) := by decide +kernel
theorem dX12_findLand_241 : decode cX12_findLand 241 = .ok (.if_icmp .ge 7, 3) := by decide +kernel
theorem dX12_findLand_244 : decode cX12_findLand 244 = .ok (.iload_n 3, 1) := by decide +kernel
theorem dX12_findLand_245 : decode cX12_findLand 245 = .ok (.goto 9, 3) := by decide +kernel
theorem dX12_findLand_248 : decode cX12_findLand 248 = .ok (.aload_n 0, 1) := by decide +kernel
theorem dX12_findLand_249 : decode cX12_findLand 249 = .ok (.getfield 34, 3) := by decide +kernel
theorem dX12_findLand_252 : decode cX12_findLand 252 = .ok (.iload_n 2, 1) := by decide +kernel
theorem dX12_findLand_253 : decode cX12_findLand 253 = .ok (.iaload, 1) := by decide +kernel
theorem dX12_findLand_254 : decode cX12_findLand 254 = .ok (.iastore, 1) := by decide +kernel
theorem dX12_findLand_255 : decode cX12_findLand 255 = .ok (.iinc 2 1, 3) := by decide +kernel
theorem dX12_findLand_258 : decode cX12_findLand 258 = .ok (.goto (-65), 3) := by decide +kernel
theorem dX12_findLand_261 : decode cX12_findLand 261 = .ok (.iinc 1 1, 3) := by decide +kernel
theorem dX12_findLand_264 : decode cX12_findLand 264 = .ok (.goto (-81), 3) := by decide +kernel
theorem dX12_findLand_267 : decode cX12_findLand 267 = .ok (.iconst 0, 1) := by decide +kernel
theorem dX12_findLand_268 : decode cX12_findLand 268 = .ok (.istore_n 1, 1) := by decide +kernel
theorem dX12_findLand_269 : decode cX12_findLand 269 = .ok (.iload_n 1, 1) := by decide +kernel
theorem dX12_findLand_270 : decode cX12_findLand 270 = .ok (.aload_n 0, 1) := by decide +kernel
theorem dX12_findLand_271 : decode cX12_findLand 271 = .ok (.getfield 118, 3) := by decide +kernel
theorem dX12_findLand_274 : decode cX12_findLand 274 = .ok (.if_icmp .ge 154, 3) := by decide +kernel
theorem dX12_findLand_277 : decode cX12_findLand 277 = .ok (.iconst 0, 1) := by decide +kernel
theorem dX12_findLand_278 : decode cX12_findLand 278 = .ok (.istore_n 2, 1) := by decide +kernel
theorem dX12_findLand_279 : decode cX12_findLand 279 = .ok (.iload_n 2, 1) := by decide +kernel
theorem dX12_findLand_280 : decode cX12_findLand 280 = .ok (.aload_n 0, 1) := by decide +kernel
theorem dX12_findLand_281 : decode cX12_findLand 281 = .ok (.getfield 118, 3) := by decide +kernel
theorem dX12_findLand_284 : decode cX12_findLand 284 = .ok (.if_icmp .ge 138, 3) := by decide +kernel
theorem dX12_findLand_287 : decode cX12_findLand 287 = .ok (.aload_n 0, 1) := by decide +kernel
theorem dX12_findLand_288 : decode cX12_findLand 288 = .ok (.getfield 28, 3) := by decide +kernel
theorem dX12_findLand_291 : decode cX12_findLand 291 = .ok (.iload_n 1, 1) := by decide +kernel
theorem dX12_findLand_292 : decode cX12_findLand 292 = .ok (.iaload, 1) := by decide +kernel
theorem dX12_findLand_293 : decode cX12_findLand 293 = .ok (.iconst 1, 1) := by decide +kernel
theorem dX12_findLand_294 : decode cX12_findLand 294 = .ok (.isub, 1) := by decide +kernel
theorem dX12_findLand_295 : decode cX12_findLand 295 = .ok (.istore_n 3, 1) := by decide +kernel
theorem dX12_findLand_296 : decode cX12_findLand 296 = .ok (.iload_n 3, 1) := by decide +kernel
theorem dX12_findLand_297 : decode cX12_findLand 297 = .ok (.ifCond .lt 119, 3) := by decide +kernel
theorem dX12_findLand_300 : decode cX12_findLand 300 = .ok (.iload_n 2, 1) := by decide +kernel
theorem dX12_findLand_301 : decode cX12_findLand 301 = .ok (.iload_n 1, 1) := by decide +kernel
theorem dX12_findLand_302 : decode cX12_findLand 302 = .ok (.if_icmp .eq 114, 3) := by decide +kernel
theorem dX12_findLand_305 : decode cX12_findLand 305 = .ok (.aload_n 0, 1) := by decide +kernel
theorem dX12_findLand_306 : decode cX12_findLand 306 = .ok (.getfield 31, 3) := by decide +kernel
theorem dX12_findLand_309 : decode cX12_findLand 309 = .ok (.iconst 5, 1) := by decide +kernel
theorem dX12_findLand_310 : decode cX12_findLand 310 = .ok (.iload_n 1, 1) := by decide +kernel
theorem dX12_findLand_311 : decode cX12_findLand 311 = .ok (.imul, 1) := by decide +kernel
theorem dX12_findLand_312 : decode cX12_findLand 312 = .ok (.iload_n 3, 1) := by decide +kernel
theorem dX12_findLand_313 : decode cX12_findLand 313 = .ok (.iadd, 1) := by decide +kernel
theorem dX12_findLand_314 : decode cX12_findLand 314 = .ok (.iaload, 1) := by decide +kernel
theorem dX12_findLand_315 : decode cX12_findLand 315 = .ok (.istore 4, 2) := by decide +kernel
theorem dX12_findLand_317 : decode cX12_findLand 317 = .ok (.aload_n 0, 1) := by decide +kernel
theorem dX12_findLand_318 : decode cX12_findLand 318 = .ok (.getfield 34, 3) := by decide +kernel
theorem dX12_findLand_321 : decode cX12_findLand 321 = .ok (.bipush 9, 2) := by decide +kernel
theorem dX12_findLand_323 : decode cX12_findLand 323 = .ok (.iload_n 1, 1) := by decide +kernel
theorem dX12_findLand_324 : decode cX12_findLand 324 = .ok (.imul, 1) := by decide +kernel
theorem dX12_findLand_325 : decode cX12_findLand 325 = .ok (.iload_n 2, 1) := by decide +kernel
theorem dX12_findLand_326 : decode cX12_findLand 326 = .ok (.iadd, 1) := by decide +kernel
theorem dX12_findLand_327 : decode cX12_findLand 327 = .ok (.iaload, 1) := by decide +kernel
theorem dX12_findLand_328 : decode cX12_findLand 328 = .ok (.ldc 236, 2) := by decide +kernel
theorem dX12_findLand_330 : decode cX12_findLand 330 = .ok (.if_icmp .ge 46, 3) := by decide +kernel
theorem dX12_findLand_333 : decode cX12_findLand 333 = .ok (.aload_n 0, 1) := by decide +kernel
theorem dX12_findLand_334 : decode cX12_findLand 334 = .ok (.getfield 16, 3) := by decide +kernel
theorem dX12_findLand_337 : decode cX12_findLand 337 = .ok (.iload 4, 2) := by decide +kernel
theorem dX12_findLand_339 : decode cX12_findLand 339 = .ok (.iaload, 1) := by decide +kernel
theorem dX12_findLand_340 : decode cX12_findLand 340 = .ok (.aload_n 0, 1) := by decide +kernel
theorem dX12_findLand_341 : decode cX12_findLand 341 = .ok (.getfield 34, 3) := by decide +kernel
theorem dX12_findLand_344 : decode cX12_findLand 344 = .ok (.bipush 9, 2) := by decide +kernel
theorem dX12_findLand_346 : decode cX12_findLand 346 = .ok (.aload_n 0, 1) := by decide +kernel
theorem dX12_findLand_347 : decode cX12_findLand 347 = .ok (.iload 4, 2) := by decide +kernel
theorem dX12_findLand_349 : decode cX12_findLand 349 = .ok (.iload_n 1, 1) := by decide +kernel
theorem dX12_findLand_350 : decode cX12_findLand 350 = .ok (.invokevirtual 237, 3) := by decide +kernel
theorem dX12_findLand_353 : decode cX12_findLand 353 = .ok (.imul, 1) := by decide +kernel
theorem dX12_findLand_354 : decode cX12_findLand 354 = .ok (.iload_n 2, 1) := by decide +kernel
theorem dX12_findLand_355 : decode cX12_findLand 355 = .ok (.iadd, 1) := by decide +kernel
theorem dX12_findLand_356 : decode cX12_findLand 356 = .ok (.iaload, 1) := by decide +kernel
theorem dX12_findLand_357 : decode cX12_findLand 357 = .ok (.iadd, 1) := by decide +kernel
theorem dX12_findLand_358 : decode cX12_findLand 358 = .ok (.aload_n 0, 1) := by decide +kernel
theorem dX12_findLand_359 : decode cX12_findLand 359 = .ok (.getfield 34, 3) := by decide +kernel
theorem dX12_findLand_362 : decode cX12_findLand 362 = .ok (.bipush 9, 2) := by decide +kernel
theorem dX12_findLand_364 : decode cX12_findLand 364 = .ok (.iload_n 1, 1) := by decide +kernel
theorem dX12_findLand_365 : decode cX12_findLand 365 = .ok (.imul, 1) := by decide +kernel
theorem dX12_findLand_366 : decode cX12_findLand 366 = .ok (.iload_n 2, 1) := by decide +kernel
theorem dX12_findLand_367 : decode cX12_findLand 367 = .ok (.iadd, 1) := by decide +kernel
theorem dX12_findLand_368 : decode cX12_findLand 368 = .ok (.iaload, 1) := by decide +kernel
theorem dX12_findLand_369 : decode cX12_findLand 369 = .ok (.if_icmp .ne 7, 3) := by decide +kernel
theorem dX12_findLand_372 : decode cX12_findLand 372 = .ok (.iconst 1, 1) := by decide +kernel
theorem dX12_findLand_373 : decode cX12_findLand 373 = .ok (.goto 4, 3) := by decide +kernel
theorem dX12_findLand_376 : decode cX12_findLand 376 = .ok (.iconst 0, 1) := by decide +kernel
theorem dX12_findLand_377 : decode cX12_findLand 377 = .ok (.istore 5, 2) := by decide +kernel
theorem dX12_findLand_379 : decode cX12_findLand 379 = .ok (.aload_n 0, 1) := by decide +kernel
theorem dX12_findLand_380 : decode cX12_findLand 380 = .ok (.getfield 37, 3) := by decide +kernel
theorem dX12_findLand_383 : decode cX12_findLand 383 = .ok (.bipush 9, 2) := by decide +kernel
theorem dX12_findLand_385 : decode cX12_findLand 385 = .ok (.iload_n 1, 1) := by decide +kernel
theorem dX12_findLand_386 : decode cX12_findLand 386 = .ok (.imul, 1) := by decide +kernel
theorem dX12_findLand_387 : decode cX12_findLand 387 = .ok (.iload_n 2, 1) := by decide +kernel
theorem dX12_findLand_388 : decode cX12_findLand 388 = .ok (.iadd, 1) := by decide +kernel
theorem dX12_findLand_389 : decode cX12_findLand 389 = .ok (.iload 5, 2) := by decide +kernel
theorem dX12_findLand_391 : decode cX12_findLand 391 = .ok (.ifCond .eq 7, 3) := by decide +kernel
theorem dX12_findLand_394 : decode cX12_findLand 394 = .ok (.iload_n 3, 1) := by decide +kernel
theorem dX12_findLand_395 : decode cX12_findLand 395 = .ok (.goto 14, 3) := by decide +kernel
theorem dX12_findLand_398 : decode cX12_findLand 398 = .ok (.aload_n 0, 1) := by decide +kernel
theorem dX12_findLand_399 : decode cX12_findLand 399 = .ok (.getfield 37, 3) := by decide +kernel
theorem dX12_findLand_402 : decode cX12_findLand 402 = .ok (.bipush 9, 2) := by decide +kernel
theorem dX12_findLand_404 : decode cX12_findLand 404 = .ok (.iload_n 1, 1) := by decide +kernel
theorem dX12_findLand_405 : decode cX12_findLand 405 = .ok (.imul, 1) := by decide +kernel
theorem dX12_findLand_406 : decode cX12_findLand 406 = .ok (.iload_n 2, 1) := by decide +kernel
theorem dX12_findLand_407 : decode cX12_findLand 407 = .ok (.iadd, 1) := by decide +kernel
theorem dX12_findLand_408 : decode cX12_findLand 408 = .ok (.iaload, 1) := by decide +kernel
theorem dX12_findLand_409 : decode cX12_findLand 409 = .ok (.iastore, 1) := by decide +kernel
theorem dX12_findLand_410 : decode cX12_findLand 410 = .ok (.iinc 3 (-1), 3) := by decide +kernel
theorem dX12_findLand_413 : decode cX12_findLand 413 = .ok (.goto (-117), 3) := by decide +kernel
theorem dX12_findLand_416 : decode cX12_findLand 416 = .ok (.iinc 2 1, 3) := by decide +kernel
theorem dX12_findLand_419 : decode cX12_findLand 419 = .ok (.goto (-140), 3) := by decide +kernel
theorem dX12_findLand_422 : decode cX12_findLand 422 = .ok (.iinc 1 1, 3) := by decide +kernel
theorem dX12_findLand_425 : decode cX12_findLand 425 = .ok (.goto (-156), 3) := by decide +kernel
theorem dX12_findLand_428 : decode cX12_findLand 428 = .ok (.return_, 1) := by decide +kernel
theorem dX12_fault_0 : decode cX12_fault 0 = .ok (.aload_n 0, 1) := by decide +kernel
theorem dX12_fault_1 : decode cX12_fault 1 = .ok (.getfield 52, 3) := by decide +kernel
theorem dX12_fault_4 : decode cX12_fault 4 = .ok (.ireturn, 1) := by decide +kernel
theorem dX12_turnedSet_0 : decode cX12_turnedSet 0 = .ok (.iconst 0, 1) := by decide +kernel
theorem dX12_turnedSet_1 : decode cX12_turnedSet 1 = .ok (.istore_n 1, 1) := by decide +kernel
theorem dX12_turnedSet_2 : decode cX12_turnedSet 2 = .ok (.iconst 0, 1) := by decide +kernel
theorem dX12_turnedSet_3 : decode cX12_turnedSet 3 = .ok (.istore_n 2, 1) := by decide +kernel
theorem dX12_turnedSet_4 : decode cX12_turnedSet 4 = .ok (.iload_n 2, 1) := by decide +kernel
theorem dX12_turnedSet_5 : decode cX12_turnedSet 5 = .ok (.aload_n 0, 1) := by decide +kernel
theorem dX12_turnedSet_6 : decode cX12_turnedSet 6 = .ok (.getfield 118, 3) := by decide +kernel
theorem dX12_turnedSet_9 : decode cX12_turnedSet 9 = .ok (.if_icmp .ge 28, 3) := by decide +kernel
theorem dX12_turnedSet_12 : decode cX12_turnedSet 12 = .ok (.iload_n 1, 1) := by decide +kernel
theorem dX12_turnedSet_13 : decode cX12_turnedSet 13 = .ok (.aload_n 0, 1) := by decide +kernel
theorem dX12_turnedSet_14 : decode cX12_turnedSet 14 = .ok (.getfield 40, 3) := by decide +kernel
theorem dX12_turnedSet_17 : decode cX12_turnedSet 17 = .ok (.iload_n 2, 1) := by decide +kernel
theorem dX12_turnedSet_18 : decode cX12_turnedSet 18 = .ok (.iaload, 1) := by decide +kernel
theorem dX12_turnedSet_19 : decode cX12_turnedSet 19 = .ok (.ifCond .ne 7, 3) := by decide +kernel
theorem dX12_turnedSet_22 : decode cX12_turnedSet 22 = .ok (.iconst 0, 1) := by decide +kernel
theorem dX12_turnedSet_23 : decode cX12_turnedSet 23 = .ok (.goto 6, 3) := by decide +kernel
theorem dX12_turnedSet_26 : decode cX12_turnedSet 26 = .ok (.iconst 1, 1) := by decide +kernel
theorem dX12_turnedSet_27 : decode cX12_turnedSet 27 = .ok (.iload_n 2, 1) := by decide +kernel
theorem dX12_turnedSet_28 : decode cX12_turnedSet 28 = .ok (.ishl, 1) := by decide +kernel
theorem dX12_turnedSet_29 : decode cX12_turnedSet 29 = .ok (.ior, 1) := by decide +kernel
theorem dX12_turnedSet_30 : decode cX12_turnedSet 30 = .ok (.istore_n 1, 1) := by decide +kernel
theorem dX12_turnedSet_31 : decode cX12_turnedSet 31 = .ok (.iinc 2 1, 3) := by decide +kernel
theorem dX12_turnedSet_34 : decode cX12_turnedSet 34 = .ok (.goto (-30), 3) := by decide +kernel
theorem dX12_turnedSet_37 : decode cX12_turnedSet 37 = .ok (.iload_n 1, 1) := by decide +kernel
theorem dX12_turnedSet_38 : decode cX12_turnedSet 38 = .ok (.ireturn, 1) := by decide +kernel
theorem dX12_told_0 : decode cX12_told 0 = .ok (.iload_n 1, 1) := by decide +kernel
theorem dX12_told_1 : decode cX12_told 1 = .ok (.tableswitch 87 0 7 #[47, 52, 57, 62, 67, 72, 77, 82], 47) := by decide +kernel
theorem dX12_told_48 : decode cX12_told 48 = .ok (.aload_n 0, 1) := by decide +kernel
theorem dX12_told_49 : decode cX12_told 49 = .ok (.getfield 118, 3) := by decide +kernel
theorem dX12_told_52 : decode cX12_told 52 = .ok (.ireturn, 1) := by decide +kernel
theorem dX12_told_53 : decode cX12_told 53 = .ok (.aload_n 0, 1) := by decide +kernel
theorem dX12_told_54 : decode cX12_told 54 = .ok (.getfield 218, 3) := by decide +kernel
theorem dX12_told_57 : decode cX12_told 57 = .ok (.ireturn, 1) := by decide +kernel
theorem dX12_told_58 : decode cX12_told 58 = .ok (.aload_n 0, 1) := by decide +kernel
theorem dX12_told_59 : decode cX12_told 59 = .ok (.getfield 221, 3) := by decide +kernel
theorem dX12_told_62 : decode cX12_told 62 = .ok (.ireturn, 1) := by decide +kernel
theorem dX12_told_63 : decode cX12_told 63 = .ok (.aload_n 0, 1) := by decide +kernel
theorem dX12_told_64 : decode cX12_told 64 = .ok (.getfield 132, 3) := by decide +kernel
theorem dX12_told_67 : decode cX12_told 67 = .ok (.ireturn, 1) := by decide +kernel
theorem dX12_told_68 : decode cX12_told 68 = .ok (.aload_n 0, 1) := by decide +kernel
theorem dX12_told_69 : decode cX12_told 69 = .ok (.getfield 230, 3) := by decide +kernel
theorem dX12_told_72 : decode cX12_told 72 = .ok (.ireturn, 1) := by decide +kernel
theorem dX12_told_73 : decode cX12_told 73 = .ok (.aload_n 0, 1) := by decide +kernel
theorem dX12_told_74 : decode cX12_told 74 = .ok (.getfield 233, 3) := by decide +kernel
theorem dX12_told_77 : decode cX12_told 77 = .ok (.ireturn, 1) := by decide +kernel
theorem dX12_told_78 : decode cX12_told 78 = .ok (.aload_n 0, 1) := by decide +kernel
theorem dX12_told_79 : decode cX12_told 79 = .ok (.invokevirtual 240, 3) := by decide +kernel
theorem dX12_told_82 : decode cX12_told 82 = .ok (.ireturn, 1) := by decide +kernel
theorem dX12_told_83 : decode cX12_told 83 = .ok (.aload_n 0, 1) := by decide +kernel
theorem dX12_told_84 : decode cX12_told 84 = .ok (.invokevirtual 243, 3) := by decide +kernel
theorem dX12_told_87 : decode cX12_told 87 = .ok (.ireturn, 1) := by decide +kernel
theorem dX12_told_88 : decode cX12_told 88 = .ok (.ldc 131, 2) := by decide +kernel
theorem dX12_told_90 : decode cX12_told 90 = .ok (.ireturn, 1) := by decide +kernel
theorem dX12_road_0 : decode cX12_road 0 = .ok (.iload_n 1, 1) := by decide +kernel
theorem dX12_road_1 : decode cX12_road 1 = .ok (.i2l, 1) := by decide +kernel
theorem dX12_road_2 : decode cX12_road 2 = .ok (.lconst 0, 1) := by decide +kernel
theorem dX12_road_3 : decode cX12_road 3 = .ok (.aload_n 0, 1) := by decide +kernel
theorem dX12_road_4 : decode cX12_road 4 = .ok (.getfield 218, 3) := by decide +kernel
theorem dX12_road_7 : decode cX12_road 7 = .ok (.iconst 1, 1) := by decide +kernel
theorem dX12_road_8 : decode cX12_road 8 = .ok (.isub, 1) := by decide +kernel
theorem dX12_road_9 : decode cX12_road 9 = .ok (.i2l, 1) := by decide +kernel
theorem dX12_road_10 : decode cX12_road 10 = .ok (.invokestatic 121, 3) := by decide +kernel
theorem dX12_road_13 : decode cX12_road 13 = .ok (.ifCond .ne 6, 3) := by decide +kernel
theorem dX12_road_16 : decode cX12_road 16 = .ok (.ldc 246, 2) := by decide +kernel
theorem dX12_road_18 : decode cX12_road 18 = .ok (.ireturn, 1) := by decide +kernel
theorem dX12_road_19 : decode cX12_road 19 = .ok (.iload_n 2, 1) := by decide +kernel
theorem dX12_road_20 : decode cX12_road 20 = .ok (.ifCond .ne 12, 3) := by decide +kernel
theorem dX12_road_23 : decode cX12_road 23 = .ok (.aload_n 0, 1) := by decide +kernel
theorem dX12_road_24 : decode cX12_road 24 = .ok (.getfield 7, 3) := by decide +kernel
theorem dX12_road_27 : decode cX12_road 27 = .ok (.iload_n 1, 1) := by decide +kernel
theorem dX12_road_28 : decode cX12_road 28 = .ok (.iaload, 1) := by decide +kernel
theorem dX12_road_29 : decode cX12_road 29 = .ok (.goto 33, 3) := by decide +kernel
theorem dX12_road_32 : decode cX12_road 32 = .ok (.iload_n 2, 1) := by decide +kernel
theorem dX12_road_33 : decode cX12_road 33 = .ok (.iconst 1, 1) := by decide +kernel
theorem dX12_road_34 : decode cX12_road 34 = .ok (.if_icmp .ne 12, 3) := by decide +kernel
theorem dX12_road_37 : decode cX12_road 37 = .ok (.aload_n 0, 1) := by decide +kernel
theorem dX12_road_38 : decode cX12_road 38 = .ok (.getfield 13, 3) := by decide +kernel
theorem dX12_road_41 : decode cX12_road 41 = .ok (.iload_n 1, 1) := by decide +kernel
theorem dX12_road_42 : decode cX12_road 42 = .ok (.iaload, 1) := by decide +kernel
theorem dX12_road_43 : decode cX12_road 43 = .ok (.goto 19, 3) := by decide +kernel
theorem dX12_road_46 : decode cX12_road 46 = .ok (.iload_n 2, 1) := by decide +kernel
theorem dX12_road_47 : decode cX12_road 47 = .ok (.iconst 2, 1) := by decide +kernel
theorem dX12_road_48 : decode cX12_road 48 = .ok (.if_icmp .ne 12, 3) := by decide +kernel
theorem dX12_road_51 : decode cX12_road 51 = .ok (.aload_n 0, 1) := by decide +kernel
theorem dX12_road_52 : decode cX12_road 52 = .ok (.getfield 16, 3) := by decide +kernel
theorem dX12_road_55 : decode cX12_road 55 = .ok (.iload_n 1, 1) := by decide +kernel
theorem dX12_road_56 : decode cX12_road 56 = .ok (.iaload, 1) := by decide +kernel
theorem dX12_road_57 : decode cX12_road 57 = .ok (.goto 5, 3) := by decide +kernel
theorem dX12_road_60 : decode cX12_road 60 = .ok (.ldc 131, 2) := by decide +kernel
theorem dX12_road_62 : decode cX12_road 62 = .ok (.ireturn, 1) := by decide +kernel
theorem dX12_far_0 : decode cX12_far 0 = .ok (.aload_n 0, 1) := by decide +kernel
theorem dX12_far_1 : decode cX12_far 1 = .ok (.iload_n 1, 1) := by decide +kernel
theorem dX12_far_2 : decode cX12_far 2 = .ok (.iload_n 2, 1) := by decide +kernel
theorem dX12_far_3 : decode cX12_far 3 = .ok (.invokevirtual 247, 3) := by decide +kernel
theorem dX12_far_6 : decode cX12_far 6 = .ok (.ifCond .ne 6, 3) := by decide +kernel
theorem dX12_far_9 : decode cX12_far 9 = .ok (.ldc 246, 2) := by decide +kernel
theorem dX12_far_11 : decode cX12_far 11 = .ok (.ireturn, 1) := by decide +kernel
theorem dX12_far_12 : decode cX12_far 12 = .ok (.aload_n 0, 1) := by decide +kernel
theorem dX12_far_13 : decode cX12_far 13 = .ok (.getfield 34, 3) := by decide +kernel
theorem dX12_far_16 : decode cX12_far 16 = .ok (.bipush 9, 2) := by decide +kernel
theorem dX12_far_18 : decode cX12_far 18 = .ok (.iload_n 1, 1) := by decide +kernel
theorem dX12_far_19 : decode cX12_far 19 = .ok (.imul, 1) := by decide +kernel
theorem dX12_far_20 : decode cX12_far 20 = .ok (.iload_n 2, 1) := by decide +kernel
theorem dX12_far_21 : decode cX12_far 21 = .ok (.iadd, 1) := by decide +kernel
theorem dX12_far_22 : decode cX12_far 22 = .ok (.iaload, 1) := by decide +kernel
theorem dX12_far_23 : decode cX12_far 23 = .ok (.ldc 236, 2) := by decide +kernel
theorem dX12_far_25 : decode cX12_far 25 = .ok (.if_icmp .lt 7, 3) := by decide +kernel
theorem dX12_far_28 : decode cX12_far 28 = .ok (.iconst (-1), 1) := by decide +kernel
theorem dX12_far_29 : decode cX12_far 29 = .ok (.goto 14, 3) := by decide +kernel
theorem dX12_far_32 : decode cX12_far 32 = .ok (.aload_n 0, 1) := by decide +kernel
theorem dX12_far_33 : decode cX12_far 33 = .ok (.getfield 34, 3) := by decide +kernel
theorem dX12_far_36 : decode cX12_far 36 = .ok (.bipush 9, 2) := by decide +kernel
theorem dX12_far_38 : decode cX12_far 38 = .ok (.iload_n 1, 1) := by decide +kernel
theorem dX12_far_39 : decode cX12_far 39 = .ok (.imul, 1) := by decide +kernel
theorem dX12_far_40 : decode cX12_far 40 = .ok (.iload_n 2, 1) := by decide +kernel
theorem dX12_far_41 : decode cX12_far 41 = .ok (.iadd, 1) := by decide +kernel
theorem dX12_far_42 : decode cX12_far 42 = .ok (.iaload, 1) := by decide +kernel
theorem dX12_far_43 : decode cX12_far 43 = .ok (.ireturn, 1) := by decide +kernel
theorem dX12_post_0 : decode cX12_post 0 = .ok (.aload_n 0, 1) := by decide +kernel
theorem dX12_post_1 : decode cX12_post 1 = .ok (.iload_n 1, 1) := by decide +kernel
theorem dX12_post_2 : decode cX12_post 2 = .ok (.invokevirtual 125, 3) := by decide +kernel
theorem dX12_post_5 : decode cX12_post 5 = .ok (.ifCond .ne 6, 3) := by decide +kernel
theorem dX12_post_8 : decode cX12_post 8 = .ok (.ldc 246, 2) := by decide +kernel
theorem dX12_post_10 : decode cX12_post 10 = .ok (.ireturn, 1) := by decide +kernel
theorem dX12_post_11 : decode cX12_post 11 = .ok (.iload_n 2, 1) := by decide +kernel
theorem dX12_post_12 : decode cX12_post 12 = .ok (.ifCond .ne 12, 3) := by decide +kernel
theorem dX12_post_15 : decode cX12_post 15 = .ok (.aload_n 0, 1) := by decide +kernel
theorem dX12_post_16 : decode cX12_post 16 = .ok (.getfield 28, 3) := by decide +kernel
theorem dX12_post_19 : decode cX12_post 19 = .ok (.iload_n 1, 1) := by decide +kernel
theorem dX12_post_20 : decode cX12_post 20 = .ok (.iaload, 1) := by decide +kernel
theorem dX12_post_21 : decode cX12_post 21 = .ok (.goto 33, 3) := by decide +kernel
theorem dX12_post_24 : decode cX12_post 24 = .ok (.iload_n 2, 1) := by decide +kernel
theorem dX12_post_25 : decode cX12_post 25 = .ok (.iconst 1, 1) := by decide +kernel
theorem dX12_post_26 : decode cX12_post 26 = .ok (.if_icmp .ne 12, 3) := by decide +kernel
theorem dX12_post_29 : decode cX12_post 29 = .ok (.aload_n 0, 1) := by decide +kernel
theorem dX12_post_30 : decode cX12_post 30 = .ok (.getfield 40, 3) := by decide +kernel
theorem dX12_post_33 : decode cX12_post 33 = .ok (.iload_n 1, 1) := by decide +kernel
theorem dX12_post_34 : decode cX12_post 34 = .ok (.iaload, 1) := by decide +kernel
theorem dX12_post_35 : decode cX12_post 35 = .ok (.goto 19, 3) := by decide +kernel
theorem dX12_post_38 : decode cX12_post 38 = .ok (.iload_n 2, 1) := by decide +kernel
theorem dX12_post_39 : decode cX12_post 39 = .ok (.iconst 2, 1) := by decide +kernel
theorem dX12_post_40 : decode cX12_post 40 = .ok (.if_icmp .ne 12, 3) := by decide +kernel
theorem dX12_post_43 : decode cX12_post 43 = .ok (.aload_n 0, 1) := by decide +kernel
theorem dX12_post_44 : decode cX12_post 44 = .ok (.getfield 43, 3) := by decide +kernel
theorem dX12_post_47 : decode cX12_post 47 = .ok (.iload_n 1, 1) := by decide +kernel
theorem dX12_post_48 : decode cX12_post 48 = .ok (.iaload, 1) := by decide +kernel
theorem dX12_post_49 : decode cX12_post 49 = .ok (.goto 5, 3) := by decide +kernel
theorem dX12_post_52 : decode cX12_post 52 = .ok (.ldc 131, 2) := by decide +kernel
theorem dX12_post_54 : decode cX12_post 54 = .ok (.ireturn, 1) := by decide +kernel
theorem dX12_stands_0 : decode cX12_stands 0 = .ok (.aload_n 0, 1) := by decide +kernel
theorem dX12_stands_1 : decode cX12_stands 1 = .ok (.getfield 31, 3) := by decide +kernel
theorem dX12_stands_4 : decode cX12_stands 4 = .ok (.iconst 5, 1) := by decide +kernel
theorem dX12_stands_5 : decode cX12_stands 5 = .ok (.iload_n 1, 1) := by decide +kernel
theorem dX12_stands_6 : decode cX12_stands 6 = .ok (.imul, 1) := by decide +kernel
theorem dX12_stands_7 : decode cX12_stands 7 = .ok (.iload_n 2, 1) := by decide +kernel
theorem dX12_stands_8 : decode cX12_stands 8 = .ok (.iload_n 3, 1) := by decide +kernel
theorem dX12_stands_9 : decode cX12_stands 9 = .ok (.iadd, 1) := by decide +kernel
theorem dX12_stands_10 : decode cX12_stands 10 = .ok (.aload_n 0, 1) := by decide +kernel
theorem dX12_stands_11 : decode cX12_stands 11 = .ok (.getfield 28, 3) := by decide +kernel
theorem dX12_stands_14 : decode cX12_stands 14 = .ok (.iload_n 1, 1) := by decide +kernel
theorem dX12_stands_15 : decode cX12_stands 15 = .ok (.iaload, 1) := by decide +kernel
theorem dX12_stands_16 : decode cX12_stands 16 = .ok (.irem, 1) := by decide +kernel
theorem dX12_stands_17 : decode cX12_stands 17 = .ok (.iadd, 1) := by decide +kernel
theorem dX12_stands_18 : decode cX12_stands 18 = .ok (.iaload, 1) := by decide +kernel
theorem dX12_stands_19 : decode cX12_stands 19 = .ok (.ireturn, 1) := by decide +kernel
theorem dX12_toldBy_0 : decode cX12_toldBy 0 = .ok (.iconst 0, 1) := by decide +kernel
theorem dX12_toldBy_1 : decode cX12_toldBy 1 = .ok (.istore_n 3, 1) := by decide +kernel
theorem dX12_toldBy_2 : decode cX12_toldBy 2 = .ok (.iconst 0, 1) := by decide +kernel
theorem dX12_toldBy_3 : decode cX12_toldBy 3 = .ok (.istore 4, 2) := by decide +kernel
theorem dX12_toldBy_5 : decode cX12_toldBy 5 = .ok (.iload 4, 2) := by decide +kernel
theorem dX12_toldBy_7 : decode cX12_toldBy 7 = .ok (.aload_n 0, 1) := by decide +kernel
theorem dX12_toldBy_8 : decode cX12_toldBy 8 = .ok (.getfield 118, 3) := by decide +kernel
theorem dX12_toldBy_11 : decode cX12_toldBy 11 = .ok (.if_icmp .ge 36, 3) := by decide +kernel
theorem dX12_toldBy_14 : decode cX12_toldBy 14 = .ok (.iload_n 3, 1) := by decide +kernel
theorem dX12_toldBy_15 : decode cX12_toldBy 15 = .ok (.aload_n 0, 1) := by decide +kernel
theorem dX12_toldBy_16 : decode cX12_toldBy 16 = .ok (.getfield 37, 3) := by decide +kernel
theorem dX12_toldBy_19 : decode cX12_toldBy 19 = .ok (.bipush 9, 2) := by decide +kernel
theorem dX12_toldBy_21 : decode cX12_toldBy 21 = .ok (.iload_n 1, 1) := by decide +kernel
theorem dX12_toldBy_22 : decode cX12_toldBy 22 = .ok (.imul, 1) := by decide +kernel
theorem dX12_toldBy_23 : decode cX12_toldBy 23 = .ok (.iload 4, 2) := by decide +kernel
theorem dX12_toldBy_25 : decode cX12_toldBy 25 = .ok (.iadd, 1) := by decide +kernel
theorem dX12_toldBy_26 : decode cX12_toldBy 26 = .ok (.iaload, 1) := by decide +kernel
theorem dX12_toldBy_27 : decode cX12_toldBy 27 = .ok (.iload_n 2, 1) := by decide +kernel
theorem dX12_toldBy_28 : decode cX12_toldBy 28 = .ok (.if_icmp .ne 10, 3) := by decide +kernel
theorem dX12_toldBy_31 : decode cX12_toldBy 31 = .ok (.iconst 1, 1) := by decide +kernel
theorem dX12_toldBy_32 : decode cX12_toldBy 32 = .ok (.iload 4, 2) := by decide +kernel
theorem dX12_toldBy_34 : decode cX12_toldBy 34 = .ok (.ishl, 1) := by decide +kernel
theorem dX12_toldBy_35 : decode cX12_toldBy 35 = .ok (.goto 4, 3) := by decide +kernel
theorem dX12_toldBy_38 : decode cX12_toldBy 38 = .ok (.iconst 0, 1) := by decide +kernel
theorem dX12_toldBy_39 : decode cX12_toldBy 39 = .ok (.ior, 1) := by decide +kernel
theorem dX12_toldBy_40 : decode cX12_toldBy 40 = .ok (.istore_n 3, 1) := by decide +kernel
theorem dX12_toldBy_41 : decode cX12_toldBy 41 = .ok (.iinc 4 1, 3) := by decide +kernel
theorem dX12_toldBy_44 : decode cX12_toldBy 44 = .ok (.goto (-39), 3) := by decide +kernel
theorem dX12_toldBy_47 : decode cX12_toldBy 47 = .ok (.iload_n 3, 1) := by decide +kernel
theorem dX12_toldBy_48 : decode cX12_toldBy 48 = .ok (.ireturn, 1) := by decide +kernel
theorem dX12_arm_0 : decode cX12_arm 0 = .ok (.aload_n 0, 1) := by decide +kernel
theorem dX12_arm_1 : decode cX12_arm 1 = .ok (.iload_n 1, 1) := by decide +kernel
theorem dX12_arm_2 : decode cX12_arm 2 = .ok (.invokevirtual 125, 3) := by decide +kernel
theorem dX12_arm_5 : decode cX12_arm 5 = .ok (.ifCond .ne 6, 3) := by decide +kernel
theorem dX12_arm_8 : decode cX12_arm 8 = .ok (.ldc 246, 2) := by decide +kernel
theorem dX12_arm_10 : decode cX12_arm 10 = .ok (.ireturn, 1) := by decide +kernel
theorem dX12_arm_11 : decode cX12_arm 11 = .ok (.iload_n 2, 1) := by decide +kernel
theorem dX12_arm_12 : decode cX12_arm 12 = .ok (.i2l, 1) := by decide +kernel
theorem dX12_arm_13 : decode cX12_arm 13 = .ok (.lconst 0, 1) := by decide +kernel
theorem dX12_arm_14 : decode cX12_arm 14 = .ok (.aload_n 0, 1) := by decide +kernel
theorem dX12_arm_15 : decode cX12_arm 15 = .ok (.getfield 28, 3) := by decide +kernel
theorem dX12_arm_18 : decode cX12_arm 18 = .ok (.iload_n 1, 1) := by decide +kernel
theorem dX12_arm_19 : decode cX12_arm 19 = .ok (.iaload, 1) := by decide +kernel
theorem dX12_arm_20 : decode cX12_arm 20 = .ok (.iconst 1, 1) := by decide +kernel
theorem dX12_arm_21 : decode cX12_arm 21 = .ok (.isub, 1) := by decide +kernel
theorem dX12_arm_22 : decode cX12_arm 22 = .ok (.i2l, 1) := by decide +kernel
theorem dX12_arm_23 : decode cX12_arm 23 = .ok (.invokestatic 121, 3) := by decide +kernel
theorem dX12_arm_26 : decode cX12_arm 26 = .ok (.ifCond .eq 15, 3) := by decide +kernel
theorem dX12_arm_29 : decode cX12_arm 29 = .ok (.iload_n 3, 1) := by decide +kernel
theorem dX12_arm_30 : decode cX12_arm 30 = .ok (.i2l, 1) := by decide +kernel
theorem dX12_arm_31 : decode cX12_arm 31 = .ok (.lconst 0, 1) := by decide +kernel
theorem dX12_arm_32 : decode cX12_arm 32 = .ok (.ldc2_w 251, 3) := by decide +kernel
theorem dX12_arm_35 : decode cX12_arm 35 = .ok (.invokestatic 121, 3) := by decide +kernel
theorem dX12_arm_38 : decode cX12_arm 38 = .ok (.ifCond .ne 6, 3) := by decide +kernel
theorem dX12_arm_41 : decode cX12_arm 41 = .ok (.ldc 131, 2) := by decide +kernel
theorem dX12_arm_43 : decode cX12_arm 43 = .ok (.ireturn, 1) := by decide +kernel
theorem dX12_arm_44 : decode cX12_arm 44 = .ok (.iload_n 3, 1) := by decide +kernel
theorem dX12_arm_45 : decode cX12_arm 45 = .ok (.ifCond .ne 12, 3) := by decide +kernel
theorem dX12_arm_48 : decode cX12_arm 48 = .ok (.aload_n 0, 1) := by decide +kernel
theorem dX12_arm_49 : decode cX12_arm 49 = .ok (.iload_n 1, 1) := by decide +kernel
theorem dX12_arm_50 : decode cX12_arm 50 = .ok (.iload_n 2, 1) := by decide +kernel
theorem dX12_arm_51 : decode cX12_arm 51 = .ok (.invokevirtual 253, 3) := by decide +kernel
theorem dX12_arm_54 : decode cX12_arm 54 = .ok (.goto 30, 3) := by decide +kernel
theorem dX12_arm_57 : decode cX12_arm 57 = .ok (.iload_n 3, 1) := by decide +kernel
theorem dX12_arm_58 : decode cX12_arm 58 = .ok (.iconst 1, 1) := by decide +kernel
theorem dX12_arm_59 : decode cX12_arm 59 = .ok (.if_icmp .ne 18, 3) := by decide +kernel
theorem dX12_arm_62 : decode cX12_arm 62 = .ok (.aload_n 0, 1) := by decide +kernel
theorem dX12_arm_63 : decode cX12_arm 63 = .ok (.iload_n 1, 1) := by decide +kernel
theorem dX12_arm_64 : decode cX12_arm 64 = .ok (.iload_n 2, 1) := by decide +kernel
theorem dX12_arm_65 : decode cX12_arm 65 = .ok (.aload_n 0, 1) := by decide +kernel
theorem dX12_arm_66 : decode cX12_arm 66 = .ok (.getfield 40, 3) := by decide +kernel
theorem dX12_arm_69 : decode cX12_arm 69 = .ok (.iload_n 1, 1) := by decide +kernel
theorem dX12_arm_70 : decode cX12_arm 70 = .ok (.iaload, 1) := by decide +kernel
theorem dX12_arm_71 : decode cX12_arm 71 = .ok (.invokevirtual 256, 3) := by decide +kernel
theorem dX12_arm_74 : decode cX12_arm 74 = .ok (.goto 10, 3) := by decide +kernel
theorem dX12_arm_77 : decode cX12_arm 77 = .ok (.aload_n 0, 1) := by decide +kernel
theorem dX12_arm_78 : decode cX12_arm 78 = .ok (.iload_n 1, 1) := by decide +kernel
theorem dX12_arm_79 : decode cX12_arm 79 = .ok (.iload_n 2, 1) := by decide +kernel
theorem dX12_arm_80 : decode cX12_arm 80 = .ok (.iconst 0, 1) := by decide +kernel
theorem dX12_arm_81 : decode cX12_arm 81 = .ok (.invokevirtual 256, 3) := by decide +kernel
theorem dX12_arm_84 : decode cX12_arm 84 = .ok (.ireturn, 1) := by decide +kernel
theorem dX12_isTold_0 : decode cX12_isTold 0 = .ok (.aload_n 0, 1) := by decide +kernel
theorem dX12_isTold_1 : decode cX12_isTold 1 = .ok (.getfield 37, 3) := by decide +kernel
theorem dX12_isTold_4 : decode cX12_isTold 4 = .ok (.bipush 9, 2) := by decide +kernel
theorem dX12_isTold_6 : decode cX12_isTold 6 = .ok (.iload_n 1, 1) := by decide +kernel
theorem dX12_isTold_7 : decode cX12_isTold 7 = .ok (.imul, 1) := by decide +kernel
theorem dX12_isTold_8 : decode cX12_isTold 8 = .ok (.iload_n 2, 1) := by decide +kernel
theorem dX12_isTold_9 : decode cX12_isTold 9 = .ok (.iadd, 1) := by decide +kernel
theorem dX12_isTold_10 : decode cX12_isTold 10 = .ok (.iaload, 1) := by decide +kernel
theorem dX12_isTold_11 : decode cX12_isTold 11 = .ok (.istore_n 3, 1) := by decide +kernel
theorem dX12_isTold_12 : decode cX12_isTold 12 = .ok (.iload_n 3, 1) := by decide +kernel
theorem dX12_isTold_13 : decode cX12_isTold 13 = .ok (.ifCond .lt 20, 3) := by decide +kernel
theorem dX12_isTold_16 : decode cX12_isTold 16 = .ok (.aload_n 0, 1) := by decide +kernel
theorem dX12_isTold_17 : decode cX12_isTold 17 = .ok (.getfield 43, 3) := by decide +kernel
theorem dX12_isTold_20 : decode cX12_isTold 20 = .ok (.iload_n 1, 1) := by decide +kernel
theorem dX12_isTold_21 : decode cX12_isTold 21 = .ok (.iaload, 1) := by decide +kernel
theorem dX12_isTold_22 : decode cX12_isTold 22 = .ok (.iload_n 3, 1) := by decide +kernel
theorem dX12_isTold_23 : decode cX12_isTold 23 = .ok (.invokestatic 260, 3) := by decide +kernel
theorem dX12_isTold_26 : decode cX12_isTold 26 = .ok (.ifCond .ne 7, 3) := by decide +kernel
theorem dX12_isTold_29 : decode cX12_isTold 29 = .ok (.iconst 1, 1) := by decide +kernel
theorem dX12_isTold_30 : decode cX12_isTold 30 = .ok (.goto 4, 3) := by decide +kernel
theorem dX12_isTold_33 : decode cX12_isTold 33 = .ok (.iconst 0, 1) := by decide +kernel
theorem dX12_isTold_34 : decode cX12_isTold 34 = .ok (.ireturn, 1) := by decide +kernel
theorem dX12_miles_0 : decode cX12_miles 0 = .ok (.aload_n 0, 1) := by decide +kernel
theorem dX12_miles_1 : decode cX12_miles 1 = .ok (.iload_n 1, 1) := by decide +kernel
theorem dX12_miles_2 : decode cX12_miles 2 = .ok (.iload_n 2, 1) := by decide +kernel
theorem dX12_miles_3 : decode cX12_miles 3 = .ok (.invokevirtual 247, 3) := by decide +kernel
theorem dX12_miles_6 : decode cX12_miles 6 = .ok (.ifCond .ne 6, 3) := by decide +kernel
theorem dX12_miles_9 : decode cX12_miles 9 = .ok (.ldc 246, 2) := by decide +kernel
theorem dX12_miles_11 : decode cX12_miles 11 = .ok (.ireturn, 1) := by decide +kernel
theorem dX12_miles_12 : decode cX12_miles 12 = .ok (.aload_n 0, 1) := by decide +kernel
theorem dX12_miles_13 : decode cX12_miles 13 = .ok (.iload_n 1, 1) := by decide +kernel
theorem dX12_miles_14 : decode cX12_miles 14 = .ok (.iload_n 2, 1) := by decide +kernel
theorem dX12_miles_15 : decode cX12_miles 15 = .ok (.invokevirtual 263, 3) := by decide +kernel
theorem dX12_miles_18 : decode cX12_miles 18 = .ok (.ifCond .eq 17, 3) := by decide +kernel
theorem dX12_miles_21 : decode cX12_miles 21 = .ok (.aload_n 0, 1) := by decide +kernel
theorem dX12_miles_22 : decode cX12_miles 22 = .ok (.getfield 46, 3) := by decide +kernel
theorem dX12_miles_25 : decode cX12_miles 25 = .ok (.bipush 9, 2) := by decide +kernel
theorem dX12_miles_27 : decode cX12_miles 27 = .ok (.iload_n 1, 1) := by decide +kernel
theorem dX12_miles_28 : decode cX12_miles 28 = .ok (.imul, 1) := by decide +kernel
theorem dX12_miles_29 : decode cX12_miles 29 = .ok (.iload_n 2, 1) := by decide +kernel
theorem dX12_miles_30 : decode cX12_miles 30 = .ok (.iadd, 1) := by decide +kernel
theorem dX12_miles_31 : decode cX12_miles 31 = .ok (.iaload, 1) := by decide +kernel
theorem dX12_miles_32 : decode cX12_miles 32 = .ok (.goto 4, 3) := by decide +kernel
theorem dX12_miles_35 : decode cX12_miles 35 = .ok (.iconst (-1), 1) := by decide +kernel
theorem dX12_miles_36 : decode cX12_miles 36 = .ok (.ireturn, 1) := by decide +kernel
theorem dX12_turn_0 : decode cX12_turn 0 = .ok (.aload_n 0, 1) := by decide +kernel
theorem dX12_turn_1 : decode cX12_turn 1 = .ok (.iload_n 1, 1) := by decide +kernel
theorem dX12_turn_2 : decode cX12_turn 2 = .ok (.invokevirtual 125, 3) := by decide +kernel
theorem dX12_turn_5 : decode cX12_turn 5 = .ok (.ifCond .ne 6, 3) := by decide +kernel
theorem dX12_turn_8 : decode cX12_turn 8 = .ok (.ldc 246, 2) := by decide +kernel
theorem dX12_turn_10 : decode cX12_turn 10 = .ok (.ireturn, 1) := by decide +kernel
theorem dX12_turn_11 : decode cX12_turn 11 = .ok (.iload_n 2, 1) := by decide +kernel
theorem dX12_turn_12 : decode cX12_turn 12 = .ok (.i2l, 1) := by decide +kernel
theorem dX12_turn_13 : decode cX12_turn 13 = .ok (.lconst 1, 1) := by decide +kernel
theorem dX12_turn_14 : decode cX12_turn 14 = .ok (.ldc2_w 266, 3) := by decide +kernel
theorem dX12_turn_17 : decode cX12_turn 17 = .ok (.invokestatic 121, 3) := by decide +kernel
theorem dX12_turn_20 : decode cX12_turn 20 = .ok (.ifCond .ne 6, 3) := by decide +kernel
theorem dX12_turn_23 : decode cX12_turn 23 = .ok (.ldc 131, 2) := by decide +kernel
theorem dX12_turn_25 : decode cX12_turn 25 = .ok (.ireturn, 1) := by decide +kernel
theorem dX12_turn_26 : decode cX12_turn 26 = .ok (.aload_n 0, 1) := by decide +kernel
theorem dX12_turn_27 : decode cX12_turn 27 = .ok (.getfield 28, 3) := by decide +kernel
theorem dX12_turn_30 : decode cX12_turn 30 = .ok (.iload_n 1, 1) := by decide +kernel
theorem dX12_turn_31 : decode cX12_turn 31 = .ok (.iaload, 1) := by decide +kernel
theorem dX12_turn_32 : decode cX12_turn 32 = .ok (.ifCond .ne 7, 3) := by decide +kernel
theorem dX12_turn_35 : decode cX12_turn 35 = .ok (.ldc_w 268, 3) := by decide +kernel
theorem dX12_turn_38 : decode cX12_turn 38 = .ok (.ireturn, 1) := by decide +kernel
theorem dX12_turn_39 : decode cX12_turn 39 = .ok (.aload_n 0, 1) := by decide +kernel
theorem dX12_turn_40 : decode cX12_turn 40 = .ok (.getfield 40, 3) := by decide +kernel
theorem dX12_turn_43 : decode cX12_turn 43 = .ok (.iload_n 1, 1) := by decide +kernel
theorem dX12_turn_44 : decode cX12_turn 44 = .ok (.aload_n 0, 1) := by decide +kernel
theorem dX12_turn_45 : decode cX12_turn 45 = .ok (.getfield 40, 3) := by decide +kernel
theorem dX12_turn_48 : decode cX12_turn 48 = .ok (.iload_n 1, 1) := by decide +kernel
theorem dX12_turn_49 : decode cX12_turn 49 = .ok (.iaload, 1) := by decide +kernel
theorem dX12_turn_50 : decode cX12_turn 50 = .ok (.iload_n 2, 1) := by decide +kernel
theorem dX12_turn_51 : decode cX12_turn 51 = .ok (.iadd, 1) := by decide +kernel
theorem dX12_turn_52 : decode cX12_turn 52 = .ok (.aload_n 0, 1) := by decide +kernel
theorem dX12_turn_53 : decode cX12_turn 53 = .ok (.getfield 28, 3) := by decide +kernel
theorem dX12_turn_56 : decode cX12_turn 56 = .ok (.iload_n 1, 1) := by decide +kernel
theorem dX12_turn_57 : decode cX12_turn 57 = .ok (.iaload, 1) := by decide +kernel
theorem dX12_turn_58 : decode cX12_turn 58 = .ok (.irem, 1) := by decide +kernel
theorem dX12_turn_59 : decode cX12_turn 59 = .ok (.iastore, 1) := by decide +kernel
theorem dX12_turn_60 : decode cX12_turn 60 = .ok (.aload_n 0, 1) := by decide +kernel
theorem dX12_turn_61 : decode cX12_turn 61 = .ok (.getfield 40, 3) := by decide +kernel
theorem dX12_turn_64 : decode cX12_turn 64 = .ok (.iload_n 1, 1) := by decide +kernel
theorem dX12_turn_65 : decode cX12_turn 65 = .ok (.iaload, 1) := by decide +kernel
theorem dX12_turn_66 : decode cX12_turn 66 = .ok (.ireturn, 1) := by decide +kernel
theorem dX12_fell_0 : decode cX12_fell 0 = .ok (.aload_n 0, 1) := by decide +kernel
theorem dX12_fell_1 : decode cX12_fell 1 = .ok (.iload_n 1, 1) := by decide +kernel
theorem dX12_fell_2 : decode cX12_fell 2 = .ok (.invokevirtual 125, 3) := by decide +kernel
theorem dX12_fell_5 : decode cX12_fell 5 = .ok (.ifCond .ne 6, 3) := by decide +kernel
theorem dX12_fell_8 : decode cX12_fell 8 = .ok (.ldc 246, 2) := by decide +kernel
theorem dX12_fell_10 : decode cX12_fell 10 = .ok (.ireturn, 1) := by decide +kernel
theorem dX12_fell_11 : decode cX12_fell 11 = .ok (.iload_n 2, 1) := by decide +kernel
theorem dX12_fell_12 : decode cX12_fell 12 = .ok (.i2l, 1) := by decide +kernel
theorem dX12_fell_13 : decode cX12_fell 13 = .ok (.lconst 0, 1) := by decide +kernel
theorem dX12_fell_14 : decode cX12_fell 14 = .ok (.aload_n 0, 1) := by decide +kernel
theorem dX12_fell_15 : decode cX12_fell 15 = .ok (.getfield 28, 3) := by decide +kernel
theorem dX12_fell_18 : decode cX12_fell 18 = .ok (.iload_n 1, 1) := by decide +kernel
theorem dX12_fell_19 : decode cX12_fell 19 = .ok (.iaload, 1) := by decide +kernel
theorem dX12_fell_20 : decode cX12_fell 20 = .ok (.iconst 1, 1) := by decide +kernel
theorem dX12_fell_21 : decode cX12_fell 21 = .ok (.isub, 1) := by decide +kernel
theorem dX12_fell_22 : decode cX12_fell 22 = .ok (.i2l, 1) := by decide +kernel
theorem dX12_fell_23 : decode cX12_fell 23 = .ok (.invokestatic 121, 3) := by decide +kernel
theorem dX12_fell_26 : decode cX12_fell 26 = .ok (.ifCond .ne 6, 3) := by decide +kernel
theorem dX12_fell_29 : decode cX12_fell 29 = .ok (.ldc 131, 2) := by decide +kernel
theorem dX12_fell_31 : decode cX12_fell 31 = .ok (.ireturn, 1) := by decide +kernel
theorem dX12_fell_32 : decode cX12_fell 32 = .ok (.aload_n 0, 1) := by decide +kernel
theorem dX12_fell_33 : decode cX12_fell 33 = .ok (.getfield 43, 3) := by decide +kernel
theorem dX12_fell_36 : decode cX12_fell 36 = .ok (.iload_n 1, 1) := by decide +kernel
theorem dX12_fell_37 : decode cX12_fell 37 = .ok (.iaload, 1) := by decide +kernel
theorem dX12_fell_38 : decode cX12_fell 38 = .ok (.iload_n 2, 1) := by decide +kernel
theorem dX12_fell_39 : decode cX12_fell 39 = .ok (.ishr, 1) := by decide +kernel
theorem dX12_fell_40 : decode cX12_fell 40 = .ok (.iconst 1, 1) := by decide +kernel
theorem dX12_fell_41 : decode cX12_fell 41 = .ok (.iand, 1) := by decide +kernel
theorem dX12_fell_42 : decode cX12_fell 42 = .ok (.istore 4, 2) := by decide +kernel
theorem dX12_fell_44 : decode cX12_fell 44 = .ok (.aload_n 0, 1) := by decide +kernel
theorem dX12_fell_45 : decode cX12_fell 45 = .ok (.getfield 43, 3) := by decide +kernel
theorem dX12_fell_48 : decode cX12_fell 48 = .ok (.iload_n 1, 1) := by decide +kernel
theorem dX12_fell_49 : decode cX12_fell 49 = .ok (.iload_n 3, 1) := by decide +kernel
theorem dX12_fell_50 : decode cX12_fell 50 = .ok (.ifCond .eq 16, 3) := by decide +kernel
theorem dX12_fell_53 : decode cX12_fell 53 = .ok (.aload_n 0, 1) := by decide +kernel
theorem dX12_fell_54 : decode cX12_fell 54 = .ok (.getfield 43, 3) := by decide +kernel
theorem dX12_fell_57 : decode cX12_fell 57 = .ok (.iload_n 1, 1) := by decide +kernel
theorem dX12_fell_58 : decode cX12_fell 58 = .ok (.iaload, 1) := by decide +kernel
theorem dX12_fell_59 : decode cX12_fell 59 = .ok (.iconst 1, 1) := by decide +kernel
theorem dX12_fell_60 : decode cX12_fell 60 = .ok (.iload_n 2, 1) := by decide +kernel
theorem dX12_fell_61 : decode cX12_fell 61 = .ok (.ishl, 1) := by decide +kernel
theorem dX12_fell_62 : decode cX12_fell 62 = .ok (.ior, 1) := by decide +kernel
theorem dX12_fell_63 : decode cX12_fell 63 = .ok (.goto 15, 3) := by decide +kernel
theorem dX12_fell_66 : decode cX12_fell 66 = .ok (.aload_n 0, 1) := by decide +kernel
theorem dX12_fell_67 : decode cX12_fell 67 = .ok (.getfield 43, 3) := by decide +kernel
theorem dX12_fell_70 : decode cX12_fell 70 = .ok (.iload_n 1, 1) := by decide +kernel
theorem dX12_fell_71 : decode cX12_fell 71 = .ok (.iaload, 1) := by decide +kernel
theorem dX12_fell_72 : decode cX12_fell 72 = .ok (.iconst 1, 1) := by decide +kernel
theorem dX12_fell_73 : decode cX12_fell 73 = .ok (.iload_n 2, 1) := by decide +kernel
theorem dX12_fell_74 : decode cX12_fell 74 = .ok (.ishl, 1) := by decide +kernel
theorem dX12_fell_75 : decode cX12_fell 75 = .ok (.iconst (-1), 1) := by decide +kernel
theorem dX12_fell_76 : decode cX12_fell 76 = .ok (.ixor, 1) := by decide +kernel
theorem dX12_fell_77 : decode cX12_fell 77 = .ok (.iand, 1) := by decide +kernel
theorem dX12_fell_78 : decode cX12_fell 78 = .ok (.iastore, 1) := by decide +kernel
theorem dX12_fell_79 : decode cX12_fell 79 = .ok (.iload 4, 2) := by decide +kernel
theorem dX12_fell_81 : decode cX12_fell 81 = .ok (.ireturn, 1) := by decide +kernel
theorem dX12_paint_0 : decode cX12_paint 0 = .ok (.aload_n 0, 1) := by decide +kernel
theorem dX12_paint_1 : decode cX12_paint 1 = .ok (.iload_n 1, 1) := by decide +kernel
theorem dX12_paint_2 : decode cX12_paint 2 = .ok (.iload_n 2, 1) := by decide +kernel
theorem dX12_paint_3 : decode cX12_paint 3 = .ok (.invokevirtual 247, 3) := by decide +kernel
theorem dX12_paint_6 : decode cX12_paint 6 = .ok (.ifCond .ne 6, 3) := by decide +kernel
theorem dX12_paint_9 : decode cX12_paint 9 = .ok (.ldc 246, 2) := by decide +kernel
theorem dX12_paint_11 : decode cX12_paint 11 = .ok (.ireturn, 1) := by decide +kernel
theorem dX12_paint_12 : decode cX12_paint 12 = .ok (.iload_n 3, 1) := by decide +kernel
theorem dX12_paint_13 : decode cX12_paint 13 = .ok (.i2l, 1) := by decide +kernel
theorem dX12_paint_14 : decode cX12_paint 14 = .ok (.lconst 0, 1) := by decide +kernel
theorem dX12_paint_15 : decode cX12_paint 15 = .ok (.ldc2_w 269, 3) := by decide +kernel
theorem dX12_paint_18 : decode cX12_paint 18 = .ok (.invokestatic 121, 3) := by decide +kernel
theorem dX12_paint_21 : decode cX12_paint 21 = .ok (.ifCond .ne 6, 3) := by decide +kernel
theorem dX12_paint_24 : decode cX12_paint 24 = .ok (.ldc 131, 2) := by decide +kernel
theorem dX12_paint_26 : decode cX12_paint 26 = .ok (.ireturn, 1) := by decide +kernel
theorem dX12_paint_27 : decode cX12_paint 27 = .ok (.aload_n 0, 1) := by decide +kernel
theorem dX12_paint_28 : decode cX12_paint 28 = .ok (.iload_n 1, 1) := by decide +kernel
theorem dX12_paint_29 : decode cX12_paint 29 = .ok (.iload_n 2, 1) := by decide +kernel
theorem dX12_paint_30 : decode cX12_paint 30 = .ok (.invokevirtual 263, 3) := by decide +kernel
theorem dX12_paint_33 : decode cX12_paint 33 = .ok (.ifCond .ne 7, 3) := by decide +kernel
theorem dX12_paint_36 : decode cX12_paint 36 = .ok (.ldc_w 268, 3) := by decide +kernel
theorem dX12_paint_39 : decode cX12_paint 39 = .ok (.ireturn, 1) := by decide +kernel
theorem dX12_paint_40 : decode cX12_paint 40 = .ok (.aload_n 0, 1) := by decide +kernel
theorem dX12_paint_41 : decode cX12_paint 41 = .ok (.getfield 46, 3) := by decide +kernel
theorem dX12_paint_44 : decode cX12_paint 44 = .ok (.bipush 9, 2) := by decide +kernel
theorem dX12_paint_46 : decode cX12_paint 46 = .ok (.iload_n 1, 1) := by decide +kernel
theorem dX12_paint_47 : decode cX12_paint 47 = .ok (.imul, 1) := by decide +kernel
theorem dX12_paint_48 : decode cX12_paint 48 = .ok (.iload_n 2, 1) := by decide +kernel
theorem dX12_paint_49 : decode cX12_paint 49 = .ok (.iadd, 1) := by decide +kernel
theorem dX12_paint_50 : decode cX12_paint 50 = .ok (.iaload, 1) := by decide +kernel
theorem dX12_paint_51 : decode cX12_paint 51 = .ok (.istore 4, 2) := by decide +kernel
theorem dX12_paint_53 : decode cX12_paint 53 = .ok (.aload_n 0, 1) := by decide +kernel
theorem dX12_paint_54 : decode cX12_paint 54 = .ok (.getfield 46, 3) := by decide +kernel
theorem dX12_paint_57 : decode cX12_paint 57 = .ok (.bipush 9, 2) := by decide +kernel
theorem dX12_paint_59 : decode cX12_paint 59 = .ok (.iload_n 1, 1) := by decide +kernel
theorem dX12_paint_60 : decode cX12_paint 60 = .ok (.imul, 1) := by decide +kernel
theorem dX12_paint_61 : decode cX12_paint 61 = .ok (.iload_n 2, 1) := by decide +kernel
theorem dX12_paint_62 : decode cX12_paint 62 = .ok (.iadd, 1) := by decide +kernel
theorem dX12_paint_63 : decode cX12_paint 63 = .ok (.iload_n 3, 1) := by decide +kernel
theorem dX12_paint_64 : decode cX12_paint 64 = .ok (.iastore, 1) := by decide +kernel
theorem dX12_paint_65 : decode cX12_paint 65 = .ok (.iload 4, 2) := by decide +kernel
theorem dX12_paint_67 : decode cX12_paint 67 = .ok (.ireturn, 1) := by decide +kernel
theorem dX12_setRight_0 : decode cX12_setRight 0 = .ok (.iconst 0, 1) := by decide +kernel
theorem dX12_setRight_1 : decode cX12_setRight 1 = .ok (.istore_n 2, 1) := by decide +kernel
theorem dX12_setRight_2 : decode cX12_setRight 2 = .ok (.iconst 0, 1) := by decide +kernel
theorem dX12_setRight_3 : decode cX12_setRight 3 = .ok (.istore_n 3, 1) := by decide +kernel
theorem dX12_setRight_4 : decode cX12_setRight 4 = .ok (.iload_n 3, 1) := by decide +kernel
theorem dX12_setRight_5 : decode cX12_setRight 5 = .ok (.aload_n 0, 1) := by decide +kernel
theorem dX12_setRight_6 : decode cX12_setRight 6 = .ok (.getfield 118, 3) := by decide +kernel
theorem dX12_setRight_9 : decode cX12_setRight 9 = .ok (.if_icmp .ge 165, 3) := by decide +kernel
theorem dX12_setRight_12 : decode cX12_setRight 12 = .ok (.iload_n 1, 1) := by decide +kernel
theorem dX12_setRight_13 : decode cX12_setRight 13 = .ok (.iload_n 3, 1) := by decide +kernel
theorem dX12_setRight_14 : decode cX12_setRight 14 = .ok (.invokestatic 260, 3) := by decide +kernel
theorem dX12_setRight_17 : decode cX12_setRight 17 = .ok (.ifCond .eq 151, 3) := by decide +kernel
theorem dX12_setRight_20 : decode cX12_setRight 20 = .ok (.aload_n 0, 1) := by decide +kernel
theorem dX12_setRight_21 : decode cX12_setRight 21 = .ok (.getfield 40, 3) := by decide +kernel
theorem dX12_setRight_24 : decode cX12_setRight 24 = .ok (.iload_n 3, 1) := by decide +kernel
theorem dX12_setRight_25 : decode cX12_setRight 25 = .ok (.iaload, 1) := by decide +kernel
theorem dX12_setRight_26 : decode cX12_setRight 26 = .ok (.ifCond .ne 12, 3) := by decide +kernel
theorem dX12_setRight_29 : decode cX12_setRight 29 = .ok (.aload_n 0, 1) := by decide +kernel
theorem dX12_setRight_30 : decode cX12_setRight 30 = .ok (.getfield 43, 3) := by decide +kernel
theorem dX12_setRight_33 : decode cX12_setRight 33 = .ok (.iload_n 3, 1) := by decide +kernel
theorem dX12_setRight_34 : decode cX12_setRight 34 = .ok (.iaload, 1) := by decide +kernel
theorem dX12_setRight_35 : decode cX12_setRight 35 = .ok (.ifCond .eq 7, 3) := by decide +kernel
theorem dX12_setRight_38 : decode cX12_setRight 38 = .ok (.iconst 1, 1) := by decide +kernel
theorem dX12_setRight_39 : decode cX12_setRight 39 = .ok (.goto 4, 3) := by decide +kernel
theorem dX12_setRight_42 : decode cX12_setRight 42 = .ok (.iconst 0, 1) := by decide +kernel
theorem dX12_setRight_43 : decode cX12_setRight 43 = .ok (.istore 4, 2) := by decide +kernel
theorem dX12_setRight_45 : decode cX12_setRight 45 = .ok (.iconst 0, 1) := by decide +kernel
theorem dX12_setRight_46 : decode cX12_setRight 46 = .ok (.istore 5, 2) := by decide +kernel
theorem dX12_setRight_48 : decode cX12_setRight 48 = .ok (.iload 5, 2) := by decide +kernel
theorem dX12_setRight_50 : decode cX12_setRight 50 = .ok (.aload_n 0, 1) := by decide +kernel
theorem dX12_setRight_51 : decode cX12_setRight 51 = .ok (.getfield 118, 3) := by decide +kernel
theorem dX12_setRight_54 : decode cX12_setRight 54 = .ok (.if_icmp .ge 87, 3) := by decide +kernel
theorem dX12_setRight_57 : decode cX12_setRight 57 = .ok (.iload 4, 2) := by decide +kernel
theorem dX12_setRight_59 : decode cX12_setRight 59 = .ok (.ifCond .ne 45, 3) := by decide +kernel
theorem dX12_setRight_62 : decode cX12_setRight 62 = .ok (.aload_n 0, 1) := by decide +kernel
theorem dX12_setRight_63 : decode cX12_setRight 63 = .ok (.getfield 37, 3) := by decide +kernel
theorem dX12_setRight_66 : decode cX12_setRight 66 = .ok (.bipush 9, 2) := by decide +kernel
theorem dX12_setRight_68 : decode cX12_setRight 68 = .ok (.iload_n 3, 1) := by decide +kernel
theorem dX12_setRight_69 : decode cX12_setRight 69 = .ok (.imul, 1) := by decide +kernel
theorem dX12_setRight_70 : decode cX12_setRight 70 = .ok (.iload 5, 2) := by decide +kernel
theorem dX12_setRight_72 : decode cX12_setRight 72 = .ok (.iadd, 1) := by decide +kernel
theorem dX12_setRight_73 : decode cX12_setRight 73 = .ok (.iaload, 1) := by decide +kernel
theorem dX12_setRight_74 : decode cX12_setRight 74 = .ok (.ifCond .lt 34, 3) := by decide +kernel
theorem dX12_setRight_77 : decode cX12_setRight 77 = .ok (.aload_n 0, 1) := by decide +kernel
theorem dX12_setRight_78 : decode cX12_setRight 78 = .ok (.getfield 46, 3) := by decide +kernel
theorem dX12_setRight_81 : decode cX12_setRight 81 = .ok (.bipush 9, 2) := by decide +kernel
theorem dX12_setRight_83 : decode cX12_setRight 83 = .ok (.iload_n 3, 1) := by decide +kernel
theorem dX12_setRight_84 : decode cX12_setRight 84 = .ok (.imul, 1) := by decide +kernel
theorem dX12_setRight_85 : decode cX12_setRight 85 = .ok (.iload 5, 2) := by decide +kernel
theorem dX12_setRight_87 : decode cX12_setRight 87 = .ok (.iadd, 1) := by decide +kernel
theorem dX12_setRight_88 : decode cX12_setRight 88 = .ok (.iaload, 1) := by decide +kernel
theorem dX12_setRight_89 : decode cX12_setRight 89 = .ok (.aload_n 0, 1) := by decide +kernel
theorem dX12_setRight_90 : decode cX12_setRight 90 = .ok (.getfield 34, 3) := by decide +kernel
theorem dX12_setRight_93 : decode cX12_setRight 93 = .ok (.bipush 9, 2) := by decide +kernel
theorem dX12_setRight_95 : decode cX12_setRight 95 = .ok (.iload_n 3, 1) := by decide +kernel
theorem dX12_setRight_96 : decode cX12_setRight 96 = .ok (.imul, 1) := by decide +kernel
theorem dX12_setRight_97 : decode cX12_setRight 97 = .ok (.iload 5, 2) := by decide +kernel
theorem dX12_setRight_99 : decode cX12_setRight 99 = .ok (.iadd, 1) := by decide +kernel
theorem dX12_setRight_100 : decode cX12_setRight 100 = .ok (.iaload, 1) := by decide +kernel
theorem dX12_setRight_101 : decode cX12_setRight 101 = .ok (.if_icmp .eq 7, 3) := by decide +kernel
theorem dX12_setRight_104 : decode cX12_setRight 104 = .ok (.iconst 1, 1) := by decide +kernel
theorem dX12_setRight_105 : decode cX12_setRight 105 = .ok (.goto 4, 3) := by decide +kernel
theorem dX12_setRight_108 : decode cX12_setRight 108 = .ok (.iconst 0, 1) := by decide +kernel
theorem dX12_setRight_109 : decode cX12_setRight 109 = .ok (.istore 4, 2) := by decide +kernel
theorem dX12_setRight_111 : decode cX12_setRight 111 = .ok (.aload_n 0, 1) := by decide +kernel
theorem dX12_setRight_112 : decode cX12_setRight 112 = .ok (.getfield 46, 3) := by decide +kernel
theorem dX12_setRight_115 : decode cX12_setRight 115 = .ok (.bipush 9, 2) := by decide +kernel
theorem dX12_setRight_117 : decode cX12_setRight 117 = .ok (.iload_n 3, 1) := by decide +kernel
theorem dX12_setRight_118 : decode cX12_setRight 118 = .ok (.imul, 1) := by decide +kernel
theorem dX12_setRight_119 : decode cX12_setRight 119 = .ok (.iload 5, 2) := by decide +kernel
theorem dX12_setRight_121 : decode cX12_setRight 121 = .ok (.iadd, 1) := by decide +kernel
theorem dX12_setRight_122 : decode cX12_setRight 122 = .ok (.aload_n 0, 1) := by decide +kernel
theorem dX12_setRight_123 : decode cX12_setRight 123 = .ok (.getfield 34, 3) := by decide +kernel
theorem dX12_setRight_126 : decode cX12_setRight 126 = .ok (.bipush 9, 2) := by decide +kernel
theorem dX12_setRight_128 : decode cX12_setRight 128 = .ok (.iload_n 3, 1) := by decide +kernel
theorem dX12_setRight_129 : decode cX12_setRight 129 = .ok (.imul, 1) := by decide +kernel
theorem dX12_setRight_130 : decode cX12_setRight 130 = .ok (.iload 5, 2) := by decide +kernel
theorem dX12_setRight_132 : decode cX12_setRight 132 = .ok (.iadd, 1) := by decide +kernel
theorem dX12_setRight_133 : decode cX12_setRight 133 = .ok (.iaload, 1) := by decide +kernel
theorem dX12_setRight_134 : decode cX12_setRight 134 = .ok (.iastore, 1) := by decide +kernel
theorem dX12_setRight_135 : decode cX12_setRight 135 = .ok (.iinc 5 1, 3) := by decide +kernel
theorem dX12_setRight_138 : decode cX12_setRight 138 = .ok (.goto (-90), 3) := by decide +kernel
theorem dX12_setRight_141 : decode cX12_setRight 141 = .ok (.aload_n 0, 1) := by decide +kernel
theorem dX12_setRight_142 : decode cX12_setRight 142 = .ok (.getfield 40, 3) := by decide +kernel
theorem dX12_setRight_145 : decode cX12_setRight 145 = .ok (.iload_n 3, 1) := by decide +kernel
theorem dX12_setRight_146 : decode cX12_setRight 146 = .ok (.iconst 0, 1) := by decide +kernel
theorem dX12_setRight_147 : decode cX12_setRight 147 = .ok (.iastore, 1) := by decide +kernel
theorem dX12_setRight_148 : decode cX12_setRight 148 = .ok (.aload_n 0, 1) := by decide +kernel
theorem dX12_setRight_149 : decode cX12_setRight 149 = .ok (.getfield 43, 3) := by decide +kernel
theorem dX12_setRight_152 : decode cX12_setRight 152 = .ok (.iload_n 3, 1) := by decide +kernel
theorem dX12_setRight_153 : decode cX12_setRight 153 = .ok (.iconst 0, 1) := by decide +kernel
theorem dX12_setRight_154 : decode cX12_setRight 154 = .ok (.iastore, 1) := by decide +kernel
theorem dX12_setRight_155 : decode cX12_setRight 155 = .ok (.iload_n 2, 1) := by decide +kernel
theorem dX12_setRight_156 : decode cX12_setRight 156 = .ok (.iload 4, 2) := by decide +kernel
theorem dX12_setRight_158 : decode cX12_setRight 158 = .ok (.ifCond .eq 7, 3) := by decide +kernel
theorem dX12_setRight_161 : decode cX12_setRight 161 = .ok (.iconst 1, 1) := by decide +kernel
theorem dX12_setRight_162 : decode cX12_setRight 162 = .ok (.goto 4, 3) := by decide +kernel
theorem dX12_setRight_165 : decode cX12_setRight 165 = .ok (.iconst 0, 1) := by decide +kernel
theorem dX12_setRight_166 : decode cX12_setRight 166 = .ok (.iadd, 1) := by decide +kernel
theorem dX12_setRight_167 : decode cX12_setRight 167 = .ok (.istore_n 2, 1) := by decide +kernel
theorem dX12_setRight_168 : decode cX12_setRight 168 = .ok (.iinc 3 1, 3) := by decide +kernel
theorem dX12_setRight_171 : decode cX12_setRight 171 = .ok (.goto (-167), 3) := by decide +kernel
theorem dX12_setRight_174 : decode cX12_setRight 174 = .ok (.iload_n 2, 1) := by decide +kernel
theorem dX12_setRight_175 : decode cX12_setRight 175 = .ok (.ireturn, 1) := by decide +kernel
theorem dX12_right_0 : decode cX12_right 0 = .ok (.aload_n 0, 1) := by decide +kernel
theorem dX12_right_1 : decode cX12_right 1 = .ok (.iload_n 1, 1) := by decide +kernel
theorem dX12_right_2 : decode cX12_right 2 = .ok (.invokevirtual 271, 3) := by decide +kernel
theorem dX12_right_5 : decode cX12_right 5 = .ok (.ifCond .eq 11, 3) := by decide +kernel
theorem dX12_right_8 : decode cX12_right 8 = .ok (.aload_n 0, 1) := by decide +kernel
theorem dX12_right_9 : decode cX12_right 9 = .ok (.iload_n 1, 1) := by decide +kernel
theorem dX12_right_10 : decode cX12_right 10 = .ok (.invokevirtual 227, 3) := by decide +kernel
theorem dX12_right_13 : decode cX12_right 13 = .ok (.goto 5, 3) := by decide +kernel
theorem dX12_right_16 : decode cX12_right 16 = .ok (.ldc 246, 2) := by decide +kernel
theorem dX12_right_18 : decode cX12_right 18 = .ok (.ireturn, 1) := by decide +kernel
theorem dX12_walkNow_0 : decode cX12_walkNow 0 = .ok (.iconst 0, 1) := by decide +kernel
theorem dX12_walkNow_1 : decode cX12_walkNow 1 = .ok (.istore 4, 2) := by decide +kernel
theorem dX12_walkNow_3 : decode cX12_walkNow 3 = .ok (.aload_n 0, 1) := by decide +kernel
theorem dX12_walkNow_4 : decode cX12_walkNow 4 = .ok (.iload_n 1, 1) := by decide +kernel
theorem dX12_walkNow_5 : decode cX12_walkNow 5 = .ok (.putfield 274, 3) := by decide +kernel
theorem dX12_walkNow_8 : decode cX12_walkNow 8 = .ok (.aload_n 0, 1) := by decide +kernel
theorem dX12_walkNow_9 : decode cX12_walkNow 9 = .ok (.iconst 0, 1) := by decide +kernel
theorem dX12_walkNow_10 : decode cX12_walkNow 10 = .ok (.putfield 277, 3) := by decide +kernel
theorem dX12_walkNow_13 : decode cX12_walkNow 13 = .ok (.aload_n 0, 1) := by decide +kernel
theorem dX12_walkNow_14 : decode cX12_walkNow 14 = .ok (.iconst 0, 1) := by decide +kernel
theorem dX12_walkNow_15 : decode cX12_walkNow 15 = .ok (.putfield 280, 3) := by decide +kernel
theorem dX12_walkNow_18 : decode cX12_walkNow 18 = .ok (.aload_n 0, 1) := by decide +kernel
theorem dX12_walkNow_19 : decode cX12_walkNow 19 = .ok (.iload_n 1, 1) := by decide +kernel
theorem dX12_walkNow_20 : decode cX12_walkNow 20 = .ok (.iload_n 2, 1) := by decide +kernel
theorem dX12_walkNow_21 : decode cX12_walkNow 21 = .ok (.if_icmp .ne 7, 3) := by decide +kernel
theorem dX12_walkNow_24 : decode cX12_walkNow 24 = .ok (.iconst 1, 1) := by decide +kernel
theorem dX12_walkNow_25 : decode cX12_walkNow 25 = .ok (.goto 4, 3) := by decide +kernel
theorem dX12_walkNow_28 : decode cX12_walkNow 28 = .ok (.iconst 0, 1) := by decide +kernel
theorem dX12_walkNow_29 : decode cX12_walkNow 29 = .ok (.putfield 283, 3) := by decide +kernel
theorem dX12_walkNow_32 : decode cX12_walkNow 32 = .ok (.aload_n 0, 1) := by decide +kernel
theorem dX12_walkNow_33 : decode cX12_walkNow 33 = .ok (.getfield 74, 3) := by decide +kernel
theorem dX12_walkNow_36 : decode cX12_walkNow 36 = .ok (.iconst 0, 1) := by decide +kernel
theorem dX12_walkNow_37 : decode cX12_walkNow 37 = .ok (.iload_n 1, 1) := by decide +kernel
theorem dX12_walkNow_38 : decode cX12_walkNow 38 = .ok (.iastore, 1) := by decide +kernel
theorem dX12_walkNow_39 : decode cX12_walkNow 39 = .ok (.aload_n 0, 1) := by decide +kernel
theorem dX12_walkNow_40 : decode cX12_walkNow 40 = .ok (.getfield 283, 3) := by decide +kernel
theorem dX12_walkNow_43 : decode cX12_walkNow 43 = .ok (.ifCond .ne 197, 3) := by decide +kernel
theorem dX12_walkNow_46 : decode cX12_walkNow 46 = .ok (.aload_n 0, 1) := by decide +kernel
theorem dX12_walkNow_47 : decode cX12_walkNow 47 = .ok (.getfield 274, 3) := by decide +kernel
theorem dX12_walkNow_50 : decode cX12_walkNow 50 = .ok (.istore 5, 2) := by decide +kernel
theorem dX12_walkNow_52 : decode cX12_walkNow 52 = .ok (.aload_n 0, 1) := by decide +kernel
theorem dX12_walkNow_53 : decode cX12_walkNow 53 = .ok (.getfield 37, 3) := by decide +kernel
theorem dX12_walkNow_56 : decode cX12_walkNow 56 = .ok (.bipush 9, 2) := by decide +kernel
theorem dX12_walkNow_58 : decode cX12_walkNow 58 = .ok (.iload 5, 2) := by decide +kernel
theorem dX12_walkNow_60 : decode cX12_walkNow 60 = .ok (.imul, 1) := by decide +kernel
theorem dX12_walkNow_61 : decode cX12_walkNow 61 = .ok (.iload_n 2, 1) := by decide +kernel
theorem dX12_walkNow_62 : decode cX12_walkNow 62 = .ok (.iadd, 1) := by decide +kernel
theorem dX12_walkNow_63 : decode cX12_walkNow 63 = .ok (.iaload, 1) := by decide +kernel
theorem dX12_walkNow_64 : decode cX12_walkNow 64 = .ok (.istore 6, 2) := by decide +kernel
theorem dX12_walkNow_66 : decode cX12_walkNow 66 = .ok (.iload_n 3, 1) := by decide +kernel
theorem dX12_walkNow_67 : decode cX12_walkNow 67 = .ok (.iload 5, 2) := by decide +kernel
theorem dX12_walkNow_69 : decode cX12_walkNow 69 = .ok (.invokestatic 260, 3) := by decide +kernel
theorem dX12_walkNow_72 : decode cX12_walkNow 72 = .ok (.istore 7, 2) := by decide +kernel
theorem dX12_walkNow_74 : decode cX12_walkNow 74 = .ok (.iload 6, 2) := by decide +kernel
theorem dX12_walkNow_76 : decode cX12_walkNow 76 = .ok (.ifCond .lt 23, 3) := by decide +kernel
theorem dX12_walkNow_79 : decode cX12_walkNow 79 = .ok (.iload 7, 2) := by decide +kernel
theorem dX12_walkNow_81 : decode cX12_walkNow 81 = .ok (.ifCond .ne 26, 3) := by decide +kernel
theorem dX12_walkNow_84 : decode cX12_walkNow 84 = .ok (.aload_n 0, 1) := by decide +kernel
theorem dX12_walkNow_85 : decode cX12_walkNow 85 = .ok (.getfield 43, 3) := by decide +kernel
theorem dX12_walkNow_88 : decode cX12_walkNow 88 = .ok (.iload 5, 2) := by decide +kernel
theorem dX12_walkNow_90 : decode cX12_walkNow 90 = .ok (.iaload, 1) := by decide +kernel
theorem dX12_walkNow_91 : decode cX12_walkNow 91 = .ok (.iload 6, 2) := by decide +kernel
theorem dX12_walkNow_93 : decode cX12_walkNow 93 = .ok (.invokestatic 260, 3) := by decide +kernel
theorem dX12_walkNow_96 : decode cX12_walkNow 96 = .ok (.ifCond .eq 11, 3) := by decide +kernel
theorem dX12_walkNow_99 : decode cX12_walkNow 99 = .ok (.aload_n 0, 1) := by decide +kernel
theorem dX12_walkNow_100 : decode cX12_walkNow 100 = .ok (.iconst 2, 1) := by decide +kernel
theorem dX12_walkNow_101 : decode cX12_walkNow 101 = .ok (.putfield 283, 3) := by decide +kernel
theorem dX12_walkNow_104 : decode cX12_walkNow 104 = .ok (.goto 133, 3) := by decide +kernel
theorem dX12_walkNow_107 : decode cX12_walkNow 107 = .ok (.iload 4, 2) := by decide +kernel
theorem dX12_walkNow_109 : decode cX12_walkNow 109 = .ok (.iconst 1, 1) := by decide +kernel
theorem dX12_walkNow_110 : decode cX12_walkNow 110 = .ok (.iload 5, 2) := by decide +kernel
theorem dX12_walkNow_112 : decode cX12_walkNow 112 = .ok (.ishl, 1) := by decide +kernel
theorem dX12_walkNow_113 : decode cX12_walkNow 113 = .ok (.ior, 1) := by decide +kernel
theorem dX12_walkNow_114 : decode cX12_walkNow 114 = .ok (.istore 4, 2) := by decide +kernel
theorem dX12_walkNow_116 : decode cX12_walkNow 116 = .ok (.aload_n 0, 1) := by decide +kernel
theorem dX12_walkNow_117 : decode cX12_walkNow 117 = .ok (.iload 5, 2) := by decide +kernel
theorem dX12_walkNow_119 : decode cX12_walkNow 119 = .ok (.iload 6, 2) := by decide +kernel
theorem dX12_walkNow_121 : decode cX12_walkNow 121 = .ok (.iload 7, 2) := by decide +kernel
theorem dX12_walkNow_123 : decode cX12_walkNow 123 = .ok (.ifCond .eq 7, 3) := by decide +kernel
theorem dX12_walkNow_126 : decode cX12_walkNow 126 = .ok (.iconst 0, 1) := by decide +kernel
theorem dX12_walkNow_127 : decode cX12_walkNow 127 = .ok (.goto 10, 3) := by decide +kernel
theorem dX12_walkNow_130 : decode cX12_walkNow 130 = .ok (.aload_n 0, 1) := by decide +kernel
theorem dX12_walkNow_131 : decode cX12_walkNow 131 = .ok (.getfield 40, 3) := by decide +kernel
theorem dX12_walkNow_134 : decode cX12_walkNow 134 = .ok (.iload 5, 2) := by decide +kernel
theorem dX12_walkNow_136 : decode cX12_walkNow 136 = .ok (.iaload, 1) := by decide +kernel
theorem dX12_walkNow_137 : decode cX12_walkNow 137 = .ok (.invokevirtual 256, 3) := by decide +kernel
theorem dX12_walkNow_140 : decode cX12_walkNow 140 = .ok (.istore 8, 2) := by decide +kernel
theorem dX12_walkNow_142 : decode cX12_walkNow 142 = .ok (.aload_n 0, 1) := by decide +kernel
theorem dX12_walkNow_143 : decode cX12_walkNow 143 = .ok (.getfield 77, 3) := by decide +kernel
theorem dX12_walkNow_146 : decode cX12_walkNow 146 = .ok (.aload_n 0, 1) := by decide +kernel
theorem dX12_walkNow_147 : decode cX12_walkNow 147 = .ok (.getfield 280, 3) := by decide +kernel
theorem dX12_walkNow_150 : decode cX12_walkNow 150 = .ok (.iload 6, 2) := by decide +kernel
theorem dX12_walkNow_152 : decode cX12_walkNow 152 = .ok (.iastore, 1) := by decide +kernel
theorem dX12_walkNow_153 : decode cX12_walkNow 153 = .ok (.aload_n 0, 1) := by decide +kernel
theorem dX12_walkNow_154 : decode cX12_walkNow 154 = .ok (.dup, 1) := by decide +kernel
theorem dX12_walkNow_155 : decode cX12_walkNow 155 = .ok (.getfield 277, 3) := by decide +kernel
theorem dX12_walkNow_158 : decode cX12_walkNow 158 = .ok (.aload_n 0, 1) := by decide +kernel
theorem dX12_walkNow_159 : decode cX12_walkNow 159 = .ok (.getfield 16, 3) := by decide +kernel
theorem dX12_walkNow_162 : decode cX12_walkNow 162 = .ok (.iload 8, 2) := by decide +kernel
theorem dX12_walkNow_164 : decode cX12_walkNow 164 = .ok (.iaload, 1) := by decide +kernel
theorem dX12_walkNow_165 : decode cX12_walkNow 165 = .ok (.iadd, 1) := by decide +kernel
theorem dX12_walkNow_166 : decode cX12_walkNow 166 = .ok (.putfield 277, 3) := by decide +kernel
theorem dX12_walkNow_169 : decode cX12_walkNow 169 = .ok (.aload_n 0, 1) := by decide +kernel
theorem dX12_walkNow_170 : decode cX12_walkNow 170 = .ok (.aload_n 0, 1) := by decide +kernel
theorem dX12_walkNow_171 : decode cX12_walkNow 171 = .ok (.iload 8, 2) := by decide +kernel
theorem dX12_walkNow_173 : decode cX12_walkNow 173 = .ok (.iload 5, 2) := by decide +kernel
theorem dX12_walkNow_175 : decode cX12_walkNow 175 = .ok (.invokevirtual 237, 3) := by decide +kernel
theorem dX12_walkNow_178 : decode cX12_walkNow 178 = .ok (.putfield 274, 3) := by decide +kernel
theorem dX12_walkNow_181 : decode cX12_walkNow 181 = .ok (.aload_n 0, 1) := by decide +kernel
theorem dX12_walkNow_182 : decode cX12_walkNow 182 = .ok (.dup, 1) := by decide +kernel
theorem dX12_walkNow_183 : decode cX12_walkNow 183 = .ok (.getfield 280, 3) := by decide +kernel
theorem dX12_walkNow_186 : decode cX12_walkNow 186 = .ok (.iconst 1, 1) := by decide +kernel
theorem dX12_walkNow_187 : decode cX12_walkNow 187 = .ok (.iadd, 1) := by decide +kernel
theorem dX12_walkNow_188 : decode cX12_walkNow 188 = .ok (.putfield 280, 3) := by decide +kernel
theorem dX12_walkNow_191 : decode cX12_walkNow 191 = .ok (.aload_n 0, 1) := by decide +kernel
theorem dX12_walkNow_192 : decode cX12_walkNow 192 = .ok (.getfield 74, 3) := by decide +kernel
theorem dX12_walkNow_195 : decode cX12_walkNow 195 = .ok (.aload_n 0, 1) := by decide +kernel
theorem dX12_walkNow_196 : decode cX12_walkNow 196 = .ok (.getfield 280, 3) := by decide +kernel
theorem dX12_walkNow_199 : decode cX12_walkNow 199 = .ok (.aload_n 0, 1) := by decide +kernel
theorem dX12_walkNow_200 : decode cX12_walkNow 200 = .ok (.getfield 274, 3) := by decide +kernel
theorem dX12_walkNow_203 : decode cX12_walkNow 203 = .ok (.iastore, 1) := by decide +kernel
theorem dX12_walkNow_204 : decode cX12_walkNow 204 = .ok (.aload_n 0, 1) := by decide +kernel
theorem dX12_walkNow_205 : decode cX12_walkNow 205 = .ok (.aload_n 0, 1) := by decide +kernel
theorem dX12_walkNow_206 : decode cX12_walkNow 206 = .ok (.getfield 274, 3) := by decide +kernel
theorem dX12_walkNow_209 : decode cX12_walkNow 209 = .ok (.iload_n 2, 1) := by decide +kernel
theorem dX12_walkNow_210 : decode cX12_walkNow 210 = .ok (.if_icmp .ne 7, 3) := by decide +kernel
theorem dX12_walkNow_213 : decode cX12_walkNow 213 = .ok (.iconst 1, 1) := by decide +kernel
theorem dX12_walkNow_214 : decode cX12_walkNow 214 = .ok (.goto 20, 3) := by decide +kernel
theorem dX12_walkNow_217 : decode cX12_walkNow 217 = .ok (.iload 4, 2) := by decide +kernel
theorem dX12_walkNow_219 : decode cX12_walkNow 219 = .ok (.aload_n 0, 1) := by decide +kernel
theorem dX12_walkNow_220 : decode cX12_walkNow 220 = .ok (.getfield 274, 3) := by decide +kernel
theorem dX12_walkNow_223 : decode cX12_walkNow 223 = .ok (.invokestatic 260, 3) := by decide +kernel
theorem dX12_walkNow_226 : decode cX12_walkNow 226 = .ok (.ifCond .eq 7, 3) := by decide +kernel
theorem dX12_walkNow_229 : decode cX12_walkNow 229 = .ok (.iconst 3, 1) := by decide +kernel
theorem dX12_walkNow_230 : decode cX12_walkNow 230 = .ok (.goto 4, 3) := by decide +kernel
theorem dX12_walkNow_233 : decode cX12_walkNow 233 = .ok (.iconst 0, 1) := by decide +kernel
theorem dX12_walkNow_234 : decode cX12_walkNow 234 = .ok (.putfield 283, 3) := by decide +kernel
theorem dX12_walkNow_237 : decode cX12_walkNow 237 = .ok (.goto (-198), 3) := by decide +kernel
theorem dX12_walkNow_240 : decode cX12_walkNow 240 = .ok (.return_, 1) := by decide +kernel
theorem dX12_walk_0 : decode cX12_walk 0 = .ok (.aload_n 0, 1) := by decide +kernel
theorem dX12_walk_1 : decode cX12_walk 1 = .ok (.iload_n 1, 1) := by decide +kernel
theorem dX12_walk_2 : decode cX12_walk 2 = .ok (.iload_n 2, 1) := by decide +kernel
theorem dX12_walk_3 : decode cX12_walk 3 = .ok (.invokevirtual 247, 3) := by decide +kernel
theorem dX12_walk_6 : decode cX12_walk 6 = .ok (.ifCond .ne 6, 3) := by decide +kernel
theorem dX12_walk_9 : decode cX12_walk 9 = .ok (.ldc 246, 2) := by decide +kernel
theorem dX12_walk_11 : decode cX12_walk 11 = .ok (.ireturn, 1) := by decide +kernel
theorem dX12_walk_12 : decode cX12_walk 12 = .ok (.aload_n 0, 1) := by decide +kernel
theorem dX12_walk_13 : decode cX12_walk 13 = .ok (.iload_n 1, 1) := by decide +kernel
theorem dX12_walk_14 : decode cX12_walk 14 = .ok (.iload_n 2, 1) := by decide +kernel
theorem dX12_walk_15 : decode cX12_walk 15 = .ok (.iconst 0, 1) := by decide +kernel
theorem dX12_walk_16 : decode cX12_walk 16 = .ok (.invokevirtual 286, 3) := by decide +kernel
theorem dX12_walk_19 : decode cX12_walk 19 = .ok (.iload_n 3, 1) := by decide +kernel
theorem dX12_walk_20 : decode cX12_walk 20 = .ok (.ifCond .ne 10, 3) := by decide +kernel
theorem dX12_walk_23 : decode cX12_walk 23 = .ok (.aload_n 0, 1) := by decide +kernel
theorem dX12_walk_24 : decode cX12_walk 24 = .ok (.getfield 283, 3) := by decide +kernel
theorem dX12_walk_27 : decode cX12_walk 27 = .ok (.goto 29, 3) := by decide +kernel
theorem dX12_walk_30 : decode cX12_walk 30 = .ok (.iload_n 3, 1) := by decide +kernel
theorem dX12_walk_31 : decode cX12_walk 31 = .ok (.iconst 1, 1) := by decide +kernel
theorem dX12_walk_32 : decode cX12_walk 32 = .ok (.if_icmp .ne 10, 3) := by decide +kernel
theorem dX12_walk_35 : decode cX12_walk 35 = .ok (.aload_n 0, 1) := by decide +kernel
theorem dX12_walk_36 : decode cX12_walk 36 = .ok (.getfield 277, 3) := by decide +kernel
theorem dX12_walk_39 : decode cX12_walk 39 = .ok (.goto 17, 3) := by decide +kernel
theorem dX12_walk_42 : decode cX12_walk 42 = .ok (.iload_n 3, 1) := by decide +kernel
theorem dX12_walk_43 : decode cX12_walk 43 = .ok (.iconst 2, 1) := by decide +kernel
theorem dX12_walk_44 : decode cX12_walk 44 = .ok (.if_icmp .ne 10, 3) := by decide +kernel
theorem dX12_walk_47 : decode cX12_walk 47 = .ok (.aload_n 0, 1) := by decide +kernel
theorem dX12_walk_48 : decode cX12_walk 48 = .ok (.getfield 274, 3) := by decide +kernel
theorem dX12_walk_51 : decode cX12_walk 51 = .ok (.goto 5, 3) := by decide +kernel
theorem dX12_walk_54 : decode cX12_walk 54 = .ok (.ldc 131, 2) := by decide +kernel
theorem dX12_walk_56 : decode cX12_walk 56 = .ok (.ireturn, 1) := by decide +kernel
theorem dX12_way_0 : decode cX12_way 0 = .ok (.aload_n 0, 1) := by decide +kernel
theorem dX12_way_1 : decode cX12_way 1 = .ok (.iload_n 1, 1) := by decide +kernel
theorem dX12_way_2 : decode cX12_way 2 = .ok (.iload_n 2, 1) := by decide +kernel
theorem dX12_way_3 : decode cX12_way 3 = .ok (.invokevirtual 247, 3) := by decide +kernel
theorem dX12_way_6 : decode cX12_way 6 = .ok (.ifCond .ne 6, 3) := by decide +kernel
theorem dX12_way_9 : decode cX12_way 9 = .ok (.ldc 246, 2) := by decide +kernel
theorem dX12_way_11 : decode cX12_way 11 = .ok (.ireturn, 1) := by decide +kernel
theorem dX12_way_12 : decode cX12_way 12 = .ok (.aload_n 0, 1) := by decide +kernel
theorem dX12_way_13 : decode cX12_way 13 = .ok (.iload_n 1, 1) := by decide +kernel
theorem dX12_way_14 : decode cX12_way 14 = .ok (.iload_n 2, 1) := by decide +kernel
theorem dX12_way_15 : decode cX12_way 15 = .ok (.iconst 0, 1) := by decide +kernel
theorem dX12_way_16 : decode cX12_way 16 = .ok (.invokevirtual 286, 3) := by decide +kernel
theorem dX12_way_19 : decode cX12_way 19 = .ok (.iload_n 3, 1) := by decide +kernel
theorem dX12_way_20 : decode cX12_way 20 = .ok (.i2l, 1) := by decide +kernel
theorem dX12_way_21 : decode cX12_way 21 = .ok (.lconst 0, 1) := by decide +kernel
theorem dX12_way_22 : decode cX12_way 22 = .ok (.aload_n 0, 1) := by decide +kernel
theorem dX12_way_23 : decode cX12_way 23 = .ok (.getfield 280, 3) := by decide +kernel
theorem dX12_way_26 : decode cX12_way 26 = .ok (.i2l, 1) := by decide +kernel
theorem dX12_way_27 : decode cX12_way 27 = .ok (.invokestatic 121, 3) := by decide +kernel
theorem dX12_way_30 : decode cX12_way 30 = .ok (.ifCond .eq 12, 3) := by decide +kernel
theorem dX12_way_33 : decode cX12_way 33 = .ok (.aload_n 0, 1) := by decide +kernel
theorem dX12_way_34 : decode cX12_way 34 = .ok (.getfield 74, 3) := by decide +kernel
theorem dX12_way_37 : decode cX12_way 37 = .ok (.iload_n 3, 1) := by decide +kernel
theorem dX12_way_38 : decode cX12_way 38 = .ok (.iaload, 1) := by decide +kernel
theorem dX12_way_39 : decode cX12_way 39 = .ok (.goto 4, 3) := by decide +kernel
theorem dX12_way_42 : decode cX12_way 42 = .ok (.iconst (-1), 1) := by decide +kernel
theorem dX12_way_43 : decode cX12_way 43 = .ok (.ireturn, 1) := by decide +kernel
theorem dX12_costBy_0 : decode cX12_costBy 0 = .ok (.iconst 0, 1) := by decide +kernel
theorem dX12_costBy_1 : decode cX12_costBy 1 = .ok (.istore_n 2, 1) := by decide +kernel
theorem dX12_costBy_2 : decode cX12_costBy 2 = .ok (.iconst 0, 1) := by decide +kernel
theorem dX12_costBy_3 : decode cX12_costBy 3 = .ok (.istore_n 3, 1) := by decide +kernel
theorem dX12_costBy_4 : decode cX12_costBy 4 = .ok (.iload_n 3, 1) := by decide +kernel
theorem dX12_costBy_5 : decode cX12_costBy 5 = .ok (.aload_n 0, 1) := by decide +kernel
theorem dX12_costBy_6 : decode cX12_costBy 6 = .ok (.getfield 221, 3) := by decide +kernel
theorem dX12_costBy_9 : decode cX12_costBy 9 = .ok (.if_icmp .ge 76, 3) := by decide +kernel
theorem dX12_costBy_12 : decode cX12_costBy 12 = .ok (.aload_n 0, 1) := by decide +kernel
theorem dX12_costBy_13 : decode cX12_costBy 13 = .ok (.aload_n 0, 1) := by decide +kernel
theorem dX12_costBy_14 : decode cX12_costBy 14 = .ok (.getfield 19, 3) := by decide +kernel
theorem dX12_costBy_17 : decode cX12_costBy 17 = .ok (.iload_n 3, 1) := by decide +kernel
theorem dX12_costBy_18 : decode cX12_costBy 18 = .ok (.iaload, 1) := by decide +kernel
theorem dX12_costBy_19 : decode cX12_costBy 19 = .ok (.aload_n 0, 1) := by decide +kernel
theorem dX12_costBy_20 : decode cX12_costBy 20 = .ok (.getfield 22, 3) := by decide +kernel
theorem dX12_costBy_23 : decode cX12_costBy 23 = .ok (.iload_n 3, 1) := by decide +kernel
theorem dX12_costBy_24 : decode cX12_costBy 24 = .ok (.iaload, 1) := by decide +kernel
theorem dX12_costBy_25 : decode cX12_costBy 25 = .ok (.iload_n 1, 1) := by decide +kernel
theorem dX12_costBy_26 : decode cX12_costBy 26 = .ok (.invokevirtual 286, 3) := by decide +kernel
theorem dX12_costBy_29 : decode cX12_costBy 29 = .ok (.iload_n 2, 1) := by decide +kernel
theorem dX12_costBy_30 : decode cX12_costBy 30 = .ok (.aload_n 0, 1) := by decide +kernel
theorem dX12_costBy_31 : decode cX12_costBy 31 = .ok (.getfield 25, 3) := by decide +kernel
theorem dX12_costBy_34 : decode cX12_costBy 34 = .ok (.iload_n 3, 1) := by decide +kernel
theorem dX12_costBy_35 : decode cX12_costBy 35 = .ok (.iaload, 1) := by decide +kernel
theorem dX12_costBy_36 : decode cX12_costBy 36 = .ok (.aload_n 0, 1) := by decide +kernel
theorem dX12_costBy_37 : decode cX12_costBy 37 = .ok (.getfield 283, 3) := by decide +kernel
theorem dX12_costBy_40 : decode cX12_costBy 40 = .ok (.iconst 1, 1) := by decide +kernel
theorem dX12_costBy_41 : decode cX12_costBy 41 = .ok (.if_icmp .ne 32, 3) := by decide +kernel
theorem dX12_costBy_44 : decode cX12_costBy 44 = .ok (.aload_n 0, 1) := by decide +kernel
theorem dX12_costBy_45 : decode cX12_costBy 45 = .ok (.getfield 277, 3) := by decide +kernel
theorem dX12_costBy_48 : decode cX12_costBy 48 = .ok (.aload_n 0, 1) := by decide +kernel
theorem dX12_costBy_49 : decode cX12_costBy 49 = .ok (.getfield 34, 3) := by decide +kernel
theorem dX12_costBy_52 : decode cX12_costBy 52 = .ok (.bipush 9, 2) := by decide +kernel
theorem dX12_costBy_54 : decode cX12_costBy 54 = .ok (.aload_n 0, 1) := by decide +kernel
theorem dX12_costBy_55 : decode cX12_costBy 55 = .ok (.getfield 19, 3) := by decide +kernel
theorem dX12_costBy_58 : decode cX12_costBy 58 = .ok (.iload_n 3, 1) := by decide +kernel
theorem dX12_costBy_59 : decode cX12_costBy 59 = .ok (.iaload, 1) := by decide +kernel
theorem dX12_costBy_60 : decode cX12_costBy 60 = .ok (.imul, 1) := by decide +kernel
theorem dX12_costBy_61 : decode cX12_costBy 61 = .ok (.aload_n 0, 1) := by decide +kernel
theorem dX12_costBy_62 : decode cX12_costBy 62 = .ok (.getfield 22, 3) := by decide +kernel
theorem dX12_costBy_65 : decode cX12_costBy 65 = .ok (.iload_n 3, 1) := by decide +kernel
theorem dX12_costBy_66 : decode cX12_costBy 66 = .ok (.iaload, 1) := by decide +kernel
theorem dX12_costBy_67 : decode cX12_costBy 67 = .ok (.iadd, 1) := by decide +kernel
theorem dX12_costBy_68 : decode cX12_costBy 68 = .ok (.iaload, 1) := by decide +kernel
theorem dX12_costBy_69 : decode cX12_costBy 69 = .ok (.isub, 1) := by decide +kernel
theorem dX12_costBy_70 : decode cX12_costBy 70 = .ok (.goto 6, 3) := by decide +kernel
theorem dX12_costBy_73 : decode cX12_costBy 73 = .ok (.sipush 1000, 3) := by decide +kernel
theorem dX12_costBy_76 : decode cX12_costBy 76 = .ok (.imul, 1) := by decide +kernel
theorem dX12_costBy_77 : decode cX12_costBy 77 = .ok (.iadd, 1) := by decide +kernel
theorem dX12_costBy_78 : decode cX12_costBy 78 = .ok (.istore_n 2, 1) := by decide +kernel
theorem dX12_costBy_79 : decode cX12_costBy 79 = .ok (.iinc 3 1, 3) := by decide +kernel
theorem dX12_costBy_82 : decode cX12_costBy 82 = .ok (.goto (-78), 3) := by decide +kernel
theorem dX12_costBy_85 : decode cX12_costBy 85 = .ok (.iload_n 2, 1) := by decide +kernel
theorem dX12_costBy_86 : decode cX12_costBy 86 = .ok (.ireturn, 1) := by decide +kernel
theorem dX12_costNow_0 : decode cX12_costNow 0 = .ok (.aload_n 0, 1) := by decide +kernel
theorem dX12_costNow_1 : decode cX12_costNow 1 = .ok (.iconst 0, 1) := by decide +kernel
theorem dX12_costNow_2 : decode cX12_costNow 2 = .ok (.invokevirtual 290, 3) := by decide +kernel
theorem dX12_costNow_5 : decode cX12_costNow 5 = .ok (.ireturn, 1) := by decide +kernel
theorem dX12_isBeside_0 : decode cX12_isBeside 0 = .ok (.iconst 0, 1) := by decide +kernel
theorem dX12_isBeside_1 : decode cX12_isBeside 1 = .ok (.istore_n 3, 1) := by decide +kernel
theorem dX12_isBeside_2 : decode cX12_isBeside 2 = .ok (.iconst 0, 1) := by decide +kernel
theorem dX12_isBeside_3 : decode cX12_isBeside 3 = .ok (.istore 4, 2) := by decide +kernel
theorem dX12_isBeside_5 : decode cX12_isBeside 5 = .ok (.iload 4, 2) := by decide +kernel
theorem dX12_isBeside_7 : decode cX12_isBeside 7 = .ok (.aload_n 0, 1) := by decide +kernel
theorem dX12_isBeside_8 : decode cX12_isBeside 8 = .ok (.getfield 218, 3) := by decide +kernel
theorem dX12_isBeside_11 : decode cX12_isBeside 11 = .ok (.if_icmp .ge 30, 3) := by decide +kernel
theorem dX12_isBeside_14 : decode cX12_isBeside 14 = .ok (.iload_n 3, 1) := by decide +kernel
theorem dX12_isBeside_15 : decode cX12_isBeside 15 = .ok (.ifCond .ne 14, 3) := by decide +kernel
theorem dX12_isBeside_18 : decode cX12_isBeside 18 = .ok (.aload_n 0, 1) := by decide +kernel
theorem dX12_isBeside_19 : decode cX12_isBeside 19 = .ok (.iload 4, 2) := by decide +kernel
theorem dX12_isBeside_21 : decode cX12_isBeside 21 = .ok (.iload_n 1, 1) := by decide +kernel
theorem dX12_isBeside_22 : decode cX12_isBeside 22 = .ok (.invokevirtual 237, 3) := by decide +kernel
theorem dX12_isBeside_25 : decode cX12_isBeside 25 = .ok (.iload_n 2, 1) := by decide +kernel
theorem dX12_isBeside_26 : decode cX12_isBeside 26 = .ok (.if_icmp .ne 7, 3) := by decide +kernel
theorem dX12_isBeside_29 : decode cX12_isBeside 29 = .ok (.iconst 1, 1) := by decide +kernel
theorem dX12_isBeside_30 : decode cX12_isBeside 30 = .ok (.goto 4, 3) := by decide +kernel
theorem dX12_isBeside_33 : decode cX12_isBeside 33 = .ok (.iconst 0, 1) := by decide +kernel
theorem dX12_isBeside_34 : decode cX12_isBeside 34 = .ok (.istore_n 3, 1) := by decide +kernel
theorem dX12_isBeside_35 : decode cX12_isBeside 35 = .ok (.iinc 4 1, 3) := by decide +kernel
theorem dX12_isBeside_38 : decode cX12_isBeside 38 = .ok (.goto (-33), 3) := by decide +kernel
theorem dX12_isBeside_41 : decode cX12_isBeside 41 = .ok (.iload_n 3, 1) := by decide +kernel
theorem dX12_isBeside_42 : decode cX12_isBeside 42 = .ok (.ireturn, 1) := by decide +kernel
theorem dX12_seen_0 : decode cX12_seen 0 = .ok (.aload_n 0, 1) := by decide +kernel
theorem dX12_seen_1 : decode cX12_seen 1 = .ok (.iload_n 1, 1) := by decide +kernel
theorem dX12_seen_2 : decode cX12_seen 2 = .ok (.iload_n 2, 1) := by decide +kernel
theorem dX12_seen_3 : decode cX12_seen 3 = .ok (.invokevirtual 247, 3) := by decide +kernel
theorem dX12_seen_6 : decode cX12_seen 6 = .ok (.ifCond .eq 11, 3) := by decide +kernel
theorem dX12_seen_9 : decode cX12_seen 9 = .ok (.aload_n 0, 1) := by decide +kernel
theorem dX12_seen_10 : decode cX12_seen 10 = .ok (.iload_n 3, 1) := by decide +kernel
theorem dX12_seen_11 : decode cX12_seen 11 = .ok (.invokevirtual 125, 3) := by decide +kernel
theorem dX12_seen_14 : decode cX12_seen 14 = .ok (.ifCond .ne 6, 3) := by decide +kernel
theorem dX12_seen_17 : decode cX12_seen 17 = .ok (.ldc 246, 2) := by decide +kernel
theorem dX12_seen_19 : decode cX12_seen 19 = .ok (.ireturn, 1) := by decide +kernel
theorem dX12_seen_20 : decode cX12_seen 20 = .ok (.aload_n 0, 1) := by decide +kernel
theorem dX12_seen_21 : decode cX12_seen 21 = .ok (.iload_n 1, 1) := by decide +kernel
theorem dX12_seen_22 : decode cX12_seen 22 = .ok (.iload_n 3, 1) := by decide +kernel
theorem dX12_seen_23 : decode cX12_seen 23 = .ok (.invokevirtual 293, 3) := by decide +kernel
theorem dX12_seen_26 : decode cX12_seen 26 = .ok (.ifCond .eq 17, 3) := by decide +kernel
theorem dX12_seen_29 : decode cX12_seen 29 = .ok (.aload_n 0, 1) := by decide +kernel
theorem dX12_seen_30 : decode cX12_seen 30 = .ok (.getfield 37, 3) := by decide +kernel
theorem dX12_seen_33 : decode cX12_seen 33 = .ok (.bipush 9, 2) := by decide +kernel
theorem dX12_seen_35 : decode cX12_seen 35 = .ok (.iload_n 1, 1) := by decide +kernel
theorem dX12_seen_36 : decode cX12_seen 36 = .ok (.imul, 1) := by decide +kernel
theorem dX12_seen_37 : decode cX12_seen 37 = .ok (.iload_n 2, 1) := by decide +kernel
theorem dX12_seen_38 : decode cX12_seen 38 = .ok (.iadd, 1) := by decide +kernel
theorem dX12_seen_39 : decode cX12_seen 39 = .ok (.iaload, 1) := by decide +kernel
theorem dX12_seen_40 : decode cX12_seen 40 = .ok (.ifCond .ge 6, 3) := by decide +kernel
theorem dX12_seen_43 : decode cX12_seen 43 = .ok (.ldc 131, 2) := by decide +kernel
theorem dX12_seen_45 : decode cX12_seen 45 = .ok (.ireturn, 1) := by decide +kernel
theorem dX12_seen_46 : decode cX12_seen 46 = .ok (.aload_n 0, 1) := by decide +kernel
theorem dX12_seen_47 : decode cX12_seen 47 = .ok (.getfield 230, 3) := by decide +kernel
theorem dX12_seen_50 : decode cX12_seen 50 = .ok (.bipush 40, 2) := by decide +kernel
theorem dX12_seen_52 : decode cX12_seen 52 = .ok (.if_icmp .ne 6, 3) := by decide +kernel
theorem dX12_seen_55 : decode cX12_seen 55 = .ok (.ldc 135, 2) := by decide +kernel
theorem dX12_seen_57 : decode cX12_seen 57 = .ok (.ireturn, 1) := by decide +kernel
theorem dX12_seen_58 : decode cX12_seen 58 = .ok (.aload_n 0, 1) := by decide +kernel
theorem dX12_seen_59 : decode cX12_seen 59 = .ok (.getfield 80, 3) := by decide +kernel
theorem dX12_seen_62 : decode cX12_seen 62 = .ok (.aload_n 0, 1) := by decide +kernel
theorem dX12_seen_63 : decode cX12_seen 63 = .ok (.getfield 230, 3) := by decide +kernel
theorem dX12_seen_66 : decode cX12_seen 66 = .ok (.iload_n 1, 1) := by decide +kernel
theorem dX12_seen_67 : decode cX12_seen 67 = .ok (.iastore, 1) := by decide +kernel
theorem dX12_seen_68 : decode cX12_seen 68 = .ok (.aload_n 0, 1) := by decide +kernel
theorem dX12_seen_69 : decode cX12_seen 69 = .ok (.getfield 83, 3) := by decide +kernel
theorem dX12_seen_72 : decode cX12_seen 72 = .ok (.aload_n 0, 1) := by decide +kernel
theorem dX12_seen_73 : decode cX12_seen 73 = .ok (.getfield 230, 3) := by decide +kernel
theorem dX12_seen_76 : decode cX12_seen 76 = .ok (.iload_n 2, 1) := by decide +kernel
theorem dX12_seen_77 : decode cX12_seen 77 = .ok (.iastore, 1) := by decide +kernel
theorem dX12_seen_78 : decode cX12_seen 78 = .ok (.aload_n 0, 1) := by decide +kernel
theorem dX12_seen_79 : decode cX12_seen 79 = .ok (.getfield 86, 3) := by decide +kernel
theorem dX12_seen_82 : decode cX12_seen 82 = .ok (.aload_n 0, 1) := by decide +kernel
theorem dX12_seen_83 : decode cX12_seen 83 = .ok (.getfield 230, 3) := by decide +kernel
theorem dX12_seen_86 : decode cX12_seen 86 = .ok (.iload_n 3, 1) := by decide +kernel
theorem dX12_seen_87 : decode cX12_seen 87 = .ok (.iastore, 1) := by decide +kernel
theorem dX12_seen_88 : decode cX12_seen 88 = .ok (.aload_n 0, 1) := by decide +kernel
theorem dX12_seen_89 : decode cX12_seen 89 = .ok (.dup, 1) := by decide +kernel
theorem dX12_seen_90 : decode cX12_seen 90 = .ok (.getfield 230, 3) := by decide +kernel
theorem dX12_seen_93 : decode cX12_seen 93 = .ok (.iconst 1, 1) := by decide +kernel
theorem dX12_seen_94 : decode cX12_seen 94 = .ok (.iadd, 1) := by decide +kernel
theorem dX12_seen_95 : decode cX12_seen 95 = .ok (.putfield 230, 3) := by decide +kernel
theorem dX12_seen_98 : decode cX12_seen 98 = .ok (.aload_n 0, 1) := by decide +kernel
theorem dX12_seen_99 : decode cX12_seen 99 = .ok (.getfield 230, 3) := by decide +kernel
theorem dX12_seen_102 : decode cX12_seen 102 = .ok (.ireturn, 1) := by decide +kernel
theorem dX12_forget_0 : decode cX12_forget 0 = .ok (.aload_n 0, 1) := by decide +kernel
theorem dX12_forget_1 : decode cX12_forget 1 = .ok (.getfield 230, 3) := by decide +kernel
theorem dX12_forget_4 : decode cX12_forget 4 = .ok (.istore_n 1, 1) := by decide +kernel
theorem dX12_forget_5 : decode cX12_forget 5 = .ok (.aload_n 0, 1) := by decide +kernel
theorem dX12_forget_6 : decode cX12_forget 6 = .ok (.iconst 0, 1) := by decide +kernel
theorem dX12_forget_7 : decode cX12_forget 7 = .ok (.putfield 230, 3) := by decide +kernel
theorem dX12_forget_10 : decode cX12_forget 10 = .ok (.iload_n 1, 1) := by decide +kernel
theorem dX12_forget_11 : decode cX12_forget 11 = .ok (.ireturn, 1) := by decide +kernel
theorem dX12_fitsOf_0 : decode cX12_fitsOf 0 = .ok (.aload_n 0, 1) := by decide +kernel
theorem dX12_fitsOf_1 : decode cX12_fitsOf 1 = .ok (.getfield 28, 3) := by decide +kernel
theorem dX12_fitsOf_4 : decode cX12_fitsOf 4 = .ok (.iload_n 1, 1) := by decide +kernel
theorem dX12_fitsOf_5 : decode cX12_fitsOf 5 = .ok (.iaload, 1) := by decide +kernel
theorem dX12_fitsOf_6 : decode cX12_fitsOf 6 = .ok (.ifCond .ne 5, 3) := by decide +kernel
theorem dX12_fitsOf_9 : decode cX12_fitsOf 9 = .ok (.iconst 1, 1) := by decide +kernel
theorem dX12_fitsOf_10 : decode cX12_fitsOf 10 = .ok (.ireturn, 1) := by decide +kernel
theorem dX12_fitsOf_11 : decode cX12_fitsOf 11 = .ok (.iconst 0, 1) := by decide +kernel
theorem dX12_fitsOf_12 : decode cX12_fitsOf 12 = .ok (.istore_n 2, 1) := by decide +kernel
theorem dX12_fitsOf_13 : decode cX12_fitsOf 13 = .ok (.iconst 0, 1) := by decide +kernel
theorem dX12_fitsOf_14 : decode cX12_fitsOf 14 = .ok (.istore_n 3, 1) := by decide +kernel
theorem dX12_fitsOf_15 : decode cX12_fitsOf 15 = .ok (.iload_n 3, 1) := by decide +kernel
theorem dX12_fitsOf_16 : decode cX12_fitsOf 16 = .ok (.aload_n 0, 1) := by decide +kernel
theorem dX12_fitsOf_17 : decode cX12_fitsOf 17 = .ok (.getfield 28, 3) := by decide +kernel
theorem dX12_fitsOf_20 : decode cX12_fitsOf 20 = .ok (.iload_n 1, 1) := by decide +kernel
theorem dX12_fitsOf_21 : decode cX12_fitsOf 21 = .ok (.iaload, 1) := by decide +kernel
theorem dX12_fitsOf_22 : decode cX12_fitsOf 22 = .ok (.if_icmp .ge 116, 3) := by decide +kernel
theorem dX12_fitsOf_25 : decode cX12_fitsOf 25 = .ok (.iconst 1, 1) := by decide +kernel
theorem dX12_fitsOf_26 : decode cX12_fitsOf 26 = .ok (.istore 4, 2) := by decide +kernel
theorem dX12_fitsOf_28 : decode cX12_fitsOf 28 = .ok (.iconst 0, 1) := by decide +kernel
theorem dX12_fitsOf_29 : decode cX12_fitsOf 29 = .ok (.istore 5, 2) := by decide +kernel
theorem dX12_fitsOf_31 : decode cX12_fitsOf 31 = .ok (.iload 5, 2) := by decide +kernel
theorem dX12_fitsOf_33 : decode cX12_fitsOf 33 = .ok (.aload_n 0, 1) := by decide +kernel
theorem dX12_fitsOf_34 : decode cX12_fitsOf 34 = .ok (.getfield 230, 3) := by decide +kernel
theorem dX12_fitsOf_37 : decode cX12_fitsOf 37 = .ok (.if_icmp .ge 80, 3) := by decide +kernel
theorem dX12_fitsOf_40 : decode cX12_fitsOf 40 = .ok (.aload_n 0, 1) := by decide +kernel
theorem dX12_fitsOf_41 : decode cX12_fitsOf 41 = .ok (.getfield 37, 3) := by decide +kernel
theorem dX12_fitsOf_44 : decode cX12_fitsOf 44 = .ok (.bipush 9, 2) := by decide +kernel
theorem dX12_fitsOf_46 : decode cX12_fitsOf 46 = .ok (.aload_n 0, 1) := by decide +kernel
theorem dX12_fitsOf_47 : decode cX12_fitsOf 47 = .ok (.getfield 80, 3) := by decide +kernel
theorem dX12_fitsOf_50 : decode cX12_fitsOf 50 = .ok (.iload 5, 2) := by decide +kernel
theorem dX12_fitsOf_52 : decode cX12_fitsOf 52 = .ok (.iaload, 1) := by decide +kernel
theorem dX12_fitsOf_53 : decode cX12_fitsOf 53 = .ok (.imul, 1) := by decide +kernel
theorem dX12_fitsOf_54 : decode cX12_fitsOf 54 = .ok (.aload_n 0, 1) := by decide +kernel
theorem dX12_fitsOf_55 : decode cX12_fitsOf 55 = .ok (.getfield 83, 3) := by decide +kernel
theorem dX12_fitsOf_58 : decode cX12_fitsOf 58 = .ok (.iload 5, 2) := by decide +kernel
theorem dX12_fitsOf_60 : decode cX12_fitsOf 60 = .ok (.iaload, 1) := by decide +kernel
theorem dX12_fitsOf_61 : decode cX12_fitsOf 61 = .ok (.iadd, 1) := by decide +kernel
theorem dX12_fitsOf_62 : decode cX12_fitsOf 62 = .ok (.iaload, 1) := by decide +kernel
theorem dX12_fitsOf_63 : decode cX12_fitsOf 63 = .ok (.istore 6, 2) := by decide +kernel
theorem dX12_fitsOf_65 : decode cX12_fitsOf 65 = .ok (.iload 4, 2) := by decide +kernel
theorem dX12_fitsOf_67 : decode cX12_fitsOf 67 = .ok (.ifCond .eq 41, 3) := by decide +kernel
theorem dX12_fitsOf_70 : decode cX12_fitsOf 70 = .ok (.aload_n 0, 1) := by decide +kernel
theorem dX12_fitsOf_71 : decode cX12_fitsOf 71 = .ok (.getfield 80, 3) := by decide +kernel
theorem dX12_fitsOf_74 : decode cX12_fitsOf 74 = .ok (.iload 5, 2) := by decide +kernel
theorem dX12_fitsOf_76 : decode cX12_fitsOf 76 = .ok (.iaload, 1) := by decide +kernel
theorem dX12_fitsOf_77 : decode cX12_fitsOf 77 = .ok (.iload_n 1, 1) := by decide +kernel
theorem dX12_fitsOf_78 : decode cX12_fitsOf 78 = .ok (.if_icmp .ne 26, 3) := by decide +kernel
theorem dX12_fitsOf_81 : decode cX12_fitsOf 81 = .ok (.aload_n 0, 1) := by decide +kernel
theorem dX12_fitsOf_82 : decode cX12_fitsOf 82 = .ok (.aload_n 0, 1) := by decide +kernel
theorem dX12_fitsOf_83 : decode cX12_fitsOf 83 = .ok (.iload_n 1, 1) := by decide +kernel
theorem dX12_fitsOf_84 : decode cX12_fitsOf 84 = .ok (.iload 6, 2) := by decide +kernel
theorem dX12_fitsOf_86 : decode cX12_fitsOf 86 = .ok (.iload_n 3, 1) := by decide +kernel
theorem dX12_fitsOf_87 : decode cX12_fitsOf 87 = .ok (.invokevirtual 256, 3) := by decide +kernel
theorem dX12_fitsOf_90 : decode cX12_fitsOf 90 = .ok (.iload_n 1, 1) := by decide +kernel
theorem dX12_fitsOf_91 : decode cX12_fitsOf 91 = .ok (.invokevirtual 237, 3) := by decide +kernel
theorem dX12_fitsOf_94 : decode cX12_fitsOf 94 = .ok (.aload_n 0, 1) := by decide +kernel
theorem dX12_fitsOf_95 : decode cX12_fitsOf 95 = .ok (.getfield 86, 3) := by decide +kernel
theorem dX12_fitsOf_98 : decode cX12_fitsOf 98 = .ok (.iload 5, 2) := by decide +kernel
theorem dX12_fitsOf_100 : decode cX12_fitsOf 100 = .ok (.iaload, 1) := by decide +kernel
theorem dX12_fitsOf_101 : decode cX12_fitsOf 101 = .ok (.if_icmp .ne 7, 3) := by decide +kernel
theorem dX12_fitsOf_104 : decode cX12_fitsOf 104 = .ok (.iconst 1, 1) := by decide +kernel
theorem dX12_fitsOf_105 : decode cX12_fitsOf 105 = .ok (.goto 4, 3) := by decide +kernel
theorem dX12_fitsOf_108 : decode cX12_fitsOf 108 = .ok (.iconst 0, 1) := by decide +kernel
theorem dX12_fitsOf_109 : decode cX12_fitsOf 109 = .ok (.istore 4, 2) := by decide +kernel
theorem dX12_fitsOf_111 : decode cX12_fitsOf 111 = .ok (.iinc 5 1, 3) := by decide +kernel
theorem dX12_fitsOf_114 : decode cX12_fitsOf 114 = .ok (.goto (-83), 3) := by decide +kernel
theorem dX12_fitsOf_117 : decode cX12_fitsOf 117 = .ok (.iload_n 2, 1) := by decide +kernel
theorem dX12_fitsOf_118 : decode cX12_fitsOf 118 = .ok (.iload 4, 2) := by decide +kernel
theorem dX12_fitsOf_120 : decode cX12_fitsOf 120 = .ok (.ifCond .eq 9, 3) := by decide +kernel
theorem dX12_fitsOf_123 : decode cX12_fitsOf 123 = .ok (.iconst 1, 1) := by decide +kernel
theorem dX12_fitsOf_124 : decode cX12_fitsOf 124 = .ok (.iload_n 3, 1) := by decide +kernel
theorem dX12_fitsOf_125 : decode cX12_fitsOf 125 = .ok (.ishl, 1) := by decide +kernel
theorem dX12_fitsOf_126 : decode cX12_fitsOf 126 = .ok (.goto 4, 3) := by decide +kernel
theorem dX12_fitsOf_129 : decode cX12_fitsOf 129 = .ok (.iconst 0, 1) := by decide +kernel
theorem dX12_fitsOf_130 : decode cX12_fitsOf 130 = .ok (.ior, 1) := by decide +kernel
theorem dX12_fitsOf_131 : decode cX12_fitsOf 131 = .ok (.istore_n 2, 1) := by decide +kernel
theorem dX12_fitsOf_132 : decode cX12_fitsOf 132 = .ok (.iinc 3 1, 3) := by decide +kernel
theorem dX12_fitsOf_135 : decode cX12_fitsOf 135 = .ok (.goto (-120), 3) := by decide +kernel
theorem dX12_fitsOf_138 : decode cX12_fitsOf 138 = .ok (.iload_n 2, 1) := by decide +kernel
theorem dX12_fitsOf_139 : decode cX12_fitsOf 139 = .ok (.ireturn, 1) := by decide +kernel
theorem dX12_fits_0 : decode cX12_fits 0 = .ok (.aload_n 0, 1) := by decide +kernel
theorem dX12_fits_1 : decode cX12_fits 1 = .ok (.iload_n 1, 1) := by decide +kernel
theorem dX12_fits_2 : decode cX12_fits 2 = .ok (.invokevirtual 125, 3) := by decide +kernel
theorem dX12_fits_5 : decode cX12_fits 5 = .ok (.ifCond .eq 11, 3) := by decide +kernel
theorem dX12_fits_8 : decode cX12_fits 8 = .ok (.aload_n 0, 1) := by decide +kernel
theorem dX12_fits_9 : decode cX12_fits 9 = .ok (.iload_n 1, 1) := by decide +kernel
theorem dX12_fits_10 : decode cX12_fits 10 = .ok (.invokevirtual 296, 3) := by decide +kernel
theorem dX12_fits_13 : decode cX12_fits 13 = .ok (.goto 5, 3) := by decide +kernel
theorem dX12_fits_16 : decode cX12_fits 16 = .ok (.ldc 246, 2) := by decide +kernel
theorem dX12_fits_18 : decode cX12_fits 18 = .ok (.ireturn, 1) := by decide +kernel
theorem dX12_sure_0 : decode cX12_sure 0 = .ok (.iconst 0, 1) := by decide +kernel
theorem dX12_sure_1 : decode cX12_sure 1 = .ok (.istore_n 1, 1) := by decide +kernel
theorem dX12_sure_2 : decode cX12_sure 2 = .ok (.iconst 0, 1) := by decide +kernel
theorem dX12_sure_3 : decode cX12_sure 3 = .ok (.istore_n 2, 1) := by decide +kernel
theorem dX12_sure_4 : decode cX12_sure 4 = .ok (.iload_n 2, 1) := by decide +kernel
theorem dX12_sure_5 : decode cX12_sure 5 = .ok (.aload_n 0, 1) := by decide +kernel
theorem dX12_sure_6 : decode cX12_sure 6 = .ok (.getfield 118, 3) := by decide +kernel
theorem dX12_sure_9 : decode cX12_sure 9 = .ok (.if_icmp .ge 31, 3) := by decide +kernel
theorem dX12_sure_12 : decode cX12_sure 12 = .ok (.iload_n 1, 1) := by decide +kernel
theorem dX12_sure_13 : decode cX12_sure 13 = .ok (.aload_n 0, 1) := by decide +kernel
theorem dX12_sure_14 : decode cX12_sure 14 = .ok (.iload_n 2, 1) := by decide +kernel
theorem dX12_sure_15 : decode cX12_sure 15 = .ok (.invokevirtual 296, 3) := by decide +kernel
theorem dX12_sure_18 : decode cX12_sure 18 = .ok (.invokestatic 299, 3) := by decide +kernel
theorem dX12_sure_21 : decode cX12_sure 21 = .ok (.iconst 1, 1) := by decide +kernel
theorem dX12_sure_22 : decode cX12_sure 22 = .ok (.if_icmp .ne 9, 3) := by decide +kernel
theorem dX12_sure_25 : decode cX12_sure 25 = .ok (.iconst 1, 1) := by decide +kernel
theorem dX12_sure_26 : decode cX12_sure 26 = .ok (.iload_n 2, 1) := by decide +kernel
theorem dX12_sure_27 : decode cX12_sure 27 = .ok (.ishl, 1) := by decide +kernel
theorem dX12_sure_28 : decode cX12_sure 28 = .ok (.goto 4, 3) := by decide +kernel
theorem dX12_sure_31 : decode cX12_sure 31 = .ok (.iconst 0, 1) := by decide +kernel
theorem dX12_sure_32 : decode cX12_sure 32 = .ok (.ior, 1) := by decide +kernel
theorem dX12_sure_33 : decode cX12_sure 33 = .ok (.istore_n 1, 1) := by decide +kernel
theorem dX12_sure_34 : decode cX12_sure 34 = .ok (.iinc 2 1, 3) := by decide +kernel
theorem dX12_sure_37 : decode cX12_sure 37 = .ok (.goto (-33), 3) := by decide +kernel
theorem dX12_sure_40 : decode cX12_sure 40 = .ok (.iload_n 1, 1) := by decide +kernel
theorem dX12_sure_41 : decode cX12_sure 41 = .ok (.ireturn, 1) := by decide +kernel
theorem dX12_isQuarrel_0 : decode cX12_isQuarrel 0 = .ok (.aload_n 0, 1) := by decide +kernel
theorem dX12_isQuarrel_1 : decode cX12_isQuarrel 1 = .ok (.iload_n 1, 1) := by decide +kernel
theorem dX12_isQuarrel_2 : decode cX12_isQuarrel 2 = .ok (.iload_n 2, 1) := by decide +kernel
theorem dX12_isQuarrel_3 : decode cX12_isQuarrel 3 = .ok (.invokevirtual 263, 3) := by decide +kernel
theorem dX12_isQuarrel_6 : decode cX12_isQuarrel 6 = .ok (.ifCond .ne 5, 3) := by decide +kernel
theorem dX12_isQuarrel_9 : decode cX12_isQuarrel 9 = .ok (.iconst 0, 1) := by decide +kernel
theorem dX12_isQuarrel_10 : decode cX12_isQuarrel 10 = .ok (.ireturn, 1) := by decide +kernel
theorem dX12_isQuarrel_11 : decode cX12_isQuarrel 11 = .ok (.iload_n 3, 1) := by decide +kernel
theorem dX12_isQuarrel_12 : decode cX12_isQuarrel 12 = .ok (.ifCond .ne 34, 3) := by decide +kernel
theorem dX12_isQuarrel_15 : decode cX12_isQuarrel 15 = .ok (.aload_n 0, 1) := by decide +kernel
theorem dX12_isQuarrel_16 : decode cX12_isQuarrel 16 = .ok (.getfield 46, 3) := by decide +kernel
theorem dX12_isQuarrel_19 : decode cX12_isQuarrel 19 = .ok (.bipush 9, 2) := by decide +kernel
theorem dX12_isQuarrel_21 : decode cX12_isQuarrel 21 = .ok (.iload_n 1, 1) := by decide +kernel
theorem dX12_isQuarrel_22 : decode cX12_isQuarrel 22 = .ok (.imul, 1) := by decide +kernel
theorem dX12_isQuarrel_23 : decode cX12_isQuarrel 23 = .ok (.iload_n 2, 1) := by decide +kernel
theorem dX12_isQuarrel_24 : decode cX12_isQuarrel 24 = .ok (.iadd, 1) := by decide +kernel
theorem dX12_isQuarrel_25 : decode cX12_isQuarrel 25 = .ok (.iaload, 1) := by decide +kernel
theorem dX12_isQuarrel_26 : decode cX12_isQuarrel 26 = .ok (.aload_n 0, 1) := by decide +kernel
theorem dX12_isQuarrel_27 : decode cX12_isQuarrel 27 = .ok (.getfield 34, 3) := by decide +kernel
theorem dX12_isQuarrel_30 : decode cX12_isQuarrel 30 = .ok (.bipush 9, 2) := by decide +kernel
theorem dX12_isQuarrel_32 : decode cX12_isQuarrel 32 = .ok (.iload_n 1, 1) := by decide +kernel
theorem dX12_isQuarrel_33 : decode cX12_isQuarrel 33 = .ok (.imul, 1) := by decide +kernel
theorem dX12_isQuarrel_34 : decode cX12_isQuarrel 34 = .ok (.iload_n 2, 1) := by decide +kernel
theorem dX12_isQuarrel_35 : decode cX12_isQuarrel 35 = .ok (.iadd, 1) := by decide +kernel
theorem dX12_isQuarrel_36 : decode cX12_isQuarrel 36 = .ok (.iaload, 1) := by decide +kernel
theorem dX12_isQuarrel_37 : decode cX12_isQuarrel 37 = .ok (.if_icmp .eq 7, 3) := by decide +kernel
theorem dX12_isQuarrel_40 : decode cX12_isQuarrel 40 = .ok (.iconst 1, 1) := by decide +kernel
theorem dX12_isQuarrel_41 : decode cX12_isQuarrel 41 = .ok (.goto 4, 3) := by decide +kernel
theorem dX12_isQuarrel_44 : decode cX12_isQuarrel 44 = .ok (.iconst 0, 1) := by decide +kernel
theorem dX12_isQuarrel_45 : decode cX12_isQuarrel 45 = .ok (.ireturn, 1) := by decide +kernel
theorem dX12_isQuarrel_46 : decode cX12_isQuarrel 46 = .ok (.aload_n 0, 1) := by decide +kernel
theorem dX12_isQuarrel_47 : decode cX12_isQuarrel 47 = .ok (.iload_n 1, 1) := by decide +kernel
theorem dX12_isQuarrel_48 : decode cX12_isQuarrel 48 = .ok (.aload_n 0, 1) := by decide +kernel
theorem dX12_isQuarrel_49 : decode cX12_isQuarrel 49 = .ok (.getfield 37, 3) := by decide +kernel
theorem dX12_isQuarrel_52 : decode cX12_isQuarrel 52 = .ok (.bipush 9, 2) := by decide +kernel
theorem dX12_isQuarrel_54 : decode cX12_isQuarrel 54 = .ok (.iload_n 1, 1) := by decide +kernel
theorem dX12_isQuarrel_55 : decode cX12_isQuarrel 55 = .ok (.imul, 1) := by decide +kernel
theorem dX12_isQuarrel_56 : decode cX12_isQuarrel 56 = .ok (.iload_n 2, 1) := by decide +kernel
theorem dX12_isQuarrel_57 : decode cX12_isQuarrel 57 = .ok (.iadd, 1) := by decide +kernel
theorem dX12_isQuarrel_58 : decode cX12_isQuarrel 58 = .ok (.iaload, 1) := by decide +kernel
theorem dX12_isQuarrel_59 : decode cX12_isQuarrel 59 = .ok (.iconst 0, 1) := by decide +kernel
theorem dX12_isQuarrel_60 : decode cX12_isQuarrel 60 = .ok (.invokevirtual 256, 3) := by decide +kernel
theorem dX12_isQuarrel_63 : decode cX12_isQuarrel 63 = .ok (.istore 4, 2) := by decide +kernel
theorem dX12_isQuarrel_65 : decode cX12_isQuarrel 65 = .ok (.aload_n 0, 1) := by decide +kernel
theorem dX12_isQuarrel_66 : decode cX12_isQuarrel 66 = .ok (.iload 4, 2) := by decide +kernel
theorem dX12_isQuarrel_68 : decode cX12_isQuarrel 68 = .ok (.iload_n 1, 1) := by decide +kernel
theorem dX12_isQuarrel_69 : decode cX12_isQuarrel 69 = .ok (.invokevirtual 237, 3) := by decide +kernel
theorem dX12_isQuarrel_72 : decode cX12_isQuarrel 72 = .ok (.istore 5, 2) := by decide +kernel
theorem dX12_isQuarrel_74 : decode cX12_isQuarrel 74 = .ok (.iload 5, 2) := by decide +kernel
theorem dX12_isQuarrel_76 : decode cX12_isQuarrel 76 = .ok (.iload_n 2, 1) := by decide +kernel
theorem dX12_isQuarrel_77 : decode cX12_isQuarrel 77 = .ok (.if_icmp .eq 51, 3) := by decide +kernel
theorem dX12_isQuarrel_80 : decode cX12_isQuarrel 80 = .ok (.aload_n 0, 1) := by decide +kernel
theorem dX12_isQuarrel_81 : decode cX12_isQuarrel 81 = .ok (.iload 5, 2) := by decide +kernel
theorem dX12_isQuarrel_83 : decode cX12_isQuarrel 83 = .ok (.iload_n 2, 1) := by decide +kernel
theorem dX12_isQuarrel_84 : decode cX12_isQuarrel 84 = .ok (.invokevirtual 263, 3) := by decide +kernel
theorem dX12_isQuarrel_87 : decode cX12_isQuarrel 87 = .ok (.ifCond .eq 41, 3) := by decide +kernel
theorem dX12_isQuarrel_90 : decode cX12_isQuarrel 90 = .ok (.aload_n 0, 1) := by decide +kernel
theorem dX12_isQuarrel_91 : decode cX12_isQuarrel 91 = .ok (.getfield 46, 3) := by decide +kernel
theorem dX12_isQuarrel_94 : decode cX12_isQuarrel 94 = .ok (.bipush 9, 2) := by decide +kernel
theorem dX12_isQuarrel_96 : decode cX12_isQuarrel 96 = .ok (.iload_n 1, 1) := by decide +kernel
theorem dX12_isQuarrel_97 : decode cX12_isQuarrel 97 = .ok (.imul, 1) := by decide +kernel
theorem dX12_isQuarrel_98 : decode cX12_isQuarrel 98 = .ok (.iload_n 2, 1) := by decide +kernel
theorem dX12_isQuarrel_99 : decode cX12_isQuarrel 99 = .ok (.iadd, 1) := by decide +kernel
theorem dX12_isQuarrel_100 : decode cX12_isQuarrel 100 = .ok (.iaload, 1) := by decide +kernel
theorem dX12_isQuarrel_101 : decode cX12_isQuarrel 101 = .ok (.aload_n 0, 1) := by decide +kernel
theorem dX12_isQuarrel_102 : decode cX12_isQuarrel 102 = .ok (.getfield 46, 3) := by decide +kernel
theorem dX12_isQuarrel_105 : decode cX12_isQuarrel 105 = .ok (.bipush 9, 2) := by decide +kernel
theorem dX12_isQuarrel_107 : decode cX12_isQuarrel 107 = .ok (.iload 5, 2) := by decide +kernel
theorem dX12_isQuarrel_109 : decode cX12_isQuarrel 109 = .ok (.imul, 1) := by decide +kernel
theorem dX12_isQuarrel_110 : decode cX12_isQuarrel 110 = .ok (.iload_n 2, 1) := by decide +kernel
theorem dX12_isQuarrel_111 : decode cX12_isQuarrel 111 = .ok (.iadd, 1) := by decide +kernel
theorem dX12_isQuarrel_112 : decode cX12_isQuarrel 112 = .ok (.iaload, 1) := by decide +kernel
theorem dX12_isQuarrel_113 : decode cX12_isQuarrel 113 = .ok (.isub, 1) := by decide +kernel
theorem dX12_isQuarrel_114 : decode cX12_isQuarrel 114 = .ok (.aload_n 0, 1) := by decide +kernel
theorem dX12_isQuarrel_115 : decode cX12_isQuarrel 115 = .ok (.getfield 16, 3) := by decide +kernel
theorem dX12_isQuarrel_118 : decode cX12_isQuarrel 118 = .ok (.iload 4, 2) := by decide +kernel
theorem dX12_isQuarrel_120 : decode cX12_isQuarrel 120 = .ok (.iaload, 1) := by decide +kernel
theorem dX12_isQuarrel_121 : decode cX12_isQuarrel 121 = .ok (.if_icmp .eq 7, 3) := by decide +kernel
theorem dX12_isQuarrel_124 : decode cX12_isQuarrel 124 = .ok (.iconst 1, 1) := by decide +kernel
theorem dX12_isQuarrel_125 : decode cX12_isQuarrel 125 = .ok (.goto 4, 3) := by decide +kernel
theorem dX12_isQuarrel_128 : decode cX12_isQuarrel 128 = .ok (.iconst 0, 1) := by decide +kernel
theorem dX12_isQuarrel_129 : decode cX12_isQuarrel 129 = .ok (.ireturn, 1) := by decide +kernel
theorem dX12_quarrel_0 : decode cX12_quarrel 0 = .ok (.iconst 0, 1) := by decide +kernel
theorem dX12_quarrel_1 : decode cX12_quarrel 1 = .ok (.istore_n 2, 1) := by decide +kernel
theorem dX12_quarrel_2 : decode cX12_quarrel 2 = .ok (.iload_n 2, 1) := by decide +kernel
theorem dX12_quarrel_3 : decode cX12_quarrel 3 = .ok (.aload_n 0, 1) := by decide +kernel
theorem dX12_quarrel_4 : decode cX12_quarrel 4 = .ok (.getfield 118, 3) := by decide +kernel
theorem dX12_quarrel_7 : decode cX12_quarrel 7 = .ok (.if_icmp .ge 42, 3) := by decide +kernel
theorem dX12_quarrel_10 : decode cX12_quarrel 10 = .ok (.iconst 0, 1) := by decide +kernel
theorem dX12_quarrel_11 : decode cX12_quarrel 11 = .ok (.istore_n 3, 1) := by decide +kernel
theorem dX12_quarrel_12 : decode cX12_quarrel 12 = .ok (.iload_n 3, 1) := by decide +kernel
theorem dX12_quarrel_13 : decode cX12_quarrel 13 = .ok (.aload_n 0, 1) := by decide +kernel
theorem dX12_quarrel_14 : decode cX12_quarrel 14 = .ok (.getfield 118, 3) := by decide +kernel
theorem dX12_quarrel_17 : decode cX12_quarrel 17 = .ok (.if_icmp .ge 26, 3) := by decide +kernel
theorem dX12_quarrel_20 : decode cX12_quarrel 20 = .ok (.aload_n 0, 1) := by decide +kernel
theorem dX12_quarrel_21 : decode cX12_quarrel 21 = .ok (.iload_n 2, 1) := by decide +kernel
theorem dX12_quarrel_22 : decode cX12_quarrel 22 = .ok (.iload_n 3, 1) := by decide +kernel
theorem dX12_quarrel_23 : decode cX12_quarrel 23 = .ok (.iload_n 1, 1) := by decide +kernel
theorem dX12_quarrel_24 : decode cX12_quarrel 24 = .ok (.invokevirtual 302, 3) := by decide +kernel
theorem dX12_quarrel_27 : decode cX12_quarrel 27 = .ok (.ifCond .eq 10, 3) := by decide +kernel
theorem dX12_quarrel_30 : decode cX12_quarrel 30 = .ok (.bipush 10, 2) := by decide +kernel
theorem dX12_quarrel_32 : decode cX12_quarrel 32 = .ok (.iload_n 2, 1) := by decide +kernel
theorem dX12_quarrel_33 : decode cX12_quarrel 33 = .ok (.imul, 1) := by decide +kernel
theorem dX12_quarrel_34 : decode cX12_quarrel 34 = .ok (.iload_n 3, 1) := by decide +kernel
theorem dX12_quarrel_35 : decode cX12_quarrel 35 = .ok (.iadd, 1) := by decide +kernel
theorem dX12_quarrel_36 : decode cX12_quarrel 36 = .ok (.ireturn, 1) := by decide +kernel
theorem dX12_quarrel_37 : decode cX12_quarrel 37 = .ok (.iinc 3 1, 3) := by decide +kernel
theorem dX12_quarrel_40 : decode cX12_quarrel 40 = .ok (.goto (-28), 3) := by decide +kernel
theorem dX12_quarrel_43 : decode cX12_quarrel 43 = .ok (.iinc 2 1, 3) := by decide +kernel
theorem dX12_quarrel_46 : decode cX12_quarrel 46 = .ok (.goto (-44), 3) := by decide +kernel
theorem dX12_quarrel_49 : decode cX12_quarrel 49 = .ok (.iconst (-1), 1) := by decide +kernel
theorem dX12_quarrel_50 : decode cX12_quarrel 50 = .ok (.ireturn, 1) := by decide +kernel
theorem dX12_allCome_0 : decode cX12_allCome 0 = .ok (.iconst 1, 1) := by decide +kernel
theorem dX12_allCome_1 : decode cX12_allCome 1 = .ok (.istore_n 2, 1) := by decide +kernel
theorem dX12_allCome_2 : decode cX12_allCome 2 = .ok (.iconst 0, 1) := by decide +kernel
theorem dX12_allCome_3 : decode cX12_allCome 3 = .ok (.istore_n 3, 1) := by decide +kernel
theorem dX12_allCome_4 : decode cX12_allCome 4 = .ok (.iload_n 3, 1) := by decide +kernel
theorem dX12_allCome_5 : decode cX12_allCome 5 = .ok (.aload_n 0, 1) := by decide +kernel
theorem dX12_allCome_6 : decode cX12_allCome 6 = .ok (.getfield 221, 3) := by decide +kernel
theorem dX12_allCome_9 : decode cX12_allCome 9 = .ok (.if_icmp .ge 70, 3) := by decide +kernel
theorem dX12_allCome_12 : decode cX12_allCome 12 = .ok (.iload_n 2, 1) := by decide +kernel
theorem dX12_allCome_13 : decode cX12_allCome 13 = .ok (.ifCond .eq 66, 3) := by decide +kernel
theorem dX12_allCome_16 : decode cX12_allCome 16 = .ok (.aload_n 0, 1) := by decide +kernel
theorem dX12_allCome_17 : decode cX12_allCome 17 = .ok (.aload_n 0, 1) := by decide +kernel
theorem dX12_allCome_18 : decode cX12_allCome 18 = .ok (.getfield 19, 3) := by decide +kernel
theorem dX12_allCome_21 : decode cX12_allCome 21 = .ok (.iload_n 3, 1) := by decide +kernel
theorem dX12_allCome_22 : decode cX12_allCome 22 = .ok (.iaload, 1) := by decide +kernel
theorem dX12_allCome_23 : decode cX12_allCome 23 = .ok (.aload_n 0, 1) := by decide +kernel
theorem dX12_allCome_24 : decode cX12_allCome 24 = .ok (.getfield 22, 3) := by decide +kernel
theorem dX12_allCome_27 : decode cX12_allCome 27 = .ok (.iload_n 3, 1) := by decide +kernel
theorem dX12_allCome_28 : decode cX12_allCome 28 = .ok (.iaload, 1) := by decide +kernel
theorem dX12_allCome_29 : decode cX12_allCome 29 = .ok (.iload_n 1, 1) := by decide +kernel
theorem dX12_allCome_30 : decode cX12_allCome 30 = .ok (.invokevirtual 286, 3) := by decide +kernel
theorem dX12_allCome_33 : decode cX12_allCome 33 = .ok (.aload_n 0, 1) := by decide +kernel
theorem dX12_allCome_34 : decode cX12_allCome 34 = .ok (.getfield 34, 3) := by decide +kernel
theorem dX12_allCome_37 : decode cX12_allCome 37 = .ok (.bipush 9, 2) := by decide +kernel
theorem dX12_allCome_39 : decode cX12_allCome 39 = .ok (.aload_n 0, 1) := by decide +kernel
theorem dX12_allCome_40 : decode cX12_allCome 40 = .ok (.getfield 19, 3) := by decide +kernel
theorem dX12_allCome_43 : decode cX12_allCome 43 = .ok (.iload_n 3, 1) := by decide +kernel
theorem dX12_allCome_44 : decode cX12_allCome 44 = .ok (.iaload, 1) := by decide +kernel
theorem dX12_allCome_45 : decode cX12_allCome 45 = .ok (.imul, 1) := by decide +kernel
theorem dX12_allCome_46 : decode cX12_allCome 46 = .ok (.aload_n 0, 1) := by decide +kernel
theorem dX12_allCome_47 : decode cX12_allCome 47 = .ok (.getfield 22, 3) := by decide +kernel
theorem dX12_allCome_50 : decode cX12_allCome 50 = .ok (.iload_n 3, 1) := by decide +kernel
theorem dX12_allCome_51 : decode cX12_allCome 51 = .ok (.iaload, 1) := by decide +kernel
theorem dX12_allCome_52 : decode cX12_allCome 52 = .ok (.iadd, 1) := by decide +kernel
theorem dX12_allCome_53 : decode cX12_allCome 53 = .ok (.iaload, 1) := by decide +kernel
theorem dX12_allCome_54 : decode cX12_allCome 54 = .ok (.ldc 236, 2) := by decide +kernel
theorem dX12_allCome_56 : decode cX12_allCome 56 = .ok (.if_icmp .ge 11, 3) := by decide +kernel
theorem dX12_allCome_59 : decode cX12_allCome 59 = .ok (.aload_n 0, 1) := by decide +kernel
theorem dX12_allCome_60 : decode cX12_allCome 60 = .ok (.getfield 283, 3) := by decide +kernel
theorem dX12_allCome_63 : decode cX12_allCome 63 = .ok (.iconst 1, 1) := by decide +kernel
theorem dX12_allCome_64 : decode cX12_allCome 64 = .ok (.if_icmp .ne 7, 3) := by decide +kernel
theorem dX12_allCome_67 : decode cX12_allCome 67 = .ok (.iconst 1, 1) := by decide +kernel
theorem dX12_allCome_68 : decode cX12_allCome 68 = .ok (.goto 4, 3) := by decide +kernel
theorem dX12_allCome_71 : decode cX12_allCome 71 = .ok (.iconst 0, 1) := by decide +kernel
theorem dX12_allCome_72 : decode cX12_allCome 72 = .ok (.istore_n 2, 1) := by decide +kernel
theorem dX12_allCome_73 : decode cX12_allCome 73 = .ok (.iinc 3 1, 3) := by decide +kernel
theorem dX12_allCome_76 : decode cX12_allCome 76 = .ok (.goto (-72), 3) := by decide +kernel
theorem dX12_allCome_79 : decode cX12_allCome 79 = .ok (.iload_n 2, 1) := by decide +kernel
theorem dX12_allCome_80 : decode cX12_allCome 80 = .ok (.ireturn, 1) := by decide +kernel
theorem dX12_fewest_0 : decode cX12_fewest 0 = .ok (.iconst (-1), 1) := by decide +kernel
theorem dX12_fewest_1 : decode cX12_fewest 1 = .ok (.istore_n 1, 1) := by decide +kernel
theorem dX12_fewest_2 : decode cX12_fewest 2 = .ok (.iconst 0, 1) := by decide +kernel
theorem dX12_fewest_3 : decode cX12_fewest 3 = .ok (.istore_n 2, 1) := by decide +kernel
theorem dX12_fewest_4 : decode cX12_fewest 4 = .ok (.iload_n 2, 1) := by decide +kernel
theorem dX12_fewest_5 : decode cX12_fewest 5 = .ok (.iconst 1, 1) := by decide +kernel
theorem dX12_fewest_6 : decode cX12_fewest 6 = .ok (.aload_n 0, 1) := by decide +kernel
theorem dX12_fewest_7 : decode cX12_fewest 7 = .ok (.getfield 118, 3) := by decide +kernel
theorem dX12_fewest_10 : decode cX12_fewest 10 = .ok (.ishl, 1) := by decide +kernel
theorem dX12_fewest_11 : decode cX12_fewest 11 = .ok (.if_icmp .ge 48, 3) := by decide +kernel
theorem dX12_fewest_14 : decode cX12_fewest 14 = .ok (.iload_n 1, 1) := by decide +kernel
theorem dX12_fewest_15 : decode cX12_fewest 15 = .ok (.ifCond .lt 14, 3) := by decide +kernel
theorem dX12_fewest_18 : decode cX12_fewest 18 = .ok (.iload_n 2, 1) := by decide +kernel
theorem dX12_fewest_19 : decode cX12_fewest 19 = .ok (.invokestatic 299, 3) := by decide +kernel
theorem dX12_fewest_22 : decode cX12_fewest 22 = .ok (.iload_n 1, 1) := by decide +kernel
theorem dX12_fewest_23 : decode cX12_fewest 23 = .ok (.invokestatic 299, 3) := by decide +kernel
theorem dX12_fewest_26 : decode cX12_fewest 26 = .ok (.if_icmp .ge 7, 3) := by decide +kernel
theorem dX12_fewest_29 : decode cX12_fewest 29 = .ok (.iconst 1, 1) := by decide +kernel
theorem dX12_fewest_30 : decode cX12_fewest 30 = .ok (.goto 4, 3) := by decide +kernel
theorem dX12_fewest_33 : decode cX12_fewest 33 = .ok (.iconst 0, 1) := by decide +kernel
theorem dX12_fewest_34 : decode cX12_fewest 34 = .ok (.istore_n 3, 1) := by decide +kernel
theorem dX12_fewest_35 : decode cX12_fewest 35 = .ok (.iload_n 3, 1) := by decide +kernel
theorem dX12_fewest_36 : decode cX12_fewest 36 = .ok (.ifCond .eq 15, 3) := by decide +kernel
theorem dX12_fewest_39 : decode cX12_fewest 39 = .ok (.aload_n 0, 1) := by decide +kernel
theorem dX12_fewest_40 : decode cX12_fewest 40 = .ok (.iload_n 2, 1) := by decide +kernel
theorem dX12_fewest_41 : decode cX12_fewest 41 = .ok (.invokevirtual 306, 3) := by decide +kernel
theorem dX12_fewest_44 : decode cX12_fewest 44 = .ok (.ifCond .eq 7, 3) := by decide +kernel
theorem dX12_fewest_47 : decode cX12_fewest 47 = .ok (.iload_n 2, 1) := by decide +kernel
theorem dX12_fewest_48 : decode cX12_fewest 48 = .ok (.goto 4, 3) := by decide +kernel
theorem dX12_fewest_51 : decode cX12_fewest 51 = .ok (.iload_n 1, 1) := by decide +kernel
theorem dX12_fewest_52 : decode cX12_fewest 52 = .ok (.istore_n 1, 1) := by decide +kernel
theorem dX12_fewest_53 : decode cX12_fewest 53 = .ok (.iinc 2 1, 3) := by decide +kernel
theorem dX12_fewest_56 : decode cX12_fewest 56 = .ok (.goto (-52), 3) := by decide +kernel
theorem dX12_fewest_59 : decode cX12_fewest 59 = .ok (.iload_n 1, 1) := by decide +kernel
theorem dX12_fewest_60 : decode cX12_fewest 60 = .ok (.ireturn, 1) := by decide +kernel
theorem dX12_best_0 : decode cX12_best 0 = .ok (.iload_n 1, 1) := by decide +kernel
theorem dX12_best_1 : decode cX12_best 1 = .ok (.i2l, 1) := by decide +kernel
theorem dX12_best_2 : decode cX12_best 2 = .ok (.lconst 0, 1) := by decide +kernel
theorem dX12_best_3 : decode cX12_best 3 = .ok (.lconst 1, 1) := by decide +kernel
theorem dX12_best_4 : decode cX12_best 4 = .ok (.invokestatic 121, 3) := by decide +kernel
theorem dX12_best_7 : decode cX12_best 7 = .ok (.ifCond .ne 6, 3) := by decide +kernel
theorem dX12_best_10 : decode cX12_best 10 = .ok (.ldc 131, 2) := by decide +kernel
theorem dX12_best_12 : decode cX12_best 12 = .ok (.ireturn, 1) := by decide +kernel
theorem dX12_best_13 : decode cX12_best 13 = .ok (.iconst (-1), 1) := by decide +kernel
theorem dX12_best_14 : decode cX12_best 14 = .ok (.istore_n 2, 1) := by decide +kernel
theorem dX12_best_15 : decode cX12_best 15 = .ok (.iconst (-1), 1) := by decide +kernel
theorem dX12_best_16 : decode cX12_best 16 = .ok (.istore_n 3, 1) := by decide +kernel
theorem dX12_best_17 : decode cX12_best 17 = .ok (.iconst 0, 1) := by decide +kernel
theorem dX12_best_18 : decode cX12_best 18 = .ok (.istore 4, 2) := by decide +kernel
theorem dX12_best_20 : decode cX12_best 20 = .ok (.iload 4, 2) := by decide +kernel
theorem dX12_best_22 : decode cX12_best 22 = .ok (.aload_n 0, 1) := by decide +kernel
theorem dX12_best_23 : decode cX12_best 23 = .ok (.getfield 118, 3) := by decide +kernel
theorem dX12_best_26 : decode cX12_best 26 = .ok (.if_icmp .ge 60, 3) := by decide +kernel
theorem dX12_best_29 : decode cX12_best 29 = .ok (.aload_n 0, 1) := by decide +kernel
theorem dX12_best_30 : decode cX12_best 30 = .ok (.iconst 1, 1) := by decide +kernel
theorem dX12_best_31 : decode cX12_best 31 = .ok (.iload 4, 2) := by decide +kernel
theorem dX12_best_33 : decode cX12_best 33 = .ok (.ishl, 1) := by decide +kernel
theorem dX12_best_34 : decode cX12_best 34 = .ok (.invokevirtual 290, 3) := by decide +kernel
theorem dX12_best_37 : decode cX12_best 37 = .ok (.istore 5, 2) := by decide +kernel
theorem dX12_best_39 : decode cX12_best 39 = .ok (.iload_n 2, 1) := by decide +kernel
theorem dX12_best_40 : decode cX12_best 40 = .ok (.ifCond .lt 9, 3) := by decide +kernel
theorem dX12_best_43 : decode cX12_best 43 = .ok (.iload 5, 2) := by decide +kernel
theorem dX12_best_45 : decode cX12_best 45 = .ok (.iload_n 3, 1) := by decide +kernel
theorem dX12_best_46 : decode cX12_best 46 = .ok (.if_icmp .ge 7, 3) := by decide +kernel
theorem dX12_best_49 : decode cX12_best 49 = .ok (.iconst 1, 1) := by decide +kernel
theorem dX12_best_50 : decode cX12_best 50 = .ok (.goto 4, 3) := by decide +kernel
theorem dX12_best_53 : decode cX12_best 53 = .ok (.iconst 0, 1) := by decide +kernel
theorem dX12_best_54 : decode cX12_best 54 = .ok (.istore 6, 2) := by decide +kernel
theorem dX12_best_56 : decode cX12_best 56 = .ok (.iload 6, 2) := by decide +kernel
theorem dX12_best_58 : decode cX12_best 58 = .ok (.ifCond .eq 8, 3) := by decide +kernel
theorem dX12_best_61 : decode cX12_best 61 = .ok (.iload 4, 2) := by decide +kernel
theorem dX12_best_63 : decode cX12_best 63 = .ok (.goto 4, 3) := by decide +kernel
theorem dX12_best_66 : decode cX12_best 66 = .ok (.iload_n 2, 1) := by decide +kernel
theorem dX12_best_67 : decode cX12_best 67 = .ok (.istore_n 2, 1) := by decide +kernel
theorem dX12_best_68 : decode cX12_best 68 = .ok (.iload 6, 2) := by decide +kernel
theorem dX12_best_70 : decode cX12_best 70 = .ok (.ifCond .eq 8, 3) := by decide +kernel
theorem dX12_best_73 : decode cX12_best 73 = .ok (.iload 5, 2) := by decide +kernel
theorem dX12_best_75 : decode cX12_best 75 = .ok (.goto 4, 3) := by decide +kernel
theorem dX12_best_78 : decode cX12_best 78 = .ok (.iload_n 3, 1) := by decide +kernel
theorem dX12_best_79 : decode cX12_best 79 = .ok (.istore_n 3, 1) := by decide +kernel
theorem dX12_best_80 : decode cX12_best 80 = .ok (.iinc 4 1, 3) := by decide +kernel
theorem dX12_best_83 : decode cX12_best 83 = .ok (.goto (-63), 3) := by decide +kernel
theorem dX12_best_86 : decode cX12_best 86 = .ok (.iload_n 1, 1) := by decide +kernel
theorem dX12_best_87 : decode cX12_best 87 = .ok (.ifCond .ne 7, 3) := by decide +kernel
theorem dX12_best_90 : decode cX12_best 90 = .ok (.iload_n 2, 1) := by decide +kernel
theorem dX12_best_91 : decode cX12_best 91 = .ok (.goto 4, 3) := by decide +kernel
theorem dX12_best_94 : decode cX12_best 94 = .ok (.iload_n 3, 1) := by decide +kernel
theorem dX12_best_95 : decode cX12_best 95 = .ok (.ireturn, 1) := by decide +kernel
theorem dX12_addWay_0 : decode cX12_addWay 0 = .ok (.aload_n 0, 1) := by decide +kernel
theorem dX12_addWay_1 : decode cX12_addWay 1 = .ok (.getfield 89, 3) := by decide +kernel
theorem dX12_addWay_4 : decode cX12_addWay 4 = .ok (.aload_n 0, 1) := by decide +kernel
theorem dX12_addWay_5 : decode cX12_addWay 5 = .ok (.getfield 309, 3) := by decide +kernel
theorem dX12_addWay_8 : decode cX12_addWay 8 = .ok (.iload_n 1, 1) := by decide +kernel
theorem dX12_addWay_9 : decode cX12_addWay 9 = .ok (.iastore, 1) := by decide +kernel
theorem dX12_addWay_10 : decode cX12_addWay 10 = .ok (.aload_n 0, 1) := by decide +kernel
theorem dX12_addWay_11 : decode cX12_addWay 11 = .ok (.getfield 92, 3) := by decide +kernel
theorem dX12_addWay_14 : decode cX12_addWay 14 = .ok (.aload_n 0, 1) := by decide +kernel
theorem dX12_addWay_15 : decode cX12_addWay 15 = .ok (.getfield 309, 3) := by decide +kernel
theorem dX12_addWay_18 : decode cX12_addWay 18 = .ok (.iload_n 2, 1) := by decide +kernel
theorem dX12_addWay_19 : decode cX12_addWay 19 = .ok (.iastore, 1) := by decide +kernel
theorem dX12_addWay_20 : decode cX12_addWay 20 = .ok (.aload_n 0, 1) := by decide +kernel
theorem dX12_addWay_21 : decode cX12_addWay 21 = .ok (.getfield 95, 3) := by decide +kernel
theorem dX12_addWay_24 : decode cX12_addWay 24 = .ok (.aload_n 0, 1) := by decide +kernel
theorem dX12_addWay_25 : decode cX12_addWay 25 = .ok (.getfield 309, 3) := by decide +kernel
theorem dX12_addWay_28 : decode cX12_addWay 28 = .ok (.lload_n 3, 1) := by decide +kernel
theorem dX12_addWay_29 : decode cX12_addWay 29 = .ok (.lastore, 1) := by decide +kernel
theorem dX12_addWay_30 : decode cX12_addWay 30 = .ok (.aload_n 0, 1) := by decide +kernel
theorem dX12_addWay_31 : decode cX12_addWay 31 = .ok (.dup, 1) := by decide +kernel
theorem dX12_addWay_32 : decode cX12_addWay 32 = .ok (.getfield 309, 3) := by decide +kernel
theorem dX12_addWay_35 : decode cX12_addWay 35 = .ok (.iconst 1, 1) := by decide +kernel
theorem dX12_addWay_36 : decode cX12_addWay 36 = .ok (.iadd, 1) := by decide +kernel
theorem dX12_addWay_37 : decode cX12_addWay 37 = .ok (.putfield 309, 3) := by decide +kernel
theorem dX12_addWay_40 : decode cX12_addWay 40 = .ok (.return_, 1) := by decide +kernel
theorem dX12_partWay_0 : decode cX12_partWay 0 = .ok (.aload_n 0, 1) := by decide +kernel
theorem dX12_partWay_1 : decode cX12_partWay 1 = .ok (.dup, 1) := by decide +kernel
theorem dX12_partWay_2 : decode cX12_partWay 2 = .ok (.getfield 309, 3) := by decide +kernel
theorem dX12_partWay_5 : decode cX12_partWay 5 = .ok (.iconst 1, 1) := by decide +kernel
theorem dX12_partWay_6 : decode cX12_partWay 6 = .ok (.isub, 1) := by decide +kernel
theorem dX12_partWay_7 : decode cX12_partWay 7 = .ok (.putfield 309, 3) := by decide +kernel
theorem dX12_partWay_10 : decode cX12_partWay 10 = .ok (.aload_n 0, 1) := by decide +kernel
theorem dX12_partWay_11 : decode cX12_partWay 11 = .ok (.getfield 89, 3) := by decide +kernel
theorem dX12_partWay_14 : decode cX12_partWay 14 = .ok (.aload_n 0, 1) := by decide +kernel
theorem dX12_partWay_15 : decode cX12_partWay 15 = .ok (.getfield 309, 3) := by decide +kernel
theorem dX12_partWay_18 : decode cX12_partWay 18 = .ok (.iaload, 1) := by decide +kernel
theorem dX12_partWay_19 : decode cX12_partWay 19 = .ok (.istore_n 3, 1) := by decide +kernel
theorem dX12_partWay_20 : decode cX12_partWay 20 = .ok (.aload_n 0, 1) := by decide +kernel
theorem dX12_partWay_21 : decode cX12_partWay 21 = .ok (.getfield 92, 3) := by decide +kernel
theorem dX12_partWay_24 : decode cX12_partWay 24 = .ok (.aload_n 0, 1) := by decide +kernel
theorem dX12_partWay_25 : decode cX12_partWay 25 = .ok (.getfield 309, 3) := by decide +kernel
theorem dX12_partWay_28 : decode cX12_partWay 28 = .ok (.iaload, 1) := by decide +kernel
theorem dX12_partWay_29 : decode cX12_partWay 29 = .ok (.iconst 1, 1) := by decide +kernel
theorem dX12_partWay_30 : decode cX12_partWay 30 = .ok (.iload_n 3, 1) := by decide +kernel
theorem dX12_partWay_31 : decode cX12_partWay 31 = .ok (.ishl, 1) := by decide +kernel
theorem dX12_partWay_32 : decode cX12_partWay 32 = .ok (.ior, 1) := by decide +kernel
theorem dX12_partWay_33 : decode cX12_partWay 33 = .ok (.istore 4, 2) := by decide +kernel
theorem dX12_partWay_35 : decode cX12_partWay 35 = .ok (.aload_n 0, 1) := by decide +kernel
theorem dX12_partWay_36 : decode cX12_partWay 36 = .ok (.getfield 95, 3) := by decide +kernel
theorem dX12_partWay_39 : decode cX12_partWay 39 = .ok (.aload_n 0, 1) := by decide +kernel
theorem dX12_partWay_40 : decode cX12_partWay 40 = .ok (.getfield 309, 3) := by decide +kernel
theorem dX12_partWay_43 : decode cX12_partWay 43 = .ok (.laload, 1) := by decide +kernel
theorem dX12_partWay_44 : decode cX12_partWay 44 = .ok (.lstore 5, 2) := by decide +kernel
theorem dX12_partWay_46 : decode cX12_partWay 46 = .ok (.aload_n 0, 1) := by decide +kernel
theorem dX12_partWay_47 : decode cX12_partWay 47 = .ok (.getfield 37, 3) := by decide +kernel
theorem dX12_partWay_50 : decode cX12_partWay 50 = .ok (.bipush 9, 2) := by decide +kernel
theorem dX12_partWay_52 : decode cX12_partWay 52 = .ok (.iload_n 3, 1) := by decide +kernel
theorem dX12_partWay_53 : decode cX12_partWay 53 = .ok (.imul, 1) := by decide +kernel
theorem dX12_partWay_54 : decode cX12_partWay 54 = .ok (.iload_n 1, 1) := by decide +kernel
theorem dX12_partWay_55 : decode cX12_partWay 55 = .ok (.iadd, 1) := by decide +kernel
theorem dX12_partWay_56 : decode cX12_partWay 56 = .ok (.iaload, 1) := by decide +kernel
theorem dX12_partWay_57 : decode cX12_partWay 57 = .ok (.istore 7, 2) := by decide +kernel
theorem dX12_partWay_59 : decode cX12_partWay 59 = .ok (.iload 7, 2) := by decide +kernel
theorem dX12_partWay_61 : decode cX12_partWay 61 = .ok (.ifCond .lt 17, 3) := by decide +kernel
theorem dX12_partWay_64 : decode cX12_partWay 64 = .ok (.aload_n 0, 1) := by decide +kernel
theorem dX12_partWay_65 : decode cX12_partWay 65 = .ok (.getfield 43, 3) := by decide +kernel
theorem dX12_partWay_68 : decode cX12_partWay 68 = .ok (.iload_n 3, 1) := by decide +kernel
theorem dX12_partWay_69 : decode cX12_partWay 69 = .ok (.iaload, 1) := by decide +kernel
theorem dX12_partWay_70 : decode cX12_partWay 70 = .ok (.iload 7, 2) := by decide +kernel
theorem dX12_partWay_72 : decode cX12_partWay 72 = .ok (.invokestatic 260, 3) := by decide +kernel
theorem dX12_partWay_75 : decode cX12_partWay 75 = .ok (.ifCond .eq 5, 3) := by decide +kernel
theorem dX12_partWay_78 : decode cX12_partWay 78 = .ok (.lconst 0, 1) := by decide +kernel
theorem dX12_partWay_79 : decode cX12_partWay 79 = .ok (.lreturn, 1) := by decide +kernel
theorem dX12_partWay_80 : decode cX12_partWay 80 = .ok (.lconst 0, 1) := by decide +kernel
theorem dX12_partWay_81 : decode cX12_partWay 81 = .ok (.lstore 8, 2) := by decide +kernel
theorem dX12_partWay_83 : decode cX12_partWay 83 = .ok (.aload_n 0, 1) := by decide +kernel
theorem dX12_partWay_84 : decode cX12_partWay 84 = .ok (.getfield 28, 3) := by decide +kernel
theorem dX12_partWay_87 : decode cX12_partWay 87 = .ok (.iload_n 3, 1) := by decide +kernel
theorem dX12_partWay_88 : decode cX12_partWay 88 = .ok (.iaload, 1) := by decide +kernel
theorem dX12_partWay_89 : decode cX12_partWay 89 = .ok (.iconst 1, 1) := by decide +kernel
theorem dX12_partWay_90 : decode cX12_partWay 90 = .ok (.if_icmp .ne 8, 3) := by decide +kernel
theorem dX12_partWay_93 : decode cX12_partWay 93 = .ok (.lload 5, 2) := by decide +kernel
theorem dX12_partWay_95 : decode cX12_partWay 95 = .ok (.goto 15, 3) := by decide +kernel
theorem dX12_partWay_98 : decode cX12_partWay 98 = .ok (.lload 5, 2) := by decide +kernel
theorem dX12_partWay_100 : decode cX12_partWay 100 = .ok (.bipush 100, 2) := by decide +kernel
theorem dX12_partWay_102 : decode cX12_partWay 102 = .ok (.iload_n 2, 1) := by decide +kernel
theorem dX12_partWay_103 : decode cX12_partWay 103 = .ok (.isub, 1) := by decide +kernel
theorem dX12_partWay_104 : decode cX12_partWay 104 = .ok (.i2l, 1) := by decide +kernel
theorem dX12_partWay_105 : decode cX12_partWay 105 = .ok (.lmul, 1) := by decide +kernel
theorem dX12_partWay_106 : decode cX12_partWay 106 = .ok (.ldc2_w 312, 3) := by decide +kernel
theorem dX12_partWay_109 : decode cX12_partWay 109 = .ok (.ldiv, 1) := by decide +kernel
theorem dX12_partWay_110 : decode cX12_partWay 110 = .ok (.lstore 10, 2) := by decide +kernel
theorem dX12_partWay_112 : decode cX12_partWay 112 = .ok (.lload 5, 2) := by decide +kernel
theorem dX12_partWay_114 : decode cX12_partWay 114 = .ok (.lload 10, 2) := by decide +kernel
theorem dX12_partWay_116 : decode cX12_partWay 116 = .ok (.lsub, 1) := by decide +kernel
theorem dX12_partWay_117 : decode cX12_partWay 117 = .ok (.lstore 12, 2) := by decide +kernel
theorem dX12_partWay_119 : decode cX12_partWay 119 = .ok (.aload_n 0, 1) := by decide +kernel
theorem dX12_partWay_120 : decode cX12_partWay 120 = .ok (.getfield 28, 3) := by decide +kernel
theorem dX12_partWay_123 : decode cX12_partWay 123 = .ok (.iload_n 3, 1) := by decide +kernel
theorem dX12_partWay_124 : decode cX12_partWay 124 = .ok (.iaload, 1) := by decide +kernel
theorem dX12_partWay_125 : decode cX12_partWay 125 = .ok (.iconst 1, 1) := by decide +kernel
theorem dX12_partWay_126 : decode cX12_partWay 126 = .ok (.isub, 1) := by decide +kernel
theorem dX12_partWay_127 : decode cX12_partWay 127 = .ok (.istore 14, 2) := by decide +kernel
theorem dX12_partWay_129 : decode cX12_partWay 129 = .ok (.iconst 0, 1) := by decide +kernel
theorem dX12_partWay_130 : decode cX12_partWay 130 = .ok (.istore 15, 2) := by decide +kernel
theorem dX12_partWay_132 : decode cX12_partWay 132 = .ok (.iload 15, 2) := by decide +kernel
theorem dX12_partWay_134 : decode cX12_partWay 134 = .ok (.aload_n 0, 1) := by decide +kernel
theorem dX12_partWay_135 : decode cX12_partWay 135 = .ok (.getfield 28, 3) := by decide +kernel
theorem dX12_partWay_138 : decode cX12_partWay 138 = .ok (.iload_n 3, 1) := by decide +kernel
theorem dX12_partWay_139 : decode cX12_partWay 139 = .ok (.iaload, 1) := by decide +kernel
theorem dX12_partWay_140 : decode cX12_partWay 140 = .ok (.if_icmp .ge 101, 3) := by decide +kernel
theorem dX12_partWay_143 : decode cX12_partWay 143 = .ok (.lload 10, 2) := by decide +kernel
theorem dX12_partWay_145 : decode cX12_partWay 145 = .ok (.lstore 16, 2) := by decide +kernel
theorem dX12_partWay_147 : decode cX12_partWay 147 = .ok (.iload 15, 2) := by decide +kernel
theorem dX12_partWay_149 : decode cX12_partWay 149 = .ok (.aload_n 0, 1) := by decide +kernel
theorem dX12_partWay_150 : decode cX12_partWay 150 = .ok (.getfield 40, 3) := by decide +kernel
theorem dX12_partWay_153 : decode cX12_partWay 153 = .ok (.iload_n 3, 1) := by decide +kernel
theorem dX12_partWay_154 : decode cX12_partWay 154 = .ok (.iaload, 1) := by decide +kernel
theorem dX12_partWay_155 : decode cX12_partWay 155 = .ok (.if_icmp .eq 21, 3) := by decide +kernel
theorem dX12_partWay_158 : decode cX12_partWay 158 = .ok (.lload 12, 2) := by decide +kernel
theorem dX12_partWay_160 : decode cX12_partWay 160 = .ok (.iload 14, 2) := by decide +kernel
theorem dX12_partWay_162 : decode cX12_partWay 162 = .ok (.i2l, 1) := by decide +kernel
theorem dX12_partWay_163 : decode cX12_partWay 163 = .ok (.ldiv, 1) := by decide +kernel
theorem dX12_partWay_164 : decode cX12_partWay 164 = .ok (.lstore 16, 2) := by decide +kernel
theorem dX12_partWay_166 : decode cX12_partWay 166 = .ok (.lload 12, 2) := by decide +kernel
theorem dX12_partWay_168 : decode cX12_partWay 168 = .ok (.lload 16, 2) := by decide +kernel
theorem dX12_partWay_170 : decode cX12_partWay 170 = .ok (.lsub, 1) := by decide +kernel
theorem dX12_partWay_171 : decode cX12_partWay 171 = .ok (.lstore 12, 2) := by decide +kernel
theorem dX12_partWay_173 : decode cX12_partWay 173 = .ok (.iinc 14 (-1), 3) := by decide +kernel
theorem dX12_partWay_176 : decode cX12_partWay 176 = .ok (.aload_n 0, 1) := by decide +kernel
theorem dX12_partWay_177 : decode cX12_partWay 177 = .ok (.aload_n 0, 1) := by decide +kernel
theorem dX12_partWay_178 : decode cX12_partWay 178 = .ok (.iload_n 3, 1) := by decide +kernel
theorem dX12_partWay_179 : decode cX12_partWay 179 = .ok (.iload 7, 2) := by decide +kernel
theorem dX12_partWay_181 : decode cX12_partWay 181 = .ok (.iload 15, 2) := by decide +kernel
theorem dX12_partWay_183 : decode cX12_partWay 183 = .ok (.invokevirtual 256, 3) := by decide +kernel
theorem dX12_partWay_186 : decode cX12_partWay 186 = .ok (.iload_n 3, 1) := by decide +kernel
theorem dX12_partWay_187 : decode cX12_partWay 187 = .ok (.invokevirtual 237, 3) := by decide +kernel
theorem dX12_partWay_190 : decode cX12_partWay 190 = .ok (.istore 18, 2) := by decide +kernel
theorem dX12_partWay_192 : decode cX12_partWay 192 = .ok (.iload 18, 2) := by decide +kernel
theorem dX12_partWay_194 : decode cX12_partWay 194 = .ok (.iload_n 1, 1) := by decide +kernel
theorem dX12_partWay_195 : decode cX12_partWay 195 = .ok (.if_icmp .ne 13, 3) := by decide +kernel
theorem dX12_partWay_198 : decode cX12_partWay 198 = .ok (.lload 8, 2) := by decide +kernel
theorem dX12_partWay_200 : decode cX12_partWay 200 = .ok (.lload 16, 2) := by decide +kernel
theorem dX12_partWay_202 : decode cX12_partWay 202 = .ok (.ladd, 1) := by decide +kernel
theorem dX12_partWay_203 : decode cX12_partWay 203 = .ok (.lstore 8, 2) := by decide +kernel
theorem dX12_partWay_205 : decode cX12_partWay 205 = .ok (.goto 30, 3) := by decide +kernel
theorem dX12_partWay_208 : decode cX12_partWay 208 = .ok (.iload 4, 2) := by decide +kernel
theorem dX12_partWay_210 : decode cX12_partWay 210 = .ok (.iload 18, 2) := by decide +kernel
theorem dX12_partWay_212 : decode cX12_partWay 212 = .ok (.invokestatic 260, 3) := by decide +kernel
theorem dX12_partWay_215 : decode cX12_partWay 215 = .ok (.ifCond .ne 20, 3) := by decide +kernel
theorem dX12_partWay_218 : decode cX12_partWay 218 = .ok (.lload 16, 2) := by decide +kernel
theorem dX12_partWay_220 : decode cX12_partWay 220 = .ok (.lconst 0, 1) := by decide +kernel
theorem dX12_partWay_221 : decode cX12_partWay 221 = .ok (.lcmp, 1) := by decide +kernel
theorem dX12_partWay_222 : decode cX12_partWay 222 = .ok (.ifCond .le 13, 3) := by decide +kernel
theorem dX12_partWay_225 : decode cX12_partWay 225 = .ok (.aload_n 0, 1) := by decide +kernel
theorem dX12_partWay_226 : decode cX12_partWay 226 = .ok (.iload 18, 2) := by decide +kernel
theorem dX12_partWay_228 : decode cX12_partWay 228 = .ok (.iload 4, 2) := by decide +kernel
theorem dX12_partWay_230 : decode cX12_partWay 230 = .ok (.lload 16, 2) := by decide +kernel
theorem dX12_partWay_232 : decode cX12_partWay 232 = .ok (.invokevirtual 314, 3) := by decide +kernel
theorem dX12_partWay_235 : decode cX12_partWay 235 = .ok (.iinc 15 1, 3) := by decide +kernel
theorem dX12_partWay_238 : decode cX12_partWay 238 = .ok (.goto (-106), 3) := by decide +kernel
theorem dX12_partWay_241 : decode cX12_partWay 241 = .ok (.lload 8, 2) := by decide +kernel
theorem dX12_partWay_243 : decode cX12_partWay 243 = .ok (.lreturn, 1) := by decide +kernel
theorem dX12_odds_0 : decode cX12_odds 0 = .ok (.aload_n 0, 1) := by decide +kernel
theorem dX12_odds_1 : decode cX12_odds 1 = .ok (.iload_n 1, 1) := by decide +kernel
theorem dX12_odds_2 : decode cX12_odds 2 = .ok (.iload_n 2, 1) := by decide +kernel
theorem dX12_odds_3 : decode cX12_odds 3 = .ok (.invokevirtual 247, 3) := by decide +kernel
theorem dX12_odds_6 : decode cX12_odds 6 = .ok (.ifCond .ne 6, 3) := by decide +kernel
theorem dX12_odds_9 : decode cX12_odds 9 = .ok (.ldc 246, 2) := by decide +kernel
theorem dX12_odds_11 : decode cX12_odds 11 = .ok (.ireturn, 1) := by decide +kernel
theorem dX12_odds_12 : decode cX12_odds 12 = .ok (.iload_n 3, 1) := by decide +kernel
theorem dX12_odds_13 : decode cX12_odds 13 = .ok (.i2l, 1) := by decide +kernel
theorem dX12_odds_14 : decode cX12_odds 14 = .ok (.lconst 0, 1) := by decide +kernel
theorem dX12_odds_15 : decode cX12_odds 15 = .ok (.ldc2_w 312, 3) := by decide +kernel
theorem dX12_odds_18 : decode cX12_odds 18 = .ok (.invokestatic 121, 3) := by decide +kernel
theorem dX12_odds_21 : decode cX12_odds 21 = .ok (.ifCond .ne 6, 3) := by decide +kernel
theorem dX12_odds_24 : decode cX12_odds 24 = .ok (.ldc 131, 2) := by decide +kernel
theorem dX12_odds_26 : decode cX12_odds 26 = .ok (.ireturn, 1) := by decide +kernel
theorem dX12_odds_27 : decode cX12_odds 27 = .ok (.iload_n 1, 1) := by decide +kernel
theorem dX12_odds_28 : decode cX12_odds 28 = .ok (.iload_n 2, 1) := by decide +kernel
theorem dX12_odds_29 : decode cX12_odds 29 = .ok (.if_icmp .ne 7, 3) := by decide +kernel
theorem dX12_odds_32 : decode cX12_odds 32 = .ok (.ldc_w 318, 3) := by decide +kernel
theorem dX12_odds_35 : decode cX12_odds 35 = .ok (.ireturn, 1) := by decide +kernel
theorem dX12_odds_36 : decode cX12_odds 36 = .ok (.aload_n 0, 1) := by decide +kernel
theorem dX12_odds_37 : decode cX12_odds 37 = .ok (.iconst 0, 1) := by decide +kernel
theorem dX12_odds_38 : decode cX12_odds 38 = .ok (.putfield 309, 3) := by decide +kernel
theorem dX12_odds_41 : decode cX12_odds 41 = .ok (.aload_n 0, 1) := by decide +kernel
theorem dX12_odds_42 : decode cX12_odds 42 = .ok (.iload_n 1, 1) := by decide +kernel
theorem dX12_odds_43 : decode cX12_odds 43 = .ok (.iconst 0, 1) := by decide +kernel
theorem dX12_odds_44 : decode cX12_odds 44 = .ok (.ldc2_w 319, 3) := by decide +kernel
theorem dX12_odds_47 : decode cX12_odds 47 = .ok (.invokevirtual 314, 3) := by decide +kernel
theorem dX12_odds_50 : decode cX12_odds 50 = .ok (.lconst 0, 1) := by decide +kernel
theorem dX12_odds_51 : decode cX12_odds 51 = .ok (.lstore 4, 2) := by decide +kernel
theorem dX12_odds_53 : decode cX12_odds 53 = .ok (.aload_n 0, 1) := by decide +kernel
theorem dX12_odds_54 : decode cX12_odds 54 = .ok (.getfield 309, 3) := by decide +kernel
theorem dX12_odds_57 : decode cX12_odds 57 = .ok (.ifCond .le 21, 3) := by decide +kernel
theorem dX12_odds_60 : decode cX12_odds 60 = .ok (.aload_n 0, 1) := by decide +kernel
theorem dX12_odds_61 : decode cX12_odds 61 = .ok (.iload_n 2, 1) := by decide +kernel
theorem dX12_odds_62 : decode cX12_odds 62 = .ok (.iload_n 3, 1) := by decide +kernel
theorem dX12_odds_63 : decode cX12_odds 63 = .ok (.invokevirtual 321, 3) := by decide +kernel
theorem dX12_odds_66 : decode cX12_odds 66 = .ok (.lstore 6, 2) := by decide +kernel
theorem dX12_odds_68 : decode cX12_odds 68 = .ok (.lload 4, 2) := by decide +kernel
theorem dX12_odds_70 : decode cX12_odds 70 = .ok (.lload 6, 2) := by decide +kernel
theorem dX12_odds_72 : decode cX12_odds 72 = .ok (.ladd, 1) := by decide +kernel
theorem dX12_odds_73 : decode cX12_odds 73 = .ok (.lstore 4, 2) := by decide +kernel
theorem dX12_odds_75 : decode cX12_odds 75 = .ok (.goto (-22), 3) := by decide +kernel
theorem dX12_odds_78 : decode cX12_odds 78 = .ok (.lload 4, 2) := by decide +kernel
theorem dX12_odds_80 : decode cX12_odds 80 = .ok (.l2i, 1) := by decide +kernel
theorem dX12_odds_81 : decode cX12_odds 81 = .ok (.ireturn, 1) := by decide +kernel
theorem dX12_neededAt_0 : decode cX12_neededAt 0 = .ok (.iconst 0, 1) := by decide +kernel
theorem dX12_neededAt_1 : decode cX12_neededAt 1 = .ok (.istore_n 2, 1) := by decide +kernel
theorem dX12_neededAt_2 : decode cX12_neededAt 2 = .ok (.iconst 0, 1) := by decide +kernel
theorem dX12_neededAt_3 : decode cX12_neededAt 3 = .ok (.istore_n 3, 1) := by decide +kernel
theorem dX12_neededAt_4 : decode cX12_neededAt 4 = .ok (.iload_n 3, 1) := by decide +kernel
theorem dX12_neededAt_5 : decode cX12_neededAt 5 = .ok (.aload_n 0, 1) := by decide +kernel
theorem dX12_neededAt_6 : decode cX12_neededAt 6 = .ok (.getfield 221, 3) := by decide +kernel
theorem dX12_neededAt_9 : decode cX12_neededAt 9 = .ok (.if_icmp .ge 79, 3) := by decide +kernel
theorem dX12_neededAt_12 : decode cX12_neededAt 12 = .ok (.aload_n 0, 1) := by decide +kernel
theorem dX12_neededAt_13 : decode cX12_neededAt 13 = .ok (.aload_n 0, 1) := by decide +kernel
theorem dX12_neededAt_14 : decode cX12_neededAt 14 = .ok (.getfield 19, 3) := by decide +kernel
theorem dX12_neededAt_17 : decode cX12_neededAt 17 = .ok (.iload_n 3, 1) := by decide +kernel
theorem dX12_neededAt_18 : decode cX12_neededAt 18 = .ok (.iaload, 1) := by decide +kernel
theorem dX12_neededAt_19 : decode cX12_neededAt 19 = .ok (.aload_n 0, 1) := by decide +kernel
theorem dX12_neededAt_20 : decode cX12_neededAt 20 = .ok (.getfield 22, 3) := by decide +kernel
theorem dX12_neededAt_23 : decode cX12_neededAt 23 = .ok (.iload_n 3, 1) := by decide +kernel
theorem dX12_neededAt_24 : decode cX12_neededAt 24 = .ok (.iaload, 1) := by decide +kernel
theorem dX12_neededAt_25 : decode cX12_neededAt 25 = .ok (.iconst 0, 1) := by decide +kernel
theorem dX12_neededAt_26 : decode cX12_neededAt 26 = .ok (.invokevirtual 286, 3) := by decide +kernel
theorem dX12_neededAt_29 : decode cX12_neededAt 29 = .ok (.iconst 0, 1) := by decide +kernel
theorem dX12_neededAt_30 : decode cX12_neededAt 30 = .ok (.istore 4, 2) := by decide +kernel
theorem dX12_neededAt_32 : decode cX12_neededAt 32 = .ok (.iload 4, 2) := by decide +kernel
theorem dX12_neededAt_34 : decode cX12_neededAt 34 = .ok (.aload_n 0, 1) := by decide +kernel
theorem dX12_neededAt_35 : decode cX12_neededAt 35 = .ok (.getfield 280, 3) := by decide +kernel
theorem dX12_neededAt_38 : decode cX12_neededAt 38 = .ok (.if_icmp .ge 44, 3) := by decide +kernel
theorem dX12_neededAt_41 : decode cX12_neededAt 41 = .ok (.iload_n 2, 1) := by decide +kernel
theorem dX12_neededAt_42 : decode cX12_neededAt 42 = .ok (.aload_n 0, 1) := by decide +kernel
theorem dX12_neededAt_43 : decode cX12_neededAt 43 = .ok (.getfield 283, 3) := by decide +kernel
theorem dX12_neededAt_46 : decode cX12_neededAt 46 = .ok (.iconst 1, 1) := by decide +kernel
theorem dX12_neededAt_47 : decode cX12_neededAt 47 = .ok (.if_icmp .ne 26, 3) := by decide +kernel
theorem dX12_neededAt_50 : decode cX12_neededAt 50 = .ok (.aload_n 0, 1) := by decide +kernel
theorem dX12_neededAt_51 : decode cX12_neededAt 51 = .ok (.getfield 74, 3) := by decide +kernel
theorem dX12_neededAt_54 : decode cX12_neededAt 54 = .ok (.iload 4, 2) := by decide +kernel
theorem dX12_neededAt_56 : decode cX12_neededAt 56 = .ok (.iaload, 1) := by decide +kernel
theorem dX12_neededAt_57 : decode cX12_neededAt 57 = .ok (.iload_n 1, 1) := by decide +kernel
theorem dX12_neededAt_58 : decode cX12_neededAt 58 = .ok (.if_icmp .ne 15, 3) := by decide +kernel
theorem dX12_neededAt_61 : decode cX12_neededAt 61 = .ok (.iconst 1, 1) := by decide +kernel
theorem dX12_neededAt_62 : decode cX12_neededAt 62 = .ok (.aload_n 0, 1) := by decide +kernel
theorem dX12_neededAt_63 : decode cX12_neededAt 63 = .ok (.getfield 77, 3) := by decide +kernel
theorem dX12_neededAt_66 : decode cX12_neededAt 66 = .ok (.iload 4, 2) := by decide +kernel
theorem dX12_neededAt_68 : decode cX12_neededAt 68 = .ok (.iaload, 1) := by decide +kernel
theorem dX12_neededAt_69 : decode cX12_neededAt 69 = .ok (.ishl, 1) := by decide +kernel
theorem dX12_neededAt_70 : decode cX12_neededAt 70 = .ok (.goto 4, 3) := by decide +kernel
theorem dX12_neededAt_73 : decode cX12_neededAt 73 = .ok (.iconst 0, 1) := by decide +kernel
theorem dX12_neededAt_74 : decode cX12_neededAt 74 = .ok (.ior, 1) := by decide +kernel
theorem dX12_neededAt_75 : decode cX12_neededAt 75 = .ok (.istore_n 2, 1) := by decide +kernel
theorem dX12_neededAt_76 : decode cX12_neededAt 76 = .ok (.iinc 4 1, 3) := by decide +kernel
theorem dX12_neededAt_79 : decode cX12_neededAt 79 = .ok (.goto (-47), 3) := by decide +kernel
theorem dX12_neededAt_82 : decode cX12_neededAt 82 = .ok (.iinc 3 1, 3) := by decide +kernel
theorem dX12_neededAt_85 : decode cX12_neededAt 85 = .ok (.goto (-81), 3) := by decide +kernel
theorem dX12_neededAt_88 : decode cX12_neededAt 88 = .ok (.iload_n 2, 1) := by decide +kernel
theorem dX12_neededAt_89 : decode cX12_neededAt 89 = .ok (.ireturn, 1) := by decide +kernel
theorem dX12_needed_0 : decode cX12_needed 0 = .ok (.iload_n 1, 1) := by decide +kernel
theorem dX12_needed_1 : decode cX12_needed 1 = .ok (.iconst (-1), 1) := by decide +kernel
theorem dX12_needed_2 : decode cX12_needed 2 = .ok (.if_icmp .eq 22, 3) := by decide +kernel
theorem dX12_needed_5 : decode cX12_needed 5 = .ok (.aload_n 0, 1) := by decide +kernel
theorem dX12_needed_6 : decode cX12_needed 6 = .ok (.iload_n 1, 1) := by decide +kernel
theorem dX12_needed_7 : decode cX12_needed 7 = .ok (.invokevirtual 125, 3) := by decide +kernel
theorem dX12_needed_10 : decode cX12_needed 10 = .ok (.ifCond .eq 11, 3) := by decide +kernel
theorem dX12_needed_13 : decode cX12_needed 13 = .ok (.aload_n 0, 1) := by decide +kernel
theorem dX12_needed_14 : decode cX12_needed 14 = .ok (.iload_n 1, 1) := by decide +kernel
theorem dX12_needed_15 : decode cX12_needed 15 = .ok (.invokevirtual 325, 3) := by decide +kernel
theorem dX12_needed_18 : decode cX12_needed 18 = .ok (.goto 5, 3) := by decide +kernel
theorem dX12_needed_21 : decode cX12_needed 21 = .ok (.ldc 246, 2) := by decide +kernel
theorem dX12_needed_23 : decode cX12_needed 23 = .ok (.ireturn, 1) := by decide +kernel
theorem dX12_needed_24 : decode cX12_needed 24 = .ok (.iconst 0, 1) := by decide +kernel
theorem dX12_needed_25 : decode cX12_needed 25 = .ok (.istore_n 2, 1) := by decide +kernel
theorem dX12_needed_26 : decode cX12_needed 26 = .ok (.iconst 0, 1) := by decide +kernel
theorem dX12_needed_27 : decode cX12_needed 27 = .ok (.istore_n 3, 1) := by decide +kernel
theorem dX12_needed_28 : decode cX12_needed 28 = .ok (.iload_n 3, 1) := by decide +kernel
theorem dX12_needed_29 : decode cX12_needed 29 = .ok (.aload_n 0, 1) := by decide +kernel
theorem dX12_needed_30 : decode cX12_needed 30 = .ok (.getfield 118, 3) := by decide +kernel
theorem dX12_needed_33 : decode cX12_needed 33 = .ok (.if_icmp .ge 20, 3) := by decide +kernel
theorem dX12_needed_36 : decode cX12_needed 36 = .ok (.iload_n 2, 1) := by decide +kernel
theorem dX12_needed_37 : decode cX12_needed 37 = .ok (.aload_n 0, 1) := by decide +kernel
theorem dX12_needed_38 : decode cX12_needed 38 = .ok (.iload_n 3, 1) := by decide +kernel
theorem dX12_needed_39 : decode cX12_needed 39 = .ok (.invokevirtual 325, 3) := by decide +kernel
theorem dX12_needed_42 : decode cX12_needed 42 = .ok (.invokestatic 299, 3) := by decide +kernel
theorem dX12_needed_45 : decode cX12_needed 45 = .ok (.iadd, 1) := by decide +kernel
theorem dX12_needed_46 : decode cX12_needed 46 = .ok (.istore_n 2, 1) := by decide +kernel
theorem dX12_needed_47 : decode cX12_needed 47 = .ok (.iinc 3 1, 3) := by decide +kernel
theorem dX12_needed_50 : decode cX12_needed 50 = .ok (.goto (-22), 3) := by decide +kernel
theorem dX12_needed_53 : decode cX12_needed 53 = .ok (.iload_n 2, 1) := by decide +kernel
theorem dX12_needed_54 : decode cX12_needed 54 = .ok (.ireturn, 1) := by decide +kernel
theorem dX12_write_0 : decode cX12_write 0 = .ok (.aload_n 0, 1) := by decide +kernel
theorem dX12_write_1 : decode cX12_write 1 = .ok (.iload_n 1, 1) := by decide +kernel
theorem dX12_write_2 : decode cX12_write 2 = .ok (.iload_n 2, 1) := by decide +kernel
theorem dX12_write_3 : decode cX12_write 3 = .ok (.invokevirtual 247, 3) := by decide +kernel
theorem dX12_write_6 : decode cX12_write 6 = .ok (.ifCond .ne 6, 3) := by decide +kernel
theorem dX12_write_9 : decode cX12_write 9 = .ok (.ldc 246, 2) := by decide +kernel
theorem dX12_write_11 : decode cX12_write 11 = .ok (.ireturn, 1) := by decide +kernel
theorem dX12_write_12 : decode cX12_write 12 = .ok (.iload_n 3, 1) := by decide +kernel
theorem dX12_write_13 : decode cX12_write 13 = .ok (.i2l, 1) := by decide +kernel
theorem dX12_write_14 : decode cX12_write 14 = .ok (.lconst 1, 1) := by decide +kernel
theorem dX12_write_15 : decode cX12_write 15 = .ok (.ldc2_w 328, 3) := by decide +kernel
theorem dX12_write_18 : decode cX12_write 18 = .ok (.invokestatic 121, 3) := by decide +kernel
theorem dX12_write_21 : decode cX12_write 21 = .ok (.ifCond .eq 16, 3) := by decide +kernel
theorem dX12_write_24 : decode cX12_write 24 = .ok (.iload 4, 2) := by decide +kernel
theorem dX12_write_26 : decode cX12_write 26 = .ok (.i2l, 1) := by decide +kernel
theorem dX12_write_27 : decode cX12_write 27 = .ok (.lconst 0, 1) := by decide +kernel
theorem dX12_write_28 : decode cX12_write 28 = .ok (.ldc2_w 330, 3) := by decide +kernel
theorem dX12_write_31 : decode cX12_write 31 = .ok (.invokestatic 121, 3) := by decide +kernel
theorem dX12_write_34 : decode cX12_write 34 = .ok (.ifCond .ne 6, 3) := by decide +kernel
theorem dX12_write_37 : decode cX12_write 37 = .ok (.ldc 131, 2) := by decide +kernel
theorem dX12_write_39 : decode cX12_write 39 = .ok (.ireturn, 1) := by decide +kernel
theorem dX12_write_40 : decode cX12_write 40 = .ok (.aload_n 0, 1) := by decide +kernel
theorem dX12_write_41 : decode cX12_write 41 = .ok (.getfield 233, 3) := by decide +kernel
theorem dX12_write_44 : decode cX12_write 44 = .ok (.bipush 20, 2) := by decide +kernel
theorem dX12_write_46 : decode cX12_write 46 = .ok (.if_icmp .ne 6, 3) := by decide +kernel
theorem dX12_write_49 : decode cX12_write 49 = .ok (.ldc 135, 2) := by decide +kernel
theorem dX12_write_51 : decode cX12_write 51 = .ok (.ireturn, 1) := by decide +kernel
theorem dX12_write_52 : decode cX12_write 52 = .ok (.aload_n 0, 1) := by decide +kernel
theorem dX12_write_53 : decode cX12_write 53 = .ok (.getfield 99, 3) := by decide +kernel
theorem dX12_write_56 : decode cX12_write 56 = .ok (.aload_n 0, 1) := by decide +kernel
theorem dX12_write_57 : decode cX12_write 57 = .ok (.getfield 233, 3) := by decide +kernel
theorem dX12_write_60 : decode cX12_write 60 = .ok (.iload_n 1, 1) := by decide +kernel
theorem dX12_write_61 : decode cX12_write 61 = .ok (.iastore, 1) := by decide +kernel
theorem dX12_write_62 : decode cX12_write 62 = .ok (.aload_n 0, 1) := by decide +kernel
theorem dX12_write_63 : decode cX12_write 63 = .ok (.getfield 102, 3) := by decide +kernel
theorem dX12_write_66 : decode cX12_write 66 = .ok (.aload_n 0, 1) := by decide +kernel
theorem dX12_write_67 : decode cX12_write 67 = .ok (.getfield 233, 3) := by decide +kernel
theorem dX12_write_70 : decode cX12_write 70 = .ok (.iload_n 2, 1) := by decide +kernel
theorem dX12_write_71 : decode cX12_write 71 = .ok (.iastore, 1) := by decide +kernel
theorem dX12_write_72 : decode cX12_write 72 = .ok (.aload_n 0, 1) := by decide +kernel
theorem dX12_write_73 : decode cX12_write 73 = .ok (.getfield 105, 3) := by decide +kernel
theorem dX12_write_76 : decode cX12_write 76 = .ok (.aload_n 0, 1) := by decide +kernel
theorem dX12_write_77 : decode cX12_write 77 = .ok (.getfield 233, 3) := by decide +kernel
theorem dX12_write_80 : decode cX12_write 80 = .ok (.iload_n 3, 1) := by decide +kernel
theorem dX12_write_81 : decode cX12_write 81 = .ok (.iastore, 1) := by decide +kernel
theorem dX12_write_82 : decode cX12_write 82 = .ok (.aload_n 0, 1) := by decide +kernel
theorem dX12_write_83 : decode cX12_write 83 = .ok (.getfield 108, 3) := by decide +kernel
theorem dX12_write_86 : decode cX12_write 86 = .ok (.aload_n 0, 1) := by decide +kernel
theorem dX12_write_87 : decode cX12_write 87 = .ok (.getfield 233, 3) := by decide +kernel
theorem dX12_write_90 : decode cX12_write 90 = .ok (.iload 4, 2) := by decide +kernel
theorem dX12_write_92 : decode cX12_write 92 = .ok (.iastore, 1) := by decide +kernel
theorem dX12_write_93 : decode cX12_write 93 = .ok (.aload_n 0, 1) := by decide +kernel
theorem dX12_write_94 : decode cX12_write 94 = .ok (.dup, 1) := by decide +kernel
theorem dX12_write_95 : decode cX12_write 95 = .ok (.getfield 233, 3) := by decide +kernel
theorem dX12_write_98 : decode cX12_write 98 = .ok (.iconst 1, 1) := by decide +kernel
theorem dX12_write_99 : decode cX12_write 99 = .ok (.iadd, 1) := by decide +kernel
theorem dX12_write_100 : decode cX12_write 100 = .ok (.putfield 233, 3) := by decide +kernel
theorem dX12_write_103 : decode cX12_write 103 = .ok (.aload_n 0, 1) := by decide +kernel
theorem dX12_write_104 : decode cX12_write 104 = .ok (.getfield 233, 3) := by decide +kernel
theorem dX12_write_107 : decode cX12_write 107 = .ok (.ireturn, 1) := by decide +kernel
theorem dX12_tear_0 : decode cX12_tear 0 = .ok (.aload_n 0, 1) := by decide +kernel
theorem dX12_tear_1 : decode cX12_tear 1 = .ok (.getfield 233, 3) := by decide +kernel
theorem dX12_tear_4 : decode cX12_tear 4 = .ok (.istore_n 1, 1) := by decide +kernel
theorem dX12_tear_5 : decode cX12_tear 5 = .ok (.aload_n 0, 1) := by decide +kernel
theorem dX12_tear_6 : decode cX12_tear 6 = .ok (.iconst 0, 1) := by decide +kernel
theorem dX12_tear_7 : decode cX12_tear 7 = .ok (.putfield 233, 3) := by decide +kernel
theorem dX12_tear_10 : decode cX12_tear 10 = .ok (.iload_n 1, 1) := by decide +kernel
theorem dX12_tear_11 : decode cX12_tear 11 = .ok (.ireturn, 1) := by decide +kernel
theorem dX12_judge_0 : decode cX12_judge 0 = .ok (.iconst 0, 1) := by decide +kernel
theorem dX12_judge_1 : decode cX12_judge 1 = .ok (.istore_n 1, 1) := by decide +kernel
theorem dX12_judge_2 : decode cX12_judge 2 = .ok (.iload_n 1, 1) := by decide +kernel
theorem dX12_judge_3 : decode cX12_judge 3 = .ok (.aload_n 0, 1) := by decide +kernel
theorem dX12_judge_4 : decode cX12_judge 4 = .ok (.getfield 233, 3) := by decide +kernel
theorem dX12_judge_7 : decode cX12_judge 7 = .ok (.if_icmp .ge 54, 3) := by decide +kernel
theorem dX12_judge_10 : decode cX12_judge 10 = .ok (.aload_n 0, 1) := by decide +kernel
theorem dX12_judge_11 : decode cX12_judge 11 = .ok (.aload_n 0, 1) := by decide +kernel
theorem dX12_judge_12 : decode cX12_judge 12 = .ok (.getfield 99, 3) := by decide +kernel
theorem dX12_judge_15 : decode cX12_judge 15 = .ok (.iload_n 1, 1) := by decide +kernel
theorem dX12_judge_16 : decode cX12_judge 16 = .ok (.iaload, 1) := by decide +kernel
theorem dX12_judge_17 : decode cX12_judge 17 = .ok (.aload_n 0, 1) := by decide +kernel
theorem dX12_judge_18 : decode cX12_judge 18 = .ok (.getfield 102, 3) := by decide +kernel
theorem dX12_judge_21 : decode cX12_judge 21 = .ok (.iload_n 1, 1) := by decide +kernel
theorem dX12_judge_22 : decode cX12_judge 22 = .ok (.iaload, 1) := by decide +kernel
theorem dX12_judge_23 : decode cX12_judge 23 = .ok (.iconst 0, 1) := by decide +kernel
theorem dX12_judge_24 : decode cX12_judge 24 = .ok (.invokevirtual 286, 3) := by decide +kernel
theorem dX12_judge_27 : decode cX12_judge 27 = .ok (.aload_n 0, 1) := by decide +kernel
theorem dX12_judge_28 : decode cX12_judge 28 = .ok (.getfield 283, 3) := by decide +kernel
theorem dX12_judge_31 : decode cX12_judge 31 = .ok (.aload_n 0, 1) := by decide +kernel
theorem dX12_judge_32 : decode cX12_judge 32 = .ok (.getfield 105, 3) := by decide +kernel
theorem dX12_judge_35 : decode cX12_judge 35 = .ok (.iload_n 1, 1) := by decide +kernel
theorem dX12_judge_36 : decode cX12_judge 36 = .ok (.iaload, 1) := by decide +kernel
theorem dX12_judge_37 : decode cX12_judge 37 = .ok (.if_icmp .ne 16, 3) := by decide +kernel
theorem dX12_judge_40 : decode cX12_judge 40 = .ok (.aload_n 0, 1) := by decide +kernel
theorem dX12_judge_41 : decode cX12_judge 41 = .ok (.getfield 277, 3) := by decide +kernel
theorem dX12_judge_44 : decode cX12_judge 44 = .ok (.aload_n 0, 1) := by decide +kernel
theorem dX12_judge_45 : decode cX12_judge 45 = .ok (.getfield 108, 3) := by decide +kernel
theorem dX12_judge_48 : decode cX12_judge 48 = .ok (.iload_n 1, 1) := by decide +kernel
theorem dX12_judge_49 : decode cX12_judge 49 = .ok (.iaload, 1) := by decide +kernel
theorem dX12_judge_50 : decode cX12_judge 50 = .ok (.if_icmp .eq 5, 3) := by decide +kernel
theorem dX12_judge_53 : decode cX12_judge 53 = .ok (.iload_n 1, 1) := by decide +kernel
theorem dX12_judge_54 : decode cX12_judge 54 = .ok (.ireturn, 1) := by decide +kernel
theorem dX12_judge_55 : decode cX12_judge 55 = .ok (.iinc 1 1, 3) := by decide +kernel
theorem dX12_judge_58 : decode cX12_judge 58 = .ok (.goto (-56), 3) := by decide +kernel
theorem dX12_judge_61 : decode cX12_judge 61 = .ok (.iconst (-1), 1) := by decide +kernel
theorem dX12_judge_62 : decode cX12_judge 62 = .ok (.ireturn, 1) := by decide +kernel
theorem dX12_draw_0 : decode cX12_draw 0 = .ok (.aload_n 0, 1) := by decide +kernel
theorem dX12_draw_1 : decode cX12_draw 1 = .ok (.aload_n 0, 1) := by decide +kernel
theorem dX12_draw_2 : decode cX12_draw 2 = .ok (.getfield 332, 3) := by decide +kernel
theorem dX12_draw_5 : decode cX12_draw 5 = .ok (.i2l, 1) := by decide +kernel
theorem dX12_draw_6 : decode cX12_draw 6 = .ok (.ldc2_w 335, 3) := by decide +kernel
theorem dX12_draw_9 : decode cX12_draw 9 = .ok (.lmul, 1) := by decide +kernel
theorem dX12_draw_10 : decode cX12_draw 10 = .ok (.ldc2_w 337, 3) := by decide +kernel
theorem dX12_draw_13 : decode cX12_draw 13 = .ok (.ladd, 1) := by decide +kernel
theorem dX12_draw_14 : decode cX12_draw 14 = .ok (.ldc2_w 339, 3) := by decide +kernel
theorem dX12_draw_17 : decode cX12_draw 17 = .ok (.lrem, 1) := by decide +kernel
theorem dX12_draw_18 : decode cX12_draw 18 = .ok (.l2i, 1) := by decide +kernel
theorem dX12_draw_19 : decode cX12_draw 19 = .ok (.putfield 332, 3) := by decide +kernel
theorem dX12_draw_22 : decode cX12_draw 22 = .ok (.aload_n 0, 1) := by decide +kernel
theorem dX12_draw_23 : decode cX12_draw 23 = .ok (.getfield 332, 3) := by decide +kernel
theorem dX12_draw_26 : decode cX12_draw 26 = .ok (.ldc_w 341, 3) := by decide +kernel
theorem dX12_draw_29 : decode cX12_draw 29 = .ok (.idiv, 1) := by decide +kernel
theorem dX12_draw_30 : decode cX12_draw 30 = .ok (.iload_n 1, 1) := by decide +kernel
theorem dX12_draw_31 : decode cX12_draw 31 = .ok (.irem, 1) := by decide +kernel
theorem dX12_draw_32 : decode cX12_draw 32 = .ok (.ireturn, 1) := by decide +kernel
theorem dX12_drift_0 : decode cX12_drift 0 = .ok (.iload_n 1, 1) := by decide +kernel
theorem dX12_drift_1 : decode cX12_drift 1 = .ok (.i2l, 1) := by decide +kernel
theorem dX12_drift_2 : decode cX12_drift 2 = .ok (.lconst 1, 1) := by decide +kernel
theorem dX12_drift_3 : decode cX12_drift 3 = .ok (.ldc2_w 266, 3) := by decide +kernel
theorem dX12_drift_6 : decode cX12_drift 6 = .ok (.invokestatic 121, 3) := by decide +kernel
theorem dX12_drift_9 : decode cX12_drift 9 = .ok (.ifCond .eq 15, 3) := by decide +kernel
theorem dX12_drift_12 : decode cX12_drift 12 = .ok (.iload_n 2, 1) := by decide +kernel
theorem dX12_drift_13 : decode cX12_drift 13 = .ok (.i2l, 1) := by decide +kernel
theorem dX12_drift_14 : decode cX12_drift 14 = .ok (.lconst 0, 1) := by decide +kernel
theorem dX12_drift_15 : decode cX12_drift 15 = .ok (.ldc2_w 312, 3) := by decide +kernel
theorem dX12_drift_18 : decode cX12_drift 18 = .ok (.invokestatic 121, 3) := by decide +kernel
theorem dX12_drift_21 : decode cX12_drift 21 = .ok (.ifCond .ne 6, 3) := by decide +kernel
theorem dX12_drift_24 : decode cX12_drift 24 = .ok (.ldc 131, 2) := by decide +kernel
theorem dX12_drift_26 : decode cX12_drift 26 = .ok (.ireturn, 1) := by decide +kernel
theorem dX12_drift_27 : decode cX12_drift 27 = .ok (.iconst 0, 1) := by decide +kernel
theorem dX12_drift_28 : decode cX12_drift 28 = .ok (.istore_n 3, 1) := by decide +kernel
theorem dX12_drift_29 : decode cX12_drift 29 = .ok (.iload_n 3, 1) := by decide +kernel
theorem dX12_drift_30 : decode cX12_drift 30 = .ok (.iload_n 1, 1) := by decide +kernel
theorem dX12_drift_31 : decode cX12_drift 31 = .ok (.if_icmp .ge 85, 3) := by decide +kernel
theorem dX12_drift_34 : decode cX12_drift 34 = .ok (.iconst 0, 1) := by decide +kernel
theorem dX12_drift_35 : decode cX12_drift 35 = .ok (.istore 4, 2) := by decide +kernel
theorem dX12_drift_37 : decode cX12_drift 37 = .ok (.iload 4, 2) := by decide +kernel
theorem dX12_drift_39 : decode cX12_drift 39 = .ok (.aload_n 0, 1) := by decide +kernel
theorem dX12_drift_40 : decode cX12_drift 40 = .ok (.getfield 118, 3) := by decide +kernel
theorem dX12_drift_43 : decode cX12_drift 43 = .ok (.if_icmp .ge 67, 3) := by decide +kernel
theorem dX12_drift_46 : decode cX12_drift 46 = .ok (.aload_n 0, 1) := by decide +kernel
theorem dX12_drift_47 : decode cX12_drift 47 = .ok (.bipush 100, 2) := by decide +kernel
theorem dX12_drift_49 : decode cX12_drift 49 = .ok (.invokevirtual 342, 3) := by decide +kernel
theorem dX12_drift_52 : decode cX12_drift 52 = .ok (.iload_n 2, 1) := by decide +kernel
theorem dX12_drift_53 : decode cX12_drift 53 = .ok (.if_icmp .ge 51, 3) := by decide +kernel
theorem dX12_drift_56 : decode cX12_drift 56 = .ok (.aload_n 0, 1) := by decide +kernel
theorem dX12_drift_57 : decode cX12_drift 57 = .ok (.getfield 28, 3) := by decide +kernel
theorem dX12_drift_60 : decode cX12_drift 60 = .ok (.iload 4, 2) := by decide +kernel
theorem dX12_drift_62 : decode cX12_drift 62 = .ok (.iaload, 1) := by decide +kernel
theorem dX12_drift_63 : decode cX12_drift 63 = .ok (.ifCond .le 41, 3) := by decide +kernel
theorem dX12_drift_66 : decode cX12_drift 66 = .ok (.aload_n 0, 1) := by decide +kernel
theorem dX12_drift_67 : decode cX12_drift 67 = .ok (.aload_n 0, 1) := by decide +kernel
theorem dX12_drift_68 : decode cX12_drift 68 = .ok (.getfield 28, 3) := by decide +kernel
theorem dX12_drift_71 : decode cX12_drift 71 = .ok (.iload 4, 2) := by decide +kernel
theorem dX12_drift_73 : decode cX12_drift 73 = .ok (.iaload, 1) := by decide +kernel
theorem dX12_drift_74 : decode cX12_drift 74 = .ok (.invokevirtual 342, 3) := by decide +kernel
theorem dX12_drift_77 : decode cX12_drift 77 = .ok (.istore 5, 2) := by decide +kernel
theorem dX12_drift_79 : decode cX12_drift 79 = .ok (.aload_n 0, 1) := by decide +kernel
theorem dX12_drift_80 : decode cX12_drift 80 = .ok (.getfield 40, 3) := by decide +kernel
theorem dX12_drift_83 : decode cX12_drift 83 = .ok (.iload 4, 2) := by decide +kernel
theorem dX12_drift_85 : decode cX12_drift 85 = .ok (.aload_n 0, 1) := by decide +kernel
theorem dX12_drift_86 : decode cX12_drift 86 = .ok (.getfield 40, 3) := by decide +kernel
theorem dX12_drift_89 : decode cX12_drift 89 = .ok (.iload 4, 2) := by decide +kernel
theorem dX12_drift_91 : decode cX12_drift 91 = .ok (.iaload, 1) := by decide +kernel
theorem dX12_drift_92 : decode cX12_drift 92 = .ok (.iload 5, 2) := by decide +kernel
theorem dX12_drift_94 : decode cX12_drift 94 = .ok (.iadd, 1) := by decide +kernel
theorem dX12_drift_95 : decode cX12_drift 95 = .ok (.aload_n 0, 1) := by decide +kernel
theorem dX12_drift_96 : decode cX12_drift 96 = .ok (.getfield 28, 3) := by decide +kernel
theorem dX12_drift_99 : decode cX12_drift 99 = .ok (.iload 4, 2) := by decide +kernel
theorem dX12_drift_101 : decode cX12_drift 101 = .ok (.iaload, 1) := by decide +kernel
theorem dX12_drift_102 : decode cX12_drift 102 = .ok (.irem, 1) := by decide +kernel
theorem dX12_drift_103 : decode cX12_drift 103 = .ok (.iastore, 1) := by decide +kernel
theorem dX12_drift_104 : decode cX12_drift 104 = .ok (.iinc 4 1, 3) := by decide +kernel
theorem dX12_drift_107 : decode cX12_drift 107 = .ok (.goto (-70), 3) := by decide +kernel
theorem dX12_drift_110 : decode cX12_drift 110 = .ok (.iinc 3 1, 3) := by decide +kernel
theorem dX12_drift_113 : decode cX12_drift 113 = .ok (.goto (-84), 3) := by decide +kernel
theorem dX12_drift_116 : decode cX12_drift 116 = .ok (.aload_n 0, 1) := by decide +kernel
theorem dX12_drift_117 : decode cX12_drift 117 = .ok (.invokevirtual 240, 3) := by decide +kernel
theorem dX12_drift_120 : decode cX12_drift 120 = .ok (.ireturn, 1) := by decide +kernel
theorem dX12_seed_0 : decode cX12_seed 0 = .ok (.iload_n 1, 1) := by decide +kernel
theorem dX12_seed_1 : decode cX12_seed 1 = .ok (.ifCond .ge 6, 3) := by decide +kernel
theorem dX12_seed_4 : decode cX12_seed 4 = .ok (.ldc 131, 2) := by decide +kernel
theorem dX12_seed_6 : decode cX12_seed 6 = .ok (.ireturn, 1) := by decide +kernel
theorem dX12_seed_7 : decode cX12_seed 7 = .ok (.aload_n 0, 1) := by decide +kernel
theorem dX12_seed_8 : decode cX12_seed 8 = .ok (.getfield 332, 3) := by decide +kernel
theorem dX12_seed_11 : decode cX12_seed 11 = .ok (.istore_n 2, 1) := by decide +kernel
theorem dX12_seed_12 : decode cX12_seed 12 = .ok (.aload_n 0, 1) := by decide +kernel
theorem dX12_seed_13 : decode cX12_seed 13 = .ok (.iload_n 1, 1) := by decide +kernel
theorem dX12_seed_14 : decode cX12_seed 14 = .ok (.putfield 332, 3) := by decide +kernel
theorem dX12_seed_17 : decode cX12_seed 17 = .ok (.iload_n 2, 1) := by decide +kernel
theorem dX12_seed_18 : decode cX12_seed 18 = .ok (.ireturn, 1) := by decide +kernel
theorem dX12_keep_0 : decode cX12_keep 0 = .ok (.iload_n 1, 1) := by decide +kernel
theorem dX12_keep_1 : decode cX12_keep 1 = .ok (.i2l, 1) := by decide +kernel
theorem dX12_keep_2 : decode cX12_keep 2 = .ok (.lconst 0, 1) := by decide +kernel
theorem dX12_keep_3 : decode cX12_keep 3 = .ok (.lconst 1, 1) := by decide +kernel
theorem dX12_keep_4 : decode cX12_keep 4 = .ok (.invokestatic 121, 3) := by decide +kernel
theorem dX12_keep_7 : decode cX12_keep 7 = .ok (.ifCond .ne 6, 3) := by decide +kernel
theorem dX12_keep_10 : decode cX12_keep 10 = .ok (.ldc 246, 2) := by decide +kernel
theorem dX12_keep_12 : decode cX12_keep 12 = .ok (.ireturn, 1) := by decide +kernel
theorem dX12_keep_13 : decode cX12_keep 13 = .ok (.bipush 100, 2) := by decide +kernel
theorem dX12_keep_15 : decode cX12_keep 15 = .ok (.iload_n 1, 1) := by decide +kernel
theorem dX12_keep_16 : decode cX12_keep 16 = .ok (.imul, 1) := by decide +kernel
theorem dX12_keep_17 : decode cX12_keep 17 = .ok (.istore_n 2, 1) := by decide +kernel
theorem dX12_keep_18 : decode cX12_keep 18 = .ok (.iconst 0, 1) := by decide +kernel
theorem dX12_keep_19 : decode cX12_keep 19 = .ok (.istore_n 3, 1) := by decide +kernel
theorem dX12_keep_20 : decode cX12_keep 20 = .ok (.iload_n 3, 1) := by decide +kernel
theorem dX12_keep_21 : decode cX12_keep 21 = .ok (.bipush 9, 2) := by decide +kernel
theorem dX12_keep_23 : decode cX12_keep 23 = .ok (.if_icmp .ge 33, 3) := by decide +kernel
theorem dX12_keep_26 : decode cX12_keep 26 = .ok (.aload_n 0, 1) := by decide +kernel
theorem dX12_keep_27 : decode cX12_keep 27 = .ok (.getfield 111, 3) := by decide +kernel
theorem dX12_keep_30 : decode cX12_keep 30 = .ok (.iload_n 2, 1) := by decide +kernel
theorem dX12_keep_31 : decode cX12_keep 31 = .ok (.iload_n 3, 1) := by decide +kernel
theorem dX12_keep_32 : decode cX12_keep 32 = .ok (.iadd, 1) := by decide +kernel
theorem dX12_keep_33 : decode cX12_keep 33 = .ok (.aload_n 0, 1) := by decide +kernel
theorem dX12_keep_34 : decode cX12_keep 34 = .ok (.getfield 40, 3) := by decide +kernel
theorem dX12_keep_37 : decode cX12_keep 37 = .ok (.iload_n 3, 1) := by decide +kernel
theorem dX12_keep_38 : decode cX12_keep 38 = .ok (.iaload, 1) := by decide +kernel
theorem dX12_keep_39 : decode cX12_keep 39 = .ok (.bipush 10, 2) := by decide +kernel
theorem dX12_keep_41 : decode cX12_keep 41 = .ok (.aload_n 0, 1) := by decide +kernel
theorem dX12_keep_42 : decode cX12_keep 42 = .ok (.getfield 43, 3) := by decide +kernel
theorem dX12_keep_45 : decode cX12_keep 45 = .ok (.iload_n 3, 1) := by decide +kernel
theorem dX12_keep_46 : decode cX12_keep 46 = .ok (.iaload, 1) := by decide +kernel
theorem dX12_keep_47 : decode cX12_keep 47 = .ok (.imul, 1) := by decide +kernel
theorem dX12_keep_48 : decode cX12_keep 48 = .ok (.iadd, 1) := by decide +kernel
theorem dX12_keep_49 : decode cX12_keep 49 = .ok (.iastore, 1) := by decide +kernel
theorem dX12_keep_50 : decode cX12_keep 50 = .ok (.iinc 3 1, 3) := by decide +kernel
theorem dX12_keep_53 : decode cX12_keep 53 = .ok (.goto (-33), 3) := by decide +kernel
theorem dX12_keep_56 : decode cX12_keep 56 = .ok (.iconst 0, 1) := by decide +kernel
theorem dX12_keep_57 : decode cX12_keep 57 = .ok (.istore_n 3, 1) := by decide +kernel
theorem dX12_keep_58 : decode cX12_keep 58 = .ok (.iload_n 3, 1) := by decide +kernel
theorem dX12_keep_59 : decode cX12_keep 59 = .ok (.bipush 81, 2) := by decide +kernel
theorem dX12_keep_61 : decode cX12_keep 61 = .ok (.if_icmp .ge 26, 3) := by decide +kernel
theorem dX12_keep_64 : decode cX12_keep 64 = .ok (.aload_n 0, 1) := by decide +kernel
theorem dX12_keep_65 : decode cX12_keep 65 = .ok (.getfield 111, 3) := by decide +kernel
theorem dX12_keep_68 : decode cX12_keep 68 = .ok (.iload_n 2, 1) := by decide +kernel
theorem dX12_keep_69 : decode cX12_keep 69 = .ok (.bipush 10, 2) := by decide +kernel
theorem dX12_keep_71 : decode cX12_keep 71 = .ok (.iadd, 1) := by decide +kernel
theorem dX12_keep_72 : decode cX12_keep 72 = .ok (.iload_n 3, 1) := by decide +kernel
theorem dX12_keep_73 : decode cX12_keep 73 = .ok (.iadd, 1) := by decide +kernel
theorem dX12_keep_74 : decode cX12_keep 74 = .ok (.aload_n 0, 1) := by decide +kernel
theorem dX12_keep_75 : decode cX12_keep 75 = .ok (.getfield 46, 3) := by decide +kernel
theorem dX12_keep_78 : decode cX12_keep 78 = .ok (.iload_n 3, 1) := by decide +kernel
theorem dX12_keep_79 : decode cX12_keep 79 = .ok (.iaload, 1) := by decide +kernel
theorem dX12_keep_80 : decode cX12_keep 80 = .ok (.iastore, 1) := by decide +kernel
theorem dX12_keep_81 : decode cX12_keep 81 = .ok (.iinc 3 1, 3) := by decide +kernel
theorem dX12_keep_84 : decode cX12_keep 84 = .ok (.goto (-26), 3) := by decide +kernel
theorem dX12_keep_87 : decode cX12_keep 87 = .ok (.aload_n 0, 1) := by decide +kernel
theorem dX12_keep_88 : decode cX12_keep 88 = .ok (.getfield 111, 3) := by decide +kernel
theorem dX12_keep_91 : decode cX12_keep 91 = .ok (.iload_n 2, 1) := by decide +kernel
theorem dX12_keep_92 : decode cX12_keep 92 = .ok (.bipush 91, 2) := by decide +kernel
theorem dX12_keep_94 : decode cX12_keep 94 = .ok (.iadd, 1) := by decide +kernel
theorem dX12_keep_95 : decode cX12_keep 95 = .ok (.aload_n 0, 1) := by decide +kernel
theorem dX12_keep_96 : decode cX12_keep 96 = .ok (.getfield 332, 3) := by decide +kernel
theorem dX12_keep_99 : decode cX12_keep 99 = .ok (.iastore, 1) := by decide +kernel
theorem dX12_keep_100 : decode cX12_keep 100 = .ok (.aload_n 0, 1) := by decide +kernel
theorem dX12_keep_101 : decode cX12_keep 101 = .ok (.getfield 114, 3) := by decide +kernel
theorem dX12_keep_104 : decode cX12_keep 104 = .ok (.iload_n 1, 1) := by decide +kernel
theorem dX12_keep_105 : decode cX12_keep 105 = .ok (.iconst 1, 1) := by decide +kernel
theorem dX12_keep_106 : decode cX12_keep 106 = .ok (.bastore, 1) := by decide +kernel
theorem dX12_keep_107 : decode cX12_keep 107 = .ok (.iconst 1, 1) := by decide +kernel
theorem dX12_keep_108 : decode cX12_keep 108 = .ok (.ireturn, 1) := by decide +kernel
theorem dX12_goBack_0 : decode cX12_goBack 0 = .ok (.iload_n 1, 1) := by decide +kernel
theorem dX12_goBack_1 : decode cX12_goBack 1 = .ok (.i2l, 1) := by decide +kernel
theorem dX12_goBack_2 : decode cX12_goBack 2 = .ok (.lconst 0, 1) := by decide +kernel
theorem dX12_goBack_3 : decode cX12_goBack 3 = .ok (.lconst 1, 1) := by decide +kernel
theorem dX12_goBack_4 : decode cX12_goBack 4 = .ok (.invokestatic 121, 3) := by decide +kernel
theorem dX12_goBack_7 : decode cX12_goBack 7 = .ok (.ifCond .ne 6, 3) := by decide +kernel
theorem dX12_goBack_10 : decode cX12_goBack 10 = .ok (.ldc 246, 2) := by decide +kernel
theorem dX12_goBack_12 : decode cX12_goBack 12 = .ok (.ireturn, 1) := by decide +kernel
theorem dX12_goBack_13 : decode cX12_goBack 13 = .ok (.aload_n 0, 1) := by decide +kernel
theorem dX12_goBack_14 : decode cX12_goBack 14 = .ok (.getfield 114, 3) := by decide +kernel
theorem dX12_goBack_17 : decode cX12_goBack 17 = .ok (.iload_n 1, 1) := by decide +kernel
theorem dX12_goBack_18 : decode cX12_goBack 18 = .ok (.baload, 1) := by decide +kernel
theorem dX12_goBack_19 : decode cX12_goBack 19 = .ok (.ifCond .ne 7, 3) := by decide +kernel
theorem dX12_goBack_22 : decode cX12_goBack 22 = .ok (.ldc_w 268, 3) := by decide +kernel
theorem dX12_goBack_25 : decode cX12_goBack 25 = .ok (.ireturn, 1) := by decide +kernel
theorem dX12_goBack_26 : decode cX12_goBack 26 = .ok (.bipush 100, 2) := by decide +kernel
theorem dX12_goBack_28 : decode cX12_goBack 28 = .ok (.iload_n 1, 1) := by decide +kernel
theorem dX12_goBack_29 : decode cX12_goBack 29 = .ok (.imul, 1) := by decide +kernel
theorem dX12_goBack_30 : decode cX12_goBack 30 = .ok (.istore_n 2, 1) := by decide +kernel
theorem dX12_goBack_31 : decode cX12_goBack 31 = .ok (.iconst 0, 1) := by decide +kernel
theorem dX12_goBack_32 : decode cX12_goBack 32 = .ok (.istore_n 3, 1) := by decide +kernel
theorem dX12_goBack_33 : decode cX12_goBack 33 = .ok (.iload_n 3, 1) := by decide +kernel
theorem dX12_goBack_34 : decode cX12_goBack 34 = .ok (.bipush 9, 2) := by decide +kernel
theorem dX12_goBack_36 : decode cX12_goBack 36 = .ok (.if_icmp .ge 43, 3) := by decide +kernel
theorem dX12_goBack_39 : decode cX12_goBack 39 = .ok (.aload_n 0, 1) := by decide +kernel
theorem dX12_goBack_40 : decode cX12_goBack 40 = .ok (.getfield 40, 3) := by decide +kernel
theorem dX12_goBack_43 : decode cX12_goBack 43 = .ok (.iload_n 3, 1) := by decide +kernel
theorem dX12_goBack_44 : decode cX12_goBack 44 = .ok (.aload_n 0, 1) := by decide +kernel
theorem dX12_goBack_45 : decode cX12_goBack 45 = .ok (.getfield 111, 3) := by decide +kernel
theorem dX12_goBack_48 : decode cX12_goBack 48 = .ok (.iload_n 2, 1) := by decide +kernel
theorem dX12_goBack_49 : decode cX12_goBack 49 = .ok (.iload_n 3, 1) := by decide +kernel
theorem dX12_goBack_50 : decode cX12_goBack 50 = .ok (.iadd, 1) := by decide +kernel
theorem dX12_goBack_51 : decode cX12_goBack 51 = .ok (.iaload, 1) := by decide +kernel
theorem dX12_goBack_52 : decode cX12_goBack 52 = .ok (.bipush 10, 2) := by decide +kernel
theorem dX12_goBack_54 : decode cX12_goBack 54 = .ok (.irem, 1) := by decide +kernel
theorem dX12_goBack_55 : decode cX12_goBack 55 = .ok (.iastore, 1) := by decide +kernel
theorem dX12_goBack_56 : decode cX12_goBack 56 = .ok (.aload_n 0, 1) := by decide +kernel
theorem dX12_goBack_57 : decode cX12_goBack 57 = .ok (.getfield 43, 3) := by decide +kernel
theorem dX12_goBack_60 : decode cX12_goBack 60 = .ok (.iload_n 3, 1) := by decide +kernel
theorem dX12_goBack_61 : decode cX12_goBack 61 = .ok (.aload_n 0, 1) := by decide +kernel
theorem dX12_goBack_62 : decode cX12_goBack 62 = .ok (.getfield 111, 3) := by decide +kernel
theorem dX12_goBack_65 : decode cX12_goBack 65 = .ok (.iload_n 2, 1) := by decide +kernel
theorem dX12_goBack_66 : decode cX12_goBack 66 = .ok (.iload_n 3, 1) := by decide +kernel
theorem dX12_goBack_67 : decode cX12_goBack 67 = .ok (.iadd, 1) := by decide +kernel
theorem dX12_goBack_68 : decode cX12_goBack 68 = .ok (.iaload, 1) := by decide +kernel
theorem dX12_goBack_69 : decode cX12_goBack 69 = .ok (.bipush 10, 2) := by decide +kernel
theorem dX12_goBack_71 : decode cX12_goBack 71 = .ok (.idiv, 1) := by decide +kernel
theorem dX12_goBack_72 : decode cX12_goBack 72 = .ok (.iastore, 1) := by decide +kernel
theorem dX12_goBack_73 : decode cX12_goBack 73 = .ok (.iinc 3 1, 3) := by decide +kernel
theorem dX12_goBack_76 : decode cX12_goBack 76 = .ok (.goto (-43), 3) := by decide +kernel
theorem dX12_goBack_79 : decode cX12_goBack 79 = .ok (.iconst 0, 1) := by decide +kernel
theorem dX12_goBack_80 : decode cX12_goBack 80 = .ok (.istore_n 3, 1) := by decide +kernel
theorem dX12_goBack_81 : decode cX12_goBack 81 = .ok (.iload_n 3, 1) := by decide +kernel
theorem dX12_goBack_82 : decode cX12_goBack 82 = .ok (.bipush 81, 2) := by decide +kernel
theorem dX12_goBack_84 : decode cX12_goBack 84 = .ok (.if_icmp .ge 26, 3) := by decide +kernel
theorem dX12_goBack_87 : decode cX12_goBack 87 = .ok (.aload_n 0, 1) := by decide +kernel
theorem dX12_goBack_88 : decode cX12_goBack 88 = .ok (.getfield 46, 3) := by decide +kernel
theorem dX12_goBack_91 : decode cX12_goBack 91 = .ok (.iload_n 3, 1) := by decide +kernel
theorem dX12_goBack_92 : decode cX12_goBack 92 = .ok (.aload_n 0, 1) := by decide +kernel
theorem dX12_goBack_93 : decode cX12_goBack 93 = .ok (.getfield 111, 3) := by decide +kernel
theorem dX12_goBack_96 : decode cX12_goBack 96 = .ok (.iload_n 2, 1) := by decide +kernel
theorem dX12_goBack_97 : decode cX12_goBack 97 = .ok (.bipush 10, 2) := by decide +kernel
theorem dX12_goBack_99 : decode cX12_goBack 99 = .ok (.iadd, 1) := by decide +kernel
theorem dX12_goBack_100 : decode cX12_goBack 100 = .ok (.iload_n 3, 1) := by decide +kernel
theorem dX12_goBack_101 : decode cX12_goBack 101 = .ok (.iadd, 1) := by decide +kernel
theorem dX12_goBack_102 : decode cX12_goBack 102 = .ok (.iaload, 1) := by decide +kernel
theorem dX12_goBack_103 : decode cX12_goBack 103 = .ok (.iastore, 1) := by decide +kernel
theorem dX12_goBack_104 : decode cX12_goBack 104 = .ok (.iinc 3 1, 3) := by decide +kernel
theorem dX12_goBack_107 : decode cX12_goBack 107 = .ok (.goto (-26), 3) := by decide +kernel
theorem dX12_goBack_110 : decode cX12_goBack 110 = .ok (.aload_n 0, 1) := by decide +kernel
theorem dX12_goBack_111 : decode cX12_goBack 111 = .ok (.aload_n 0, 1) := by decide +kernel
theorem dX12_goBack_112 : decode cX12_goBack 112 = .ok (.getfield 111, 3) := by decide +kernel
theorem dX12_goBack_115 : decode cX12_goBack 115 = .ok (.iload_n 2, 1) := by decide +kernel
theorem dX12_goBack_116 : decode cX12_goBack 116 = .ok (.bipush 91, 2) := by decide +kernel
theorem dX12_goBack_118 : decode cX12_goBack 118 = .ok (.iadd, 1) := by decide +kernel
theorem dX12_goBack_119 : decode cX12_goBack 119 = .ok (.iaload, 1) := by decide +kernel
theorem dX12_goBack_120 : decode cX12_goBack 120 = .ok (.putfield 332, 3) := by decide +kernel
theorem dX12_goBack_123 : decode cX12_goBack 123 = .ok (.iconst 1, 1) := by decide +kernel
theorem dX12_goBack_124 : decode cX12_goBack 124 = .ok (.ireturn, 1) := by decide +kernel
theorem dL_law_0 : decode cL_law 0 = .ok (.new 7, 3) := by decide +kernel
theorem dL_law_3 : decode cL_law 3 = .ok (.dup, 1) := by decide +kernel
theorem dL_law_4 : decode cL_law 4 = .ok (.invokespecial 9, 3) := by decide +kernel
theorem dL_law_7 : decode cL_law 7 = .ok (.astore_n 1, 1) := by decide +kernel
theorem dL_law_8 : decode cL_law 8 = .ok (.new 10, 3) := by decide +kernel
theorem dL_law_11 : decode cL_law 11 = .ok (.dup, 1) := by decide +kernel
theorem dL_law_12 : decode cL_law 12 = .ok (.invokespecial 12, 3) := by decide +kernel
theorem dL_law_15 : decode cL_law 15 = .ok (.astore_n 2, 1) := by decide +kernel
theorem dL_law_16 : decode cL_law 16 = .ok (.iconst 0, 1) := by decide +kernel
theorem dL_law_17 : decode cL_law 17 = .ok (.istore_n 3, 1) := by decide +kernel
theorem dL_law_18 : decode cL_law 18 = .ok (.iload_n 3, 1) := by decide +kernel
theorem dL_law_19 : decode cL_law 19 = .ok (.aload_n 0, 1) := by decide +kernel
theorem dL_law_20 : decode cL_law 20 = .ok (.arraylength, 1) := by decide +kernel
theorem dL_law_21 : decode cL_law 21 = .ok (.iconst 5, 1) := by decide +kernel
theorem dL_law_22 : decode cL_law 22 = .ok (.isub, 1) := by decide +kernel
theorem dL_law_23 : decode cL_law 23 = .ok (.if_icmp .gt 1100, 3) := by decide +kernel
theorem dL_law_26 : decode cL_law 26 = .ok (.aload_n 0, 1) := by decide +kernel
theorem dL_law_27 : decode cL_law 27 = .ok (.iload_n 3, 1) := by decide +kernel
theorem dL_law_28 : decode cL_law 28 = .ok (.iaload, 1) := by decide +kernel
theorem dL_law_29 : decode cL_law 29 = .ok (.bipush 31, 2) := by decide +kernel
theorem dL_law_31 : decode cL_law 31 = .ok (.iand, 1) := by decide +kernel
theorem dL_law_32 : decode cL_law 32 = .ok (.tableswitch 1085 0 30 #[140, 203, 216, 229, 252, 285, 318, 351, 394, 427, 460, 519, 562, 585, 628, 671, 714, 727, 750, 763, 802, 815, 838, 881, 904, 957, 970, 983, 1016, 1039, 1062], 140) := by decide +kernel
theorem dL_law_172 : decode cL_law 172 = .ok (.aload_n 1, 1) := by decide +kernel
theorem dL_law_173 : decode cL_law 173 = .ok (.aload_n 0, 1) := by decide +kernel
theorem dL_law_174 : decode cL_law 174 = .ok (.iload_n 3, 1) := by decide +kernel
theorem dL_law_175 : decode cL_law 175 = .ok (.iconst 1, 1) := by decide +kernel
theorem dL_law_176 : decode cL_law 176 = .ok (.iadd, 1) := by decide +kernel
theorem dL_law_177 : decode cL_law 177 = .ok (.iaload, 1) := by decide +kernel
theorem dL_law_178 : decode cL_law 178 = .ok (.aload_n 0, 1) := by decide +kernel
theorem dL_law_179 : decode cL_law 179 = .ok (.iload_n 3, 1) := by decide +kernel
theorem dL_law_180 : decode cL_law 180 = .ok (.iconst 2, 1) := by decide +kernel
theorem dL_law_181 : decode cL_law 181 = .ok (.iadd, 1) := by decide +kernel
theorem dL_law_182 : decode cL_law 182 = .ok (.iaload, 1) := by decide +kernel
theorem dL_law_183 : decode cL_law 183 = .ok (.i2l, 1) := by decide +kernel
theorem dL_law_184 : decode cL_law 184 = .ok (.bipush 32, 2) := by decide +kernel
theorem dL_law_186 : decode cL_law 186 = .ok (.lshl, 1) := by decide +kernel
theorem dL_law_187 : decode cL_law 187 = .ok (.aload_n 0, 1) := by decide +kernel
theorem dL_law_188 : decode cL_law 188 = .ok (.iload_n 3, 1) := by decide +kernel
theorem dL_law_189 : decode cL_law 189 = .ok (.iconst 3, 1) := by decide +kernel
theorem dL_law_190 : decode cL_law 190 = .ok (.iadd, 1) := by decide +kernel
theorem dL_law_191 : decode cL_law 191 = .ok (.iaload, 1) := by decide +kernel
theorem dL_law_192 : decode cL_law 192 = .ok (.i2l, 1) := by decide +kernel
theorem dL_law_193 : decode cL_law 193 = .ok (.ldc2_w 13, 3) := by decide +kernel
theorem dL_law_196 : decode cL_law 196 = .ok (.land, 1) := by decide +kernel
theorem dL_law_197 : decode cL_law 197 = .ok (.lor, 1) := by decide +kernel
theorem dL_law_198 : decode cL_law 198 = .ok (.invokevirtual 15, 3) := by decide +kernel
theorem dL_law_201 : decode cL_law 201 = .ok (.aload_n 2, 1) := by decide +kernel
theorem dL_law_202 : decode cL_law 202 = .ok (.aload_n 0, 1) := by decide +kernel
theorem dL_law_203 : decode cL_law 203 = .ok (.iload_n 3, 1) := by decide +kernel
theorem dL_law_204 : decode cL_law 204 = .ok (.iconst 1, 1) := by decide +kernel
theorem dL_law_205 : decode cL_law 205 = .ok (.iadd, 1) := by decide +kernel
theorem dL_law_206 : decode cL_law 206 = .ok (.iaload, 1) := by decide +kernel
theorem dL_law_207 : decode cL_law 207 = .ok (.aload_n 0, 1) := by decide +kernel
theorem dL_law_208 : decode cL_law 208 = .ok (.iload_n 3, 1) := by decide +kernel
theorem dL_law_209 : decode cL_law 209 = .ok (.iconst 2, 1) := by decide +kernel
theorem dL_law_210 : decode cL_law 210 = .ok (.iadd, 1) := by decide +kernel
theorem dL_law_211 : decode cL_law 211 = .ok (.iaload, 1) := by decide +kernel
theorem dL_law_212 : decode cL_law 212 = .ok (.i2l, 1) := by decide +kernel
theorem dL_law_213 : decode cL_law 213 = .ok (.bipush 32, 2) := by decide +kernel
theorem dL_law_215 : decode cL_law 215 = .ok (.lshl, 1) := by decide +kernel
theorem dL_law_216 : decode cL_law 216 = .ok (.aload_n 0, 1) := by decide +kernel
theorem dL_law_217 : decode cL_law 217 = .ok (.iload_n 3, 1) := by decide +kernel
theorem dL_law_218 : decode cL_law 218 = .ok (.iconst 3, 1) := by decide +kernel
theorem dL_law_219 : decode cL_law 219 = .ok (.iadd, 1) := by decide +kernel
theorem dL_law_220 : decode cL_law 220 = .ok (.iaload, 1) := by decide +kernel
theorem dL_law_221 : decode cL_law 221 = .ok (.i2l, 1) := by decide +kernel
theorem dL_law_222 : decode cL_law 222 = .ok (.ldc2_w 13, 3) := by decide +kernel
theorem dL_law_225 : decode cL_law 225 = .ok (.land, 1) := by decide +kernel
theorem dL_law_226 : decode cL_law 226 = .ok (.lor, 1) := by decide +kernel
theorem dL_law_227 : decode cL_law 227 = .ok (.invokevirtual 19, 3) := by decide +kernel
theorem dL_law_230 : decode cL_law 230 = .ok (.if_icmp .eq 887, 3) := by decide +kernel
theorem dL_law_233 : decode cL_law 233 = .ok (.iconst 0, 1) := by decide +kernel
theorem dL_law_234 : decode cL_law 234 = .ok (.ireturn, 1) := by decide +kernel
theorem dL_law_235 : decode cL_law 235 = .ok (.aload_n 1, 1) := by decide +kernel
theorem dL_law_236 : decode cL_law 236 = .ok (.invokevirtual 20, 3) := by decide +kernel
theorem dL_law_239 : decode cL_law 239 = .ok (.aload_n 2, 1) := by decide +kernel
theorem dL_law_240 : decode cL_law 240 = .ok (.invokevirtual 24, 3) := by decide +kernel
theorem dL_law_243 : decode cL_law 243 = .ok (.if_icmp .eq 874, 3) := by decide +kernel
theorem dL_law_246 : decode cL_law 246 = .ok (.iconst 0, 1) := by decide +kernel
theorem dL_law_247 : decode cL_law 247 = .ok (.ireturn, 1) := by decide +kernel
theorem dL_law_248 : decode cL_law 248 = .ok (.aload_n 1, 1) := by decide +kernel
theorem dL_law_249 : decode cL_law 249 = .ok (.invokevirtual 25, 3) := by decide +kernel
theorem dL_law_252 : decode cL_law 252 = .ok (.aload_n 2, 1) := by decide +kernel
theorem dL_law_253 : decode cL_law 253 = .ok (.invokevirtual 28, 3) := by decide +kernel
theorem dL_law_256 : decode cL_law 256 = .ok (.if_icmp .eq 861, 3) := by decide +kernel
theorem dL_law_259 : decode cL_law 259 = .ok (.iconst 0, 1) := by decide +kernel
theorem dL_law_260 : decode cL_law 260 = .ok (.ireturn, 1) := by decide +kernel
theorem dL_law_261 : decode cL_law 261 = .ok (.aload_n 1, 1) := by decide +kernel
theorem dL_law_262 : decode cL_law 262 = .ok (.aload_n 0, 1) := by decide +kernel
theorem dL_law_263 : decode cL_law 263 = .ok (.iload_n 3, 1) := by decide +kernel
theorem dL_law_264 : decode cL_law 264 = .ok (.iconst 1, 1) := by decide +kernel
theorem dL_law_265 : decode cL_law 265 = .ok (.iadd, 1) := by decide +kernel
theorem dL_law_266 : decode cL_law 266 = .ok (.iaload, 1) := by decide +kernel
theorem dL_law_267 : decode cL_law 267 = .ok (.invokevirtual 29, 3) := by decide +kernel
theorem dL_law_270 : decode cL_law 270 = .ok (.aload_n 2, 1) := by decide +kernel
theorem dL_law_271 : decode cL_law 271 = .ok (.aload_n 0, 1) := by decide +kernel
theorem dL_law_272 : decode cL_law 272 = .ok (.iload_n 3, 1) := by decide +kernel
theorem dL_law_273 : decode cL_law 273 = .ok (.iconst 1, 1) := by decide +kernel
theorem dL_law_274 : decode cL_law 274 = .ok (.iadd, 1) := by decide +kernel
theorem dL_law_275 : decode cL_law 275 = .ok (.iaload, 1) := by decide +kernel
theorem dL_law_276 : decode cL_law 276 = .ok (.invokevirtual 33, 3) := by decide +kernel
theorem dL_law_279 : decode cL_law 279 = .ok (.if_icmp .eq 838, 3) := by decide +kernel
theorem dL_law_282 : decode cL_law 282 = .ok (.iconst 0, 1) := by decide +kernel
theorem dL_law_283 : decode cL_law 283 = .ok (.ireturn, 1) := by decide +kernel
theorem dL_law_284 : decode cL_law 284 = .ok (.aload_n 1, 1) := by decide +kernel
theorem dL_law_285 : decode cL_law 285 = .ok (.aload_n 0, 1) := by decide +kernel
theorem dL_law_286 : decode cL_law 286 = .ok (.iload_n 3, 1) := by decide +kernel
theorem dL_law_287 : decode cL_law 287 = .ok (.iconst 1, 1) := by decide +kernel
theorem dL_law_288 : decode cL_law 288 = .ok (.iadd, 1) := by decide +kernel
theorem dL_law_289 : decode cL_law 289 = .ok (.iaload, 1) := by decide +kernel
theorem dL_law_290 : decode cL_law 290 = .ok (.aload_n 0, 1) := by decide +kernel
theorem dL_law_291 : decode cL_law 291 = .ok (.iload_n 3, 1) := by decide +kernel
theorem dL_law_292 : decode cL_law 292 = .ok (.iconst 2, 1) := by decide +kernel
theorem dL_law_293 : decode cL_law 293 = .ok (.iadd, 1) := by decide +kernel
theorem dL_law_294 : decode cL_law 294 = .ok (.iaload, 1) := by decide +kernel
theorem dL_law_295 : decode cL_law 295 = .ok (.invokevirtual 34, 3) := by decide +kernel
theorem dL_law_298 : decode cL_law 298 = .ok (.aload_n 2, 1) := by decide +kernel
theorem dL_law_299 : decode cL_law 299 = .ok (.aload_n 0, 1) := by decide +kernel
theorem dL_law_300 : decode cL_law 300 = .ok (.iload_n 3, 1) := by decide +kernel
theorem dL_law_301 : decode cL_law 301 = .ok (.iconst 1, 1) := by decide +kernel
theorem dL_law_302 : decode cL_law 302 = .ok (.iadd, 1) := by decide +kernel
theorem dL_law_303 : decode cL_law 303 = .ok (.iaload, 1) := by decide +kernel
theorem dL_law_304 : decode cL_law 304 = .ok (.aload_n 0, 1) := by decide +kernel
theorem dL_law_305 : decode cL_law 305 = .ok (.iload_n 3, 1) := by decide +kernel
theorem dL_law_306 : decode cL_law 306 = .ok (.iconst 2, 1) := by decide +kernel
theorem dL_law_307 : decode cL_law 307 = .ok (.iadd, 1) := by decide +kernel
theorem dL_law_308 : decode cL_law 308 = .ok (.iaload, 1) := by decide +kernel
theorem dL_law_309 : decode cL_law 309 = .ok (.invokevirtual 38, 3) := by decide +kernel
theorem dL_law_312 : decode cL_law 312 = .ok (.if_icmp .eq 805, 3) := by decide +kernel
theorem dL_law_315 : decode cL_law 315 = .ok (.iconst 0, 1) := by decide +kernel
theorem dL_law_316 : decode cL_law 316 = .ok (.ireturn, 1) := by decide +kernel
theorem dL_law_317 : decode cL_law 317 = .ok (.aload_n 1, 1) := by decide +kernel
theorem dL_law_318 : decode cL_law 318 = .ok (.aload_n 0, 1) := by decide +kernel
theorem dL_law_319 : decode cL_law 319 = .ok (.iload_n 3, 1) := by decide +kernel
theorem dL_law_320 : decode cL_law 320 = .ok (.iconst 1, 1) := by decide +kernel
theorem dL_law_321 : decode cL_law 321 = .ok (.iadd, 1) := by decide +kernel
theorem dL_law_322 : decode cL_law 322 = .ok (.iaload, 1) := by decide +kernel
theorem dL_law_323 : decode cL_law 323 = .ok (.aload_n 0, 1) := by decide +kernel
theorem dL_law_324 : decode cL_law 324 = .ok (.iload_n 3, 1) := by decide +kernel
theorem dL_law_325 : decode cL_law 325 = .ok (.iconst 2, 1) := by decide +kernel
theorem dL_law_326 : decode cL_law 326 = .ok (.iadd, 1) := by decide +kernel
theorem dL_law_327 : decode cL_law 327 = .ok (.iaload, 1) := by decide +kernel
theorem dL_law_328 : decode cL_law 328 = .ok (.invokevirtual 39, 3) := by decide +kernel
theorem dL_law_331 : decode cL_law 331 = .ok (.aload_n 2, 1) := by decide +kernel
theorem dL_law_332 : decode cL_law 332 = .ok (.aload_n 0, 1) := by decide +kernel
theorem dL_law_333 : decode cL_law 333 = .ok (.iload_n 3, 1) := by decide +kernel
theorem dL_law_334 : decode cL_law 334 = .ok (.iconst 1, 1) := by decide +kernel
theorem dL_law_335 : decode cL_law 335 = .ok (.iadd, 1) := by decide +kernel
theorem dL_law_336 : decode cL_law 336 = .ok (.iaload, 1) := by decide +kernel
theorem dL_law_337 : decode cL_law 337 = .ok (.aload_n 0, 1) := by decide +kernel
theorem dL_law_338 : decode cL_law 338 = .ok (.iload_n 3, 1) := by decide +kernel
theorem dL_law_339 : decode cL_law 339 = .ok (.iconst 2, 1) := by decide +kernel
theorem dL_law_340 : decode cL_law 340 = .ok (.iadd, 1) := by decide +kernel
theorem dL_law_341 : decode cL_law 341 = .ok (.iaload, 1) := by decide +kernel
theorem dL_law_342 : decode cL_law 342 = .ok (.invokevirtual 42, 3) := by decide +kernel
theorem dL_law_345 : decode cL_law 345 = .ok (.if_icmp .eq 772, 3) := by decide +kernel
theorem dL_law_348 : decode cL_law 348 = .ok (.iconst 0, 1) := by decide +kernel
theorem dL_law_349 : decode cL_law 349 = .ok (.ireturn, 1) := by decide +kernel
theorem dL_law_350 : decode cL_law 350 = .ok (.aload_n 1, 1) := by decide +kernel
theorem dL_law_351 : decode cL_law 351 = .ok (.aload_n 0, 1) := by decide +kernel
theorem dL_law_352 : decode cL_law 352 = .ok (.iload_n 3, 1) := by decide +kernel
theorem dL_law_353 : decode cL_law 353 = .ok (.iconst 1, 1) := by decide +kernel
theorem dL_law_354 : decode cL_law 354 = .ok (.iadd, 1) := by decide +kernel
theorem dL_law_355 : decode cL_law 355 = .ok (.iaload, 1) := by decide +kernel
theorem dL_law_356 : decode cL_law 356 = .ok (.aload_n 0, 1) := by decide +kernel
theorem dL_law_357 : decode cL_law 357 = .ok (.iload_n 3, 1) := by decide +kernel
theorem dL_law_358 : decode cL_law 358 = .ok (.iconst 2, 1) := by decide +kernel
theorem dL_law_359 : decode cL_law 359 = .ok (.iadd, 1) := by decide +kernel
theorem dL_law_360 : decode cL_law 360 = .ok (.iaload, 1) := by decide +kernel
theorem dL_law_361 : decode cL_law 361 = .ok (.invokevirtual 43, 3) := by decide +kernel
theorem dL_law_364 : decode cL_law 364 = .ok (.aload_n 2, 1) := by decide +kernel
theorem dL_law_365 : decode cL_law 365 = .ok (.aload_n 0, 1) := by decide +kernel
theorem dL_law_366 : decode cL_law 366 = .ok (.iload_n 3, 1) := by decide +kernel
theorem dL_law_367 : decode cL_law 367 = .ok (.iconst 1, 1) := by decide +kernel
theorem dL_law_368 : decode cL_law 368 = .ok (.iadd, 1) := by decide +kernel
theorem dL_law_369 : decode cL_law 369 = .ok (.iaload, 1) := by decide +kernel
theorem dL_law_370 : decode cL_law 370 = .ok (.aload_n 0, 1) := by decide +kernel
theorem dL_law_371 : decode cL_law 371 = .ok (.iload_n 3, 1) := by decide +kernel
theorem dL_law_372 : decode cL_law 372 = .ok (.iconst 2, 1) := by decide +kernel
theorem dL_law_373 : decode cL_law 373 = .ok (.iadd, 1) := by decide +kernel
theorem dL_law_374 : decode cL_law 374 = .ok (.iaload, 1) := by decide +kernel
theorem dL_law_375 : decode cL_law 375 = .ok (.invokevirtual 46, 3) := by decide +kernel
theorem dL_law_378 : decode cL_law 378 = .ok (.if_icmp .eq 739, 3) := by decide +kernel
theorem dL_law_381 : decode cL_law 381 = .ok (.iconst 0, 1) := by decide +kernel
theorem dL_law_382 : decode cL_law 382 = .ok (.ireturn, 1) := by decide +kernel
theorem dL_law_383 : decode cL_law 383 = .ok (.aload_n 1, 1) := by decide +kernel
theorem dL_law_384 : decode cL_law 384 = .ok (.aload_n 0, 1) := by decide +kernel
theorem dL_law_385 : decode cL_law 385 = .ok (.iload_n 3, 1) := by decide +kernel
theorem dL_law_386 : decode cL_law 386 = .ok (.iconst 1, 1) := by decide +kernel
theorem dL_law_387 : decode cL_law 387 = .ok (.iadd, 1) := by decide +kernel
theorem dL_law_388 : decode cL_law 388 = .ok (.iaload, 1) := by decide +kernel
theorem dL_law_389 : decode cL_law 389 = .ok (.aload_n 0, 1) := by decide +kernel
theorem dL_law_390 : decode cL_law 390 = .ok (.iload_n 3, 1) := by decide +kernel
theorem dL_law_391 : decode cL_law 391 = .ok (.iconst 2, 1) := by decide +kernel
theorem dL_law_392 : decode cL_law 392 = .ok (.iadd, 1) := by decide +kernel
theorem dL_law_393 : decode cL_law 393 = .ok (.iaload, 1) := by decide +kernel
theorem dL_law_394 : decode cL_law 394 = .ok (.aload_n 0, 1) := by decide +kernel
theorem dL_law_395 : decode cL_law 395 = .ok (.iload_n 3, 1) := by decide +kernel
theorem dL_law_396 : decode cL_law 396 = .ok (.iconst 3, 1) := by decide +kernel
theorem dL_law_397 : decode cL_law 397 = .ok (.iadd, 1) := by decide +kernel
theorem dL_law_398 : decode cL_law 398 = .ok (.iaload, 1) := by decide +kernel
theorem dL_law_399 : decode cL_law 399 = .ok (.invokevirtual 47, 3) := by decide +kernel
theorem dL_law_402 : decode cL_law 402 = .ok (.aload_n 2, 1) := by decide +kernel
theorem dL_law_403 : decode cL_law 403 = .ok (.aload_n 0, 1) := by decide +kernel
theorem dL_law_404 : decode cL_law 404 = .ok (.iload_n 3, 1) := by decide +kernel
theorem dL_law_405 : decode cL_law 405 = .ok (.iconst 1, 1) := by decide +kernel
theorem dL_law_406 : decode cL_law 406 = .ok (.iadd, 1) := by decide +kernel
theorem dL_law_407 : decode cL_law 407 = .ok (.iaload, 1) := by decide +kernel
theorem dL_law_408 : decode cL_law 408 = .ok (.aload_n 0, 1) := by decide +kernel
theorem dL_law_409 : decode cL_law 409 = .ok (.iload_n 3, 1) := by decide +kernel
theorem dL_law_410 : decode cL_law 410 = .ok (.iconst 2, 1) := by decide +kernel
theorem dL_law_411 : decode cL_law 411 = .ok (.iadd, 1) := by decide +kernel
theorem dL_law_412 : decode cL_law 412 = .ok (.iaload, 1) := by decide +kernel
theorem dL_law_413 : decode cL_law 413 = .ok (.aload_n 0, 1) := by decide +kernel
theorem dL_law_414 : decode cL_law 414 = .ok (.iload_n 3, 1) := by decide +kernel
theorem dL_law_415 : decode cL_law 415 = .ok (.iconst 3, 1) := by decide +kernel
theorem dL_law_416 : decode cL_law 416 = .ok (.iadd, 1) := by decide +kernel
theorem dL_law_417 : decode cL_law 417 = .ok (.iaload, 1) := by decide +kernel
theorem dL_law_418 : decode cL_law 418 = .ok (.invokevirtual 51, 3) := by decide +kernel
theorem dL_law_421 : decode cL_law 421 = .ok (.if_icmp .eq 696, 3) := by decide +kernel
theorem dL_law_424 : decode cL_law 424 = .ok (.iconst 0, 1) := by decide +kernel
theorem dL_law_425 : decode cL_law 425 = .ok (.ireturn, 1) := by decide +kernel
theorem dL_law_426 : decode cL_law 426 = .ok (.aload_n 1, 1) := by decide +kernel
theorem dL_law_427 : decode cL_law 427 = .ok (.aload_n 0, 1) := by decide +kernel
theorem dL_law_428 : decode cL_law 428 = .ok (.iload_n 3, 1) := by decide +kernel
theorem dL_law_429 : decode cL_law 429 = .ok (.iconst 1, 1) := by decide +kernel
theorem dL_law_430 : decode cL_law 430 = .ok (.iadd, 1) := by decide +kernel
theorem dL_law_431 : decode cL_law 431 = .ok (.iaload, 1) := by decide +kernel
theorem dL_law_432 : decode cL_law 432 = .ok (.aload_n 0, 1) := by decide +kernel
theorem dL_law_433 : decode cL_law 433 = .ok (.iload_n 3, 1) := by decide +kernel
theorem dL_law_434 : decode cL_law 434 = .ok (.iconst 2, 1) := by decide +kernel
theorem dL_law_435 : decode cL_law 435 = .ok (.iadd, 1) := by decide +kernel
theorem dL_law_436 : decode cL_law 436 = .ok (.iaload, 1) := by decide +kernel
theorem dL_law_437 : decode cL_law 437 = .ok (.invokevirtual 52, 3) := by decide +kernel
theorem dL_law_440 : decode cL_law 440 = .ok (.aload_n 2, 1) := by decide +kernel
theorem dL_law_441 : decode cL_law 441 = .ok (.aload_n 0, 1) := by decide +kernel
theorem dL_law_442 : decode cL_law 442 = .ok (.iload_n 3, 1) := by decide +kernel
theorem dL_law_443 : decode cL_law 443 = .ok (.iconst 1, 1) := by decide +kernel
theorem dL_law_444 : decode cL_law 444 = .ok (.iadd, 1) := by decide +kernel
theorem dL_law_445 : decode cL_law 445 = .ok (.iaload, 1) := by decide +kernel
theorem dL_law_446 : decode cL_law 446 = .ok (.aload_n 0, 1) := by decide +kernel
theorem dL_law_447 : decode cL_law 447 = .ok (.iload_n 3, 1) := by decide +kernel
theorem dL_law_448 : decode cL_law 448 = .ok (.iconst 2, 1) := by decide +kernel
theorem dL_law_449 : decode cL_law 449 = .ok (.iadd, 1) := by decide +kernel
theorem dL_law_450 : decode cL_law 450 = .ok (.iaload, 1) := by decide +kernel
theorem dL_law_451 : decode cL_law 451 = .ok (.invokevirtual 55, 3) := by decide +kernel
theorem dL_law_454 : decode cL_law 454 = .ok (.if_icmp .eq 663, 3) := by decide +kernel
theorem dL_law_457 : decode cL_law 457 = .ok (.iconst 0, 1) := by decide +kernel
theorem dL_law_458 : decode cL_law 458 = .ok (.ireturn, 1) := by decide +kernel
theorem dL_law_459 : decode cL_law 459 = .ok (.aload_n 1, 1) := by decide +kernel
theorem dL_law_460 : decode cL_law 460 = .ok (.aload_n 0, 1) := by decide +kernel
theorem dL_law_461 : decode cL_law 461 = .ok (.iload_n 3, 1) := by decide +kernel
theorem dL_law_462 : decode cL_law 462 = .ok (.iconst 1, 1) := by decide +kernel
theorem dL_law_463 : decode cL_law 463 = .ok (.iadd, 1) := by decide +kernel
theorem dL_law_464 : decode cL_law 464 = .ok (.iaload, 1) := by decide +kernel
theorem dL_law_465 : decode cL_law 465 = .ok (.aload_n 0, 1) := by decide +kernel
theorem dL_law_466 : decode cL_law 466 = .ok (.iload_n 3, 1) := by decide +kernel
theorem dL_law_467 : decode cL_law 467 = .ok (.iconst 2, 1) := by decide +kernel
theorem dL_law_468 : decode cL_law 468 = .ok (.iadd, 1) := by decide +kernel
theorem dL_law_469 : decode cL_law 469 = .ok (.iaload, 1) := by decide +kernel
theorem dL_law_470 : decode cL_law 470 = .ok (.invokevirtual 56, 3) := by decide +kernel
theorem dL_law_473 : decode cL_law 473 = .ok (.aload_n 2, 1) := by decide +kernel
theorem dL_law_474 : decode cL_law 474 = .ok (.aload_n 0, 1) := by decide +kernel
theorem dL_law_475 : decode cL_law 475 = .ok (.iload_n 3, 1) := by decide +kernel
theorem dL_law_476 : decode cL_law 476 = .ok (.iconst 1, 1) := by decide +kernel
theorem dL_law_477 : decode cL_law 477 = .ok (.iadd, 1) := by decide +kernel
theorem dL_law_478 : decode cL_law 478 = .ok (.iaload, 1) := by decide +kernel
theorem dL_law_479 : decode cL_law 479 = .ok (.aload_n 0, 1) := by decide +kernel
theorem dL_law_480 : decode cL_law 480 = .ok (.iload_n 3, 1) := by decide +kernel
theorem dL_law_481 : decode cL_law 481 = .ok (.iconst 2, 1) := by decide +kernel
theorem dL_law_482 : decode cL_law 482 = .ok (.iadd, 1) := by decide +kernel
theorem dL_law_483 : decode cL_law 483 = .ok (.iaload, 1) := by decide +kernel
theorem dL_law_484 : decode cL_law 484 = .ok (.invokevirtual 59, 3) := by decide +kernel
theorem dL_law_487 : decode cL_law 487 = .ok (.if_icmp .eq 630, 3) := by decide +kernel
theorem dL_law_490 : decode cL_law 490 = .ok (.iconst 0, 1) := by decide +kernel
theorem dL_law_491 : decode cL_law 491 = .ok (.ireturn, 1) := by decide +kernel
theorem dL_law_492 : decode cL_law 492 = .ok (.aload_n 1, 1) := by decide +kernel
theorem dL_law_493 : decode cL_law 493 = .ok (.aload_n 0, 1) := by decide +kernel
theorem dL_law_494 : decode cL_law 494 = .ok (.iload_n 3, 1) := by decide +kernel
theorem dL_law_495 : decode cL_law 495 = .ok (.iconst 1, 1) := by decide +kernel
theorem dL_law_496 : decode cL_law 496 = .ok (.iadd, 1) := by decide +kernel
theorem dL_law_497 : decode cL_law 497 = .ok (.iaload, 1) := by decide +kernel
theorem dL_law_498 : decode cL_law 498 = .ok (.aload_n 0, 1) := by decide +kernel
theorem dL_law_499 : decode cL_law 499 = .ok (.iload_n 3, 1) := by decide +kernel
theorem dL_law_500 : decode cL_law 500 = .ok (.iconst 2, 1) := by decide +kernel
theorem dL_law_501 : decode cL_law 501 = .ok (.iadd, 1) := by decide +kernel
theorem dL_law_502 : decode cL_law 502 = .ok (.iaload, 1) := by decide +kernel
theorem dL_law_503 : decode cL_law 503 = .ok (.aload_n 0, 1) := by decide +kernel
theorem dL_law_504 : decode cL_law 504 = .ok (.iload_n 3, 1) := by decide +kernel
theorem dL_law_505 : decode cL_law 505 = .ok (.iconst 3, 1) := by decide +kernel
theorem dL_law_506 : decode cL_law 506 = .ok (.iadd, 1) := by decide +kernel
theorem dL_law_507 : decode cL_law 507 = .ok (.iaload, 1) := by decide +kernel
theorem dL_law_508 : decode cL_law 508 = .ok (.ifCond .eq 7, 3) := by decide +kernel
theorem dL_law_511 : decode cL_law 511 = .ok (.iconst 1, 1) := by decide +kernel
theorem dL_law_512 : decode cL_law 512 = .ok (.goto 4, 3) := by decide +kernel
theorem dL_law_515 : decode cL_law 515 = .ok (.iconst 0, 1) := by decide +kernel
theorem dL_law_516 : decode cL_law 516 = .ok (.invokevirtual 60, 3) := by decide +kernel
theorem dL_law_519 : decode cL_law 519 = .ok (.aload_n 2, 1) := by decide +kernel
theorem dL_law_520 : decode cL_law 520 = .ok (.aload_n 0, 1) := by decide +kernel
theorem dL_law_521 : decode cL_law 521 = .ok (.iload_n 3, 1) := by decide +kernel
theorem dL_law_522 : decode cL_law 522 = .ok (.iconst 1, 1) := by decide +kernel
theorem dL_law_523 : decode cL_law 523 = .ok (.iadd, 1) := by decide +kernel
theorem dL_law_524 : decode cL_law 524 = .ok (.iaload, 1) := by decide +kernel
theorem dL_law_525 : decode cL_law 525 = .ok (.aload_n 0, 1) := by decide +kernel
theorem dL_law_526 : decode cL_law 526 = .ok (.iload_n 3, 1) := by decide +kernel
theorem dL_law_527 : decode cL_law 527 = .ok (.iconst 2, 1) := by decide +kernel
theorem dL_law_528 : decode cL_law 528 = .ok (.iadd, 1) := by decide +kernel
theorem dL_law_529 : decode cL_law 529 = .ok (.iaload, 1) := by decide +kernel
theorem dL_law_530 : decode cL_law 530 = .ok (.aload_n 0, 1) := by decide +kernel
theorem dL_law_531 : decode cL_law 531 = .ok (.iload_n 3, 1) := by decide +kernel
theorem dL_law_532 : decode cL_law 532 = .ok (.iconst 3, 1) := by decide +kernel
theorem dL_law_533 : decode cL_law 533 = .ok (.iadd, 1) := by decide +kernel
theorem dL_law_534 : decode cL_law 534 = .ok (.iaload, 1) := by decide +kernel
theorem dL_law_535 : decode cL_law 535 = .ok (.ifCond .eq 7, 3) := by decide +kernel
theorem dL_law_538 : decode cL_law 538 = .ok (.iconst 1, 1) := by decide +kernel
theorem dL_law_539 : decode cL_law 539 = .ok (.goto 4, 3) := by decide +kernel
theorem dL_law_542 : decode cL_law 542 = .ok (.iconst 0, 1) := by decide +kernel
theorem dL_law_543 : decode cL_law 543 = .ok (.invokevirtual 64, 3) := by decide +kernel
theorem dL_law_546 : decode cL_law 546 = .ok (.if_icmp .eq 571, 3) := by decide +kernel
theorem dL_law_549 : decode cL_law 549 = .ok (.iconst 0, 1) := by decide +kernel
theorem dL_law_550 : decode cL_law 550 = .ok (.ireturn, 1) := by decide +kernel
theorem dL_law_551 : decode cL_law 551 = .ok (.aload_n 1, 1) := by decide +kernel
theorem dL_law_552 : decode cL_law 552 = .ok (.aload_n 0, 1) := by decide +kernel
theorem dL_law_553 : decode cL_law 553 = .ok (.iload_n 3, 1) := by decide +kernel
theorem dL_law_554 : decode cL_law 554 = .ok (.iconst 1, 1) := by decide +kernel
theorem dL_law_555 : decode cL_law 555 = .ok (.iadd, 1) := by decide +kernel
theorem dL_law_556 : decode cL_law 556 = .ok (.iaload, 1) := by decide +kernel
theorem dL_law_557 : decode cL_law 557 = .ok (.aload_n 0, 1) := by decide +kernel
theorem dL_law_558 : decode cL_law 558 = .ok (.iload_n 3, 1) := by decide +kernel
theorem dL_law_559 : decode cL_law 559 = .ok (.iconst 2, 1) := by decide +kernel
theorem dL_law_560 : decode cL_law 560 = .ok (.iadd, 1) := by decide +kernel
theorem dL_law_561 : decode cL_law 561 = .ok (.iaload, 1) := by decide +kernel
theorem dL_law_562 : decode cL_law 562 = .ok (.aload_n 0, 1) := by decide +kernel
theorem dL_law_563 : decode cL_law 563 = .ok (.iload_n 3, 1) := by decide +kernel
theorem dL_law_564 : decode cL_law 564 = .ok (.iconst 3, 1) := by decide +kernel
theorem dL_law_565 : decode cL_law 565 = .ok (.iadd, 1) := by decide +kernel
theorem dL_law_566 : decode cL_law 566 = .ok (.iaload, 1) := by decide +kernel
theorem dL_law_567 : decode cL_law 567 = .ok (.invokevirtual 65, 3) := by decide +kernel
theorem dL_law_570 : decode cL_law 570 = .ok (.aload_n 2, 1) := by decide +kernel
theorem dL_law_571 : decode cL_law 571 = .ok (.aload_n 0, 1) := by decide +kernel
theorem dL_law_572 : decode cL_law 572 = .ok (.iload_n 3, 1) := by decide +kernel
theorem dL_law_573 : decode cL_law 573 = .ok (.iconst 1, 1) := by decide +kernel
theorem dL_law_574 : decode cL_law 574 = .ok (.iadd, 1) := by decide +kernel
theorem dL_law_575 : decode cL_law 575 = .ok (.iaload, 1) := by decide +kernel
theorem dL_law_576 : decode cL_law 576 = .ok (.aload_n 0, 1) := by decide +kernel
theorem dL_law_577 : decode cL_law 577 = .ok (.iload_n 3, 1) := by decide +kernel
theorem dL_law_578 : decode cL_law 578 = .ok (.iconst 2, 1) := by decide +kernel
theorem dL_law_579 : decode cL_law 579 = .ok (.iadd, 1) := by decide +kernel
theorem dL_law_580 : decode cL_law 580 = .ok (.iaload, 1) := by decide +kernel
theorem dL_law_581 : decode cL_law 581 = .ok (.aload_n 0, 1) := by decide +kernel
theorem dL_law_582 : decode cL_law 582 = .ok (.iload_n 3, 1) := by decide +kernel
theorem dL_law_583 : decode cL_law 583 = .ok (.iconst 3, 1) := by decide +kernel
theorem dL_law_584 : decode cL_law 584 = .ok (.iadd, 1) := by decide +kernel
theorem dL_law_585 : decode cL_law 585 = .ok (.iaload, 1) := by decide +kernel
theorem dL_law_586 : decode cL_law 586 = .ok (.invokevirtual 68, 3) := by decide +kernel
theorem dL_law_589 : decode cL_law 589 = .ok (.if_icmp .eq 528, 3) := by decide +kernel
theorem dL_law_592 : decode cL_law 592 = .ok (.iconst 0, 1) := by decide +kernel
theorem dL_law_593 : decode cL_law 593 = .ok (.ireturn, 1) := by decide +kernel
theorem dL_law_594 : decode cL_law 594 = .ok (.aload_n 1, 1) := by decide +kernel
theorem dL_law_595 : decode cL_law 595 = .ok (.aload_n 0, 1) := by decide +kernel
theorem dL_law_596 : decode cL_law 596 = .ok (.iload_n 3, 1) := by decide +kernel
theorem dL_law_597 : decode cL_law 597 = .ok (.iconst 1, 1) := by decide +kernel
theorem dL_law_598 : decode cL_law 598 = .ok (.iadd, 1) := by decide +kernel
theorem dL_law_599 : decode cL_law 599 = .ok (.iaload, 1) := by decide +kernel
theorem dL_law_600 : decode cL_law 600 = .ok (.invokevirtual 69, 3) := by decide +kernel
theorem dL_law_603 : decode cL_law 603 = .ok (.aload_n 2, 1) := by decide +kernel
theorem dL_law_604 : decode cL_law 604 = .ok (.aload_n 0, 1) := by decide +kernel
theorem dL_law_605 : decode cL_law 605 = .ok (.iload_n 3, 1) := by decide +kernel
theorem dL_law_606 : decode cL_law 606 = .ok (.iconst 1, 1) := by decide +kernel
theorem dL_law_607 : decode cL_law 607 = .ok (.iadd, 1) := by decide +kernel
theorem dL_law_608 : decode cL_law 608 = .ok (.iaload, 1) := by decide +kernel
theorem dL_law_609 : decode cL_law 609 = .ok (.invokevirtual 72, 3) := by decide +kernel
theorem dL_law_612 : decode cL_law 612 = .ok (.if_icmp .eq 505, 3) := by decide +kernel
theorem dL_law_615 : decode cL_law 615 = .ok (.iconst 0, 1) := by decide +kernel
theorem dL_law_616 : decode cL_law 616 = .ok (.ireturn, 1) := by decide +kernel
theorem dL_law_617 : decode cL_law 617 = .ok (.aload_n 1, 1) := by decide +kernel
theorem dL_law_618 : decode cL_law 618 = .ok (.aload_n 0, 1) := by decide +kernel
theorem dL_law_619 : decode cL_law 619 = .ok (.iload_n 3, 1) := by decide +kernel
theorem dL_law_620 : decode cL_law 620 = .ok (.iconst 1, 1) := by decide +kernel
theorem dL_law_621 : decode cL_law 621 = .ok (.iadd, 1) := by decide +kernel
theorem dL_law_622 : decode cL_law 622 = .ok (.iaload, 1) := by decide +kernel
theorem dL_law_623 : decode cL_law 623 = .ok (.aload_n 0, 1) := by decide +kernel
theorem dL_law_624 : decode cL_law 624 = .ok (.iload_n 3, 1) := by decide +kernel
theorem dL_law_625 : decode cL_law 625 = .ok (.iconst 2, 1) := by decide +kernel
theorem dL_law_626 : decode cL_law 626 = .ok (.iadd, 1) := by decide +kernel
theorem dL_law_627 : decode cL_law 627 = .ok (.iaload, 1) := by decide +kernel
theorem dL_law_628 : decode cL_law 628 = .ok (.aload_n 0, 1) := by decide +kernel
theorem dL_law_629 : decode cL_law 629 = .ok (.iload_n 3, 1) := by decide +kernel
theorem dL_law_630 : decode cL_law 630 = .ok (.iconst 3, 1) := by decide +kernel
theorem dL_law_631 : decode cL_law 631 = .ok (.iadd, 1) := by decide +kernel
theorem dL_law_632 : decode cL_law 632 = .ok (.iaload, 1) := by decide +kernel
theorem dL_law_633 : decode cL_law 633 = .ok (.invokevirtual 73, 3) := by decide +kernel
theorem dL_law_636 : decode cL_law 636 = .ok (.aload_n 2, 1) := by decide +kernel
theorem dL_law_637 : decode cL_law 637 = .ok (.aload_n 0, 1) := by decide +kernel
theorem dL_law_638 : decode cL_law 638 = .ok (.iload_n 3, 1) := by decide +kernel
theorem dL_law_639 : decode cL_law 639 = .ok (.iconst 1, 1) := by decide +kernel
theorem dL_law_640 : decode cL_law 640 = .ok (.iadd, 1) := by decide +kernel
theorem dL_law_641 : decode cL_law 641 = .ok (.iaload, 1) := by decide +kernel
theorem dL_law_642 : decode cL_law 642 = .ok (.aload_n 0, 1) := by decide +kernel
theorem dL_law_643 : decode cL_law 643 = .ok (.iload_n 3, 1) := by decide +kernel
theorem dL_law_644 : decode cL_law 644 = .ok (.iconst 2, 1) := by decide +kernel
theorem dL_law_645 : decode cL_law 645 = .ok (.iadd, 1) := by decide +kernel
theorem dL_law_646 : decode cL_law 646 = .ok (.iaload, 1) := by decide +kernel
theorem dL_law_647 : decode cL_law 647 = .ok (.aload_n 0, 1) := by decide +kernel
theorem dL_law_648 : decode cL_law 648 = .ok (.iload_n 3, 1) := by decide +kernel
theorem dL_law_649 : decode cL_law 649 = .ok (.iconst 3, 1) := by decide +kernel
theorem dL_law_650 : decode cL_law 650 = .ok (.iadd, 1) := by decide +kernel
theorem dL_law_651 : decode cL_law 651 = .ok (.iaload, 1) := by decide +kernel
theorem dL_law_652 : decode cL_law 652 = .ok (.invokevirtual 76, 3) := by decide +kernel
theorem dL_law_655 : decode cL_law 655 = .ok (.if_icmp .eq 462, 3) := by decide +kernel
theorem dL_law_658 : decode cL_law 658 = .ok (.iconst 0, 1) := by decide +kernel
theorem dL_law_659 : decode cL_law 659 = .ok (.ireturn, 1) := by decide +kernel
theorem dL_law_660 : decode cL_law 660 = .ok (.aload_n 1, 1) := by decide +kernel
theorem dL_law_661 : decode cL_law 661 = .ok (.aload_n 0, 1) := by decide +kernel
theorem dL_law_662 : decode cL_law 662 = .ok (.iload_n 3, 1) := by decide +kernel
theorem dL_law_663 : decode cL_law 663 = .ok (.iconst 1, 1) := by decide +kernel
theorem dL_law_664 : decode cL_law 664 = .ok (.iadd, 1) := by decide +kernel
theorem dL_law_665 : decode cL_law 665 = .ok (.iaload, 1) := by decide +kernel
theorem dL_law_666 : decode cL_law 666 = .ok (.aload_n 0, 1) := by decide +kernel
theorem dL_law_667 : decode cL_law 667 = .ok (.iload_n 3, 1) := by decide +kernel
theorem dL_law_668 : decode cL_law 668 = .ok (.iconst 2, 1) := by decide +kernel
theorem dL_law_669 : decode cL_law 669 = .ok (.iadd, 1) := by decide +kernel
theorem dL_law_670 : decode cL_law 670 = .ok (.iaload, 1) := by decide +kernel
theorem dL_law_671 : decode cL_law 671 = .ok (.aload_n 0, 1) := by decide +kernel
theorem dL_law_672 : decode cL_law 672 = .ok (.iload_n 3, 1) := by decide +kernel
theorem dL_law_673 : decode cL_law 673 = .ok (.iconst 3, 1) := by decide +kernel
theorem dL_law_674 : decode cL_law 674 = .ok (.iadd, 1) := by decide +kernel
theorem dL_law_675 : decode cL_law 675 = .ok (.iaload, 1) := by decide +kernel
theorem dL_law_676 : decode cL_law 676 = .ok (.invokevirtual 77, 3) := by decide +kernel
theorem dL_law_679 : decode cL_law 679 = .ok (.aload_n 2, 1) := by decide +kernel
theorem dL_law_680 : decode cL_law 680 = .ok (.aload_n 0, 1) := by decide +kernel
theorem dL_law_681 : decode cL_law 681 = .ok (.iload_n 3, 1) := by decide +kernel
theorem dL_law_682 : decode cL_law 682 = .ok (.iconst 1, 1) := by decide +kernel
theorem dL_law_683 : decode cL_law 683 = .ok (.iadd, 1) := by decide +kernel
theorem dL_law_684 : decode cL_law 684 = .ok (.iaload, 1) := by decide +kernel
theorem dL_law_685 : decode cL_law 685 = .ok (.aload_n 0, 1) := by decide +kernel
theorem dL_law_686 : decode cL_law 686 = .ok (.iload_n 3, 1) := by decide +kernel
theorem dL_law_687 : decode cL_law 687 = .ok (.iconst 2, 1) := by decide +kernel
theorem dL_law_688 : decode cL_law 688 = .ok (.iadd, 1) := by decide +kernel
theorem dL_law_689 : decode cL_law 689 = .ok (.iaload, 1) := by decide +kernel
theorem dL_law_690 : decode cL_law 690 = .ok (.aload_n 0, 1) := by decide +kernel
theorem dL_law_691 : decode cL_law 691 = .ok (.iload_n 3, 1) := by decide +kernel
theorem dL_law_692 : decode cL_law 692 = .ok (.iconst 3, 1) := by decide +kernel
theorem dL_law_693 : decode cL_law 693 = .ok (.iadd, 1) := by decide +kernel
theorem dL_law_694 : decode cL_law 694 = .ok (.iaload, 1) := by decide +kernel
theorem dL_law_695 : decode cL_law 695 = .ok (.invokevirtual 80, 3) := by decide +kernel
theorem dL_law_698 : decode cL_law 698 = .ok (.if_icmp .eq 419, 3) := by decide +kernel
theorem dL_law_701 : decode cL_law 701 = .ok (.iconst 0, 1) := by decide +kernel
theorem dL_law_702 : decode cL_law 702 = .ok (.ireturn, 1) := by decide +kernel
theorem dL_law_703 : decode cL_law 703 = .ok (.aload_n 1, 1) := by decide +kernel
theorem dL_law_704 : decode cL_law 704 = .ok (.aload_n 0, 1) := by decide +kernel
theorem dL_law_705 : decode cL_law 705 = .ok (.iload_n 3, 1) := by decide +kernel
theorem dL_law_706 : decode cL_law 706 = .ok (.iconst 1, 1) := by decide +kernel
theorem dL_law_707 : decode cL_law 707 = .ok (.iadd, 1) := by decide +kernel
theorem dL_law_708 : decode cL_law 708 = .ok (.iaload, 1) := by decide +kernel
theorem dL_law_709 : decode cL_law 709 = .ok (.aload_n 0, 1) := by decide +kernel
theorem dL_law_710 : decode cL_law 710 = .ok (.iload_n 3, 1) := by decide +kernel
theorem dL_law_711 : decode cL_law 711 = .ok (.iconst 2, 1) := by decide +kernel
theorem dL_law_712 : decode cL_law 712 = .ok (.iadd, 1) := by decide +kernel
theorem dL_law_713 : decode cL_law 713 = .ok (.iaload, 1) := by decide +kernel
theorem dL_law_714 : decode cL_law 714 = .ok (.aload_n 0, 1) := by decide +kernel
theorem dL_law_715 : decode cL_law 715 = .ok (.iload_n 3, 1) := by decide +kernel
theorem dL_law_716 : decode cL_law 716 = .ok (.iconst 3, 1) := by decide +kernel
theorem dL_law_717 : decode cL_law 717 = .ok (.iadd, 1) := by decide +kernel
theorem dL_law_718 : decode cL_law 718 = .ok (.iaload, 1) := by decide +kernel
theorem dL_law_719 : decode cL_law 719 = .ok (.invokevirtual 81, 3) := by decide +kernel
theorem dL_law_722 : decode cL_law 722 = .ok (.aload_n 2, 1) := by decide +kernel
theorem dL_law_723 : decode cL_law 723 = .ok (.aload_n 0, 1) := by decide +kernel
theorem dL_law_724 : decode cL_law 724 = .ok (.iload_n 3, 1) := by decide +kernel
theorem dL_law_725 : decode cL_law 725 = .ok (.iconst 1, 1) := by decide +kernel
theorem dL_law_726 : decode cL_law 726 = .ok (.iadd, 1) := by decide +kernel
theorem dL_law_727 : decode cL_law 727 = .ok (.iaload, 1) := by decide +kernel
theorem dL_law_728 : decode cL_law 728 = .ok (.aload_n 0, 1) := by decide +kernel
theorem dL_law_729 : decode cL_law 729 = .ok (.iload_n 3, 1) := by decide +kernel
theorem dL_law_730 : decode cL_law 730 = .ok (.iconst 2, 1) := by decide +kernel
theorem dL_law_731 : decode cL_law 731 = .ok (.iadd, 1) := by decide +kernel
theorem dL_law_732 : decode cL_law 732 = .ok (.iaload, 1) := by decide +kernel
theorem dL_law_733 : decode cL_law 733 = .ok (.aload_n 0, 1) := by decide +kernel
theorem dL_law_734 : decode cL_law 734 = .ok (.iload_n 3, 1) := by decide +kernel
theorem dL_law_735 : decode cL_law 735 = .ok (.iconst 3, 1) := by decide +kernel
theorem dL_law_736 : decode cL_law 736 = .ok (.iadd, 1) := by decide +kernel
theorem dL_law_737 : decode cL_law 737 = .ok (.iaload, 1) := by decide +kernel
theorem dL_law_738 : decode cL_law 738 = .ok (.invokevirtual 84, 3) := by decide +kernel
theorem dL_law_741 : decode cL_law 741 = .ok (.if_icmp .eq 376, 3) := by decide +kernel
theorem dL_law_744 : decode cL_law 744 = .ok (.iconst 0, 1) := by decide +kernel
theorem dL_law_745 : decode cL_law 745 = .ok (.ireturn, 1) := by decide +kernel
theorem dL_law_746 : decode cL_law 746 = .ok (.aload_n 1, 1) := by decide +kernel
theorem dL_law_747 : decode cL_law 747 = .ok (.invokevirtual 85, 3) := by decide +kernel
theorem dL_law_750 : decode cL_law 750 = .ok (.aload_n 2, 1) := by decide +kernel
theorem dL_law_751 : decode cL_law 751 = .ok (.invokevirtual 88, 3) := by decide +kernel
theorem dL_law_754 : decode cL_law 754 = .ok (.if_icmp .eq 363, 3) := by decide +kernel
theorem dL_law_757 : decode cL_law 757 = .ok (.iconst 0, 1) := by decide +kernel
theorem dL_law_758 : decode cL_law 758 = .ok (.ireturn, 1) := by decide +kernel
theorem dL_law_759 : decode cL_law 759 = .ok (.aload_n 1, 1) := by decide +kernel
theorem dL_law_760 : decode cL_law 760 = .ok (.aload_n 0, 1) := by decide +kernel
theorem dL_law_761 : decode cL_law 761 = .ok (.iload_n 3, 1) := by decide +kernel
theorem dL_law_762 : decode cL_law 762 = .ok (.iconst 1, 1) := by decide +kernel
theorem dL_law_763 : decode cL_law 763 = .ok (.iadd, 1) := by decide +kernel
theorem dL_law_764 : decode cL_law 764 = .ok (.iaload, 1) := by decide +kernel
theorem dL_law_765 : decode cL_law 765 = .ok (.invokevirtual 89, 3) := by decide +kernel
theorem dL_law_768 : decode cL_law 768 = .ok (.aload_n 2, 1) := by decide +kernel
theorem dL_law_769 : decode cL_law 769 = .ok (.aload_n 0, 1) := by decide +kernel
theorem dL_law_770 : decode cL_law 770 = .ok (.iload_n 3, 1) := by decide +kernel
theorem dL_law_771 : decode cL_law 771 = .ok (.iconst 1, 1) := by decide +kernel
theorem dL_law_772 : decode cL_law 772 = .ok (.iadd, 1) := by decide +kernel
theorem dL_law_773 : decode cL_law 773 = .ok (.iaload, 1) := by decide +kernel
theorem dL_law_774 : decode cL_law 774 = .ok (.invokevirtual 92, 3) := by decide +kernel
theorem dL_law_777 : decode cL_law 777 = .ok (.if_icmp .eq 340, 3) := by decide +kernel
theorem dL_law_780 : decode cL_law 780 = .ok (.iconst 0, 1) := by decide +kernel
theorem dL_law_781 : decode cL_law 781 = .ok (.ireturn, 1) := by decide +kernel
theorem dL_law_782 : decode cL_law 782 = .ok (.aload_n 1, 1) := by decide +kernel
theorem dL_law_783 : decode cL_law 783 = .ok (.invokevirtual 93, 3) := by decide +kernel
theorem dL_law_786 : decode cL_law 786 = .ok (.aload_n 2, 1) := by decide +kernel
theorem dL_law_787 : decode cL_law 787 = .ok (.invokevirtual 96, 3) := by decide +kernel
theorem dL_law_790 : decode cL_law 790 = .ok (.if_icmp .eq 327, 3) := by decide +kernel
theorem dL_law_793 : decode cL_law 793 = .ok (.iconst 0, 1) := by decide +kernel
theorem dL_law_794 : decode cL_law 794 = .ok (.ireturn, 1) := by decide +kernel
theorem dL_law_795 : decode cL_law 795 = .ok (.aload_n 1, 1) := by decide +kernel
theorem dL_law_796 : decode cL_law 796 = .ok (.aload_n 0, 1) := by decide +kernel
theorem dL_law_797 : decode cL_law 797 = .ok (.iload_n 3, 1) := by decide +kernel
theorem dL_law_798 : decode cL_law 798 = .ok (.iconst 1, 1) := by decide +kernel
theorem dL_law_799 : decode cL_law 799 = .ok (.iadd, 1) := by decide +kernel
theorem dL_law_800 : decode cL_law 800 = .ok (.iaload, 1) := by decide +kernel
theorem dL_law_801 : decode cL_law 801 = .ok (.ifCond .eq 7, 3) := by decide +kernel
theorem dL_law_804 : decode cL_law 804 = .ok (.iconst 1, 1) := by decide +kernel
theorem dL_law_805 : decode cL_law 805 = .ok (.goto 4, 3) := by decide +kernel
theorem dL_law_808 : decode cL_law 808 = .ok (.iconst 0, 1) := by decide +kernel
theorem dL_law_809 : decode cL_law 809 = .ok (.invokevirtual 97, 3) := by decide +kernel
theorem dL_law_812 : decode cL_law 812 = .ok (.aload_n 2, 1) := by decide +kernel
theorem dL_law_813 : decode cL_law 813 = .ok (.aload_n 0, 1) := by decide +kernel
theorem dL_law_814 : decode cL_law 814 = .ok (.iload_n 3, 1) := by decide +kernel
theorem dL_law_815 : decode cL_law 815 = .ok (.iconst 1, 1) := by decide +kernel
theorem dL_law_816 : decode cL_law 816 = .ok (.iadd, 1) := by decide +kernel
theorem dL_law_817 : decode cL_law 817 = .ok (.iaload, 1) := by decide +kernel
theorem dL_law_818 : decode cL_law 818 = .ok (.ifCond .eq 7, 3) := by decide +kernel
theorem dL_law_821 : decode cL_law 821 = .ok (.iconst 1, 1) := by decide +kernel
theorem dL_law_822 : decode cL_law 822 = .ok (.goto 4, 3) := by decide +kernel
theorem dL_law_825 : decode cL_law 825 = .ok (.iconst 0, 1) := by decide +kernel
theorem dL_law_826 : decode cL_law 826 = .ok (.invokevirtual 101, 3) := by decide +kernel
theorem dL_law_829 : decode cL_law 829 = .ok (.if_icmp .eq 288, 3) := by decide +kernel
theorem dL_law_832 : decode cL_law 832 = .ok (.iconst 0, 1) := by decide +kernel
theorem dL_law_833 : decode cL_law 833 = .ok (.ireturn, 1) := by decide +kernel
theorem dL_law_834 : decode cL_law 834 = .ok (.aload_n 1, 1) := by decide +kernel
theorem dL_law_835 : decode cL_law 835 = .ok (.invokevirtual 102, 3) := by decide +kernel
theorem dL_law_838 : decode cL_law 838 = .ok (.aload_n 2, 1) := by decide +kernel
theorem dL_law_839 : decode cL_law 839 = .ok (.invokevirtual 105, 3) := by decide +kernel
theorem dL_law_842 : decode cL_law 842 = .ok (.if_icmp .eq 275, 3) := by decide +kernel
theorem dL_law_845 : decode cL_law 845 = .ok (.iconst 0, 1) := by decide +kernel
theorem dL_law_846 : decode cL_law 846 = .ok (.ireturn, 1) := by decide +kernel
theorem dL_law_847 : decode cL_law 847 = .ok (.aload_n 1, 1) := by decide +kernel
theorem dL_law_848 : decode cL_law 848 = .ok (.aload_n 0, 1) := by decide +kernel
theorem dL_law_849 : decode cL_law 849 = .ok (.iload_n 3, 1) := by decide +kernel
theorem dL_law_850 : decode cL_law 850 = .ok (.iconst 1, 1) := by decide +kernel
theorem dL_law_851 : decode cL_law 851 = .ok (.iadd, 1) := by decide +kernel
theorem dL_law_852 : decode cL_law 852 = .ok (.iaload, 1) := by decide +kernel
theorem dL_law_853 : decode cL_law 853 = .ok (.invokevirtual 106, 3) := by decide +kernel
theorem dL_law_856 : decode cL_law 856 = .ok (.aload_n 2, 1) := by decide +kernel
theorem dL_law_857 : decode cL_law 857 = .ok (.aload_n 0, 1) := by decide +kernel
theorem dL_law_858 : decode cL_law 858 = .ok (.iload_n 3, 1) := by decide +kernel
theorem dL_law_859 : decode cL_law 859 = .ok (.iconst 1, 1) := by decide +kernel
theorem dL_law_860 : decode cL_law 860 = .ok (.iadd, 1) := by decide +kernel
theorem dL_law_861 : decode cL_law 861 = .ok (.iaload, 1) := by decide +kernel
theorem dL_law_862 : decode cL_law 862 = .ok (.invokevirtual 109, 3) := by decide +kernel
theorem dL_law_865 : decode cL_law 865 = .ok (.if_icmp .eq 252, 3) := by decide +kernel
theorem dL_law_868 : decode cL_law 868 = .ok (.iconst 0, 1) := by decide +kernel
theorem dL_law_869 : decode cL_law 869 = .ok (.ireturn, 1) := by decide +kernel
theorem dL_law_870 : decode cL_law 870 = .ok (.aload_n 1, 1) := by decide +kernel
theorem dL_law_871 : decode cL_law 871 = .ok (.aload_n 0, 1) := by decide +kernel
theorem dL_law_872 : decode cL_law 872 = .ok (.iload_n 3, 1) := by decide +kernel
theorem dL_law_873 : decode cL_law 873 = .ok (.iconst 1, 1) := by decide +kernel
theorem dL_law_874 : decode cL_law 874 = .ok (.iadd, 1) := by decide +kernel
theorem dL_law_875 : decode cL_law 875 = .ok (.iaload, 1) := by decide +kernel
theorem dL_law_876 : decode cL_law 876 = .ok (.aload_n 0, 1) := by decide +kernel
theorem dL_law_877 : decode cL_law 877 = .ok (.iload_n 3, 1) := by decide +kernel
theorem dL_law_878 : decode cL_law 878 = .ok (.iconst 2, 1) := by decide +kernel
theorem dL_law_879 : decode cL_law 879 = .ok (.iadd, 1) := by decide +kernel
theorem dL_law_880 : decode cL_law 880 = .ok (.iaload, 1) := by decide +kernel
theorem dL_law_881 : decode cL_law 881 = .ok (.aload_n 0, 1) := by decide +kernel
theorem dL_law_882 : decode cL_law 882 = .ok (.iload_n 3, 1) := by decide +kernel
theorem dL_law_883 : decode cL_law 883 = .ok (.iconst 3, 1) := by decide +kernel
theorem dL_law_884 : decode cL_law 884 = .ok (.iadd, 1) := by decide +kernel
theorem dL_law_885 : decode cL_law 885 = .ok (.iaload, 1) := by decide +kernel
theorem dL_law_886 : decode cL_law 886 = .ok (.invokevirtual 110, 3) := by decide +kernel
theorem dL_law_889 : decode cL_law 889 = .ok (.aload_n 2, 1) := by decide +kernel
theorem dL_law_890 : decode cL_law 890 = .ok (.aload_n 0, 1) := by decide +kernel
theorem dL_law_891 : decode cL_law 891 = .ok (.iload_n 3, 1) := by decide +kernel
theorem dL_law_892 : decode cL_law 892 = .ok (.iconst 1, 1) := by decide +kernel
theorem dL_law_893 : decode cL_law 893 = .ok (.iadd, 1) := by decide +kernel
theorem dL_law_894 : decode cL_law 894 = .ok (.iaload, 1) := by decide +kernel
theorem dL_law_895 : decode cL_law 895 = .ok (.aload_n 0, 1) := by decide +kernel
theorem dL_law_896 : decode cL_law 896 = .ok (.iload_n 3, 1) := by decide +kernel
theorem dL_law_897 : decode cL_law 897 = .ok (.iconst 2, 1) := by decide +kernel
theorem dL_law_898 : decode cL_law 898 = .ok (.iadd, 1) := by decide +kernel
theorem dL_law_899 : decode cL_law 899 = .ok (.iaload, 1) := by decide +kernel
theorem dL_law_900 : decode cL_law 900 = .ok (.aload_n 0, 1) := by decide +kernel
theorem dL_law_901 : decode cL_law 901 = .ok (.iload_n 3, 1) := by decide +kernel
theorem dL_law_902 : decode cL_law 902 = .ok (.iconst 3, 1) := by decide +kernel
theorem dL_law_903 : decode cL_law 903 = .ok (.iadd, 1) := by decide +kernel
theorem dL_law_904 : decode cL_law 904 = .ok (.iaload, 1) := by decide +kernel
theorem dL_law_905 : decode cL_law 905 = .ok (.invokevirtual 113, 3) := by decide +kernel
theorem dL_law_908 : decode cL_law 908 = .ok (.if_icmp .eq 209, 3) := by decide +kernel
theorem dL_law_911 : decode cL_law 911 = .ok (.iconst 0, 1) := by decide +kernel
theorem dL_law_912 : decode cL_law 912 = .ok (.ireturn, 1) := by decide +kernel
theorem dL_law_913 : decode cL_law 913 = .ok (.aload_n 1, 1) := by decide +kernel
theorem dL_law_914 : decode cL_law 914 = .ok (.aload_n 0, 1) := by decide +kernel
theorem dL_law_915 : decode cL_law 915 = .ok (.iload_n 3, 1) := by decide +kernel
theorem dL_law_916 : decode cL_law 916 = .ok (.iconst 1, 1) := by decide +kernel
theorem dL_law_917 : decode cL_law 917 = .ok (.iadd, 1) := by decide +kernel
theorem dL_law_918 : decode cL_law 918 = .ok (.iaload, 1) := by decide +kernel
theorem dL_law_919 : decode cL_law 919 = .ok (.invokevirtual 114, 3) := by decide +kernel
theorem dL_law_922 : decode cL_law 922 = .ok (.aload_n 2, 1) := by decide +kernel
theorem dL_law_923 : decode cL_law 923 = .ok (.aload_n 0, 1) := by decide +kernel
theorem dL_law_924 : decode cL_law 924 = .ok (.iload_n 3, 1) := by decide +kernel
theorem dL_law_925 : decode cL_law 925 = .ok (.iconst 1, 1) := by decide +kernel
theorem dL_law_926 : decode cL_law 926 = .ok (.iadd, 1) := by decide +kernel
theorem dL_law_927 : decode cL_law 927 = .ok (.iaload, 1) := by decide +kernel
theorem dL_law_928 : decode cL_law 928 = .ok (.invokevirtual 117, 3) := by decide +kernel
theorem dL_law_931 : decode cL_law 931 = .ok (.if_icmp .eq 186, 3) := by decide +kernel
theorem dL_law_934 : decode cL_law 934 = .ok (.iconst 0, 1) := by decide +kernel
theorem dL_law_935 : decode cL_law 935 = .ok (.ireturn, 1) := by decide +kernel
theorem dL_law_936 : decode cL_law 936 = .ok (.aload_n 1, 1) := by decide +kernel
theorem dL_law_937 : decode cL_law 937 = .ok (.aload_n 0, 1) := by decide +kernel
theorem dL_law_938 : decode cL_law 938 = .ok (.iload_n 3, 1) := by decide +kernel
theorem dL_law_939 : decode cL_law 939 = .ok (.iconst 1, 1) := by decide +kernel
theorem dL_law_940 : decode cL_law 940 = .ok (.iadd, 1) := by decide +kernel
theorem dL_law_941 : decode cL_law 941 = .ok (.iaload, 1) := by decide +kernel
theorem dL_law_942 : decode cL_law 942 = .ok (.aload_n 0, 1) := by decide +kernel
theorem dL_law_943 : decode cL_law 943 = .ok (.iload_n 3, 1) := by decide +kernel
theorem dL_law_944 : decode cL_law 944 = .ok (.iconst 2, 1) := by decide +kernel
theorem dL_law_945 : decode cL_law 945 = .ok (.iadd, 1) := by decide +kernel
theorem dL_law_946 : decode cL_law 946 = .ok (.iaload, 1) := by decide +kernel
theorem dL_law_947 : decode cL_law 947 = .ok (.aload_n 0, 1) := by decide +kernel
theorem dL_law_948 : decode cL_law 948 = .ok (.iload_n 3, 1) := by decide +kernel
theorem dL_law_949 : decode cL_law 949 = .ok (.iconst 3, 1) := by decide +kernel
theorem dL_law_950 : decode cL_law 950 = .ok (.iadd, 1) := by decide +kernel
theorem dL_law_951 : decode cL_law 951 = .ok (.iaload, 1) := by decide +kernel
theorem dL_law_952 : decode cL_law 952 = .ok (.aload_n 0, 1) := by decide +kernel
theorem dL_law_953 : decode cL_law 953 = .ok (.iload_n 3, 1) := by decide +kernel
theorem dL_law_954 : decode cL_law 954 = .ok (.iconst 4, 1) := by decide +kernel
theorem dL_law_955 : decode cL_law 955 = .ok (.iadd, 1) := by decide +kernel
theorem dL_law_956 : decode cL_law 956 = .ok (.iaload, 1) := by decide +kernel
theorem dL_law_957 : decode cL_law 957 = .ok (.invokevirtual 118, 3) := by decide +kernel
theorem dL_law_960 : decode cL_law 960 = .ok (.aload_n 2, 1) := by decide +kernel
theorem dL_law_961 : decode cL_law 961 = .ok (.aload_n 0, 1) := by decide +kernel
theorem dL_law_962 : decode cL_law 962 = .ok (.iload_n 3, 1) := by decide +kernel
theorem dL_law_963 : decode cL_law 963 = .ok (.iconst 1, 1) := by decide +kernel
theorem dL_law_964 : decode cL_law 964 = .ok (.iadd, 1) := by decide +kernel
theorem dL_law_965 : decode cL_law 965 = .ok (.iaload, 1) := by decide +kernel
theorem dL_law_966 : decode cL_law 966 = .ok (.aload_n 0, 1) := by decide +kernel
theorem dL_law_967 : decode cL_law 967 = .ok (.iload_n 3, 1) := by decide +kernel
theorem dL_law_968 : decode cL_law 968 = .ok (.iconst 2, 1) := by decide +kernel
theorem dL_law_969 : decode cL_law 969 = .ok (.iadd, 1) := by decide +kernel
theorem dL_law_970 : decode cL_law 970 = .ok (.iaload, 1) := by decide +kernel
theorem dL_law_971 : decode cL_law 971 = .ok (.aload_n 0, 1) := by decide +kernel
theorem dL_law_972 : decode cL_law 972 = .ok (.iload_n 3, 1) := by decide +kernel
theorem dL_law_973 : decode cL_law 973 = .ok (.iconst 3, 1) := by decide +kernel
theorem dL_law_974 : decode cL_law 974 = .ok (.iadd, 1) := by decide +kernel
theorem dL_law_975 : decode cL_law 975 = .ok (.iaload, 1) := by decide +kernel
theorem dL_law_976 : decode cL_law 976 = .ok (.aload_n 0, 1) := by decide +kernel
theorem dL_law_977 : decode cL_law 977 = .ok (.iload_n 3, 1) := by decide +kernel
theorem dL_law_978 : decode cL_law 978 = .ok (.iconst 4, 1) := by decide +kernel
theorem dL_law_979 : decode cL_law 979 = .ok (.iadd, 1) := by decide +kernel
theorem dL_law_980 : decode cL_law 980 = .ok (.iaload, 1) := by decide +kernel
theorem dL_law_981 : decode cL_law 981 = .ok (.invokevirtual 122, 3) := by decide +kernel
theorem dL_law_984 : decode cL_law 984 = .ok (.if_icmp .eq 133, 3) := by decide +kernel
theorem dL_law_987 : decode cL_law 987 = .ok (.iconst 0, 1) := by decide +kernel
theorem dL_law_988 : decode cL_law 988 = .ok (.ireturn, 1) := by decide +kernel
theorem dL_law_989 : decode cL_law 989 = .ok (.aload_n 1, 1) := by decide +kernel
theorem dL_law_990 : decode cL_law 990 = .ok (.invokevirtual 123, 3) := by decide +kernel
theorem dL_law_993 : decode cL_law 993 = .ok (.aload_n 2, 1) := by decide +kernel
theorem dL_law_994 : decode cL_law 994 = .ok (.invokevirtual 126, 3) := by decide +kernel
theorem dL_law_997 : decode cL_law 997 = .ok (.if_icmp .eq 120, 3) := by decide +kernel
theorem dL_law_1000 : decode cL_law 1000 = .ok (.iconst 0, 1) := by decide +kernel
theorem dL_law_1001 : decode cL_law 1001 = .ok (.ireturn, 1) := by decide +kernel
theorem dL_law_1002 : decode cL_law 1002 = .ok (.aload_n 1, 1) := by decide +kernel
theorem dL_law_1003 : decode cL_law 1003 = .ok (.invokevirtual 127, 3) := by decide +kernel
theorem dL_law_1006 : decode cL_law 1006 = .ok (.aload_n 2, 1) := by decide +kernel
theorem dL_law_1007 : decode cL_law 1007 = .ok (.invokevirtual 130, 3) := by decide +kernel
theorem dL_law_1010 : decode cL_law 1010 = .ok (.if_icmp .eq 107, 3) := by decide +kernel
theorem dL_law_1013 : decode cL_law 1013 = .ok (.iconst 0, 1) := by decide +kernel
theorem dL_law_1014 : decode cL_law 1014 = .ok (.ireturn, 1) := by decide +kernel
theorem dL_law_1015 : decode cL_law 1015 = .ok (.aload_n 1, 1) := by decide +kernel
theorem dL_law_1016 : decode cL_law 1016 = .ok (.aload_n 0, 1) := by decide +kernel
theorem dL_law_1017 : decode cL_law 1017 = .ok (.iload_n 3, 1) := by decide +kernel
theorem dL_law_1018 : decode cL_law 1018 = .ok (.iconst 1, 1) := by decide +kernel
theorem dL_law_1019 : decode cL_law 1019 = .ok (.iadd, 1) := by decide +kernel
theorem dL_law_1020 : decode cL_law 1020 = .ok (.iaload, 1) := by decide +kernel
theorem dL_law_1021 : decode cL_law 1021 = .ok (.aload_n 0, 1) := by decide +kernel
theorem dL_law_1022 : decode cL_law 1022 = .ok (.iload_n 3, 1) := by decide +kernel
theorem dL_law_1023 : decode cL_law 1023 = .ok (.iconst 2, 1) := by decide +kernel
theorem dL_law_1024 : decode cL_law 1024 = .ok (.iadd, 1) := by decide +kernel
theorem dL_law_1025 : decode cL_law 1025 = .ok (.iaload, 1) := by decide +kernel
theorem dL_law_1026 : decode cL_law 1026 = .ok (.invokevirtual 131, 3) := by decide +kernel
theorem dL_law_1029 : decode cL_law 1029 = .ok (.aload_n 2, 1) := by decide +kernel
theorem dL_law_1030 : decode cL_law 1030 = .ok (.aload_n 0, 1) := by decide +kernel
theorem dL_law_1031 : decode cL_law 1031 = .ok (.iload_n 3, 1) := by decide +kernel
theorem dL_law_1032 : decode cL_law 1032 = .ok (.iconst 1, 1) := by decide +kernel
theorem dL_law_1033 : decode cL_law 1033 = .ok (.iadd, 1) := by decide +kernel
theorem dL_law_1034 : decode cL_law 1034 = .ok (.iaload, 1) := by decide +kernel
theorem dL_law_1035 : decode cL_law 1035 = .ok (.aload_n 0, 1) := by decide +kernel
theorem dL_law_1036 : decode cL_law 1036 = .ok (.iload_n 3, 1) := by decide +kernel
theorem dL_law_1037 : decode cL_law 1037 = .ok (.iconst 2, 1) := by decide +kernel
theorem dL_law_1038 : decode cL_law 1038 = .ok (.iadd, 1) := by decide +kernel
theorem dL_law_1039 : decode cL_law 1039 = .ok (.iaload, 1) := by decide +kernel
theorem dL_law_1040 : decode cL_law 1040 = .ok (.invokevirtual 134, 3) := by decide +kernel
theorem dL_law_1043 : decode cL_law 1043 = .ok (.if_icmp .eq 74, 3) := by decide +kernel
theorem dL_law_1046 : decode cL_law 1046 = .ok (.iconst 0, 1) := by decide +kernel
theorem dL_law_1047 : decode cL_law 1047 = .ok (.ireturn, 1) := by decide +kernel
theorem dL_law_1048 : decode cL_law 1048 = .ok (.aload_n 1, 1) := by decide +kernel
theorem dL_law_1049 : decode cL_law 1049 = .ok (.aload_n 0, 1) := by decide +kernel
theorem dL_law_1050 : decode cL_law 1050 = .ok (.iload_n 3, 1) := by decide +kernel
theorem dL_law_1051 : decode cL_law 1051 = .ok (.iconst 1, 1) := by decide +kernel
theorem dL_law_1052 : decode cL_law 1052 = .ok (.iadd, 1) := by decide +kernel
theorem dL_law_1053 : decode cL_law 1053 = .ok (.iaload, 1) := by decide +kernel
theorem dL_law_1054 : decode cL_law 1054 = .ok (.invokevirtual 135, 3) := by decide +kernel
theorem dL_law_1057 : decode cL_law 1057 = .ok (.aload_n 2, 1) := by decide +kernel
theorem dL_law_1058 : decode cL_law 1058 = .ok (.aload_n 0, 1) := by decide +kernel
theorem dL_law_1059 : decode cL_law 1059 = .ok (.iload_n 3, 1) := by decide +kernel
theorem dL_law_1060 : decode cL_law 1060 = .ok (.iconst 1, 1) := by decide +kernel
theorem dL_law_1061 : decode cL_law 1061 = .ok (.iadd, 1) := by decide +kernel
theorem dL_law_1062 : decode cL_law 1062 = .ok (.iaload, 1) := by decide +kernel
theorem dL_law_1063 : decode cL_law 1063 = .ok (.invokevirtual 138, 3) := by decide +kernel
theorem dL_law_1066 : decode cL_law 1066 = .ok (.if_icmp .eq 51, 3) := by decide +kernel
theorem dL_law_1069 : decode cL_law 1069 = .ok (.iconst 0, 1) := by decide +kernel
theorem dL_law_1070 : decode cL_law 1070 = .ok (.ireturn, 1) := by decide +kernel
theorem dL_law_1071 : decode cL_law 1071 = .ok (.aload_n 1, 1) := by decide +kernel
theorem dL_law_1072 : decode cL_law 1072 = .ok (.aload_n 0, 1) := by decide +kernel
theorem dL_law_1073 : decode cL_law 1073 = .ok (.iload_n 3, 1) := by decide +kernel
theorem dL_law_1074 : decode cL_law 1074 = .ok (.iconst 1, 1) := by decide +kernel
theorem dL_law_1075 : decode cL_law 1075 = .ok (.iadd, 1) := by decide +kernel
theorem dL_law_1076 : decode cL_law 1076 = .ok (.iaload, 1) := by decide +kernel
theorem dL_law_1077 : decode cL_law 1077 = .ok (.invokevirtual 139, 3) := by decide +kernel
theorem dL_law_1080 : decode cL_law 1080 = .ok (.aload_n 2, 1) := by decide +kernel
theorem dL_law_1081 : decode cL_law 1081 = .ok (.aload_n 0, 1) := by decide +kernel
theorem dL_law_1082 : decode cL_law 1082 = .ok (.iload_n 3, 1) := by decide +kernel
theorem dL_law_1083 : decode cL_law 1083 = .ok (.iconst 1, 1) := by decide +kernel
theorem dL_law_1084 : decode cL_law 1084 = .ok (.iadd, 1) := by decide +kernel
theorem dL_law_1085 : decode cL_law 1085 = .ok (.iaload, 1) := by decide +kernel
theorem dL_law_1086 : decode cL_law 1086 = .ok (.invokevirtual 142, 3) := by decide +kernel
theorem dL_law_1089 : decode cL_law 1089 = .ok (.if_icmp .eq 28, 3) := by decide +kernel
theorem dL_law_1092 : decode cL_law 1092 = .ok (.iconst 0, 1) := by decide +kernel
theorem dL_law_1093 : decode cL_law 1093 = .ok (.ireturn, 1) := by decide +kernel
theorem dL_law_1094 : decode cL_law 1094 = .ok (.aload_n 1, 1) := by decide +kernel
theorem dL_law_1095 : decode cL_law 1095 = .ok (.aload_n 0, 1) := by decide +kernel
theorem dL_law_1096 : decode cL_law 1096 = .ok (.iload_n 3, 1) := by decide +kernel
theorem dL_law_1097 : decode cL_law 1097 = .ok (.iconst 1, 1) := by decide +kernel
theorem dL_law_1098 : decode cL_law 1098 = .ok (.iadd, 1) := by decide +kernel
theorem dL_law_1099 : decode cL_law 1099 = .ok (.iaload, 1) := by decide +kernel
theorem dL_law_1100 : decode cL_law 1100 = .ok (.invokevirtual 143, 3) := by decide +kernel
theorem dL_law_1103 : decode cL_law 1103 = .ok (.aload_n 2, 1) := by decide +kernel
theorem dL_law_1104 : decode cL_law 1104 = .ok (.aload_n 0, 1) := by decide +kernel
theorem dL_law_1105 : decode cL_law 1105 = .ok (.iload_n 3, 1) := by decide +kernel
theorem dL_law_1106 : decode cL_law 1106 = .ok (.iconst 1, 1) := by decide +kernel
theorem dL_law_1107 : decode cL_law 1107 = .ok (.iadd, 1) := by decide +kernel
theorem dL_law_1108 : decode cL_law 1108 = .ok (.iaload, 1) := by decide +kernel
theorem dL_law_1109 : decode cL_law 1109 = .ok (.invokevirtual 146, 3) := by decide +kernel
theorem dL_law_1112 : decode cL_law 1112 = .ok (.if_icmp .eq 5, 3) := by decide +kernel
theorem dL_law_1115 : decode cL_law 1115 = .ok (.iconst 0, 1) := by decide +kernel
theorem dL_law_1116 : decode cL_law 1116 = .ok (.ireturn, 1) := by decide +kernel
theorem dL_law_1117 : decode cL_law 1117 = .ok (.iinc 3 5, 3) := by decide +kernel
theorem dL_law_1120 : decode cL_law 1120 = .ok (.goto (-1102), 3) := by decide +kernel
theorem dL_law_1123 : decode cL_law 1123 = .ok (.iconst 1, 1) := by decide +kernel
theorem dL_law_1124 : decode cL_law 1124 = .ok (.ireturn, 1) := by decide +kernel
