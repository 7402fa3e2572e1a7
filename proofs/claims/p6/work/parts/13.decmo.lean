theorem dMo_init_0 : decode cMo_init 0 = .ok (.aload_n 0, 1) := by decide +kernel
theorem dMo_init_1 : decode cMo_init 1 = .ok (.invokespecial 1, 3) := by decide +kernel
theorem dMo_init_4 : decode cMo_init 4 = .ok (.aload_n 0, 1) := by decide +kernel
theorem dMo_init_5 : decode cMo_init 5 = .ok (.iconst (-1), 1) := by decide +kernel
theorem dMo_init_6 : decode cMo_init 6 = .ok (.putfield 7, 3) := by decide +kernel
theorem dMo_init_9 : decode cMo_init 9 = .ok (.aload_n 0, 1) := by decide +kernel
theorem dMo_init_10 : decode cMo_init 10 = .ok (.sipush 8000, 3) := by decide +kernel
theorem dMo_init_13 : decode cMo_init 13 = .ok (.putfield 13, 3) := by decide +kernel
theorem dMo_init_16 : decode cMo_init 16 = .ok (.aload_n 0, 1) := by decide +kernel
theorem dMo_init_17 : decode cMo_init 17 = .ok (.iconst 2, 1) := by decide +kernel
theorem dMo_init_18 : decode cMo_init 18 = .ok (.putfield 16, 3) := by decide +kernel
theorem dMo_init_21 : decode cMo_init 21 = .ok (.aload_n 0, 1) := by decide +kernel
theorem dMo_init_22 : decode cMo_init 22 = .ok (.ldc2_w 19, 3) := by decide +kernel
theorem dMo_init_25 : decode cMo_init 25 = .ok (.putfield 21, 3) := by decide +kernel
theorem dMo_init_28 : decode cMo_init 28 = .ok (.aload_n 0, 1) := by decide +kernel
theorem dMo_init_29 : decode cMo_init 29 = .ok (.ldc2_w 25, 3) := by decide +kernel
theorem dMo_init_32 : decode cMo_init 32 = .ok (.putfield 27, 3) := by decide +kernel
theorem dMo_init_35 : decode cMo_init 35 = .ok (.aload_n 0, 1) := by decide +kernel
theorem dMo_init_36 : decode cMo_init 36 = .ok (.sipush 400, 3) := by decide +kernel
theorem dMo_init_39 : decode cMo_init 39 = .ok (.newarray .int, 2) := by decide +kernel
theorem dMo_init_41 : decode cMo_init 41 = .ok (.putfield 30, 3) := by decide +kernel
theorem dMo_init_44 : decode cMo_init 44 = .ok (.aload_n 0, 1) := by decide +kernel
theorem dMo_init_45 : decode cMo_init 45 = .ok (.bipush 6, 2) := by decide +kernel
theorem dMo_init_47 : decode cMo_init 47 = .ok (.newarray .int, 2) := by decide +kernel
theorem dMo_init_49 : decode cMo_init 49 = .ok (.putfield 34, 3) := by decide +kernel
theorem dMo_init_52 : decode cMo_init 52 = .ok (.aload_n 0, 1) := by decide +kernel
theorem dMo_init_53 : decode cMo_init 53 = .ok (.bipush 6, 2) := by decide +kernel
theorem dMo_init_55 : decode cMo_init 55 = .ok (.newarray .int, 2) := by decide +kernel
theorem dMo_init_57 : decode cMo_init 57 = .ok (.putfield 37, 3) := by decide +kernel
theorem dMo_init_60 : decode cMo_init 60 = .ok (.aload_n 0, 1) := by decide +kernel
theorem dMo_init_61 : decode cMo_init 61 = .ok (.bipush 20, 2) := by decide +kernel
theorem dMo_init_63 : decode cMo_init 63 = .ok (.newarray .int, 2) := by decide +kernel
theorem dMo_init_65 : decode cMo_init 65 = .ok (.putfield 40, 3) := by decide +kernel
theorem dMo_init_68 : decode cMo_init 68 = .ok (.aload_n 0, 1) := by decide +kernel
theorem dMo_init_69 : decode cMo_init 69 = .ok (.bipush 20, 2) := by decide +kernel
theorem dMo_init_71 : decode cMo_init 71 = .ok (.newarray .int, 2) := by decide +kernel
theorem dMo_init_73 : decode cMo_init 73 = .ok (.putfield 43, 3) := by decide +kernel
theorem dMo_init_76 : decode cMo_init 76 = .ok (.aload_n 0, 1) := by decide +kernel
theorem dMo_init_77 : decode cMo_init 77 = .ok (.bipush 20, 2) := by decide +kernel
theorem dMo_init_79 : decode cMo_init 79 = .ok (.newarray .int, 2) := by decide +kernel
theorem dMo_init_81 : decode cMo_init 81 = .ok (.putfield 46, 3) := by decide +kernel
theorem dMo_init_84 : decode cMo_init 84 = .ok (.aload_n 0, 1) := by decide +kernel
theorem dMo_init_85 : decode cMo_init 85 = .ok (.bipush 20, 2) := by decide +kernel
theorem dMo_init_87 : decode cMo_init 87 = .ok (.newarray .int, 2) := by decide +kernel
theorem dMo_init_89 : decode cMo_init 89 = .ok (.putfield 49, 3) := by decide +kernel
theorem dMo_init_92 : decode cMo_init 92 = .ok (.aload_n 0, 1) := by decide +kernel
theorem dMo_init_93 : decode cMo_init 93 = .ok (.sipush 320, 3) := by decide +kernel
theorem dMo_init_96 : decode cMo_init 96 = .ok (.newarray .double, 2) := by decide +kernel
theorem dMo_init_98 : decode cMo_init 98 = .ok (.putfield 52, 3) := by decide +kernel
theorem dMo_init_101 : decode cMo_init 101 = .ok (.aload_n 0, 1) := by decide +kernel
theorem dMo_init_102 : decode cMo_init 102 = .ok (.sipush 192, 3) := by decide +kernel
theorem dMo_init_105 : decode cMo_init 105 = .ok (.newarray .double, 2) := by decide +kernel
theorem dMo_init_107 : decode cMo_init 107 = .ok (.putfield 56, 3) := by decide +kernel
theorem dMo_init_110 : decode cMo_init 110 = .ok (.aload_n 0, 1) := by decide +kernel
theorem dMo_init_111 : decode cMo_init 111 = .ok (.bipush 20, 2) := by decide +kernel
theorem dMo_init_113 : decode cMo_init 113 = .ok (.newarray .double, 2) := by decide +kernel
theorem dMo_init_115 : decode cMo_init 115 = .ok (.putfield 59, 3) := by decide +kernel
theorem dMo_init_118 : decode cMo_init 118 = .ok (.aload_n 0, 1) := by decide +kernel
theorem dMo_init_119 : decode cMo_init 119 = .ok (.bipush 80, 2) := by decide +kernel
theorem dMo_init_121 : decode cMo_init 121 = .ok (.newarray .double, 2) := by decide +kernel
theorem dMo_init_123 : decode cMo_init 123 = .ok (.putfield 62, 3) := by decide +kernel
theorem dMo_init_126 : decode cMo_init 126 = .ok (.aload_n 0, 1) := by decide +kernel
theorem dMo_init_127 : decode cMo_init 127 = .ok (.bipush 80, 2) := by decide +kernel
theorem dMo_init_129 : decode cMo_init 129 = .ok (.newarray .double, 2) := by decide +kernel
theorem dMo_init_131 : decode cMo_init 131 = .ok (.putfield 65, 3) := by decide +kernel
theorem dMo_init_134 : decode cMo_init 134 = .ok (.aload_n 0, 1) := by decide +kernel
theorem dMo_init_135 : decode cMo_init 135 = .ok (.sipush 200, 3) := by decide +kernel
theorem dMo_init_138 : decode cMo_init 138 = .ok (.newarray .double, 2) := by decide +kernel
theorem dMo_init_140 : decode cMo_init 140 = .ok (.putfield 68, 3) := by decide +kernel
theorem dMo_init_143 : decode cMo_init 143 = .ok (.aload_n 0, 1) := by decide +kernel
theorem dMo_init_144 : decode cMo_init 144 = .ok (.bipush 32, 2) := by decide +kernel
theorem dMo_init_146 : decode cMo_init 146 = .ok (.newarray .double, 2) := by decide +kernel
theorem dMo_init_148 : decode cMo_init 148 = .ok (.putfield 71, 3) := by decide +kernel
theorem dMo_init_151 : decode cMo_init 151 = .ok (.aload_n 0, 1) := by decide +kernel
theorem dMo_init_152 : decode cMo_init 152 = .ok (.bipush 32, 2) := by decide +kernel
theorem dMo_init_154 : decode cMo_init 154 = .ok (.newarray .double, 2) := by decide +kernel
theorem dMo_init_156 : decode cMo_init 156 = .ok (.putfield 74, 3) := by decide +kernel
theorem dMo_init_159 : decode cMo_init 159 = .ok (.iconst 0, 1) := by decide +kernel
theorem dMo_init_160 : decode cMo_init 160 = .ok (.istore_n 1, 1) := by decide +kernel
theorem dMo_init_161 : decode cMo_init 161 = .ok (.iload_n 1, 1) := by decide +kernel
theorem dMo_init_162 : decode cMo_init 162 = .ok (.bipush 32, 2) := by decide +kernel
theorem dMo_init_164 : decode cMo_init 164 = .ok (.if_icmp .ge 126, 3) := by decide +kernel
theorem dMo_init_167 : decode cMo_init 167 = .ok (.iload_n 1, 1) := by decide +kernel
theorem dMo_init_168 : decode cMo_init 168 = .ok (.bipush 16, 2) := by decide +kernel
theorem dMo_init_170 : decode cMo_init 170 = .ok (.if_icmp .le 10, 3) := by decide +kernel
theorem dMo_init_173 : decode cMo_init 173 = .ok (.iload_n 1, 1) := by decide +kernel
theorem dMo_init_174 : decode cMo_init 174 = .ok (.bipush 32, 2) := by decide +kernel
theorem dMo_init_176 : decode cMo_init 176 = .ok (.isub, 1) := by decide +kernel
theorem dMo_init_177 : decode cMo_init 177 = .ok (.goto 4, 3) := by decide +kernel
theorem dMo_init_180 : decode cMo_init 180 = .ok (.iload_n 1, 1) := by decide +kernel
theorem dMo_init_181 : decode cMo_init 181 = .ok (.i2d, 1) := by decide +kernel
theorem dMo_init_182 : decode cMo_init 182 = .ok (.ldc2_w 77, 3) := by decide +kernel
theorem dMo_init_185 : decode cMo_init 185 = .ok (.dmul, 1) := by decide +kernel
theorem dMo_init_186 : decode cMo_init 186 = .ok (.dstore_n 2, 1) := by decide +kernel
theorem dMo_init_187 : decode cMo_init 187 = .ok (.dload_n 2, 1) := by decide +kernel
theorem dMo_init_188 : decode cMo_init 188 = .ok (.dload_n 2, 1) := by decide +kernel
theorem dMo_init_189 : decode cMo_init 189 = .ok (.dmul, 1) := by decide +kernel
theorem dMo_init_190 : decode cMo_init 190 = .ok (.dstore 4, 2) := by decide +kernel
theorem dMo_init_192 : decode cMo_init 192 = .ok (.dconst 1, 1) := by decide +kernel
theorem dMo_init_193 : decode cMo_init 193 = .ok (.dstore 6, 2) := by decide +kernel
theorem dMo_init_195 : decode cMo_init 195 = .ok (.dconst 1, 1) := by decide +kernel
theorem dMo_init_196 : decode cMo_init 196 = .ok (.dstore 8, 2) := by decide +kernel
theorem dMo_init_198 : decode cMo_init 198 = .ok (.bipush 24, 2) := by decide +kernel
theorem dMo_init_200 : decode cMo_init 200 = .ok (.istore 10, 2) := by decide +kernel
theorem dMo_init_202 : decode cMo_init 202 = .ok (.iload 10, 2) := by decide +kernel
theorem dMo_init_204 : decode cMo_init 204 = .ok (.iconst 1, 1) := by decide +kernel
theorem dMo_init_205 : decode cMo_init 205 = .ok (.if_icmp .le 27, 3) := by decide +kernel
theorem dMo_init_208 : decode cMo_init 208 = .ok (.dconst 1, 1) := by decide +kernel
theorem dMo_init_209 : decode cMo_init 209 = .ok (.dload 4, 2) := by decide +kernel
theorem dMo_init_211 : decode cMo_init 211 = .ok (.dload 6, 2) := by decide +kernel
theorem dMo_init_213 : decode cMo_init 213 = .ok (.dmul, 1) := by decide +kernel
theorem dMo_init_214 : decode cMo_init 214 = .ok (.iload 10, 2) := by decide +kernel
theorem dMo_init_216 : decode cMo_init 216 = .ok (.iload 10, 2) := by decide +kernel
theorem dMo_init_218 : decode cMo_init 218 = .ok (.iconst 1, 1) := by decide +kernel
theorem dMo_init_219 : decode cMo_init 219 = .ok (.isub, 1) := by decide +kernel
theorem dMo_init_220 : decode cMo_init 220 = .ok (.imul, 1) := by decide +kernel
theorem dMo_init_221 : decode cMo_init 221 = .ok (.i2d, 1) := by decide +kernel
theorem dMo_init_222 : decode cMo_init 222 = .ok (.ddiv, 1) := by decide +kernel
theorem dMo_init_223 : decode cMo_init 223 = .ok (.dsub, 1) := by decide +kernel
theorem dMo_init_224 : decode cMo_init 224 = .ok (.dstore 6, 2) := by decide +kernel
theorem dMo_init_226 : decode cMo_init 226 = .ok (.iinc 10 (-2), 3) := by decide +kernel
theorem dMo_init_229 : decode cMo_init 229 = .ok (.goto (-27), 3) := by decide +kernel
theorem dMo_init_232 : decode cMo_init 232 = .ok (.bipush 25, 2) := by decide +kernel
theorem dMo_init_234 : decode cMo_init 234 = .ok (.istore 10, 2) := by decide +kernel
theorem dMo_init_236 : decode cMo_init 236 = .ok (.iload 10, 2) := by decide +kernel
theorem dMo_init_238 : decode cMo_init 238 = .ok (.iconst 2, 1) := by decide +kernel
theorem dMo_init_239 : decode cMo_init 239 = .ok (.if_icmp .le 27, 3) := by decide +kernel
theorem dMo_init_242 : decode cMo_init 242 = .ok (.dconst 1, 1) := by decide +kernel
theorem dMo_init_243 : decode cMo_init 243 = .ok (.dload 4, 2) := by decide +kernel
theorem dMo_init_245 : decode cMo_init 245 = .ok (.dload 8, 2) := by decide +kernel
theorem dMo_init_247 : decode cMo_init 247 = .ok (.dmul, 1) := by decide +kernel
theorem dMo_init_248 : decode cMo_init 248 = .ok (.iload 10, 2) := by decide +kernel
theorem dMo_init_250 : decode cMo_init 250 = .ok (.iload 10, 2) := by decide +kernel
theorem dMo_init_252 : decode cMo_init 252 = .ok (.iconst 1, 1) := by decide +kernel
theorem dMo_init_253 : decode cMo_init 253 = .ok (.isub, 1) := by decide +kernel
theorem dMo_init_254 : decode cMo_init 254 = .ok (.imul, 1) := by decide +kernel
theorem dMo_init_255 : decode cMo_init 255 = .ok (.i2d, 1) := by decide +kernel
theorem dMo_init_256 : decode cMo_init 256 = .ok (.ddiv, 1) := by decide +kernel
theorem dMo_init_257 : decode cMo_init 257 = .ok (.dsub, 1) := by decide +kernel
theorem dMo_init_258 : decode cMo_init 258 = .ok (.dstore 8, 2) := by decide +kernel
theorem dMo_init_260 : decode cMo_init 260 = .ok (.iinc 10 (-2), 3) := by decide +kernel
theorem dMo_init_263 : decode cMo_init 263 = .ok (.goto (-27), 3) := by decide +kernel
theorem dMo_init_266 : decode cMo_init 266 = .ok (.aload_n 0, 1) := by decide +kernel
theorem dMo_init_267 : decode cMo_init 267 = .ok (.getfield 71, 3) := by decide +kernel
theorem dMo_init_270 : decode cMo_init 270 = .ok (.iload_n 1, 1) := by decide +kernel
theorem dMo_init_271 : decode cMo_init 271 = .ok (.dload 6, 2) := by decide +kernel
theorem dMo_init_273 : decode cMo_init 273 = .ok (.dastore, 1) := by decide +kernel
theorem dMo_init_274 : decode cMo_init 274 = .ok (.aload_n 0, 1) := by decide +kernel
theorem dMo_init_275 : decode cMo_init 275 = .ok (.getfield 74, 3) := by decide +kernel
theorem dMo_init_278 : decode cMo_init 278 = .ok (.iload_n 1, 1) := by decide +kernel
theorem dMo_init_279 : decode cMo_init 279 = .ok (.dload_n 2, 1) := by decide +kernel
theorem dMo_init_280 : decode cMo_init 280 = .ok (.dload 8, 2) := by decide +kernel
theorem dMo_init_282 : decode cMo_init 282 = .ok (.dmul, 1) := by decide +kernel
theorem dMo_init_283 : decode cMo_init 283 = .ok (.dastore, 1) := by decide +kernel
theorem dMo_init_284 : decode cMo_init 284 = .ok (.iinc 1 1, 3) := by decide +kernel
theorem dMo_init_287 : decode cMo_init 287 = .ok (.goto (-126), 3) := by decide +kernel
theorem dMo_init_290 : decode cMo_init 290 = .ok (.return_, 1) := by decide +kernel
theorem dMo_octets_0 : decode cMo_octets 0 = .ok (.aload_n 0, 1) := by decide +kernel
theorem dMo_octets_1 : decode cMo_octets 1 = .ok (.iconst 0, 1) := by decide +kernel
theorem dMo_octets_2 : decode cMo_octets 2 = .ok (.putfield 79, 3) := by decide +kernel
theorem dMo_octets_5 : decode cMo_octets 5 = .ok (.aload_n 0, 1) := by decide +kernel
theorem dMo_octets_6 : decode cMo_octets 6 = .ok (.iload_n 1, 1) := by decide +kernel
theorem dMo_octets_7 : decode cMo_octets 7 = .ok (.i2l, 1) := by decide +kernel
theorem dMo_octets_8 : decode cMo_octets 8 = .ok (.lconst 1, 1) := by decide +kernel
theorem dMo_octets_9 : decode cMo_octets 9 = .ok (.ldc2_w 82, 3) := by decide +kernel
theorem dMo_octets_12 : decode cMo_octets 12 = .ok (.invokestatic 84, 3) := by decide +kernel
theorem dMo_octets_15 : decode cMo_octets 15 = .ok (.ifCond .ne 7, 3) := by decide +kernel
theorem dMo_octets_18 : decode cMo_octets 18 = .ok (.iconst 1, 1) := by decide +kernel
theorem dMo_octets_19 : decode cMo_octets 19 = .ok (.goto 4, 3) := by decide +kernel
theorem dMo_octets_22 : decode cMo_octets 22 = .ok (.iconst 0, 1) := by decide +kernel
theorem dMo_octets_23 : decode cMo_octets 23 = .ok (.iconst 1, 1) := by decide +kernel
theorem dMo_octets_24 : decode cMo_octets 24 = .ok (.invokevirtual 88, 3) := by decide +kernel
theorem dMo_octets_27 : decode cMo_octets 27 = .ok (.ifCond .ne 28, 3) := by decide +kernel
theorem dMo_octets_30 : decode cMo_octets 30 = .ok (.aload_n 0, 1) := by decide +kernel
theorem dMo_octets_31 : decode cMo_octets 31 = .ok (.aload_n 0, 1) := by decide +kernel
theorem dMo_octets_32 : decode cMo_octets 32 = .ok (.getfield 92, 3) := by decide +kernel
theorem dMo_octets_35 : decode cMo_octets 35 = .ok (.iload_n 1, 1) := by decide +kernel
theorem dMo_octets_36 : decode cMo_octets 36 = .ok (.iadd, 1) := by decide +kernel
theorem dMo_octets_37 : decode cMo_octets 37 = .ok (.sipush 400, 3) := by decide +kernel
theorem dMo_octets_40 : decode cMo_octets 40 = .ok (.if_icmp .le 7, 3) := by decide +kernel
theorem dMo_octets_43 : decode cMo_octets 43 = .ok (.iconst 1, 1) := by decide +kernel
theorem dMo_octets_44 : decode cMo_octets 44 = .ok (.goto 4, 3) := by decide +kernel
theorem dMo_octets_47 : decode cMo_octets 47 = .ok (.iconst 0, 1) := by decide +kernel
theorem dMo_octets_48 : decode cMo_octets 48 = .ok (.iconst 2, 1) := by decide +kernel
theorem dMo_octets_49 : decode cMo_octets 49 = .ok (.invokevirtual 88, 3) := by decide +kernel
theorem dMo_octets_52 : decode cMo_octets 52 = .ok (.ifCond .eq 5, 3) := by decide +kernel
theorem dMo_octets_55 : decode cMo_octets 55 = .ok (.iconst 0, 1) := by decide +kernel
theorem dMo_octets_56 : decode cMo_octets 56 = .ok (.ireturn, 1) := by decide +kernel
theorem dMo_octets_57 : decode cMo_octets 57 = .ok (.iconst 0, 1) := by decide +kernel
theorem dMo_octets_58 : decode cMo_octets 58 = .ok (.istore 4, 2) := by decide +kernel
theorem dMo_octets_60 : decode cMo_octets 60 = .ok (.iload 4, 2) := by decide +kernel
theorem dMo_octets_62 : decode cMo_octets 62 = .ok (.iload_n 1, 1) := by decide +kernel
theorem dMo_octets_63 : decode cMo_octets 63 = .ok (.if_icmp .ge 33, 3) := by decide +kernel
theorem dMo_octets_66 : decode cMo_octets 66 = .ok (.aload_n 0, 1) := by decide +kernel
theorem dMo_octets_67 : decode cMo_octets 67 = .ok (.getfield 30, 3) := by decide +kernel
theorem dMo_octets_70 : decode cMo_octets 70 = .ok (.aload_n 0, 1) := by decide +kernel
theorem dMo_octets_71 : decode cMo_octets 71 = .ok (.getfield 92, 3) := by decide +kernel
theorem dMo_octets_74 : decode cMo_octets 74 = .ok (.iload 4, 2) := by decide +kernel
theorem dMo_octets_76 : decode cMo_octets 76 = .ok (.iadd, 1) := by decide +kernel
theorem dMo_octets_77 : decode cMo_octets 77 = .ok (.lload_n 2, 1) := by decide +kernel
theorem dMo_octets_78 : decode cMo_octets 78 = .ok (.bipush 8, 2) := by decide +kernel
theorem dMo_octets_80 : decode cMo_octets 80 = .ok (.iload 4, 2) := by decide +kernel
theorem dMo_octets_82 : decode cMo_octets 82 = .ok (.imul, 1) := by decide +kernel
theorem dMo_octets_83 : decode cMo_octets 83 = .ok (.lushr, 1) := by decide +kernel
theorem dMo_octets_84 : decode cMo_octets 84 = .ok (.ldc2_w 95, 3) := by decide +kernel
theorem dMo_octets_87 : decode cMo_octets 87 = .ok (.land, 1) := by decide +kernel
theorem dMo_octets_88 : decode cMo_octets 88 = .ok (.l2i, 1) := by decide +kernel
theorem dMo_octets_89 : decode cMo_octets 89 = .ok (.iastore, 1) := by decide +kernel
theorem dMo_octets_90 : decode cMo_octets 90 = .ok (.iinc 4 1, 3) := by decide +kernel
theorem dMo_octets_93 : decode cMo_octets 93 = .ok (.goto (-33), 3) := by decide +kernel
theorem dMo_octets_96 : decode cMo_octets 96 = .ok (.aload_n 0, 1) := by decide +kernel
theorem dMo_octets_97 : decode cMo_octets 97 = .ok (.dup, 1) := by decide +kernel
theorem dMo_octets_98 : decode cMo_octets 98 = .ok (.getfield 92, 3) := by decide +kernel
theorem dMo_octets_101 : decode cMo_octets 101 = .ok (.iload_n 1, 1) := by decide +kernel
theorem dMo_octets_102 : decode cMo_octets 102 = .ok (.iadd, 1) := by decide +kernel
theorem dMo_octets_103 : decode cMo_octets 103 = .ok (.putfield 92, 3) := by decide +kernel
theorem dMo_octets_106 : decode cMo_octets 106 = .ok (.aload_n 0, 1) := by decide +kernel
theorem dMo_octets_107 : decode cMo_octets 107 = .ok (.getfield 92, 3) := by decide +kernel
theorem dMo_octets_110 : decode cMo_octets 110 = .ok (.ireturn, 1) := by decide +kernel
theorem dMo_in_0 : decode cMo_in 0 = .ok (.lload_n 0, 1) := by decide +kernel
theorem dMo_in_1 : decode cMo_in 1 = .ok (.lload_n 2, 1) := by decide +kernel
theorem dMo_in_2 : decode cMo_in 2 = .ok (.lcmp, 1) := by decide +kernel
theorem dMo_in_3 : decode cMo_in 3 = .ok (.ifCond .lt 14, 3) := by decide +kernel
theorem dMo_in_6 : decode cMo_in 6 = .ok (.lload_n 0, 1) := by decide +kernel
theorem dMo_in_7 : decode cMo_in 7 = .ok (.lload 4, 2) := by decide +kernel
theorem dMo_in_9 : decode cMo_in 9 = .ok (.lcmp, 1) := by decide +kernel
theorem dMo_in_10 : decode cMo_in 10 = .ok (.ifCond .gt 7, 3) := by decide +kernel
theorem dMo_in_13 : decode cMo_in 13 = .ok (.iconst 1, 1) := by decide +kernel
theorem dMo_in_14 : decode cMo_in 14 = .ok (.goto 4, 3) := by decide +kernel
theorem dMo_in_17 : decode cMo_in 17 = .ok (.iconst 0, 1) := by decide +kernel
theorem dMo_in_18 : decode cMo_in 18 = .ok (.ireturn, 1) := by decide +kernel
theorem dMo_fails_0 : decode cMo_fails 0 = .ok (.iload_n 1, 1) := by decide +kernel
theorem dMo_fails_1 : decode cMo_fails 1 = .ok (.ifCond .eq 15, 3) := by decide +kernel
theorem dMo_fails_4 : decode cMo_fails 4 = .ok (.aload_n 0, 1) := by decide +kernel
theorem dMo_fails_5 : decode cMo_fails 5 = .ok (.getfield 79, 3) := by decide +kernel
theorem dMo_fails_8 : decode cMo_fails 8 = .ok (.ifCond .ne 8, 3) := by decide +kernel
theorem dMo_fails_11 : decode cMo_fails 11 = .ok (.aload_n 0, 1) := by decide +kernel
theorem dMo_fails_12 : decode cMo_fails 12 = .ok (.iload_n 2, 1) := by decide +kernel
theorem dMo_fails_13 : decode cMo_fails 13 = .ok (.putfield 79, 3) := by decide +kernel
theorem dMo_fails_16 : decode cMo_fails 16 = .ok (.aload_n 0, 1) := by decide +kernel
theorem dMo_fails_17 : decode cMo_fails 17 = .ok (.getfield 79, 3) := by decide +kernel
theorem dMo_fails_20 : decode cMo_fails 20 = .ok (.ifCond .eq 7, 3) := by decide +kernel
theorem dMo_fails_23 : decode cMo_fails 23 = .ok (.iconst 1, 1) := by decide +kernel
theorem dMo_fails_24 : decode cMo_fails 24 = .ok (.goto 4, 3) := by decide +kernel
theorem dMo_fails_27 : decode cMo_fails 27 = .ok (.iconst 0, 1) := by decide +kernel
theorem dMo_fails_28 : decode cMo_fails 28 = .ok (.ireturn, 1) := by decide +kernel
theorem dMo_read_0 : decode cMo_read 0 = .ok (.aload_n 0, 1) := by decide +kernel
theorem dMo_read_1 : decode cMo_read 1 = .ok (.iconst 0, 1) := by decide +kernel
theorem dMo_read_2 : decode cMo_read 2 = .ok (.putfield 79, 3) := by decide +kernel
theorem dMo_read_5 : decode cMo_read 5 = .ok (.aload_n 0, 1) := by decide +kernel
theorem dMo_read_6 : decode cMo_read 6 = .ok (.aload_n 0, 1) := by decide +kernel
theorem dMo_read_7 : decode cMo_read 7 = .ok (.invokevirtual 115, 3) := by decide +kernel
theorem dMo_read_10 : decode cMo_read 10 = .ok (.putfield 7, 3) := by decide +kernel
theorem dMo_read_13 : decode cMo_read 13 = .ok (.aload_n 0, 1) := by decide +kernel
theorem dMo_read_14 : decode cMo_read 14 = .ok (.getfield 7, 3) := by decide +kernel
theorem dMo_read_17 : decode cMo_read 17 = .ok (.ifCond .lt 17, 3) := by decide +kernel
theorem dMo_read_20 : decode cMo_read 20 = .ok (.aload_n 0, 1) := by decide +kernel
theorem dMo_read_21 : decode cMo_read 21 = .ok (.iconst 0, 1) := by decide +kernel
theorem dMo_read_22 : decode cMo_read 22 = .ok (.putfield 92, 3) := by decide +kernel
theorem dMo_read_25 : decode cMo_read 25 = .ok (.aload_n 0, 1) := by decide +kernel
theorem dMo_read_26 : decode cMo_read 26 = .ok (.iconst 1, 1) := by decide +kernel
theorem dMo_read_27 : decode cMo_read 27 = .ok (.iconst 1, 1) := by decide +kernel
theorem dMo_read_28 : decode cMo_read 28 = .ok (.invokevirtual 88, 3) := by decide +kernel
theorem dMo_read_31 : decode cMo_read 31 = .ok (.pop, 1) := by decide +kernel
theorem dMo_read_32 : decode cMo_read 32 = .ok (.iconst 0, 1) := by decide +kernel
theorem dMo_read_33 : decode cMo_read 33 = .ok (.ireturn, 1) := by decide +kernel
theorem dMo_read_34 : decode cMo_read 34 = .ok (.aload_n 0, 1) := by decide +kernel
theorem dMo_read_35 : decode cMo_read 35 = .ok (.bipush 32, 2) := by decide +kernel
theorem dMo_read_37 : decode cMo_read 37 = .ok (.iconst 2, 1) := by decide +kernel
theorem dMo_read_38 : decode cMo_read 38 = .ok (.invokevirtual 97, 3) := by decide +kernel
theorem dMo_read_41 : decode cMo_read 41 = .ok (.l2i, 1) := by decide +kernel
theorem dMo_read_42 : decode cMo_read 42 = .ok (.istore_n 1, 1) := by decide +kernel
theorem dMo_read_43 : decode cMo_read 43 = .ok (.aload_n 0, 1) := by decide +kernel
theorem dMo_read_44 : decode cMo_read 44 = .ok (.bipush 22, 2) := by decide +kernel
theorem dMo_read_46 : decode cMo_read 46 = .ok (.iconst 2, 1) := by decide +kernel
theorem dMo_read_47 : decode cMo_read 47 = .ok (.invokevirtual 97, 3) := by decide +kernel
theorem dMo_read_50 : decode cMo_read 50 = .ok (.l2i, 1) := by decide +kernel
theorem dMo_read_51 : decode cMo_read 51 = .ok (.istore_n 2, 1) := by decide +kernel
theorem dMo_read_52 : decode cMo_read 52 = .ok (.aload_n 0, 1) := by decide +kernel
theorem dMo_read_53 : decode cMo_read 53 = .ok (.bipush 34, 2) := by decide +kernel
theorem dMo_read_55 : decode cMo_read 55 = .ok (.iconst 2, 1) := by decide +kernel
theorem dMo_read_56 : decode cMo_read 56 = .ok (.invokevirtual 97, 3) := by decide +kernel
theorem dMo_read_59 : decode cMo_read 59 = .ok (.l2i, 1) := by decide +kernel
theorem dMo_read_60 : decode cMo_read 60 = .ok (.istore_n 3, 1) := by decide +kernel
theorem dMo_read_61 : decode cMo_read 61 = .ok (.aload_n 0, 1) := by decide +kernel
theorem dMo_read_62 : decode cMo_read 62 = .ok (.getfield 92, 3) := by decide +kernel
theorem dMo_read_65 : decode cMo_read 65 = .ok (.bipush 44, 2) := by decide +kernel
theorem dMo_read_67 : decode cMo_read 67 = .ok (.isub, 1) := by decide +kernel
theorem dMo_read_68 : decode cMo_read 68 = .ok (.iload_n 1, 1) := by decide +kernel
theorem dMo_read_69 : decode cMo_read 69 = .ok (.idiv, 1) := by decide +kernel
theorem dMo_read_70 : decode cMo_read 70 = .ok (.istore 4, 2) := by decide +kernel
theorem dMo_read_72 : decode cMo_read 72 = .ok (.iload 4, 2) := by decide +kernel
theorem dMo_read_74 : decode cMo_read 74 = .ok (.sipush 320, 3) := by decide +kernel
theorem dMo_read_77 : decode cMo_read 77 = .ok (.if_icmp .le 7, 3) := by decide +kernel
theorem dMo_read_80 : decode cMo_read 80 = .ok (.iconst 1, 1) := by decide +kernel
theorem dMo_read_81 : decode cMo_read 81 = .ok (.goto 4, 3) := by decide +kernel
theorem dMo_read_84 : decode cMo_read 84 = .ok (.iconst 0, 1) := by decide +kernel
theorem dMo_read_85 : decode cMo_read 85 = .ok (.istore 5, 2) := by decide +kernel
theorem dMo_read_87 : decode cMo_read 87 = .ok (.iload 5, 2) := by decide +kernel
theorem dMo_read_89 : decode cMo_read 89 = .ok (.ifCond .ne 97, 3) := by decide +kernel
theorem dMo_read_92 : decode cMo_read 92 = .ok (.aload_n 0, 1) := by decide +kernel
theorem dMo_read_93 : decode cMo_read 93 = .ok (.aload_n 0, 1) := by decide +kernel
theorem dMo_read_94 : decode cMo_read 94 = .ok (.bipush 24, 2) := by decide +kernel
theorem dMo_read_96 : decode cMo_read 96 = .ok (.iconst 4, 1) := by decide +kernel
theorem dMo_read_97 : decode cMo_read 97 = .ok (.invokevirtual 97, 3) := by decide +kernel
theorem dMo_read_100 : decode cMo_read 100 = .ok (.l2i, 1) := by decide +kernel
theorem dMo_read_101 : decode cMo_read 101 = .ok (.putfield 13, 3) := by decide +kernel
theorem dMo_read_104 : decode cMo_read 104 = .ok (.iconst 0, 1) := by decide +kernel
theorem dMo_read_105 : decode cMo_read 105 = .ok (.istore 6, 2) := by decide +kernel
theorem dMo_read_107 : decode cMo_read 107 = .ok (.iload 6, 2) := by decide +kernel
theorem dMo_read_109 : decode cMo_read 109 = .ok (.iload 4, 2) := by decide +kernel
theorem dMo_read_111 : decode cMo_read 111 = .ok (.if_icmp .ge 64, 3) := by decide +kernel
theorem dMo_read_114 : decode cMo_read 114 = .ok (.bipush 44, 2) := by decide +kernel
theorem dMo_read_116 : decode cMo_read 116 = .ok (.iload_n 1, 1) := by decide +kernel
theorem dMo_read_117 : decode cMo_read 117 = .ok (.iload 6, 2) := by decide +kernel
theorem dMo_read_119 : decode cMo_read 119 = .ok (.imul, 1) := by decide +kernel
theorem dMo_read_120 : decode cMo_read 120 = .ok (.iadd, 1) := by decide +kernel
theorem dMo_read_121 : decode cMo_read 121 = .ok (.istore 7, 2) := by decide +kernel
theorem dMo_read_123 : decode cMo_read 123 = .ok (.aload_n 0, 1) := by decide +kernel
theorem dMo_read_124 : decode cMo_read 124 = .ok (.getfield 52, 3) := by decide +kernel
theorem dMo_read_127 : decode cMo_read 127 = .ok (.iload 6, 2) := by decide +kernel
theorem dMo_read_129 : decode cMo_read 129 = .ok (.iload_n 2, 1) := by decide +kernel
theorem dMo_read_130 : decode cMo_read 130 = .ok (.iconst 1, 1) := by decide +kernel
theorem dMo_read_131 : decode cMo_read 131 = .ok (.if_icmp .ne 13, 3) := by decide +kernel
theorem dMo_read_134 : decode cMo_read 134 = .ok (.aload_n 0, 1) := by decide +kernel
theorem dMo_read_135 : decode cMo_read 135 = .ok (.iload 7, 2) := by decide +kernel
theorem dMo_read_137 : decode cMo_read 137 = .ok (.iload_n 3, 1) := by decide +kernel
theorem dMo_read_138 : decode cMo_read 138 = .ok (.invokevirtual 119, 3) := by decide +kernel
theorem dMo_read_141 : decode cMo_read 141 = .ok (.goto 27, 3) := by decide +kernel
theorem dMo_read_144 : decode cMo_read 144 = .ok (.aload_n 0, 1) := by decide +kernel
theorem dMo_read_145 : decode cMo_read 145 = .ok (.iload 7, 2) := by decide +kernel
theorem dMo_read_147 : decode cMo_read 147 = .ok (.iload_n 3, 1) := by decide +kernel
theorem dMo_read_148 : decode cMo_read 148 = .ok (.invokevirtual 119, 3) := by decide +kernel
theorem dMo_read_151 : decode cMo_read 151 = .ok (.aload_n 0, 1) := by decide +kernel
theorem dMo_read_152 : decode cMo_read 152 = .ok (.iload 7, 2) := by decide +kernel
theorem dMo_read_154 : decode cMo_read 154 = .ok (.iload_n 3, 1) := by decide +kernel
theorem dMo_read_155 : decode cMo_read 155 = .ok (.bipush 8, 2) := by decide +kernel
theorem dMo_read_157 : decode cMo_read 157 = .ok (.idiv, 1) := by decide +kernel
theorem dMo_read_158 : decode cMo_read 158 = .ok (.iadd, 1) := by decide +kernel
theorem dMo_read_159 : decode cMo_read 159 = .ok (.iload_n 3, 1) := by decide +kernel
theorem dMo_read_160 : decode cMo_read 160 = .ok (.invokevirtual 119, 3) := by decide +kernel
theorem dMo_read_163 : decode cMo_read 163 = .ok (.dadd, 1) := by decide +kernel
theorem dMo_read_164 : decode cMo_read 164 = .ok (.ldc2_w 123, 3) := by decide +kernel
theorem dMo_read_167 : decode cMo_read 167 = .ok (.ddiv, 1) := by decide +kernel
theorem dMo_read_168 : decode cMo_read 168 = .ok (.dastore, 1) := by decide +kernel
theorem dMo_read_169 : decode cMo_read 169 = .ok (.iinc 6 1, 3) := by decide +kernel
theorem dMo_read_172 : decode cMo_read 172 = .ok (.goto (-65), 3) := by decide +kernel
theorem dMo_read_175 : decode cMo_read 175 = .ok (.aload_n 0, 1) := by decide +kernel
theorem dMo_read_176 : decode cMo_read 176 = .ok (.iload 4, 2) := by decide +kernel
theorem dMo_read_178 : decode cMo_read 178 = .ok (.putfield 125, 3) := by decide +kernel
theorem dMo_read_181 : decode cMo_read 181 = .ok (.aload_n 0, 1) := by decide +kernel
theorem dMo_read_182 : decode cMo_read 182 = .ok (.iconst 0, 1) := by decide +kernel
theorem dMo_read_183 : decode cMo_read 183 = .ok (.putfield 128, 3) := by decide +kernel
theorem dMo_read_186 : decode cMo_read 186 = .ok (.aload_n 0, 1) := by decide +kernel
theorem dMo_read_187 : decode cMo_read 187 = .ok (.iconst 0, 1) := by decide +kernel
theorem dMo_read_188 : decode cMo_read 188 = .ok (.putfield 92, 3) := by decide +kernel
theorem dMo_read_191 : decode cMo_read 191 = .ok (.aload_n 0, 1) := by decide +kernel
theorem dMo_read_192 : decode cMo_read 192 = .ok (.iload 5, 2) := by decide +kernel
theorem dMo_read_194 : decode cMo_read 194 = .ok (.iconst 2, 1) := by decide +kernel
theorem dMo_read_195 : decode cMo_read 195 = .ok (.invokevirtual 88, 3) := by decide +kernel
theorem dMo_read_198 : decode cMo_read 198 = .ok (.ifCond .eq 7, 3) := by decide +kernel
theorem dMo_read_201 : decode cMo_read 201 = .ok (.iconst 0, 1) := by decide +kernel
theorem dMo_read_202 : decode cMo_read 202 = .ok (.goto 5, 3) := by decide +kernel
theorem dMo_read_205 : decode cMo_read 205 = .ok (.iload 4, 2) := by decide +kernel
theorem dMo_read_207 : decode cMo_read 207 = .ok (.ireturn, 1) := by decide +kernel
theorem dMo_wrong_0 : decode cMo_wrong 0 = .ok (.aload_n 0, 1) := by decide +kernel
theorem dMo_wrong_1 : decode cMo_wrong 1 = .ok (.getfield 92, 3) := by decide +kernel
theorem dMo_wrong_4 : decode cMo_wrong 4 = .ok (.bipush 44, 2) := by decide +kernel
theorem dMo_wrong_6 : decode cMo_wrong 6 = .ok (.if_icmp .ge 8, 3) := by decide +kernel
theorem dMo_wrong_9 : decode cMo_wrong 9 = .ok (.aload_n 0, 1) := by decide +kernel
theorem dMo_wrong_10 : decode cMo_wrong 10 = .ok (.getfield 92, 3) := by decide +kernel
theorem dMo_wrong_13 : decode cMo_wrong 13 = .ok (.ireturn, 1) := by decide +kernel
theorem dMo_wrong_14 : decode cMo_wrong 14 = .ok (.aload_n 0, 1) := by decide +kernel
theorem dMo_wrong_15 : decode cMo_wrong 15 = .ok (.bipush 22, 2) := by decide +kernel
theorem dMo_wrong_17 : decode cMo_wrong 17 = .ok (.iconst 2, 1) := by decide +kernel
theorem dMo_wrong_18 : decode cMo_wrong 18 = .ok (.invokevirtual 97, 3) := by decide +kernel
theorem dMo_wrong_21 : decode cMo_wrong 21 = .ok (.lstore_n 1, 1) := by decide +kernel
theorem dMo_wrong_22 : decode cMo_wrong 22 = .ok (.aload_n 0, 1) := by decide +kernel
theorem dMo_wrong_23 : decode cMo_wrong 23 = .ok (.bipush 32, 2) := by decide +kernel
theorem dMo_wrong_25 : decode cMo_wrong 25 = .ok (.iconst 2, 1) := by decide +kernel
theorem dMo_wrong_26 : decode cMo_wrong 26 = .ok (.invokevirtual 97, 3) := by decide +kernel
theorem dMo_wrong_29 : decode cMo_wrong 29 = .ok (.lstore_n 3, 1) := by decide +kernel
theorem dMo_wrong_30 : decode cMo_wrong 30 = .ok (.aload_n 0, 1) := by decide +kernel
theorem dMo_wrong_31 : decode cMo_wrong 31 = .ok (.bipush 34, 2) := by decide +kernel
theorem dMo_wrong_33 : decode cMo_wrong 33 = .ok (.iconst 2, 1) := by decide +kernel
theorem dMo_wrong_34 : decode cMo_wrong 34 = .ok (.invokevirtual 97, 3) := by decide +kernel
theorem dMo_wrong_37 : decode cMo_wrong 37 = .ok (.lstore 5, 2) := by decide +kernel
theorem dMo_wrong_39 : decode cMo_wrong 39 = .ok (.aload_n 0, 1) := by decide +kernel
theorem dMo_wrong_40 : decode cMo_wrong 40 = .ok (.bipush 40, 2) := by decide +kernel
theorem dMo_wrong_42 : decode cMo_wrong 42 = .ok (.iconst 4, 1) := by decide +kernel
theorem dMo_wrong_43 : decode cMo_wrong 43 = .ok (.invokevirtual 97, 3) := by decide +kernel
theorem dMo_wrong_46 : decode cMo_wrong 46 = .ok (.lstore 7, 2) := by decide +kernel
theorem dMo_wrong_48 : decode cMo_wrong 48 = .ok (.aload_n 0, 1) := by decide +kernel
theorem dMo_wrong_49 : decode cMo_wrong 49 = .ok (.iconst 0, 1) := by decide +kernel
theorem dMo_wrong_50 : decode cMo_wrong 50 = .ok (.bipush 82, 2) := by decide +kernel
theorem dMo_wrong_52 : decode cMo_wrong 52 = .ok (.bipush 73, 2) := by decide +kernel
theorem dMo_wrong_54 : decode cMo_wrong 54 = .ok (.bipush 70, 2) := by decide +kernel
theorem dMo_wrong_56 : decode cMo_wrong 56 = .ok (.bipush 70, 2) := by decide +kernel
theorem dMo_wrong_58 : decode cMo_wrong 58 = .ok (.invokevirtual 101, 3) := by decide +kernel
theorem dMo_wrong_61 : decode cMo_wrong 61 = .ok (.ifCond .ne 5, 3) := by decide +kernel
theorem dMo_wrong_64 : decode cMo_wrong 64 = .ok (.iconst 0, 1) := by decide +kernel
theorem dMo_wrong_65 : decode cMo_wrong 65 = .ok (.ireturn, 1) := by decide +kernel
theorem dMo_wrong_66 : decode cMo_wrong 66 = .ok (.aload_n 0, 1) := by decide +kernel
theorem dMo_wrong_67 : decode cMo_wrong 67 = .ok (.iconst 4, 1) := by decide +kernel
theorem dMo_wrong_68 : decode cMo_wrong 68 = .ok (.iconst 4, 1) := by decide +kernel
theorem dMo_wrong_69 : decode cMo_wrong 69 = .ok (.invokevirtual 97, 3) := by decide +kernel
theorem dMo_wrong_72 : decode cMo_wrong 72 = .ok (.aload_n 0, 1) := by decide +kernel
theorem dMo_wrong_73 : decode cMo_wrong 73 = .ok (.getfield 92, 3) := by decide +kernel
theorem dMo_wrong_76 : decode cMo_wrong 76 = .ok (.bipush 8, 2) := by decide +kernel
theorem dMo_wrong_78 : decode cMo_wrong 78 = .ok (.isub, 1) := by decide +kernel
theorem dMo_wrong_79 : decode cMo_wrong 79 = .ok (.i2l, 1) := by decide +kernel
theorem dMo_wrong_80 : decode cMo_wrong 80 = .ok (.lcmp, 1) := by decide +kernel
theorem dMo_wrong_81 : decode cMo_wrong 81 = .ok (.ifCond .eq 5, 3) := by decide +kernel
theorem dMo_wrong_84 : decode cMo_wrong 84 = .ok (.iconst 4, 1) := by decide +kernel
theorem dMo_wrong_85 : decode cMo_wrong 85 = .ok (.ireturn, 1) := by decide +kernel
theorem dMo_wrong_86 : decode cMo_wrong 86 = .ok (.aload_n 0, 1) := by decide +kernel
theorem dMo_wrong_87 : decode cMo_wrong 87 = .ok (.bipush 8, 2) := by decide +kernel
theorem dMo_wrong_89 : decode cMo_wrong 89 = .ok (.bipush 87, 2) := by decide +kernel
theorem dMo_wrong_91 : decode cMo_wrong 91 = .ok (.bipush 65, 2) := by decide +kernel
theorem dMo_wrong_93 : decode cMo_wrong 93 = .ok (.bipush 86, 2) := by decide +kernel
theorem dMo_wrong_95 : decode cMo_wrong 95 = .ok (.bipush 69, 2) := by decide +kernel
theorem dMo_wrong_97 : decode cMo_wrong 97 = .ok (.invokevirtual 101, 3) := by decide +kernel
theorem dMo_wrong_100 : decode cMo_wrong 100 = .ok (.ifCond .ne 6, 3) := by decide +kernel
theorem dMo_wrong_103 : decode cMo_wrong 103 = .ok (.bipush 8, 2) := by decide +kernel
theorem dMo_wrong_105 : decode cMo_wrong 105 = .ok (.ireturn, 1) := by decide +kernel
theorem dMo_wrong_106 : decode cMo_wrong 106 = .ok (.aload_n 0, 1) := by decide +kernel
theorem dMo_wrong_107 : decode cMo_wrong 107 = .ok (.bipush 12, 2) := by decide +kernel
theorem dMo_wrong_109 : decode cMo_wrong 109 = .ok (.bipush 102, 2) := by decide +kernel
theorem dMo_wrong_111 : decode cMo_wrong 111 = .ok (.bipush 109, 2) := by decide +kernel
theorem dMo_wrong_113 : decode cMo_wrong 113 = .ok (.bipush 116, 2) := by decide +kernel
theorem dMo_wrong_115 : decode cMo_wrong 115 = .ok (.bipush 32, 2) := by decide +kernel
theorem dMo_wrong_117 : decode cMo_wrong 117 = .ok (.invokevirtual 101, 3) := by decide +kernel
theorem dMo_wrong_120 : decode cMo_wrong 120 = .ok (.ifCond .ne 6, 3) := by decide +kernel
theorem dMo_wrong_123 : decode cMo_wrong 123 = .ok (.bipush 12, 2) := by decide +kernel
theorem dMo_wrong_125 : decode cMo_wrong 125 = .ok (.ireturn, 1) := by decide +kernel
theorem dMo_wrong_126 : decode cMo_wrong 126 = .ok (.aload_n 0, 1) := by decide +kernel
theorem dMo_wrong_127 : decode cMo_wrong 127 = .ok (.bipush 16, 2) := by decide +kernel
theorem dMo_wrong_129 : decode cMo_wrong 129 = .ok (.iconst 4, 1) := by decide +kernel
theorem dMo_wrong_130 : decode cMo_wrong 130 = .ok (.invokevirtual 97, 3) := by decide +kernel
theorem dMo_wrong_133 : decode cMo_wrong 133 = .ok (.ldc2_w 105, 3) := by decide +kernel
theorem dMo_wrong_136 : decode cMo_wrong 136 = .ok (.lcmp, 1) := by decide +kernel
theorem dMo_wrong_137 : decode cMo_wrong 137 = .ok (.ifCond .eq 6, 3) := by decide +kernel
theorem dMo_wrong_140 : decode cMo_wrong 140 = .ok (.bipush 16, 2) := by decide +kernel
theorem dMo_wrong_142 : decode cMo_wrong 142 = .ok (.ireturn, 1) := by decide +kernel
theorem dMo_wrong_143 : decode cMo_wrong 143 = .ok (.aload_n 0, 1) := by decide +kernel
theorem dMo_wrong_144 : decode cMo_wrong 144 = .ok (.bipush 20, 2) := by decide +kernel
theorem dMo_wrong_146 : decode cMo_wrong 146 = .ok (.iconst 2, 1) := by decide +kernel
theorem dMo_wrong_147 : decode cMo_wrong 147 = .ok (.invokevirtual 97, 3) := by decide +kernel
theorem dMo_wrong_150 : decode cMo_wrong 150 = .ok (.lconst 1, 1) := by decide +kernel
theorem dMo_wrong_151 : decode cMo_wrong 151 = .ok (.lcmp, 1) := by decide +kernel
theorem dMo_wrong_152 : decode cMo_wrong 152 = .ok (.ifCond .eq 6, 3) := by decide +kernel
theorem dMo_wrong_155 : decode cMo_wrong 155 = .ok (.bipush 20, 2) := by decide +kernel
theorem dMo_wrong_157 : decode cMo_wrong 157 = .ok (.ireturn, 1) := by decide +kernel
theorem dMo_wrong_158 : decode cMo_wrong 158 = .ok (.lload_n 1, 1) := by decide +kernel
theorem dMo_wrong_159 : decode cMo_wrong 159 = .ok (.lconst 1, 1) := by decide +kernel
theorem dMo_wrong_160 : decode cMo_wrong 160 = .ok (.ldc2_w 107, 3) := by decide +kernel
theorem dMo_wrong_163 : decode cMo_wrong 163 = .ok (.invokestatic 84, 3) := by decide +kernel
theorem dMo_wrong_166 : decode cMo_wrong 166 = .ok (.ifCond .ne 6, 3) := by decide +kernel
theorem dMo_wrong_169 : decode cMo_wrong 169 = .ok (.bipush 22, 2) := by decide +kernel
theorem dMo_wrong_171 : decode cMo_wrong 171 = .ok (.ireturn, 1) := by decide +kernel
theorem dMo_wrong_172 : decode cMo_wrong 172 = .ok (.aload_n 0, 1) := by decide +kernel
theorem dMo_wrong_173 : decode cMo_wrong 173 = .ok (.bipush 24, 2) := by decide +kernel
theorem dMo_wrong_175 : decode cMo_wrong 175 = .ok (.iconst 4, 1) := by decide +kernel
theorem dMo_wrong_176 : decode cMo_wrong 176 = .ok (.invokevirtual 97, 3) := by decide +kernel
theorem dMo_wrong_179 : decode cMo_wrong 179 = .ok (.ldc2_w 109, 3) := by decide +kernel
theorem dMo_wrong_182 : decode cMo_wrong 182 = .ok (.ldc2_w 111, 3) := by decide +kernel
theorem dMo_wrong_185 : decode cMo_wrong 185 = .ok (.invokestatic 84, 3) := by decide +kernel
theorem dMo_wrong_188 : decode cMo_wrong 188 = .ok (.ifCond .ne 6, 3) := by decide +kernel
theorem dMo_wrong_191 : decode cMo_wrong 191 = .ok (.bipush 24, 2) := by decide +kernel
theorem dMo_wrong_193 : decode cMo_wrong 193 = .ok (.ireturn, 1) := by decide +kernel
theorem dMo_wrong_194 : decode cMo_wrong 194 = .ok (.aload_n 0, 1) := by decide +kernel
theorem dMo_wrong_195 : decode cMo_wrong 195 = .ok (.bipush 28, 2) := by decide +kernel
theorem dMo_wrong_197 : decode cMo_wrong 197 = .ok (.iconst 4, 1) := by decide +kernel
theorem dMo_wrong_198 : decode cMo_wrong 198 = .ok (.invokevirtual 97, 3) := by decide +kernel
theorem dMo_wrong_201 : decode cMo_wrong 201 = .ok (.aload_n 0, 1) := by decide +kernel
theorem dMo_wrong_202 : decode cMo_wrong 202 = .ok (.bipush 24, 2) := by decide +kernel
theorem dMo_wrong_204 : decode cMo_wrong 204 = .ok (.iconst 4, 1) := by decide +kernel
theorem dMo_wrong_205 : decode cMo_wrong 205 = .ok (.invokevirtual 97, 3) := by decide +kernel
theorem dMo_wrong_208 : decode cMo_wrong 208 = .ok (.lload_n 3, 1) := by decide +kernel
theorem dMo_wrong_209 : decode cMo_wrong 209 = .ok (.lmul, 1) := by decide +kernel
theorem dMo_wrong_210 : decode cMo_wrong 210 = .ok (.lcmp, 1) := by decide +kernel
theorem dMo_wrong_211 : decode cMo_wrong 211 = .ok (.ifCond .eq 6, 3) := by decide +kernel
theorem dMo_wrong_214 : decode cMo_wrong 214 = .ok (.bipush 28, 2) := by decide +kernel
theorem dMo_wrong_216 : decode cMo_wrong 216 = .ok (.ireturn, 1) := by decide +kernel
theorem dMo_wrong_217 : decode cMo_wrong 217 = .ok (.lload_n 3, 1) := by decide +kernel
theorem dMo_wrong_218 : decode cMo_wrong 218 = .ok (.lload_n 1, 1) := by decide +kernel
theorem dMo_wrong_219 : decode cMo_wrong 219 = .ok (.lload 5, 2) := by decide +kernel
theorem dMo_wrong_221 : decode cMo_wrong 221 = .ok (.lmul, 1) := by decide +kernel
theorem dMo_wrong_222 : decode cMo_wrong 222 = .ok (.ldc2_w 82, 3) := by decide +kernel
theorem dMo_wrong_225 : decode cMo_wrong 225 = .ok (.ldiv, 1) := by decide +kernel
theorem dMo_wrong_226 : decode cMo_wrong 226 = .ok (.lcmp, 1) := by decide +kernel
theorem dMo_wrong_227 : decode cMo_wrong 227 = .ok (.ifCond .eq 6, 3) := by decide +kernel
theorem dMo_wrong_230 : decode cMo_wrong 230 = .ok (.bipush 32, 2) := by decide +kernel
theorem dMo_wrong_232 : decode cMo_wrong 232 = .ok (.ireturn, 1) := by decide +kernel
theorem dMo_wrong_233 : decode cMo_wrong 233 = .ok (.lload 5, 2) := by decide +kernel
theorem dMo_wrong_235 : decode cMo_wrong 235 = .ok (.ldc2_w 82, 3) := by decide +kernel
theorem dMo_wrong_238 : decode cMo_wrong 238 = .ok (.lcmp, 1) := by decide +kernel
theorem dMo_wrong_239 : decode cMo_wrong 239 = .ok (.ifCond .eq 15, 3) := by decide +kernel
theorem dMo_wrong_242 : decode cMo_wrong 242 = .ok (.lload 5, 2) := by decide +kernel
theorem dMo_wrong_244 : decode cMo_wrong 244 = .ok (.ldc2_w 105, 3) := by decide +kernel
theorem dMo_wrong_247 : decode cMo_wrong 247 = .ok (.lcmp, 1) := by decide +kernel
theorem dMo_wrong_248 : decode cMo_wrong 248 = .ok (.ifCond .eq 6, 3) := by decide +kernel
theorem dMo_wrong_251 : decode cMo_wrong 251 = .ok (.bipush 34, 2) := by decide +kernel
theorem dMo_wrong_253 : decode cMo_wrong 253 = .ok (.ireturn, 1) := by decide +kernel
theorem dMo_wrong_254 : decode cMo_wrong 254 = .ok (.aload_n 0, 1) := by decide +kernel
theorem dMo_wrong_255 : decode cMo_wrong 255 = .ok (.bipush 36, 2) := by decide +kernel
theorem dMo_wrong_257 : decode cMo_wrong 257 = .ok (.bipush 100, 2) := by decide +kernel
theorem dMo_wrong_259 : decode cMo_wrong 259 = .ok (.bipush 97, 2) := by decide +kernel
theorem dMo_wrong_261 : decode cMo_wrong 261 = .ok (.bipush 116, 2) := by decide +kernel
theorem dMo_wrong_263 : decode cMo_wrong 263 = .ok (.bipush 97, 2) := by decide +kernel
theorem dMo_wrong_265 : decode cMo_wrong 265 = .ok (.invokevirtual 101, 3) := by decide +kernel
theorem dMo_wrong_268 : decode cMo_wrong 268 = .ok (.ifCond .ne 6, 3) := by decide +kernel
theorem dMo_wrong_271 : decode cMo_wrong 271 = .ok (.bipush 36, 2) := by decide +kernel
theorem dMo_wrong_273 : decode cMo_wrong 273 = .ok (.ireturn, 1) := by decide +kernel
theorem dMo_wrong_274 : decode cMo_wrong 274 = .ok (.lload 7, 2) := by decide +kernel
theorem dMo_wrong_276 : decode cMo_wrong 276 = .ok (.aload_n 0, 1) := by decide +kernel
theorem dMo_wrong_277 : decode cMo_wrong 277 = .ok (.getfield 92, 3) := by decide +kernel
theorem dMo_wrong_280 : decode cMo_wrong 280 = .ok (.bipush 44, 2) := by decide +kernel
theorem dMo_wrong_282 : decode cMo_wrong 282 = .ok (.isub, 1) := by decide +kernel
theorem dMo_wrong_283 : decode cMo_wrong 283 = .ok (.i2l, 1) := by decide +kernel
theorem dMo_wrong_284 : decode cMo_wrong 284 = .ok (.lcmp, 1) := by decide +kernel
theorem dMo_wrong_285 : decode cMo_wrong 285 = .ok (.ifCond .ne 12, 3) := by decide +kernel
theorem dMo_wrong_288 : decode cMo_wrong 288 = .ok (.lload 7, 2) := by decide +kernel
theorem dMo_wrong_290 : decode cMo_wrong 290 = .ok (.lload_n 3, 1) := by decide +kernel
theorem dMo_wrong_291 : decode cMo_wrong 291 = .ok (.lrem, 1) := by decide +kernel
theorem dMo_wrong_292 : decode cMo_wrong 292 = .ok (.lconst 0, 1) := by decide +kernel
theorem dMo_wrong_293 : decode cMo_wrong 293 = .ok (.lcmp, 1) := by decide +kernel
theorem dMo_wrong_294 : decode cMo_wrong 294 = .ok (.ifCond .eq 8, 3) := by decide +kernel
theorem dMo_wrong_297 : decode cMo_wrong 297 = .ok (.bipush 40, 2) := by decide +kernel
theorem dMo_wrong_299 : decode cMo_wrong 299 = .ok (.goto 4, 3) := by decide +kernel
theorem dMo_wrong_302 : decode cMo_wrong 302 = .ok (.iconst (-1), 1) := by decide +kernel
theorem dMo_wrong_303 : decode cMo_wrong 303 = .ok (.ireturn, 1) := by decide +kernel
theorem dMo_number_0 : decode cMo_number 0 = .ok (.lconst 0, 1) := by decide +kernel
theorem dMo_number_1 : decode cMo_number 1 = .ok (.lstore_n 3, 1) := by decide +kernel
theorem dMo_number_2 : decode cMo_number 2 = .ok (.iload_n 2, 1) := by decide +kernel
theorem dMo_number_3 : decode cMo_number 3 = .ok (.iconst 1, 1) := by decide +kernel
theorem dMo_number_4 : decode cMo_number 4 = .ok (.isub, 1) := by decide +kernel
theorem dMo_number_5 : decode cMo_number 5 = .ok (.istore 5, 2) := by decide +kernel
theorem dMo_number_7 : decode cMo_number 7 = .ok (.iload 5, 2) := by decide +kernel
theorem dMo_number_9 : decode cMo_number 9 = .ok (.ifCond .lt 25, 3) := by decide +kernel
theorem dMo_number_12 : decode cMo_number 12 = .ok (.lload_n 3, 1) := by decide +kernel
theorem dMo_number_13 : decode cMo_number 13 = .ok (.bipush 8, 2) := by decide +kernel
theorem dMo_number_15 : decode cMo_number 15 = .ok (.lshl, 1) := by decide +kernel
theorem dMo_number_16 : decode cMo_number 16 = .ok (.aload_n 0, 1) := by decide +kernel
theorem dMo_number_17 : decode cMo_number 17 = .ok (.getfield 30, 3) := by decide +kernel
theorem dMo_number_20 : decode cMo_number 20 = .ok (.iload_n 1, 1) := by decide +kernel
theorem dMo_number_21 : decode cMo_number 21 = .ok (.iload 5, 2) := by decide +kernel
theorem dMo_number_23 : decode cMo_number 23 = .ok (.iadd, 1) := by decide +kernel
theorem dMo_number_24 : decode cMo_number 24 = .ok (.iaload, 1) := by decide +kernel
theorem dMo_number_25 : decode cMo_number 25 = .ok (.i2l, 1) := by decide +kernel
theorem dMo_number_26 : decode cMo_number 26 = .ok (.lor, 1) := by decide +kernel
theorem dMo_number_27 : decode cMo_number 27 = .ok (.lstore_n 3, 1) := by decide +kernel
theorem dMo_number_28 : decode cMo_number 28 = .ok (.iinc 5 (-1), 3) := by decide +kernel
theorem dMo_number_31 : decode cMo_number 31 = .ok (.goto (-24), 3) := by decide +kernel
theorem dMo_number_34 : decode cMo_number 34 = .ok (.lload_n 3, 1) := by decide +kernel
theorem dMo_number_35 : decode cMo_number 35 = .ok (.lreturn, 1) := by decide +kernel
theorem dMo_spells_0 : decode cMo_spells 0 = .ok (.aload_n 0, 1) := by decide +kernel
theorem dMo_spells_1 : decode cMo_spells 1 = .ok (.getfield 30, 3) := by decide +kernel
theorem dMo_spells_4 : decode cMo_spells 4 = .ok (.iload_n 1, 1) := by decide +kernel
theorem dMo_spells_5 : decode cMo_spells 5 = .ok (.iaload, 1) := by decide +kernel
theorem dMo_spells_6 : decode cMo_spells 6 = .ok (.iload_n 2, 1) := by decide +kernel
theorem dMo_spells_7 : decode cMo_spells 7 = .ok (.if_icmp .ne 45, 3) := by decide +kernel
theorem dMo_spells_10 : decode cMo_spells 10 = .ok (.aload_n 0, 1) := by decide +kernel
theorem dMo_spells_11 : decode cMo_spells 11 = .ok (.getfield 30, 3) := by decide +kernel
theorem dMo_spells_14 : decode cMo_spells 14 = .ok (.iload_n 1, 1) := by decide +kernel
theorem dMo_spells_15 : decode cMo_spells 15 = .ok (.iconst 1, 1) := by decide +kernel
theorem dMo_spells_16 : decode cMo_spells 16 = .ok (.iadd, 1) := by decide +kernel
theorem dMo_spells_17 : decode cMo_spells 17 = .ok (.iaload, 1) := by decide +kernel
theorem dMo_spells_18 : decode cMo_spells 18 = .ok (.iload_n 3, 1) := by decide +kernel
theorem dMo_spells_19 : decode cMo_spells 19 = .ok (.if_icmp .ne 33, 3) := by decide +kernel
theorem dMo_spells_22 : decode cMo_spells 22 = .ok (.aload_n 0, 1) := by decide +kernel
theorem dMo_spells_23 : decode cMo_spells 23 = .ok (.getfield 30, 3) := by decide +kernel
theorem dMo_spells_26 : decode cMo_spells 26 = .ok (.iload_n 1, 1) := by decide +kernel
theorem dMo_spells_27 : decode cMo_spells 27 = .ok (.iconst 2, 1) := by decide +kernel
theorem dMo_spells_28 : decode cMo_spells 28 = .ok (.iadd, 1) := by decide +kernel
theorem dMo_spells_29 : decode cMo_spells 29 = .ok (.iaload, 1) := by decide +kernel
theorem dMo_spells_30 : decode cMo_spells 30 = .ok (.iload 4, 2) := by decide +kernel
theorem dMo_spells_32 : decode cMo_spells 32 = .ok (.if_icmp .ne 20, 3) := by decide +kernel
theorem dMo_spells_35 : decode cMo_spells 35 = .ok (.aload_n 0, 1) := by decide +kernel
theorem dMo_spells_36 : decode cMo_spells 36 = .ok (.getfield 30, 3) := by decide +kernel
theorem dMo_spells_39 : decode cMo_spells 39 = .ok (.iload_n 1, 1) := by decide +kernel
theorem dMo_spells_40 : decode cMo_spells 40 = .ok (.iconst 3, 1) := by decide +kernel
theorem dMo_spells_41 : decode cMo_spells 41 = .ok (.iadd, 1) := by decide +kernel
theorem dMo_spells_42 : decode cMo_spells 42 = .ok (.iaload, 1) := by decide +kernel
theorem dMo_spells_43 : decode cMo_spells 43 = .ok (.iload 5, 2) := by decide +kernel
theorem dMo_spells_45 : decode cMo_spells 45 = .ok (.if_icmp .ne 7, 3) := by decide +kernel
theorem dMo_spells_48 : decode cMo_spells 48 = .ok (.iconst 1, 1) := by decide +kernel
theorem dMo_spells_49 : decode cMo_spells 49 = .ok (.goto 4, 3) := by decide +kernel
theorem dMo_spells_52 : decode cMo_spells 52 = .ok (.iconst 0, 1) := by decide +kernel
theorem dMo_spells_53 : decode cMo_spells 53 = .ok (.ireturn, 1) := by decide +kernel
theorem dMo_heard_0 : decode cMo_heard 0 = .ok (.iload_n 2, 1) := by decide +kernel
theorem dMo_heard_1 : decode cMo_heard 1 = .ok (.bipush 8, 2) := by decide +kernel
theorem dMo_heard_3 : decode cMo_heard 3 = .ok (.if_icmp .ne 20, 3) := by decide +kernel
theorem dMo_heard_6 : decode cMo_heard 6 = .ok (.aload_n 0, 1) := by decide +kernel
theorem dMo_heard_7 : decode cMo_heard 7 = .ok (.getfield 30, 3) := by decide +kernel
theorem dMo_heard_10 : decode cMo_heard 10 = .ok (.iload_n 1, 1) := by decide +kernel
theorem dMo_heard_11 : decode cMo_heard 11 = .ok (.iaload, 1) := by decide +kernel
theorem dMo_heard_12 : decode cMo_heard 12 = .ok (.sipush 128, 3) := by decide +kernel
theorem dMo_heard_15 : decode cMo_heard 15 = .ok (.isub, 1) := by decide +kernel
theorem dMo_heard_16 : decode cMo_heard 16 = .ok (.sipush 256, 3) := by decide +kernel
theorem dMo_heard_19 : decode cMo_heard 19 = .ok (.imul, 1) := by decide +kernel
theorem dMo_heard_20 : decode cMo_heard 20 = .ok (.goto 11, 3) := by decide +kernel
theorem dMo_heard_23 : decode cMo_heard 23 = .ok (.aload_n 0, 1) := by decide +kernel
theorem dMo_heard_24 : decode cMo_heard 24 = .ok (.iload_n 1, 1) := by decide +kernel
theorem dMo_heard_25 : decode cMo_heard 25 = .ok (.iconst 2, 1) := by decide +kernel
theorem dMo_heard_26 : decode cMo_heard 26 = .ok (.invokevirtual 97, 3) := by decide +kernel
theorem dMo_heard_29 : decode cMo_heard 29 = .ok (.l2i, 1) := by decide +kernel
theorem dMo_heard_30 : decode cMo_heard 30 = .ok (.i2s, 1) := by decide +kernel
theorem dMo_heard_31 : decode cMo_heard 31 = .ok (.istore_n 3, 1) := by decide +kernel
theorem dMo_heard_32 : decode cMo_heard 32 = .ok (.iload_n 3, 1) := by decide +kernel
theorem dMo_heard_33 : decode cMo_heard 33 = .ok (.i2d, 1) := by decide +kernel
theorem dMo_heard_34 : decode cMo_heard 34 = .ok (.ldc2_w 113, 3) := by decide +kernel
theorem dMo_heard_37 : decode cMo_heard 37 = .ok (.ddiv, 1) := by decide +kernel
theorem dMo_heard_38 : decode cMo_heard 38 = .ok (.dreturn, 1) := by decide +kernel
theorem dMo_place_0 : decode cMo_place 0 = .ok (.aload_n 0, 1) := by decide +kernel
theorem dMo_place_1 : decode cMo_place 1 = .ok (.iconst 0, 1) := by decide +kernel
theorem dMo_place_2 : decode cMo_place 2 = .ok (.putfield 79, 3) := by decide +kernel
theorem dMo_place_5 : decode cMo_place 5 = .ok (.aload_n 0, 1) := by decide +kernel
theorem dMo_place_6 : decode cMo_place 6 = .ok (.getfield 7, 3) := by decide +kernel
theorem dMo_place_9 : decode cMo_place 9 = .ok (.ireturn, 1) := by decide +kernel
theorem dMo_wave_0 : decode cMo_wave 0 = .ok (.aload_n 0, 1) := by decide +kernel
theorem dMo_wave_1 : decode cMo_wave 1 = .ok (.iconst 0, 1) := by decide +kernel
theorem dMo_wave_2 : decode cMo_wave 2 = .ok (.putfield 79, 3) := by decide +kernel
theorem dMo_wave_5 : decode cMo_wave 5 = .ok (.aload_n 0, 1) := by decide +kernel
theorem dMo_wave_6 : decode cMo_wave 6 = .ok (.iload_n 1, 1) := by decide +kernel
theorem dMo_wave_7 : decode cMo_wave 7 = .ok (.i2l, 1) := by decide +kernel
theorem dMo_wave_8 : decode cMo_wave 8 = .ok (.lconst 1, 1) := by decide +kernel
theorem dMo_wave_9 : decode cMo_wave 9 = .ok (.ldc2_w 131, 3) := by decide +kernel
theorem dMo_wave_12 : decode cMo_wave 12 = .ok (.invokestatic 84, 3) := by decide +kernel
theorem dMo_wave_15 : decode cMo_wave 15 = .ok (.ifCond .eq 15, 3) := by decide +kernel
theorem dMo_wave_18 : decode cMo_wave 18 = .ok (.iload_n 2, 1) := by decide +kernel
theorem dMo_wave_19 : decode cMo_wave 19 = .ok (.i2l, 1) := by decide +kernel
theorem dMo_wave_20 : decode cMo_wave 20 = .ok (.lconst 0, 1) := by decide +kernel
theorem dMo_wave_21 : decode cMo_wave 21 = .ok (.ldc2_w 133, 3) := by decide +kernel
theorem dMo_wave_24 : decode cMo_wave 24 = .ok (.invokestatic 84, 3) := by decide +kernel
theorem dMo_wave_27 : decode cMo_wave 27 = .ok (.ifCond .ne 7, 3) := by decide +kernel
theorem dMo_wave_30 : decode cMo_wave 30 = .ok (.iconst 1, 1) := by decide +kernel
theorem dMo_wave_31 : decode cMo_wave 31 = .ok (.goto 4, 3) := by decide +kernel
theorem dMo_wave_34 : decode cMo_wave 34 = .ok (.iconst 0, 1) := by decide +kernel
theorem dMo_wave_35 : decode cMo_wave 35 = .ok (.iconst 1, 1) := by decide +kernel
theorem dMo_wave_36 : decode cMo_wave 36 = .ok (.invokevirtual 88, 3) := by decide +kernel
theorem dMo_wave_39 : decode cMo_wave 39 = .ok (.ifCond .ne 28, 3) := by decide +kernel
theorem dMo_wave_42 : decode cMo_wave 42 = .ok (.aload_n 0, 1) := by decide +kernel
theorem dMo_wave_43 : decode cMo_wave 43 = .ok (.aload_n 0, 1) := by decide +kernel
theorem dMo_wave_44 : decode cMo_wave 44 = .ok (.getfield 125, 3) := by decide +kernel
theorem dMo_wave_47 : decode cMo_wave 47 = .ok (.iload_n 1, 1) := by decide +kernel
theorem dMo_wave_48 : decode cMo_wave 48 = .ok (.iadd, 1) := by decide +kernel
theorem dMo_wave_49 : decode cMo_wave 49 = .ok (.sipush 320, 3) := by decide +kernel
theorem dMo_wave_52 : decode cMo_wave 52 = .ok (.if_icmp .le 7, 3) := by decide +kernel
theorem dMo_wave_55 : decode cMo_wave 55 = .ok (.iconst 1, 1) := by decide +kernel
theorem dMo_wave_56 : decode cMo_wave 56 = .ok (.goto 4, 3) := by decide +kernel
theorem dMo_wave_59 : decode cMo_wave 59 = .ok (.iconst 0, 1) := by decide +kernel
theorem dMo_wave_60 : decode cMo_wave 60 = .ok (.iconst 2, 1) := by decide +kernel
theorem dMo_wave_61 : decode cMo_wave 61 = .ok (.invokevirtual 88, 3) := by decide +kernel
theorem dMo_wave_64 : decode cMo_wave 64 = .ok (.ifCond .eq 5, 3) := by decide +kernel
theorem dMo_wave_67 : decode cMo_wave 67 = .ok (.iconst 0, 1) := by decide +kernel
theorem dMo_wave_68 : decode cMo_wave 68 = .ok (.ireturn, 1) := by decide +kernel
theorem dMo_wave_69 : decode cMo_wave 69 = .ok (.iconst 0, 1) := by decide +kernel
theorem dMo_wave_70 : decode cMo_wave 70 = .ok (.istore 5, 2) := by decide +kernel
theorem dMo_wave_72 : decode cMo_wave 72 = .ok (.iload 5, 2) := by decide +kernel
theorem dMo_wave_74 : decode cMo_wave 74 = .ok (.iload_n 1, 1) := by decide +kernel
theorem dMo_wave_75 : decode cMo_wave 75 = .ok (.if_icmp .ge 35, 3) := by decide +kernel
theorem dMo_wave_78 : decode cMo_wave 78 = .ok (.aload_n 0, 1) := by decide +kernel
theorem dMo_wave_79 : decode cMo_wave 79 = .ok (.getfield 52, 3) := by decide +kernel
theorem dMo_wave_82 : decode cMo_wave 82 = .ok (.aload_n 0, 1) := by decide +kernel
theorem dMo_wave_83 : decode cMo_wave 83 = .ok (.getfield 125, 3) := by decide +kernel
theorem dMo_wave_86 : decode cMo_wave 86 = .ok (.iload 5, 2) := by decide +kernel
theorem dMo_wave_88 : decode cMo_wave 88 = .ok (.iadd, 1) := by decide +kernel
theorem dMo_wave_89 : decode cMo_wave 89 = .ok (.dload_n 3, 1) := by decide +kernel
theorem dMo_wave_90 : decode cMo_wave 90 = .ok (.aload_n 0, 1) := by decide +kernel
theorem dMo_wave_91 : decode cMo_wave 91 = .ok (.getfield 71, 3) := by decide +kernel
theorem dMo_wave_94 : decode cMo_wave 94 = .ok (.iload 5, 2) := by decide +kernel
theorem dMo_wave_96 : decode cMo_wave 96 = .ok (.iload_n 2, 1) := by decide +kernel
theorem dMo_wave_97 : decode cMo_wave 97 = .ok (.imul, 1) := by decide +kernel
theorem dMo_wave_98 : decode cMo_wave 98 = .ok (.bipush 32, 2) := by decide +kernel
theorem dMo_wave_100 : decode cMo_wave 100 = .ok (.irem, 1) := by decide +kernel
theorem dMo_wave_101 : decode cMo_wave 101 = .ok (.daload, 1) := by decide +kernel
theorem dMo_wave_102 : decode cMo_wave 102 = .ok (.dmul, 1) := by decide +kernel
theorem dMo_wave_103 : decode cMo_wave 103 = .ok (.dastore, 1) := by decide +kernel
theorem dMo_wave_104 : decode cMo_wave 104 = .ok (.iinc 5 1, 3) := by decide +kernel
theorem dMo_wave_107 : decode cMo_wave 107 = .ok (.goto (-35), 3) := by decide +kernel
theorem dMo_wave_110 : decode cMo_wave 110 = .ok (.aload_n 0, 1) := by decide +kernel
theorem dMo_wave_111 : decode cMo_wave 111 = .ok (.dup, 1) := by decide +kernel
theorem dMo_wave_112 : decode cMo_wave 112 = .ok (.getfield 125, 3) := by decide +kernel
theorem dMo_wave_115 : decode cMo_wave 115 = .ok (.iload_n 1, 1) := by decide +kernel
theorem dMo_wave_116 : decode cMo_wave 116 = .ok (.iadd, 1) := by decide +kernel
theorem dMo_wave_117 : decode cMo_wave 117 = .ok (.putfield 125, 3) := by decide +kernel
theorem dMo_wave_120 : decode cMo_wave 120 = .ok (.aload_n 0, 1) := by decide +kernel
theorem dMo_wave_121 : decode cMo_wave 121 = .ok (.getfield 125, 3) := by decide +kernel
theorem dMo_wave_124 : decode cMo_wave 124 = .ok (.ireturn, 1) := by decide +kernel
theorem dMo_clear_0 : decode cMo_clear 0 = .ok (.aload_n 0, 1) := by decide +kernel
theorem dMo_clear_1 : decode cMo_clear 1 = .ok (.iconst 0, 1) := by decide +kernel
theorem dMo_clear_2 : decode cMo_clear 2 = .ok (.putfield 79, 3) := by decide +kernel
theorem dMo_clear_5 : decode cMo_clear 5 = .ok (.aload_n 0, 1) := by decide +kernel
theorem dMo_clear_6 : decode cMo_clear 6 = .ok (.getfield 125, 3) := by decide +kernel
theorem dMo_clear_9 : decode cMo_clear 9 = .ok (.istore_n 1, 1) := by decide +kernel
theorem dMo_clear_10 : decode cMo_clear 10 = .ok (.aload_n 0, 1) := by decide +kernel
theorem dMo_clear_11 : decode cMo_clear 11 = .ok (.iconst 0, 1) := by decide +kernel
theorem dMo_clear_12 : decode cMo_clear 12 = .ok (.putfield 125, 3) := by decide +kernel
theorem dMo_clear_15 : decode cMo_clear 15 = .ok (.aload_n 0, 1) := by decide +kernel
theorem dMo_clear_16 : decode cMo_clear 16 = .ok (.iconst 0, 1) := by decide +kernel
theorem dMo_clear_17 : decode cMo_clear 17 = .ok (.putfield 128, 3) := by decide +kernel
theorem dMo_clear_20 : decode cMo_clear 20 = .ok (.iload_n 1, 1) := by decide +kernel
theorem dMo_clear_21 : decode cMo_clear 21 = .ok (.ireturn, 1) := by decide +kernel
theorem dMo_sample_0 : decode cMo_sample 0 = .ok (.aload_n 0, 1) := by decide +kernel
theorem dMo_sample_1 : decode cMo_sample 1 = .ok (.iconst 0, 1) := by decide +kernel
theorem dMo_sample_2 : decode cMo_sample 2 = .ok (.putfield 79, 3) := by decide +kernel
theorem dMo_sample_5 : decode cMo_sample 5 = .ok (.aload_n 0, 1) := by decide +kernel
theorem dMo_sample_6 : decode cMo_sample 6 = .ok (.iload_n 1, 1) := by decide +kernel
theorem dMo_sample_7 : decode cMo_sample 7 = .ok (.i2l, 1) := by decide +kernel
theorem dMo_sample_8 : decode cMo_sample 8 = .ok (.lconst 0, 1) := by decide +kernel
theorem dMo_sample_9 : decode cMo_sample 9 = .ok (.aload_n 0, 1) := by decide +kernel
theorem dMo_sample_10 : decode cMo_sample 10 = .ok (.getfield 125, 3) := by decide +kernel
theorem dMo_sample_13 : decode cMo_sample 13 = .ok (.iconst 1, 1) := by decide +kernel
theorem dMo_sample_14 : decode cMo_sample 14 = .ok (.isub, 1) := by decide +kernel
theorem dMo_sample_15 : decode cMo_sample 15 = .ok (.i2l, 1) := by decide +kernel
theorem dMo_sample_16 : decode cMo_sample 16 = .ok (.invokestatic 84, 3) := by decide +kernel
theorem dMo_sample_19 : decode cMo_sample 19 = .ok (.ifCond .ne 7, 3) := by decide +kernel
theorem dMo_sample_22 : decode cMo_sample 22 = .ok (.iconst 1, 1) := by decide +kernel
theorem dMo_sample_23 : decode cMo_sample 23 = .ok (.goto 4, 3) := by decide +kernel
theorem dMo_sample_26 : decode cMo_sample 26 = .ok (.iconst 0, 1) := by decide +kernel
theorem dMo_sample_27 : decode cMo_sample 27 = .ok (.iconst 1, 1) := by decide +kernel
theorem dMo_sample_28 : decode cMo_sample 28 = .ok (.invokevirtual 88, 3) := by decide +kernel
theorem dMo_sample_31 : decode cMo_sample 31 = .ok (.ifCond .eq 7, 3) := by decide +kernel
theorem dMo_sample_34 : decode cMo_sample 34 = .ok (.dconst 0, 1) := by decide +kernel
theorem dMo_sample_35 : decode cMo_sample 35 = .ok (.goto 9, 3) := by decide +kernel
theorem dMo_sample_38 : decode cMo_sample 38 = .ok (.aload_n 0, 1) := by decide +kernel
theorem dMo_sample_39 : decode cMo_sample 39 = .ok (.getfield 52, 3) := by decide +kernel
theorem dMo_sample_42 : decode cMo_sample 42 = .ok (.iload_n 1, 1) := by decide +kernel
theorem dMo_sample_43 : decode cMo_sample 43 = .ok (.daload, 1) := by decide +kernel
theorem dMo_sample_44 : decode cMo_sample 44 = .ok (.dreturn, 1) := by decide +kernel
theorem dMo_power_0 : decode cMo_power 0 = .ok (.aload_n 0, 1) := by decide +kernel
theorem dMo_power_1 : decode cMo_power 1 = .ok (.iconst 0, 1) := by decide +kernel
theorem dMo_power_2 : decode cMo_power 2 = .ok (.putfield 79, 3) := by decide +kernel
theorem dMo_power_5 : decode cMo_power 5 = .ok (.aload_n 0, 1) := by decide +kernel
theorem dMo_power_6 : decode cMo_power 6 = .ok (.iload_n 1, 1) := by decide +kernel
theorem dMo_power_7 : decode cMo_power 7 = .ok (.i2l, 1) := by decide +kernel
theorem dMo_power_8 : decode cMo_power 8 = .ok (.lconst 0, 1) := by decide +kernel
theorem dMo_power_9 : decode cMo_power 9 = .ok (.aload_n 0, 1) := by decide +kernel
theorem dMo_power_10 : decode cMo_power 10 = .ok (.invokevirtual 155, 3) := by decide +kernel
theorem dMo_power_13 : decode cMo_power 13 = .ok (.iconst 1, 1) := by decide +kernel
theorem dMo_power_14 : decode cMo_power 14 = .ok (.isub, 1) := by decide +kernel
theorem dMo_power_15 : decode cMo_power 15 = .ok (.i2l, 1) := by decide +kernel
theorem dMo_power_16 : decode cMo_power 16 = .ok (.invokestatic 84, 3) := by decide +kernel
theorem dMo_power_19 : decode cMo_power 19 = .ok (.ifCond .ne 7, 3) := by decide +kernel
theorem dMo_power_22 : decode cMo_power 22 = .ok (.iconst 1, 1) := by decide +kernel
theorem dMo_power_23 : decode cMo_power 23 = .ok (.goto 4, 3) := by decide +kernel
theorem dMo_power_26 : decode cMo_power 26 = .ok (.iconst 0, 1) := by decide +kernel
theorem dMo_power_27 : decode cMo_power 27 = .ok (.iconst 1, 1) := by decide +kernel
theorem dMo_power_28 : decode cMo_power 28 = .ok (.invokevirtual 88, 3) := by decide +kernel
theorem dMo_power_31 : decode cMo_power 31 = .ok (.ifCond .ne 28, 3) := by decide +kernel
theorem dMo_power_34 : decode cMo_power 34 = .ok (.aload_n 0, 1) := by decide +kernel
theorem dMo_power_35 : decode cMo_power 35 = .ok (.iload_n 2, 1) := by decide +kernel
theorem dMo_power_36 : decode cMo_power 36 = .ok (.i2l, 1) := by decide +kernel
theorem dMo_power_37 : decode cMo_power 37 = .ok (.lconst 0, 1) := by decide +kernel
theorem dMo_power_38 : decode cMo_power 38 = .ok (.ldc2_w 105, 3) := by decide +kernel
theorem dMo_power_41 : decode cMo_power 41 = .ok (.invokestatic 84, 3) := by decide +kernel
theorem dMo_power_44 : decode cMo_power 44 = .ok (.ifCond .ne 7, 3) := by decide +kernel
theorem dMo_power_47 : decode cMo_power 47 = .ok (.iconst 1, 1) := by decide +kernel
theorem dMo_power_48 : decode cMo_power 48 = .ok (.goto 4, 3) := by decide +kernel
theorem dMo_power_51 : decode cMo_power 51 = .ok (.iconst 0, 1) := by decide +kernel
theorem dMo_power_52 : decode cMo_power 52 = .ok (.iconst 2, 1) := by decide +kernel
theorem dMo_power_53 : decode cMo_power 53 = .ok (.invokevirtual 88, 3) := by decide +kernel
theorem dMo_power_56 : decode cMo_power 56 = .ok (.ifCond .eq 7, 3) := by decide +kernel
theorem dMo_power_59 : decode cMo_power 59 = .ok (.dconst 0, 1) := by decide +kernel
theorem dMo_power_60 : decode cMo_power 60 = .ok (.goto 9, 3) := by decide +kernel
theorem dMo_power_63 : decode cMo_power 63 = .ok (.aload_n 0, 1) := by decide +kernel
theorem dMo_power_64 : decode cMo_power 64 = .ok (.iload_n 1, 1) := by decide +kernel
theorem dMo_power_65 : decode cMo_power 65 = .ok (.iload_n 2, 1) := by decide +kernel
theorem dMo_power_66 : decode cMo_power 66 = .ok (.invokevirtual 137, 3) := by decide +kernel
theorem dMo_power_69 : decode cMo_power 69 = .ok (.dreturn, 1) := by decide +kernel
theorem dMo_frames_0 : decode cMo_frames 0 = .ok (.aload_n 0, 1) := by decide +kernel
theorem dMo_frames_1 : decode cMo_frames 1 = .ok (.getfield 125, 3) := by decide +kernel
theorem dMo_frames_4 : decode cMo_frames 4 = .ok (.bipush 32, 2) := by decide +kernel
theorem dMo_frames_6 : decode cMo_frames 6 = .ok (.if_icmp .ge 7, 3) := by decide +kernel
theorem dMo_frames_9 : decode cMo_frames 9 = .ok (.iconst 0, 1) := by decide +kernel
theorem dMo_frames_10 : decode cMo_frames 10 = .ok (.goto 15, 3) := by decide +kernel
theorem dMo_frames_13 : decode cMo_frames 13 = .ok (.aload_n 0, 1) := by decide +kernel
theorem dMo_frames_14 : decode cMo_frames 14 = .ok (.getfield 125, 3) := by decide +kernel
theorem dMo_frames_17 : decode cMo_frames 17 = .ok (.bipush 32, 2) := by decide +kernel
theorem dMo_frames_19 : decode cMo_frames 19 = .ok (.isub, 1) := by decide +kernel
theorem dMo_frames_20 : decode cMo_frames 20 = .ok (.bipush 16, 2) := by decide +kernel
theorem dMo_frames_22 : decode cMo_frames 22 = .ok (.idiv, 1) := by decide +kernel
theorem dMo_frames_23 : decode cMo_frames 23 = .ok (.iconst 1, 1) := by decide +kernel
theorem dMo_frames_24 : decode cMo_frames 24 = .ok (.iadd, 1) := by decide +kernel
theorem dMo_frames_25 : decode cMo_frames 25 = .ok (.ireturn, 1) := by decide +kernel
theorem dMo_powerOf_0 : decode cMo_powerOf 0 = .ok (.dconst 0, 1) := by decide +kernel
theorem dMo_powerOf_1 : decode cMo_powerOf 1 = .ok (.dstore_n 3, 1) := by decide +kernel
theorem dMo_powerOf_2 : decode cMo_powerOf 2 = .ok (.dconst 0, 1) := by decide +kernel
theorem dMo_powerOf_3 : decode cMo_powerOf 3 = .ok (.dstore 5, 2) := by decide +kernel
theorem dMo_powerOf_5 : decode cMo_powerOf 5 = .ok (.iconst 0, 1) := by decide +kernel
theorem dMo_powerOf_6 : decode cMo_powerOf 6 = .ok (.istore 7, 2) := by decide +kernel
theorem dMo_powerOf_8 : decode cMo_powerOf 8 = .ok (.iload 7, 2) := by decide +kernel
theorem dMo_powerOf_10 : decode cMo_powerOf 10 = .ok (.bipush 32, 2) := by decide +kernel
theorem dMo_powerOf_12 : decode cMo_powerOf 12 = .ok (.if_icmp .ge 77, 3) := by decide +kernel
theorem dMo_powerOf_15 : decode cMo_powerOf 15 = .ok (.aload_n 0, 1) := by decide +kernel
theorem dMo_powerOf_16 : decode cMo_powerOf 16 = .ok (.getfield 52, 3) := by decide +kernel
theorem dMo_powerOf_19 : decode cMo_powerOf 19 = .ok (.bipush 16, 2) := by decide +kernel
theorem dMo_powerOf_21 : decode cMo_powerOf 21 = .ok (.iload_n 1, 1) := by decide +kernel
theorem dMo_powerOf_22 : decode cMo_powerOf 22 = .ok (.imul, 1) := by decide +kernel
theorem dMo_powerOf_23 : decode cMo_powerOf 23 = .ok (.iload 7, 2) := by decide +kernel
theorem dMo_powerOf_25 : decode cMo_powerOf 25 = .ok (.iadd, 1) := by decide +kernel
theorem dMo_powerOf_26 : decode cMo_powerOf 26 = .ok (.daload, 1) := by decide +kernel
theorem dMo_powerOf_27 : decode cMo_powerOf 27 = .ok (.ldc2_w 135, 3) := by decide +kernel
theorem dMo_powerOf_30 : decode cMo_powerOf 30 = .ok (.ldc2_w 135, 3) := by decide +kernel
theorem dMo_powerOf_33 : decode cMo_powerOf 33 = .ok (.aload_n 0, 1) := by decide +kernel
theorem dMo_powerOf_34 : decode cMo_powerOf 34 = .ok (.getfield 71, 3) := by decide +kernel
theorem dMo_powerOf_37 : decode cMo_powerOf 37 = .ok (.iload 7, 2) := by decide +kernel
theorem dMo_powerOf_39 : decode cMo_powerOf 39 = .ok (.daload, 1) := by decide +kernel
theorem dMo_powerOf_40 : decode cMo_powerOf 40 = .ok (.dmul, 1) := by decide +kernel
theorem dMo_powerOf_41 : decode cMo_powerOf 41 = .ok (.dsub, 1) := by decide +kernel
theorem dMo_powerOf_42 : decode cMo_powerOf 42 = .ok (.dmul, 1) := by decide +kernel
theorem dMo_powerOf_43 : decode cMo_powerOf 43 = .ok (.dstore 8, 2) := by decide +kernel
theorem dMo_powerOf_45 : decode cMo_powerOf 45 = .ok (.dload_n 3, 1) := by decide +kernel
theorem dMo_powerOf_46 : decode cMo_powerOf 46 = .ok (.dload 8, 2) := by decide +kernel
theorem dMo_powerOf_48 : decode cMo_powerOf 48 = .ok (.aload_n 0, 1) := by decide +kernel
theorem dMo_powerOf_49 : decode cMo_powerOf 49 = .ok (.getfield 71, 3) := by decide +kernel
theorem dMo_powerOf_52 : decode cMo_powerOf 52 = .ok (.iload_n 2, 1) := by decide +kernel
theorem dMo_powerOf_53 : decode cMo_powerOf 53 = .ok (.iload 7, 2) := by decide +kernel
theorem dMo_powerOf_55 : decode cMo_powerOf 55 = .ok (.imul, 1) := by decide +kernel
theorem dMo_powerOf_56 : decode cMo_powerOf 56 = .ok (.bipush 32, 2) := by decide +kernel
theorem dMo_powerOf_58 : decode cMo_powerOf 58 = .ok (.irem, 1) := by decide +kernel
theorem dMo_powerOf_59 : decode cMo_powerOf 59 = .ok (.daload, 1) := by decide +kernel
theorem dMo_powerOf_60 : decode cMo_powerOf 60 = .ok (.dmul, 1) := by decide +kernel
theorem dMo_powerOf_61 : decode cMo_powerOf 61 = .ok (.dadd, 1) := by decide +kernel
theorem dMo_powerOf_62 : decode cMo_powerOf 62 = .ok (.dstore_n 3, 1) := by decide +kernel
theorem dMo_powerOf_63 : decode cMo_powerOf 63 = .ok (.dload 5, 2) := by decide +kernel
theorem dMo_powerOf_65 : decode cMo_powerOf 65 = .ok (.dload 8, 2) := by decide +kernel
theorem dMo_powerOf_67 : decode cMo_powerOf 67 = .ok (.aload_n 0, 1) := by decide +kernel
theorem dMo_powerOf_68 : decode cMo_powerOf 68 = .ok (.getfield 74, 3) := by decide +kernel
theorem dMo_powerOf_71 : decode cMo_powerOf 71 = .ok (.iload_n 2, 1) := by decide +kernel
theorem dMo_powerOf_72 : decode cMo_powerOf 72 = .ok (.iload 7, 2) := by decide +kernel
theorem dMo_powerOf_74 : decode cMo_powerOf 74 = .ok (.imul, 1) := by decide +kernel
theorem dMo_powerOf_75 : decode cMo_powerOf 75 = .ok (.bipush 32, 2) := by decide +kernel
theorem dMo_powerOf_77 : decode cMo_powerOf 77 = .ok (.irem, 1) := by decide +kernel
theorem dMo_powerOf_78 : decode cMo_powerOf 78 = .ok (.daload, 1) := by decide +kernel
theorem dMo_powerOf_79 : decode cMo_powerOf 79 = .ok (.dmul, 1) := by decide +kernel
theorem dMo_powerOf_80 : decode cMo_powerOf 80 = .ok (.dsub, 1) := by decide +kernel
theorem dMo_powerOf_81 : decode cMo_powerOf 81 = .ok (.dstore 5, 2) := by decide +kernel
theorem dMo_powerOf_83 : decode cMo_powerOf 83 = .ok (.iinc 7 1, 3) := by decide +kernel
theorem dMo_powerOf_86 : decode cMo_powerOf 86 = .ok (.goto (-78), 3) := by decide +kernel
theorem dMo_powerOf_89 : decode cMo_powerOf 89 = .ok (.dload_n 3, 1) := by decide +kernel
theorem dMo_powerOf_90 : decode cMo_powerOf 90 = .ok (.dload_n 3, 1) := by decide +kernel
theorem dMo_powerOf_91 : decode cMo_powerOf 91 = .ok (.dmul, 1) := by decide +kernel
theorem dMo_powerOf_92 : decode cMo_powerOf 92 = .ok (.dload 5, 2) := by decide +kernel
theorem dMo_powerOf_94 : decode cMo_powerOf 94 = .ok (.dload 5, 2) := by decide +kernel
theorem dMo_powerOf_96 : decode cMo_powerOf 96 = .ok (.dmul, 1) := by decide +kernel
theorem dMo_powerOf_97 : decode cMo_powerOf 97 = .ok (.dadd, 1) := by decide +kernel
theorem dMo_powerOf_98 : decode cMo_powerOf 98 = .ok (.dreturn, 1) := by decide +kernel
theorem dMo_level_0 : decode cMo_level 0 = .ok (.aload_n 0, 1) := by decide +kernel
theorem dMo_level_1 : decode cMo_level 1 = .ok (.iconst 0, 1) := by decide +kernel
theorem dMo_level_2 : decode cMo_level 2 = .ok (.putfield 79, 3) := by decide +kernel
theorem dMo_level_5 : decode cMo_level 5 = .ok (.aload_n 0, 1) := by decide +kernel
theorem dMo_level_6 : decode cMo_level 6 = .ok (.iload_n 1, 1) := by decide +kernel
theorem dMo_level_7 : decode cMo_level 7 = .ok (.i2l, 1) := by decide +kernel
theorem dMo_level_8 : decode cMo_level 8 = .ok (.lconst 0, 1) := by decide +kernel
theorem dMo_level_9 : decode cMo_level 9 = .ok (.aload_n 0, 1) := by decide +kernel
theorem dMo_level_10 : decode cMo_level 10 = .ok (.invokevirtual 155, 3) := by decide +kernel
theorem dMo_level_13 : decode cMo_level 13 = .ok (.iconst 1, 1) := by decide +kernel
theorem dMo_level_14 : decode cMo_level 14 = .ok (.isub, 1) := by decide +kernel
theorem dMo_level_15 : decode cMo_level 15 = .ok (.i2l, 1) := by decide +kernel
theorem dMo_level_16 : decode cMo_level 16 = .ok (.invokestatic 84, 3) := by decide +kernel
theorem dMo_level_19 : decode cMo_level 19 = .ok (.ifCond .ne 7, 3) := by decide +kernel
theorem dMo_level_22 : decode cMo_level 22 = .ok (.iconst 1, 1) := by decide +kernel
theorem dMo_level_23 : decode cMo_level 23 = .ok (.goto 4, 3) := by decide +kernel
theorem dMo_level_26 : decode cMo_level 26 = .ok (.iconst 0, 1) := by decide +kernel
theorem dMo_level_27 : decode cMo_level 27 = .ok (.iconst 1, 1) := by decide +kernel
theorem dMo_level_28 : decode cMo_level 28 = .ok (.invokevirtual 88, 3) := by decide +kernel
theorem dMo_level_31 : decode cMo_level 31 = .ok (.ifCond .ne 28, 3) := by decide +kernel
theorem dMo_level_34 : decode cMo_level 34 = .ok (.aload_n 0, 1) := by decide +kernel
theorem dMo_level_35 : decode cMo_level 35 = .ok (.iload_n 2, 1) := by decide +kernel
theorem dMo_level_36 : decode cMo_level 36 = .ok (.i2l, 1) := by decide +kernel
theorem dMo_level_37 : decode cMo_level 37 = .ok (.lconst 0, 1) := by decide +kernel
theorem dMo_level_38 : decode cMo_level 38 = .ok (.ldc2_w 158, 3) := by decide +kernel
theorem dMo_level_41 : decode cMo_level 41 = .ok (.invokestatic 84, 3) := by decide +kernel
theorem dMo_level_44 : decode cMo_level 44 = .ok (.ifCond .ne 7, 3) := by decide +kernel
theorem dMo_level_47 : decode cMo_level 47 = .ok (.iconst 1, 1) := by decide +kernel
theorem dMo_level_48 : decode cMo_level 48 = .ok (.goto 4, 3) := by decide +kernel
theorem dMo_level_51 : decode cMo_level 51 = .ok (.iconst 0, 1) := by decide +kernel
theorem dMo_level_52 : decode cMo_level 52 = .ok (.iconst 2, 1) := by decide +kernel
theorem dMo_level_53 : decode cMo_level 53 = .ok (.invokevirtual 88, 3) := by decide +kernel
theorem dMo_level_56 : decode cMo_level 56 = .ok (.ifCond .eq 7, 3) := by decide +kernel
theorem dMo_level_59 : decode cMo_level 59 = .ok (.dconst 0, 1) := by decide +kernel
theorem dMo_level_60 : decode cMo_level 60 = .ok (.goto 9, 3) := by decide +kernel
theorem dMo_level_63 : decode cMo_level 63 = .ok (.aload_n 0, 1) := by decide +kernel
theorem dMo_level_64 : decode cMo_level 64 = .ok (.iload_n 1, 1) := by decide +kernel
theorem dMo_level_65 : decode cMo_level 65 = .ok (.iload_n 2, 1) := by decide +kernel
theorem dMo_level_66 : decode cMo_level 66 = .ok (.invokevirtual 160, 3) := by decide +kernel
theorem dMo_level_69 : decode cMo_level 69 = .ok (.dreturn, 1) := by decide +kernel
theorem dMo_levelOf_0 : decode cMo_levelOf 0 = .ok (.aload_n 0, 1) := by decide +kernel
theorem dMo_levelOf_1 : decode cMo_levelOf 1 = .ok (.iload_n 1, 1) := by decide +kernel
theorem dMo_levelOf_2 : decode cMo_levelOf 2 = .ok (.iload_n 2, 1) := by decide +kernel
theorem dMo_levelOf_3 : decode cMo_levelOf 3 = .ok (.invokevirtual 146, 3) := by decide +kernel
theorem dMo_levelOf_6 : decode cMo_levelOf 6 = .ok (.dstore_n 3, 1) := by decide +kernel
theorem dMo_levelOf_7 : decode cMo_levelOf 7 = .ok (.dload_n 3, 1) := by decide +kernel
theorem dMo_levelOf_8 : decode cMo_levelOf 8 = .ok (.ldc2_w 149, 3) := by decide +kernel
theorem dMo_levelOf_11 : decode cMo_levelOf 11 = .ok (.dcmp .l, 1) := by decide +kernel
theorem dMo_levelOf_12 : decode cMo_levelOf 12 = .ok (.ifCond .le 7, 3) := by decide +kernel
theorem dMo_levelOf_15 : decode cMo_levelOf 15 = .ok (.dload_n 3, 1) := by decide +kernel
theorem dMo_levelOf_16 : decode cMo_levelOf 16 = .ok (.goto 6, 3) := by decide +kernel
theorem dMo_levelOf_19 : decode cMo_levelOf 19 = .ok (.ldc2_w 149, 3) := by decide +kernel
theorem dMo_levelOf_22 : decode cMo_levelOf 22 = .ok (.invokestatic 151, 3) := by decide +kernel
theorem dMo_levelOf_25 : decode cMo_levelOf 25 = .ok (.dreturn, 1) := by decide +kernel
theorem dMo_bandOf_0 : decode cMo_bandOf 0 = .ok (.dconst 0, 1) := by decide +kernel
theorem dMo_bandOf_1 : decode cMo_bandOf 1 = .ok (.dstore_n 3, 1) := by decide +kernel
theorem dMo_bandOf_2 : decode cMo_bandOf 2 = .ok (.iload_n 2, 1) := by decide +kernel
theorem dMo_bandOf_3 : decode cMo_bandOf 3 = .ok (.ifCond .ne 7, 3) := by decide +kernel
theorem dMo_bandOf_6 : decode cMo_bandOf 6 = .ok (.iconst 1, 1) := by decide +kernel
theorem dMo_bandOf_7 : decode cMo_bandOf 7 = .ok (.goto 23, 3) := by decide +kernel
theorem dMo_bandOf_10 : decode cMo_bandOf 10 = .ok (.iload_n 2, 1) := by decide +kernel
theorem dMo_bandOf_11 : decode cMo_bandOf 11 = .ok (.iconst 1, 1) := by decide +kernel
theorem dMo_bandOf_12 : decode cMo_bandOf 12 = .ok (.if_icmp .ne 7, 3) := by decide +kernel
theorem dMo_bandOf_15 : decode cMo_bandOf 15 = .ok (.iconst 3, 1) := by decide +kernel
theorem dMo_bandOf_16 : decode cMo_bandOf 16 = .ok (.goto 14, 3) := by decide +kernel
theorem dMo_bandOf_19 : decode cMo_bandOf 19 = .ok (.iload_n 2, 1) := by decide +kernel
theorem dMo_bandOf_20 : decode cMo_bandOf 20 = .ok (.iconst 2, 1) := by decide +kernel
theorem dMo_bandOf_21 : decode cMo_bandOf 21 = .ok (.if_icmp .ne 7, 3) := by decide +kernel
theorem dMo_bandOf_24 : decode cMo_bandOf 24 = .ok (.iconst 5, 1) := by decide +kernel
theorem dMo_bandOf_25 : decode cMo_bandOf 25 = .ok (.goto 5, 3) := by decide +kernel
theorem dMo_bandOf_28 : decode cMo_bandOf 28 = .ok (.bipush 9, 2) := by decide +kernel
theorem dMo_bandOf_30 : decode cMo_bandOf 30 = .ok (.istore 5, 2) := by decide +kernel
theorem dMo_bandOf_32 : decode cMo_bandOf 32 = .ok (.iload_n 2, 1) := by decide +kernel
theorem dMo_bandOf_33 : decode cMo_bandOf 33 = .ok (.ifCond .ne 7, 3) := by decide +kernel
theorem dMo_bandOf_36 : decode cMo_bandOf 36 = .ok (.iconst 2, 1) := by decide +kernel
theorem dMo_bandOf_37 : decode cMo_bandOf 37 = .ok (.goto 24, 3) := by decide +kernel
theorem dMo_bandOf_40 : decode cMo_bandOf 40 = .ok (.iload_n 2, 1) := by decide +kernel
theorem dMo_bandOf_41 : decode cMo_bandOf 41 = .ok (.iconst 1, 1) := by decide +kernel
theorem dMo_bandOf_42 : decode cMo_bandOf 42 = .ok (.if_icmp .ne 7, 3) := by decide +kernel
theorem dMo_bandOf_45 : decode cMo_bandOf 45 = .ok (.iconst 4, 1) := by decide +kernel
theorem dMo_bandOf_46 : decode cMo_bandOf 46 = .ok (.goto 15, 3) := by decide +kernel
theorem dMo_bandOf_49 : decode cMo_bandOf 49 = .ok (.iload_n 2, 1) := by decide +kernel
theorem dMo_bandOf_50 : decode cMo_bandOf 50 = .ok (.iconst 2, 1) := by decide +kernel
theorem dMo_bandOf_51 : decode cMo_bandOf 51 = .ok (.if_icmp .ne 8, 3) := by decide +kernel
theorem dMo_bandOf_54 : decode cMo_bandOf 54 = .ok (.bipush 8, 2) := by decide +kernel
theorem dMo_bandOf_56 : decode cMo_bandOf 56 = .ok (.goto 5, 3) := by decide +kernel
theorem dMo_bandOf_59 : decode cMo_bandOf 59 = .ok (.bipush 16, 2) := by decide +kernel
theorem dMo_bandOf_61 : decode cMo_bandOf 61 = .ok (.istore 6, 2) := by decide +kernel
theorem dMo_bandOf_63 : decode cMo_bandOf 63 = .ok (.iload 5, 2) := by decide +kernel
theorem dMo_bandOf_65 : decode cMo_bandOf 65 = .ok (.istore 7, 2) := by decide +kernel
theorem dMo_bandOf_67 : decode cMo_bandOf 67 = .ok (.iload 7, 2) := by decide +kernel
theorem dMo_bandOf_69 : decode cMo_bandOf 69 = .ok (.iload 6, 2) := by decide +kernel
theorem dMo_bandOf_71 : decode cMo_bandOf 71 = .ok (.if_icmp .gt 19, 3) := by decide +kernel
theorem dMo_bandOf_74 : decode cMo_bandOf 74 = .ok (.dload_n 3, 1) := by decide +kernel
theorem dMo_bandOf_75 : decode cMo_bandOf 75 = .ok (.aload_n 0, 1) := by decide +kernel
theorem dMo_bandOf_76 : decode cMo_bandOf 76 = .ok (.iload_n 1, 1) := by decide +kernel
theorem dMo_bandOf_77 : decode cMo_bandOf 77 = .ok (.iload 7, 2) := by decide +kernel
theorem dMo_bandOf_79 : decode cMo_bandOf 79 = .ok (.invokevirtual 137, 3) := by decide +kernel
theorem dMo_bandOf_82 : decode cMo_bandOf 82 = .ok (.dadd, 1) := by decide +kernel
theorem dMo_bandOf_83 : decode cMo_bandOf 83 = .ok (.dstore_n 3, 1) := by decide +kernel
theorem dMo_bandOf_84 : decode cMo_bandOf 84 = .ok (.iinc 7 1, 3) := by decide +kernel
theorem dMo_bandOf_87 : decode cMo_bandOf 87 = .ok (.goto (-20), 3) := by decide +kernel
theorem dMo_bandOf_90 : decode cMo_bandOf 90 = .ok (.dload_n 3, 1) := by decide +kernel
theorem dMo_bandOf_91 : decode cMo_bandOf 91 = .ok (.dreturn, 1) := by decide +kernel
theorem dMo_logarithm_0 : decode cMo_logarithm 0 = .ok (.dload_n 0, 1) := by decide +kernel
theorem dMo_logarithm_1 : decode cMo_logarithm 1 = .ok (.dstore_n 2, 1) := by decide +kernel
theorem dMo_logarithm_2 : decode cMo_logarithm 2 = .ok (.iconst 0, 1) := by decide +kernel
theorem dMo_logarithm_3 : decode cMo_logarithm 3 = .ok (.istore 4, 2) := by decide +kernel
theorem dMo_logarithm_5 : decode cMo_logarithm 5 = .ok (.dload_n 2, 1) := by decide +kernel
theorem dMo_logarithm_6 : decode cMo_logarithm 6 = .ok (.ldc2_w 140, 3) := by decide +kernel
theorem dMo_logarithm_9 : decode cMo_logarithm 9 = .ok (.dcmp .l, 1) := by decide +kernel
theorem dMo_logarithm_10 : decode cMo_logarithm 10 = .ok (.ifCond .lt 15, 3) := by decide +kernel
theorem dMo_logarithm_13 : decode cMo_logarithm 13 = .ok (.dload_n 2, 1) := by decide +kernel
theorem dMo_logarithm_14 : decode cMo_logarithm 14 = .ok (.ldc2_w 123, 3) := by decide +kernel
theorem dMo_logarithm_17 : decode cMo_logarithm 17 = .ok (.ddiv, 1) := by decide +kernel
theorem dMo_logarithm_18 : decode cMo_logarithm 18 = .ok (.dstore_n 2, 1) := by decide +kernel
theorem dMo_logarithm_19 : decode cMo_logarithm 19 = .ok (.iinc 4 1, 3) := by decide +kernel
theorem dMo_logarithm_22 : decode cMo_logarithm 22 = .ok (.goto (-17), 3) := by decide +kernel
theorem dMo_logarithm_25 : decode cMo_logarithm 25 = .ok (.dload_n 2, 1) := by decide +kernel
theorem dMo_logarithm_26 : decode cMo_logarithm 26 = .ok (.ldc2_w 142, 3) := by decide +kernel
theorem dMo_logarithm_29 : decode cMo_logarithm 29 = .ok (.dcmp .g, 1) := by decide +kernel
theorem dMo_logarithm_30 : decode cMo_logarithm 30 = .ok (.ifCond .ge 15, 3) := by decide +kernel
theorem dMo_logarithm_33 : decode cMo_logarithm 33 = .ok (.dload_n 2, 1) := by decide +kernel
theorem dMo_logarithm_34 : decode cMo_logarithm 34 = .ok (.ldc2_w 123, 3) := by decide +kernel
theorem dMo_logarithm_37 : decode cMo_logarithm 37 = .ok (.dmul, 1) := by decide +kernel
theorem dMo_logarithm_38 : decode cMo_logarithm 38 = .ok (.dstore_n 2, 1) := by decide +kernel
theorem dMo_logarithm_39 : decode cMo_logarithm 39 = .ok (.iinc 4 (-1), 3) := by decide +kernel
theorem dMo_logarithm_42 : decode cMo_logarithm 42 = .ok (.goto (-17), 3) := by decide +kernel
theorem dMo_logarithm_45 : decode cMo_logarithm 45 = .ok (.dload_n 2, 1) := by decide +kernel
theorem dMo_logarithm_46 : decode cMo_logarithm 46 = .ok (.dconst 1, 1) := by decide +kernel
theorem dMo_logarithm_47 : decode cMo_logarithm 47 = .ok (.dsub, 1) := by decide +kernel
theorem dMo_logarithm_48 : decode cMo_logarithm 48 = .ok (.dload_n 2, 1) := by decide +kernel
theorem dMo_logarithm_49 : decode cMo_logarithm 49 = .ok (.dconst 1, 1) := by decide +kernel
theorem dMo_logarithm_50 : decode cMo_logarithm 50 = .ok (.dadd, 1) := by decide +kernel
theorem dMo_logarithm_51 : decode cMo_logarithm 51 = .ok (.ddiv, 1) := by decide +kernel
theorem dMo_logarithm_52 : decode cMo_logarithm 52 = .ok (.dstore 5, 2) := by decide +kernel
theorem dMo_logarithm_54 : decode cMo_logarithm 54 = .ok (.dload 5, 2) := by decide +kernel
theorem dMo_logarithm_56 : decode cMo_logarithm 56 = .ok (.dload 5, 2) := by decide +kernel
theorem dMo_logarithm_58 : decode cMo_logarithm 58 = .ok (.dmul, 1) := by decide +kernel
theorem dMo_logarithm_59 : decode cMo_logarithm 59 = .ok (.dstore 7, 2) := by decide +kernel
theorem dMo_logarithm_61 : decode cMo_logarithm 61 = .ok (.dconst 0, 1) := by decide +kernel
theorem dMo_logarithm_62 : decode cMo_logarithm 62 = .ok (.dstore 9, 2) := by decide +kernel
theorem dMo_logarithm_64 : decode cMo_logarithm 64 = .ok (.bipush 19, 2) := by decide +kernel
theorem dMo_logarithm_66 : decode cMo_logarithm 66 = .ok (.istore 11, 2) := by decide +kernel
theorem dMo_logarithm_68 : decode cMo_logarithm 68 = .ok (.iload 11, 2) := by decide +kernel
theorem dMo_logarithm_70 : decode cMo_logarithm 70 = .ok (.ifCond .le 22, 3) := by decide +kernel
theorem dMo_logarithm_73 : decode cMo_logarithm 73 = .ok (.dload 9, 2) := by decide +kernel
theorem dMo_logarithm_75 : decode cMo_logarithm 75 = .ok (.dload 7, 2) := by decide +kernel
theorem dMo_logarithm_77 : decode cMo_logarithm 77 = .ok (.dmul, 1) := by decide +kernel
theorem dMo_logarithm_78 : decode cMo_logarithm 78 = .ok (.dconst 1, 1) := by decide +kernel
theorem dMo_logarithm_79 : decode cMo_logarithm 79 = .ok (.iload 11, 2) := by decide +kernel
theorem dMo_logarithm_81 : decode cMo_logarithm 81 = .ok (.i2d, 1) := by decide +kernel
theorem dMo_logarithm_82 : decode cMo_logarithm 82 = .ok (.ddiv, 1) := by decide +kernel
theorem dMo_logarithm_83 : decode cMo_logarithm 83 = .ok (.dadd, 1) := by decide +kernel
theorem dMo_logarithm_84 : decode cMo_logarithm 84 = .ok (.dstore 9, 2) := by decide +kernel
theorem dMo_logarithm_86 : decode cMo_logarithm 86 = .ok (.iinc 11 (-2), 3) := by decide +kernel
theorem dMo_logarithm_89 : decode cMo_logarithm 89 = .ok (.goto (-21), 3) := by decide +kernel
theorem dMo_logarithm_92 : decode cMo_logarithm 92 = .ok (.ldc2_w 123, 3) := by decide +kernel
theorem dMo_logarithm_95 : decode cMo_logarithm 95 = .ok (.dload 5, 2) := by decide +kernel
theorem dMo_logarithm_97 : decode cMo_logarithm 97 = .ok (.dmul, 1) := by decide +kernel
theorem dMo_logarithm_98 : decode cMo_logarithm 98 = .ok (.dload 9, 2) := by decide +kernel
theorem dMo_logarithm_100 : decode cMo_logarithm 100 = .ok (.dmul, 1) := by decide +kernel
theorem dMo_logarithm_101 : decode cMo_logarithm 101 = .ok (.iload 4, 2) := by decide +kernel
theorem dMo_logarithm_103 : decode cMo_logarithm 103 = .ok (.i2d, 1) := by decide +kernel
theorem dMo_logarithm_104 : decode cMo_logarithm 104 = .ok (.ldc2_w 144, 3) := by decide +kernel
theorem dMo_logarithm_107 : decode cMo_logarithm 107 = .ok (.dmul, 1) := by decide +kernel
theorem dMo_logarithm_108 : decode cMo_logarithm 108 = .ok (.dadd, 1) := by decide +kernel
theorem dMo_logarithm_109 : decode cMo_logarithm 109 = .ok (.dreturn, 1) := by decide +kernel
theorem dMo_ways_0 : decode cMo_ways 0 = .ok (.aload_n 0, 1) := by decide +kernel
theorem dMo_ways_1 : decode cMo_ways 1 = .ok (.iconst 0, 1) := by decide +kernel
theorem dMo_ways_2 : decode cMo_ways 2 = .ok (.putfield 79, 3) := by decide +kernel
theorem dMo_ways_5 : decode cMo_ways 5 = .ok (.aload_n 0, 1) := by decide +kernel
theorem dMo_ways_6 : decode cMo_ways 6 = .ok (.dload_n 1, 1) := by decide +kernel
theorem dMo_ways_7 : decode cMo_ways 7 = .ok (.dconst 0, 1) := by decide +kernel
theorem dMo_ways_8 : decode cMo_ways 8 = .ok (.dcmp .l, 1) := by decide +kernel
theorem dMo_ways_9 : decode cMo_ways 9 = .ok (.ifCond .le 22, 3) := by decide +kernel
theorem dMo_ways_12 : decode cMo_ways 12 = .ok (.iload_n 3, 1) := by decide +kernel
theorem dMo_ways_13 : decode cMo_ways 13 = .ok (.i2l, 1) := by decide +kernel
theorem dMo_ways_14 : decode cMo_ways 14 = .ok (.lconst 1, 1) := by decide +kernel
theorem dMo_ways_15 : decode cMo_ways 15 = .ok (.ldc2_w 163, 3) := by decide +kernel
theorem dMo_ways_18 : decode cMo_ways 18 = .ok (.invokestatic 84, 3) := by decide +kernel
theorem dMo_ways_21 : decode cMo_ways 21 = .ok (.ifCond .eq 10, 3) := by decide +kernel
theorem dMo_ways_24 : decode cMo_ways 24 = .ok (.dload 4, 2) := by decide +kernel
theorem dMo_ways_26 : decode cMo_ways 26 = .ok (.dconst 0, 1) := by decide +kernel
theorem dMo_ways_27 : decode cMo_ways 27 = .ok (.dcmp .g, 1) := by decide +kernel
theorem dMo_ways_28 : decode cMo_ways 28 = .ok (.ifCond .ge 7, 3) := by decide +kernel
theorem dMo_ways_31 : decode cMo_ways 31 = .ok (.iconst 1, 1) := by decide +kernel
theorem dMo_ways_32 : decode cMo_ways 32 = .ok (.goto 4, 3) := by decide +kernel
theorem dMo_ways_35 : decode cMo_ways 35 = .ok (.iconst 0, 1) := by decide +kernel
theorem dMo_ways_36 : decode cMo_ways 36 = .ok (.iconst 1, 1) := by decide +kernel
theorem dMo_ways_37 : decode cMo_ways 37 = .ok (.invokevirtual 88, 3) := by decide +kernel
theorem dMo_ways_40 : decode cMo_ways 40 = .ok (.ifCond .eq 4, 3) := by decide +kernel
theorem dMo_ways_43 : decode cMo_ways 43 = .ok (.return_, 1) := by decide +kernel
theorem dMo_ways_44 : decode cMo_ways 44 = .ok (.aload_n 0, 1) := by decide +kernel
theorem dMo_ways_45 : decode cMo_ways 45 = .ok (.dload_n 1, 1) := by decide +kernel
theorem dMo_ways_46 : decode cMo_ways 46 = .ok (.putfield 21, 3) := by decide +kernel
theorem dMo_ways_49 : decode cMo_ways 49 = .ok (.aload_n 0, 1) := by decide +kernel
theorem dMo_ways_50 : decode cMo_ways 50 = .ok (.iload_n 3, 1) := by decide +kernel
theorem dMo_ways_51 : decode cMo_ways 51 = .ok (.putfield 16, 3) := by decide +kernel
theorem dMo_ways_54 : decode cMo_ways 54 = .ok (.aload_n 0, 1) := by decide +kernel
theorem dMo_ways_55 : decode cMo_ways 55 = .ok (.dload 4, 2) := by decide +kernel
theorem dMo_ways_57 : decode cMo_ways 57 = .ok (.putfield 27, 3) := by decide +kernel
theorem dMo_ways_60 : decode cMo_ways 60 = .ok (.return_, 1) := by decide +kernel
theorem dMo_learn_0 : decode cMo_learn 0 = .ok (.aload_n 0, 1) := by decide +kernel
theorem dMo_learn_1 : decode cMo_learn 1 = .ok (.iconst 0, 1) := by decide +kernel
theorem dMo_learn_2 : decode cMo_learn 2 = .ok (.putfield 79, 3) := by decide +kernel
theorem dMo_learn_5 : decode cMo_learn 5 = .ok (.aload_n 0, 1) := by decide +kernel
theorem dMo_learn_6 : decode cMo_learn 6 = .ok (.iload_n 1, 1) := by decide +kernel
theorem dMo_learn_7 : decode cMo_learn 7 = .ok (.i2l, 1) := by decide +kernel
theorem dMo_learn_8 : decode cMo_learn 8 = .ok (.ldc2_w 165, 3) := by decide +kernel
theorem dMo_learn_11 : decode cMo_learn 11 = .ok (.ldc2_w 167, 3) := by decide +kernel
theorem dMo_learn_14 : decode cMo_learn 14 = .ok (.invokestatic 84, 3) := by decide +kernel
theorem dMo_learn_17 : decode cMo_learn 17 = .ok (.ifCond .eq 15, 3) := by decide +kernel
theorem dMo_learn_20 : decode cMo_learn 20 = .ok (.iload_n 3, 1) := by decide +kernel
theorem dMo_learn_21 : decode cMo_learn 21 = .ok (.i2l, 1) := by decide +kernel
theorem dMo_learn_22 : decode cMo_learn 22 = .ok (.lconst 1, 1) := by decide +kernel
theorem dMo_learn_23 : decode cMo_learn 23 = .ok (.ldc2_w 82, 3) := by decide +kernel
theorem dMo_learn_26 : decode cMo_learn 26 = .ok (.invokestatic 84, 3) := by decide +kernel
theorem dMo_learn_29 : decode cMo_learn 29 = .ok (.ifCond .ne 7, 3) := by decide +kernel
theorem dMo_learn_32 : decode cMo_learn 32 = .ok (.iconst 1, 1) := by decide +kernel
theorem dMo_learn_33 : decode cMo_learn 33 = .ok (.goto 4, 3) := by decide +kernel
theorem dMo_learn_36 : decode cMo_learn 36 = .ok (.iconst 0, 1) := by decide +kernel
theorem dMo_learn_37 : decode cMo_learn 37 = .ok (.iconst 1, 1) := by decide +kernel
theorem dMo_learn_38 : decode cMo_learn 38 = .ok (.invokevirtual 88, 3) := by decide +kernel
theorem dMo_learn_41 : decode cMo_learn 41 = .ok (.ifCond .ne 42, 3) := by decide +kernel
theorem dMo_learn_44 : decode cMo_learn 44 = .ok (.aload_n 0, 1) := by decide +kernel
theorem dMo_learn_45 : decode cMo_learn 45 = .ok (.iload_n 2, 1) := by decide +kernel
theorem dMo_learn_46 : decode cMo_learn 46 = .ok (.i2l, 1) := by decide +kernel
theorem dMo_learn_47 : decode cMo_learn 47 = .ok (.lconst 0, 1) := by decide +kernel
theorem dMo_learn_48 : decode cMo_learn 48 = .ok (.aload_n 0, 1) := by decide +kernel
theorem dMo_learn_49 : decode cMo_learn 49 = .ok (.invokevirtual 155, 3) := by decide +kernel
theorem dMo_learn_52 : decode cMo_learn 52 = .ok (.i2l, 1) := by decide +kernel
theorem dMo_learn_53 : decode cMo_learn 53 = .ok (.iload_n 3, 1) := by decide +kernel
theorem dMo_learn_54 : decode cMo_learn 54 = .ok (.i2l, 1) := by decide +kernel
theorem dMo_learn_55 : decode cMo_learn 55 = .ok (.lsub, 1) := by decide +kernel
theorem dMo_learn_56 : decode cMo_learn 56 = .ok (.invokestatic 84, 3) := by decide +kernel
theorem dMo_learn_59 : decode cMo_learn 59 = .ok (.ifCond .eq 12, 3) := by decide +kernel
theorem dMo_learn_62 : decode cMo_learn 62 = .ok (.aload_n 0, 1) := by decide +kernel
theorem dMo_learn_63 : decode cMo_learn 63 = .ok (.getfield 169, 3) := by decide +kernel
theorem dMo_learn_66 : decode cMo_learn 66 = .ok (.bipush 6, 2) := by decide +kernel
theorem dMo_learn_68 : decode cMo_learn 68 = .ok (.if_icmp .ne 7, 3) := by decide +kernel
theorem dMo_learn_71 : decode cMo_learn 71 = .ok (.iconst 1, 1) := by decide +kernel
theorem dMo_learn_72 : decode cMo_learn 72 = .ok (.goto 4, 3) := by decide +kernel
theorem dMo_learn_75 : decode cMo_learn 75 = .ok (.iconst 0, 1) := by decide +kernel
theorem dMo_learn_76 : decode cMo_learn 76 = .ok (.iconst 2, 1) := by decide +kernel
theorem dMo_learn_77 : decode cMo_learn 77 = .ok (.invokevirtual 88, 3) := by decide +kernel
theorem dMo_learn_80 : decode cMo_learn 80 = .ok (.ifCond .eq 5, 3) := by decide +kernel
theorem dMo_learn_83 : decode cMo_learn 83 = .ok (.iconst 0, 1) := by decide +kernel
theorem dMo_learn_84 : decode cMo_learn 84 = .ok (.ireturn, 1) := by decide +kernel
theorem dMo_learn_85 : decode cMo_learn 85 = .ok (.aload_n 0, 1) := by decide +kernel
theorem dMo_learn_86 : decode cMo_learn 86 = .ok (.getfield 34, 3) := by decide +kernel
theorem dMo_learn_89 : decode cMo_learn 89 = .ok (.aload_n 0, 1) := by decide +kernel
theorem dMo_learn_90 : decode cMo_learn 90 = .ok (.getfield 169, 3) := by decide +kernel
theorem dMo_learn_93 : decode cMo_learn 93 = .ok (.iload_n 1, 1) := by decide +kernel
theorem dMo_learn_94 : decode cMo_learn 94 = .ok (.iastore, 1) := by decide +kernel
theorem dMo_learn_95 : decode cMo_learn 95 = .ok (.aload_n 0, 1) := by decide +kernel
theorem dMo_learn_96 : decode cMo_learn 96 = .ok (.getfield 37, 3) := by decide +kernel
theorem dMo_learn_99 : decode cMo_learn 99 = .ok (.aload_n 0, 1) := by decide +kernel
theorem dMo_learn_100 : decode cMo_learn 100 = .ok (.getfield 169, 3) := by decide +kernel
theorem dMo_learn_103 : decode cMo_learn 103 = .ok (.iload_n 3, 1) := by decide +kernel
theorem dMo_learn_104 : decode cMo_learn 104 = .ok (.iastore, 1) := by decide +kernel
theorem dMo_learn_105 : decode cMo_learn 105 = .ok (.iconst 0, 1) := by decide +kernel
theorem dMo_learn_106 : decode cMo_learn 106 = .ok (.istore 4, 2) := by decide +kernel
theorem dMo_learn_108 : decode cMo_learn 108 = .ok (.iload 4, 2) := by decide +kernel
theorem dMo_learn_110 : decode cMo_learn 110 = .ok (.iload_n 3, 1) := by decide +kernel
theorem dMo_learn_111 : decode cMo_learn 111 = .ok (.if_icmp .ge 54, 3) := by decide +kernel
theorem dMo_learn_114 : decode cMo_learn 114 = .ok (.iconst 0, 1) := by decide +kernel
theorem dMo_learn_115 : decode cMo_learn 115 = .ok (.istore 5, 2) := by decide +kernel
theorem dMo_learn_117 : decode cMo_learn 117 = .ok (.iload 5, 2) := by decide +kernel
theorem dMo_learn_119 : decode cMo_learn 119 = .ok (.iconst 4, 1) := by decide +kernel
theorem dMo_learn_120 : decode cMo_learn 120 = .ok (.if_icmp .ge 39, 3) := by decide +kernel
theorem dMo_learn_123 : decode cMo_learn 123 = .ok (.aload_n 0, 1) := by decide +kernel
theorem dMo_learn_124 : decode cMo_learn 124 = .ok (.getfield 56, 3) := by decide +kernel
theorem dMo_learn_127 : decode cMo_learn 127 = .ok (.bipush 32, 2) := by decide +kernel
theorem dMo_learn_129 : decode cMo_learn 129 = .ok (.aload_n 0, 1) := by decide +kernel
theorem dMo_learn_130 : decode cMo_learn 130 = .ok (.getfield 169, 3) := by decide +kernel
theorem dMo_learn_133 : decode cMo_learn 133 = .ok (.imul, 1) := by decide +kernel
theorem dMo_learn_134 : decode cMo_learn 134 = .ok (.iconst 4, 1) := by decide +kernel
theorem dMo_learn_135 : decode cMo_learn 135 = .ok (.iload 4, 2) := by decide +kernel
theorem dMo_learn_137 : decode cMo_learn 137 = .ok (.imul, 1) := by decide +kernel
theorem dMo_learn_138 : decode cMo_learn 138 = .ok (.iadd, 1) := by decide +kernel
theorem dMo_learn_139 : decode cMo_learn 139 = .ok (.iload 5, 2) := by decide +kernel
theorem dMo_learn_141 : decode cMo_learn 141 = .ok (.iadd, 1) := by decide +kernel
theorem dMo_learn_142 : decode cMo_learn 142 = .ok (.aload_n 0, 1) := by decide +kernel
theorem dMo_learn_143 : decode cMo_learn 143 = .ok (.iload_n 2, 1) := by decide +kernel
theorem dMo_learn_144 : decode cMo_learn 144 = .ok (.iload 4, 2) := by decide +kernel
theorem dMo_learn_146 : decode cMo_learn 146 = .ok (.iadd, 1) := by decide +kernel
theorem dMo_learn_147 : decode cMo_learn 147 = .ok (.iload 5, 2) := by decide +kernel
theorem dMo_learn_149 : decode cMo_learn 149 = .ok (.invokevirtual 160, 3) := by decide +kernel
theorem dMo_learn_152 : decode cMo_learn 152 = .ok (.dastore, 1) := by decide +kernel
theorem dMo_learn_153 : decode cMo_learn 153 = .ok (.iinc 5 1, 3) := by decide +kernel
theorem dMo_learn_156 : decode cMo_learn 156 = .ok (.goto (-39), 3) := by decide +kernel
theorem dMo_learn_159 : decode cMo_learn 159 = .ok (.iinc 4 1, 3) := by decide +kernel
theorem dMo_learn_162 : decode cMo_learn 162 = .ok (.goto (-54), 3) := by decide +kernel
theorem dMo_learn_165 : decode cMo_learn 165 = .ok (.aload_n 0, 1) := by decide +kernel
theorem dMo_learn_166 : decode cMo_learn 166 = .ok (.dup, 1) := by decide +kernel
theorem dMo_learn_167 : decode cMo_learn 167 = .ok (.getfield 169, 3) := by decide +kernel
theorem dMo_learn_170 : decode cMo_learn 170 = .ok (.iconst 1, 1) := by decide +kernel
theorem dMo_learn_171 : decode cMo_learn 171 = .ok (.iadd, 1) := by decide +kernel
theorem dMo_learn_172 : decode cMo_learn 172 = .ok (.putfield 169, 3) := by decide +kernel
theorem dMo_learn_175 : decode cMo_learn 175 = .ok (.aload_n 0, 1) := by decide +kernel
theorem dMo_learn_176 : decode cMo_learn 176 = .ok (.getfield 169, 3) := by decide +kernel
theorem dMo_learn_179 : decode cMo_learn 179 = .ok (.ireturn, 1) := by decide +kernel
theorem dMo_forget_0 : decode cMo_forget 0 = .ok (.aload_n 0, 1) := by decide +kernel
theorem dMo_forget_1 : decode cMo_forget 1 = .ok (.iconst 0, 1) := by decide +kernel
theorem dMo_forget_2 : decode cMo_forget 2 = .ok (.putfield 79, 3) := by decide +kernel
theorem dMo_forget_5 : decode cMo_forget 5 = .ok (.aload_n 0, 1) := by decide +kernel
theorem dMo_forget_6 : decode cMo_forget 6 = .ok (.iload_n 1, 1) := by decide +kernel
theorem dMo_forget_7 : decode cMo_forget 7 = .ok (.i2l, 1) := by decide +kernel
theorem dMo_forget_8 : decode cMo_forget 8 = .ok (.lconst 0, 1) := by decide +kernel
theorem dMo_forget_9 : decode cMo_forget 9 = .ok (.aload_n 0, 1) := by decide +kernel
theorem dMo_forget_10 : decode cMo_forget 10 = .ok (.getfield 169, 3) := by decide +kernel
theorem dMo_forget_13 : decode cMo_forget 13 = .ok (.iconst 1, 1) := by decide +kernel
theorem dMo_forget_14 : decode cMo_forget 14 = .ok (.isub, 1) := by decide +kernel
theorem dMo_forget_15 : decode cMo_forget 15 = .ok (.i2l, 1) := by decide +kernel
theorem dMo_forget_16 : decode cMo_forget 16 = .ok (.invokestatic 84, 3) := by decide +kernel
theorem dMo_forget_19 : decode cMo_forget 19 = .ok (.ifCond .ne 7, 3) := by decide +kernel
theorem dMo_forget_22 : decode cMo_forget 22 = .ok (.iconst 1, 1) := by decide +kernel
theorem dMo_forget_23 : decode cMo_forget 23 = .ok (.goto 4, 3) := by decide +kernel
theorem dMo_forget_26 : decode cMo_forget 26 = .ok (.iconst 0, 1) := by decide +kernel
theorem dMo_forget_27 : decode cMo_forget 27 = .ok (.iconst 1, 1) := by decide +kernel
theorem dMo_forget_28 : decode cMo_forget 28 = .ok (.invokevirtual 88, 3) := by decide +kernel
theorem dMo_forget_31 : decode cMo_forget 31 = .ok (.ifCond .eq 5, 3) := by decide +kernel
theorem dMo_forget_34 : decode cMo_forget 34 = .ok (.iconst 0, 1) := by decide +kernel
theorem dMo_forget_35 : decode cMo_forget 35 = .ok (.ireturn, 1) := by decide +kernel
theorem dMo_forget_36 : decode cMo_forget 36 = .ok (.aload_n 0, 1) := by decide +kernel
theorem dMo_forget_37 : decode cMo_forget 37 = .ok (.getfield 34, 3) := by decide +kernel
theorem dMo_forget_40 : decode cMo_forget 40 = .ok (.iload_n 1, 1) := by decide +kernel
theorem dMo_forget_41 : decode cMo_forget 41 = .ok (.iaload, 1) := by decide +kernel
theorem dMo_forget_42 : decode cMo_forget 42 = .ok (.istore_n 2, 1) := by decide +kernel
theorem dMo_forget_43 : decode cMo_forget 43 = .ok (.iload_n 1, 1) := by decide +kernel
theorem dMo_forget_44 : decode cMo_forget 44 = .ok (.istore_n 3, 1) := by decide +kernel
theorem dMo_forget_45 : decode cMo_forget 45 = .ok (.iload_n 3, 1) := by decide +kernel
theorem dMo_forget_46 : decode cMo_forget 46 = .ok (.aload_n 0, 1) := by decide +kernel
theorem dMo_forget_47 : decode cMo_forget 47 = .ok (.getfield 169, 3) := by decide +kernel
theorem dMo_forget_50 : decode cMo_forget 50 = .ok (.iconst 1, 1) := by decide +kernel
theorem dMo_forget_51 : decode cMo_forget 51 = .ok (.isub, 1) := by decide +kernel
theorem dMo_forget_52 : decode cMo_forget 52 = .ok (.if_icmp .ge 79, 3) := by decide +kernel
theorem dMo_forget_55 : decode cMo_forget 55 = .ok (.aload_n 0, 1) := by decide +kernel
theorem dMo_forget_56 : decode cMo_forget 56 = .ok (.getfield 34, 3) := by decide +kernel
theorem dMo_forget_59 : decode cMo_forget 59 = .ok (.iload_n 3, 1) := by decide +kernel
theorem dMo_forget_60 : decode cMo_forget 60 = .ok (.aload_n 0, 1) := by decide +kernel
theorem dMo_forget_61 : decode cMo_forget 61 = .ok (.getfield 34, 3) := by decide +kernel
theorem dMo_forget_64 : decode cMo_forget 64 = .ok (.iload_n 3, 1) := by decide +kernel
theorem dMo_forget_65 : decode cMo_forget 65 = .ok (.iconst 1, 1) := by decide +kernel
theorem dMo_forget_66 : decode cMo_forget 66 = .ok (.iadd, 1) := by decide +kernel
theorem dMo_forget_67 : decode cMo_forget 67 = .ok (.iaload, 1) := by decide +kernel
theorem dMo_forget_68 : decode cMo_forget 68 = .ok (.iastore, 1) := by decide +kernel
theorem dMo_forget_69 : decode cMo_forget 69 = .ok (.aload_n 0, 1) := by decide +kernel
theorem dMo_forget_70 : decode cMo_forget 70 = .ok (.getfield 37, 3) := by decide +kernel
theorem dMo_forget_73 : decode cMo_forget 73 = .ok (.iload_n 3, 1) := by decide +kernel
theorem dMo_forget_74 : decode cMo_forget 74 = .ok (.aload_n 0, 1) := by decide +kernel
theorem dMo_forget_75 : decode cMo_forget 75 = .ok (.getfield 37, 3) := by decide +kernel
theorem dMo_forget_78 : decode cMo_forget 78 = .ok (.iload_n 3, 1) := by decide +kernel
theorem dMo_forget_79 : decode cMo_forget 79 = .ok (.iconst 1, 1) := by decide +kernel
theorem dMo_forget_80 : decode cMo_forget 80 = .ok (.iadd, 1) := by decide +kernel
theorem dMo_forget_81 : decode cMo_forget 81 = .ok (.iaload, 1) := by decide +kernel
theorem dMo_forget_82 : decode cMo_forget 82 = .ok (.iastore, 1) := by decide +kernel
theorem dMo_forget_83 : decode cMo_forget 83 = .ok (.iconst 0, 1) := by decide +kernel
theorem dMo_forget_84 : decode cMo_forget 84 = .ok (.istore 4, 2) := by decide +kernel
theorem dMo_forget_86 : decode cMo_forget 86 = .ok (.iload 4, 2) := by decide +kernel
theorem dMo_forget_88 : decode cMo_forget 88 = .ok (.bipush 32, 2) := by decide +kernel
theorem dMo_forget_90 : decode cMo_forget 90 = .ok (.if_icmp .ge 35, 3) := by decide +kernel
theorem dMo_forget_93 : decode cMo_forget 93 = .ok (.aload_n 0, 1) := by decide +kernel
theorem dMo_forget_94 : decode cMo_forget 94 = .ok (.getfield 56, 3) := by decide +kernel
theorem dMo_forget_97 : decode cMo_forget 97 = .ok (.bipush 32, 2) := by decide +kernel
theorem dMo_forget_99 : decode cMo_forget 99 = .ok (.iload_n 3, 1) := by decide +kernel
theorem dMo_forget_100 : decode cMo_forget 100 = .ok (.imul, 1) := by decide +kernel
theorem dMo_forget_101 : decode cMo_forget 101 = .ok (.iload 4, 2) := by decide +kernel
theorem dMo_forget_103 : decode cMo_forget 103 = .ok (.iadd, 1) := by decide +kernel
theorem dMo_forget_104 : decode cMo_forget 104 = .ok (.aload_n 0, 1) := by decide +kernel
theorem dMo_forget_105 : decode cMo_forget 105 = .ok (.getfield 56, 3) := by decide +kernel
theorem dMo_forget_108 : decode cMo_forget 108 = .ok (.bipush 32, 2) := by decide +kernel
theorem dMo_forget_110 : decode cMo_forget 110 = .ok (.iload_n 3, 1) := by decide +kernel
theorem dMo_forget_111 : decode cMo_forget 111 = .ok (.iconst 1, 1) := by decide +kernel
theorem dMo_forget_112 : decode cMo_forget 112 = .ok (.iadd, 1) := by decide +kernel
theorem dMo_forget_113 : decode cMo_forget 113 = .ok (.imul, 1) := by decide +kernel
theorem dMo_forget_114 : decode cMo_forget 114 = .ok (.iload 4, 2) := by decide +kernel
theorem dMo_forget_116 : decode cMo_forget 116 = .ok (.iadd, 1) := by decide +kernel
theorem dMo_forget_117 : decode cMo_forget 117 = .ok (.daload, 1) := by decide +kernel
theorem dMo_forget_118 : decode cMo_forget 118 = .ok (.dastore, 1) := by decide +kernel
theorem dMo_forget_119 : decode cMo_forget 119 = .ok (.iinc 4 1, 3) := by decide +kernel
theorem dMo_forget_122 : decode cMo_forget 122 = .ok (.goto (-36), 3) := by decide +kernel
theorem dMo_forget_125 : decode cMo_forget 125 = .ok (.iinc 3 1, 3) := by decide +kernel
theorem dMo_forget_128 : decode cMo_forget 128 = .ok (.goto (-83), 3) := by decide +kernel
theorem dMo_forget_131 : decode cMo_forget 131 = .ok (.aload_n 0, 1) := by decide +kernel
theorem dMo_forget_132 : decode cMo_forget 132 = .ok (.dup, 1) := by decide +kernel
theorem dMo_forget_133 : decode cMo_forget 133 = .ok (.getfield 169, 3) := by decide +kernel
theorem dMo_forget_136 : decode cMo_forget 136 = .ok (.iconst 1, 1) := by decide +kernel
theorem dMo_forget_137 : decode cMo_forget 137 = .ok (.isub, 1) := by decide +kernel
theorem dMo_forget_138 : decode cMo_forget 138 = .ok (.putfield 169, 3) := by decide +kernel
theorem dMo_forget_141 : decode cMo_forget 141 = .ok (.iload_n 2, 1) := by decide +kernel
theorem dMo_forget_142 : decode cMo_forget 142 = .ok (.ireturn, 1) := by decide +kernel
theorem dMo_warp_0 : decode cMo_warp 0 = .ok (.aload_n 0, 1) := by decide +kernel
theorem dMo_warp_1 : decode cMo_warp 1 = .ok (.iconst 0, 1) := by decide +kernel
theorem dMo_warp_2 : decode cMo_warp 2 = .ok (.putfield 79, 3) := by decide +kernel
theorem dMo_warp_5 : decode cMo_warp 5 = .ok (.aload_n 0, 1) := by decide +kernel
theorem dMo_warp_6 : decode cMo_warp 6 = .ok (.iload_n 1, 1) := by decide +kernel
theorem dMo_warp_7 : decode cMo_warp 7 = .ok (.i2l, 1) := by decide +kernel
theorem dMo_warp_8 : decode cMo_warp 8 = .ok (.lconst 0, 1) := by decide +kernel
theorem dMo_warp_9 : decode cMo_warp 9 = .ok (.aload_n 0, 1) := by decide +kernel
theorem dMo_warp_10 : decode cMo_warp 10 = .ok (.getfield 169, 3) := by decide +kernel
theorem dMo_warp_13 : decode cMo_warp 13 = .ok (.iconst 1, 1) := by decide +kernel
theorem dMo_warp_14 : decode cMo_warp 14 = .ok (.isub, 1) := by decide +kernel
theorem dMo_warp_15 : decode cMo_warp 15 = .ok (.i2l, 1) := by decide +kernel
theorem dMo_warp_16 : decode cMo_warp 16 = .ok (.invokestatic 84, 3) := by decide +kernel
theorem dMo_warp_19 : decode cMo_warp 19 = .ok (.ifCond .eq 19, 3) := by decide +kernel
theorem dMo_warp_22 : decode cMo_warp 22 = .ok (.iload_n 2, 1) := by decide +kernel
theorem dMo_warp_23 : decode cMo_warp 23 = .ok (.i2l, 1) := by decide +kernel
theorem dMo_warp_24 : decode cMo_warp 24 = .ok (.lconst 0, 1) := by decide +kernel
theorem dMo_warp_25 : decode cMo_warp 25 = .ok (.aload_n 0, 1) := by decide +kernel
theorem dMo_warp_26 : decode cMo_warp 26 = .ok (.getfield 169, 3) := by decide +kernel
theorem dMo_warp_29 : decode cMo_warp 29 = .ok (.iconst 1, 1) := by decide +kernel
theorem dMo_warp_30 : decode cMo_warp 30 = .ok (.isub, 1) := by decide +kernel
theorem dMo_warp_31 : decode cMo_warp 31 = .ok (.i2l, 1) := by decide +kernel
theorem dMo_warp_32 : decode cMo_warp 32 = .ok (.invokestatic 84, 3) := by decide +kernel
theorem dMo_warp_35 : decode cMo_warp 35 = .ok (.ifCond .ne 7, 3) := by decide +kernel
theorem dMo_warp_38 : decode cMo_warp 38 = .ok (.iconst 1, 1) := by decide +kernel
theorem dMo_warp_39 : decode cMo_warp 39 = .ok (.goto 4, 3) := by decide +kernel
theorem dMo_warp_42 : decode cMo_warp 42 = .ok (.iconst 0, 1) := by decide +kernel
theorem dMo_warp_43 : decode cMo_warp 43 = .ok (.iconst 1, 1) := by decide +kernel
theorem dMo_warp_44 : decode cMo_warp 44 = .ok (.invokevirtual 88, 3) := by decide +kernel
theorem dMo_warp_47 : decode cMo_warp 47 = .ok (.ifCond .eq 5, 3) := by decide +kernel
theorem dMo_warp_50 : decode cMo_warp 50 = .ok (.dconst 0, 1) := by decide +kernel
theorem dMo_warp_51 : decode cMo_warp 51 = .ok (.dreturn, 1) := by decide +kernel
theorem dMo_warp_52 : decode cMo_warp 52 = .ok (.aload_n 0, 1) := by decide +kernel
theorem dMo_warp_53 : decode cMo_warp 53 = .ok (.aload_n 0, 1) := by decide +kernel
theorem dMo_warp_54 : decode cMo_warp 54 = .ok (.getfield 62, 3) := by decide +kernel
theorem dMo_warp_57 : decode cMo_warp 57 = .ok (.iload_n 1, 1) := by decide +kernel
theorem dMo_warp_58 : decode cMo_warp 58 = .ok (.invokevirtual 178, 3) := by decide +kernel
theorem dMo_warp_61 : decode cMo_warp 61 = .ok (.aload_n 0, 1) := by decide +kernel
theorem dMo_warp_62 : decode cMo_warp 62 = .ok (.aload_n 0, 1) := by decide +kernel
theorem dMo_warp_63 : decode cMo_warp 63 = .ok (.getfield 65, 3) := by decide +kernel
theorem dMo_warp_66 : decode cMo_warp 66 = .ok (.iload_n 2, 1) := by decide +kernel
theorem dMo_warp_67 : decode cMo_warp 67 = .ok (.invokevirtual 178, 3) := by decide +kernel
theorem dMo_warp_70 : decode cMo_warp 70 = .ok (.aload_n 0, 1) := by decide +kernel
theorem dMo_warp_71 : decode cMo_warp 71 = .ok (.aload_n 0, 1) := by decide +kernel
theorem dMo_warp_72 : decode cMo_warp 72 = .ok (.getfield 37, 3) := by decide +kernel
theorem dMo_warp_75 : decode cMo_warp 75 = .ok (.iload_n 1, 1) := by decide +kernel
theorem dMo_warp_76 : decode cMo_warp 76 = .ok (.iaload, 1) := by decide +kernel
theorem dMo_warp_77 : decode cMo_warp 77 = .ok (.putfield 172, 3) := by decide +kernel
theorem dMo_warp_80 : decode cMo_warp 80 = .ok (.aload_n 0, 1) := by decide +kernel
theorem dMo_warp_81 : decode cMo_warp 81 = .ok (.aload_n 0, 1) := by decide +kernel
theorem dMo_warp_82 : decode cMo_warp 82 = .ok (.getfield 37, 3) := by decide +kernel
theorem dMo_warp_85 : decode cMo_warp 85 = .ok (.iload_n 2, 1) := by decide +kernel
theorem dMo_warp_86 : decode cMo_warp 86 = .ok (.iaload, 1) := by decide +kernel
theorem dMo_warp_87 : decode cMo_warp 87 = .ok (.putfield 175, 3) := by decide +kernel
theorem dMo_warp_90 : decode cMo_warp 90 = .ok (.aload_n 0, 1) := by decide +kernel
theorem dMo_warp_91 : decode cMo_warp 91 = .ok (.invokevirtual 182, 3) := by decide +kernel
theorem dMo_warp_94 : decode cMo_warp 94 = .ok (.dreturn, 1) := by decide +kernel
theorem dMo_takes_0 : decode cMo_takes 0 = .ok (.iconst 0, 1) := by decide +kernel
theorem dMo_takes_1 : decode cMo_takes 1 = .ok (.istore_n 3, 1) := by decide +kernel
theorem dMo_takes_2 : decode cMo_takes 2 = .ok (.iload_n 3, 1) := by decide +kernel
theorem dMo_takes_3 : decode cMo_takes 3 = .ok (.bipush 32, 2) := by decide +kernel
theorem dMo_takes_5 : decode cMo_takes 5 = .ok (.if_icmp .ge 23, 3) := by decide +kernel
theorem dMo_takes_8 : decode cMo_takes 8 = .ok (.aload_n 1, 1) := by decide +kernel
theorem dMo_takes_9 : decode cMo_takes 9 = .ok (.iload_n 3, 1) := by decide +kernel
theorem dMo_takes_10 : decode cMo_takes 10 = .ok (.aload_n 0, 1) := by decide +kernel
theorem dMo_takes_11 : decode cMo_takes 11 = .ok (.getfield 56, 3) := by decide +kernel
theorem dMo_takes_14 : decode cMo_takes 14 = .ok (.bipush 32, 2) := by decide +kernel
theorem dMo_takes_16 : decode cMo_takes 16 = .ok (.iload_n 2, 1) := by decide +kernel
theorem dMo_takes_17 : decode cMo_takes 17 = .ok (.imul, 1) := by decide +kernel
theorem dMo_takes_18 : decode cMo_takes 18 = .ok (.iload_n 3, 1) := by decide +kernel
theorem dMo_takes_19 : decode cMo_takes 19 = .ok (.iadd, 1) := by decide +kernel
theorem dMo_takes_20 : decode cMo_takes 20 = .ok (.daload, 1) := by decide +kernel
theorem dMo_takes_21 : decode cMo_takes 21 = .ok (.dastore, 1) := by decide +kernel
theorem dMo_takes_22 : decode cMo_takes 22 = .ok (.iinc 3 1, 3) := by decide +kernel
theorem dMo_takes_25 : decode cMo_takes 25 = .ok (.goto (-23), 3) := by decide +kernel
theorem dMo_takes_28 : decode cMo_takes 28 = .ok (.return_, 1) := by decide +kernel
theorem dMo_warps_0 : decode cMo_warps 0 = .ok (.iconst 0, 1) := by decide +kernel
theorem dMo_warps_1 : decode cMo_warps 1 = .ok (.istore_n 1, 1) := by decide +kernel
theorem dMo_warps_2 : decode cMo_warps 2 = .ok (.iload_n 1, 1) := by decide +kernel
theorem dMo_warps_3 : decode cMo_warps 3 = .ok (.aload_n 0, 1) := by decide +kernel
theorem dMo_warps_4 : decode cMo_warps 4 = .ok (.getfield 172, 3) := by decide +kernel
theorem dMo_warps_7 : decode cMo_warps 7 = .ok (.if_icmp .ge 225, 3) := by decide +kernel
theorem dMo_warps_10 : decode cMo_warps 10 = .ok (.iconst 0, 1) := by decide +kernel
theorem dMo_warps_11 : decode cMo_warps 11 = .ok (.istore_n 2, 1) := by decide +kernel
theorem dMo_warps_12 : decode cMo_warps 12 = .ok (.iload_n 2, 1) := by decide +kernel
theorem dMo_warps_13 : decode cMo_warps 13 = .ok (.aload_n 0, 1) := by decide +kernel
theorem dMo_warps_14 : decode cMo_warps 14 = .ok (.getfield 175, 3) := by decide +kernel
theorem dMo_warps_17 : decode cMo_warps 17 = .ok (.if_icmp .ge 209, 3) := by decide +kernel
theorem dMo_warps_20 : decode cMo_warps 20 = .ok (.dconst 0, 1) := by decide +kernel
theorem dMo_warps_21 : decode cMo_warps 21 = .ok (.dstore_n 3, 1) := by decide +kernel
theorem dMo_warps_22 : decode cMo_warps 22 = .ok (.iconst 0, 1) := by decide +kernel
theorem dMo_warps_23 : decode cMo_warps 23 = .ok (.istore 5, 2) := by decide +kernel
theorem dMo_warps_25 : decode cMo_warps 25 = .ok (.iload 5, 2) := by decide +kernel
theorem dMo_warps_27 : decode cMo_warps 27 = .ok (.iconst 4, 1) := by decide +kernel
theorem dMo_warps_28 : decode cMo_warps 28 = .ok (.if_icmp .ge 42, 3) := by decide +kernel
theorem dMo_warps_31 : decode cMo_warps 31 = .ok (.aload_n 0, 1) := by decide +kernel
theorem dMo_warps_32 : decode cMo_warps 32 = .ok (.getfield 62, 3) := by decide +kernel
theorem dMo_warps_35 : decode cMo_warps 35 = .ok (.iconst 4, 1) := by decide +kernel
theorem dMo_warps_36 : decode cMo_warps 36 = .ok (.iload_n 1, 1) := by decide +kernel
theorem dMo_warps_37 : decode cMo_warps 37 = .ok (.imul, 1) := by decide +kernel
theorem dMo_warps_38 : decode cMo_warps 38 = .ok (.iload 5, 2) := by decide +kernel
theorem dMo_warps_40 : decode cMo_warps 40 = .ok (.iadd, 1) := by decide +kernel
theorem dMo_warps_41 : decode cMo_warps 41 = .ok (.daload, 1) := by decide +kernel
theorem dMo_warps_42 : decode cMo_warps 42 = .ok (.aload_n 0, 1) := by decide +kernel
theorem dMo_warps_43 : decode cMo_warps 43 = .ok (.getfield 65, 3) := by decide +kernel
theorem dMo_warps_46 : decode cMo_warps 46 = .ok (.iconst 4, 1) := by decide +kernel
theorem dMo_warps_47 : decode cMo_warps 47 = .ok (.iload_n 2, 1) := by decide +kernel
theorem dMo_warps_48 : decode cMo_warps 48 = .ok (.imul, 1) := by decide +kernel
theorem dMo_warps_49 : decode cMo_warps 49 = .ok (.iload 5, 2) := by decide +kernel
theorem dMo_warps_51 : decode cMo_warps 51 = .ok (.iadd, 1) := by decide +kernel
theorem dMo_warps_52 : decode cMo_warps 52 = .ok (.daload, 1) := by decide +kernel
theorem dMo_warps_53 : decode cMo_warps 53 = .ok (.dsub, 1) := by decide +kernel
theorem dMo_warps_54 : decode cMo_warps 54 = .ok (.dstore 6, 2) := by decide +kernel
theorem dMo_warps_56 : decode cMo_warps 56 = .ok (.dload_n 3, 1) := by decide +kernel
theorem dMo_warps_57 : decode cMo_warps 57 = .ok (.dload 6, 2) := by decide +kernel
theorem dMo_warps_59 : decode cMo_warps 59 = .ok (.dload 6, 2) := by decide +kernel
theorem dMo_warps_61 : decode cMo_warps 61 = .ok (.dmul, 1) := by decide +kernel
theorem dMo_warps_62 : decode cMo_warps 62 = .ok (.dadd, 1) := by decide +kernel
theorem dMo_warps_63 : decode cMo_warps 63 = .ok (.dstore_n 3, 1) := by decide +kernel
theorem dMo_warps_64 : decode cMo_warps 64 = .ok (.iinc 5 1, 3) := by decide +kernel
theorem dMo_warps_67 : decode cMo_warps 67 = .ok (.goto (-42), 3) := by decide +kernel
theorem dMo_warps_70 : decode cMo_warps 70 = .ok (.dconst 0, 1) := by decide +kernel
theorem dMo_warps_71 : decode cMo_warps 71 = .ok (.dstore 5, 2) := by decide +kernel
theorem dMo_warps_73 : decode cMo_warps 73 = .ok (.iconst 0, 1) := by decide +kernel
theorem dMo_warps_74 : decode cMo_warps 74 = .ok (.istore 7, 2) := by decide +kernel
theorem dMo_warps_76 : decode cMo_warps 76 = .ok (.iload_n 1, 1) := by decide +kernel
theorem dMo_warps_77 : decode cMo_warps 77 = .ok (.ifCond .le 27, 3) := by decide +kernel
theorem dMo_warps_80 : decode cMo_warps 80 = .ok (.iload_n 2, 1) := by decide +kernel
theorem dMo_warps_81 : decode cMo_warps 81 = .ok (.ifCond .le 23, 3) := by decide +kernel
theorem dMo_warps_84 : decode cMo_warps 84 = .ok (.aload_n 0, 1) := by decide +kernel
theorem dMo_warps_85 : decode cMo_warps 85 = .ok (.getfield 68, 3) := by decide +kernel
theorem dMo_warps_88 : decode cMo_warps 88 = .ok (.bipush 8, 2) := by decide +kernel
theorem dMo_warps_90 : decode cMo_warps 90 = .ok (.iload_n 1, 1) := by decide +kernel
theorem dMo_warps_91 : decode cMo_warps 91 = .ok (.iconst 1, 1) := by decide +kernel
theorem dMo_warps_92 : decode cMo_warps 92 = .ok (.isub, 1) := by decide +kernel
theorem dMo_warps_93 : decode cMo_warps 93 = .ok (.imul, 1) := by decide +kernel
theorem dMo_warps_94 : decode cMo_warps 94 = .ok (.iload_n 2, 1) := by decide +kernel
theorem dMo_warps_95 : decode cMo_warps 95 = .ok (.iadd, 1) := by decide +kernel
theorem dMo_warps_96 : decode cMo_warps 96 = .ok (.iconst 1, 1) := by decide +kernel
theorem dMo_warps_97 : decode cMo_warps 97 = .ok (.isub, 1) := by decide +kernel
theorem dMo_warps_98 : decode cMo_warps 98 = .ok (.daload, 1) := by decide +kernel
theorem dMo_warps_99 : decode cMo_warps 99 = .ok (.dstore 5, 2) := by decide +kernel
theorem dMo_warps_101 : decode cMo_warps 101 = .ok (.iconst 1, 1) := by decide +kernel
theorem dMo_warps_102 : decode cMo_warps 102 = .ok (.istore 7, 2) := by decide +kernel
theorem dMo_warps_104 : decode cMo_warps 104 = .ok (.iload_n 1, 1) := by decide +kernel
theorem dMo_warps_105 : decode cMo_warps 105 = .ok (.ifCond .le 45, 3) := by decide +kernel
theorem dMo_warps_108 : decode cMo_warps 108 = .ok (.iload 7, 2) := by decide +kernel
theorem dMo_warps_110 : decode cMo_warps 110 = .ok (.ifCond .eq 22, 3) := by decide +kernel
theorem dMo_warps_113 : decode cMo_warps 113 = .ok (.aload_n 0, 1) := by decide +kernel
theorem dMo_warps_114 : decode cMo_warps 114 = .ok (.getfield 68, 3) := by decide +kernel
theorem dMo_warps_117 : decode cMo_warps 117 = .ok (.bipush 8, 2) := by decide +kernel
theorem dMo_warps_119 : decode cMo_warps 119 = .ok (.iload_n 1, 1) := by decide +kernel
theorem dMo_warps_120 : decode cMo_warps 120 = .ok (.iconst 1, 1) := by decide +kernel
theorem dMo_warps_121 : decode cMo_warps 121 = .ok (.isub, 1) := by decide +kernel
theorem dMo_warps_122 : decode cMo_warps 122 = .ok (.imul, 1) := by decide +kernel
theorem dMo_warps_123 : decode cMo_warps 123 = .ok (.iload_n 2, 1) := by decide +kernel
theorem dMo_warps_124 : decode cMo_warps 124 = .ok (.iadd, 1) := by decide +kernel
theorem dMo_warps_125 : decode cMo_warps 125 = .ok (.daload, 1) := by decide +kernel
theorem dMo_warps_126 : decode cMo_warps 126 = .ok (.dload 5, 2) := by decide +kernel
theorem dMo_warps_128 : decode cMo_warps 128 = .ok (.dcmp .g, 1) := by decide +kernel
theorem dMo_warps_129 : decode cMo_warps 129 = .ok (.ifCond .ge 21, 3) := by decide +kernel
theorem dMo_warps_132 : decode cMo_warps 132 = .ok (.aload_n 0, 1) := by decide +kernel
theorem dMo_warps_133 : decode cMo_warps 133 = .ok (.getfield 68, 3) := by decide +kernel
theorem dMo_warps_136 : decode cMo_warps 136 = .ok (.bipush 8, 2) := by decide +kernel
theorem dMo_warps_138 : decode cMo_warps 138 = .ok (.iload_n 1, 1) := by decide +kernel
theorem dMo_warps_139 : decode cMo_warps 139 = .ok (.iconst 1, 1) := by decide +kernel
theorem dMo_warps_140 : decode cMo_warps 140 = .ok (.isub, 1) := by decide +kernel
theorem dMo_warps_141 : decode cMo_warps 141 = .ok (.imul, 1) := by decide +kernel
theorem dMo_warps_142 : decode cMo_warps 142 = .ok (.iload_n 2, 1) := by decide +kernel
theorem dMo_warps_143 : decode cMo_warps 143 = .ok (.iadd, 1) := by decide +kernel
theorem dMo_warps_144 : decode cMo_warps 144 = .ok (.daload, 1) := by decide +kernel
theorem dMo_warps_145 : decode cMo_warps 145 = .ok (.dstore 5, 2) := by decide +kernel
theorem dMo_warps_147 : decode cMo_warps 147 = .ok (.iconst 1, 1) := by decide +kernel
theorem dMo_warps_148 : decode cMo_warps 148 = .ok (.istore 7, 2) := by decide +kernel
theorem dMo_warps_150 : decode cMo_warps 150 = .ok (.iload_n 2, 1) := by decide +kernel
theorem dMo_warps_151 : decode cMo_warps 151 = .ok (.ifCond .le 45, 3) := by decide +kernel
theorem dMo_warps_154 : decode cMo_warps 154 = .ok (.iload 7, 2) := by decide +kernel
theorem dMo_warps_156 : decode cMo_warps 156 = .ok (.ifCond .eq 22, 3) := by decide +kernel
theorem dMo_warps_159 : decode cMo_warps 159 = .ok (.aload_n 0, 1) := by decide +kernel
theorem dMo_warps_160 : decode cMo_warps 160 = .ok (.getfield 68, 3) := by decide +kernel
theorem dMo_warps_163 : decode cMo_warps 163 = .ok (.bipush 8, 2) := by decide +kernel
theorem dMo_warps_165 : decode cMo_warps 165 = .ok (.iload_n 1, 1) := by decide +kernel
theorem dMo_warps_166 : decode cMo_warps 166 = .ok (.imul, 1) := by decide +kernel
theorem dMo_warps_167 : decode cMo_warps 167 = .ok (.iload_n 2, 1) := by decide +kernel
theorem dMo_warps_168 : decode cMo_warps 168 = .ok (.iadd, 1) := by decide +kernel
theorem dMo_warps_169 : decode cMo_warps 169 = .ok (.iconst 1, 1) := by decide +kernel
theorem dMo_warps_170 : decode cMo_warps 170 = .ok (.isub, 1) := by decide +kernel
theorem dMo_warps_171 : decode cMo_warps 171 = .ok (.daload, 1) := by decide +kernel
theorem dMo_warps_172 : decode cMo_warps 172 = .ok (.dload 5, 2) := by decide +kernel
theorem dMo_warps_174 : decode cMo_warps 174 = .ok (.dcmp .g, 1) := by decide +kernel
theorem dMo_warps_175 : decode cMo_warps 175 = .ok (.ifCond .ge 21, 3) := by decide +kernel
theorem dMo_warps_178 : decode cMo_warps 178 = .ok (.aload_n 0, 1) := by decide +kernel
theorem dMo_warps_179 : decode cMo_warps 179 = .ok (.getfield 68, 3) := by decide +kernel
theorem dMo_warps_182 : decode cMo_warps 182 = .ok (.bipush 8, 2) := by decide +kernel
theorem dMo_warps_184 : decode cMo_warps 184 = .ok (.iload_n 1, 1) := by decide +kernel
theorem dMo_warps_185 : decode cMo_warps 185 = .ok (.imul, 1) := by decide +kernel
theorem dMo_warps_186 : decode cMo_warps 186 = .ok (.iload_n 2, 1) := by decide +kernel
theorem dMo_warps_187 : decode cMo_warps 187 = .ok (.iadd, 1) := by decide +kernel
theorem dMo_warps_188 : decode cMo_warps 188 = .ok (.iconst 1, 1) := by decide +kernel
theorem dMo_warps_189 : decode cMo_warps 189 = .ok (.isub, 1) := by decide +kernel
theorem dMo_warps_190 : decode cMo_warps 190 = .ok (.daload, 1) := by decide +kernel
theorem dMo_warps_191 : decode cMo_warps 191 = .ok (.dstore 5, 2) := by decide +kernel
theorem dMo_warps_193 : decode cMo_warps 193 = .ok (.iconst 1, 1) := by decide +kernel
theorem dMo_warps_194 : decode cMo_warps 194 = .ok (.istore 7, 2) := by decide +kernel
theorem dMo_warps_196 : decode cMo_warps 196 = .ok (.aload_n 0, 1) := by decide +kernel
theorem dMo_warps_197 : decode cMo_warps 197 = .ok (.getfield 68, 3) := by decide +kernel
theorem dMo_warps_200 : decode cMo_warps 200 = .ok (.bipush 8, 2) := by decide +kernel
theorem dMo_warps_202 : decode cMo_warps 202 = .ok (.iload_n 1, 1) := by decide +kernel
theorem dMo_warps_203 : decode cMo_warps 203 = .ok (.imul, 1) := by decide +kernel
theorem dMo_warps_204 : decode cMo_warps 204 = .ok (.iload_n 2, 1) := by decide +kernel
theorem dMo_warps_205 : decode cMo_warps 205 = .ok (.iadd, 1) := by decide +kernel
theorem dMo_warps_206 : decode cMo_warps 206 = .ok (.iload 7, 2) := by decide +kernel
theorem dMo_warps_208 : decode cMo_warps 208 = .ok (.ifCond .eq 10, 3) := by decide +kernel
theorem dMo_warps_211 : decode cMo_warps 211 = .ok (.dload_n 3, 1) := by decide +kernel
theorem dMo_warps_212 : decode cMo_warps 212 = .ok (.dload 5, 2) := by decide +kernel
theorem dMo_warps_214 : decode cMo_warps 214 = .ok (.dadd, 1) := by decide +kernel
theorem dMo_warps_215 : decode cMo_warps 215 = .ok (.goto 4, 3) := by decide +kernel
theorem dMo_warps_218 : decode cMo_warps 218 = .ok (.dload_n 3, 1) := by decide +kernel
theorem dMo_warps_219 : decode cMo_warps 219 = .ok (.dastore, 1) := by decide +kernel
theorem dMo_warps_220 : decode cMo_warps 220 = .ok (.iinc 2 1, 3) := by decide +kernel
theorem dMo_warps_223 : decode cMo_warps 223 = .ok (.goto (-211), 3) := by decide +kernel
theorem dMo_warps_226 : decode cMo_warps 226 = .ok (.iinc 1 1, 3) := by decide +kernel
theorem dMo_warps_229 : decode cMo_warps 229 = .ok (.goto (-227), 3) := by decide +kernel
theorem dMo_warps_232 : decode cMo_warps 232 = .ok (.aload_n 0, 1) := by decide +kernel
theorem dMo_warps_233 : decode cMo_warps 233 = .ok (.getfield 68, 3) := by decide +kernel
theorem dMo_warps_236 : decode cMo_warps 236 = .ok (.bipush 8, 2) := by decide +kernel
theorem dMo_warps_238 : decode cMo_warps 238 = .ok (.aload_n 0, 1) := by decide +kernel
theorem dMo_warps_239 : decode cMo_warps 239 = .ok (.getfield 172, 3) := by decide +kernel
theorem dMo_warps_242 : decode cMo_warps 242 = .ok (.iconst 1, 1) := by decide +kernel
theorem dMo_warps_243 : decode cMo_warps 243 = .ok (.isub, 1) := by decide +kernel
theorem dMo_warps_244 : decode cMo_warps 244 = .ok (.imul, 1) := by decide +kernel
theorem dMo_warps_245 : decode cMo_warps 245 = .ok (.aload_n 0, 1) := by decide +kernel
theorem dMo_warps_246 : decode cMo_warps 246 = .ok (.getfield 175, 3) := by decide +kernel
theorem dMo_warps_249 : decode cMo_warps 249 = .ok (.iadd, 1) := by decide +kernel
theorem dMo_warps_250 : decode cMo_warps 250 = .ok (.iconst 1, 1) := by decide +kernel
theorem dMo_warps_251 : decode cMo_warps 251 = .ok (.isub, 1) := by decide +kernel
theorem dMo_warps_252 : decode cMo_warps 252 = .ok (.daload, 1) := by decide +kernel
theorem dMo_warps_253 : decode cMo_warps 253 = .ok (.aload_n 0, 1) := by decide +kernel
theorem dMo_warps_254 : decode cMo_warps 254 = .ok (.getfield 172, 3) := by decide +kernel
theorem dMo_warps_257 : decode cMo_warps 257 = .ok (.aload_n 0, 1) := by decide +kernel
theorem dMo_warps_258 : decode cMo_warps 258 = .ok (.getfield 175, 3) := by decide +kernel
theorem dMo_warps_261 : decode cMo_warps 261 = .ok (.iadd, 1) := by decide +kernel
theorem dMo_warps_262 : decode cMo_warps 262 = .ok (.i2d, 1) := by decide +kernel
theorem dMo_warps_263 : decode cMo_warps 263 = .ok (.ddiv, 1) := by decide +kernel
theorem dMo_warps_264 : decode cMo_warps 264 = .ok (.dreturn, 1) := by decide +kernel
theorem dMo_hear_0 : decode cMo_hear 0 = .ok (.aload_n 0, 1) := by decide +kernel
theorem dMo_hear_1 : decode cMo_hear 1 = .ok (.iconst 0, 1) := by decide +kernel
theorem dMo_hear_2 : decode cMo_hear 2 = .ok (.putfield 79, 3) := by decide +kernel
theorem dMo_hear_5 : decode cMo_hear 5 = .ok (.aload_n 0, 1) := by decide +kernel
theorem dMo_hear_6 : decode cMo_hear 6 = .ok (.invokevirtual 155, 3) := by decide +kernel
theorem dMo_hear_9 : decode cMo_hear 9 = .ok (.istore_n 1, 1) := by decide +kernel
theorem dMo_hear_10 : decode cMo_hear 10 = .ok (.iconst 0, 1) := by decide +kernel
theorem dMo_hear_11 : decode cMo_hear 11 = .ok (.istore_n 2, 1) := by decide +kernel
theorem dMo_hear_12 : decode cMo_hear 12 = .ok (.aload_n 0, 1) := by decide +kernel
theorem dMo_hear_13 : decode cMo_hear 13 = .ok (.iload_n 1, 1) := by decide +kernel
theorem dMo_hear_14 : decode cMo_hear 14 = .ok (.ifCond .ne 7, 3) := by decide +kernel
theorem dMo_hear_17 : decode cMo_hear 17 = .ok (.iconst 1, 1) := by decide +kernel
theorem dMo_hear_18 : decode cMo_hear 18 = .ok (.goto 4, 3) := by decide +kernel
theorem dMo_hear_21 : decode cMo_hear 21 = .ok (.iconst 0, 1) := by decide +kernel
theorem dMo_hear_22 : decode cMo_hear 22 = .ok (.iconst 1, 1) := by decide +kernel
theorem dMo_hear_23 : decode cMo_hear 23 = .ok (.invokevirtual 88, 3) := by decide +kernel
theorem dMo_hear_26 : decode cMo_hear 26 = .ok (.ifCond .eq 5, 3) := by decide +kernel
theorem dMo_hear_29 : decode cMo_hear 29 = .ok (.iconst 0, 1) := by decide +kernel
theorem dMo_hear_30 : decode cMo_hear 30 = .ok (.ireturn, 1) := by decide +kernel
theorem dMo_hear_31 : decode cMo_hear 31 = .ok (.aload_n 0, 1) := by decide +kernel
theorem dMo_hear_32 : decode cMo_hear 32 = .ok (.iconst 0, 1) := by decide +kernel
theorem dMo_hear_33 : decode cMo_hear 33 = .ok (.putfield 128, 3) := by decide +kernel
theorem dMo_hear_36 : decode cMo_hear 36 = .ok (.iload_n 2, 1) := by decide +kernel
theorem dMo_hear_37 : decode cMo_hear 37 = .ok (.iload_n 1, 1) := by decide +kernel
theorem dMo_hear_38 : decode cMo_hear 38 = .ok (.if_icmp .ge 98, 3) := by decide +kernel
theorem dMo_hear_41 : decode cMo_hear 41 = .ok (.aload_n 0, 1) := by decide +kernel
theorem dMo_hear_42 : decode cMo_hear 42 = .ok (.iload_n 2, 1) := by decide +kernel
theorem dMo_hear_43 : decode cMo_hear 43 = .ok (.invokevirtual 186, 3) := by decide +kernel
theorem dMo_hear_46 : decode cMo_hear 46 = .ok (.ifCond .ne 9, 3) := by decide +kernel
theorem dMo_hear_49 : decode cMo_hear 49 = .ok (.iinc 2 1, 3) := by decide +kernel
theorem dMo_hear_52 : decode cMo_hear 52 = .ok (.goto (-16), 3) := by decide +kernel
theorem dMo_hear_55 : decode cMo_hear 55 = .ok (.iload_n 2, 1) := by decide +kernel
theorem dMo_hear_56 : decode cMo_hear 56 = .ok (.istore_n 3, 1) := by decide +kernel
theorem dMo_hear_57 : decode cMo_hear 57 = .ok (.iconst 0, 1) := by decide +kernel
theorem dMo_hear_58 : decode cMo_hear 58 = .ok (.istore 4, 2) := by decide +kernel
theorem dMo_hear_60 : decode cMo_hear 60 = .ok (.iconst 1, 1) := by decide +kernel
theorem dMo_hear_61 : decode cMo_hear 61 = .ok (.istore 5, 2) := by decide +kernel
theorem dMo_hear_63 : decode cMo_hear 63 = .ok (.iload_n 2, 1) := by decide +kernel
theorem dMo_hear_64 : decode cMo_hear 64 = .ok (.iconst 1, 1) := by decide +kernel
theorem dMo_hear_65 : decode cMo_hear 65 = .ok (.iadd, 1) := by decide +kernel
theorem dMo_hear_66 : decode cMo_hear 66 = .ok (.istore 6, 2) := by decide +kernel
theorem dMo_hear_68 : decode cMo_hear 68 = .ok (.iload 6, 2) := by decide +kernel
theorem dMo_hear_70 : decode cMo_hear 70 = .ok (.iload_n 1, 1) := by decide +kernel
theorem dMo_hear_71 : decode cMo_hear 71 = .ok (.if_icmp .ge 49, 3) := by decide +kernel
theorem dMo_hear_74 : decode cMo_hear 74 = .ok (.iload 5, 2) := by decide +kernel
theorem dMo_hear_76 : decode cMo_hear 76 = .ok (.bipush 10, 2) := by decide +kernel
theorem dMo_hear_78 : decode cMo_hear 78 = .ok (.if_icmp .ge 42, 3) := by decide +kernel
theorem dMo_hear_81 : decode cMo_hear 81 = .ok (.iload 4, 2) := by decide +kernel
theorem dMo_hear_83 : decode cMo_hear 83 = .ok (.aload_n 0, 1) := by decide +kernel
theorem dMo_hear_84 : decode cMo_hear 84 = .ok (.getfield 16, 3) := by decide +kernel
theorem dMo_hear_87 : decode cMo_hear 87 = .ok (.if_icmp .ge 33, 3) := by decide +kernel
theorem dMo_hear_90 : decode cMo_hear 90 = .ok (.aload_n 0, 1) := by decide +kernel
theorem dMo_hear_91 : decode cMo_hear 91 = .ok (.iload 6, 2) := by decide +kernel
theorem dMo_hear_93 : decode cMo_hear 93 = .ok (.invokevirtual 186, 3) := by decide +kernel
theorem dMo_hear_96 : decode cMo_hear 96 = .ok (.ifCond .eq 12, 3) := by decide +kernel
theorem dMo_hear_99 : decode cMo_hear 99 = .ok (.iload 6, 2) := by decide +kernel
theorem dMo_hear_101 : decode cMo_hear 101 = .ok (.istore_n 3, 1) := by decide +kernel
theorem dMo_hear_102 : decode cMo_hear 102 = .ok (.iconst 0, 1) := by decide +kernel
theorem dMo_hear_103 : decode cMo_hear 103 = .ok (.istore 4, 2) := by decide +kernel
theorem dMo_hear_105 : decode cMo_hear 105 = .ok (.goto 6, 3) := by decide +kernel
theorem dMo_hear_108 : decode cMo_hear 108 = .ok (.iinc 4 1, 3) := by decide +kernel
theorem dMo_hear_111 : decode cMo_hear 111 = .ok (.iinc 5 1, 3) := by decide +kernel
theorem dMo_hear_114 : decode cMo_hear 114 = .ok (.iinc 6 1, 3) := by decide +kernel
theorem dMo_hear_117 : decode cMo_hear 117 = .ok (.goto (-49), 3) := by decide +kernel
theorem dMo_hear_120 : decode cMo_hear 120 = .ok (.aload_n 0, 1) := by decide +kernel
theorem dMo_hear_121 : decode cMo_hear 121 = .ok (.iload_n 2, 1) := by decide +kernel
theorem dMo_hear_122 : decode cMo_hear 122 = .ok (.iload_n 3, 1) := by decide +kernel
theorem dMo_hear_123 : decode cMo_hear 123 = .ok (.iload_n 2, 1) := by decide +kernel
theorem dMo_hear_124 : decode cMo_hear 124 = .ok (.isub, 1) := by decide +kernel
theorem dMo_hear_125 : decode cMo_hear 125 = .ok (.iconst 1, 1) := by decide +kernel
theorem dMo_hear_126 : decode cMo_hear 126 = .ok (.iadd, 1) := by decide +kernel
theorem dMo_hear_127 : decode cMo_hear 127 = .ok (.invokevirtual 190, 3) := by decide +kernel
theorem dMo_hear_130 : decode cMo_hear 130 = .ok (.iload 6, 2) := by decide +kernel
theorem dMo_hear_132 : decode cMo_hear 132 = .ok (.istore_n 2, 1) := by decide +kernel
theorem dMo_hear_133 : decode cMo_hear 133 = .ok (.goto (-97), 3) := by decide +kernel
theorem dMo_hear_136 : decode cMo_hear 136 = .ok (.aload_n 0, 1) := by decide +kernel
theorem dMo_hear_137 : decode cMo_hear 137 = .ok (.getfield 128, 3) := by decide +kernel
theorem dMo_hear_140 : decode cMo_hear 140 = .ok (.ireturn, 1) := by decide +kernel
theorem dMo_isLoud_0 : decode cMo_isLoud 0 = .ok (.dconst 0, 1) := by decide +kernel
theorem dMo_isLoud_1 : decode cMo_isLoud 1 = .ok (.dstore_n 2, 1) := by decide +kernel
theorem dMo_isLoud_2 : decode cMo_isLoud 2 = .ok (.iconst 0, 1) := by decide +kernel
theorem dMo_isLoud_3 : decode cMo_isLoud 3 = .ok (.istore 4, 2) := by decide +kernel
theorem dMo_isLoud_5 : decode cMo_isLoud 5 = .ok (.iload 4, 2) := by decide +kernel
theorem dMo_isLoud_7 : decode cMo_isLoud 7 = .ok (.iconst 4, 1) := by decide +kernel
theorem dMo_isLoud_8 : decode cMo_isLoud 8 = .ok (.if_icmp .ge 19, 3) := by decide +kernel
theorem dMo_isLoud_11 : decode cMo_isLoud 11 = .ok (.dload_n 2, 1) := by decide +kernel
theorem dMo_isLoud_12 : decode cMo_isLoud 12 = .ok (.aload_n 0, 1) := by decide +kernel
theorem dMo_isLoud_13 : decode cMo_isLoud 13 = .ok (.iload_n 1, 1) := by decide +kernel
theorem dMo_isLoud_14 : decode cMo_isLoud 14 = .ok (.iload 4, 2) := by decide +kernel
theorem dMo_isLoud_16 : decode cMo_isLoud 16 = .ok (.invokevirtual 146, 3) := by decide +kernel
theorem dMo_isLoud_19 : decode cMo_isLoud 19 = .ok (.dadd, 1) := by decide +kernel
theorem dMo_isLoud_20 : decode cMo_isLoud 20 = .ok (.dstore_n 2, 1) := by decide +kernel
theorem dMo_isLoud_21 : decode cMo_isLoud 21 = .ok (.iinc 4 1, 3) := by decide +kernel
theorem dMo_isLoud_24 : decode cMo_isLoud 24 = .ok (.goto (-19), 3) := by decide +kernel
theorem dMo_isLoud_27 : decode cMo_isLoud 27 = .ok (.dload_n 2, 1) := by decide +kernel
theorem dMo_isLoud_28 : decode cMo_isLoud 28 = .ok (.aload_n 0, 1) := by decide +kernel
theorem dMo_isLoud_29 : decode cMo_isLoud 29 = .ok (.getfield 21, 3) := by decide +kernel
theorem dMo_isLoud_32 : decode cMo_isLoud 32 = .ok (.dcmp .l, 1) := by decide +kernel
theorem dMo_isLoud_33 : decode cMo_isLoud 33 = .ok (.ifCond .lt 7, 3) := by decide +kernel
theorem dMo_isLoud_36 : decode cMo_isLoud 36 = .ok (.iconst 1, 1) := by decide +kernel
theorem dMo_isLoud_37 : decode cMo_isLoud 37 = .ok (.goto 4, 3) := by decide +kernel
theorem dMo_isLoud_40 : decode cMo_isLoud 40 = .ok (.iconst 0, 1) := by decide +kernel
theorem dMo_isLoud_41 : decode cMo_isLoud 41 = .ok (.ireturn, 1) := by decide +kernel
theorem dMo_writes_0 : decode cMo_writes 0 = .ok (.aload_n 0, 1) := by decide +kernel
theorem dMo_writes_1 : decode cMo_writes 1 = .ok (.getfield 128, 3) := by decide +kernel
theorem dMo_writes_4 : decode cMo_writes 4 = .ok (.istore_n 3, 1) := by decide +kernel
theorem dMo_writes_5 : decode cMo_writes 5 = .ok (.aload_n 0, 1) := by decide +kernel
theorem dMo_writes_6 : decode cMo_writes 6 = .ok (.dup, 1) := by decide +kernel
theorem dMo_writes_7 : decode cMo_writes 7 = .ok (.getfield 128, 3) := by decide +kernel
theorem dMo_writes_10 : decode cMo_writes 10 = .ok (.iconst 1, 1) := by decide +kernel
theorem dMo_writes_11 : decode cMo_writes 11 = .ok (.iadd, 1) := by decide +kernel
theorem dMo_writes_12 : decode cMo_writes 12 = .ok (.putfield 128, 3) := by decide +kernel
theorem dMo_writes_15 : decode cMo_writes 15 = .ok (.aload_n 0, 1) := by decide +kernel
theorem dMo_writes_16 : decode cMo_writes 16 = .ok (.getfield 43, 3) := by decide +kernel
theorem dMo_writes_19 : decode cMo_writes 19 = .ok (.iload_n 3, 1) := by decide +kernel
theorem dMo_writes_20 : decode cMo_writes 20 = .ok (.iload_n 1, 1) := by decide +kernel
theorem dMo_writes_21 : decode cMo_writes 21 = .ok (.iastore, 1) := by decide +kernel
theorem dMo_writes_22 : decode cMo_writes 22 = .ok (.aload_n 0, 1) := by decide +kernel
theorem dMo_writes_23 : decode cMo_writes 23 = .ok (.getfield 46, 3) := by decide +kernel
theorem dMo_writes_26 : decode cMo_writes 26 = .ok (.iload_n 3, 1) := by decide +kernel
theorem dMo_writes_27 : decode cMo_writes 27 = .ok (.iload_n 2, 1) := by decide +kernel
theorem dMo_writes_28 : decode cMo_writes 28 = .ok (.iastore, 1) := by decide +kernel
theorem dMo_writes_29 : decode cMo_writes 29 = .ok (.aload_n 0, 1) := by decide +kernel
theorem dMo_writes_30 : decode cMo_writes 30 = .ok (.getfield 49, 3) := by decide +kernel
theorem dMo_writes_33 : decode cMo_writes 33 = .ok (.iload_n 3, 1) := by decide +kernel
theorem dMo_writes_34 : decode cMo_writes 34 = .ok (.iconst (-1), 1) := by decide +kernel
theorem dMo_writes_35 : decode cMo_writes 35 = .ok (.iastore, 1) := by decide +kernel
theorem dMo_writes_36 : decode cMo_writes 36 = .ok (.aload_n 0, 1) := by decide +kernel
theorem dMo_writes_37 : decode cMo_writes 37 = .ok (.getfield 40, 3) := by decide +kernel
theorem dMo_writes_40 : decode cMo_writes 40 = .ok (.iload_n 3, 1) := by decide +kernel
theorem dMo_writes_41 : decode cMo_writes 41 = .ok (.bipush 63, 2) := by decide +kernel
theorem dMo_writes_43 : decode cMo_writes 43 = .ok (.iastore, 1) := by decide +kernel
theorem dMo_writes_44 : decode cMo_writes 44 = .ok (.aload_n 0, 1) := by decide +kernel
theorem dMo_writes_45 : decode cMo_writes 45 = .ok (.getfield 59, 3) := by decide +kernel
theorem dMo_writes_48 : decode cMo_writes 48 = .ok (.iload_n 3, 1) := by decide +kernel
theorem dMo_writes_49 : decode cMo_writes 49 = .ok (.dconst 0, 1) := by decide +kernel
theorem dMo_writes_50 : decode cMo_writes 50 = .ok (.dastore, 1) := by decide +kernel
theorem dMo_writes_51 : decode cMo_writes 51 = .ok (.iconst 0, 1) := by decide +kernel
theorem dMo_writes_52 : decode cMo_writes 52 = .ok (.istore 4, 2) := by decide +kernel
theorem dMo_writes_54 : decode cMo_writes 54 = .ok (.iload 4, 2) := by decide +kernel
theorem dMo_writes_56 : decode cMo_writes 56 = .ok (.iload_n 2, 1) := by decide +kernel
theorem dMo_writes_57 : decode cMo_writes 57 = .ok (.if_icmp .ge 46, 3) := by decide +kernel
theorem dMo_writes_60 : decode cMo_writes 60 = .ok (.iconst 0, 1) := by decide +kernel
theorem dMo_writes_61 : decode cMo_writes 61 = .ok (.istore 5, 2) := by decide +kernel
theorem dMo_writes_63 : decode cMo_writes 63 = .ok (.iload 5, 2) := by decide +kernel
theorem dMo_writes_65 : decode cMo_writes 65 = .ok (.iconst 4, 1) := by decide +kernel
theorem dMo_writes_66 : decode cMo_writes 66 = .ok (.if_icmp .ge 31, 3) := by decide +kernel
theorem dMo_writes_69 : decode cMo_writes 69 = .ok (.aload_n 0, 1) := by decide +kernel
theorem dMo_writes_70 : decode cMo_writes 70 = .ok (.getfield 62, 3) := by decide +kernel
theorem dMo_writes_73 : decode cMo_writes 73 = .ok (.iconst 4, 1) := by decide +kernel
theorem dMo_writes_74 : decode cMo_writes 74 = .ok (.iload 4, 2) := by decide +kernel
theorem dMo_writes_76 : decode cMo_writes 76 = .ok (.imul, 1) := by decide +kernel
theorem dMo_writes_77 : decode cMo_writes 77 = .ok (.iload 5, 2) := by decide +kernel
theorem dMo_writes_79 : decode cMo_writes 79 = .ok (.iadd, 1) := by decide +kernel
theorem dMo_writes_80 : decode cMo_writes 80 = .ok (.aload_n 0, 1) := by decide +kernel
theorem dMo_writes_81 : decode cMo_writes 81 = .ok (.iload_n 1, 1) := by decide +kernel
theorem dMo_writes_82 : decode cMo_writes 82 = .ok (.iload 4, 2) := by decide +kernel
theorem dMo_writes_84 : decode cMo_writes 84 = .ok (.iadd, 1) := by decide +kernel
theorem dMo_writes_85 : decode cMo_writes 85 = .ok (.iload 5, 2) := by decide +kernel
theorem dMo_writes_87 : decode cMo_writes 87 = .ok (.invokevirtual 160, 3) := by decide +kernel
theorem dMo_writes_90 : decode cMo_writes 90 = .ok (.dastore, 1) := by decide +kernel
theorem dMo_writes_91 : decode cMo_writes 91 = .ok (.iinc 5 1, 3) := by decide +kernel
theorem dMo_writes_94 : decode cMo_writes 94 = .ok (.goto (-31), 3) := by decide +kernel
theorem dMo_writes_97 : decode cMo_writes 97 = .ok (.iinc 4 1, 3) := by decide +kernel
theorem dMo_writes_100 : decode cMo_writes 100 = .ok (.goto (-46), 3) := by decide +kernel
theorem dMo_writes_103 : decode cMo_writes 103 = .ok (.iconst 0, 1) := by decide +kernel
theorem dMo_writes_104 : decode cMo_writes 104 = .ok (.istore 4, 2) := by decide +kernel
theorem dMo_writes_106 : decode cMo_writes 106 = .ok (.iload 4, 2) := by decide +kernel
theorem dMo_writes_108 : decode cMo_writes 108 = .ok (.aload_n 0, 1) := by decide +kernel
theorem dMo_writes_109 : decode cMo_writes 109 = .ok (.getfield 169, 3) := by decide +kernel
theorem dMo_writes_112 : decode cMo_writes 112 = .ok (.if_icmp .ge 81, 3) := by decide +kernel
theorem dMo_writes_115 : decode cMo_writes 115 = .ok (.aload_n 0, 1) := by decide +kernel
theorem dMo_writes_116 : decode cMo_writes 116 = .ok (.aload_n 0, 1) := by decide +kernel
theorem dMo_writes_117 : decode cMo_writes 117 = .ok (.getfield 65, 3) := by decide +kernel
theorem dMo_writes_120 : decode cMo_writes 120 = .ok (.iload 4, 2) := by decide +kernel
theorem dMo_writes_122 : decode cMo_writes 122 = .ok (.invokevirtual 178, 3) := by decide +kernel
theorem dMo_writes_125 : decode cMo_writes 125 = .ok (.aload_n 0, 1) := by decide +kernel
theorem dMo_writes_126 : decode cMo_writes 126 = .ok (.iload_n 2, 1) := by decide +kernel
theorem dMo_writes_127 : decode cMo_writes 127 = .ok (.putfield 172, 3) := by decide +kernel
theorem dMo_writes_130 : decode cMo_writes 130 = .ok (.aload_n 0, 1) := by decide +kernel
theorem dMo_writes_131 : decode cMo_writes 131 = .ok (.aload_n 0, 1) := by decide +kernel
theorem dMo_writes_132 : decode cMo_writes 132 = .ok (.getfield 37, 3) := by decide +kernel
theorem dMo_writes_135 : decode cMo_writes 135 = .ok (.iload 4, 2) := by decide +kernel
theorem dMo_writes_137 : decode cMo_writes 137 = .ok (.iaload, 1) := by decide +kernel
theorem dMo_writes_138 : decode cMo_writes 138 = .ok (.putfield 175, 3) := by decide +kernel
theorem dMo_writes_141 : decode cMo_writes 141 = .ok (.aload_n 0, 1) := by decide +kernel
theorem dMo_writes_142 : decode cMo_writes 142 = .ok (.invokevirtual 182, 3) := by decide +kernel
theorem dMo_writes_145 : decode cMo_writes 145 = .ok (.dstore 5, 2) := by decide +kernel
theorem dMo_writes_147 : decode cMo_writes 147 = .ok (.aload_n 0, 1) := by decide +kernel
theorem dMo_writes_148 : decode cMo_writes 148 = .ok (.getfield 49, 3) := by decide +kernel
theorem dMo_writes_151 : decode cMo_writes 151 = .ok (.iload_n 3, 1) := by decide +kernel
theorem dMo_writes_152 : decode cMo_writes 152 = .ok (.iaload, 1) := by decide +kernel
theorem dMo_writes_153 : decode cMo_writes 153 = .ok (.ifCond .lt 18, 3) := by decide +kernel
theorem dMo_writes_156 : decode cMo_writes 156 = .ok (.dload 5, 2) := by decide +kernel
theorem dMo_writes_158 : decode cMo_writes 158 = .ok (.aload_n 0, 1) := by decide +kernel
theorem dMo_writes_159 : decode cMo_writes 159 = .ok (.getfield 59, 3) := by decide +kernel
theorem dMo_writes_162 : decode cMo_writes 162 = .ok (.iload_n 3, 1) := by decide +kernel
theorem dMo_writes_163 : decode cMo_writes 163 = .ok (.daload, 1) := by decide +kernel
theorem dMo_writes_164 : decode cMo_writes 164 = .ok (.dcmp .g, 1) := by decide +kernel
theorem dMo_writes_165 : decode cMo_writes 165 = .ok (.ifCond .lt 6, 3) := by decide +kernel
theorem dMo_writes_168 : decode cMo_writes 168 = .ok (.goto 19, 3) := by decide +kernel
theorem dMo_writes_171 : decode cMo_writes 171 = .ok (.aload_n 0, 1) := by decide +kernel
theorem dMo_writes_172 : decode cMo_writes 172 = .ok (.getfield 49, 3) := by decide +kernel
theorem dMo_writes_175 : decode cMo_writes 175 = .ok (.iload_n 3, 1) := by decide +kernel
theorem dMo_writes_176 : decode cMo_writes 176 = .ok (.iload 4, 2) := by decide +kernel
theorem dMo_writes_178 : decode cMo_writes 178 = .ok (.iastore, 1) := by decide +kernel
theorem dMo_writes_179 : decode cMo_writes 179 = .ok (.aload_n 0, 1) := by decide +kernel
theorem dMo_writes_180 : decode cMo_writes 180 = .ok (.getfield 59, 3) := by decide +kernel
theorem dMo_writes_183 : decode cMo_writes 183 = .ok (.iload_n 3, 1) := by decide +kernel
theorem dMo_writes_184 : decode cMo_writes 184 = .ok (.dload 5, 2) := by decide +kernel
theorem dMo_writes_186 : decode cMo_writes 186 = .ok (.dastore, 1) := by decide +kernel
theorem dMo_writes_187 : decode cMo_writes 187 = .ok (.iinc 4 1, 3) := by decide +kernel
theorem dMo_writes_190 : decode cMo_writes 190 = .ok (.goto (-84), 3) := by decide +kernel
theorem dMo_writes_193 : decode cMo_writes 193 = .ok (.aload_n 0, 1) := by decide +kernel
theorem dMo_writes_194 : decode cMo_writes 194 = .ok (.getfield 169, 3) := by decide +kernel
theorem dMo_writes_197 : decode cMo_writes 197 = .ok (.ifCond .le 34, 3) := by decide +kernel
theorem dMo_writes_200 : decode cMo_writes 200 = .ok (.aload_n 0, 1) := by decide +kernel
theorem dMo_writes_201 : decode cMo_writes 201 = .ok (.getfield 59, 3) := by decide +kernel
theorem dMo_writes_204 : decode cMo_writes 204 = .ok (.iload_n 3, 1) := by decide +kernel
theorem dMo_writes_205 : decode cMo_writes 205 = .ok (.daload, 1) := by decide +kernel
theorem dMo_writes_206 : decode cMo_writes 206 = .ok (.aload_n 0, 1) := by decide +kernel
theorem dMo_writes_207 : decode cMo_writes 207 = .ok (.getfield 27, 3) := by decide +kernel
theorem dMo_writes_210 : decode cMo_writes 210 = .ok (.dcmp .g, 1) := by decide +kernel
theorem dMo_writes_211 : decode cMo_writes 211 = .ok (.ifCond .gt 20, 3) := by decide +kernel
theorem dMo_writes_214 : decode cMo_writes 214 = .ok (.aload_n 0, 1) := by decide +kernel
theorem dMo_writes_215 : decode cMo_writes 215 = .ok (.getfield 40, 3) := by decide +kernel
theorem dMo_writes_218 : decode cMo_writes 218 = .ok (.iload_n 3, 1) := by decide +kernel
theorem dMo_writes_219 : decode cMo_writes 219 = .ok (.aload_n 0, 1) := by decide +kernel
theorem dMo_writes_220 : decode cMo_writes 220 = .ok (.getfield 34, 3) := by decide +kernel
theorem dMo_writes_223 : decode cMo_writes 223 = .ok (.aload_n 0, 1) := by decide +kernel
theorem dMo_writes_224 : decode cMo_writes 224 = .ok (.getfield 49, 3) := by decide +kernel
theorem dMo_writes_227 : decode cMo_writes 227 = .ok (.iload_n 3, 1) := by decide +kernel
theorem dMo_writes_228 : decode cMo_writes 228 = .ok (.iaload, 1) := by decide +kernel
theorem dMo_writes_229 : decode cMo_writes 229 = .ok (.iaload, 1) := by decide +kernel
theorem dMo_writes_230 : decode cMo_writes 230 = .ok (.iastore, 1) := by decide +kernel
theorem dMo_writes_231 : decode cMo_writes 231 = .ok (.return_, 1) := by decide +kernel
theorem dMo_word_0 : decode cMo_word 0 = .ok (.aload_n 0, 1) := by decide +kernel
theorem dMo_word_1 : decode cMo_word 1 = .ok (.iconst 0, 1) := by decide +kernel
theorem dMo_word_2 : decode cMo_word 2 = .ok (.putfield 79, 3) := by decide +kernel
theorem dMo_word_5 : decode cMo_word 5 = .ok (.aload_n 0, 1) := by decide +kernel
theorem dMo_word_6 : decode cMo_word 6 = .ok (.iload_n 1, 1) := by decide +kernel
theorem dMo_word_7 : decode cMo_word 7 = .ok (.i2l, 1) := by decide +kernel
theorem dMo_word_8 : decode cMo_word 8 = .ok (.lconst 0, 1) := by decide +kernel
theorem dMo_word_9 : decode cMo_word 9 = .ok (.aload_n 0, 1) := by decide +kernel
theorem dMo_word_10 : decode cMo_word 10 = .ok (.getfield 128, 3) := by decide +kernel
theorem dMo_word_13 : decode cMo_word 13 = .ok (.iconst 1, 1) := by decide +kernel
theorem dMo_word_14 : decode cMo_word 14 = .ok (.isub, 1) := by decide +kernel
theorem dMo_word_15 : decode cMo_word 15 = .ok (.i2l, 1) := by decide +kernel
theorem dMo_word_16 : decode cMo_word 16 = .ok (.invokestatic 84, 3) := by decide +kernel
theorem dMo_word_19 : decode cMo_word 19 = .ok (.ifCond .ne 7, 3) := by decide +kernel
theorem dMo_word_22 : decode cMo_word 22 = .ok (.iconst 1, 1) := by decide +kernel
theorem dMo_word_23 : decode cMo_word 23 = .ok (.goto 4, 3) := by decide +kernel
theorem dMo_word_26 : decode cMo_word 26 = .ok (.iconst 0, 1) := by decide +kernel
theorem dMo_word_27 : decode cMo_word 27 = .ok (.iconst 1, 1) := by decide +kernel
theorem dMo_word_28 : decode cMo_word 28 = .ok (.invokevirtual 88, 3) := by decide +kernel
theorem dMo_word_31 : decode cMo_word 31 = .ok (.ifCond .ne 28, 3) := by decide +kernel
theorem dMo_word_34 : decode cMo_word 34 = .ok (.aload_n 0, 1) := by decide +kernel
theorem dMo_word_35 : decode cMo_word 35 = .ok (.iload_n 2, 1) := by decide +kernel
theorem dMo_word_36 : decode cMo_word 36 = .ok (.i2l, 1) := by decide +kernel
theorem dMo_word_37 : decode cMo_word 37 = .ok (.lconst 0, 1) := by decide +kernel
theorem dMo_word_38 : decode cMo_word 38 = .ok (.ldc2_w 194, 3) := by decide +kernel
theorem dMo_word_41 : decode cMo_word 41 = .ok (.invokestatic 84, 3) := by decide +kernel
theorem dMo_word_44 : decode cMo_word 44 = .ok (.ifCond .ne 7, 3) := by decide +kernel
theorem dMo_word_47 : decode cMo_word 47 = .ok (.iconst 1, 1) := by decide +kernel
theorem dMo_word_48 : decode cMo_word 48 = .ok (.goto 4, 3) := by decide +kernel
theorem dMo_word_51 : decode cMo_word 51 = .ok (.iconst 0, 1) := by decide +kernel
theorem dMo_word_52 : decode cMo_word 52 = .ok (.iconst 2, 1) := by decide +kernel
theorem dMo_word_53 : decode cMo_word 53 = .ok (.invokevirtual 88, 3) := by decide +kernel
theorem dMo_word_56 : decode cMo_word 56 = .ok (.ifCond .eq 5, 3) := by decide +kernel
theorem dMo_word_59 : decode cMo_word 59 = .ok (.iconst 0, 1) := by decide +kernel
theorem dMo_word_60 : decode cMo_word 60 = .ok (.ireturn, 1) := by decide +kernel
theorem dMo_word_61 : decode cMo_word 61 = .ok (.iload_n 2, 1) := by decide +kernel
theorem dMo_word_62 : decode cMo_word 62 = .ok (.tableswitch 81 0 4 #[34, 41, 48, 55, 62], 34) := by decide +kernel
theorem dMo_word_96 : decode cMo_word 96 = .ok (.aload_n 0, 1) := by decide +kernel
theorem dMo_word_97 : decode cMo_word 97 = .ok (.getfield 40, 3) := by decide +kernel
theorem dMo_word_100 : decode cMo_word 100 = .ok (.iload_n 1, 1) := by decide +kernel
theorem dMo_word_101 : decode cMo_word 101 = .ok (.iaload, 1) := by decide +kernel
theorem dMo_word_102 : decode cMo_word 102 = .ok (.ireturn, 1) := by decide +kernel
theorem dMo_word_103 : decode cMo_word 103 = .ok (.aload_n 0, 1) := by decide +kernel
theorem dMo_word_104 : decode cMo_word 104 = .ok (.getfield 43, 3) := by decide +kernel
theorem dMo_word_107 : decode cMo_word 107 = .ok (.iload_n 1, 1) := by decide +kernel
theorem dMo_word_108 : decode cMo_word 108 = .ok (.iaload, 1) := by decide +kernel
theorem dMo_word_109 : decode cMo_word 109 = .ok (.ireturn, 1) := by decide +kernel
theorem dMo_word_110 : decode cMo_word 110 = .ok (.aload_n 0, 1) := by decide +kernel
theorem dMo_word_111 : decode cMo_word 111 = .ok (.getfield 46, 3) := by decide +kernel
theorem dMo_word_114 : decode cMo_word 114 = .ok (.iload_n 1, 1) := by decide +kernel
theorem dMo_word_115 : decode cMo_word 115 = .ok (.iaload, 1) := by decide +kernel
theorem dMo_word_116 : decode cMo_word 116 = .ok (.ireturn, 1) := by decide +kernel
theorem dMo_word_117 : decode cMo_word 117 = .ok (.aload_n 0, 1) := by decide +kernel
theorem dMo_word_118 : decode cMo_word 118 = .ok (.getfield 49, 3) := by decide +kernel
theorem dMo_word_121 : decode cMo_word 121 = .ok (.iload_n 1, 1) := by decide +kernel
theorem dMo_word_122 : decode cMo_word 122 = .ok (.iaload, 1) := by decide +kernel
theorem dMo_word_123 : decode cMo_word 123 = .ok (.ireturn, 1) := by decide +kernel
theorem dMo_word_124 : decode cMo_word 124 = .ok (.bipush 16, 2) := by decide +kernel
theorem dMo_word_126 : decode cMo_word 126 = .ok (.aload_n 0, 1) := by decide +kernel
theorem dMo_word_127 : decode cMo_word 127 = .ok (.getfield 43, 3) := by decide +kernel
theorem dMo_word_130 : decode cMo_word 130 = .ok (.iload_n 1, 1) := by decide +kernel
theorem dMo_word_131 : decode cMo_word 131 = .ok (.iaload, 1) := by decide +kernel
theorem dMo_word_132 : decode cMo_word 132 = .ok (.imul, 1) := by decide +kernel
theorem dMo_word_133 : decode cMo_word 133 = .ok (.sipush 1000, 3) := by decide +kernel
theorem dMo_word_136 : decode cMo_word 136 = .ok (.imul, 1) := by decide +kernel
theorem dMo_word_137 : decode cMo_word 137 = .ok (.aload_n 0, 1) := by decide +kernel
theorem dMo_word_138 : decode cMo_word 138 = .ok (.getfield 13, 3) := by decide +kernel
theorem dMo_word_141 : decode cMo_word 141 = .ok (.idiv, 1) := by decide +kernel
theorem dMo_word_142 : decode cMo_word 142 = .ok (.ireturn, 1) := by decide +kernel
theorem dMo_word_143 : decode cMo_word 143 = .ok (.bipush 16, 2) := by decide +kernel
theorem dMo_word_145 : decode cMo_word 145 = .ok (.aload_n 0, 1) := by decide +kernel
theorem dMo_word_146 : decode cMo_word 146 = .ok (.getfield 43, 3) := by decide +kernel
theorem dMo_word_149 : decode cMo_word 149 = .ok (.iload_n 1, 1) := by decide +kernel
theorem dMo_word_150 : decode cMo_word 150 = .ok (.iaload, 1) := by decide +kernel
theorem dMo_word_151 : decode cMo_word 151 = .ok (.aload_n 0, 1) := by decide +kernel
theorem dMo_word_152 : decode cMo_word 152 = .ok (.getfield 46, 3) := by decide +kernel
theorem dMo_word_155 : decode cMo_word 155 = .ok (.iload_n 1, 1) := by decide +kernel
theorem dMo_word_156 : decode cMo_word 156 = .ok (.iaload, 1) := by decide +kernel
theorem dMo_word_157 : decode cMo_word 157 = .ok (.iadd, 1) := by decide +kernel
theorem dMo_word_158 : decode cMo_word 158 = .ok (.imul, 1) := by decide +kernel
theorem dMo_word_159 : decode cMo_word 159 = .ok (.bipush 16, 2) := by decide +kernel
theorem dMo_word_161 : decode cMo_word 161 = .ok (.iadd, 1) := by decide +kernel
theorem dMo_word_162 : decode cMo_word 162 = .ok (.sipush 1000, 3) := by decide +kernel
theorem dMo_word_165 : decode cMo_word 165 = .ok (.imul, 1) := by decide +kernel
theorem dMo_word_166 : decode cMo_word 166 = .ok (.aload_n 0, 1) := by decide +kernel
theorem dMo_word_167 : decode cMo_word 167 = .ok (.getfield 13, 3) := by decide +kernel
theorem dMo_word_170 : decode cMo_word 170 = .ok (.idiv, 1) := by decide +kernel
theorem dMo_word_171 : decode cMo_word 171 = .ok (.ireturn, 1) := by decide +kernel
theorem dMo_cost_0 : decode cMo_cost 0 = .ok (.aload_n 0, 1) := by decide +kernel
theorem dMo_cost_1 : decode cMo_cost 1 = .ok (.iconst 0, 1) := by decide +kernel
theorem dMo_cost_2 : decode cMo_cost 2 = .ok (.putfield 79, 3) := by decide +kernel
theorem dMo_cost_5 : decode cMo_cost 5 = .ok (.aload_n 0, 1) := by decide +kernel
theorem dMo_cost_6 : decode cMo_cost 6 = .ok (.iload_n 1, 1) := by decide +kernel
theorem dMo_cost_7 : decode cMo_cost 7 = .ok (.i2l, 1) := by decide +kernel
theorem dMo_cost_8 : decode cMo_cost 8 = .ok (.lconst 0, 1) := by decide +kernel
theorem dMo_cost_9 : decode cMo_cost 9 = .ok (.aload_n 0, 1) := by decide +kernel
theorem dMo_cost_10 : decode cMo_cost 10 = .ok (.getfield 128, 3) := by decide +kernel
theorem dMo_cost_13 : decode cMo_cost 13 = .ok (.iconst 1, 1) := by decide +kernel
theorem dMo_cost_14 : decode cMo_cost 14 = .ok (.isub, 1) := by decide +kernel
theorem dMo_cost_15 : decode cMo_cost 15 = .ok (.i2l, 1) := by decide +kernel
theorem dMo_cost_16 : decode cMo_cost 16 = .ok (.invokestatic 84, 3) := by decide +kernel
theorem dMo_cost_19 : decode cMo_cost 19 = .ok (.ifCond .ne 7, 3) := by decide +kernel
theorem dMo_cost_22 : decode cMo_cost 22 = .ok (.iconst 1, 1) := by decide +kernel
theorem dMo_cost_23 : decode cMo_cost 23 = .ok (.goto 4, 3) := by decide +kernel
theorem dMo_cost_26 : decode cMo_cost 26 = .ok (.iconst 0, 1) := by decide +kernel
theorem dMo_cost_27 : decode cMo_cost 27 = .ok (.iconst 1, 1) := by decide +kernel
theorem dMo_cost_28 : decode cMo_cost 28 = .ok (.invokevirtual 88, 3) := by decide +kernel
theorem dMo_cost_31 : decode cMo_cost 31 = .ok (.ifCond .ne 25, 3) := by decide +kernel
theorem dMo_cost_34 : decode cMo_cost 34 = .ok (.aload_n 0, 1) := by decide +kernel
theorem dMo_cost_35 : decode cMo_cost 35 = .ok (.aload_n 0, 1) := by decide +kernel
theorem dMo_cost_36 : decode cMo_cost 36 = .ok (.getfield 49, 3) := by decide +kernel
theorem dMo_cost_39 : decode cMo_cost 39 = .ok (.iload_n 1, 1) := by decide +kernel
theorem dMo_cost_40 : decode cMo_cost 40 = .ok (.iaload, 1) := by decide +kernel
theorem dMo_cost_41 : decode cMo_cost 41 = .ok (.ifCond .ge 7, 3) := by decide +kernel
theorem dMo_cost_44 : decode cMo_cost 44 = .ok (.iconst 1, 1) := by decide +kernel
theorem dMo_cost_45 : decode cMo_cost 45 = .ok (.goto 4, 3) := by decide +kernel
theorem dMo_cost_48 : decode cMo_cost 48 = .ok (.iconst 0, 1) := by decide +kernel
theorem dMo_cost_49 : decode cMo_cost 49 = .ok (.iconst 2, 1) := by decide +kernel
theorem dMo_cost_50 : decode cMo_cost 50 = .ok (.invokevirtual 88, 3) := by decide +kernel
theorem dMo_cost_53 : decode cMo_cost 53 = .ok (.ifCond .eq 5, 3) := by decide +kernel
theorem dMo_cost_56 : decode cMo_cost 56 = .ok (.dconst 0, 1) := by decide +kernel
theorem dMo_cost_57 : decode cMo_cost 57 = .ok (.dreturn, 1) := by decide +kernel
theorem dMo_cost_58 : decode cMo_cost 58 = .ok (.aload_n 0, 1) := by decide +kernel
theorem dMo_cost_59 : decode cMo_cost 59 = .ok (.getfield 59, 3) := by decide +kernel
theorem dMo_cost_62 : decode cMo_cost 62 = .ok (.iload_n 1, 1) := by decide +kernel
theorem dMo_cost_63 : decode cMo_cost 63 = .ok (.daload, 1) := by decide +kernel
theorem dMo_cost_64 : decode cMo_cost 64 = .ok (.dreturn, 1) := by decide +kernel
theorem dMo_count_0 : decode cMo_count 0 = .ok (.aload_n 0, 1) := by decide +kernel
theorem dMo_count_1 : decode cMo_count 1 = .ok (.iconst 0, 1) := by decide +kernel
theorem dMo_count_2 : decode cMo_count 2 = .ok (.putfield 79, 3) := by decide +kernel
theorem dMo_count_5 : decode cMo_count 5 = .ok (.aload_n 0, 1) := by decide +kernel
theorem dMo_count_6 : decode cMo_count 6 = .ok (.iload_n 1, 1) := by decide +kernel
theorem dMo_count_7 : decode cMo_count 7 = .ok (.i2l, 1) := by decide +kernel
theorem dMo_count_8 : decode cMo_count 8 = .ok (.lconst 0, 1) := by decide +kernel
theorem dMo_count_9 : decode cMo_count 9 = .ok (.ldc2_w 196, 3) := by decide +kernel
theorem dMo_count_12 : decode cMo_count 12 = .ok (.invokestatic 84, 3) := by decide +kernel
theorem dMo_count_15 : decode cMo_count 15 = .ok (.ifCond .ne 7, 3) := by decide +kernel
theorem dMo_count_18 : decode cMo_count 18 = .ok (.iconst 1, 1) := by decide +kernel
theorem dMo_count_19 : decode cMo_count 19 = .ok (.goto 4, 3) := by decide +kernel
theorem dMo_count_22 : decode cMo_count 22 = .ok (.iconst 0, 1) := by decide +kernel
theorem dMo_count_23 : decode cMo_count 23 = .ok (.iconst 1, 1) := by decide +kernel
theorem dMo_count_24 : decode cMo_count 24 = .ok (.invokevirtual 88, 3) := by decide +kernel
theorem dMo_count_27 : decode cMo_count 27 = .ok (.ifCond .eq 5, 3) := by decide +kernel
theorem dMo_count_30 : decode cMo_count 30 = .ok (.iconst 0, 1) := by decide +kernel
theorem dMo_count_31 : decode cMo_count 31 = .ok (.ireturn, 1) := by decide +kernel
theorem dMo_count_32 : decode cMo_count 32 = .ok (.iconst 0, 1) := by decide +kernel
theorem dMo_count_33 : decode cMo_count 33 = .ok (.istore_n 2, 1) := by decide +kernel
theorem dMo_count_34 : decode cMo_count 34 = .ok (.iconst 0, 1) := by decide +kernel
theorem dMo_count_35 : decode cMo_count 35 = .ok (.istore_n 3, 1) := by decide +kernel
theorem dMo_count_36 : decode cMo_count 36 = .ok (.iload_n 3, 1) := by decide +kernel
theorem dMo_count_37 : decode cMo_count 37 = .ok (.aload_n 0, 1) := by decide +kernel
theorem dMo_count_38 : decode cMo_count 38 = .ok (.invokevirtual 155, 3) := by decide +kernel
theorem dMo_count_41 : decode cMo_count 41 = .ok (.if_icmp .ge 26, 3) := by decide +kernel
theorem dMo_count_44 : decode cMo_count 44 = .ok (.iload_n 1, 1) := by decide +kernel
theorem dMo_count_45 : decode cMo_count 45 = .ok (.bipush 6, 2) := by decide +kernel
theorem dMo_count_47 : decode cMo_count 47 = .ok (.if_icmp .ne 20, 3) := by decide +kernel
theorem dMo_count_50 : decode cMo_count 50 = .ok (.aload_n 0, 1) := by decide +kernel
theorem dMo_count_51 : decode cMo_count 51 = .ok (.iload_n 3, 1) := by decide +kernel
theorem dMo_count_52 : decode cMo_count 52 = .ok (.invokevirtual 186, 3) := by decide +kernel
theorem dMo_count_55 : decode cMo_count 55 = .ok (.ifCond .eq 6, 3) := by decide +kernel
theorem dMo_count_58 : decode cMo_count 58 = .ok (.iinc 2 1, 3) := by decide +kernel
theorem dMo_count_61 : decode cMo_count 61 = .ok (.iinc 3 1, 3) := by decide +kernel
theorem dMo_count_64 : decode cMo_count 64 = .ok (.goto (-28), 3) := by decide +kernel
theorem dMo_count_67 : decode cMo_count 67 = .ok (.iload_n 1, 1) := by decide +kernel
theorem dMo_count_68 : decode cMo_count 68 = .ok (.tableswitch 70 0 5 #[40, 45, 50, 55, 60, 65], 40) := by decide +kernel
theorem dMo_count_108 : decode cMo_count 108 = .ok (.aload_n 0, 1) := by decide +kernel
theorem dMo_count_109 : decode cMo_count 109 = .ok (.getfield 92, 3) := by decide +kernel
theorem dMo_count_112 : decode cMo_count 112 = .ok (.ireturn, 1) := by decide +kernel
theorem dMo_count_113 : decode cMo_count 113 = .ok (.aload_n 0, 1) := by decide +kernel
theorem dMo_count_114 : decode cMo_count 114 = .ok (.getfield 125, 3) := by decide +kernel
theorem dMo_count_117 : decode cMo_count 117 = .ok (.ireturn, 1) := by decide +kernel
theorem dMo_count_118 : decode cMo_count 118 = .ok (.aload_n 0, 1) := by decide +kernel
theorem dMo_count_119 : decode cMo_count 119 = .ok (.invokevirtual 155, 3) := by decide +kernel
theorem dMo_count_122 : decode cMo_count 122 = .ok (.ireturn, 1) := by decide +kernel
theorem dMo_count_123 : decode cMo_count 123 = .ok (.aload_n 0, 1) := by decide +kernel
theorem dMo_count_124 : decode cMo_count 124 = .ok (.getfield 13, 3) := by decide +kernel
theorem dMo_count_127 : decode cMo_count 127 = .ok (.ireturn, 1) := by decide +kernel
theorem dMo_count_128 : decode cMo_count 128 = .ok (.aload_n 0, 1) := by decide +kernel
theorem dMo_count_129 : decode cMo_count 129 = .ok (.getfield 169, 3) := by decide +kernel
theorem dMo_count_132 : decode cMo_count 132 = .ok (.ireturn, 1) := by decide +kernel
theorem dMo_count_133 : decode cMo_count 133 = .ok (.aload_n 0, 1) := by decide +kernel
theorem dMo_count_134 : decode cMo_count 134 = .ok (.getfield 128, 3) := by decide +kernel
theorem dMo_count_137 : decode cMo_count 137 = .ok (.ireturn, 1) := by decide +kernel
theorem dMo_count_138 : decode cMo_count 138 = .ok (.iload_n 2, 1) := by decide +kernel
theorem dMo_count_139 : decode cMo_count 139 = .ok (.ireturn, 1) := by decide +kernel
