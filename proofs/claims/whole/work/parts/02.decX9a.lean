theorem dX9_init_0 : decode cX9_init 0 = .ok (.aload_n 0, 1) := by decide +kernel
theorem dX9_init_1 : decode cX9_init 1 = .ok (.invokespecial 1, 3) := by decide +kernel
theorem dX9_init_4 : decode cX9_init 4 = .ok (.aload_n 0, 1) := by decide +kernel
theorem dX9_init_5 : decode cX9_init 5 = .ok (.bipush 60, 2) := by decide +kernel
theorem dX9_init_7 : decode cX9_init 7 = .ok (.newarray .int, 2) := by decide +kernel
theorem dX9_init_9 : decode cX9_init 9 = .ok (.putfield 9, 3) := by decide +kernel
theorem dX9_init_12 : decode cX9_init 12 = .ok (.aload_n 0, 1) := by decide +kernel
theorem dX9_init_13 : decode cX9_init 13 = .ok (.bipush 60, 2) := by decide +kernel
theorem dX9_init_15 : decode cX9_init 15 = .ok (.newarray .int, 2) := by decide +kernel
theorem dX9_init_17 : decode cX9_init 17 = .ok (.putfield 13, 3) := by decide +kernel
theorem dX9_init_20 : decode cX9_init 20 = .ok (.aload_n 0, 1) := by decide +kernel
theorem dX9_init_21 : decode cX9_init 21 = .ok (.bipush 60, 2) := by decide +kernel
theorem dX9_init_23 : decode cX9_init 23 = .ok (.newarray .int, 2) := by decide +kernel
theorem dX9_init_25 : decode cX9_init 25 = .ok (.putfield 16, 3) := by decide +kernel
theorem dX9_init_28 : decode cX9_init 28 = .ok (.aload_n 0, 1) := by decide +kernel
theorem dX9_init_29 : decode cX9_init 29 = .ok (.iconst (-1), 1) := by decide +kernel
theorem dX9_init_30 : decode cX9_init 30 = .ok (.putfield 19, 3) := by decide +kernel
theorem dX9_init_33 : decode cX9_init 33 = .ok (.aload_n 0, 1) := by decide +kernel
theorem dX9_init_34 : decode cX9_init 34 = .ok (.sipush 160, 3) := by decide +kernel
theorem dX9_init_37 : decode cX9_init 37 = .ok (.newarray .int, 2) := by decide +kernel
theorem dX9_init_39 : decode cX9_init 39 = .ok (.putfield 23, 3) := by decide +kernel
theorem dX9_init_42 : decode cX9_init 42 = .ok (.aload_n 0, 1) := by decide +kernel
theorem dX9_init_43 : decode cX9_init 43 = .ok (.sipush 3840, 3) := by decide +kernel
theorem dX9_init_46 : decode cX9_init 46 = .ok (.newarray .int, 2) := by decide +kernel
theorem dX9_init_48 : decode cX9_init 48 = .ok (.putfield 26, 3) := by decide +kernel
theorem dX9_init_51 : decode cX9_init 51 = .ok (.aload_n 0, 1) := by decide +kernel
theorem dX9_init_52 : decode cX9_init 52 = .ok (.sipush 3840, 3) := by decide +kernel
theorem dX9_init_55 : decode cX9_init 55 = .ok (.newarray .int, 2) := by decide +kernel
theorem dX9_init_57 : decode cX9_init 57 = .ok (.putfield 29, 3) := by decide +kernel
theorem dX9_init_60 : decode cX9_init 60 = .ok (.aload_n 0, 1) := by decide +kernel
theorem dX9_init_61 : decode cX9_init 61 = .ok (.sipush 3840, 3) := by decide +kernel
theorem dX9_init_64 : decode cX9_init 64 = .ok (.newarray .int, 2) := by decide +kernel
theorem dX9_init_66 : decode cX9_init 66 = .ok (.putfield 32, 3) := by decide +kernel
theorem dX9_init_69 : decode cX9_init 69 = .ok (.aload_n 0, 1) := by decide +kernel
theorem dX9_init_70 : decode cX9_init 70 = .ok (.sipush 3840, 3) := by decide +kernel
theorem dX9_init_73 : decode cX9_init 73 = .ok (.newarray .int, 2) := by decide +kernel
theorem dX9_init_75 : decode cX9_init 75 = .ok (.putfield 35, 3) := by decide +kernel
theorem dX9_init_78 : decode cX9_init 78 = .ok (.aload_n 0, 1) := by decide +kernel
theorem dX9_init_79 : decode cX9_init 79 = .ok (.bipush 24, 2) := by decide +kernel
theorem dX9_init_81 : decode cX9_init 81 = .ok (.newarray .int, 2) := by decide +kernel
theorem dX9_init_83 : decode cX9_init 83 = .ok (.putfield 38, 3) := by decide +kernel
theorem dX9_init_86 : decode cX9_init 86 = .ok (.aload_n 0, 1) := by decide +kernel
theorem dX9_init_87 : decode cX9_init 87 = .ok (.sipush 700, 3) := by decide +kernel
theorem dX9_init_90 : decode cX9_init 90 = .ok (.newarray .int, 2) := by decide +kernel
theorem dX9_init_92 : decode cX9_init 92 = .ok (.putfield 41, 3) := by decide +kernel
theorem dX9_init_95 : decode cX9_init 95 = .ok (.aload_n 0, 1) := by decide +kernel
theorem dX9_init_96 : decode cX9_init 96 = .ok (.sipush 700, 3) := by decide +kernel
theorem dX9_init_99 : decode cX9_init 99 = .ok (.newarray .int, 2) := by decide +kernel
theorem dX9_init_101 : decode cX9_init 101 = .ok (.putfield 44, 3) := by decide +kernel
theorem dX9_init_104 : decode cX9_init 104 = .ok (.aload_n 0, 1) := by decide +kernel
theorem dX9_init_105 : decode cX9_init 105 = .ok (.sipush 700, 3) := by decide +kernel
theorem dX9_init_108 : decode cX9_init 108 = .ok (.newarray .int, 2) := by decide +kernel
theorem dX9_init_110 : decode cX9_init 110 = .ok (.putfield 47, 3) := by decide +kernel
theorem dX9_init_113 : decode cX9_init 113 = .ok (.aload_n 0, 1) := by decide +kernel
theorem dX9_init_114 : decode cX9_init 114 = .ok (.sipush 160, 3) := by decide +kernel
theorem dX9_init_117 : decode cX9_init 117 = .ok (.newarray .int, 2) := by decide +kernel
theorem dX9_init_119 : decode cX9_init 119 = .ok (.putfield 50, 3) := by decide +kernel
theorem dX9_init_122 : decode cX9_init 122 = .ok (.aload_n 0, 1) := by decide +kernel
theorem dX9_init_123 : decode cX9_init 123 = .ok (.sipush 160, 3) := by decide +kernel
theorem dX9_init_126 : decode cX9_init 126 = .ok (.newarray .int, 2) := by decide +kernel
theorem dX9_init_128 : decode cX9_init 128 = .ok (.putfield 53, 3) := by decide +kernel
theorem dX9_init_131 : decode cX9_init 131 = .ok (.aload_n 0, 1) := by decide +kernel
theorem dX9_init_132 : decode cX9_init 132 = .ok (.bipush 8, 2) := by decide +kernel
theorem dX9_init_134 : decode cX9_init 134 = .ok (.newarray .int, 2) := by decide +kernel
theorem dX9_init_136 : decode cX9_init 136 = .ok (.putfield 56, 3) := by decide +kernel
theorem dX9_init_139 : decode cX9_init 139 = .ok (.aload_n 0, 1) := by decide +kernel
theorem dX9_init_140 : decode cX9_init 140 = .ok (.sipush 4080, 3) := by decide +kernel
theorem dX9_init_143 : decode cX9_init 143 = .ok (.newarray .int, 2) := by decide +kernel
theorem dX9_init_145 : decode cX9_init 145 = .ok (.putfield 59, 3) := by decide +kernel
theorem dX9_init_148 : decode cX9_init 148 = .ok (.aload_n 0, 1) := by decide +kernel
theorem dX9_init_149 : decode cX9_init 149 = .ok (.sipush 4800, 3) := by decide +kernel
theorem dX9_init_152 : decode cX9_init 152 = .ok (.newarray .int, 2) := by decide +kernel
theorem dX9_init_154 : decode cX9_init 154 = .ok (.putfield 62, 3) := by decide +kernel
theorem dX9_init_157 : decode cX9_init 157 = .ok (.aload_n 0, 1) := by decide +kernel
theorem dX9_init_158 : decode cX9_init 158 = .ok (.sipush 4800, 3) := by decide +kernel
theorem dX9_init_161 : decode cX9_init 161 = .ok (.newarray .int, 2) := by decide +kernel
theorem dX9_init_163 : decode cX9_init 163 = .ok (.putfield 65, 3) := by decide +kernel
theorem dX9_init_166 : decode cX9_init 166 = .ok (.aload_n 0, 1) := by decide +kernel
theorem dX9_init_167 : decode cX9_init 167 = .ok (.sipush 4000, 3) := by decide +kernel
theorem dX9_init_170 : decode cX9_init 170 = .ok (.newarray .int, 2) := by decide +kernel
theorem dX9_init_172 : decode cX9_init 172 = .ok (.putfield 68, 3) := by decide +kernel
theorem dX9_init_175 : decode cX9_init 175 = .ok (.aload_n 0, 1) := by decide +kernel
theorem dX9_init_176 : decode cX9_init 176 = .ok (.sipush 4000, 3) := by decide +kernel
theorem dX9_init_179 : decode cX9_init 179 = .ok (.newarray .int, 2) := by decide +kernel
theorem dX9_init_181 : decode cX9_init 181 = .ok (.putfield 71, 3) := by decide +kernel
theorem dX9_init_184 : decode cX9_init 184 = .ok (.aload_n 0, 1) := by decide +kernel
theorem dX9_init_185 : decode cX9_init 185 = .ok (.sipush 4000, 3) := by decide +kernel
theorem dX9_init_188 : decode cX9_init 188 = .ok (.newarray .int, 2) := by decide +kernel
theorem dX9_init_190 : decode cX9_init 190 = .ok (.putfield 74, 3) := by decide +kernel
theorem dX9_init_193 : decode cX9_init 193 = .ok (.aload_n 0, 1) := by decide +kernel
theorem dX9_init_194 : decode cX9_init 194 = .ok (.sipush 4000, 3) := by decide +kernel
theorem dX9_init_197 : decode cX9_init 197 = .ok (.newarray .int, 2) := by decide +kernel
theorem dX9_init_199 : decode cX9_init 199 = .ok (.putfield 77, 3) := by decide +kernel
theorem dX9_init_202 : decode cX9_init 202 = .ok (.aload_n 0, 1) := by decide +kernel
theorem dX9_init_203 : decode cX9_init 203 = .ok (.sipush 4000, 3) := by decide +kernel
theorem dX9_init_206 : decode cX9_init 206 = .ok (.newarray .int, 2) := by decide +kernel
theorem dX9_init_208 : decode cX9_init 208 = .ok (.putfield 80, 3) := by decide +kernel
theorem dX9_init_211 : decode cX9_init 211 = .ok (.aload_n 0, 1) := by decide +kernel
theorem dX9_init_212 : decode cX9_init 212 = .ok (.sipush 4000, 3) := by decide +kernel
theorem dX9_init_215 : decode cX9_init 215 = .ok (.newarray .int, 2) := by decide +kernel
theorem dX9_init_217 : decode cX9_init 217 = .ok (.putfield 83, 3) := by decide +kernel
theorem dX9_init_220 : decode cX9_init 220 = .ok (.aload_n 0, 1) := by decide +kernel
theorem dX9_init_221 : decode cX9_init 221 = .ok (.sipush 4000, 3) := by decide +kernel
theorem dX9_init_224 : decode cX9_init 224 = .ok (.newarray .int, 2) := by decide +kernel
theorem dX9_init_226 : decode cX9_init 226 = .ok (.putfield 86, 3) := by decide +kernel
theorem dX9_init_229 : decode cX9_init 229 = .ok (.aload_n 0, 1) := by decide +kernel
theorem dX9_init_230 : decode cX9_init 230 = .ok (.sipush 1200, 3) := by decide +kernel
theorem dX9_init_233 : decode cX9_init 233 = .ok (.newarray .int, 2) := by decide +kernel
theorem dX9_init_235 : decode cX9_init 235 = .ok (.putfield 89, 3) := by decide +kernel
theorem dX9_init_238 : decode cX9_init 238 = .ok (.aload_n 0, 1) := by decide +kernel
theorem dX9_init_239 : decode cX9_init 239 = .ok (.sipush 1200, 3) := by decide +kernel
theorem dX9_init_242 : decode cX9_init 242 = .ok (.newarray .int, 2) := by decide +kernel
theorem dX9_init_244 : decode cX9_init 244 = .ok (.putfield 92, 3) := by decide +kernel
theorem dX9_init_247 : decode cX9_init 247 = .ok (.aload_n 0, 1) := by decide +kernel
theorem dX9_init_248 : decode cX9_init 248 = .ok (.sipush 800, 3) := by decide +kernel
theorem dX9_init_251 : decode cX9_init 251 = .ok (.newarray .int, 2) := by decide +kernel
theorem dX9_init_253 : decode cX9_init 253 = .ok (.putfield 95, 3) := by decide +kernel
theorem dX9_init_256 : decode cX9_init 256 = .ok (.aload_n 0, 1) := by decide +kernel
theorem dX9_init_257 : decode cX9_init 257 = .ok (.sipush 170, 3) := by decide +kernel
theorem dX9_init_260 : decode cX9_init 260 = .ok (.newarray .int, 2) := by decide +kernel
theorem dX9_init_262 : decode cX9_init 262 = .ok (.putfield 98, 3) := by decide +kernel
theorem dX9_init_265 : decode cX9_init 265 = .ok (.aload_n 0, 1) := by decide +kernel
theorem dX9_init_266 : decode cX9_init 266 = .ok (.iconst (-1), 1) := by decide +kernel
theorem dX9_init_267 : decode cX9_init 267 = .ok (.putfield 101, 3) := by decide +kernel
theorem dX9_init_270 : decode cX9_init 270 = .ok (.aload_n 0, 1) := by decide +kernel
theorem dX9_init_271 : decode cX9_init 271 = .ok (.sipush 401, 3) := by decide +kernel
theorem dX9_init_274 : decode cX9_init 274 = .ok (.newarray .int, 2) := by decide +kernel
theorem dX9_init_276 : decode cX9_init 276 = .ok (.putfield 104, 3) := by decide +kernel
theorem dX9_init_279 : decode cX9_init 279 = .ok (.aload_n 0, 1) := by decide +kernel
theorem dX9_init_280 : decode cX9_init 280 = .ok (.sipush 800, 3) := by decide +kernel
theorem dX9_init_283 : decode cX9_init 283 = .ok (.newarray .int, 2) := by decide +kernel
theorem dX9_init_285 : decode cX9_init 285 = .ok (.putfield 107, 3) := by decide +kernel
theorem dX9_init_288 : decode cX9_init 288 = .ok (.aload_n 0, 1) := by decide +kernel
theorem dX9_init_289 : decode cX9_init 289 = .ok (.sipush 1200, 3) := by decide +kernel
theorem dX9_init_292 : decode cX9_init 292 = .ok (.newarray .int, 2) := by decide +kernel
theorem dX9_init_294 : decode cX9_init 294 = .ok (.putfield 110, 3) := by decide +kernel
theorem dX9_init_297 : decode cX9_init 297 = .ok (.return_, 1) := by decide +kernel
theorem dX9_typeOf_0 : decode cX9_typeOf 0 = .ok (.iload_n 0, 1) := by decide +kernel
theorem dX9_typeOf_1 : decode cX9_typeOf 1 = .ok (.iconst 4, 1) := by decide +kernel
theorem dX9_typeOf_2 : decode cX9_typeOf 2 = .ok (.iload_n 1, 1) := by decide +kernel
theorem dX9_typeOf_3 : decode cX9_typeOf 3 = .ok (.imul, 1) := by decide +kernel
theorem dX9_typeOf_4 : decode cX9_typeOf 4 = .ok (.ishr, 1) := by decide +kernel
theorem dX9_typeOf_5 : decode cX9_typeOf 5 = .ok (.bipush 15, 2) := by decide +kernel
theorem dX9_typeOf_7 : decode cX9_typeOf 7 = .ok (.iand, 1) := by decide +kernel
theorem dX9_typeOf_8 : decode cX9_typeOf 8 = .ok (.ireturn, 1) := by decide +kernel
theorem dX9_areTypes_0 : decode cX9_areTypes 0 = .ok (.iconst 0, 1) := by decide +kernel
theorem dX9_areTypes_1 : decode cX9_areTypes 1 = .ok (.istore_n 3, 1) := by decide +kernel
theorem dX9_areTypes_2 : decode cX9_areTypes 2 = .ok (.iload_n 3, 1) := by decide +kernel
theorem dX9_areTypes_3 : decode cX9_areTypes 3 = .ok (.iload_n 1, 1) := by decide +kernel
theorem dX9_areTypes_4 : decode cX9_areTypes 4 = .ok (.if_icmp .ge 23, 3) := by decide +kernel
theorem dX9_areTypes_7 : decode cX9_areTypes 7 = .ok (.iload_n 2, 1) := by decide +kernel
theorem dX9_areTypes_8 : decode cX9_areTypes 8 = .ok (.iload_n 3, 1) := by decide +kernel
theorem dX9_areTypes_9 : decode cX9_areTypes 9 = .ok (.invokestatic 113, 3) := by decide +kernel
theorem dX9_areTypes_12 : decode cX9_areTypes 12 = .ok (.aload_n 0, 1) := by decide +kernel
theorem dX9_areTypes_13 : decode cX9_areTypes 13 = .ok (.getfield 117, 3) := by decide +kernel
theorem dX9_areTypes_16 : decode cX9_areTypes 16 = .ok (.if_icmp .lt 5, 3) := by decide +kernel
theorem dX9_areTypes_19 : decode cX9_areTypes 19 = .ok (.iconst 0, 1) := by decide +kernel
theorem dX9_areTypes_20 : decode cX9_areTypes 20 = .ok (.ireturn, 1) := by decide +kernel
theorem dX9_areTypes_21 : decode cX9_areTypes 21 = .ok (.iinc 3 1, 3) := by decide +kernel
theorem dX9_areTypes_24 : decode cX9_areTypes 24 = .ok (.goto (-22), 3) := by decide +kernel
theorem dX9_areTypes_27 : decode cX9_areTypes 27 = .ok (.iconst 1, 1) := by decide +kernel
theorem dX9_areTypes_28 : decode cX9_areTypes 28 = .ok (.ireturn, 1) := by decide +kernel
theorem dX9_type_0 : decode cX9_type 0 = .ok (.aload_n 0, 1) := by decide +kernel
theorem dX9_type_1 : decode cX9_type 1 = .ok (.getfield 117, 3) := by decide +kernel
theorem dX9_type_4 : decode cX9_type 4 = .ok (.bipush 12, 2) := by decide +kernel
theorem dX9_type_6 : decode cX9_type 6 = .ok (.if_icmp .ne 5, 3) := by decide +kernel
theorem dX9_type_9 : decode cX9_type 9 = .ok (.iconst (-1), 1) := by decide +kernel
theorem dX9_type_10 : decode cX9_type 10 = .ok (.ireturn, 1) := by decide +kernel
theorem dX9_type_11 : decode cX9_type 11 = .ok (.aload_n 0, 1) := by decide +kernel
theorem dX9_type_12 : decode cX9_type 12 = .ok (.dup, 1) := by decide +kernel
theorem dX9_type_13 : decode cX9_type 13 = .ok (.getfield 117, 3) := by decide +kernel
theorem dX9_type_16 : decode cX9_type 16 = .ok (.iconst 1, 1) := by decide +kernel
theorem dX9_type_17 : decode cX9_type 17 = .ok (.iadd, 1) := by decide +kernel
theorem dX9_type_18 : decode cX9_type 18 = .ok (.putfield 117, 3) := by decide +kernel
theorem dX9_type_21 : decode cX9_type 21 = .ok (.aload_n 0, 1) := by decide +kernel
theorem dX9_type_22 : decode cX9_type 22 = .ok (.getfield 117, 3) := by decide +kernel
theorem dX9_type_25 : decode cX9_type 25 = .ok (.iconst 1, 1) := by decide +kernel
theorem dX9_type_26 : decode cX9_type 26 = .ok (.isub, 1) := by decide +kernel
theorem dX9_type_27 : decode cX9_type 27 = .ok (.ireturn, 1) := by decide +kernel
theorem dX9_constructor_0 : decode cX9_constructor 0 = .ok (.iload_n 1, 1) := by decide +kernel
theorem dX9_constructor_1 : decode cX9_constructor 1 = .ok (.ifCond .lt 38, 3) := by decide +kernel
theorem dX9_constructor_4 : decode cX9_constructor 4 = .ok (.iload_n 1, 1) := by decide +kernel
theorem dX9_constructor_5 : decode cX9_constructor 5 = .ok (.aload_n 0, 1) := by decide +kernel
theorem dX9_constructor_6 : decode cX9_constructor 6 = .ok (.getfield 117, 3) := by decide +kernel
theorem dX9_constructor_9 : decode cX9_constructor 9 = .ok (.if_icmp .ge 30, 3) := by decide +kernel
theorem dX9_constructor_12 : decode cX9_constructor 12 = .ok (.iload_n 2, 1) := by decide +kernel
theorem dX9_constructor_13 : decode cX9_constructor 13 = .ok (.ifCond .lt 26, 3) := by decide +kernel
theorem dX9_constructor_16 : decode cX9_constructor 16 = .ok (.iload_n 2, 1) := by decide +kernel
theorem dX9_constructor_17 : decode cX9_constructor 17 = .ok (.iconst 4, 1) := by decide +kernel
theorem dX9_constructor_18 : decode cX9_constructor 18 = .ok (.if_icmp .gt 21, 3) := by decide +kernel
theorem dX9_constructor_21 : decode cX9_constructor 21 = .ok (.aload_n 0, 1) := by decide +kernel
theorem dX9_constructor_22 : decode cX9_constructor 22 = .ok (.iload_n 2, 1) := by decide +kernel
theorem dX9_constructor_23 : decode cX9_constructor 23 = .ok (.iload_n 3, 1) := by decide +kernel
theorem dX9_constructor_24 : decode cX9_constructor 24 = .ok (.invokevirtual 120, 3) := by decide +kernel
theorem dX9_constructor_27 : decode cX9_constructor 27 = .ok (.ifCond .eq 12, 3) := by decide +kernel
theorem dX9_constructor_30 : decode cX9_constructor 30 = .ok (.aload_n 0, 1) := by decide +kernel
theorem dX9_constructor_31 : decode cX9_constructor 31 = .ok (.getfield 124, 3) := by decide +kernel
theorem dX9_constructor_34 : decode cX9_constructor 34 = .ok (.bipush 60, 2) := by decide +kernel
theorem dX9_constructor_36 : decode cX9_constructor 36 = .ok (.if_icmp .ne 5, 3) := by decide +kernel
theorem dX9_constructor_39 : decode cX9_constructor 39 = .ok (.iconst (-1), 1) := by decide +kernel
theorem dX9_constructor_40 : decode cX9_constructor 40 = .ok (.ireturn, 1) := by decide +kernel
theorem dX9_constructor_41 : decode cX9_constructor 41 = .ok (.aload_n 0, 1) := by decide +kernel
theorem dX9_constructor_42 : decode cX9_constructor 42 = .ok (.getfield 9, 3) := by decide +kernel
theorem dX9_constructor_45 : decode cX9_constructor 45 = .ok (.aload_n 0, 1) := by decide +kernel
theorem dX9_constructor_46 : decode cX9_constructor 46 = .ok (.getfield 124, 3) := by decide +kernel
theorem dX9_constructor_49 : decode cX9_constructor 49 = .ok (.iload_n 1, 1) := by decide +kernel
theorem dX9_constructor_50 : decode cX9_constructor 50 = .ok (.iastore, 1) := by decide +kernel
theorem dX9_constructor_51 : decode cX9_constructor 51 = .ok (.aload_n 0, 1) := by decide +kernel
theorem dX9_constructor_52 : decode cX9_constructor 52 = .ok (.getfield 13, 3) := by decide +kernel
theorem dX9_constructor_55 : decode cX9_constructor 55 = .ok (.aload_n 0, 1) := by decide +kernel
theorem dX9_constructor_56 : decode cX9_constructor 56 = .ok (.getfield 124, 3) := by decide +kernel
theorem dX9_constructor_59 : decode cX9_constructor 59 = .ok (.iload_n 2, 1) := by decide +kernel
theorem dX9_constructor_60 : decode cX9_constructor 60 = .ok (.iastore, 1) := by decide +kernel
theorem dX9_constructor_61 : decode cX9_constructor 61 = .ok (.aload_n 0, 1) := by decide +kernel
theorem dX9_constructor_62 : decode cX9_constructor 62 = .ok (.getfield 16, 3) := by decide +kernel
theorem dX9_constructor_65 : decode cX9_constructor 65 = .ok (.aload_n 0, 1) := by decide +kernel
theorem dX9_constructor_66 : decode cX9_constructor 66 = .ok (.getfield 124, 3) := by decide +kernel
theorem dX9_constructor_69 : decode cX9_constructor 69 = .ok (.iload_n 3, 1) := by decide +kernel
theorem dX9_constructor_70 : decode cX9_constructor 70 = .ok (.iastore, 1) := by decide +kernel
theorem dX9_constructor_71 : decode cX9_constructor 71 = .ok (.aload_n 0, 1) := by decide +kernel
theorem dX9_constructor_72 : decode cX9_constructor 72 = .ok (.dup, 1) := by decide +kernel
theorem dX9_constructor_73 : decode cX9_constructor 73 = .ok (.getfield 124, 3) := by decide +kernel
theorem dX9_constructor_76 : decode cX9_constructor 76 = .ok (.iconst 1, 1) := by decide +kernel
theorem dX9_constructor_77 : decode cX9_constructor 77 = .ok (.iadd, 1) := by decide +kernel
theorem dX9_constructor_78 : decode cX9_constructor 78 = .ok (.putfield 124, 3) := by decide +kernel
theorem dX9_constructor_81 : decode cX9_constructor 81 = .ok (.aload_n 0, 1) := by decide +kernel
theorem dX9_constructor_82 : decode cX9_constructor 82 = .ok (.iconst 0, 1) := by decide +kernel
theorem dX9_constructor_83 : decode cX9_constructor 83 = .ok (.putfield 127, 3) := by decide +kernel
theorem dX9_constructor_86 : decode cX9_constructor 86 = .ok (.aload_n 0, 1) := by decide +kernel
theorem dX9_constructor_87 : decode cX9_constructor 87 = .ok (.getfield 124, 3) := by decide +kernel
theorem dX9_constructor_90 : decode cX9_constructor 90 = .ok (.iconst 1, 1) := by decide +kernel
theorem dX9_constructor_91 : decode cX9_constructor 91 = .ok (.isub, 1) := by decide +kernel
theorem dX9_constructor_92 : decode cX9_constructor 92 = .ok (.ireturn, 1) := by decide +kernel
theorem dX9_begin_0 : decode cX9_begin 0 = .ok (.iload_n 1, 1) := by decide +kernel
theorem dX9_begin_1 : decode cX9_begin 1 = .ok (.ifCond .lt 18, 3) := by decide +kernel
theorem dX9_begin_4 : decode cX9_begin 4 = .ok (.iload_n 1, 1) := by decide +kernel
theorem dX9_begin_5 : decode cX9_begin 5 = .ok (.bipush 6, 2) := by decide +kernel
theorem dX9_begin_7 : decode cX9_begin 7 = .ok (.if_icmp .gt 12, 3) := by decide +kernel
theorem dX9_begin_10 : decode cX9_begin 10 = .ok (.aload_n 0, 1) := by decide +kernel
theorem dX9_begin_11 : decode cX9_begin 11 = .ok (.iload_n 1, 1) := by decide +kernel
theorem dX9_begin_12 : decode cX9_begin 12 = .ok (.iload_n 2, 1) := by decide +kernel
theorem dX9_begin_13 : decode cX9_begin 13 = .ok (.invokevirtual 120, 3) := by decide +kernel
theorem dX9_begin_16 : decode cX9_begin 16 = .ok (.ifCond .ne 5, 3) := by decide +kernel
theorem dX9_begin_19 : decode cX9_begin 19 = .ok (.iconst 0, 1) := by decide +kernel
theorem dX9_begin_20 : decode cX9_begin 20 = .ok (.ireturn, 1) := by decide +kernel
theorem dX9_begin_21 : decode cX9_begin 21 = .ok (.aload_n 0, 1) := by decide +kernel
theorem dX9_begin_22 : decode cX9_begin 22 = .ok (.iload_n 1, 1) := by decide +kernel
theorem dX9_begin_23 : decode cX9_begin 23 = .ok (.putfield 19, 3) := by decide +kernel
theorem dX9_begin_26 : decode cX9_begin 26 = .ok (.aload_n 0, 1) := by decide +kernel
theorem dX9_begin_27 : decode cX9_begin 27 = .ok (.iload_n 2, 1) := by decide +kernel
theorem dX9_begin_28 : decode cX9_begin 28 = .ok (.putfield 130, 3) := by decide +kernel
theorem dX9_begin_31 : decode cX9_begin 31 = .ok (.aload_n 0, 1) := by decide +kernel
theorem dX9_begin_32 : decode cX9_begin 32 = .ok (.iconst 0, 1) := by decide +kernel
theorem dX9_begin_33 : decode cX9_begin 33 = .ok (.putfield 133, 3) := by decide +kernel
theorem dX9_begin_36 : decode cX9_begin 36 = .ok (.aload_n 0, 1) := by decide +kernel
theorem dX9_begin_37 : decode cX9_begin 37 = .ok (.iconst 0, 1) := by decide +kernel
theorem dX9_begin_38 : decode cX9_begin 38 = .ok (.putfield 127, 3) := by decide +kernel
theorem dX9_begin_41 : decode cX9_begin 41 = .ok (.aload_n 0, 1) := by decide +kernel
theorem dX9_begin_42 : decode cX9_begin 42 = .ok (.invokevirtual 136, 3) := by decide +kernel
theorem dX9_begin_45 : decode cX9_begin 45 = .ok (.iconst 1, 1) := by decide +kernel
theorem dX9_begin_46 : decode cX9_begin 46 = .ok (.ireturn, 1) := by decide +kernel
theorem dX9_put_0 : decode cX9_put 0 = .ok (.aload_n 0, 1) := by decide +kernel
theorem dX9_put_1 : decode cX9_put 1 = .ok (.getfield 139, 3) := by decide +kernel
theorem dX9_put_4 : decode cX9_put 4 = .ok (.sipush 160, 3) := by decide +kernel
theorem dX9_put_7 : decode cX9_put 7 = .ok (.if_icmp .ne 5, 3) := by decide +kernel
theorem dX9_put_10 : decode cX9_put 10 = .ok (.iconst (-1), 1) := by decide +kernel
theorem dX9_put_11 : decode cX9_put 11 = .ok (.ireturn, 1) := by decide +kernel
theorem dX9_put_12 : decode cX9_put 12 = .ok (.aload_n 0, 1) := by decide +kernel
theorem dX9_put_13 : decode cX9_put 13 = .ok (.getfield 23, 3) := by decide +kernel
theorem dX9_put_16 : decode cX9_put 16 = .ok (.aload_n 0, 1) := by decide +kernel
theorem dX9_put_17 : decode cX9_put 17 = .ok (.getfield 139, 3) := by decide +kernel
theorem dX9_put_20 : decode cX9_put 20 = .ok (.iload_n 1, 1) := by decide +kernel
theorem dX9_put_21 : decode cX9_put 21 = .ok (.iastore, 1) := by decide +kernel
theorem dX9_put_22 : decode cX9_put 22 = .ok (.aload_n 0, 1) := by decide +kernel
theorem dX9_put_23 : decode cX9_put 23 = .ok (.dup, 1) := by decide +kernel
theorem dX9_put_24 : decode cX9_put 24 = .ok (.getfield 139, 3) := by decide +kernel
theorem dX9_put_27 : decode cX9_put 27 = .ok (.iconst 1, 1) := by decide +kernel
theorem dX9_put_28 : decode cX9_put 28 = .ok (.iadd, 1) := by decide +kernel
theorem dX9_put_29 : decode cX9_put 29 = .ok (.putfield 139, 3) := by decide +kernel
theorem dX9_put_32 : decode cX9_put 32 = .ok (.aload_n 0, 1) := by decide +kernel
theorem dX9_put_33 : decode cX9_put 33 = .ok (.getfield 139, 3) := by decide +kernel
theorem dX9_put_36 : decode cX9_put 36 = .ok (.ireturn, 1) := by decide +kernel
theorem dX9_want_0 : decode cX9_want 0 = .ok (.iload_n 1, 1) := by decide +kernel
theorem dX9_want_1 : decode cX9_want 1 = .ok (.iconst 1, 1) := by decide +kernel
theorem dX9_want_2 : decode cX9_want 2 = .ok (.isub, 1) := by decide +kernel
theorem dX9_want_3 : decode cX9_want 3 = .ok (.istore 4, 2) := by decide +kernel
theorem dX9_want_5 : decode cX9_want 5 = .ok (.iload 4, 2) := by decide +kernel
theorem dX9_want_7 : decode cX9_want 7 = .ok (.ifCond .lt 55, 3) := by decide +kernel
theorem dX9_want_10 : decode cX9_want 10 = .ok (.aload_n 0, 1) := by decide +kernel
theorem dX9_want_11 : decode cX9_want 11 = .ok (.getfield 41, 3) := by decide +kernel
theorem dX9_want_14 : decode cX9_want 14 = .ok (.aload_n 0, 1) := by decide +kernel
theorem dX9_want_15 : decode cX9_want 15 = .ok (.getfield 142, 3) := by decide +kernel
theorem dX9_want_18 : decode cX9_want 18 = .ok (.iload_n 2, 1) := by decide +kernel
theorem dX9_want_19 : decode cX9_want 19 = .ok (.iload 4, 2) := by decide +kernel
theorem dX9_want_21 : decode cX9_want 21 = .ok (.invokestatic 113, 3) := by decide +kernel
theorem dX9_want_24 : decode cX9_want 24 = .ok (.iastore, 1) := by decide +kernel
theorem dX9_want_25 : decode cX9_want 25 = .ok (.aload_n 0, 1) := by decide +kernel
theorem dX9_want_26 : decode cX9_want 26 = .ok (.getfield 44, 3) := by decide +kernel
theorem dX9_want_29 : decode cX9_want 29 = .ok (.aload_n 0, 1) := by decide +kernel
theorem dX9_want_30 : decode cX9_want 30 = .ok (.getfield 142, 3) := by decide +kernel
theorem dX9_want_33 : decode cX9_want 33 = .ok (.iload_n 3, 1) := by decide +kernel
theorem dX9_want_34 : decode cX9_want 34 = .ok (.iastore, 1) := by decide +kernel
theorem dX9_want_35 : decode cX9_want 35 = .ok (.aload_n 0, 1) := by decide +kernel
theorem dX9_want_36 : decode cX9_want 36 = .ok (.getfield 47, 3) := by decide +kernel
theorem dX9_want_39 : decode cX9_want 39 = .ok (.aload_n 0, 1) := by decide +kernel
theorem dX9_want_40 : decode cX9_want 40 = .ok (.getfield 142, 3) := by decide +kernel
theorem dX9_want_43 : decode cX9_want 43 = .ok (.iload 4, 2) := by decide +kernel
theorem dX9_want_45 : decode cX9_want 45 = .ok (.iastore, 1) := by decide +kernel
theorem dX9_want_46 : decode cX9_want 46 = .ok (.aload_n 0, 1) := by decide +kernel
theorem dX9_want_47 : decode cX9_want 47 = .ok (.dup, 1) := by decide +kernel
theorem dX9_want_48 : decode cX9_want 48 = .ok (.getfield 142, 3) := by decide +kernel
theorem dX9_want_51 : decode cX9_want 51 = .ok (.iconst 1, 1) := by decide +kernel
theorem dX9_want_52 : decode cX9_want 52 = .ok (.iadd, 1) := by decide +kernel
theorem dX9_want_53 : decode cX9_want 53 = .ok (.putfield 142, 3) := by decide +kernel
theorem dX9_want_56 : decode cX9_want 56 = .ok (.iinc 4 (-1), 3) := by decide +kernel
theorem dX9_want_59 : decode cX9_want 59 = .ok (.goto (-54), 3) := by decide +kernel
theorem dX9_want_62 : decode cX9_want 62 = .ok (.return_, 1) := by decide +kernel
theorem dX9_wrong_0 : decode cX9_wrong 0 = .ok (.iconst 0, 1) := by decide +kernel
theorem dX9_wrong_1 : decode cX9_wrong 1 = .ok (.istore_n 2, 1) := by decide +kernel
theorem dX9_wrong_2 : decode cX9_wrong 2 = .ok (.iload_n 2, 1) := by decide +kernel
theorem dX9_wrong_3 : decode cX9_wrong 3 = .ok (.bipush 8, 2) := by decide +kernel
theorem dX9_wrong_5 : decode cX9_wrong 5 = .ok (.if_icmp .ge 16, 3) := by decide +kernel
theorem dX9_wrong_8 : decode cX9_wrong 8 = .ok (.aload_n 0, 1) := by decide +kernel
theorem dX9_wrong_9 : decode cX9_wrong 9 = .ok (.getfield 56, 3) := by decide +kernel
theorem dX9_wrong_12 : decode cX9_wrong 12 = .ok (.iload_n 2, 1) := by decide +kernel
theorem dX9_wrong_13 : decode cX9_wrong 13 = .ok (.iconst (-1), 1) := by decide +kernel
theorem dX9_wrong_14 : decode cX9_wrong 14 = .ok (.iastore, 1) := by decide +kernel
theorem dX9_wrong_15 : decode cX9_wrong 15 = .ok (.iinc 2 1, 3) := by decide +kernel
theorem dX9_wrong_18 : decode cX9_wrong 18 = .ok (.goto (-16), 3) := by decide +kernel
theorem dX9_wrong_21 : decode cX9_wrong 21 = .ok (.aload_n 0, 1) := by decide +kernel
theorem dX9_wrong_22 : decode cX9_wrong 22 = .ok (.iconst 0, 1) := by decide +kernel
theorem dX9_wrong_23 : decode cX9_wrong 23 = .ok (.putfield 142, 3) := by decide +kernel
theorem dX9_wrong_26 : decode cX9_wrong 26 = .ok (.aload_n 0, 1) := by decide +kernel
theorem dX9_wrong_27 : decode cX9_wrong 27 = .ok (.aload_n 0, 1) := by decide +kernel
theorem dX9_wrong_28 : decode cX9_wrong 28 = .ok (.getfield 19, 3) := by decide +kernel
theorem dX9_wrong_31 : decode cX9_wrong 31 = .ok (.aload_n 0, 1) := by decide +kernel
theorem dX9_wrong_32 : decode cX9_wrong 32 = .ok (.getfield 130, 3) := by decide +kernel
theorem dX9_wrong_35 : decode cX9_wrong 35 = .ok (.iconst (-1), 1) := by decide +kernel
theorem dX9_wrong_36 : decode cX9_wrong 36 = .ok (.invokevirtual 145, 3) := by decide +kernel
theorem dX9_wrong_39 : decode cX9_wrong 39 = .ok (.iconst 0, 1) := by decide +kernel
theorem dX9_wrong_40 : decode cX9_wrong 40 = .ok (.istore_n 2, 1) := by decide +kernel
theorem dX9_wrong_41 : decode cX9_wrong 41 = .ok (.aload_n 0, 1) := by decide +kernel
theorem dX9_wrong_42 : decode cX9_wrong 42 = .ok (.getfield 142, 3) := by decide +kernel
theorem dX9_wrong_45 : decode cX9_wrong 45 = .ok (.ifCond .le 140, 3) := by decide +kernel
theorem dX9_wrong_48 : decode cX9_wrong 48 = .ok (.iload_n 2, 1) := by decide +kernel
theorem dX9_wrong_49 : decode cX9_wrong 49 = .ok (.aload_n 0, 1) := by decide +kernel
theorem dX9_wrong_50 : decode cX9_wrong 50 = .ok (.getfield 139, 3) := by decide +kernel
theorem dX9_wrong_53 : decode cX9_wrong 53 = .ok (.if_icmp .eq 23, 3) := by decide +kernel
theorem dX9_wrong_56 : decode cX9_wrong 56 = .ok (.aload_n 0, 1) := by decide +kernel
theorem dX9_wrong_57 : decode cX9_wrong 57 = .ok (.iload_n 2, 1) := by decide +kernel
theorem dX9_wrong_58 : decode cX9_wrong 58 = .ok (.aload_n 0, 1) := by decide +kernel
theorem dX9_wrong_59 : decode cX9_wrong 59 = .ok (.getfield 41, 3) := by decide +kernel
theorem dX9_wrong_62 : decode cX9_wrong 62 = .ok (.aload_n 0, 1) := by decide +kernel
theorem dX9_wrong_63 : decode cX9_wrong 63 = .ok (.getfield 142, 3) := by decide +kernel
theorem dX9_wrong_66 : decode cX9_wrong 66 = .ok (.iconst 1, 1) := by decide +kernel
theorem dX9_wrong_67 : decode cX9_wrong 67 = .ok (.isub, 1) := by decide +kernel
theorem dX9_wrong_68 : decode cX9_wrong 68 = .ok (.iaload, 1) := by decide +kernel
theorem dX9_wrong_69 : decode cX9_wrong 69 = .ok (.iload_n 1, 1) := by decide +kernel
theorem dX9_wrong_70 : decode cX9_wrong 70 = .ok (.invokevirtual 149, 3) := by decide +kernel
theorem dX9_wrong_73 : decode cX9_wrong 73 = .ok (.ifCond .ne 5, 3) := by decide +kernel
theorem dX9_wrong_76 : decode cX9_wrong 76 = .ok (.iload_n 2, 1) := by decide +kernel
theorem dX9_wrong_77 : decode cX9_wrong 77 = .ok (.ireturn, 1) := by decide +kernel
theorem dX9_wrong_78 : decode cX9_wrong 78 = .ok (.aload_n 0, 1) := by decide +kernel
theorem dX9_wrong_79 : decode cX9_wrong 79 = .ok (.dup, 1) := by decide +kernel
theorem dX9_wrong_80 : decode cX9_wrong 80 = .ok (.getfield 142, 3) := by decide +kernel
theorem dX9_wrong_83 : decode cX9_wrong 83 = .ok (.iconst 1, 1) := by decide +kernel
theorem dX9_wrong_84 : decode cX9_wrong 84 = .ok (.isub, 1) := by decide +kernel
theorem dX9_wrong_85 : decode cX9_wrong 85 = .ok (.putfield 142, 3) := by decide +kernel
theorem dX9_wrong_88 : decode cX9_wrong 88 = .ok (.aload_n 0, 1) := by decide +kernel
theorem dX9_wrong_89 : decode cX9_wrong 89 = .ok (.getfield 50, 3) := by decide +kernel
theorem dX9_wrong_92 : decode cX9_wrong 92 = .ok (.iload_n 2, 1) := by decide +kernel
theorem dX9_wrong_93 : decode cX9_wrong 93 = .ok (.aload_n 0, 1) := by decide +kernel
theorem dX9_wrong_94 : decode cX9_wrong 94 = .ok (.getfield 44, 3) := by decide +kernel
theorem dX9_wrong_97 : decode cX9_wrong 97 = .ok (.aload_n 0, 1) := by decide +kernel
theorem dX9_wrong_98 : decode cX9_wrong 98 = .ok (.getfield 142, 3) := by decide +kernel
theorem dX9_wrong_101 : decode cX9_wrong 101 = .ok (.iaload, 1) := by decide +kernel
theorem dX9_wrong_102 : decode cX9_wrong 102 = .ok (.iastore, 1) := by decide +kernel
theorem dX9_wrong_103 : decode cX9_wrong 103 = .ok (.aload_n 0, 1) := by decide +kernel
theorem dX9_wrong_104 : decode cX9_wrong 104 = .ok (.getfield 53, 3) := by decide +kernel
theorem dX9_wrong_107 : decode cX9_wrong 107 = .ok (.iload_n 2, 1) := by decide +kernel
theorem dX9_wrong_108 : decode cX9_wrong 108 = .ok (.aload_n 0, 1) := by decide +kernel
theorem dX9_wrong_109 : decode cX9_wrong 109 = .ok (.getfield 47, 3) := by decide +kernel
theorem dX9_wrong_112 : decode cX9_wrong 112 = .ok (.aload_n 0, 1) := by decide +kernel
theorem dX9_wrong_113 : decode cX9_wrong 113 = .ok (.getfield 142, 3) := by decide +kernel
theorem dX9_wrong_116 : decode cX9_wrong 116 = .ok (.iaload, 1) := by decide +kernel
theorem dX9_wrong_117 : decode cX9_wrong 117 = .ok (.iastore, 1) := by decide +kernel
theorem dX9_wrong_118 : decode cX9_wrong 118 = .ok (.aload_n 0, 1) := by decide +kernel
theorem dX9_wrong_119 : decode cX9_wrong 119 = .ok (.getfield 23, 3) := by decide +kernel
theorem dX9_wrong_122 : decode cX9_wrong 122 = .ok (.iload_n 2, 1) := by decide +kernel
theorem dX9_wrong_123 : decode cX9_wrong 123 = .ok (.iaload, 1) := by decide +kernel
theorem dX9_wrong_124 : decode cX9_wrong 124 = .ok (.ifCond .lt 30, 3) := by decide +kernel
theorem dX9_wrong_127 : decode cX9_wrong 127 = .ok (.aload_n 0, 1) := by decide +kernel
theorem dX9_wrong_128 : decode cX9_wrong 128 = .ok (.aload_n 0, 1) := by decide +kernel
theorem dX9_wrong_129 : decode cX9_wrong 129 = .ok (.getfield 13, 3) := by decide +kernel
theorem dX9_wrong_132 : decode cX9_wrong 132 = .ok (.aload_n 0, 1) := by decide +kernel
theorem dX9_wrong_133 : decode cX9_wrong 133 = .ok (.getfield 23, 3) := by decide +kernel
theorem dX9_wrong_136 : decode cX9_wrong 136 = .ok (.iload_n 2, 1) := by decide +kernel
theorem dX9_wrong_137 : decode cX9_wrong 137 = .ok (.iaload, 1) := by decide +kernel
theorem dX9_wrong_138 : decode cX9_wrong 138 = .ok (.iaload, 1) := by decide +kernel
theorem dX9_wrong_139 : decode cX9_wrong 139 = .ok (.aload_n 0, 1) := by decide +kernel
theorem dX9_wrong_140 : decode cX9_wrong 140 = .ok (.getfield 16, 3) := by decide +kernel
theorem dX9_wrong_143 : decode cX9_wrong 143 = .ok (.aload_n 0, 1) := by decide +kernel
theorem dX9_wrong_144 : decode cX9_wrong 144 = .ok (.getfield 23, 3) := by decide +kernel
theorem dX9_wrong_147 : decode cX9_wrong 147 = .ok (.iload_n 2, 1) := by decide +kernel
theorem dX9_wrong_148 : decode cX9_wrong 148 = .ok (.iaload, 1) := by decide +kernel
theorem dX9_wrong_149 : decode cX9_wrong 149 = .ok (.iaload, 1) := by decide +kernel
theorem dX9_wrong_150 : decode cX9_wrong 150 = .ok (.iload_n 2, 1) := by decide +kernel
theorem dX9_wrong_151 : decode cX9_wrong 151 = .ok (.invokevirtual 145, 3) := by decide +kernel
theorem dX9_wrong_154 : decode cX9_wrong 154 = .ok (.aload_n 0, 1) := by decide +kernel
theorem dX9_wrong_155 : decode cX9_wrong 155 = .ok (.getfield 142, 3) := by decide +kernel
theorem dX9_wrong_158 : decode cX9_wrong 158 = .ok (.ifCond .ne 21, 3) := by decide +kernel
theorem dX9_wrong_161 : decode cX9_wrong 161 = .ok (.iload_n 2, 1) := by decide +kernel
theorem dX9_wrong_162 : decode cX9_wrong 162 = .ok (.iconst 1, 1) := by decide +kernel
theorem dX9_wrong_163 : decode cX9_wrong 163 = .ok (.iadd, 1) := by decide +kernel
theorem dX9_wrong_164 : decode cX9_wrong 164 = .ok (.aload_n 0, 1) := by decide +kernel
theorem dX9_wrong_165 : decode cX9_wrong 165 = .ok (.getfield 139, 3) := by decide +kernel
theorem dX9_wrong_168 : decode cX9_wrong 168 = .ok (.if_icmp .ge 9, 3) := by decide +kernel
theorem dX9_wrong_171 : decode cX9_wrong 171 = .ok (.iload_n 2, 1) := by decide +kernel
theorem dX9_wrong_172 : decode cX9_wrong 172 = .ok (.iconst 1, 1) := by decide +kernel
theorem dX9_wrong_173 : decode cX9_wrong 173 = .ok (.iadd, 1) := by decide +kernel
theorem dX9_wrong_174 : decode cX9_wrong 174 = .ok (.goto 4, 3) := by decide +kernel
theorem dX9_wrong_177 : decode cX9_wrong 177 = .ok (.iconst (-1), 1) := by decide +kernel
theorem dX9_wrong_178 : decode cX9_wrong 178 = .ok (.ireturn, 1) := by decide +kernel
theorem dX9_wrong_179 : decode cX9_wrong 179 = .ok (.iinc 2 1, 3) := by decide +kernel
theorem dX9_wrong_182 : decode cX9_wrong 182 = .ok (.goto (-141), 3) := by decide +kernel
theorem dX9_wrong_185 : decode cX9_wrong 185 = .ok (.aload_n 0, 1) := by decide +kernel
theorem dX9_wrong_186 : decode cX9_wrong 186 = .ok (.getfield 139, 3) := by decide +kernel
theorem dX9_wrong_189 : decode cX9_wrong 189 = .ok (.ifCond .le 7, 3) := by decide +kernel
theorem dX9_wrong_192 : decode cX9_wrong 192 = .ok (.iconst 0, 1) := by decide +kernel
theorem dX9_wrong_193 : decode cX9_wrong 193 = .ok (.goto 4, 3) := by decide +kernel
theorem dX9_wrong_196 : decode cX9_wrong 196 = .ok (.iconst (-1), 1) := by decide +kernel
theorem dX9_wrong_197 : decode cX9_wrong 197 = .ok (.ireturn, 1) := by decide +kernel
theorem dX9_fits_0 : decode cX9_fits 0 = .ok (.aload_n 0, 1) := by decide +kernel
theorem dX9_fits_1 : decode cX9_fits 1 = .ok (.getfield 23, 3) := by decide +kernel
theorem dX9_fits_4 : decode cX9_fits 4 = .ok (.iload_n 1, 1) := by decide +kernel
theorem dX9_fits_5 : decode cX9_fits 5 = .ok (.iaload, 1) := by decide +kernel
theorem dX9_fits_6 : decode cX9_fits 6 = .ok (.istore 4, 2) := by decide +kernel
theorem dX9_fits_8 : decode cX9_fits 8 = .ok (.iload 4, 2) := by decide +kernel
theorem dX9_fits_10 : decode cX9_fits 10 = .ok (.ifCond .lt 29, 3) := by decide +kernel
theorem dX9_fits_13 : decode cX9_fits 13 = .ok (.iload 4, 2) := by decide +kernel
theorem dX9_fits_15 : decode cX9_fits 15 = .ok (.aload_n 0, 1) := by decide +kernel
theorem dX9_fits_16 : decode cX9_fits 16 = .ok (.getfield 124, 3) := by decide +kernel
theorem dX9_fits_19 : decode cX9_fits 19 = .ok (.if_icmp .ge 18, 3) := by decide +kernel
theorem dX9_fits_22 : decode cX9_fits 22 = .ok (.aload_n 0, 1) := by decide +kernel
theorem dX9_fits_23 : decode cX9_fits 23 = .ok (.getfield 9, 3) := by decide +kernel
theorem dX9_fits_26 : decode cX9_fits 26 = .ok (.iload 4, 2) := by decide +kernel
theorem dX9_fits_28 : decode cX9_fits 28 = .ok (.iaload, 1) := by decide +kernel
theorem dX9_fits_29 : decode cX9_fits 29 = .ok (.iload_n 2, 1) := by decide +kernel
theorem dX9_fits_30 : decode cX9_fits 30 = .ok (.if_icmp .ne 7, 3) := by decide +kernel
theorem dX9_fits_33 : decode cX9_fits 33 = .ok (.iconst 1, 1) := by decide +kernel
theorem dX9_fits_34 : decode cX9_fits 34 = .ok (.goto 4, 3) := by decide +kernel
theorem dX9_fits_37 : decode cX9_fits 37 = .ok (.iconst 0, 1) := by decide +kernel
theorem dX9_fits_38 : decode cX9_fits 38 = .ok (.ireturn, 1) := by decide +kernel
theorem dX9_fits_39 : decode cX9_fits 39 = .ok (.iload_n 3, 1) := by decide +kernel
theorem dX9_fits_40 : decode cX9_fits 40 = .ok (.ifCond .ne 15, 3) := by decide +kernel
theorem dX9_fits_43 : decode cX9_fits 43 = .ok (.iload 4, 2) := by decide +kernel
theorem dX9_fits_45 : decode cX9_fits 45 = .ok (.iconst (-1), 1) := by decide +kernel
theorem dX9_fits_46 : decode cX9_fits 46 = .ok (.if_icmp .ne 7, 3) := by decide +kernel
theorem dX9_fits_49 : decode cX9_fits 49 = .ok (.iconst 1, 1) := by decide +kernel
theorem dX9_fits_50 : decode cX9_fits 50 = .ok (.goto 4, 3) := by decide +kernel
theorem dX9_fits_53 : decode cX9_fits 53 = .ok (.iconst 0, 1) := by decide +kernel
theorem dX9_fits_54 : decode cX9_fits 54 = .ok (.ireturn, 1) := by decide +kernel
theorem dX9_fits_55 : decode cX9_fits 55 = .ok (.iload 4, 2) := by decide +kernel
theorem dX9_fits_57 : decode cX9_fits 57 = .ok (.bipush (-8), 2) := by decide +kernel
theorem dX9_fits_59 : decode cX9_fits 59 = .ok (.if_icmp .ge 5, 3) := by decide +kernel
theorem dX9_fits_62 : decode cX9_fits 62 = .ok (.iconst 0, 1) := by decide +kernel
theorem dX9_fits_63 : decode cX9_fits 63 = .ok (.ireturn, 1) := by decide +kernel
theorem dX9_fits_64 : decode cX9_fits 64 = .ok (.iconst (-1), 1) := by decide +kernel
theorem dX9_fits_65 : decode cX9_fits 65 = .ok (.iload 4, 2) := by decide +kernel
theorem dX9_fits_67 : decode cX9_fits 67 = .ok (.isub, 1) := by decide +kernel
theorem dX9_fits_68 : decode cX9_fits 68 = .ok (.istore 5, 2) := by decide +kernel
theorem dX9_fits_70 : decode cX9_fits 70 = .ok (.aload_n 0, 1) := by decide +kernel
theorem dX9_fits_71 : decode cX9_fits 71 = .ok (.getfield 56, 3) := by decide +kernel
theorem dX9_fits_74 : decode cX9_fits 74 = .ok (.iload 5, 2) := by decide +kernel
theorem dX9_fits_76 : decode cX9_fits 76 = .ok (.iaload, 1) := by decide +kernel
theorem dX9_fits_77 : decode cX9_fits 77 = .ok (.iconst (-1), 1) := by decide +kernel
theorem dX9_fits_78 : decode cX9_fits 78 = .ok (.if_icmp .ne 11, 3) := by decide +kernel
theorem dX9_fits_81 : decode cX9_fits 81 = .ok (.aload_n 0, 1) := by decide +kernel
theorem dX9_fits_82 : decode cX9_fits 82 = .ok (.getfield 56, 3) := by decide +kernel
theorem dX9_fits_85 : decode cX9_fits 85 = .ok (.iload 5, 2) := by decide +kernel
theorem dX9_fits_87 : decode cX9_fits 87 = .ok (.iload_n 2, 1) := by decide +kernel
theorem dX9_fits_88 : decode cX9_fits 88 = .ok (.iastore, 1) := by decide +kernel
theorem dX9_fits_89 : decode cX9_fits 89 = .ok (.aload_n 0, 1) := by decide +kernel
theorem dX9_fits_90 : decode cX9_fits 90 = .ok (.getfield 56, 3) := by decide +kernel
theorem dX9_fits_93 : decode cX9_fits 93 = .ok (.iload 5, 2) := by decide +kernel
theorem dX9_fits_95 : decode cX9_fits 95 = .ok (.iaload, 1) := by decide +kernel
theorem dX9_fits_96 : decode cX9_fits 96 = .ok (.iload_n 2, 1) := by decide +kernel
theorem dX9_fits_97 : decode cX9_fits 97 = .ok (.if_icmp .ne 7, 3) := by decide +kernel
theorem dX9_fits_100 : decode cX9_fits 100 = .ok (.iconst 1, 1) := by decide +kernel
theorem dX9_fits_101 : decode cX9_fits 101 = .ok (.goto 4, 3) := by decide +kernel
theorem dX9_fits_104 : decode cX9_fits 104 = .ok (.iconst 0, 1) := by decide +kernel
theorem dX9_fits_105 : decode cX9_fits 105 = .ok (.ireturn, 1) := by decide +kernel
theorem dX9_rule_0 : decode cX9_rule 0 = .ok (.aload_n 0, 1) := by decide +kernel
theorem dX9_rule_1 : decode cX9_rule 1 = .ok (.getfield 19, 3) := by decide +kernel
theorem dX9_rule_4 : decode cX9_rule 4 = .ok (.iconst (-1), 1) := by decide +kernel
theorem dX9_rule_5 : decode cX9_rule 5 = .ok (.if_icmp .eq 12, 3) := by decide +kernel
theorem dX9_rule_8 : decode cX9_rule 8 = .ok (.aload_n 0, 1) := by decide +kernel
theorem dX9_rule_9 : decode cX9_rule 9 = .ok (.getfield 133, 3) := by decide +kernel
theorem dX9_rule_12 : decode cX9_rule 12 = .ok (.bipush 24, 2) := by decide +kernel
theorem dX9_rule_14 : decode cX9_rule 14 = .ok (.if_icmp .ne 10, 3) := by decide +kernel
theorem dX9_rule_17 : decode cX9_rule 17 = .ok (.aload_n 0, 1) := by decide +kernel
theorem dX9_rule_18 : decode cX9_rule 18 = .ok (.iconst 0, 1) := by decide +kernel
theorem dX9_rule_19 : decode cX9_rule 19 = .ok (.putfield 139, 3) := by decide +kernel
theorem dX9_rule_22 : decode cX9_rule 22 = .ok (.iconst (-1), 1) := by decide +kernel
theorem dX9_rule_23 : decode cX9_rule 23 = .ok (.ireturn, 1) := by decide +kernel
theorem dX9_rule_24 : decode cX9_rule 24 = .ok (.aload_n 0, 1) := by decide +kernel
theorem dX9_rule_25 : decode cX9_rule 25 = .ok (.iconst 0, 1) := by decide +kernel
theorem dX9_rule_26 : decode cX9_rule 26 = .ok (.invokevirtual 153, 3) := by decide +kernel
theorem dX9_rule_29 : decode cX9_rule 29 = .ok (.istore_n 1, 1) := by decide +kernel
theorem dX9_rule_30 : decode cX9_rule 30 = .ok (.iload_n 1, 1) := by decide +kernel
theorem dX9_rule_31 : decode cX9_rule 31 = .ok (.ifCond .lt 13, 3) := by decide +kernel
theorem dX9_rule_34 : decode cX9_rule 34 = .ok (.aload_n 0, 1) := by decide +kernel
theorem dX9_rule_35 : decode cX9_rule 35 = .ok (.iconst 0, 1) := by decide +kernel
theorem dX9_rule_36 : decode cX9_rule 36 = .ok (.putfield 139, 3) := by decide +kernel
theorem dX9_rule_39 : decode cX9_rule 39 = .ok (.bipush (-2), 2) := by decide +kernel
theorem dX9_rule_41 : decode cX9_rule 41 = .ok (.iload_n 1, 1) := by decide +kernel
theorem dX9_rule_42 : decode cX9_rule 42 = .ok (.isub, 1) := by decide +kernel
theorem dX9_rule_43 : decode cX9_rule 43 = .ok (.ireturn, 1) := by decide +kernel
theorem dX9_rule_44 : decode cX9_rule 44 = .ok (.sipush 160, 3) := by decide +kernel
theorem dX9_rule_47 : decode cX9_rule 47 = .ok (.aload_n 0, 1) := by decide +kernel
theorem dX9_rule_48 : decode cX9_rule 48 = .ok (.getfield 133, 3) := by decide +kernel
theorem dX9_rule_51 : decode cX9_rule 51 = .ok (.imul, 1) := by decide +kernel
theorem dX9_rule_52 : decode cX9_rule 52 = .ok (.istore_n 2, 1) := by decide +kernel
theorem dX9_rule_53 : decode cX9_rule 53 = .ok (.iconst 0, 1) := by decide +kernel
theorem dX9_rule_54 : decode cX9_rule 54 = .ok (.istore_n 3, 1) := by decide +kernel
theorem dX9_rule_55 : decode cX9_rule 55 = .ok (.iload_n 3, 1) := by decide +kernel
theorem dX9_rule_56 : decode cX9_rule 56 = .ok (.aload_n 0, 1) := by decide +kernel
theorem dX9_rule_57 : decode cX9_rule 57 = .ok (.getfield 139, 3) := by decide +kernel
theorem dX9_rule_60 : decode cX9_rule 60 = .ok (.if_icmp .ge 111, 3) := by decide +kernel
theorem dX9_rule_63 : decode cX9_rule 63 = .ok (.aload_n 0, 1) := by decide +kernel
theorem dX9_rule_64 : decode cX9_rule 64 = .ok (.getfield 26, 3) := by decide +kernel
theorem dX9_rule_67 : decode cX9_rule 67 = .ok (.iload_n 2, 1) := by decide +kernel
theorem dX9_rule_68 : decode cX9_rule 68 = .ok (.iload_n 3, 1) := by decide +kernel
theorem dX9_rule_69 : decode cX9_rule 69 = .ok (.iadd, 1) := by decide +kernel
theorem dX9_rule_70 : decode cX9_rule 70 = .ok (.aload_n 0, 1) := by decide +kernel
theorem dX9_rule_71 : decode cX9_rule 71 = .ok (.getfield 23, 3) := by decide +kernel
theorem dX9_rule_74 : decode cX9_rule 74 = .ok (.iload_n 3, 1) := by decide +kernel
theorem dX9_rule_75 : decode cX9_rule 75 = .ok (.iaload, 1) := by decide +kernel
theorem dX9_rule_76 : decode cX9_rule 76 = .ok (.iastore, 1) := by decide +kernel
theorem dX9_rule_77 : decode cX9_rule 77 = .ok (.aload_n 0, 1) := by decide +kernel
theorem dX9_rule_78 : decode cX9_rule 78 = .ok (.getfield 29, 3) := by decide +kernel
theorem dX9_rule_81 : decode cX9_rule 81 = .ok (.iload_n 2, 1) := by decide +kernel
theorem dX9_rule_82 : decode cX9_rule 82 = .ok (.iload_n 3, 1) := by decide +kernel
theorem dX9_rule_83 : decode cX9_rule 83 = .ok (.iadd, 1) := by decide +kernel
theorem dX9_rule_84 : decode cX9_rule 84 = .ok (.aload_n 0, 1) := by decide +kernel
theorem dX9_rule_85 : decode cX9_rule 85 = .ok (.getfield 50, 3) := by decide +kernel
theorem dX9_rule_88 : decode cX9_rule 88 = .ok (.iload_n 3, 1) := by decide +kernel
theorem dX9_rule_89 : decode cX9_rule 89 = .ok (.iaload, 1) := by decide +kernel
theorem dX9_rule_90 : decode cX9_rule 90 = .ok (.iastore, 1) := by decide +kernel
theorem dX9_rule_91 : decode cX9_rule 91 = .ok (.aload_n 0, 1) := by decide +kernel
theorem dX9_rule_92 : decode cX9_rule 92 = .ok (.getfield 32, 3) := by decide +kernel
theorem dX9_rule_95 : decode cX9_rule 95 = .ok (.iload_n 2, 1) := by decide +kernel
theorem dX9_rule_96 : decode cX9_rule 96 = .ok (.iload_n 3, 1) := by decide +kernel
theorem dX9_rule_97 : decode cX9_rule 97 = .ok (.iadd, 1) := by decide +kernel
theorem dX9_rule_98 : decode cX9_rule 98 = .ok (.aload_n 0, 1) := by decide +kernel
theorem dX9_rule_99 : decode cX9_rule 99 = .ok (.getfield 53, 3) := by decide +kernel
theorem dX9_rule_102 : decode cX9_rule 102 = .ok (.iload_n 3, 1) := by decide +kernel
theorem dX9_rule_103 : decode cX9_rule 103 = .ok (.iaload, 1) := by decide +kernel
theorem dX9_rule_104 : decode cX9_rule 104 = .ok (.iastore, 1) := by decide +kernel
theorem dX9_rule_105 : decode cX9_rule 105 = .ok (.iconst 1, 1) := by decide +kernel
theorem dX9_rule_106 : decode cX9_rule 106 = .ok (.istore 4, 2) := by decide +kernel
theorem dX9_rule_108 : decode cX9_rule 108 = .ok (.iload_n 3, 1) := by decide +kernel
theorem dX9_rule_109 : decode cX9_rule 109 = .ok (.istore 5, 2) := by decide +kernel
theorem dX9_rule_111 : decode cX9_rule 111 = .ok (.iload 4, 2) := by decide +kernel
theorem dX9_rule_113 : decode cX9_rule 113 = .ok (.ifCond .le 42, 3) := by decide +kernel
theorem dX9_rule_116 : decode cX9_rule 116 = .ok (.iload 4, 2) := by decide +kernel
theorem dX9_rule_118 : decode cX9_rule 118 = .ok (.aload_n 0, 1) := by decide +kernel
theorem dX9_rule_119 : decode cX9_rule 119 = .ok (.getfield 23, 3) := by decide +kernel
theorem dX9_rule_122 : decode cX9_rule 122 = .ok (.iload 5, 2) := by decide +kernel
theorem dX9_rule_124 : decode cX9_rule 124 = .ok (.iaload, 1) := by decide +kernel
theorem dX9_rule_125 : decode cX9_rule 125 = .ok (.ifCond .lt 20, 3) := by decide +kernel
theorem dX9_rule_128 : decode cX9_rule 128 = .ok (.aload_n 0, 1) := by decide +kernel
theorem dX9_rule_129 : decode cX9_rule 129 = .ok (.getfield 13, 3) := by decide +kernel
theorem dX9_rule_132 : decode cX9_rule 132 = .ok (.aload_n 0, 1) := by decide +kernel
theorem dX9_rule_133 : decode cX9_rule 133 = .ok (.getfield 23, 3) := by decide +kernel
theorem dX9_rule_136 : decode cX9_rule 136 = .ok (.iload 5, 2) := by decide +kernel
theorem dX9_rule_138 : decode cX9_rule 138 = .ok (.iaload, 1) := by decide +kernel
theorem dX9_rule_139 : decode cX9_rule 139 = .ok (.iaload, 1) := by decide +kernel
theorem dX9_rule_140 : decode cX9_rule 140 = .ok (.iconst 1, 1) := by decide +kernel
theorem dX9_rule_141 : decode cX9_rule 141 = .ok (.isub, 1) := by decide +kernel
theorem dX9_rule_142 : decode cX9_rule 142 = .ok (.goto 4, 3) := by decide +kernel
theorem dX9_rule_145 : decode cX9_rule 145 = .ok (.iconst (-1), 1) := by decide +kernel
theorem dX9_rule_146 : decode cX9_rule 146 = .ok (.iadd, 1) := by decide +kernel
theorem dX9_rule_147 : decode cX9_rule 147 = .ok (.istore 4, 2) := by decide +kernel
theorem dX9_rule_149 : decode cX9_rule 149 = .ok (.iinc 5 1, 3) := by decide +kernel
theorem dX9_rule_152 : decode cX9_rule 152 = .ok (.goto (-41), 3) := by decide +kernel
theorem dX9_rule_155 : decode cX9_rule 155 = .ok (.aload_n 0, 1) := by decide +kernel
theorem dX9_rule_156 : decode cX9_rule 156 = .ok (.getfield 35, 3) := by decide +kernel
theorem dX9_rule_159 : decode cX9_rule 159 = .ok (.iload_n 2, 1) := by decide +kernel
theorem dX9_rule_160 : decode cX9_rule 160 = .ok (.iload_n 3, 1) := by decide +kernel
theorem dX9_rule_161 : decode cX9_rule 161 = .ok (.iadd, 1) := by decide +kernel
theorem dX9_rule_162 : decode cX9_rule 162 = .ok (.iload 5, 2) := by decide +kernel
theorem dX9_rule_164 : decode cX9_rule 164 = .ok (.iastore, 1) := by decide +kernel
theorem dX9_rule_165 : decode cX9_rule 165 = .ok (.iinc 3 1, 3) := by decide +kernel
theorem dX9_rule_168 : decode cX9_rule 168 = .ok (.goto (-113), 3) := by decide +kernel
theorem dX9_rule_171 : decode cX9_rule 171 = .ok (.aload_n 0, 1) := by decide +kernel
theorem dX9_rule_172 : decode cX9_rule 172 = .ok (.getfield 38, 3) := by decide +kernel
theorem dX9_rule_175 : decode cX9_rule 175 = .ok (.aload_n 0, 1) := by decide +kernel
theorem dX9_rule_176 : decode cX9_rule 176 = .ok (.getfield 133, 3) := by decide +kernel
theorem dX9_rule_179 : decode cX9_rule 179 = .ok (.aload_n 0, 1) := by decide +kernel
theorem dX9_rule_180 : decode cX9_rule 180 = .ok (.getfield 139, 3) := by decide +kernel
theorem dX9_rule_183 : decode cX9_rule 183 = .ok (.iastore, 1) := by decide +kernel
theorem dX9_rule_184 : decode cX9_rule 184 = .ok (.aload_n 0, 1) := by decide +kernel
theorem dX9_rule_185 : decode cX9_rule 185 = .ok (.iconst 0, 1) := by decide +kernel
theorem dX9_rule_186 : decode cX9_rule 186 = .ok (.putfield 139, 3) := by decide +kernel
theorem dX9_rule_189 : decode cX9_rule 189 = .ok (.aload_n 0, 1) := by decide +kernel
theorem dX9_rule_190 : decode cX9_rule 190 = .ok (.dup, 1) := by decide +kernel
theorem dX9_rule_191 : decode cX9_rule 191 = .ok (.getfield 133, 3) := by decide +kernel
theorem dX9_rule_194 : decode cX9_rule 194 = .ok (.iconst 1, 1) := by decide +kernel
theorem dX9_rule_195 : decode cX9_rule 195 = .ok (.iadd, 1) := by decide +kernel
theorem dX9_rule_196 : decode cX9_rule 196 = .ok (.putfield 133, 3) := by decide +kernel
theorem dX9_rule_199 : decode cX9_rule 199 = .ok (.aload_n 0, 1) := by decide +kernel
theorem dX9_rule_200 : decode cX9_rule 200 = .ok (.iconst 0, 1) := by decide +kernel
theorem dX9_rule_201 : decode cX9_rule 201 = .ok (.putfield 127, 3) := by decide +kernel
theorem dX9_rule_204 : decode cX9_rule 204 = .ok (.aload_n 0, 1) := by decide +kernel
theorem dX9_rule_205 : decode cX9_rule 205 = .ok (.invokevirtual 136, 3) := by decide +kernel
theorem dX9_rule_208 : decode cX9_rule 208 = .ok (.aload_n 0, 1) := by decide +kernel
theorem dX9_rule_209 : decode cX9_rule 209 = .ok (.getfield 133, 3) := by decide +kernel
theorem dX9_rule_212 : decode cX9_rule 212 = .ok (.iconst 1, 1) := by decide +kernel
theorem dX9_rule_213 : decode cX9_rule 213 = .ok (.isub, 1) := by decide +kernel
theorem dX9_rule_214 : decode cX9_rule 214 = .ok (.ireturn, 1) := by decide +kernel
theorem dX9_openAll_0 : decode cX9_openAll 0 = .ok (.aload_n 0, 1) := by decide +kernel
theorem dX9_openAll_1 : decode cX9_openAll 1 = .ok (.aload_n 0, 1) := by decide +kernel
theorem dX9_openAll_2 : decode cX9_openAll 2 = .ok (.getfield 19, 3) := by decide +kernel
theorem dX9_openAll_5 : decode cX9_openAll 5 = .ok (.putfield 157, 3) := by decide +kernel
theorem dX9_openAll_8 : decode cX9_openAll 8 = .ok (.aload_n 0, 1) := by decide +kernel
theorem dX9_openAll_9 : decode cX9_openAll 9 = .ok (.iconst 0, 1) := by decide +kernel
theorem dX9_openAll_10 : decode cX9_openAll 10 = .ok (.putfield 160, 3) := by decide +kernel
theorem dX9_openAll_13 : decode cX9_openAll 13 = .ok (.aload_n 0, 1) := by decide +kernel
theorem dX9_openAll_14 : decode cX9_openAll 14 = .ok (.iconst 0, 1) := by decide +kernel
theorem dX9_openAll_15 : decode cX9_openAll 15 = .ok (.putfield 163, 3) := by decide +kernel
theorem dX9_openAll_18 : decode cX9_openAll 18 = .ok (.iconst 0, 1) := by decide +kernel
theorem dX9_openAll_19 : decode cX9_openAll 19 = .ok (.istore_n 1, 1) := by decide +kernel
theorem dX9_openAll_20 : decode cX9_openAll 20 = .ok (.iload_n 1, 1) := by decide +kernel
theorem dX9_openAll_21 : decode cX9_openAll 21 = .ok (.aload_n 0, 1) := by decide +kernel
theorem dX9_openAll_22 : decode cX9_openAll 22 = .ok (.getfield 133, 3) := by decide +kernel
theorem dX9_openAll_25 : decode cX9_openAll 25 = .ok (.if_icmp .ge 73, 3) := by decide +kernel
theorem dX9_openAll_28 : decode cX9_openAll 28 = .ok (.iconst 0, 1) := by decide +kernel
theorem dX9_openAll_29 : decode cX9_openAll 29 = .ok (.istore_n 2, 1) := by decide +kernel
theorem dX9_openAll_30 : decode cX9_openAll 30 = .ok (.iconst 0, 1) := by decide +kernel
theorem dX9_openAll_31 : decode cX9_openAll 31 = .ok (.istore_n 3, 1) := by decide +kernel
theorem dX9_openAll_32 : decode cX9_openAll 32 = .ok (.iload_n 3, 1) := by decide +kernel
theorem dX9_openAll_33 : decode cX9_openAll 33 = .ok (.aload_n 0, 1) := by decide +kernel
theorem dX9_openAll_34 : decode cX9_openAll 34 = .ok (.getfield 19, 3) := by decide +kernel
theorem dX9_openAll_37 : decode cX9_openAll 37 = .ok (.if_icmp .ge 35, 3) := by decide +kernel
theorem dX9_openAll_40 : decode cX9_openAll 40 = .ok (.aload_n 0, 1) := by decide +kernel
theorem dX9_openAll_41 : decode cX9_openAll 41 = .ok (.getfield 59, 3) := by decide +kernel
theorem dX9_openAll_44 : decode cX9_openAll 44 = .ok (.sipush 170, 3) := by decide +kernel
theorem dX9_openAll_47 : decode cX9_openAll 47 = .ok (.iload_n 1, 1) := by decide +kernel
theorem dX9_openAll_48 : decode cX9_openAll 48 = .ok (.imul, 1) := by decide +kernel
theorem dX9_openAll_49 : decode cX9_openAll 49 = .ok (.iload_n 3, 1) := by decide +kernel
theorem dX9_openAll_50 : decode cX9_openAll 50 = .ok (.iadd, 1) := by decide +kernel
theorem dX9_openAll_51 : decode cX9_openAll 51 = .ok (.iload_n 2, 1) := by decide +kernel
theorem dX9_openAll_52 : decode cX9_openAll 52 = .ok (.iastore, 1) := by decide +kernel
theorem dX9_openAll_53 : decode cX9_openAll 53 = .ok (.aload_n 0, 1) := by decide +kernel
theorem dX9_openAll_54 : decode cX9_openAll 54 = .ok (.getfield 35, 3) := by decide +kernel
theorem dX9_openAll_57 : decode cX9_openAll 57 = .ok (.sipush 160, 3) := by decide +kernel
theorem dX9_openAll_60 : decode cX9_openAll 60 = .ok (.iload_n 1, 1) := by decide +kernel
theorem dX9_openAll_61 : decode cX9_openAll 61 = .ok (.imul, 1) := by decide +kernel
theorem dX9_openAll_62 : decode cX9_openAll 62 = .ok (.iload_n 2, 1) := by decide +kernel
theorem dX9_openAll_63 : decode cX9_openAll 63 = .ok (.iadd, 1) := by decide +kernel
theorem dX9_openAll_64 : decode cX9_openAll 64 = .ok (.iaload, 1) := by decide +kernel
theorem dX9_openAll_65 : decode cX9_openAll 65 = .ok (.istore_n 2, 1) := by decide +kernel
theorem dX9_openAll_66 : decode cX9_openAll 66 = .ok (.iinc 3 1, 3) := by decide +kernel
theorem dX9_openAll_69 : decode cX9_openAll 69 = .ok (.goto (-37), 3) := by decide +kernel
theorem dX9_openAll_72 : decode cX9_openAll 72 = .ok (.aload_n 0, 1) := by decide +kernel
theorem dX9_openAll_73 : decode cX9_openAll 73 = .ok (.getfield 62, 3) := by decide +kernel
theorem dX9_openAll_76 : decode cX9_openAll 76 = .ok (.aload_n 0, 1) := by decide +kernel
theorem dX9_openAll_77 : decode cX9_openAll 77 = .ok (.getfield 160, 3) := by decide +kernel
theorem dX9_openAll_80 : decode cX9_openAll 80 = .ok (.iload_n 1, 1) := by decide +kernel
theorem dX9_openAll_81 : decode cX9_openAll 81 = .ok (.iastore, 1) := by decide +kernel
theorem dX9_openAll_82 : decode cX9_openAll 82 = .ok (.aload_n 0, 1) := by decide +kernel
theorem dX9_openAll_83 : decode cX9_openAll 83 = .ok (.dup, 1) := by decide +kernel
theorem dX9_openAll_84 : decode cX9_openAll 84 = .ok (.getfield 160, 3) := by decide +kernel
theorem dX9_openAll_87 : decode cX9_openAll 87 = .ok (.iconst 1, 1) := by decide +kernel
theorem dX9_openAll_88 : decode cX9_openAll 88 = .ok (.iadd, 1) := by decide +kernel
theorem dX9_openAll_89 : decode cX9_openAll 89 = .ok (.putfield 160, 3) := by decide +kernel
theorem dX9_openAll_92 : decode cX9_openAll 92 = .ok (.iinc 1 1, 3) := by decide +kernel
theorem dX9_openAll_95 : decode cX9_openAll 95 = .ok (.goto (-75), 3) := by decide +kernel
theorem dX9_openAll_98 : decode cX9_openAll 98 = .ok (.return_, 1) := by decide +kernel
theorem dX9_there_0 : decode cX9_there 0 = .ok (.aload_n 0, 1) := by decide +kernel
theorem dX9_there_1 : decode cX9_there 1 = .ok (.getfield 26, 3) := by decide +kernel
theorem dX9_there_4 : decode cX9_there 4 = .ok (.sipush 160, 3) := by decide +kernel
theorem dX9_there_7 : decode cX9_there 7 = .ok (.iload_n 1, 1) := by decide +kernel
theorem dX9_there_8 : decode cX9_there 8 = .ok (.imul, 1) := by decide +kernel
theorem dX9_there_9 : decode cX9_there 9 = .ok (.aload_n 0, 1) := by decide +kernel
theorem dX9_there_10 : decode cX9_there 10 = .ok (.getfield 59, 3) := by decide +kernel
theorem dX9_there_13 : decode cX9_there 13 = .ok (.sipush 170, 3) := by decide +kernel
theorem dX9_there_16 : decode cX9_there 16 = .ok (.iload_n 1, 1) := by decide +kernel
theorem dX9_there_17 : decode cX9_there 17 = .ok (.imul, 1) := by decide +kernel
theorem dX9_there_18 : decode cX9_there 18 = .ok (.iload_n 2, 1) := by decide +kernel
theorem dX9_there_19 : decode cX9_there 19 = .ok (.iadd, 1) := by decide +kernel
theorem dX9_there_20 : decode cX9_there 20 = .ok (.iaload, 1) := by decide +kernel
theorem dX9_there_21 : decode cX9_there 21 = .ok (.iadd, 1) := by decide +kernel
theorem dX9_there_22 : decode cX9_there 22 = .ok (.iaload, 1) := by decide +kernel
theorem dX9_there_23 : decode cX9_there 23 = .ok (.ireturn, 1) := by decide +kernel
theorem dX9_those_0 : decode cX9_those 0 = .ok (.aload_n 0, 1) := by decide +kernel
theorem dX9_those_1 : decode cX9_those 1 = .ok (.getfield 160, 3) := by decide +kernel
theorem dX9_those_4 : decode cX9_those 4 = .ok (.istore 5, 2) := by decide +kernel
theorem dX9_those_6 : decode cX9_those 6 = .ok (.iload_n 1, 1) := by decide +kernel
