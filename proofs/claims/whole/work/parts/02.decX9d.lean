theorem dX9_shiftBack_73 : decode cX9_shiftBack 73 = .ok (.iaload, 1) := by decide +kernel
theorem dX9_shiftBack_74 : decode cX9_shiftBack 74 = .ok (.iastore, 1) := by decide +kernel
theorem dX9_shiftBack_75 : decode cX9_shiftBack 75 = .ok (.iinc 4 1, 3) := by decide +kernel
theorem dX9_shiftBack_78 : decode cX9_shiftBack 78 = .ok (.goto (-30), 3) := by decide +kernel
theorem dX9_shiftBack_81 : decode cX9_shiftBack 81 = .ok (.aload_n 0, 1) := by decide +kernel
theorem dX9_shiftBack_82 : decode cX9_shiftBack 82 = .ok (.getfield 98, 3) := by decide +kernel
theorem dX9_shiftBack_85 : decode cX9_shiftBack 85 = .ok (.iload_n 1, 1) := by decide +kernel
theorem dX9_shiftBack_86 : decode cX9_shiftBack 86 = .ok (.iload_n 3, 1) := by decide +kernel
theorem dX9_shiftBack_87 : decode cX9_shiftBack 87 = .ok (.iastore, 1) := by decide +kernel
theorem dX9_shiftBack_88 : decode cX9_shiftBack 88 = .ok (.return_, 1) := by decide +kernel
theorem dX9_comes_0 : decode cX9_comes 0 = .ok (.aload_n 0, 1) := by decide +kernel
theorem dX9_comes_1 : decode cX9_comes 1 = .ok (.dup, 1) := by decide +kernel
theorem dX9_comes_2 : decode cX9_comes 2 = .ok (.getfield 238, 3) := by decide +kernel
theorem dX9_comes_5 : decode cX9_comes 5 = .ok (.iconst 1, 1) := by decide +kernel
theorem dX9_comes_6 : decode cX9_comes 6 = .ok (.iadd, 1) := by decide +kernel
theorem dX9_comes_7 : decode cX9_comes 7 = .ok (.putfield 238, 3) := by decide +kernel
theorem dX9_comes_10 : decode cX9_comes 10 = .ok (.aload_n 0, 1) := by decide +kernel
theorem dX9_comes_11 : decode cX9_comes 11 = .ok (.getfield 101, 3) := by decide +kernel
theorem dX9_comes_14 : decode cX9_comes 14 = .ok (.iconst (-1), 1) := by decide +kernel
theorem dX9_comes_15 : decode cX9_comes 15 = .ok (.if_icmp .eq 17, 3) := by decide +kernel
theorem dX9_comes_18 : decode cX9_comes 18 = .ok (.aload_n 0, 1) := by decide +kernel
theorem dX9_comes_19 : decode cX9_comes 19 = .ok (.getfield 238, 3) := by decide +kernel
theorem dX9_comes_22 : decode cX9_comes 22 = .ok (.iconst 1, 1) := by decide +kernel
theorem dX9_comes_23 : decode cX9_comes 23 = .ok (.isub, 1) := by decide +kernel
theorem dX9_comes_24 : decode cX9_comes 24 = .ok (.aload_n 0, 1) := by decide +kernel
theorem dX9_comes_25 : decode cX9_comes 25 = .ok (.getfield 101, 3) := by decide +kernel
theorem dX9_comes_28 : decode cX9_comes 28 = .ok (.if_icmp .eq 4, 3) := by decide +kernel
theorem dX9_comes_31 : decode cX9_comes 31 = .ok (.return_, 1) := by decide +kernel
theorem dX9_comes_32 : decode cX9_comes 32 = .ok (.aload_n 0, 1) := by decide +kernel
theorem dX9_comes_33 : decode cX9_comes 33 = .ok (.iload_n 1, 1) := by decide +kernel
theorem dX9_comes_34 : decode cX9_comes 34 = .ok (.putfield 266, 3) := by decide +kernel
theorem dX9_comes_37 : decode cX9_comes 37 = .ok (.aload_n 0, 1) := by decide +kernel
theorem dX9_comes_38 : decode cX9_comes 38 = .ok (.aload_n 0, 1) := by decide +kernel
theorem dX9_comes_39 : decode cX9_comes 39 = .ok (.getfield 241, 3) := by decide +kernel
theorem dX9_comes_42 : decode cX9_comes 42 = .ok (.putfield 269, 3) := by decide +kernel
theorem dX9_comes_45 : decode cX9_comes 45 = .ok (.aload_n 0, 1) := by decide +kernel
theorem dX9_comes_46 : decode cX9_comes 46 = .ok (.aload_n 0, 1) := by decide +kernel
theorem dX9_comes_47 : decode cX9_comes 47 = .ok (.getfield 244, 3) := by decide +kernel
theorem dX9_comes_50 : decode cX9_comes 50 = .ok (.putfield 272, 3) := by decide +kernel
theorem dX9_comes_53 : decode cX9_comes 53 = .ok (.aload_n 0, 1) := by decide +kernel
theorem dX9_comes_54 : decode cX9_comes 54 = .ok (.iconst 0, 1) := by decide +kernel
theorem dX9_comes_55 : decode cX9_comes 55 = .ok (.putfield 275, 3) := by decide +kernel
theorem dX9_comes_58 : decode cX9_comes 58 = .ok (.iconst 0, 1) := by decide +kernel
theorem dX9_comes_59 : decode cX9_comes 59 = .ok (.istore_n 2, 1) := by decide +kernel
theorem dX9_comes_60 : decode cX9_comes 60 = .ok (.iload_n 2, 1) := by decide +kernel
theorem dX9_comes_61 : decode cX9_comes 61 = .ok (.aload_n 0, 1) := by decide +kernel
theorem dX9_comes_62 : decode cX9_comes 62 = .ok (.getfield 221, 3) := by decide +kernel
theorem dX9_comes_65 : decode cX9_comes 65 = .ok (.if_icmp .ge 16, 3) := by decide +kernel
theorem dX9_comes_68 : decode cX9_comes 68 = .ok (.aload_n 0, 1) := by decide +kernel
theorem dX9_comes_69 : decode cX9_comes 69 = .ok (.getfield 107, 3) := by decide +kernel
theorem dX9_comes_72 : decode cX9_comes 72 = .ok (.iload_n 2, 1) := by decide +kernel
theorem dX9_comes_73 : decode cX9_comes 73 = .ok (.iconst 0, 1) := by decide +kernel
theorem dX9_comes_74 : decode cX9_comes 74 = .ok (.iastore, 1) := by decide +kernel
theorem dX9_comes_75 : decode cX9_comes 75 = .ok (.iinc 2 1, 3) := by decide +kernel
theorem dX9_comes_78 : decode cX9_comes 78 = .ok (.goto (-18), 3) := by decide +kernel
theorem dX9_comes_81 : decode cX9_comes 81 = .ok (.iconst 0, 1) := by decide +kernel
theorem dX9_comes_82 : decode cX9_comes 82 = .ok (.istore_n 2, 1) := by decide +kernel
theorem dX9_comes_83 : decode cX9_comes 83 = .ok (.iconst 0, 1) := by decide +kernel
theorem dX9_comes_84 : decode cX9_comes 84 = .ok (.istore_n 3, 1) := by decide +kernel
theorem dX9_comes_85 : decode cX9_comes 85 = .ok (.aload_n 0, 1) := by decide +kernel
theorem dX9_comes_86 : decode cX9_comes 86 = .ok (.getfield 19, 3) := by decide +kernel
theorem dX9_comes_89 : decode cX9_comes 89 = .ok (.iconst 1, 1) := by decide +kernel
theorem dX9_comes_90 : decode cX9_comes 90 = .ok (.isub, 1) := by decide +kernel
theorem dX9_comes_91 : decode cX9_comes 91 = .ok (.istore 4, 2) := by decide +kernel
theorem dX9_comes_93 : decode cX9_comes 93 = .ok (.iload 4, 2) := by decide +kernel
theorem dX9_comes_95 : decode cX9_comes 95 = .ok (.ifCond .lt 20, 3) := by decide +kernel
theorem dX9_comes_98 : decode cX9_comes 98 = .ok (.aload_n 0, 1) := by decide +kernel
theorem dX9_comes_99 : decode cX9_comes 99 = .ok (.getfield 110, 3) := by decide +kernel
theorem dX9_comes_102 : decode cX9_comes 102 = .ok (.iload_n 3, 1) := by decide +kernel
theorem dX9_comes_103 : decode cX9_comes 103 = .ok (.iload 4, 2) := by decide +kernel
theorem dX9_comes_105 : decode cX9_comes 105 = .ok (.iastore, 1) := by decide +kernel
theorem dX9_comes_106 : decode cX9_comes 106 = .ok (.iinc 3 1, 3) := by decide +kernel
theorem dX9_comes_109 : decode cX9_comes 109 = .ok (.iinc 4 (-1), 3) := by decide +kernel
theorem dX9_comes_112 : decode cX9_comes 112 = .ok (.goto (-19), 3) := by decide +kernel
theorem dX9_comes_115 : decode cX9_comes 115 = .ok (.iload_n 3, 1) := by decide +kernel
theorem dX9_comes_116 : decode cX9_comes 116 = .ok (.ifCond .le 160, 3) := by decide +kernel
theorem dX9_comes_119 : decode cX9_comes 119 = .ok (.aload_n 0, 1) := by decide +kernel
theorem dX9_comes_120 : decode cX9_comes 120 = .ok (.getfield 275, 3) := by decide +kernel
theorem dX9_comes_123 : decode cX9_comes 123 = .ok (.sipush 400, 3) := by decide +kernel
theorem dX9_comes_126 : decode cX9_comes 126 = .ok (.if_icmp .ne 9, 3) := by decide +kernel
theorem dX9_comes_129 : decode cX9_comes 129 = .ok (.aload_n 0, 1) := by decide +kernel
theorem dX9_comes_130 : decode cX9_comes 130 = .ok (.iconst 1, 1) := by decide +kernel
theorem dX9_comes_131 : decode cX9_comes 131 = .ok (.putfield 235, 3) := by decide +kernel
theorem dX9_comes_134 : decode cX9_comes 134 = .ok (.return_, 1) := by decide +kernel
theorem dX9_comes_135 : decode cX9_comes 135 = .ok (.iinc 3 (-1), 3) := by decide +kernel
theorem dX9_comes_138 : decode cX9_comes 138 = .ok (.aload_n 0, 1) := by decide +kernel
theorem dX9_comes_139 : decode cX9_comes 139 = .ok (.aload_n 0, 1) := by decide +kernel
theorem dX9_comes_140 : decode cX9_comes 140 = .ok (.getfield 110, 3) := by decide +kernel
theorem dX9_comes_143 : decode cX9_comes 143 = .ok (.iload_n 3, 1) := by decide +kernel
theorem dX9_comes_144 : decode cX9_comes 144 = .ok (.iaload, 1) := by decide +kernel
theorem dX9_comes_145 : decode cX9_comes 145 = .ok (.invokevirtual 254, 3) := by decide +kernel
theorem dX9_comes_148 : decode cX9_comes 148 = .ok (.istore 4, 2) := by decide +kernel
theorem dX9_comes_150 : decode cX9_comes 150 = .ok (.aload_n 0, 1) := by decide +kernel
theorem dX9_comes_151 : decode cX9_comes 151 = .ok (.getfield 89, 3) := by decide +kernel
theorem dX9_comes_154 : decode cX9_comes 154 = .ok (.iload 4, 2) := by decide +kernel
theorem dX9_comes_156 : decode cX9_comes 156 = .ok (.iaload, 1) := by decide +kernel
theorem dX9_comes_157 : decode cX9_comes 157 = .ok (.istore 5, 2) := by decide +kernel
theorem dX9_comes_159 : decode cX9_comes 159 = .ok (.iload 5, 2) := by decide +kernel
theorem dX9_comes_161 : decode cX9_comes 161 = .ok (.ifCond .ge 50, 3) := by decide +kernel
theorem dX9_comes_164 : decode cX9_comes 164 = .ok (.aload_n 0, 1) := by decide +kernel
theorem dX9_comes_165 : decode cX9_comes 165 = .ok (.getfield 107, 3) := by decide +kernel
theorem dX9_comes_168 : decode cX9_comes 168 = .ok (.iconst (-1), 1) := by decide +kernel
theorem dX9_comes_169 : decode cX9_comes 169 = .ok (.iload 5, 2) := by decide +kernel
theorem dX9_comes_171 : decode cX9_comes 171 = .ok (.isub, 1) := by decide +kernel
theorem dX9_comes_172 : decode cX9_comes 172 = .ok (.iaload, 1) := by decide +kernel
theorem dX9_comes_173 : decode cX9_comes 173 = .ok (.ifCond .ne 16, 3) := by decide +kernel
theorem dX9_comes_176 : decode cX9_comes 176 = .ok (.iinc 2 1, 3) := by decide +kernel
theorem dX9_comes_179 : decode cX9_comes 179 = .ok (.aload_n 0, 1) := by decide +kernel
theorem dX9_comes_180 : decode cX9_comes 180 = .ok (.getfield 107, 3) := by decide +kernel
theorem dX9_comes_183 : decode cX9_comes 183 = .ok (.iconst (-1), 1) := by decide +kernel
theorem dX9_comes_184 : decode cX9_comes 184 = .ok (.iload 5, 2) := by decide +kernel
theorem dX9_comes_186 : decode cX9_comes 186 = .ok (.isub, 1) := by decide +kernel
theorem dX9_comes_187 : decode cX9_comes 187 = .ok (.iload_n 2, 1) := by decide +kernel
theorem dX9_comes_188 : decode cX9_comes 188 = .ok (.iastore, 1) := by decide +kernel
theorem dX9_comes_189 : decode cX9_comes 189 = .ok (.aload_n 0, 1) := by decide +kernel
theorem dX9_comes_190 : decode cX9_comes 190 = .ok (.getfield 104, 3) := by decide +kernel
theorem dX9_comes_193 : decode cX9_comes 193 = .ok (.aload_n 0, 1) := by decide +kernel
theorem dX9_comes_194 : decode cX9_comes 194 = .ok (.getfield 275, 3) := by decide +kernel
theorem dX9_comes_197 : decode cX9_comes 197 = .ok (.aload_n 0, 1) := by decide +kernel
theorem dX9_comes_198 : decode cX9_comes 198 = .ok (.getfield 107, 3) := by decide +kernel
theorem dX9_comes_201 : decode cX9_comes 201 = .ok (.iconst (-1), 1) := by decide +kernel
theorem dX9_comes_202 : decode cX9_comes 202 = .ok (.iload 5, 2) := by decide +kernel
theorem dX9_comes_204 : decode cX9_comes 204 = .ok (.isub, 1) := by decide +kernel
theorem dX9_comes_205 : decode cX9_comes 205 = .ok (.iaload, 1) := by decide +kernel
theorem dX9_comes_206 : decode cX9_comes 206 = .ok (.ineg, 1) := by decide +kernel
theorem dX9_comes_207 : decode cX9_comes 207 = .ok (.iastore, 1) := by decide +kernel
theorem dX9_comes_208 : decode cX9_comes 208 = .ok (.goto 55, 3) := by decide +kernel
theorem dX9_comes_211 : decode cX9_comes 211 = .ok (.aload_n 0, 1) := by decide +kernel
theorem dX9_comes_212 : decode cX9_comes 212 = .ok (.getfield 104, 3) := by decide +kernel
theorem dX9_comes_215 : decode cX9_comes 215 = .ok (.aload_n 0, 1) := by decide +kernel
theorem dX9_comes_216 : decode cX9_comes 216 = .ok (.getfield 275, 3) := by decide +kernel
theorem dX9_comes_219 : decode cX9_comes 219 = .ok (.iload 5, 2) := by decide +kernel
theorem dX9_comes_221 : decode cX9_comes 221 = .ok (.iastore, 1) := by decide +kernel
theorem dX9_comes_222 : decode cX9_comes 222 = .ok (.aload_n 0, 1) := by decide +kernel
theorem dX9_comes_223 : decode cX9_comes 223 = .ok (.getfield 13, 3) := by decide +kernel
theorem dX9_comes_226 : decode cX9_comes 226 = .ok (.iload 5, 2) := by decide +kernel
theorem dX9_comes_228 : decode cX9_comes 228 = .ok (.iaload, 1) := by decide +kernel
theorem dX9_comes_229 : decode cX9_comes 229 = .ok (.iconst 1, 1) := by decide +kernel
theorem dX9_comes_230 : decode cX9_comes 230 = .ok (.isub, 1) := by decide +kernel
theorem dX9_comes_231 : decode cX9_comes 231 = .ok (.istore 6, 2) := by decide +kernel
theorem dX9_comes_233 : decode cX9_comes 233 = .ok (.iload 6, 2) := by decide +kernel
theorem dX9_comes_235 : decode cX9_comes 235 = .ok (.ifCond .lt 28, 3) := by decide +kernel
theorem dX9_comes_238 : decode cX9_comes 238 = .ok (.aload_n 0, 1) := by decide +kernel
theorem dX9_comes_239 : decode cX9_comes 239 = .ok (.getfield 110, 3) := by decide +kernel
theorem dX9_comes_242 : decode cX9_comes 242 = .ok (.iload_n 3, 1) := by decide +kernel
theorem dX9_comes_243 : decode cX9_comes 243 = .ok (.aload_n 0, 1) := by decide +kernel
theorem dX9_comes_244 : decode cX9_comes 244 = .ok (.getfield 92, 3) := by decide +kernel
theorem dX9_comes_247 : decode cX9_comes 247 = .ok (.iload 4, 2) := by decide +kernel
theorem dX9_comes_249 : decode cX9_comes 249 = .ok (.iaload, 1) := by decide +kernel
theorem dX9_comes_250 : decode cX9_comes 250 = .ok (.iload 6, 2) := by decide +kernel
theorem dX9_comes_252 : decode cX9_comes 252 = .ok (.iadd, 1) := by decide +kernel
theorem dX9_comes_253 : decode cX9_comes 253 = .ok (.iastore, 1) := by decide +kernel
theorem dX9_comes_254 : decode cX9_comes 254 = .ok (.iinc 3 1, 3) := by decide +kernel
theorem dX9_comes_257 : decode cX9_comes 257 = .ok (.iinc 6 (-1), 3) := by decide +kernel
theorem dX9_comes_260 : decode cX9_comes 260 = .ok (.goto (-27), 3) := by decide +kernel
theorem dX9_comes_263 : decode cX9_comes 263 = .ok (.aload_n 0, 1) := by decide +kernel
theorem dX9_comes_264 : decode cX9_comes 264 = .ok (.dup, 1) := by decide +kernel
theorem dX9_comes_265 : decode cX9_comes 265 = .ok (.getfield 275, 3) := by decide +kernel
theorem dX9_comes_268 : decode cX9_comes 268 = .ok (.iconst 1, 1) := by decide +kernel
theorem dX9_comes_269 : decode cX9_comes 269 = .ok (.iadd, 1) := by decide +kernel
theorem dX9_comes_270 : decode cX9_comes 270 = .ok (.putfield 275, 3) := by decide +kernel
theorem dX9_comes_273 : decode cX9_comes 273 = .ok (.goto (-158), 3) := by decide +kernel
theorem dX9_comes_276 : decode cX9_comes 276 = .ok (.return_, 1) := by decide +kernel
theorem dX9_outcome_0 : decode cX9_outcome 0 = .ok (.iload_n 1, 1) := by decide +kernel
theorem dX9_outcome_1 : decode cX9_outcome 1 = .ok (.ifCond .lt 15, 3) := by decide +kernel
theorem dX9_outcome_4 : decode cX9_outcome 4 = .ok (.iload_n 1, 1) := by decide +kernel
theorem dX9_outcome_5 : decode cX9_outcome 5 = .ok (.aload_n 0, 1) := by decide +kernel
theorem dX9_outcome_6 : decode cX9_outcome 6 = .ok (.getfield 127, 3) := by decide +kernel
theorem dX9_outcome_9 : decode cX9_outcome 9 = .ok (.if_icmp .ge 7, 3) := by decide +kernel
theorem dX9_outcome_12 : decode cX9_outcome 12 = .ok (.iload_n 2, 1) := by decide +kernel
theorem dX9_outcome_13 : decode cX9_outcome 13 = .ok (.ifCond .ge 6, 3) := by decide +kernel
theorem dX9_outcome_16 : decode cX9_outcome 16 = .ok (.bipush (-9), 2) := by decide +kernel
theorem dX9_outcome_18 : decode cX9_outcome 18 = .ok (.ireturn, 1) := by decide +kernel
theorem dX9_outcome_19 : decode cX9_outcome 19 = .ok (.aload_n 0, 1) := by decide +kernel
theorem dX9_outcome_20 : decode cX9_outcome 20 = .ok (.getfield 101, 3) := by decide +kernel
theorem dX9_outcome_23 : decode cX9_outcome 23 = .ok (.iload_n 1, 1) := by decide +kernel
theorem dX9_outcome_24 : decode cX9_outcome 24 = .ok (.if_icmp .eq 8, 3) := by decide +kernel
theorem dX9_outcome_27 : decode cX9_outcome 27 = .ok (.aload_n 0, 1) := by decide +kernel
theorem dX9_outcome_28 : decode cX9_outcome 28 = .ok (.iload_n 1, 1) := by decide +kernel
theorem dX9_outcome_29 : decode cX9_outcome 29 = .ok (.invokevirtual 231, 3) := by decide +kernel
theorem dX9_outcome_32 : decode cX9_outcome 32 = .ok (.iload_n 2, 1) := by decide +kernel
theorem dX9_outcome_33 : decode cX9_outcome 33 = .ok (.ifCond .ne 8, 3) := by decide +kernel
theorem dX9_outcome_36 : decode cX9_outcome 36 = .ok (.aload_n 0, 1) := by decide +kernel
theorem dX9_outcome_37 : decode cX9_outcome 37 = .ok (.getfield 266, 3) := by decide +kernel
theorem dX9_outcome_40 : decode cX9_outcome 40 = .ok (.ireturn, 1) := by decide +kernel
theorem dX9_outcome_41 : decode cX9_outcome 41 = .ok (.iload_n 2, 1) := by decide +kernel
theorem dX9_outcome_42 : decode cX9_outcome 42 = .ok (.iconst 1, 1) := by decide +kernel
theorem dX9_outcome_43 : decode cX9_outcome 43 = .ok (.if_icmp .ne 8, 3) := by decide +kernel
theorem dX9_outcome_46 : decode cX9_outcome 46 = .ok (.aload_n 0, 1) := by decide +kernel
theorem dX9_outcome_47 : decode cX9_outcome 47 = .ok (.getfield 269, 3) := by decide +kernel
theorem dX9_outcome_50 : decode cX9_outcome 50 = .ok (.ireturn, 1) := by decide +kernel
theorem dX9_outcome_51 : decode cX9_outcome 51 = .ok (.iload_n 2, 1) := by decide +kernel
theorem dX9_outcome_52 : decode cX9_outcome 52 = .ok (.iconst 2, 1) := by decide +kernel
theorem dX9_outcome_53 : decode cX9_outcome 53 = .ok (.if_icmp .ne 8, 3) := by decide +kernel
theorem dX9_outcome_56 : decode cX9_outcome 56 = .ok (.aload_n 0, 1) := by decide +kernel
theorem dX9_outcome_57 : decode cX9_outcome 57 = .ok (.getfield 272, 3) := by decide +kernel
theorem dX9_outcome_60 : decode cX9_outcome 60 = .ok (.ireturn, 1) := by decide +kernel
theorem dX9_outcome_61 : decode cX9_outcome 61 = .ok (.iload_n 2, 1) := by decide +kernel
theorem dX9_outcome_62 : decode cX9_outcome 62 = .ok (.iconst 3, 1) := by decide +kernel
theorem dX9_outcome_63 : decode cX9_outcome 63 = .ok (.if_icmp .ne 8, 3) := by decide +kernel
theorem dX9_outcome_66 : decode cX9_outcome 66 = .ok (.aload_n 0, 1) := by decide +kernel
theorem dX9_outcome_67 : decode cX9_outcome 67 = .ok (.getfield 275, 3) := by decide +kernel
theorem dX9_outcome_70 : decode cX9_outcome 70 = .ok (.ireturn, 1) := by decide +kernel
theorem dX9_outcome_71 : decode cX9_outcome 71 = .ok (.iload_n 2, 1) := by decide +kernel
theorem dX9_outcome_72 : decode cX9_outcome 72 = .ok (.iconst 4, 1) := by decide +kernel
theorem dX9_outcome_73 : decode cX9_outcome 73 = .ok (.isub, 1) := by decide +kernel
theorem dX9_outcome_74 : decode cX9_outcome 74 = .ok (.aload_n 0, 1) := by decide +kernel
theorem dX9_outcome_75 : decode cX9_outcome 75 = .ok (.getfield 275, 3) := by decide +kernel
theorem dX9_outcome_78 : decode cX9_outcome 78 = .ok (.if_icmp .ge 14, 3) := by decide +kernel
theorem dX9_outcome_81 : decode cX9_outcome 81 = .ok (.aload_n 0, 1) := by decide +kernel
theorem dX9_outcome_82 : decode cX9_outcome 82 = .ok (.getfield 104, 3) := by decide +kernel
theorem dX9_outcome_85 : decode cX9_outcome 85 = .ok (.iload_n 2, 1) := by decide +kernel
theorem dX9_outcome_86 : decode cX9_outcome 86 = .ok (.iconst 4, 1) := by decide +kernel
theorem dX9_outcome_87 : decode cX9_outcome 87 = .ok (.isub, 1) := by decide +kernel
theorem dX9_outcome_88 : decode cX9_outcome 88 = .ok (.iaload, 1) := by decide +kernel
theorem dX9_outcome_89 : decode cX9_outcome 89 = .ok (.goto 5, 3) := by decide +kernel
theorem dX9_outcome_92 : decode cX9_outcome 92 = .ok (.bipush (-9), 2) := by decide +kernel
theorem dX9_outcome_94 : decode cX9_outcome 94 = .ok (.ireturn, 1) := by decide +kernel
theorem dX9_size_0 : decode cX9_size 0 = .ok (.aload_n 0, 1) := by decide +kernel
theorem dX9_size_1 : decode cX9_size 1 = .ok (.getfield 169, 3) := by decide +kernel
theorem dX9_size_4 : decode cX9_size 4 = .ok (.ireturn, 1) := by decide +kernel
theorem dX9_places_0 : decode cX9_places 0 = .ok (.iconst 0, 1) := by decide +kernel
theorem dX9_places_1 : decode cX9_places 1 = .ok (.istore_n 3, 1) := by decide +kernel
theorem dX9_places_2 : decode cX9_places 2 = .ok (.iload_n 2, 1) := by decide +kernel
theorem dX9_places_3 : decode cX9_places 3 = .ok (.istore 4, 2) := by decide +kernel
theorem dX9_places_5 : decode cX9_places 5 = .ok (.iload 4, 2) := by decide +kernel
theorem dX9_places_7 : decode cX9_places 7 = .ok (.ifCond .lt 24, 3) := by decide +kernel
theorem dX9_places_10 : decode cX9_places 10 = .ok (.iinc 3 1, 3) := by decide +kernel
theorem dX9_places_13 : decode cX9_places 13 = .ok (.aload_n 0, 1) := by decide +kernel
theorem dX9_places_14 : decode cX9_places 14 = .ok (.getfield 29, 3) := by decide +kernel
theorem dX9_places_17 : decode cX9_places 17 = .ok (.sipush 160, 3) := by decide +kernel
theorem dX9_places_20 : decode cX9_places 20 = .ok (.iload_n 1, 1) := by decide +kernel
theorem dX9_places_21 : decode cX9_places 21 = .ok (.imul, 1) := by decide +kernel
theorem dX9_places_22 : decode cX9_places 22 = .ok (.iload 4, 2) := by decide +kernel
theorem dX9_places_24 : decode cX9_places 24 = .ok (.iadd, 1) := by decide +kernel
theorem dX9_places_25 : decode cX9_places 25 = .ok (.iaload, 1) := by decide +kernel
theorem dX9_places_26 : decode cX9_places 26 = .ok (.istore 4, 2) := by decide +kernel
theorem dX9_places_28 : decode cX9_places 28 = .ok (.goto (-23), 3) := by decide +kernel
theorem dX9_places_31 : decode cX9_places 31 = .ok (.iload_n 3, 1) := by decide +kernel
theorem dX9_places_32 : decode cX9_places 32 = .ok (.ireturn, 1) := by decide +kernel
theorem dX9_node__0 : decode cX9_node_ 0 = .ok (.iload_n 1, 1) := by decide +kernel
theorem dX9_node__1 : decode cX9_node_ 1 = .ok (.ifCond .lt 15, 3) := by decide +kernel
theorem dX9_node__4 : decode cX9_node_ 4 = .ok (.iload_n 1, 1) := by decide +kernel
theorem dX9_node__5 : decode cX9_node_ 5 = .ok (.aload_n 0, 1) := by decide +kernel
theorem dX9_node__6 : decode cX9_node_ 6 = .ok (.getfield 169, 3) := by decide +kernel
theorem dX9_node__9 : decode cX9_node_ 9 = .ok (.if_icmp .ge 7, 3) := by decide +kernel
theorem dX9_node__12 : decode cX9_node_ 12 = .ok (.iload_n 2, 1) := by decide +kernel
theorem dX9_node__13 : decode cX9_node_ 13 = .ok (.ifCond .ge 6, 3) := by decide +kernel
theorem dX9_node__16 : decode cX9_node_ 16 = .ok (.bipush (-9), 2) := by decide +kernel
theorem dX9_node__18 : decode cX9_node_ 18 = .ok (.ireturn, 1) := by decide +kernel
theorem dX9_node__19 : decode cX9_node_ 19 = .ok (.aload_n 0, 1) := by decide +kernel
theorem dX9_node__20 : decode cX9_node_ 20 = .ok (.getfield 68, 3) := by decide +kernel
theorem dX9_node__23 : decode cX9_node_ 23 = .ok (.iload_n 1, 1) := by decide +kernel
theorem dX9_node__24 : decode cX9_node_ 24 = .ok (.iaload, 1) := by decide +kernel
theorem dX9_node__25 : decode cX9_node_ 25 = .ok (.iconst 1, 1) := by decide +kernel
theorem dX9_node__26 : decode cX9_node_ 26 = .ok (.if_icmp .ne 22, 3) := by decide +kernel
theorem dX9_node__29 : decode cX9_node_ 29 = .ok (.aload_n 0, 1) := by decide +kernel
theorem dX9_node__30 : decode cX9_node_ 30 = .ok (.aload_n 0, 1) := by decide +kernel
theorem dX9_node__31 : decode cX9_node_ 31 = .ok (.getfield 74, 3) := by decide +kernel
theorem dX9_node__34 : decode cX9_node_ 34 = .ok (.iload_n 1, 1) := by decide +kernel
theorem dX9_node__35 : decode cX9_node_ 35 = .ok (.iaload, 1) := by decide +kernel
theorem dX9_node__36 : decode cX9_node_ 36 = .ok (.aload_n 0, 1) := by decide +kernel
theorem dX9_node__37 : decode cX9_node_ 37 = .ok (.getfield 77, 3) := by decide +kernel
theorem dX9_node__40 : decode cX9_node_ 40 = .ok (.iload_n 1, 1) := by decide +kernel
theorem dX9_node__41 : decode cX9_node_ 41 = .ok (.iaload, 1) := by decide +kernel
theorem dX9_node__42 : decode cX9_node_ 42 = .ok (.invokevirtual 278, 3) := by decide +kernel
theorem dX9_node__45 : decode cX9_node_ 45 = .ok (.goto 4, 3) := by decide +kernel
theorem dX9_node__48 : decode cX9_node_ 48 = .ok (.iconst 0, 1) := by decide +kernel
theorem dX9_node__49 : decode cX9_node_ 49 = .ok (.istore_n 3, 1) := by decide +kernel
theorem dX9_node__50 : decode cX9_node_ 50 = .ok (.iload_n 2, 1) := by decide +kernel
theorem dX9_node__51 : decode cX9_node_ 51 = .ok (.tableswitch 82 0 4 #[33, 40, 61, 68, 75], 33) := by decide +kernel
theorem dX9_node__84 : decode cX9_node_ 84 = .ok (.aload_n 0, 1) := by decide +kernel
theorem dX9_node__85 : decode cX9_node_ 85 = .ok (.getfield 68, 3) := by decide +kernel
theorem dX9_node__88 : decode cX9_node_ 88 = .ok (.iload_n 1, 1) := by decide +kernel
theorem dX9_node__89 : decode cX9_node_ 89 = .ok (.iaload, 1) := by decide +kernel
theorem dX9_node__90 : decode cX9_node_ 90 = .ok (.ireturn, 1) := by decide +kernel
theorem dX9_node__91 : decode cX9_node_ 91 = .ok (.aload_n 0, 1) := by decide +kernel
theorem dX9_node__92 : decode cX9_node_ 92 = .ok (.getfield 68, 3) := by decide +kernel
theorem dX9_node__95 : decode cX9_node_ 95 = .ok (.iload_n 1, 1) := by decide +kernel
theorem dX9_node__96 : decode cX9_node_ 96 = .ok (.iaload, 1) := by decide +kernel
theorem dX9_node__97 : decode cX9_node_ 97 = .ok (.iconst 1, 1) := by decide +kernel
theorem dX9_node__98 : decode cX9_node_ 98 = .ok (.if_icmp .ne 7, 3) := by decide +kernel
theorem dX9_node__101 : decode cX9_node_ 101 = .ok (.iload_n 3, 1) := by decide +kernel
theorem dX9_node__102 : decode cX9_node_ 102 = .ok (.goto 9, 3) := by decide +kernel
theorem dX9_node__105 : decode cX9_node_ 105 = .ok (.aload_n 0, 1) := by decide +kernel
theorem dX9_node__106 : decode cX9_node_ 106 = .ok (.getfield 71, 3) := by decide +kernel
theorem dX9_node__109 : decode cX9_node_ 109 = .ok (.iload_n 1, 1) := by decide +kernel
theorem dX9_node__110 : decode cX9_node_ 110 = .ok (.iaload, 1) := by decide +kernel
theorem dX9_node__111 : decode cX9_node_ 111 = .ok (.ireturn, 1) := by decide +kernel
theorem dX9_node__112 : decode cX9_node_ 112 = .ok (.aload_n 0, 1) := by decide +kernel
theorem dX9_node__113 : decode cX9_node_ 113 = .ok (.getfield 80, 3) := by decide +kernel
theorem dX9_node__116 : decode cX9_node_ 116 = .ok (.iload_n 1, 1) := by decide +kernel
theorem dX9_node__117 : decode cX9_node_ 117 = .ok (.iaload, 1) := by decide +kernel
theorem dX9_node__118 : decode cX9_node_ 118 = .ok (.ireturn, 1) := by decide +kernel
theorem dX9_node__119 : decode cX9_node_ 119 = .ok (.aload_n 0, 1) := by decide +kernel
theorem dX9_node__120 : decode cX9_node_ 120 = .ok (.getfield 83, 3) := by decide +kernel
theorem dX9_node__123 : decode cX9_node_ 123 = .ok (.iload_n 1, 1) := by decide +kernel
theorem dX9_node__124 : decode cX9_node_ 124 = .ok (.iaload, 1) := by decide +kernel
theorem dX9_node__125 : decode cX9_node_ 125 = .ok (.ireturn, 1) := by decide +kernel
theorem dX9_node__126 : decode cX9_node_ 126 = .ok (.aload_n 0, 1) := by decide +kernel
theorem dX9_node__127 : decode cX9_node_ 127 = .ok (.getfield 86, 3) := by decide +kernel
theorem dX9_node__130 : decode cX9_node_ 130 = .ok (.iload_n 1, 1) := by decide +kernel
theorem dX9_node__131 : decode cX9_node_ 131 = .ok (.iaload, 1) := by decide +kernel
theorem dX9_node__132 : decode cX9_node_ 132 = .ok (.ireturn, 1) := by decide +kernel
theorem dX9_node__133 : decode cX9_node_ 133 = .ok (.iload_n 2, 1) := by decide +kernel
theorem dX9_node__134 : decode cX9_node_ 134 = .ok (.iconst 5, 1) := by decide +kernel
theorem dX9_node__135 : decode cX9_node_ 135 = .ok (.isub, 1) := by decide +kernel
theorem dX9_node__136 : decode cX9_node_ 136 = .ok (.iload_n 3, 1) := by decide +kernel
theorem dX9_node__137 : decode cX9_node_ 137 = .ok (.if_icmp .lt 6, 3) := by decide +kernel
theorem dX9_node__140 : decode cX9_node_ 140 = .ok (.bipush (-9), 2) := by decide +kernel
theorem dX9_node__142 : decode cX9_node_ 142 = .ok (.ireturn, 1) := by decide +kernel
theorem dX9_node__143 : decode cX9_node_ 143 = .ok (.aload_n 0, 1) := by decide +kernel
theorem dX9_node__144 : decode cX9_node_ 144 = .ok (.getfield 77, 3) := by decide +kernel
theorem dX9_node__147 : decode cX9_node_ 147 = .ok (.iload_n 1, 1) := by decide +kernel
theorem dX9_node__148 : decode cX9_node_ 148 = .ok (.iaload, 1) := by decide +kernel
theorem dX9_node__149 : decode cX9_node_ 149 = .ok (.istore 4, 2) := by decide +kernel
theorem dX9_node__151 : decode cX9_node_ 151 = .ok (.iload_n 3, 1) := by decide +kernel
theorem dX9_node__152 : decode cX9_node_ 152 = .ok (.iconst 1, 1) := by decide +kernel
theorem dX9_node__153 : decode cX9_node_ 153 = .ok (.isub, 1) := by decide +kernel
theorem dX9_node__154 : decode cX9_node_ 154 = .ok (.istore 5, 2) := by decide +kernel
theorem dX9_node__156 : decode cX9_node_ 156 = .ok (.iload 5, 2) := by decide +kernel
theorem dX9_node__158 : decode cX9_node_ 158 = .ok (.iload_n 2, 1) := by decide +kernel
theorem dX9_node__159 : decode cX9_node_ 159 = .ok (.iconst 5, 1) := by decide +kernel
theorem dX9_node__160 : decode cX9_node_ 160 = .ok (.isub, 1) := by decide +kernel
theorem dX9_node__161 : decode cX9_node_ 161 = .ok (.if_icmp .le 29, 3) := by decide +kernel
theorem dX9_node__164 : decode cX9_node_ 164 = .ok (.aload_n 0, 1) := by decide +kernel
theorem dX9_node__165 : decode cX9_node_ 165 = .ok (.getfield 29, 3) := by decide +kernel
theorem dX9_node__168 : decode cX9_node_ 168 = .ok (.sipush 160, 3) := by decide +kernel
theorem dX9_node__171 : decode cX9_node_ 171 = .ok (.aload_n 0, 1) := by decide +kernel
theorem dX9_node__172 : decode cX9_node_ 172 = .ok (.getfield 74, 3) := by decide +kernel
theorem dX9_node__175 : decode cX9_node_ 175 = .ok (.iload_n 1, 1) := by decide +kernel
theorem dX9_node__176 : decode cX9_node_ 176 = .ok (.iaload, 1) := by decide +kernel
theorem dX9_node__177 : decode cX9_node_ 177 = .ok (.imul, 1) := by decide +kernel
theorem dX9_node__178 : decode cX9_node_ 178 = .ok (.iload 4, 2) := by decide +kernel
theorem dX9_node__180 : decode cX9_node_ 180 = .ok (.iadd, 1) := by decide +kernel
theorem dX9_node__181 : decode cX9_node_ 181 = .ok (.iaload, 1) := by decide +kernel
theorem dX9_node__182 : decode cX9_node_ 182 = .ok (.istore 4, 2) := by decide +kernel
theorem dX9_node__184 : decode cX9_node_ 184 = .ok (.iinc 5 (-1), 3) := by decide +kernel
theorem dX9_node__187 : decode cX9_node_ 187 = .ok (.goto (-31), 3) := by decide +kernel
theorem dX9_node__190 : decode cX9_node_ 190 = .ok (.aload_n 0, 1) := by decide +kernel
theorem dX9_node__191 : decode cX9_node_ 191 = .ok (.getfield 32, 3) := by decide +kernel
theorem dX9_node__194 : decode cX9_node_ 194 = .ok (.sipush 160, 3) := by decide +kernel
theorem dX9_node__197 : decode cX9_node_ 197 = .ok (.aload_n 0, 1) := by decide +kernel
theorem dX9_node__198 : decode cX9_node_ 198 = .ok (.getfield 74, 3) := by decide +kernel
theorem dX9_node__201 : decode cX9_node_ 201 = .ok (.iload_n 1, 1) := by decide +kernel
theorem dX9_node__202 : decode cX9_node_ 202 = .ok (.iaload, 1) := by decide +kernel
theorem dX9_node__203 : decode cX9_node_ 203 = .ok (.imul, 1) := by decide +kernel
theorem dX9_node__204 : decode cX9_node_ 204 = .ok (.iload 4, 2) := by decide +kernel
theorem dX9_node__206 : decode cX9_node_ 206 = .ok (.iadd, 1) := by decide +kernel
theorem dX9_node__207 : decode cX9_node_ 207 = .ok (.iaload, 1) := by decide +kernel
theorem dX9_node__208 : decode cX9_node_ 208 = .ok (.ireturn, 1) := by decide +kernel
theorem dX9_covers_0 : decode cX9_covers 0 = .ok (.aload_n 0, 1) := by decide +kernel
theorem dX9_covers_1 : decode cX9_covers 1 = .ok (.invokevirtual 136, 3) := by decide +kernel
theorem dX9_covers_4 : decode cX9_covers 4 = .ok (.aload_n 0, 1) := by decide +kernel
theorem dX9_covers_5 : decode cX9_covers 5 = .ok (.getfield 181, 3) := by decide +kernel
theorem dX9_covers_8 : decode cX9_covers 8 = .ok (.ireturn, 1) := by decide +kernel
theorem dX9_clash_0 : decode cX9_clash 0 = .ok (.iload_n 1, 1) := by decide +kernel
theorem dX9_clash_1 : decode cX9_clash 1 = .ok (.ifCond .lt 23, 3) := by decide +kernel
theorem dX9_clash_4 : decode cX9_clash 4 = .ok (.iload_n 2, 1) := by decide +kernel
theorem dX9_clash_5 : decode cX9_clash 5 = .ok (.ifCond .lt 19, 3) := by decide +kernel
theorem dX9_clash_8 : decode cX9_clash 8 = .ok (.iload_n 1, 1) := by decide +kernel
theorem dX9_clash_9 : decode cX9_clash 9 = .ok (.aload_n 0, 1) := by decide +kernel
theorem dX9_clash_10 : decode cX9_clash 10 = .ok (.getfield 133, 3) := by decide +kernel
theorem dX9_clash_13 : decode cX9_clash 13 = .ok (.if_icmp .ge 11, 3) := by decide +kernel
theorem dX9_clash_16 : decode cX9_clash 16 = .ok (.iload_n 2, 1) := by decide +kernel
theorem dX9_clash_17 : decode cX9_clash 17 = .ok (.aload_n 0, 1) := by decide +kernel
theorem dX9_clash_18 : decode cX9_clash 18 = .ok (.getfield 133, 3) := by decide +kernel
theorem dX9_clash_21 : decode cX9_clash 21 = .ok (.if_icmp .lt 5, 3) := by decide +kernel
theorem dX9_clash_24 : decode cX9_clash 24 = .ok (.iconst 0, 1) := by decide +kernel
theorem dX9_clash_25 : decode cX9_clash 25 = .ok (.ireturn, 1) := by decide +kernel
theorem dX9_clash_26 : decode cX9_clash 26 = .ok (.iconst 0, 1) := by decide +kernel
theorem dX9_clash_27 : decode cX9_clash 27 = .ok (.istore_n 3, 1) := by decide +kernel
theorem dX9_clash_28 : decode cX9_clash 28 = .ok (.iconst 0, 1) := by decide +kernel
theorem dX9_clash_29 : decode cX9_clash 29 = .ok (.istore 4, 2) := by decide +kernel
theorem dX9_clash_31 : decode cX9_clash 31 = .ok (.iload_n 3, 1) := by decide +kernel
theorem dX9_clash_32 : decode cX9_clash 32 = .ok (.aload_n 0, 1) := by decide +kernel
theorem dX9_clash_33 : decode cX9_clash 33 = .ok (.getfield 38, 3) := by decide +kernel
theorem dX9_clash_36 : decode cX9_clash 36 = .ok (.iload_n 1, 1) := by decide +kernel
theorem dX9_clash_37 : decode cX9_clash 37 = .ok (.iaload, 1) := by decide +kernel
theorem dX9_clash_38 : decode cX9_clash 38 = .ok (.if_icmp .ge 122, 3) := by decide +kernel
theorem dX9_clash_41 : decode cX9_clash 41 = .ok (.aload_n 0, 1) := by decide +kernel
theorem dX9_clash_42 : decode cX9_clash 42 = .ok (.getfield 26, 3) := by decide +kernel
theorem dX9_clash_45 : decode cX9_clash 45 = .ok (.sipush 160, 3) := by decide +kernel
theorem dX9_clash_48 : decode cX9_clash 48 = .ok (.iload_n 1, 1) := by decide +kernel
theorem dX9_clash_49 : decode cX9_clash 49 = .ok (.imul, 1) := by decide +kernel
theorem dX9_clash_50 : decode cX9_clash 50 = .ok (.iload_n 3, 1) := by decide +kernel
theorem dX9_clash_51 : decode cX9_clash 51 = .ok (.iadd, 1) := by decide +kernel
theorem dX9_clash_52 : decode cX9_clash 52 = .ok (.iaload, 1) := by decide +kernel
theorem dX9_clash_53 : decode cX9_clash 53 = .ok (.istore 5, 2) := by decide +kernel
theorem dX9_clash_55 : decode cX9_clash 55 = .ok (.aload_n 0, 1) := by decide +kernel
theorem dX9_clash_56 : decode cX9_clash 56 = .ok (.getfield 26, 3) := by decide +kernel
theorem dX9_clash_59 : decode cX9_clash 59 = .ok (.sipush 160, 3) := by decide +kernel
theorem dX9_clash_62 : decode cX9_clash 62 = .ok (.iload_n 2, 1) := by decide +kernel
theorem dX9_clash_63 : decode cX9_clash 63 = .ok (.imul, 1) := by decide +kernel
theorem dX9_clash_64 : decode cX9_clash 64 = .ok (.iload 4, 2) := by decide +kernel
theorem dX9_clash_66 : decode cX9_clash 66 = .ok (.iadd, 1) := by decide +kernel
theorem dX9_clash_67 : decode cX9_clash 67 = .ok (.iaload, 1) := by decide +kernel
theorem dX9_clash_68 : decode cX9_clash 68 = .ok (.istore 6, 2) := by decide +kernel
theorem dX9_clash_70 : decode cX9_clash 70 = .ok (.iload 5, 2) := by decide +kernel
theorem dX9_clash_72 : decode cX9_clash 72 = .ok (.ifCond .lt 17, 3) := by decide +kernel
theorem dX9_clash_75 : decode cX9_clash 75 = .ok (.iload 6, 2) := by decide +kernel
theorem dX9_clash_77 : decode cX9_clash 77 = .ok (.ifCond .lt 12, 3) := by decide +kernel
theorem dX9_clash_80 : decode cX9_clash 80 = .ok (.iload 5, 2) := by decide +kernel
theorem dX9_clash_82 : decode cX9_clash 82 = .ok (.iload 6, 2) := by decide +kernel
theorem dX9_clash_84 : decode cX9_clash 84 = .ok (.if_icmp .eq 5, 3) := by decide +kernel
theorem dX9_clash_87 : decode cX9_clash 87 = .ok (.iconst 0, 1) := by decide +kernel
theorem dX9_clash_88 : decode cX9_clash 88 = .ok (.ireturn, 1) := by decide +kernel
theorem dX9_clash_89 : decode cX9_clash 89 = .ok (.iload 5, 2) := by decide +kernel
theorem dX9_clash_91 : decode cX9_clash 91 = .ok (.ifCond .lt 12, 3) := by decide +kernel
theorem dX9_clash_94 : decode cX9_clash 94 = .ok (.iload 6, 2) := by decide +kernel
theorem dX9_clash_96 : decode cX9_clash 96 = .ok (.ifCond .lt 7, 3) := by decide +kernel
theorem dX9_clash_99 : decode cX9_clash 99 = .ok (.iconst 1, 1) := by decide +kernel
theorem dX9_clash_100 : decode cX9_clash 100 = .ok (.goto 4, 3) := by decide +kernel
theorem dX9_clash_103 : decode cX9_clash 103 = .ok (.iconst 0, 1) := by decide +kernel
theorem dX9_clash_104 : decode cX9_clash 104 = .ok (.istore 7, 2) := by decide +kernel
theorem dX9_clash_106 : decode cX9_clash 106 = .ok (.iload 7, 2) := by decide +kernel
theorem dX9_clash_108 : decode cX9_clash 108 = .ok (.ifCond .eq 9, 3) := by decide +kernel
theorem dX9_clash_111 : decode cX9_clash 111 = .ok (.iload_n 3, 1) := by decide +kernel
theorem dX9_clash_112 : decode cX9_clash 112 = .ok (.iconst 1, 1) := by decide +kernel
theorem dX9_clash_113 : decode cX9_clash 113 = .ok (.iadd, 1) := by decide +kernel
theorem dX9_clash_114 : decode cX9_clash 114 = .ok (.goto 15, 3) := by decide +kernel
theorem dX9_clash_117 : decode cX9_clash 117 = .ok (.aload_n 0, 1) := by decide +kernel
theorem dX9_clash_118 : decode cX9_clash 118 = .ok (.getfield 35, 3) := by decide +kernel
theorem dX9_clash_121 : decode cX9_clash 121 = .ok (.sipush 160, 3) := by decide +kernel
theorem dX9_clash_124 : decode cX9_clash 124 = .ok (.iload_n 1, 1) := by decide +kernel
theorem dX9_clash_125 : decode cX9_clash 125 = .ok (.imul, 1) := by decide +kernel
theorem dX9_clash_126 : decode cX9_clash 126 = .ok (.iload_n 3, 1) := by decide +kernel
theorem dX9_clash_127 : decode cX9_clash 127 = .ok (.iadd, 1) := by decide +kernel
theorem dX9_clash_128 : decode cX9_clash 128 = .ok (.iaload, 1) := by decide +kernel
theorem dX9_clash_129 : decode cX9_clash 129 = .ok (.istore_n 3, 1) := by decide +kernel
theorem dX9_clash_130 : decode cX9_clash 130 = .ok (.iload 7, 2) := by decide +kernel
theorem dX9_clash_132 : decode cX9_clash 132 = .ok (.ifCond .eq 10, 3) := by decide +kernel
theorem dX9_clash_135 : decode cX9_clash 135 = .ok (.iload 4, 2) := by decide +kernel
theorem dX9_clash_137 : decode cX9_clash 137 = .ok (.iconst 1, 1) := by decide +kernel
theorem dX9_clash_138 : decode cX9_clash 138 = .ok (.iadd, 1) := by decide +kernel
theorem dX9_clash_139 : decode cX9_clash 139 = .ok (.goto 16, 3) := by decide +kernel
theorem dX9_clash_142 : decode cX9_clash 142 = .ok (.aload_n 0, 1) := by decide +kernel
theorem dX9_clash_143 : decode cX9_clash 143 = .ok (.getfield 35, 3) := by decide +kernel
theorem dX9_clash_146 : decode cX9_clash 146 = .ok (.sipush 160, 3) := by decide +kernel
theorem dX9_clash_149 : decode cX9_clash 149 = .ok (.iload_n 2, 1) := by decide +kernel
theorem dX9_clash_150 : decode cX9_clash 150 = .ok (.imul, 1) := by decide +kernel
theorem dX9_clash_151 : decode cX9_clash 151 = .ok (.iload 4, 2) := by decide +kernel
theorem dX9_clash_153 : decode cX9_clash 153 = .ok (.iadd, 1) := by decide +kernel
theorem dX9_clash_154 : decode cX9_clash 154 = .ok (.iaload, 1) := by decide +kernel
theorem dX9_clash_155 : decode cX9_clash 155 = .ok (.istore 4, 2) := by decide +kernel
theorem dX9_clash_157 : decode cX9_clash 157 = .ok (.goto (-126), 3) := by decide +kernel
theorem dX9_clash_160 : decode cX9_clash 160 = .ok (.iconst 1, 1) := by decide +kernel
theorem dX9_clash_161 : decode cX9_clash 161 = .ok (.ireturn, 1) := by decide +kernel
theorem dX9_count_0 : decode cX9_count 0 = .ok (.iload_n 1, 1) := by decide +kernel
theorem dX9_count_1 : decode cX9_count 1 = .ok (.tableswitch 96 0 8 #[51, 56, 61, 66, 71, 76, 81, 86, 91], 51) := by decide +kernel
theorem dX9_count_52 : decode cX9_count 52 = .ok (.aload_n 0, 1) := by decide +kernel
theorem dX9_count_53 : decode cX9_count 53 = .ok (.getfield 117, 3) := by decide +kernel
theorem dX9_count_56 : decode cX9_count 56 = .ok (.ireturn, 1) := by decide +kernel
theorem dX9_count_57 : decode cX9_count 57 = .ok (.aload_n 0, 1) := by decide +kernel
theorem dX9_count_58 : decode cX9_count 58 = .ok (.getfield 124, 3) := by decide +kernel
theorem dX9_count_61 : decode cX9_count 61 = .ok (.ireturn, 1) := by decide +kernel
theorem dX9_count_62 : decode cX9_count 62 = .ok (.aload_n 0, 1) := by decide +kernel
theorem dX9_count_63 : decode cX9_count 63 = .ok (.getfield 133, 3) := by decide +kernel
theorem dX9_count_66 : decode cX9_count 66 = .ok (.ireturn, 1) := by decide +kernel
theorem dX9_count_67 : decode cX9_count 67 = .ok (.aload_n 0, 1) := by decide +kernel
theorem dX9_count_68 : decode cX9_count 68 = .ok (.getfield 19, 3) := by decide +kernel
theorem dX9_count_71 : decode cX9_count 71 = .ok (.ireturn, 1) := by decide +kernel
theorem dX9_count_72 : decode cX9_count 72 = .ok (.aload_n 0, 1) := by decide +kernel
theorem dX9_count_73 : decode cX9_count 73 = .ok (.getfield 139, 3) := by decide +kernel
theorem dX9_count_76 : decode cX9_count 76 = .ok (.ireturn, 1) := by decide +kernel
theorem dX9_count_77 : decode cX9_count 77 = .ok (.aload_n 0, 1) := by decide +kernel
theorem dX9_count_78 : decode cX9_count 78 = .ok (.getfield 127, 3) := by decide +kernel
theorem dX9_count_81 : decode cX9_count 81 = .ok (.ireturn, 1) := by decide +kernel
theorem dX9_count_82 : decode cX9_count 82 = .ok (.aload_n 0, 1) := by decide +kernel
theorem dX9_count_83 : decode cX9_count 83 = .ok (.getfield 172, 3) := by decide +kernel
theorem dX9_count_86 : decode cX9_count 86 = .ok (.ireturn, 1) := by decide +kernel
theorem dX9_count_87 : decode cX9_count 87 = .ok (.aload_n 0, 1) := by decide +kernel
theorem dX9_count_88 : decode cX9_count 88 = .ok (.getfield 175, 3) := by decide +kernel
theorem dX9_count_91 : decode cX9_count 91 = .ok (.ireturn, 1) := by decide +kernel
theorem dX9_count_92 : decode cX9_count 92 = .ok (.aload_n 0, 1) := by decide +kernel
theorem dX9_count_93 : decode cX9_count 93 = .ok (.getfield 178, 3) := by decide +kernel
theorem dX9_count_96 : decode cX9_count 96 = .ok (.ireturn, 1) := by decide +kernel
theorem dX9_count_97 : decode cX9_count 97 = .ok (.bipush (-9), 2) := by decide +kernel
theorem dX9_count_99 : decode cX9_count 99 = .ok (.ireturn, 1) := by decide +kernel
