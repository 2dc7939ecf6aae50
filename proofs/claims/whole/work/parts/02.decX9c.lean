theorem dX9_laid_395 : decode cX9_laid 395 = .ok (.iload 8, 2) := by decide +kernel
theorem dX9_laid_397 : decode cX9_laid 397 = .ok (.iload 11, 2) := by decide +kernel
theorem dX9_laid_399 : decode cX9_laid 399 = .ok (.iconst (-1), 1) := by decide +kernel
theorem dX9_laid_400 : decode cX9_laid 400 = .ok (.iload 4, 2) := by decide +kernel
theorem dX9_laid_402 : decode cX9_laid 402 = .ok (.iconst 1, 1) := by decide +kernel
theorem dX9_laid_403 : decode cX9_laid 403 = .ok (.iadd, 1) := by decide +kernel
theorem dX9_laid_404 : decode cX9_laid 404 = .ok (.invokestatic 188, 3) := by decide +kernel
theorem dX9_laid_407 : decode cX9_laid 407 = .ok (.ifCond .ne 8, 3) := by decide +kernel
theorem dX9_laid_410 : decode cX9_laid 410 = .ok (.iload 9, 2) := by decide +kernel
theorem dX9_laid_412 : decode cX9_laid 412 = .ok (.ifCond .eq 7, 3) := by decide +kernel
theorem dX9_laid_415 : decode cX9_laid 415 = .ok (.iconst 1, 1) := by decide +kernel
theorem dX9_laid_416 : decode cX9_laid 416 = .ok (.goto 4, 3) := by decide +kernel
theorem dX9_laid_419 : decode cX9_laid 419 = .ok (.iconst 0, 1) := by decide +kernel
theorem dX9_laid_420 : decode cX9_laid 420 = .ok (.istore 9, 2) := by decide +kernel
theorem dX9_laid_422 : decode cX9_laid 422 = .ok (.aload_n 0, 1) := by decide +kernel
theorem dX9_laid_423 : decode cX9_laid 423 = .ok (.iload 8, 2) := by decide +kernel
theorem dX9_laid_425 : decode cX9_laid 425 = .ok (.putfield 160, 3) := by decide +kernel
theorem dX9_laid_428 : decode cX9_laid 428 = .ok (.iload 10, 2) := by decide +kernel
theorem dX9_laid_430 : decode cX9_laid 430 = .ok (.iload 11, 2) := by decide +kernel
theorem dX9_laid_432 : decode cX9_laid 432 = .ok (.iadd, 1) := by decide +kernel
theorem dX9_laid_433 : decode cX9_laid 433 = .ok (.istore 10, 2) := by decide +kernel
theorem dX9_laid_435 : decode cX9_laid 435 = .ok (.goto (-78), 3) := by decide +kernel
theorem dX9_laid_438 : decode cX9_laid 438 = .ok (.iload 9, 2) := by decide +kernel
theorem dX9_laid_440 : decode cX9_laid 440 = .ok (.ireturn, 1) := by decide +kernel
theorem dX9_newCells_0 : decode cX9_newCells 0 = .ok (.aload_n 0, 1) := by decide +kernel
theorem dX9_newCells_1 : decode cX9_newCells 1 = .ok (.dup, 1) := by decide +kernel
theorem dX9_newCells_2 : decode cX9_newCells 2 = .ok (.getfield 218, 3) := by decide +kernel
theorem dX9_newCells_5 : decode cX9_newCells 5 = .ok (.iload_n 1, 1) := by decide +kernel
theorem dX9_newCells_6 : decode cX9_newCells 6 = .ok (.iadd, 1) := by decide +kernel
theorem dX9_newCells_7 : decode cX9_newCells 7 = .ok (.putfield 218, 3) := by decide +kernel
theorem dX9_newCells_10 : decode cX9_newCells 10 = .ok (.aload_n 0, 1) := by decide +kernel
theorem dX9_newCells_11 : decode cX9_newCells 11 = .ok (.getfield 218, 3) := by decide +kernel
theorem dX9_newCells_14 : decode cX9_newCells 14 = .ok (.iload_n 1, 1) := by decide +kernel
theorem dX9_newCells_15 : decode cX9_newCells 15 = .ok (.isub, 1) := by decide +kernel
theorem dX9_newCells_16 : decode cX9_newCells 16 = .ok (.ireturn, 1) := by decide +kernel
theorem dX9_read_0 : decode cX9_read 0 = .ok (.aload_n 0, 1) := by decide +kernel
theorem dX9_read_1 : decode cX9_read 1 = .ok (.iconst 0, 1) := by decide +kernel
theorem dX9_read_2 : decode cX9_read 2 = .ok (.putfield 218, 3) := by decide +kernel
theorem dX9_read_5 : decode cX9_read 5 = .ok (.aload_n 0, 1) := by decide +kernel
theorem dX9_read_6 : decode cX9_read 6 = .ok (.bipush 8, 2) := by decide +kernel
theorem dX9_read_8 : decode cX9_read 8 = .ok (.putfield 221, 3) := by decide +kernel
theorem dX9_read_11 : decode cX9_read 11 = .ok (.iconst 0, 1) := by decide +kernel
theorem dX9_read_12 : decode cX9_read 12 = .ok (.istore_n 1, 1) := by decide +kernel
theorem dX9_read_13 : decode cX9_read 13 = .ok (.iload_n 1, 1) := by decide +kernel
theorem dX9_read_14 : decode cX9_read 14 = .ok (.bipush 8, 2) := by decide +kernel
theorem dX9_read_16 : decode cX9_read 16 = .ok (.if_icmp .ge 16, 3) := by decide +kernel
theorem dX9_read_19 : decode cX9_read 19 = .ok (.aload_n 0, 1) := by decide +kernel
theorem dX9_read_20 : decode cX9_read 20 = .ok (.getfield 95, 3) := by decide +kernel
theorem dX9_read_23 : decode cX9_read 23 = .ok (.iload_n 1, 1) := by decide +kernel
theorem dX9_read_24 : decode cX9_read 24 = .ok (.iconst (-1), 1) := by decide +kernel
theorem dX9_read_25 : decode cX9_read 25 = .ok (.iastore, 1) := by decide +kernel
theorem dX9_read_26 : decode cX9_read 26 = .ok (.iinc 1 1, 3) := by decide +kernel
theorem dX9_read_29 : decode cX9_read 29 = .ok (.goto (-16), 3) := by decide +kernel
theorem dX9_read_32 : decode cX9_read 32 = .ok (.aload_n 0, 1) := by decide +kernel
theorem dX9_read_33 : decode cX9_read 33 = .ok (.aload_n 0, 1) := by decide +kernel
theorem dX9_read_34 : decode cX9_read 34 = .ok (.getfield 19, 3) := by decide +kernel
theorem dX9_read_37 : decode cX9_read 37 = .ok (.invokevirtual 224, 3) := by decide +kernel
theorem dX9_read_40 : decode cX9_read 40 = .ok (.istore_n 1, 1) := by decide +kernel
theorem dX9_read_41 : decode cX9_read 41 = .ok (.aload_n 0, 1) := by decide +kernel
theorem dX9_read_42 : decode cX9_read 42 = .ok (.iconst 0, 1) := by decide +kernel
theorem dX9_read_43 : decode cX9_read 43 = .ok (.putfield 142, 3) := by decide +kernel
theorem dX9_read_46 : decode cX9_read 46 = .ok (.aload_n 0, 1) := by decide +kernel
theorem dX9_read_47 : decode cX9_read 47 = .ok (.getfield 19, 3) := by decide +kernel
theorem dX9_read_50 : decode cX9_read 50 = .ok (.iconst 1, 1) := by decide +kernel
theorem dX9_read_51 : decode cX9_read 51 = .ok (.isub, 1) := by decide +kernel
theorem dX9_read_52 : decode cX9_read 52 = .ok (.istore_n 2, 1) := by decide +kernel
theorem dX9_read_53 : decode cX9_read 53 = .ok (.iload_n 2, 1) := by decide +kernel
theorem dX9_read_54 : decode cX9_read 54 = .ok (.ifCond .lt 31, 3) := by decide +kernel
theorem dX9_read_57 : decode cX9_read 57 = .ok (.aload_n 0, 1) := by decide +kernel
theorem dX9_read_58 : decode cX9_read 58 = .ok (.getfield 41, 3) := by decide +kernel
theorem dX9_read_61 : decode cX9_read 61 = .ok (.aload_n 0, 1) := by decide +kernel
theorem dX9_read_62 : decode cX9_read 62 = .ok (.getfield 142, 3) := by decide +kernel
theorem dX9_read_65 : decode cX9_read 65 = .ok (.iload_n 1, 1) := by decide +kernel
theorem dX9_read_66 : decode cX9_read 66 = .ok (.iload_n 2, 1) := by decide +kernel
theorem dX9_read_67 : decode cX9_read 67 = .ok (.iadd, 1) := by decide +kernel
theorem dX9_read_68 : decode cX9_read 68 = .ok (.iastore, 1) := by decide +kernel
theorem dX9_read_69 : decode cX9_read 69 = .ok (.aload_n 0, 1) := by decide +kernel
theorem dX9_read_70 : decode cX9_read 70 = .ok (.dup, 1) := by decide +kernel
theorem dX9_read_71 : decode cX9_read 71 = .ok (.getfield 142, 3) := by decide +kernel
theorem dX9_read_74 : decode cX9_read 74 = .ok (.iconst 1, 1) := by decide +kernel
theorem dX9_read_75 : decode cX9_read 75 = .ok (.iadd, 1) := by decide +kernel
theorem dX9_read_76 : decode cX9_read 76 = .ok (.putfield 142, 3) := by decide +kernel
theorem dX9_read_79 : decode cX9_read 79 = .ok (.iinc 2 (-1), 3) := by decide +kernel
theorem dX9_read_82 : decode cX9_read 82 = .ok (.goto (-29), 3) := by decide +kernel
theorem dX9_read_85 : decode cX9_read 85 = .ok (.iconst 0, 1) := by decide +kernel
theorem dX9_read_86 : decode cX9_read 86 = .ok (.istore_n 2, 1) := by decide +kernel
theorem dX9_read_87 : decode cX9_read 87 = .ok (.iload_n 2, 1) := by decide +kernel
theorem dX9_read_88 : decode cX9_read 88 = .ok (.aload_n 0, 1) := by decide +kernel
theorem dX9_read_89 : decode cX9_read 89 = .ok (.getfield 139, 3) := by decide +kernel
theorem dX9_read_92 : decode cX9_read 92 = .ok (.if_icmp .ge 128, 3) := by decide +kernel
theorem dX9_read_95 : decode cX9_read 95 = .ok (.aload_n 0, 1) := by decide +kernel
theorem dX9_read_96 : decode cX9_read 96 = .ok (.dup, 1) := by decide +kernel
theorem dX9_read_97 : decode cX9_read 97 = .ok (.getfield 142, 3) := by decide +kernel
theorem dX9_read_100 : decode cX9_read 100 = .ok (.iconst 1, 1) := by decide +kernel
theorem dX9_read_101 : decode cX9_read 101 = .ok (.isub, 1) := by decide +kernel
theorem dX9_read_102 : decode cX9_read 102 = .ok (.putfield 142, 3) := by decide +kernel
theorem dX9_read_105 : decode cX9_read 105 = .ok (.aload_n 0, 1) := by decide +kernel
theorem dX9_read_106 : decode cX9_read 106 = .ok (.getfield 41, 3) := by decide +kernel
theorem dX9_read_109 : decode cX9_read 109 = .ok (.aload_n 0, 1) := by decide +kernel
theorem dX9_read_110 : decode cX9_read 110 = .ok (.getfield 142, 3) := by decide +kernel
theorem dX9_read_113 : decode cX9_read 113 = .ok (.iaload, 1) := by decide +kernel
theorem dX9_read_114 : decode cX9_read 114 = .ok (.istore_n 3, 1) := by decide +kernel
theorem dX9_read_115 : decode cX9_read 115 = .ok (.aload_n 0, 1) := by decide +kernel
theorem dX9_read_116 : decode cX9_read 116 = .ok (.getfield 89, 3) := by decide +kernel
theorem dX9_read_119 : decode cX9_read 119 = .ok (.iload_n 3, 1) := by decide +kernel
theorem dX9_read_120 : decode cX9_read 120 = .ok (.aload_n 0, 1) := by decide +kernel
theorem dX9_read_121 : decode cX9_read 121 = .ok (.getfield 23, 3) := by decide +kernel
theorem dX9_read_124 : decode cX9_read 124 = .ok (.iload_n 2, 1) := by decide +kernel
theorem dX9_read_125 : decode cX9_read 125 = .ok (.iaload, 1) := by decide +kernel
theorem dX9_read_126 : decode cX9_read 126 = .ok (.iastore, 1) := by decide +kernel
theorem dX9_read_127 : decode cX9_read 127 = .ok (.aload_n 0, 1) := by decide +kernel
theorem dX9_read_128 : decode cX9_read 128 = .ok (.getfield 23, 3) := by decide +kernel
theorem dX9_read_131 : decode cX9_read 131 = .ok (.iload_n 2, 1) := by decide +kernel
theorem dX9_read_132 : decode cX9_read 132 = .ok (.iaload, 1) := by decide +kernel
theorem dX9_read_133 : decode cX9_read 133 = .ok (.ifCond .ge 6, 3) := by decide +kernel
theorem dX9_read_136 : decode cX9_read 136 = .ok (.goto 78, 3) := by decide +kernel
theorem dX9_read_139 : decode cX9_read 139 = .ok (.aload_n 0, 1) := by decide +kernel
theorem dX9_read_140 : decode cX9_read 140 = .ok (.getfield 92, 3) := by decide +kernel
theorem dX9_read_143 : decode cX9_read 143 = .ok (.iload_n 3, 1) := by decide +kernel
theorem dX9_read_144 : decode cX9_read 144 = .ok (.aload_n 0, 1) := by decide +kernel
theorem dX9_read_145 : decode cX9_read 145 = .ok (.aload_n 0, 1) := by decide +kernel
theorem dX9_read_146 : decode cX9_read 146 = .ok (.getfield 13, 3) := by decide +kernel
theorem dX9_read_149 : decode cX9_read 149 = .ok (.aload_n 0, 1) := by decide +kernel
theorem dX9_read_150 : decode cX9_read 150 = .ok (.getfield 23, 3) := by decide +kernel
theorem dX9_read_153 : decode cX9_read 153 = .ok (.iload_n 2, 1) := by decide +kernel
theorem dX9_read_154 : decode cX9_read 154 = .ok (.iaload, 1) := by decide +kernel
theorem dX9_read_155 : decode cX9_read 155 = .ok (.iaload, 1) := by decide +kernel
theorem dX9_read_156 : decode cX9_read 156 = .ok (.invokevirtual 224, 3) := by decide +kernel
theorem dX9_read_159 : decode cX9_read 159 = .ok (.iastore, 1) := by decide +kernel
theorem dX9_read_160 : decode cX9_read 160 = .ok (.aload_n 0, 1) := by decide +kernel
theorem dX9_read_161 : decode cX9_read 161 = .ok (.getfield 13, 3) := by decide +kernel
theorem dX9_read_164 : decode cX9_read 164 = .ok (.aload_n 0, 1) := by decide +kernel
theorem dX9_read_165 : decode cX9_read 165 = .ok (.getfield 23, 3) := by decide +kernel
theorem dX9_read_168 : decode cX9_read 168 = .ok (.iload_n 2, 1) := by decide +kernel
theorem dX9_read_169 : decode cX9_read 169 = .ok (.iaload, 1) := by decide +kernel
theorem dX9_read_170 : decode cX9_read 170 = .ok (.iaload, 1) := by decide +kernel
theorem dX9_read_171 : decode cX9_read 171 = .ok (.iconst 1, 1) := by decide +kernel
theorem dX9_read_172 : decode cX9_read 172 = .ok (.isub, 1) := by decide +kernel
theorem dX9_read_173 : decode cX9_read 173 = .ok (.istore 4, 2) := by decide +kernel
theorem dX9_read_175 : decode cX9_read 175 = .ok (.iload 4, 2) := by decide +kernel
theorem dX9_read_177 : decode cX9_read 177 = .ok (.ifCond .lt 37, 3) := by decide +kernel
theorem dX9_read_180 : decode cX9_read 180 = .ok (.aload_n 0, 1) := by decide +kernel
theorem dX9_read_181 : decode cX9_read 181 = .ok (.getfield 41, 3) := by decide +kernel
theorem dX9_read_184 : decode cX9_read 184 = .ok (.aload_n 0, 1) := by decide +kernel
theorem dX9_read_185 : decode cX9_read 185 = .ok (.getfield 142, 3) := by decide +kernel
theorem dX9_read_188 : decode cX9_read 188 = .ok (.aload_n 0, 1) := by decide +kernel
theorem dX9_read_189 : decode cX9_read 189 = .ok (.getfield 92, 3) := by decide +kernel
theorem dX9_read_192 : decode cX9_read 192 = .ok (.iload_n 3, 1) := by decide +kernel
theorem dX9_read_193 : decode cX9_read 193 = .ok (.iaload, 1) := by decide +kernel
theorem dX9_read_194 : decode cX9_read 194 = .ok (.iload 4, 2) := by decide +kernel
theorem dX9_read_196 : decode cX9_read 196 = .ok (.iadd, 1) := by decide +kernel
theorem dX9_read_197 : decode cX9_read 197 = .ok (.iastore, 1) := by decide +kernel
theorem dX9_read_198 : decode cX9_read 198 = .ok (.aload_n 0, 1) := by decide +kernel
theorem dX9_read_199 : decode cX9_read 199 = .ok (.dup, 1) := by decide +kernel
theorem dX9_read_200 : decode cX9_read 200 = .ok (.getfield 142, 3) := by decide +kernel
theorem dX9_read_203 : decode cX9_read 203 = .ok (.iconst 1, 1) := by decide +kernel
theorem dX9_read_204 : decode cX9_read 204 = .ok (.iadd, 1) := by decide +kernel
theorem dX9_read_205 : decode cX9_read 205 = .ok (.putfield 142, 3) := by decide +kernel
theorem dX9_read_208 : decode cX9_read 208 = .ok (.iinc 4 (-1), 3) := by decide +kernel
theorem dX9_read_211 : decode cX9_read 211 = .ok (.goto (-36), 3) := by decide +kernel
theorem dX9_read_214 : decode cX9_read 214 = .ok (.iinc 2 1, 3) := by decide +kernel
theorem dX9_read_217 : decode cX9_read 217 = .ok (.goto (-130), 3) := by decide +kernel
theorem dX9_read_220 : decode cX9_read 220 = .ok (.aload_n 0, 1) := by decide +kernel
theorem dX9_read_221 : decode cX9_read 221 = .ok (.iconst 0, 1) := by decide +kernel
theorem dX9_read_222 : decode cX9_read 222 = .ok (.putfield 139, 3) := by decide +kernel
theorem dX9_read_225 : decode cX9_read 225 = .ok (.return_, 1) := by decide +kernel
theorem dX9_here_0 : decode cX9_here 0 = .ok (.iload_n 1, 1) := by decide +kernel
theorem dX9_here_1 : decode cX9_here 1 = .ok (.istore_n 2, 1) := by decide +kernel
theorem dX9_here_2 : decode cX9_here 2 = .ok (.aload_n 0, 1) := by decide +kernel
theorem dX9_here_3 : decode cX9_here 3 = .ok (.getfield 89, 3) := by decide +kernel
theorem dX9_here_6 : decode cX9_here 6 = .ok (.iload_n 2, 1) := by decide +kernel
theorem dX9_here_7 : decode cX9_here 7 = .ok (.iaload, 1) := by decide +kernel
theorem dX9_here_8 : decode cX9_here 8 = .ok (.ifCond .ge 36, 3) := by decide +kernel
theorem dX9_here_11 : decode cX9_here 11 = .ok (.aload_n 0, 1) := by decide +kernel
theorem dX9_here_12 : decode cX9_here 12 = .ok (.getfield 95, 3) := by decide +kernel
theorem dX9_here_15 : decode cX9_here 15 = .ok (.iconst (-1), 1) := by decide +kernel
theorem dX9_here_16 : decode cX9_here 16 = .ok (.aload_n 0, 1) := by decide +kernel
theorem dX9_here_17 : decode cX9_here 17 = .ok (.getfield 89, 3) := by decide +kernel
theorem dX9_here_20 : decode cX9_here 20 = .ok (.iload_n 2, 1) := by decide +kernel
theorem dX9_here_21 : decode cX9_here 21 = .ok (.iaload, 1) := by decide +kernel
theorem dX9_here_22 : decode cX9_here 22 = .ok (.isub, 1) := by decide +kernel
theorem dX9_here_23 : decode cX9_here 23 = .ok (.iaload, 1) := by decide +kernel
theorem dX9_here_24 : decode cX9_here 24 = .ok (.ifCond .lt 20, 3) := by decide +kernel
theorem dX9_here_27 : decode cX9_here 27 = .ok (.aload_n 0, 1) := by decide +kernel
theorem dX9_here_28 : decode cX9_here 28 = .ok (.getfield 95, 3) := by decide +kernel
theorem dX9_here_31 : decode cX9_here 31 = .ok (.iconst (-1), 1) := by decide +kernel
theorem dX9_here_32 : decode cX9_here 32 = .ok (.aload_n 0, 1) := by decide +kernel
theorem dX9_here_33 : decode cX9_here 33 = .ok (.getfield 89, 3) := by decide +kernel
theorem dX9_here_36 : decode cX9_here 36 = .ok (.iload_n 2, 1) := by decide +kernel
theorem dX9_here_37 : decode cX9_here 37 = .ok (.iaload, 1) := by decide +kernel
theorem dX9_here_38 : decode cX9_here 38 = .ok (.isub, 1) := by decide +kernel
theorem dX9_here_39 : decode cX9_here 39 = .ok (.iaload, 1) := by decide +kernel
theorem dX9_here_40 : decode cX9_here 40 = .ok (.istore_n 2, 1) := by decide +kernel
theorem dX9_here_41 : decode cX9_here 41 = .ok (.goto (-39), 3) := by decide +kernel
theorem dX9_here_44 : decode cX9_here 44 = .ok (.iload_n 2, 1) := by decide +kernel
theorem dX9_here_45 : decode cX9_here 45 = .ok (.ireturn, 1) := by decide +kernel
theorem dX9_lead_0 : decode cX9_lead 0 = .ok (.aload_n 0, 1) := by decide +kernel
theorem dX9_lead_1 : decode cX9_lead 1 = .ok (.iconst 0, 1) := by decide +kernel
theorem dX9_lead_2 : decode cX9_lead 2 = .ok (.putfield 127, 3) := by decide +kernel
theorem dX9_lead_5 : decode cX9_lead 5 = .ok (.aload_n 0, 1) := by decide +kernel
theorem dX9_lead_6 : decode cX9_lead 6 = .ok (.iconst (-1), 1) := by decide +kernel
theorem dX9_lead_7 : decode cX9_lead 7 = .ok (.putfield 101, 3) := by decide +kernel
theorem dX9_lead_10 : decode cX9_lead 10 = .ok (.aload_n 0, 1) := by decide +kernel
theorem dX9_lead_11 : decode cX9_lead 11 = .ok (.getfield 19, 3) := by decide +kernel
theorem dX9_lead_14 : decode cX9_lead 14 = .ok (.iconst (-1), 1) := by decide +kernel
theorem dX9_lead_15 : decode cX9_lead 15 = .ok (.if_icmp .ne 7, 3) := by decide +kernel
theorem dX9_lead_18 : decode cX9_lead 18 = .ok (.iconst (-1), 1) := by decide +kernel
theorem dX9_lead_19 : decode cX9_lead 19 = .ok (.goto 8, 3) := by decide +kernel
theorem dX9_lead_22 : decode cX9_lead 22 = .ok (.aload_n 0, 1) := by decide +kernel
theorem dX9_lead_23 : decode cX9_lead 23 = .ok (.iconst 1, 1) := by decide +kernel
theorem dX9_lead_24 : decode cX9_lead 24 = .ok (.invokevirtual 153, 3) := by decide +kernel
theorem dX9_lead_27 : decode cX9_lead 27 = .ok (.istore_n 1, 1) := by decide +kernel
theorem dX9_lead_28 : decode cX9_lead 28 = .ok (.aload_n 0, 1) := by decide +kernel
theorem dX9_lead_29 : decode cX9_lead 29 = .ok (.getfield 19, 3) := by decide +kernel
theorem dX9_lead_32 : decode cX9_lead 32 = .ok (.iconst (-1), 1) := by decide +kernel
theorem dX9_lead_33 : decode cX9_lead 33 = .ok (.if_icmp .eq 7, 3) := by decide +kernel
theorem dX9_lead_36 : decode cX9_lead 36 = .ok (.iload_n 1, 1) := by decide +kernel
theorem dX9_lead_37 : decode cX9_lead 37 = .ok (.ifCond .lt 25, 3) := by decide +kernel
theorem dX9_lead_40 : decode cX9_lead 40 = .ok (.aload_n 0, 1) := by decide +kernel
theorem dX9_lead_41 : decode cX9_lead 41 = .ok (.iconst 0, 1) := by decide +kernel
theorem dX9_lead_42 : decode cX9_lead 42 = .ok (.putfield 139, 3) := by decide +kernel
theorem dX9_lead_45 : decode cX9_lead 45 = .ok (.aload_n 0, 1) := by decide +kernel
theorem dX9_lead_46 : decode cX9_lead 46 = .ok (.getfield 19, 3) := by decide +kernel
theorem dX9_lead_49 : decode cX9_lead 49 = .ok (.iconst (-1), 1) := by decide +kernel
theorem dX9_lead_50 : decode cX9_lead 50 = .ok (.if_icmp .ne 7, 3) := by decide +kernel
theorem dX9_lead_53 : decode cX9_lead 53 = .ok (.iconst (-1), 1) := by decide +kernel
theorem dX9_lead_54 : decode cX9_lead 54 = .ok (.goto 7, 3) := by decide +kernel
theorem dX9_lead_57 : decode cX9_lead 57 = .ok (.bipush (-2), 2) := by decide +kernel
theorem dX9_lead_59 : decode cX9_lead 59 = .ok (.iload_n 1, 1) := by decide +kernel
theorem dX9_lead_60 : decode cX9_lead 60 = .ok (.isub, 1) := by decide +kernel
theorem dX9_lead_61 : decode cX9_lead 61 = .ok (.ireturn, 1) := by decide +kernel
theorem dX9_lead_62 : decode cX9_lead 62 = .ok (.aload_n 0, 1) := by decide +kernel
theorem dX9_lead_63 : decode cX9_lead 63 = .ok (.invokevirtual 228, 3) := by decide +kernel
theorem dX9_lead_66 : decode cX9_lead 66 = .ok (.aload_n 0, 1) := by decide +kernel
theorem dX9_lead_67 : decode cX9_lead 67 = .ok (.iconst (-1), 1) := by decide +kernel
theorem dX9_lead_68 : decode cX9_lead 68 = .ok (.invokevirtual 231, 3) := by decide +kernel
theorem dX9_lead_71 : decode cX9_lead 71 = .ok (.aload_n 0, 1) := by decide +kernel
theorem dX9_lead_72 : decode cX9_lead 72 = .ok (.aload_n 0, 1) := by decide +kernel
theorem dX9_lead_73 : decode cX9_lead 73 = .ok (.getfield 235, 3) := by decide +kernel
theorem dX9_lead_76 : decode cX9_lead 76 = .ok (.ifCond .ne 13, 3) := by decide +kernel
theorem dX9_lead_79 : decode cX9_lead 79 = .ok (.aload_n 0, 1) := by decide +kernel
theorem dX9_lead_80 : decode cX9_lead 80 = .ok (.getfield 238, 3) := by decide +kernel
theorem dX9_lead_83 : decode cX9_lead 83 = .ok (.sipush 200, 3) := by decide +kernel
theorem dX9_lead_86 : decode cX9_lead 86 = .ok (.if_icmp .le 7, 3) := by decide +kernel
theorem dX9_lead_89 : decode cX9_lead 89 = .ok (.iconst 0, 1) := by decide +kernel
theorem dX9_lead_90 : decode cX9_lead 90 = .ok (.goto 7, 3) := by decide +kernel
theorem dX9_lead_93 : decode cX9_lead 93 = .ok (.aload_n 0, 1) := by decide +kernel
theorem dX9_lead_94 : decode cX9_lead 94 = .ok (.getfield 238, 3) := by decide +kernel
theorem dX9_lead_97 : decode cX9_lead 97 = .ok (.putfield 127, 3) := by decide +kernel
theorem dX9_lead_100 : decode cX9_lead 100 = .ok (.aload_n 0, 1) := by decide +kernel
theorem dX9_lead_101 : decode cX9_lead 101 = .ok (.getfield 235, 3) := by decide +kernel
theorem dX9_lead_104 : decode cX9_lead 104 = .ok (.ifCond .ne 13, 3) := by decide +kernel
theorem dX9_lead_107 : decode cX9_lead 107 = .ok (.aload_n 0, 1) := by decide +kernel
theorem dX9_lead_108 : decode cX9_lead 108 = .ok (.getfield 238, 3) := by decide +kernel
theorem dX9_lead_111 : decode cX9_lead 111 = .ok (.sipush 200, 3) := by decide +kernel
theorem dX9_lead_114 : decode cX9_lead 114 = .ok (.if_icmp .le 9, 3) := by decide +kernel
theorem dX9_lead_117 : decode cX9_lead 117 = .ok (.sipush (-1000), 3) := by decide +kernel
theorem dX9_lead_120 : decode cX9_lead 120 = .ok (.goto 7, 3) := by decide +kernel
theorem dX9_lead_123 : decode cX9_lead 123 = .ok (.aload_n 0, 1) := by decide +kernel
theorem dX9_lead_124 : decode cX9_lead 124 = .ok (.getfield 238, 3) := by decide +kernel
theorem dX9_lead_127 : decode cX9_lead 127 = .ok (.ireturn, 1) := by decide +kernel
theorem dX9_go_0 : decode cX9_go 0 = .ok (.aload_n 0, 1) := by decide +kernel
theorem dX9_go_1 : decode cX9_go 1 = .ok (.iload_n 1, 1) := by decide +kernel
theorem dX9_go_2 : decode cX9_go 2 = .ok (.putfield 101, 3) := by decide +kernel
theorem dX9_go_5 : decode cX9_go 5 = .ok (.aload_n 0, 1) := by decide +kernel
theorem dX9_go_6 : decode cX9_go 6 = .ok (.iconst 0, 1) := by decide +kernel
theorem dX9_go_7 : decode cX9_go 7 = .ok (.putfield 238, 3) := by decide +kernel
theorem dX9_go_10 : decode cX9_go 10 = .ok (.aload_n 0, 1) := by decide +kernel
theorem dX9_go_11 : decode cX9_go 11 = .ok (.iconst 0, 1) := by decide +kernel
theorem dX9_go_12 : decode cX9_go 12 = .ok (.putfield 235, 3) := by decide +kernel
theorem dX9_go_15 : decode cX9_go 15 = .ok (.aload_n 0, 1) := by decide +kernel
theorem dX9_go_16 : decode cX9_go 16 = .ok (.iconst 0, 1) := by decide +kernel
theorem dX9_go_17 : decode cX9_go 17 = .ok (.putfield 241, 3) := by decide +kernel
theorem dX9_go_20 : decode cX9_go 20 = .ok (.aload_n 0, 1) := by decide +kernel
theorem dX9_go_21 : decode cX9_go 21 = .ok (.iconst 0, 1) := by decide +kernel
theorem dX9_go_22 : decode cX9_go 22 = .ok (.putfield 244, 3) := by decide +kernel
theorem dX9_go_25 : decode cX9_go 25 = .ok (.aload_n 0, 1) := by decide +kernel
theorem dX9_go_26 : decode cX9_go 26 = .ok (.invokevirtual 185, 3) := by decide +kernel
theorem dX9_go_29 : decode cX9_go 29 = .ok (.iconst 0, 1) := by decide +kernel
theorem dX9_go_30 : decode cX9_go 30 = .ok (.istore_n 2, 1) := by decide +kernel
theorem dX9_go_31 : decode cX9_go 31 = .ok (.iload_n 2, 1) := by decide +kernel
theorem dX9_go_32 : decode cX9_go 32 = .ok (.aload_n 0, 1) := by decide +kernel
theorem dX9_go_33 : decode cX9_go 33 = .ok (.getfield 19, 3) := by decide +kernel
theorem dX9_go_36 : decode cX9_go 36 = .ok (.if_icmp .ge 16, 3) := by decide +kernel
theorem dX9_go_39 : decode cX9_go 39 = .ok (.aload_n 0, 1) := by decide +kernel
theorem dX9_go_40 : decode cX9_go 40 = .ok (.getfield 98, 3) := by decide +kernel
theorem dX9_go_43 : decode cX9_go 43 = .ok (.iload_n 2, 1) := by decide +kernel
theorem dX9_go_44 : decode cX9_go 44 = .ok (.iload_n 2, 1) := by decide +kernel
theorem dX9_go_45 : decode cX9_go 45 = .ok (.iastore, 1) := by decide +kernel
theorem dX9_go_46 : decode cX9_go 46 = .ok (.iinc 2 1, 3) := by decide +kernel
theorem dX9_go_49 : decode cX9_go 49 = .ok (.goto (-18), 3) := by decide +kernel
theorem dX9_go_52 : decode cX9_go 52 = .ok (.aload_n 0, 1) := by decide +kernel
theorem dX9_go_53 : decode cX9_go 53 = .ok (.getfield 133, 3) := by decide +kernel
theorem dX9_go_56 : decode cX9_go 56 = .ok (.ifCond .le 12, 3) := by decide +kernel
theorem dX9_go_59 : decode cX9_go 59 = .ok (.aload_n 0, 1) := by decide +kernel
theorem dX9_go_60 : decode cX9_go 60 = .ok (.iconst 0, 1) := by decide +kernel
theorem dX9_go_61 : decode cX9_go 61 = .ok (.aload_n 0, 1) := by decide +kernel
theorem dX9_go_62 : decode cX9_go 62 = .ok (.getfield 133, 3) := by decide +kernel
theorem dX9_go_65 : decode cX9_go 65 = .ok (.invokestatic 247, 3) := by decide +kernel
theorem dX9_go_68 : decode cX9_go 68 = .ok (.return_, 1) := by decide +kernel
theorem dX9_led_0 : decode cX9_led 0 = .ok (.aload_n 0, 1) := by decide +kernel
theorem dX9_led_1 : decode cX9_led 1 = .ok (.iload_n 1, 1) := by decide +kernel
theorem dX9_led_2 : decode cX9_led 2 = .ok (.iload_n 2, 1) := by decide +kernel
theorem dX9_led_3 : decode cX9_led 3 = .ok (.invokevirtual 197, 3) := by decide +kernel
theorem dX9_led_6 : decode cX9_led 6 = .ok (.istore_n 3, 1) := by decide +kernel
theorem dX9_led_7 : decode cX9_led 7 = .ok (.aload_n 0, 1) := by decide +kernel
theorem dX9_led_8 : decode cX9_led 8 = .ok (.getfield 160, 3) := by decide +kernel
theorem dX9_led_11 : decode cX9_led 11 = .ok (.istore 4, 2) := by decide +kernel
theorem dX9_led_13 : decode cX9_led 13 = .ok (.iload_n 3, 1) := by decide +kernel
theorem dX9_led_14 : decode cX9_led 14 = .ok (.iconst (-1), 1) := by decide +kernel
theorem dX9_led_15 : decode cX9_led 15 = .ok (.if_icmp .ne 32, 3) := by decide +kernel
theorem dX9_led_18 : decode cX9_led 18 = .ok (.iload_n 1, 1) := by decide +kernel
theorem dX9_led_19 : decode cX9_led 19 = .ok (.istore 5, 2) := by decide +kernel
theorem dX9_led_21 : decode cX9_led 21 = .ok (.iload 5, 2) := by decide +kernel
theorem dX9_led_23 : decode cX9_led 23 = .ok (.iload_n 1, 1) := by decide +kernel
theorem dX9_led_24 : decode cX9_led 24 = .ok (.iload_n 2, 1) := by decide +kernel
theorem dX9_led_25 : decode cX9_led 25 = .ok (.iadd, 1) := by decide +kernel
theorem dX9_led_26 : decode cX9_led 26 = .ok (.if_icmp .ge 20, 3) := by decide +kernel
theorem dX9_led_29 : decode cX9_led 29 = .ok (.aload_n 0, 1) := by decide +kernel
theorem dX9_led_30 : decode cX9_led 30 = .ok (.aload_n 0, 1) := by decide +kernel
theorem dX9_led_31 : decode cX9_led 31 = .ok (.getfield 62, 3) := by decide +kernel
theorem dX9_led_34 : decode cX9_led 34 = .ok (.iload 5, 2) := by decide +kernel
theorem dX9_led_36 : decode cX9_led 36 = .ok (.iaload, 1) := by decide +kernel
theorem dX9_led_37 : decode cX9_led 37 = .ok (.invokevirtual 251, 3) := by decide +kernel
theorem dX9_led_40 : decode cX9_led 40 = .ok (.iinc 5 1, 3) := by decide +kernel
theorem dX9_led_43 : decode cX9_led 43 = .ok (.goto (-22), 3) := by decide +kernel
theorem dX9_led_46 : decode cX9_led 46 = .ok (.return_, 1) := by decide +kernel
theorem dX9_led_47 : decode cX9_led 47 = .ok (.iload_n 3, 1) := by decide +kernel
theorem dX9_led_48 : decode cX9_led 48 = .ok (.sipush 170, 3) := by decide +kernel
theorem dX9_led_51 : decode cX9_led 51 = .ok (.if_icmp .lt 56, 3) := by decide +kernel
theorem dX9_led_54 : decode cX9_led 54 = .ok (.iconst 0, 1) := by decide +kernel
theorem dX9_led_55 : decode cX9_led 55 = .ok (.istore 5, 2) := by decide +kernel
theorem dX9_led_57 : decode cX9_led 57 = .ok (.iload 5, 2) := by decide +kernel
theorem dX9_led_59 : decode cX9_led 59 = .ok (.iload_n 2, 1) := by decide +kernel
theorem dX9_led_60 : decode cX9_led 60 = .ok (.if_icmp .ge 46, 3) := by decide +kernel
theorem dX9_led_63 : decode cX9_led 63 = .ok (.aload_n 0, 1) := by decide +kernel
theorem dX9_led_64 : decode cX9_led 64 = .ok (.iload_n 1, 1) := by decide +kernel
theorem dX9_led_65 : decode cX9_led 65 = .ok (.iload 5, 2) := by decide +kernel
theorem dX9_led_67 : decode cX9_led 67 = .ok (.iadd, 1) := by decide +kernel
theorem dX9_led_68 : decode cX9_led 68 = .ok (.iload_n 2, 1) := by decide +kernel
theorem dX9_led_69 : decode cX9_led 69 = .ok (.iload 5, 2) := by decide +kernel
theorem dX9_led_71 : decode cX9_led 71 = .ok (.isub, 1) := by decide +kernel
theorem dX9_led_72 : decode cX9_led 72 = .ok (.iload_n 3, 1) := by decide +kernel
theorem dX9_led_73 : decode cX9_led 73 = .ok (.sipush 170, 3) := by decide +kernel
theorem dX9_led_76 : decode cX9_led 76 = .ok (.isub, 1) := by decide +kernel
theorem dX9_led_77 : decode cX9_led 77 = .ok (.invokevirtual 214, 3) := by decide +kernel
theorem dX9_led_80 : decode cX9_led 80 = .ok (.istore 6, 2) := by decide +kernel
theorem dX9_led_82 : decode cX9_led 82 = .ok (.aload_n 0, 1) := by decide +kernel
theorem dX9_led_83 : decode cX9_led 83 = .ok (.iload 4, 2) := by decide +kernel
theorem dX9_led_85 : decode cX9_led 85 = .ok (.iload 6, 2) := by decide +kernel
theorem dX9_led_87 : decode cX9_led 87 = .ok (.invokestatic 247, 3) := by decide +kernel
theorem dX9_led_90 : decode cX9_led 90 = .ok (.aload_n 0, 1) := by decide +kernel
theorem dX9_led_91 : decode cX9_led 91 = .ok (.iload 4, 2) := by decide +kernel
theorem dX9_led_93 : decode cX9_led 93 = .ok (.putfield 160, 3) := by decide +kernel
theorem dX9_led_96 : decode cX9_led 96 = .ok (.iload 5, 2) := by decide +kernel
theorem dX9_led_98 : decode cX9_led 98 = .ok (.iload 6, 2) := by decide +kernel
theorem dX9_led_100 : decode cX9_led 100 = .ok (.iadd, 1) := by decide +kernel
theorem dX9_led_101 : decode cX9_led 101 = .ok (.istore 5, 2) := by decide +kernel
theorem dX9_led_103 : decode cX9_led 103 = .ok (.goto (-46), 3) := by decide +kernel
theorem dX9_led_106 : decode cX9_led 106 = .ok (.return_, 1) := by decide +kernel
theorem dX9_led_107 : decode cX9_led 107 = .ok (.aload_n 0, 1) := by decide +kernel
theorem dX9_led_108 : decode cX9_led 108 = .ok (.aload_n 0, 1) := by decide +kernel
theorem dX9_led_109 : decode cX9_led 109 = .ok (.getfield 98, 3) := by decide +kernel
theorem dX9_led_112 : decode cX9_led 112 = .ok (.iload_n 3, 1) := by decide +kernel
theorem dX9_led_113 : decode cX9_led 113 = .ok (.iaload, 1) := by decide +kernel
theorem dX9_led_114 : decode cX9_led 114 = .ok (.invokevirtual 254, 3) := by decide +kernel
theorem dX9_led_117 : decode cX9_led 117 = .ok (.istore 5, 2) := by decide +kernel
theorem dX9_led_119 : decode cX9_led 119 = .ok (.aload_n 0, 1) := by decide +kernel
theorem dX9_led_120 : decode cX9_led 120 = .ok (.getfield 89, 3) := by decide +kernel
theorem dX9_led_123 : decode cX9_led 123 = .ok (.iload 5, 2) := by decide +kernel
theorem dX9_led_125 : decode cX9_led 125 = .ok (.iaload, 1) := by decide +kernel
theorem dX9_led_126 : decode cX9_led 126 = .ok (.ifCond .ge 7, 3) := by decide +kernel
theorem dX9_led_129 : decode cX9_led 129 = .ok (.iconst 1, 1) := by decide +kernel
theorem dX9_led_130 : decode cX9_led 130 = .ok (.goto 4, 3) := by decide +kernel
theorem dX9_led_133 : decode cX9_led 133 = .ok (.iconst 0, 1) := by decide +kernel
theorem dX9_led_134 : decode cX9_led 134 = .ok (.istore 6, 2) := by decide +kernel
theorem dX9_led_136 : decode cX9_led 136 = .ok (.aload_n 0, 1) := by decide +kernel
theorem dX9_led_137 : decode cX9_led 137 = .ok (.dup, 1) := by decide +kernel
theorem dX9_led_138 : decode cX9_led 138 = .ok (.getfield 241, 3) := by decide +kernel
theorem dX9_led_141 : decode cX9_led 141 = .ok (.iconst 1, 1) := by decide +kernel
theorem dX9_led_142 : decode cX9_led 142 = .ok (.iadd, 1) := by decide +kernel
theorem dX9_led_143 : decode cX9_led 143 = .ok (.putfield 241, 3) := by decide +kernel
theorem dX9_led_146 : decode cX9_led 146 = .ok (.aload_n 0, 1) := by decide +kernel
theorem dX9_led_147 : decode cX9_led 147 = .ok (.dup, 1) := by decide +kernel
theorem dX9_led_148 : decode cX9_led 148 = .ok (.getfield 244, 3) := by decide +kernel
theorem dX9_led_151 : decode cX9_led 151 = .ok (.iload 6, 2) := by decide +kernel
theorem dX9_led_153 : decode cX9_led 153 = .ok (.ifCond .eq 7, 3) := by decide +kernel
theorem dX9_led_156 : decode cX9_led 156 = .ok (.iconst 1, 1) := by decide +kernel
theorem dX9_led_157 : decode cX9_led 157 = .ok (.goto 4, 3) := by decide +kernel
theorem dX9_led_160 : decode cX9_led 160 = .ok (.iconst 0, 1) := by decide +kernel
theorem dX9_led_161 : decode cX9_led 161 = .ok (.iadd, 1) := by decide +kernel
theorem dX9_led_162 : decode cX9_led 162 = .ok (.putfield 244, 3) := by decide +kernel
theorem dX9_led_165 : decode cX9_led 165 = .ok (.iload 6, 2) := by decide +kernel
theorem dX9_led_167 : decode cX9_led 167 = .ok (.ifCond .eq 7, 3) := by decide +kernel
theorem dX9_led_170 : decode cX9_led 170 = .ok (.iconst 0, 1) := by decide +kernel
theorem dX9_led_171 : decode cX9_led 171 = .ok (.goto 10, 3) := by decide +kernel
theorem dX9_led_174 : decode cX9_led 174 = .ok (.aload_n 0, 1) := by decide +kernel
theorem dX9_led_175 : decode cX9_led 175 = .ok (.getfield 89, 3) := by decide +kernel
theorem dX9_led_178 : decode cX9_led 178 = .ok (.iload 5, 2) := by decide +kernel
theorem dX9_led_180 : decode cX9_led 180 = .ok (.iaload, 1) := by decide +kernel
theorem dX9_led_181 : decode cX9_led 181 = .ok (.istore 7, 2) := by decide +kernel
theorem dX9_led_183 : decode cX9_led 183 = .ok (.iload 7, 2) := by decide +kernel
theorem dX9_led_185 : decode cX9_led 185 = .ok (.iload 6, 2) := by decide +kernel
theorem dX9_led_187 : decode cX9_led 187 = .ok (.ifCond .eq 10, 3) := by decide +kernel
theorem dX9_led_190 : decode cX9_led 190 = .ok (.aload_n 0, 1) := by decide +kernel
theorem dX9_led_191 : decode cX9_led 191 = .ok (.getfield 124, 3) := by decide +kernel
theorem dX9_led_194 : decode cX9_led 194 = .ok (.goto 12, 3) := by decide +kernel
theorem dX9_led_197 : decode cX9_led 197 = .ok (.aload_n 0, 1) := by decide +kernel
theorem dX9_led_198 : decode cX9_led 198 = .ok (.getfield 89, 3) := by decide +kernel
theorem dX9_led_201 : decode cX9_led 201 = .ok (.iload 5, 2) := by decide +kernel
theorem dX9_led_203 : decode cX9_led 203 = .ok (.iaload, 1) := by decide +kernel
theorem dX9_led_204 : decode cX9_led 204 = .ok (.iconst 1, 1) := by decide +kernel
theorem dX9_led_205 : decode cX9_led 205 = .ok (.iadd, 1) := by decide +kernel
theorem dX9_led_206 : decode cX9_led 206 = .ok (.if_icmp .ge 198, 3) := by decide +kernel
theorem dX9_led_209 : decode cX9_led 209 = .ok (.aload_n 0, 1) := by decide +kernel
theorem dX9_led_210 : decode cX9_led 210 = .ok (.iload_n 1, 1) := by decide +kernel
theorem dX9_led_211 : decode cX9_led 211 = .ok (.iload_n 2, 1) := by decide +kernel
theorem dX9_led_212 : decode cX9_led 212 = .ok (.iload_n 3, 1) := by decide +kernel
theorem dX9_led_213 : decode cX9_led 213 = .ok (.iload 7, 2) := by decide +kernel
theorem dX9_led_215 : decode cX9_led 215 = .ok (.invokevirtual 204, 3) := by decide +kernel
theorem dX9_led_218 : decode cX9_led 218 = .ok (.istore 8, 2) := by decide +kernel
theorem dX9_led_220 : decode cX9_led 220 = .ok (.iload 8, 2) := by decide +kernel
theorem dX9_led_222 : decode cX9_led 222 = .ok (.ifCond .ne 6, 3) := by decide +kernel
theorem dX9_led_225 : decode cX9_led 225 = .ok (.goto 173, 3) := by decide +kernel
theorem dX9_led_228 : decode cX9_led 228 = .ok (.aload_n 0, 1) := by decide +kernel
theorem dX9_led_229 : decode cX9_led 229 = .ok (.getfield 218, 3) := by decide +kernel
theorem dX9_led_232 : decode cX9_led 232 = .ok (.istore 9, 2) := by decide +kernel
theorem dX9_led_234 : decode cX9_led 234 = .ok (.aload_n 0, 1) := by decide +kernel
theorem dX9_led_235 : decode cX9_led 235 = .ok (.getfield 221, 3) := by decide +kernel
theorem dX9_led_238 : decode cX9_led 238 = .ok (.istore 10, 2) := by decide +kernel
theorem dX9_led_240 : decode cX9_led 240 = .ok (.iload 6, 2) := by decide +kernel
theorem dX9_led_242 : decode cX9_led 242 = .ok (.ifCond .eq 12, 3) := by decide +kernel
theorem dX9_led_245 : decode cX9_led 245 = .ok (.aload_n 0, 1) := by decide +kernel
theorem dX9_led_246 : decode cX9_led 246 = .ok (.iload 7, 2) := by decide +kernel
theorem dX9_led_248 : decode cX9_led 248 = .ok (.invokevirtual 257, 3) := by decide +kernel
theorem dX9_led_251 : decode cX9_led 251 = .ok (.goto 5, 3) := by decide +kernel
theorem dX9_led_254 : decode cX9_led 254 = .ok (.iload 5, 2) := by decide +kernel
theorem dX9_led_256 : decode cX9_led 256 = .ok (.istore 11, 2) := by decide +kernel
theorem dX9_led_258 : decode cX9_led 258 = .ok (.iload 6, 2) := by decide +kernel
theorem dX9_led_260 : decode cX9_led 260 = .ok (.ifCond .eq 19, 3) := by decide +kernel
theorem dX9_led_263 : decode cX9_led 263 = .ok (.aload_n 0, 1) := by decide +kernel
theorem dX9_led_264 : decode cX9_led 264 = .ok (.getfield 95, 3) := by decide +kernel
theorem dX9_led_267 : decode cX9_led 267 = .ok (.iconst (-1), 1) := by decide +kernel
theorem dX9_led_268 : decode cX9_led 268 = .ok (.aload_n 0, 1) := by decide +kernel
theorem dX9_led_269 : decode cX9_led 269 = .ok (.getfield 89, 3) := by decide +kernel
theorem dX9_led_272 : decode cX9_led 272 = .ok (.iload 5, 2) := by decide +kernel
theorem dX9_led_274 : decode cX9_led 274 = .ok (.iaload, 1) := by decide +kernel
theorem dX9_led_275 : decode cX9_led 275 = .ok (.isub, 1) := by decide +kernel
theorem dX9_led_276 : decode cX9_led 276 = .ok (.iload 11, 2) := by decide +kernel
theorem dX9_led_278 : decode cX9_led 278 = .ok (.iastore, 1) := by decide +kernel
theorem dX9_led_279 : decode cX9_led 279 = .ok (.aload_n 0, 1) := by decide +kernel
theorem dX9_led_280 : decode cX9_led 280 = .ok (.getfield 98, 3) := by decide +kernel
theorem dX9_led_283 : decode cX9_led 283 = .ok (.iload_n 3, 1) := by decide +kernel
theorem dX9_led_284 : decode cX9_led 284 = .ok (.iaload, 1) := by decide +kernel
theorem dX9_led_285 : decode cX9_led 285 = .ok (.istore 12, 2) := by decide +kernel
theorem dX9_led_287 : decode cX9_led 287 = .ok (.aload_n 0, 1) := by decide +kernel
theorem dX9_led_288 : decode cX9_led 288 = .ok (.iload 4, 2) := by decide +kernel
theorem dX9_led_290 : decode cX9_led 290 = .ok (.iload 8, 2) := by decide +kernel
theorem dX9_led_292 : decode cX9_led 292 = .ok (.iload_n 3, 1) := by decide +kernel
theorem dX9_led_293 : decode cX9_led 293 = .ok (.aload_n 0, 1) := by decide +kernel
theorem dX9_led_294 : decode cX9_led 294 = .ok (.getfield 13, 3) := by decide +kernel
theorem dX9_led_297 : decode cX9_led 297 = .ok (.iload 7, 2) := by decide +kernel
theorem dX9_led_299 : decode cX9_led 299 = .ok (.iaload, 1) := by decide +kernel
theorem dX9_led_300 : decode cX9_led 300 = .ok (.invokevirtual 207, 3) := by decide +kernel
theorem dX9_led_303 : decode cX9_led 303 = .ok (.aload_n 0, 1) := by decide +kernel
theorem dX9_led_304 : decode cX9_led 304 = .ok (.iload_n 3, 1) := by decide +kernel
theorem dX9_led_305 : decode cX9_led 305 = .ok (.aload_n 0, 1) := by decide +kernel
theorem dX9_led_306 : decode cX9_led 306 = .ok (.getfield 13, 3) := by decide +kernel
theorem dX9_led_309 : decode cX9_led 309 = .ok (.iload 7, 2) := by decide +kernel
theorem dX9_led_311 : decode cX9_led 311 = .ok (.iaload, 1) := by decide +kernel
theorem dX9_led_312 : decode cX9_led 312 = .ok (.aload_n 0, 1) := by decide +kernel
theorem dX9_led_313 : decode cX9_led 313 = .ok (.getfield 92, 3) := by decide +kernel
theorem dX9_led_316 : decode cX9_led 316 = .ok (.iload 11, 2) := by decide +kernel
theorem dX9_led_318 : decode cX9_led 318 = .ok (.iaload, 1) := by decide +kernel
theorem dX9_led_319 : decode cX9_led 319 = .ok (.invokevirtual 260, 3) := by decide +kernel
theorem dX9_led_322 : decode cX9_led 322 = .ok (.aload_n 0, 1) := by decide +kernel
theorem dX9_led_323 : decode cX9_led 323 = .ok (.iload 4, 2) := by decide +kernel
theorem dX9_led_325 : decode cX9_led 325 = .ok (.iload 8, 2) := by decide +kernel
theorem dX9_led_327 : decode cX9_led 327 = .ok (.invokestatic 247, 3) := by decide +kernel
theorem dX9_led_330 : decode cX9_led 330 = .ok (.aload_n 0, 1) := by decide +kernel
theorem dX9_led_331 : decode cX9_led 331 = .ok (.iload 4, 2) := by decide +kernel
theorem dX9_led_333 : decode cX9_led 333 = .ok (.iload 8, 2) := by decide +kernel
theorem dX9_led_335 : decode cX9_led 335 = .ok (.iload_n 3, 1) := by decide +kernel
theorem dX9_led_336 : decode cX9_led 336 = .ok (.aload_n 0, 1) := by decide +kernel
theorem dX9_led_337 : decode cX9_led 337 = .ok (.getfield 13, 3) := by decide +kernel
theorem dX9_led_340 : decode cX9_led 340 = .ok (.iload 7, 2) := by decide +kernel
theorem dX9_led_342 : decode cX9_led 342 = .ok (.iaload, 1) := by decide +kernel
theorem dX9_led_343 : decode cX9_led 343 = .ok (.invokevirtual 211, 3) := by decide +kernel
theorem dX9_led_346 : decode cX9_led 346 = .ok (.aload_n 0, 1) := by decide +kernel
theorem dX9_led_347 : decode cX9_led 347 = .ok (.iload_n 3, 1) := by decide +kernel
theorem dX9_led_348 : decode cX9_led 348 = .ok (.aload_n 0, 1) := by decide +kernel
theorem dX9_led_349 : decode cX9_led 349 = .ok (.getfield 13, 3) := by decide +kernel
theorem dX9_led_352 : decode cX9_led 352 = .ok (.iload 7, 2) := by decide +kernel
theorem dX9_led_354 : decode cX9_led 354 = .ok (.iaload, 1) := by decide +kernel
theorem dX9_led_355 : decode cX9_led 355 = .ok (.iload 12, 2) := by decide +kernel
theorem dX9_led_357 : decode cX9_led 357 = .ok (.invokevirtual 263, 3) := by decide +kernel
theorem dX9_led_360 : decode cX9_led 360 = .ok (.aload_n 0, 1) := by decide +kernel
theorem dX9_led_361 : decode cX9_led 361 = .ok (.iload 4, 2) := by decide +kernel
theorem dX9_led_363 : decode cX9_led 363 = .ok (.putfield 160, 3) := by decide +kernel
theorem dX9_led_366 : decode cX9_led 366 = .ok (.iload 6, 2) := by decide +kernel
theorem dX9_led_368 : decode cX9_led 368 = .ok (.ifCond .eq 18, 3) := by decide +kernel
theorem dX9_led_371 : decode cX9_led 371 = .ok (.aload_n 0, 1) := by decide +kernel
theorem dX9_led_372 : decode cX9_led 372 = .ok (.getfield 95, 3) := by decide +kernel
theorem dX9_led_375 : decode cX9_led 375 = .ok (.iconst (-1), 1) := by decide +kernel
theorem dX9_led_376 : decode cX9_led 376 = .ok (.aload_n 0, 1) := by decide +kernel
theorem dX9_led_377 : decode cX9_led 377 = .ok (.getfield 89, 3) := by decide +kernel
theorem dX9_led_380 : decode cX9_led 380 = .ok (.iload 5, 2) := by decide +kernel
theorem dX9_led_382 : decode cX9_led 382 = .ok (.iaload, 1) := by decide +kernel
theorem dX9_led_383 : decode cX9_led 383 = .ok (.isub, 1) := by decide +kernel
theorem dX9_led_384 : decode cX9_led 384 = .ok (.iconst (-1), 1) := by decide +kernel
theorem dX9_led_385 : decode cX9_led 385 = .ok (.iastore, 1) := by decide +kernel
theorem dX9_led_386 : decode cX9_led 386 = .ok (.aload_n 0, 1) := by decide +kernel
theorem dX9_led_387 : decode cX9_led 387 = .ok (.iload 9, 2) := by decide +kernel
theorem dX9_led_389 : decode cX9_led 389 = .ok (.putfield 218, 3) := by decide +kernel
theorem dX9_led_392 : decode cX9_led 392 = .ok (.aload_n 0, 1) := by decide +kernel
theorem dX9_led_393 : decode cX9_led 393 = .ok (.iload 10, 2) := by decide +kernel
theorem dX9_led_395 : decode cX9_led 395 = .ok (.putfield 221, 3) := by decide +kernel
theorem dX9_led_398 : decode cX9_led 398 = .ok (.iinc 7 1, 3) := by decide +kernel
theorem dX9_led_401 : decode cX9_led 401 = .ok (.goto (-218), 3) := by decide +kernel
theorem dX9_led_404 : decode cX9_led 404 = .ok (.aload_n 0, 1) := by decide +kernel
theorem dX9_led_405 : decode cX9_led 405 = .ok (.dup, 1) := by decide +kernel
theorem dX9_led_406 : decode cX9_led 406 = .ok (.getfield 241, 3) := by decide +kernel
theorem dX9_led_409 : decode cX9_led 409 = .ok (.iconst 1, 1) := by decide +kernel
theorem dX9_led_410 : decode cX9_led 410 = .ok (.isub, 1) := by decide +kernel
theorem dX9_led_411 : decode cX9_led 411 = .ok (.putfield 241, 3) := by decide +kernel
theorem dX9_led_414 : decode cX9_led 414 = .ok (.aload_n 0, 1) := by decide +kernel
theorem dX9_led_415 : decode cX9_led 415 = .ok (.dup, 1) := by decide +kernel
theorem dX9_led_416 : decode cX9_led 416 = .ok (.getfield 244, 3) := by decide +kernel
theorem dX9_led_419 : decode cX9_led 419 = .ok (.iload 6, 2) := by decide +kernel
theorem dX9_led_421 : decode cX9_led 421 = .ok (.ifCond .eq 7, 3) := by decide +kernel
theorem dX9_led_424 : decode cX9_led 424 = .ok (.iconst 1, 1) := by decide +kernel
theorem dX9_led_425 : decode cX9_led 425 = .ok (.goto 4, 3) := by decide +kernel
theorem dX9_led_428 : decode cX9_led 428 = .ok (.iconst 0, 1) := by decide +kernel
theorem dX9_led_429 : decode cX9_led 429 = .ok (.isub, 1) := by decide +kernel
theorem dX9_led_430 : decode cX9_led 430 = .ok (.putfield 244, 3) := by decide +kernel
theorem dX9_led_433 : decode cX9_led 433 = .ok (.return_, 1) := by decide +kernel
theorem dX9_grown_0 : decode cX9_grown 0 = .ok (.aload_n 0, 1) := by decide +kernel
theorem dX9_grown_1 : decode cX9_grown 1 = .ok (.iconst 1, 1) := by decide +kernel
theorem dX9_grown_2 : decode cX9_grown 2 = .ok (.invokevirtual 224, 3) := by decide +kernel
theorem dX9_grown_5 : decode cX9_grown 5 = .ok (.istore_n 2, 1) := by decide +kernel
theorem dX9_grown_6 : decode cX9_grown 6 = .ok (.aload_n 0, 1) := by decide +kernel
theorem dX9_grown_7 : decode cX9_grown 7 = .ok (.getfield 89, 3) := by decide +kernel
theorem dX9_grown_10 : decode cX9_grown 10 = .ok (.iload_n 2, 1) := by decide +kernel
theorem dX9_grown_11 : decode cX9_grown 11 = .ok (.iload_n 1, 1) := by decide +kernel
theorem dX9_grown_12 : decode cX9_grown 12 = .ok (.iastore, 1) := by decide +kernel
theorem dX9_grown_13 : decode cX9_grown 13 = .ok (.aload_n 0, 1) := by decide +kernel
theorem dX9_grown_14 : decode cX9_grown 14 = .ok (.getfield 92, 3) := by decide +kernel
theorem dX9_grown_17 : decode cX9_grown 17 = .ok (.iload_n 2, 1) := by decide +kernel
theorem dX9_grown_18 : decode cX9_grown 18 = .ok (.aload_n 0, 1) := by decide +kernel
theorem dX9_grown_19 : decode cX9_grown 19 = .ok (.aload_n 0, 1) := by decide +kernel
theorem dX9_grown_20 : decode cX9_grown 20 = .ok (.getfield 13, 3) := by decide +kernel
theorem dX9_grown_23 : decode cX9_grown 23 = .ok (.iload_n 1, 1) := by decide +kernel
theorem dX9_grown_24 : decode cX9_grown 24 = .ok (.iaload, 1) := by decide +kernel
theorem dX9_grown_25 : decode cX9_grown 25 = .ok (.invokevirtual 224, 3) := by decide +kernel
theorem dX9_grown_28 : decode cX9_grown 28 = .ok (.iastore, 1) := by decide +kernel
theorem dX9_grown_29 : decode cX9_grown 29 = .ok (.iconst 0, 1) := by decide +kernel
theorem dX9_grown_30 : decode cX9_grown 30 = .ok (.istore_n 3, 1) := by decide +kernel
theorem dX9_grown_31 : decode cX9_grown 31 = .ok (.iload_n 3, 1) := by decide +kernel
theorem dX9_grown_32 : decode cX9_grown 32 = .ok (.aload_n 0, 1) := by decide +kernel
theorem dX9_grown_33 : decode cX9_grown 33 = .ok (.getfield 13, 3) := by decide +kernel
theorem dX9_grown_36 : decode cX9_grown 36 = .ok (.iload_n 1, 1) := by decide +kernel
theorem dX9_grown_37 : decode cX9_grown 37 = .ok (.iaload, 1) := by decide +kernel
theorem dX9_grown_38 : decode cX9_grown 38 = .ok (.if_icmp .ge 48, 3) := by decide +kernel
theorem dX9_grown_41 : decode cX9_grown 41 = .ok (.aload_n 0, 1) := by decide +kernel
theorem dX9_grown_42 : decode cX9_grown 42 = .ok (.getfield 95, 3) := by decide +kernel
theorem dX9_grown_45 : decode cX9_grown 45 = .ok (.aload_n 0, 1) := by decide +kernel
theorem dX9_grown_46 : decode cX9_grown 46 = .ok (.getfield 221, 3) := by decide +kernel
theorem dX9_grown_49 : decode cX9_grown 49 = .ok (.iconst (-1), 1) := by decide +kernel
theorem dX9_grown_50 : decode cX9_grown 50 = .ok (.iastore, 1) := by decide +kernel
theorem dX9_grown_51 : decode cX9_grown 51 = .ok (.aload_n 0, 1) := by decide +kernel
theorem dX9_grown_52 : decode cX9_grown 52 = .ok (.getfield 89, 3) := by decide +kernel
theorem dX9_grown_55 : decode cX9_grown 55 = .ok (.aload_n 0, 1) := by decide +kernel
theorem dX9_grown_56 : decode cX9_grown 56 = .ok (.getfield 92, 3) := by decide +kernel
theorem dX9_grown_59 : decode cX9_grown 59 = .ok (.iload_n 2, 1) := by decide +kernel
theorem dX9_grown_60 : decode cX9_grown 60 = .ok (.iaload, 1) := by decide +kernel
theorem dX9_grown_61 : decode cX9_grown 61 = .ok (.iload_n 3, 1) := by decide +kernel
theorem dX9_grown_62 : decode cX9_grown 62 = .ok (.iadd, 1) := by decide +kernel
theorem dX9_grown_63 : decode cX9_grown 63 = .ok (.iconst (-1), 1) := by decide +kernel
theorem dX9_grown_64 : decode cX9_grown 64 = .ok (.aload_n 0, 1) := by decide +kernel
theorem dX9_grown_65 : decode cX9_grown 65 = .ok (.getfield 221, 3) := by decide +kernel
theorem dX9_grown_68 : decode cX9_grown 68 = .ok (.isub, 1) := by decide +kernel
theorem dX9_grown_69 : decode cX9_grown 69 = .ok (.iastore, 1) := by decide +kernel
theorem dX9_grown_70 : decode cX9_grown 70 = .ok (.aload_n 0, 1) := by decide +kernel
theorem dX9_grown_71 : decode cX9_grown 71 = .ok (.dup, 1) := by decide +kernel
theorem dX9_grown_72 : decode cX9_grown 72 = .ok (.getfield 221, 3) := by decide +kernel
theorem dX9_grown_75 : decode cX9_grown 75 = .ok (.iconst 1, 1) := by decide +kernel
theorem dX9_grown_76 : decode cX9_grown 76 = .ok (.iadd, 1) := by decide +kernel
theorem dX9_grown_77 : decode cX9_grown 77 = .ok (.putfield 221, 3) := by decide +kernel
theorem dX9_grown_80 : decode cX9_grown 80 = .ok (.iinc 3 1, 3) := by decide +kernel
theorem dX9_grown_83 : decode cX9_grown 83 = .ok (.goto (-52), 3) := by decide +kernel
theorem dX9_grown_86 : decode cX9_grown 86 = .ok (.iload_n 2, 1) := by decide +kernel
theorem dX9_grown_87 : decode cX9_grown 87 = .ok (.ireturn, 1) := by decide +kernel
theorem dX9_shift_0 : decode cX9_shift 0 = .ok (.aload_n 0, 1) := by decide +kernel
theorem dX9_shift_1 : decode cX9_shift 1 = .ok (.getfield 157, 3) := by decide +kernel
theorem dX9_shift_4 : decode cX9_shift 4 = .ok (.iload_n 2, 1) := by decide +kernel
theorem dX9_shift_5 : decode cX9_shift 5 = .ok (.isub, 1) := by decide +kernel
theorem dX9_shift_6 : decode cX9_shift 6 = .ok (.iconst 1, 1) := by decide +kernel
theorem dX9_shift_7 : decode cX9_shift 7 = .ok (.iadd, 1) := by decide +kernel
theorem dX9_shift_8 : decode cX9_shift 8 = .ok (.istore 4, 2) := by decide +kernel
theorem dX9_shift_10 : decode cX9_shift 10 = .ok (.iload_n 2, 1) := by decide +kernel
theorem dX9_shift_11 : decode cX9_shift 11 = .ok (.ifCond .ne 40, 3) := by decide +kernel
theorem dX9_shift_14 : decode cX9_shift 14 = .ok (.iload_n 1, 1) := by decide +kernel
theorem dX9_shift_15 : decode cX9_shift 15 = .ok (.iconst 1, 1) := by decide +kernel
theorem dX9_shift_16 : decode cX9_shift 16 = .ok (.iadd, 1) := by decide +kernel
theorem dX9_shift_17 : decode cX9_shift 17 = .ok (.istore 5, 2) := by decide +kernel
theorem dX9_shift_19 : decode cX9_shift 19 = .ok (.iload 5, 2) := by decide +kernel
theorem dX9_shift_21 : decode cX9_shift 21 = .ok (.iload 4, 2) := by decide +kernel
theorem dX9_shift_23 : decode cX9_shift 23 = .ok (.if_icmp .ge 25, 3) := by decide +kernel
theorem dX9_shift_26 : decode cX9_shift 26 = .ok (.aload_n 0, 1) := by decide +kernel
theorem dX9_shift_27 : decode cX9_shift 27 = .ok (.getfield 98, 3) := by decide +kernel
theorem dX9_shift_30 : decode cX9_shift 30 = .ok (.iload 5, 2) := by decide +kernel
theorem dX9_shift_32 : decode cX9_shift 32 = .ok (.iconst 1, 1) := by decide +kernel
theorem dX9_shift_33 : decode cX9_shift 33 = .ok (.isub, 1) := by decide +kernel
theorem dX9_shift_34 : decode cX9_shift 34 = .ok (.aload_n 0, 1) := by decide +kernel
theorem dX9_shift_35 : decode cX9_shift 35 = .ok (.getfield 98, 3) := by decide +kernel
theorem dX9_shift_38 : decode cX9_shift 38 = .ok (.iload 5, 2) := by decide +kernel
theorem dX9_shift_40 : decode cX9_shift 40 = .ok (.iaload, 1) := by decide +kernel
theorem dX9_shift_41 : decode cX9_shift 41 = .ok (.iastore, 1) := by decide +kernel
theorem dX9_shift_42 : decode cX9_shift 42 = .ok (.iinc 5 1, 3) := by decide +kernel
theorem dX9_shift_45 : decode cX9_shift 45 = .ok (.goto (-26), 3) := by decide +kernel
theorem dX9_shift_48 : decode cX9_shift 48 = .ok (.goto 39, 3) := by decide +kernel
theorem dX9_shift_51 : decode cX9_shift 51 = .ok (.iload 4, 2) := by decide +kernel
theorem dX9_shift_53 : decode cX9_shift 53 = .ok (.iconst 1, 1) := by decide +kernel
theorem dX9_shift_54 : decode cX9_shift 54 = .ok (.isub, 1) := by decide +kernel
theorem dX9_shift_55 : decode cX9_shift 55 = .ok (.istore 5, 2) := by decide +kernel
theorem dX9_shift_57 : decode cX9_shift 57 = .ok (.iload 5, 2) := by decide +kernel
theorem dX9_shift_59 : decode cX9_shift 59 = .ok (.iload_n 1, 1) := by decide +kernel
theorem dX9_shift_60 : decode cX9_shift 60 = .ok (.if_icmp .le 27, 3) := by decide +kernel
theorem dX9_shift_63 : decode cX9_shift 63 = .ok (.aload_n 0, 1) := by decide +kernel
theorem dX9_shift_64 : decode cX9_shift 64 = .ok (.getfield 98, 3) := by decide +kernel
theorem dX9_shift_67 : decode cX9_shift 67 = .ok (.iload 5, 2) := by decide +kernel
theorem dX9_shift_69 : decode cX9_shift 69 = .ok (.iload_n 2, 1) := by decide +kernel
theorem dX9_shift_70 : decode cX9_shift 70 = .ok (.iadd, 1) := by decide +kernel
theorem dX9_shift_71 : decode cX9_shift 71 = .ok (.iconst 1, 1) := by decide +kernel
theorem dX9_shift_72 : decode cX9_shift 72 = .ok (.isub, 1) := by decide +kernel
theorem dX9_shift_73 : decode cX9_shift 73 = .ok (.aload_n 0, 1) := by decide +kernel
theorem dX9_shift_74 : decode cX9_shift 74 = .ok (.getfield 98, 3) := by decide +kernel
theorem dX9_shift_77 : decode cX9_shift 77 = .ok (.iload 5, 2) := by decide +kernel
theorem dX9_shift_79 : decode cX9_shift 79 = .ok (.iaload, 1) := by decide +kernel
theorem dX9_shift_80 : decode cX9_shift 80 = .ok (.iastore, 1) := by decide +kernel
theorem dX9_shift_81 : decode cX9_shift 81 = .ok (.iinc 5 (-1), 3) := by decide +kernel
theorem dX9_shift_84 : decode cX9_shift 84 = .ok (.goto (-27), 3) := by decide +kernel
theorem dX9_shift_87 : decode cX9_shift 87 = .ok (.iconst 0, 1) := by decide +kernel
theorem dX9_shift_88 : decode cX9_shift 88 = .ok (.istore 5, 2) := by decide +kernel
theorem dX9_shift_90 : decode cX9_shift 90 = .ok (.iload 5, 2) := by decide +kernel
theorem dX9_shift_92 : decode cX9_shift 92 = .ok (.iload_n 2, 1) := by decide +kernel
theorem dX9_shift_93 : decode cX9_shift 93 = .ok (.if_icmp .ge 22, 3) := by decide +kernel
theorem dX9_shift_96 : decode cX9_shift 96 = .ok (.aload_n 0, 1) := by decide +kernel
theorem dX9_shift_97 : decode cX9_shift 97 = .ok (.getfield 98, 3) := by decide +kernel
theorem dX9_shift_100 : decode cX9_shift 100 = .ok (.iload_n 1, 1) := by decide +kernel
theorem dX9_shift_101 : decode cX9_shift 101 = .ok (.iload 5, 2) := by decide +kernel
theorem dX9_shift_103 : decode cX9_shift 103 = .ok (.iadd, 1) := by decide +kernel
theorem dX9_shift_104 : decode cX9_shift 104 = .ok (.iload_n 3, 1) := by decide +kernel
theorem dX9_shift_105 : decode cX9_shift 105 = .ok (.iload 5, 2) := by decide +kernel
theorem dX9_shift_107 : decode cX9_shift 107 = .ok (.iadd, 1) := by decide +kernel
theorem dX9_shift_108 : decode cX9_shift 108 = .ok (.iastore, 1) := by decide +kernel
theorem dX9_shift_109 : decode cX9_shift 109 = .ok (.iinc 5 1, 3) := by decide +kernel
theorem dX9_shift_112 : decode cX9_shift 112 = .ok (.goto (-22), 3) := by decide +kernel
theorem dX9_shift_115 : decode cX9_shift 115 = .ok (.return_, 1) := by decide +kernel
theorem dX9_shiftBack_0 : decode cX9_shiftBack 0 = .ok (.iload_n 2, 1) := by decide +kernel
theorem dX9_shiftBack_1 : decode cX9_shiftBack 1 = .ok (.ifCond .ne 42, 3) := by decide +kernel
theorem dX9_shiftBack_4 : decode cX9_shiftBack 4 = .ok (.aload_n 0, 1) := by decide +kernel
theorem dX9_shiftBack_5 : decode cX9_shiftBack 5 = .ok (.getfield 157, 3) := by decide +kernel
theorem dX9_shiftBack_8 : decode cX9_shiftBack 8 = .ok (.iconst 1, 1) := by decide +kernel
theorem dX9_shiftBack_9 : decode cX9_shiftBack 9 = .ok (.isub, 1) := by decide +kernel
theorem dX9_shiftBack_10 : decode cX9_shiftBack 10 = .ok (.istore 4, 2) := by decide +kernel
theorem dX9_shiftBack_12 : decode cX9_shiftBack 12 = .ok (.iload 4, 2) := by decide +kernel
theorem dX9_shiftBack_14 : decode cX9_shiftBack 14 = .ok (.iload_n 1, 1) := by decide +kernel
theorem dX9_shiftBack_15 : decode cX9_shiftBack 15 = .ok (.if_icmp .le 25, 3) := by decide +kernel
theorem dX9_shiftBack_18 : decode cX9_shiftBack 18 = .ok (.aload_n 0, 1) := by decide +kernel
theorem dX9_shiftBack_19 : decode cX9_shiftBack 19 = .ok (.getfield 98, 3) := by decide +kernel
theorem dX9_shiftBack_22 : decode cX9_shiftBack 22 = .ok (.iload 4, 2) := by decide +kernel
theorem dX9_shiftBack_24 : decode cX9_shiftBack 24 = .ok (.aload_n 0, 1) := by decide +kernel
theorem dX9_shiftBack_25 : decode cX9_shiftBack 25 = .ok (.getfield 98, 3) := by decide +kernel
theorem dX9_shiftBack_28 : decode cX9_shiftBack 28 = .ok (.iload 4, 2) := by decide +kernel
theorem dX9_shiftBack_30 : decode cX9_shiftBack 30 = .ok (.iconst 1, 1) := by decide +kernel
theorem dX9_shiftBack_31 : decode cX9_shiftBack 31 = .ok (.isub, 1) := by decide +kernel
theorem dX9_shiftBack_32 : decode cX9_shiftBack 32 = .ok (.iaload, 1) := by decide +kernel
theorem dX9_shiftBack_33 : decode cX9_shiftBack 33 = .ok (.iastore, 1) := by decide +kernel
theorem dX9_shiftBack_34 : decode cX9_shiftBack 34 = .ok (.iinc 4 (-1), 3) := by decide +kernel
theorem dX9_shiftBack_37 : decode cX9_shiftBack 37 = .ok (.goto (-25), 3) := by decide +kernel
theorem dX9_shiftBack_40 : decode cX9_shiftBack 40 = .ok (.goto 41, 3) := by decide +kernel
theorem dX9_shiftBack_43 : decode cX9_shiftBack 43 = .ok (.iload_n 1, 1) := by decide +kernel
theorem dX9_shiftBack_44 : decode cX9_shiftBack 44 = .ok (.iconst 1, 1) := by decide +kernel
theorem dX9_shiftBack_45 : decode cX9_shiftBack 45 = .ok (.iadd, 1) := by decide +kernel
theorem dX9_shiftBack_46 : decode cX9_shiftBack 46 = .ok (.istore 4, 2) := by decide +kernel
theorem dX9_shiftBack_48 : decode cX9_shiftBack 48 = .ok (.iload 4, 2) := by decide +kernel
theorem dX9_shiftBack_50 : decode cX9_shiftBack 50 = .ok (.aload_n 0, 1) := by decide +kernel
theorem dX9_shiftBack_51 : decode cX9_shiftBack 51 = .ok (.getfield 157, 3) := by decide +kernel
theorem dX9_shiftBack_54 : decode cX9_shiftBack 54 = .ok (.if_icmp .ge 27, 3) := by decide +kernel
theorem dX9_shiftBack_57 : decode cX9_shiftBack 57 = .ok (.aload_n 0, 1) := by decide +kernel
theorem dX9_shiftBack_58 : decode cX9_shiftBack 58 = .ok (.getfield 98, 3) := by decide +kernel
theorem dX9_shiftBack_61 : decode cX9_shiftBack 61 = .ok (.iload 4, 2) := by decide +kernel
theorem dX9_shiftBack_63 : decode cX9_shiftBack 63 = .ok (.aload_n 0, 1) := by decide +kernel
theorem dX9_shiftBack_64 : decode cX9_shiftBack 64 = .ok (.getfield 98, 3) := by decide +kernel
theorem dX9_shiftBack_67 : decode cX9_shiftBack 67 = .ok (.iload 4, 2) := by decide +kernel
theorem dX9_shiftBack_69 : decode cX9_shiftBack 69 = .ok (.iload_n 2, 1) := by decide +kernel
theorem dX9_shiftBack_70 : decode cX9_shiftBack 70 = .ok (.iadd, 1) := by decide +kernel
theorem dX9_shiftBack_71 : decode cX9_shiftBack 71 = .ok (.iconst 1, 1) := by decide +kernel
theorem dX9_shiftBack_72 : decode cX9_shiftBack 72 = .ok (.isub, 1) := by decide +kernel
