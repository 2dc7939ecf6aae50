theorem dX9_those_7 : decode cX9_those 7 = .ok (.istore 6, 2) := by decide +kernel
theorem dX9_those_9 : decode cX9_those 9 = .ok (.iload 6, 2) := by decide +kernel
theorem dX9_those_11 : decode cX9_those 11 = .ok (.iload_n 1, 1) := by decide +kernel
theorem dX9_those_12 : decode cX9_those 12 = .ok (.iload_n 2, 1) := by decide +kernel
theorem dX9_those_13 : decode cX9_those 13 = .ok (.iadd, 1) := by decide +kernel
theorem dX9_those_14 : decode cX9_those 14 = .ok (.if_icmp .ge 55, 3) := by decide +kernel
theorem dX9_those_17 : decode cX9_those 17 = .ok (.aload_n 0, 1) := by decide +kernel
theorem dX9_those_18 : decode cX9_those 18 = .ok (.aload_n 0, 1) := by decide +kernel
theorem dX9_those_19 : decode cX9_those 19 = .ok (.getfield 62, 3) := by decide +kernel
theorem dX9_those_22 : decode cX9_those 22 = .ok (.iload 6, 2) := by decide +kernel
theorem dX9_those_24 : decode cX9_those 24 = .ok (.iaload, 1) := by decide +kernel
theorem dX9_those_25 : decode cX9_those 25 = .ok (.iload_n 3, 1) := by decide +kernel
theorem dX9_those_26 : decode cX9_those 26 = .ok (.invokevirtual 166, 3) := by decide +kernel
theorem dX9_those_29 : decode cX9_those 29 = .ok (.iload 4, 2) := by decide +kernel
theorem dX9_those_31 : decode cX9_those 31 = .ok (.if_icmp .eq 6, 3) := by decide +kernel
theorem dX9_those_34 : decode cX9_those 34 = .ok (.goto 29, 3) := by decide +kernel
theorem dX9_those_37 : decode cX9_those 37 = .ok (.aload_n 0, 1) := by decide +kernel
theorem dX9_those_38 : decode cX9_those 38 = .ok (.getfield 62, 3) := by decide +kernel
theorem dX9_those_41 : decode cX9_those 41 = .ok (.aload_n 0, 1) := by decide +kernel
theorem dX9_those_42 : decode cX9_those 42 = .ok (.getfield 160, 3) := by decide +kernel
theorem dX9_those_45 : decode cX9_those 45 = .ok (.aload_n 0, 1) := by decide +kernel
theorem dX9_those_46 : decode cX9_those 46 = .ok (.getfield 62, 3) := by decide +kernel
theorem dX9_those_49 : decode cX9_those 49 = .ok (.iload 6, 2) := by decide +kernel
theorem dX9_those_51 : decode cX9_those 51 = .ok (.iaload, 1) := by decide +kernel
theorem dX9_those_52 : decode cX9_those 52 = .ok (.iastore, 1) := by decide +kernel
theorem dX9_those_53 : decode cX9_those 53 = .ok (.aload_n 0, 1) := by decide +kernel
theorem dX9_those_54 : decode cX9_those 54 = .ok (.dup, 1) := by decide +kernel
theorem dX9_those_55 : decode cX9_those 55 = .ok (.getfield 160, 3) := by decide +kernel
theorem dX9_those_58 : decode cX9_those 58 = .ok (.iconst 1, 1) := by decide +kernel
theorem dX9_those_59 : decode cX9_those 59 = .ok (.iadd, 1) := by decide +kernel
theorem dX9_those_60 : decode cX9_those 60 = .ok (.putfield 160, 3) := by decide +kernel
theorem dX9_those_63 : decode cX9_those 63 = .ok (.iinc 6 1, 3) := by decide +kernel
theorem dX9_those_66 : decode cX9_those 66 = .ok (.goto (-57), 3) := by decide +kernel
theorem dX9_those_69 : decode cX9_those 69 = .ok (.aload_n 0, 1) := by decide +kernel
theorem dX9_those_70 : decode cX9_those 70 = .ok (.getfield 160, 3) := by decide +kernel
theorem dX9_those_73 : decode cX9_those 73 = .ok (.iload 5, 2) := by decide +kernel
theorem dX9_those_75 : decode cX9_those 75 = .ok (.isub, 1) := by decide +kernel
theorem dX9_those_76 : decode cX9_those 76 = .ok (.ireturn, 1) := by decide +kernel
theorem dX9_take_0 : decode cX9_take 0 = .ok (.iload_n 1, 1) := by decide +kernel
theorem dX9_take_1 : decode cX9_take 1 = .ok (.istore 5, 2) := by decide +kernel
theorem dX9_take_3 : decode cX9_take 3 = .ok (.iload 5, 2) := by decide +kernel
theorem dX9_take_5 : decode cX9_take 5 = .ok (.iload_n 1, 1) := by decide +kernel
theorem dX9_take_6 : decode cX9_take 6 = .ok (.iload_n 2, 1) := by decide +kernel
theorem dX9_take_7 : decode cX9_take 7 = .ok (.iadd, 1) := by decide +kernel
theorem dX9_take_8 : decode cX9_take 8 = .ok (.if_icmp .ge 203, 3) := by decide +kernel
theorem dX9_take_11 : decode cX9_take 11 = .ok (.sipush 170, 3) := by decide +kernel
theorem dX9_take_14 : decode cX9_take 14 = .ok (.aload_n 0, 1) := by decide +kernel
theorem dX9_take_15 : decode cX9_take 15 = .ok (.getfield 62, 3) := by decide +kernel
theorem dX9_take_18 : decode cX9_take 18 = .ok (.iload 5, 2) := by decide +kernel
theorem dX9_take_20 : decode cX9_take 20 = .ok (.iaload, 1) := by decide +kernel
theorem dX9_take_21 : decode cX9_take 21 = .ok (.imul, 1) := by decide +kernel
theorem dX9_take_22 : decode cX9_take 22 = .ok (.istore 6, 2) := by decide +kernel
theorem dX9_take_24 : decode cX9_take 24 = .ok (.aload_n 0, 1) := by decide +kernel
theorem dX9_take_25 : decode cX9_take 25 = .ok (.getfield 59, 3) := by decide +kernel
theorem dX9_take_28 : decode cX9_take 28 = .ok (.iload 6, 2) := by decide +kernel
theorem dX9_take_30 : decode cX9_take 30 = .ok (.iload_n 3, 1) := by decide +kernel
theorem dX9_take_31 : decode cX9_take 31 = .ok (.iadd, 1) := by decide +kernel
theorem dX9_take_32 : decode cX9_take 32 = .ok (.iaload, 1) := by decide +kernel
theorem dX9_take_33 : decode cX9_take 33 = .ok (.istore 7, 2) := by decide +kernel
theorem dX9_take_35 : decode cX9_take 35 = .ok (.aload_n 0, 1) := by decide +kernel
theorem dX9_take_36 : decode cX9_take 36 = .ok (.getfield 65, 3) := by decide +kernel
theorem dX9_take_39 : decode cX9_take 39 = .ok (.aload_n 0, 1) := by decide +kernel
theorem dX9_take_40 : decode cX9_take 40 = .ok (.getfield 163, 3) := by decide +kernel
theorem dX9_take_43 : decode cX9_take 43 = .ok (.iload 7, 2) := by decide +kernel
theorem dX9_take_45 : decode cX9_take 45 = .ok (.iastore, 1) := by decide +kernel
theorem dX9_take_46 : decode cX9_take 46 = .ok (.aload_n 0, 1) := by decide +kernel
theorem dX9_take_47 : decode cX9_take 47 = .ok (.dup, 1) := by decide +kernel
theorem dX9_take_48 : decode cX9_take 48 = .ok (.getfield 163, 3) := by decide +kernel
theorem dX9_take_51 : decode cX9_take 51 = .ok (.iconst 1, 1) := by decide +kernel
theorem dX9_take_52 : decode cX9_take 52 = .ok (.iadd, 1) := by decide +kernel
theorem dX9_take_53 : decode cX9_take 53 = .ok (.putfield 163, 3) := by decide +kernel
theorem dX9_take_56 : decode cX9_take 56 = .ok (.iload 4, 2) := by decide +kernel
theorem dX9_take_58 : decode cX9_take 58 = .ok (.ifCond .ne 48, 3) := by decide +kernel
theorem dX9_take_61 : decode cX9_take 61 = .ok (.iload_n 3, 1) := by decide +kernel
theorem dX9_take_62 : decode cX9_take 62 = .ok (.iconst 1, 1) := by decide +kernel
theorem dX9_take_63 : decode cX9_take 63 = .ok (.iadd, 1) := by decide +kernel
theorem dX9_take_64 : decode cX9_take 64 = .ok (.istore 8, 2) := by decide +kernel
theorem dX9_take_66 : decode cX9_take 66 = .ok (.iload 8, 2) := by decide +kernel
theorem dX9_take_68 : decode cX9_take 68 = .ok (.aload_n 0, 1) := by decide +kernel
theorem dX9_take_69 : decode cX9_take 69 = .ok (.getfield 157, 3) := by decide +kernel
theorem dX9_take_72 : decode cX9_take 72 = .ok (.if_icmp .ge 31, 3) := by decide +kernel
theorem dX9_take_75 : decode cX9_take 75 = .ok (.aload_n 0, 1) := by decide +kernel
theorem dX9_take_76 : decode cX9_take 76 = .ok (.getfield 59, 3) := by decide +kernel
theorem dX9_take_79 : decode cX9_take 79 = .ok (.iload 6, 2) := by decide +kernel
theorem dX9_take_81 : decode cX9_take 81 = .ok (.iload 8, 2) := by decide +kernel
theorem dX9_take_83 : decode cX9_take 83 = .ok (.iadd, 1) := by decide +kernel
theorem dX9_take_84 : decode cX9_take 84 = .ok (.iconst 1, 1) := by decide +kernel
theorem dX9_take_85 : decode cX9_take 85 = .ok (.isub, 1) := by decide +kernel
theorem dX9_take_86 : decode cX9_take 86 = .ok (.aload_n 0, 1) := by decide +kernel
theorem dX9_take_87 : decode cX9_take 87 = .ok (.getfield 59, 3) := by decide +kernel
theorem dX9_take_90 : decode cX9_take 90 = .ok (.iload 6, 2) := by decide +kernel
theorem dX9_take_92 : decode cX9_take 92 = .ok (.iload 8, 2) := by decide +kernel
theorem dX9_take_94 : decode cX9_take 94 = .ok (.iadd, 1) := by decide +kernel
theorem dX9_take_95 : decode cX9_take 95 = .ok (.iaload, 1) := by decide +kernel
theorem dX9_take_96 : decode cX9_take 96 = .ok (.iastore, 1) := by decide +kernel
theorem dX9_take_97 : decode cX9_take 97 = .ok (.iinc 8 1, 3) := by decide +kernel
theorem dX9_take_100 : decode cX9_take 100 = .ok (.goto (-34), 3) := by decide +kernel
theorem dX9_take_103 : decode cX9_take 103 = .ok (.goto 48, 3) := by decide +kernel
theorem dX9_take_106 : decode cX9_take 106 = .ok (.aload_n 0, 1) := by decide +kernel
theorem dX9_take_107 : decode cX9_take 107 = .ok (.getfield 157, 3) := by decide +kernel
theorem dX9_take_110 : decode cX9_take 110 = .ok (.iconst 1, 1) := by decide +kernel
theorem dX9_take_111 : decode cX9_take 111 = .ok (.isub, 1) := by decide +kernel
theorem dX9_take_112 : decode cX9_take 112 = .ok (.istore 8, 2) := by decide +kernel
theorem dX9_take_114 : decode cX9_take 114 = .ok (.iload 8, 2) := by decide +kernel
theorem dX9_take_116 : decode cX9_take 116 = .ok (.iload_n 3, 1) := by decide +kernel
theorem dX9_take_117 : decode cX9_take 117 = .ok (.if_icmp .le 34, 3) := by decide +kernel
theorem dX9_take_120 : decode cX9_take 120 = .ok (.aload_n 0, 1) := by decide +kernel
theorem dX9_take_121 : decode cX9_take 121 = .ok (.getfield 59, 3) := by decide +kernel
theorem dX9_take_124 : decode cX9_take 124 = .ok (.iload 6, 2) := by decide +kernel
theorem dX9_take_126 : decode cX9_take 126 = .ok (.iload 8, 2) := by decide +kernel
theorem dX9_take_128 : decode cX9_take 128 = .ok (.iadd, 1) := by decide +kernel
theorem dX9_take_129 : decode cX9_take 129 = .ok (.iload 4, 2) := by decide +kernel
theorem dX9_take_131 : decode cX9_take 131 = .ok (.iadd, 1) := by decide +kernel
theorem dX9_take_132 : decode cX9_take 132 = .ok (.iconst 1, 1) := by decide +kernel
theorem dX9_take_133 : decode cX9_take 133 = .ok (.isub, 1) := by decide +kernel
theorem dX9_take_134 : decode cX9_take 134 = .ok (.aload_n 0, 1) := by decide +kernel
theorem dX9_take_135 : decode cX9_take 135 = .ok (.getfield 59, 3) := by decide +kernel
theorem dX9_take_138 : decode cX9_take 138 = .ok (.iload 6, 2) := by decide +kernel
theorem dX9_take_140 : decode cX9_take 140 = .ok (.iload 8, 2) := by decide +kernel
theorem dX9_take_142 : decode cX9_take 142 = .ok (.iadd, 1) := by decide +kernel
theorem dX9_take_143 : decode cX9_take 143 = .ok (.iaload, 1) := by decide +kernel
theorem dX9_take_144 : decode cX9_take 144 = .ok (.iastore, 1) := by decide +kernel
theorem dX9_take_145 : decode cX9_take 145 = .ok (.iinc 8 (-1), 3) := by decide +kernel
theorem dX9_take_148 : decode cX9_take 148 = .ok (.goto (-34), 3) := by decide +kernel
theorem dX9_take_151 : decode cX9_take 151 = .ok (.iinc 7 1, 3) := by decide +kernel
theorem dX9_take_154 : decode cX9_take 154 = .ok (.iconst 0, 1) := by decide +kernel
theorem dX9_take_155 : decode cX9_take 155 = .ok (.istore 8, 2) := by decide +kernel
theorem dX9_take_157 : decode cX9_take 157 = .ok (.iload 8, 2) := by decide +kernel
theorem dX9_take_159 : decode cX9_take 159 = .ok (.iload 4, 2) := by decide +kernel
theorem dX9_take_161 : decode cX9_take 161 = .ok (.if_icmp .ge 44, 3) := by decide +kernel
theorem dX9_take_164 : decode cX9_take 164 = .ok (.aload_n 0, 1) := by decide +kernel
theorem dX9_take_165 : decode cX9_take 165 = .ok (.getfield 59, 3) := by decide +kernel
theorem dX9_take_168 : decode cX9_take 168 = .ok (.iload 6, 2) := by decide +kernel
theorem dX9_take_170 : decode cX9_take 170 = .ok (.iload_n 3, 1) := by decide +kernel
theorem dX9_take_171 : decode cX9_take 171 = .ok (.iadd, 1) := by decide +kernel
theorem dX9_take_172 : decode cX9_take 172 = .ok (.iload 8, 2) := by decide +kernel
theorem dX9_take_174 : decode cX9_take 174 = .ok (.iadd, 1) := by decide +kernel
theorem dX9_take_175 : decode cX9_take 175 = .ok (.iload 7, 2) := by decide +kernel
theorem dX9_take_177 : decode cX9_take 177 = .ok (.iastore, 1) := by decide +kernel
theorem dX9_take_178 : decode cX9_take 178 = .ok (.aload_n 0, 1) := by decide +kernel
theorem dX9_take_179 : decode cX9_take 179 = .ok (.getfield 35, 3) := by decide +kernel
theorem dX9_take_182 : decode cX9_take 182 = .ok (.sipush 160, 3) := by decide +kernel
theorem dX9_take_185 : decode cX9_take 185 = .ok (.aload_n 0, 1) := by decide +kernel
theorem dX9_take_186 : decode cX9_take 186 = .ok (.getfield 62, 3) := by decide +kernel
theorem dX9_take_189 : decode cX9_take 189 = .ok (.iload 5, 2) := by decide +kernel
theorem dX9_take_191 : decode cX9_take 191 = .ok (.iaload, 1) := by decide +kernel
theorem dX9_take_192 : decode cX9_take 192 = .ok (.imul, 1) := by decide +kernel
theorem dX9_take_193 : decode cX9_take 193 = .ok (.iload 7, 2) := by decide +kernel
theorem dX9_take_195 : decode cX9_take 195 = .ok (.iadd, 1) := by decide +kernel
theorem dX9_take_196 : decode cX9_take 196 = .ok (.iaload, 1) := by decide +kernel
theorem dX9_take_197 : decode cX9_take 197 = .ok (.istore 7, 2) := by decide +kernel
theorem dX9_take_199 : decode cX9_take 199 = .ok (.iinc 8 1, 3) := by decide +kernel
theorem dX9_take_202 : decode cX9_take 202 = .ok (.goto (-45), 3) := by decide +kernel
theorem dX9_take_205 : decode cX9_take 205 = .ok (.iinc 5 1, 3) := by decide +kernel
theorem dX9_take_208 : decode cX9_take 208 = .ok (.goto (-205), 3) := by decide +kernel
theorem dX9_take_211 : decode cX9_take 211 = .ok (.aload_n 0, 1) := by decide +kernel
theorem dX9_take_212 : decode cX9_take 212 = .ok (.dup, 1) := by decide +kernel
theorem dX9_take_213 : decode cX9_take 213 = .ok (.getfield 157, 3) := by decide +kernel
theorem dX9_take_216 : decode cX9_take 216 = .ok (.iload 4, 2) := by decide +kernel
theorem dX9_take_218 : decode cX9_take 218 = .ok (.iconst 1, 1) := by decide +kernel
theorem dX9_take_219 : decode cX9_take 219 = .ok (.isub, 1) := by decide +kernel
theorem dX9_take_220 : decode cX9_take 220 = .ok (.iadd, 1) := by decide +kernel
theorem dX9_take_221 : decode cX9_take 221 = .ok (.putfield 157, 3) := by decide +kernel
theorem dX9_take_224 : decode cX9_take 224 = .ok (.return_, 1) := by decide +kernel
theorem dX9_putBack_0 : decode cX9_putBack 0 = .ok (.aload_n 0, 1) := by decide +kernel
theorem dX9_putBack_1 : decode cX9_putBack 1 = .ok (.dup, 1) := by decide +kernel
theorem dX9_putBack_2 : decode cX9_putBack 2 = .ok (.getfield 157, 3) := by decide +kernel
theorem dX9_putBack_5 : decode cX9_putBack 5 = .ok (.iload 4, 2) := by decide +kernel
theorem dX9_putBack_7 : decode cX9_putBack 7 = .ok (.iconst 1, 1) := by decide +kernel
theorem dX9_putBack_8 : decode cX9_putBack 8 = .ok (.isub, 1) := by decide +kernel
theorem dX9_putBack_9 : decode cX9_putBack 9 = .ok (.isub, 1) := by decide +kernel
theorem dX9_putBack_10 : decode cX9_putBack 10 = .ok (.putfield 157, 3) := by decide +kernel
theorem dX9_putBack_13 : decode cX9_putBack 13 = .ok (.iload_n 1, 1) := by decide +kernel
theorem dX9_putBack_14 : decode cX9_putBack 14 = .ok (.iload_n 2, 1) := by decide +kernel
theorem dX9_putBack_15 : decode cX9_putBack 15 = .ok (.iadd, 1) := by decide +kernel
theorem dX9_putBack_16 : decode cX9_putBack 16 = .ok (.iconst 1, 1) := by decide +kernel
theorem dX9_putBack_17 : decode cX9_putBack 17 = .ok (.isub, 1) := by decide +kernel
theorem dX9_putBack_18 : decode cX9_putBack 18 = .ok (.istore 5, 2) := by decide +kernel
theorem dX9_putBack_20 : decode cX9_putBack 20 = .ok (.iload 5, 2) := by decide +kernel
theorem dX9_putBack_22 : decode cX9_putBack 22 = .ok (.iload_n 1, 1) := by decide +kernel
theorem dX9_putBack_23 : decode cX9_putBack 23 = .ok (.if_icmp .lt 145, 3) := by decide +kernel
theorem dX9_putBack_26 : decode cX9_putBack 26 = .ok (.sipush 170, 3) := by decide +kernel
theorem dX9_putBack_29 : decode cX9_putBack 29 = .ok (.aload_n 0, 1) := by decide +kernel
theorem dX9_putBack_30 : decode cX9_putBack 30 = .ok (.getfield 62, 3) := by decide +kernel
theorem dX9_putBack_33 : decode cX9_putBack 33 = .ok (.iload 5, 2) := by decide +kernel
theorem dX9_putBack_35 : decode cX9_putBack 35 = .ok (.iaload, 1) := by decide +kernel
theorem dX9_putBack_36 : decode cX9_putBack 36 = .ok (.imul, 1) := by decide +kernel
theorem dX9_putBack_37 : decode cX9_putBack 37 = .ok (.istore 6, 2) := by decide +kernel
theorem dX9_putBack_39 : decode cX9_putBack 39 = .ok (.iload 4, 2) := by decide +kernel
theorem dX9_putBack_41 : decode cX9_putBack 41 = .ok (.ifCond .ne 48, 3) := by decide +kernel
theorem dX9_putBack_44 : decode cX9_putBack 44 = .ok (.aload_n 0, 1) := by decide +kernel
theorem dX9_putBack_45 : decode cX9_putBack 45 = .ok (.getfield 157, 3) := by decide +kernel
theorem dX9_putBack_48 : decode cX9_putBack 48 = .ok (.iconst 1, 1) := by decide +kernel
theorem dX9_putBack_49 : decode cX9_putBack 49 = .ok (.isub, 1) := by decide +kernel
theorem dX9_putBack_50 : decode cX9_putBack 50 = .ok (.istore 7, 2) := by decide +kernel
theorem dX9_putBack_52 : decode cX9_putBack 52 = .ok (.iload 7, 2) := by decide +kernel
theorem dX9_putBack_54 : decode cX9_putBack 54 = .ok (.iload_n 3, 1) := by decide +kernel
theorem dX9_putBack_55 : decode cX9_putBack 55 = .ok (.if_icmp .le 31, 3) := by decide +kernel
theorem dX9_putBack_58 : decode cX9_putBack 58 = .ok (.aload_n 0, 1) := by decide +kernel
theorem dX9_putBack_59 : decode cX9_putBack 59 = .ok (.getfield 59, 3) := by decide +kernel
theorem dX9_putBack_62 : decode cX9_putBack 62 = .ok (.iload 6, 2) := by decide +kernel
theorem dX9_putBack_64 : decode cX9_putBack 64 = .ok (.iload 7, 2) := by decide +kernel
theorem dX9_putBack_66 : decode cX9_putBack 66 = .ok (.iadd, 1) := by decide +kernel
theorem dX9_putBack_67 : decode cX9_putBack 67 = .ok (.aload_n 0, 1) := by decide +kernel
theorem dX9_putBack_68 : decode cX9_putBack 68 = .ok (.getfield 59, 3) := by decide +kernel
theorem dX9_putBack_71 : decode cX9_putBack 71 = .ok (.iload 6, 2) := by decide +kernel
theorem dX9_putBack_73 : decode cX9_putBack 73 = .ok (.iload 7, 2) := by decide +kernel
theorem dX9_putBack_75 : decode cX9_putBack 75 = .ok (.iadd, 1) := by decide +kernel
theorem dX9_putBack_76 : decode cX9_putBack 76 = .ok (.iconst 1, 1) := by decide +kernel
theorem dX9_putBack_77 : decode cX9_putBack 77 = .ok (.isub, 1) := by decide +kernel
theorem dX9_putBack_78 : decode cX9_putBack 78 = .ok (.iaload, 1) := by decide +kernel
theorem dX9_putBack_79 : decode cX9_putBack 79 = .ok (.iastore, 1) := by decide +kernel
theorem dX9_putBack_80 : decode cX9_putBack 80 = .ok (.iinc 7 (-1), 3) := by decide +kernel
theorem dX9_putBack_83 : decode cX9_putBack 83 = .ok (.goto (-31), 3) := by decide +kernel
theorem dX9_putBack_86 : decode cX9_putBack 86 = .ok (.goto 48, 3) := by decide +kernel
theorem dX9_putBack_89 : decode cX9_putBack 89 = .ok (.iload_n 3, 1) := by decide +kernel
theorem dX9_putBack_90 : decode cX9_putBack 90 = .ok (.iconst 1, 1) := by decide +kernel
theorem dX9_putBack_91 : decode cX9_putBack 91 = .ok (.iadd, 1) := by decide +kernel
theorem dX9_putBack_92 : decode cX9_putBack 92 = .ok (.istore 7, 2) := by decide +kernel
theorem dX9_putBack_94 : decode cX9_putBack 94 = .ok (.iload 7, 2) := by decide +kernel
theorem dX9_putBack_96 : decode cX9_putBack 96 = .ok (.aload_n 0, 1) := by decide +kernel
theorem dX9_putBack_97 : decode cX9_putBack 97 = .ok (.getfield 157, 3) := by decide +kernel
theorem dX9_putBack_100 : decode cX9_putBack 100 = .ok (.if_icmp .ge 34, 3) := by decide +kernel
theorem dX9_putBack_103 : decode cX9_putBack 103 = .ok (.aload_n 0, 1) := by decide +kernel
theorem dX9_putBack_104 : decode cX9_putBack 104 = .ok (.getfield 59, 3) := by decide +kernel
theorem dX9_putBack_107 : decode cX9_putBack 107 = .ok (.iload 6, 2) := by decide +kernel
theorem dX9_putBack_109 : decode cX9_putBack 109 = .ok (.iload 7, 2) := by decide +kernel
theorem dX9_putBack_111 : decode cX9_putBack 111 = .ok (.iadd, 1) := by decide +kernel
theorem dX9_putBack_112 : decode cX9_putBack 112 = .ok (.aload_n 0, 1) := by decide +kernel
theorem dX9_putBack_113 : decode cX9_putBack 113 = .ok (.getfield 59, 3) := by decide +kernel
theorem dX9_putBack_116 : decode cX9_putBack 116 = .ok (.iload 6, 2) := by decide +kernel
theorem dX9_putBack_118 : decode cX9_putBack 118 = .ok (.iload 7, 2) := by decide +kernel
theorem dX9_putBack_120 : decode cX9_putBack 120 = .ok (.iadd, 1) := by decide +kernel
theorem dX9_putBack_121 : decode cX9_putBack 121 = .ok (.iload 4, 2) := by decide +kernel
theorem dX9_putBack_123 : decode cX9_putBack 123 = .ok (.iadd, 1) := by decide +kernel
theorem dX9_putBack_124 : decode cX9_putBack 124 = .ok (.iconst 1, 1) := by decide +kernel
theorem dX9_putBack_125 : decode cX9_putBack 125 = .ok (.isub, 1) := by decide +kernel
theorem dX9_putBack_126 : decode cX9_putBack 126 = .ok (.iaload, 1) := by decide +kernel
theorem dX9_putBack_127 : decode cX9_putBack 127 = .ok (.iastore, 1) := by decide +kernel
theorem dX9_putBack_128 : decode cX9_putBack 128 = .ok (.iinc 7 1, 3) := by decide +kernel
theorem dX9_putBack_131 : decode cX9_putBack 131 = .ok (.goto (-37), 3) := by decide +kernel
theorem dX9_putBack_134 : decode cX9_putBack 134 = .ok (.aload_n 0, 1) := by decide +kernel
theorem dX9_putBack_135 : decode cX9_putBack 135 = .ok (.dup, 1) := by decide +kernel
theorem dX9_putBack_136 : decode cX9_putBack 136 = .ok (.getfield 163, 3) := by decide +kernel
theorem dX9_putBack_139 : decode cX9_putBack 139 = .ok (.iconst 1, 1) := by decide +kernel
theorem dX9_putBack_140 : decode cX9_putBack 140 = .ok (.isub, 1) := by decide +kernel
theorem dX9_putBack_141 : decode cX9_putBack 141 = .ok (.putfield 163, 3) := by decide +kernel
theorem dX9_putBack_144 : decode cX9_putBack 144 = .ok (.aload_n 0, 1) := by decide +kernel
theorem dX9_putBack_145 : decode cX9_putBack 145 = .ok (.getfield 59, 3) := by decide +kernel
theorem dX9_putBack_148 : decode cX9_putBack 148 = .ok (.iload 6, 2) := by decide +kernel
theorem dX9_putBack_150 : decode cX9_putBack 150 = .ok (.iload_n 3, 1) := by decide +kernel
theorem dX9_putBack_151 : decode cX9_putBack 151 = .ok (.iadd, 1) := by decide +kernel
theorem dX9_putBack_152 : decode cX9_putBack 152 = .ok (.aload_n 0, 1) := by decide +kernel
theorem dX9_putBack_153 : decode cX9_putBack 153 = .ok (.getfield 65, 3) := by decide +kernel
theorem dX9_putBack_156 : decode cX9_putBack 156 = .ok (.aload_n 0, 1) := by decide +kernel
theorem dX9_putBack_157 : decode cX9_putBack 157 = .ok (.getfield 163, 3) := by decide +kernel
theorem dX9_putBack_160 : decode cX9_putBack 160 = .ok (.iaload, 1) := by decide +kernel
theorem dX9_putBack_161 : decode cX9_putBack 161 = .ok (.iastore, 1) := by decide +kernel
theorem dX9_putBack_162 : decode cX9_putBack 162 = .ok (.iinc 5 (-1), 3) := by decide +kernel
theorem dX9_putBack_165 : decode cX9_putBack 165 = .ok (.goto (-145), 3) := by decide +kernel
theorem dX9_putBack_168 : decode cX9_putBack 168 = .ok (.return_, 1) := by decide +kernel
theorem dX9_needed_0 : decode cX9_needed 0 = .ok (.iconst (-1), 1) := by decide +kernel
theorem dX9_needed_1 : decode cX9_needed 1 = .ok (.istore_n 3, 1) := by decide +kernel
theorem dX9_needed_2 : decode cX9_needed 2 = .ok (.iconst 0, 1) := by decide +kernel
theorem dX9_needed_3 : decode cX9_needed 3 = .ok (.istore 4, 2) := by decide +kernel
theorem dX9_needed_5 : decode cX9_needed 5 = .ok (.iload 4, 2) := by decide +kernel
theorem dX9_needed_7 : decode cX9_needed 7 = .ok (.aload_n 0, 1) := by decide +kernel
theorem dX9_needed_8 : decode cX9_needed 8 = .ok (.getfield 157, 3) := by decide +kernel
theorem dX9_needed_11 : decode cX9_needed 11 = .ok (.if_icmp .ge 77, 3) := by decide +kernel
theorem dX9_needed_14 : decode cX9_needed 14 = .ok (.iconst 0, 1) := by decide +kernel
theorem dX9_needed_15 : decode cX9_needed 15 = .ok (.istore 5, 2) := by decide +kernel
theorem dX9_needed_17 : decode cX9_needed 17 = .ok (.iload_n 1, 1) := by decide +kernel
theorem dX9_needed_18 : decode cX9_needed 18 = .ok (.istore 6, 2) := by decide +kernel
theorem dX9_needed_20 : decode cX9_needed 20 = .ok (.iload 6, 2) := by decide +kernel
theorem dX9_needed_22 : decode cX9_needed 22 = .ok (.iload_n 1, 1) := by decide +kernel
theorem dX9_needed_23 : decode cX9_needed 23 = .ok (.iload_n 2, 1) := by decide +kernel
theorem dX9_needed_24 : decode cX9_needed 24 = .ok (.iadd, 1) := by decide +kernel
theorem dX9_needed_25 : decode cX9_needed 25 = .ok (.if_icmp .ge 35, 3) := by decide +kernel
theorem dX9_needed_28 : decode cX9_needed 28 = .ok (.iload 5, 2) := by decide +kernel
theorem dX9_needed_30 : decode cX9_needed 30 = .ok (.aload_n 0, 1) := by decide +kernel
theorem dX9_needed_31 : decode cX9_needed 31 = .ok (.aload_n 0, 1) := by decide +kernel
theorem dX9_needed_32 : decode cX9_needed 32 = .ok (.getfield 62, 3) := by decide +kernel
theorem dX9_needed_35 : decode cX9_needed 35 = .ok (.iload 6, 2) := by decide +kernel
theorem dX9_needed_37 : decode cX9_needed 37 = .ok (.iaload, 1) := by decide +kernel
theorem dX9_needed_38 : decode cX9_needed 38 = .ok (.iload 4, 2) := by decide +kernel
theorem dX9_needed_40 : decode cX9_needed 40 = .ok (.invokevirtual 166, 3) := by decide +kernel
theorem dX9_needed_43 : decode cX9_needed 43 = .ok (.ifCond .lt 7, 3) := by decide +kernel
theorem dX9_needed_46 : decode cX9_needed 46 = .ok (.iconst 1, 1) := by decide +kernel
theorem dX9_needed_47 : decode cX9_needed 47 = .ok (.goto 4, 3) := by decide +kernel
theorem dX9_needed_50 : decode cX9_needed 50 = .ok (.iconst 0, 1) := by decide +kernel
theorem dX9_needed_51 : decode cX9_needed 51 = .ok (.iadd, 1) := by decide +kernel
theorem dX9_needed_52 : decode cX9_needed 52 = .ok (.istore 5, 2) := by decide +kernel
theorem dX9_needed_54 : decode cX9_needed 54 = .ok (.iinc 6 1, 3) := by decide +kernel
theorem dX9_needed_57 : decode cX9_needed 57 = .ok (.goto (-37), 3) := by decide +kernel
theorem dX9_needed_60 : decode cX9_needed 60 = .ok (.iload 5, 2) := by decide +kernel
theorem dX9_needed_62 : decode cX9_needed 62 = .ok (.iload_n 2, 1) := by decide +kernel
theorem dX9_needed_63 : decode cX9_needed 63 = .ok (.if_icmp .ne 6, 3) := by decide +kernel
theorem dX9_needed_66 : decode cX9_needed 66 = .ok (.iload 4, 2) := by decide +kernel
theorem dX9_needed_68 : decode cX9_needed 68 = .ok (.ireturn, 1) := by decide +kernel
theorem dX9_needed_69 : decode cX9_needed 69 = .ok (.iload 5, 2) := by decide +kernel
theorem dX9_needed_71 : decode cX9_needed 71 = .ok (.ifCond .le 11, 3) := by decide +kernel
theorem dX9_needed_74 : decode cX9_needed 74 = .ok (.iload_n 3, 1) := by decide +kernel
theorem dX9_needed_75 : decode cX9_needed 75 = .ok (.iconst (-1), 1) := by decide +kernel
theorem dX9_needed_76 : decode cX9_needed 76 = .ok (.if_icmp .ne 6, 3) := by decide +kernel
theorem dX9_needed_79 : decode cX9_needed 79 = .ok (.iload 4, 2) := by decide +kernel
theorem dX9_needed_81 : decode cX9_needed 81 = .ok (.istore_n 3, 1) := by decide +kernel
theorem dX9_needed_82 : decode cX9_needed 82 = .ok (.iinc 4 1, 3) := by decide +kernel
theorem dX9_needed_85 : decode cX9_needed 85 = .ok (.goto (-80), 3) := by decide +kernel
theorem dX9_needed_88 : decode cX9_needed 88 = .ok (.iload_n 3, 1) := by decide +kernel
theorem dX9_needed_89 : decode cX9_needed 89 = .ok (.iconst (-1), 1) := by decide +kernel
theorem dX9_needed_90 : decode cX9_needed 90 = .ok (.if_icmp .ne 7, 3) := by decide +kernel
theorem dX9_needed_93 : decode cX9_needed 93 = .ok (.iconst (-1), 1) := by decide +kernel
theorem dX9_needed_94 : decode cX9_needed 94 = .ok (.goto 8, 3) := by decide +kernel
theorem dX9_needed_97 : decode cX9_needed 97 = .ok (.sipush 170, 3) := by decide +kernel
theorem dX9_needed_100 : decode cX9_needed 100 = .ok (.iload_n 3, 1) := by decide +kernel
theorem dX9_needed_101 : decode cX9_needed 101 = .ok (.iadd, 1) := by decide +kernel
theorem dX9_needed_102 : decode cX9_needed 102 = .ok (.ireturn, 1) := by decide +kernel
theorem dX9_run_0 : decode cX9_run 0 = .ok (.aload_n 0, 1) := by decide +kernel
theorem dX9_run_1 : decode cX9_run 1 = .ok (.aload_n 0, 1) := by decide +kernel
theorem dX9_run_2 : decode cX9_run 2 = .ok (.getfield 62, 3) := by decide +kernel
theorem dX9_run_5 : decode cX9_run 5 = .ok (.iload_n 1, 1) := by decide +kernel
theorem dX9_run_6 : decode cX9_run 6 = .ok (.iaload, 1) := by decide +kernel
theorem dX9_run_7 : decode cX9_run 7 = .ok (.iload_n 3, 1) := by decide +kernel
theorem dX9_run_8 : decode cX9_run 8 = .ok (.invokevirtual 166, 3) := by decide +kernel
theorem dX9_run_11 : decode cX9_run 11 = .ok (.ifCond .lt 7, 3) := by decide +kernel
theorem dX9_run_14 : decode cX9_run 14 = .ok (.iconst 1, 1) := by decide +kernel
theorem dX9_run_15 : decode cX9_run 15 = .ok (.goto 4, 3) := by decide +kernel
theorem dX9_run_18 : decode cX9_run 18 = .ok (.iconst 0, 1) := by decide +kernel
theorem dX9_run_19 : decode cX9_run 19 = .ok (.istore 4, 2) := by decide +kernel
theorem dX9_run_21 : decode cX9_run 21 = .ok (.iconst 0, 1) := by decide +kernel
theorem dX9_run_22 : decode cX9_run 22 = .ok (.istore 5, 2) := by decide +kernel
theorem dX9_run_24 : decode cX9_run 24 = .ok (.iload 5, 2) := by decide +kernel
theorem dX9_run_26 : decode cX9_run 26 = .ok (.iload_n 2, 1) := by decide +kernel
theorem dX9_run_27 : decode cX9_run 27 = .ok (.if_icmp .ge 64, 3) := by decide +kernel
theorem dX9_run_30 : decode cX9_run 30 = .ok (.aload_n 0, 1) := by decide +kernel
theorem dX9_run_31 : decode cX9_run 31 = .ok (.aload_n 0, 1) := by decide +kernel
theorem dX9_run_32 : decode cX9_run 32 = .ok (.getfield 62, 3) := by decide +kernel
theorem dX9_run_35 : decode cX9_run 35 = .ok (.iload_n 1, 1) := by decide +kernel
theorem dX9_run_36 : decode cX9_run 36 = .ok (.iload 5, 2) := by decide +kernel
theorem dX9_run_38 : decode cX9_run 38 = .ok (.iadd, 1) := by decide +kernel
theorem dX9_run_39 : decode cX9_run 39 = .ok (.iaload, 1) := by decide +kernel
theorem dX9_run_40 : decode cX9_run 40 = .ok (.iload_n 3, 1) := by decide +kernel
theorem dX9_run_41 : decode cX9_run 41 = .ok (.invokevirtual 166, 3) := by decide +kernel
theorem dX9_run_44 : decode cX9_run 44 = .ok (.ifCond .lt 7, 3) := by decide +kernel
theorem dX9_run_47 : decode cX9_run 47 = .ok (.iconst 1, 1) := by decide +kernel
theorem dX9_run_48 : decode cX9_run 48 = .ok (.goto 4, 3) := by decide +kernel
theorem dX9_run_51 : decode cX9_run 51 = .ok (.iconst 0, 1) := by decide +kernel
theorem dX9_run_52 : decode cX9_run 52 = .ok (.iload 4, 2) := by decide +kernel
theorem dX9_run_54 : decode cX9_run 54 = .ok (.if_icmp .ne 37, 3) := by decide +kernel
theorem dX9_run_57 : decode cX9_run 57 = .ok (.aload_n 0, 1) := by decide +kernel
theorem dX9_run_58 : decode cX9_run 58 = .ok (.getfield 62, 3) := by decide +kernel
theorem dX9_run_61 : decode cX9_run 61 = .ok (.aload_n 0, 1) := by decide +kernel
theorem dX9_run_62 : decode cX9_run 62 = .ok (.getfield 160, 3) := by decide +kernel
theorem dX9_run_65 : decode cX9_run 65 = .ok (.aload_n 0, 1) := by decide +kernel
theorem dX9_run_66 : decode cX9_run 66 = .ok (.getfield 62, 3) := by decide +kernel
theorem dX9_run_69 : decode cX9_run 69 = .ok (.iload_n 1, 1) := by decide +kernel
theorem dX9_run_70 : decode cX9_run 70 = .ok (.iload 5, 2) := by decide +kernel
theorem dX9_run_72 : decode cX9_run 72 = .ok (.iadd, 1) := by decide +kernel
theorem dX9_run_73 : decode cX9_run 73 = .ok (.iaload, 1) := by decide +kernel
theorem dX9_run_74 : decode cX9_run 74 = .ok (.iastore, 1) := by decide +kernel
theorem dX9_run_75 : decode cX9_run 75 = .ok (.aload_n 0, 1) := by decide +kernel
theorem dX9_run_76 : decode cX9_run 76 = .ok (.dup, 1) := by decide +kernel
theorem dX9_run_77 : decode cX9_run 77 = .ok (.getfield 160, 3) := by decide +kernel
theorem dX9_run_80 : decode cX9_run 80 = .ok (.iconst 1, 1) := by decide +kernel
theorem dX9_run_81 : decode cX9_run 81 = .ok (.iadd, 1) := by decide +kernel
theorem dX9_run_82 : decode cX9_run 82 = .ok (.putfield 160, 3) := by decide +kernel
theorem dX9_run_85 : decode cX9_run 85 = .ok (.iinc 5 1, 3) := by decide +kernel
theorem dX9_run_88 : decode cX9_run 88 = .ok (.goto (-64), 3) := by decide +kernel
theorem dX9_run_91 : decode cX9_run 91 = .ok (.iload 5, 2) := by decide +kernel
theorem dX9_run_93 : decode cX9_run 93 = .ok (.ireturn, 1) := by decide +kernel
theorem dX9_lay_0 : decode cX9_lay 0 = .ok (.aload_n 0, 1) := by decide +kernel
theorem dX9_lay_1 : decode cX9_lay 1 = .ok (.iconst 0, 1) := by decide +kernel
theorem dX9_lay_2 : decode cX9_lay 2 = .ok (.putfield 169, 3) := by decide +kernel
theorem dX9_lay_5 : decode cX9_lay 5 = .ok (.aload_n 0, 1) := by decide +kernel
theorem dX9_lay_6 : decode cX9_lay 6 = .ok (.iconst 0, 1) := by decide +kernel
theorem dX9_lay_7 : decode cX9_lay 7 = .ok (.putfield 172, 3) := by decide +kernel
theorem dX9_lay_10 : decode cX9_lay 10 = .ok (.aload_n 0, 1) := by decide +kernel
theorem dX9_lay_11 : decode cX9_lay 11 = .ok (.iconst 0, 1) := by decide +kernel
theorem dX9_lay_12 : decode cX9_lay 12 = .ok (.putfield 175, 3) := by decide +kernel
theorem dX9_lay_15 : decode cX9_lay 15 = .ok (.aload_n 0, 1) := by decide +kernel
theorem dX9_lay_16 : decode cX9_lay 16 = .ok (.iconst 0, 1) := by decide +kernel
theorem dX9_lay_17 : decode cX9_lay 17 = .ok (.putfield 178, 3) := by decide +kernel
theorem dX9_lay_20 : decode cX9_lay 20 = .ok (.aload_n 0, 1) := by decide +kernel
theorem dX9_lay_21 : decode cX9_lay 21 = .ok (.iconst 0, 1) := by decide +kernel
theorem dX9_lay_22 : decode cX9_lay 22 = .ok (.putfield 181, 3) := by decide +kernel
theorem dX9_lay_25 : decode cX9_lay 25 = .ok (.aload_n 0, 1) := by decide +kernel
theorem dX9_lay_26 : decode cX9_lay 26 = .ok (.getfield 133, 3) := by decide +kernel
theorem dX9_lay_29 : decode cX9_lay 29 = .ok (.ifCond .ne 4, 3) := by decide +kernel
theorem dX9_lay_32 : decode cX9_lay 32 = .ok (.return_, 1) := by decide +kernel
theorem dX9_lay_33 : decode cX9_lay 33 = .ok (.aload_n 0, 1) := by decide +kernel
theorem dX9_lay_34 : decode cX9_lay 34 = .ok (.invokevirtual 185, 3) := by decide +kernel
theorem dX9_lay_37 : decode cX9_lay 37 = .ok (.aload_n 0, 1) := by decide +kernel
theorem dX9_lay_38 : decode cX9_lay 38 = .ok (.aload_n 0, 1) := by decide +kernel
theorem dX9_lay_39 : decode cX9_lay 39 = .ok (.iconst 0, 1) := by decide +kernel
theorem dX9_lay_40 : decode cX9_lay 40 = .ok (.aload_n 0, 1) := by decide +kernel
theorem dX9_lay_41 : decode cX9_lay 41 = .ok (.getfield 133, 3) := by decide +kernel
theorem dX9_lay_44 : decode cX9_lay 44 = .ok (.iconst (-1), 1) := by decide +kernel
theorem dX9_lay_45 : decode cX9_lay 45 = .ok (.iconst 0, 1) := by decide +kernel
theorem dX9_lay_46 : decode cX9_lay 46 = .ok (.invokestatic 188, 3) := by decide +kernel
theorem dX9_lay_49 : decode cX9_lay 49 = .ok (.putfield 181, 3) := by decide +kernel
theorem dX9_lay_52 : decode cX9_lay 52 = .ok (.return_, 1) := by decide +kernel
theorem dX9_node_0 : decode cX9_node 0 = .ok (.aload_n 0, 1) := by decide +kernel
theorem dX9_node_1 : decode cX9_node 1 = .ok (.getfield 68, 3) := by decide +kernel
theorem dX9_node_4 : decode cX9_node 4 = .ok (.aload_n 0, 1) := by decide +kernel
theorem dX9_node_5 : decode cX9_node 5 = .ok (.getfield 169, 3) := by decide +kernel
theorem dX9_node_8 : decode cX9_node 8 = .ok (.iload_n 1, 1) := by decide +kernel
theorem dX9_node_9 : decode cX9_node 9 = .ok (.iastore, 1) := by decide +kernel
theorem dX9_node_10 : decode cX9_node 10 = .ok (.aload_n 0, 1) := by decide +kernel
theorem dX9_node_11 : decode cX9_node 11 = .ok (.getfield 71, 3) := by decide +kernel
theorem dX9_node_14 : decode cX9_node 14 = .ok (.aload_n 0, 1) := by decide +kernel
theorem dX9_node_15 : decode cX9_node 15 = .ok (.getfield 169, 3) := by decide +kernel
theorem dX9_node_18 : decode cX9_node 18 = .ok (.iload_n 2, 1) := by decide +kernel
theorem dX9_node_19 : decode cX9_node 19 = .ok (.iastore, 1) := by decide +kernel
theorem dX9_node_20 : decode cX9_node 20 = .ok (.aload_n 0, 1) := by decide +kernel
theorem dX9_node_21 : decode cX9_node 21 = .ok (.getfield 74, 3) := by decide +kernel
theorem dX9_node_24 : decode cX9_node 24 = .ok (.aload_n 0, 1) := by decide +kernel
theorem dX9_node_25 : decode cX9_node 25 = .ok (.getfield 169, 3) := by decide +kernel
theorem dX9_node_28 : decode cX9_node 28 = .ok (.iconst (-1), 1) := by decide +kernel
theorem dX9_node_29 : decode cX9_node 29 = .ok (.iastore, 1) := by decide +kernel
theorem dX9_node_30 : decode cX9_node 30 = .ok (.aload_n 0, 1) := by decide +kernel
theorem dX9_node_31 : decode cX9_node 31 = .ok (.getfield 77, 3) := by decide +kernel
theorem dX9_node_34 : decode cX9_node 34 = .ok (.aload_n 0, 1) := by decide +kernel
theorem dX9_node_35 : decode cX9_node 35 = .ok (.getfield 169, 3) := by decide +kernel
theorem dX9_node_38 : decode cX9_node 38 = .ok (.iconst (-1), 1) := by decide +kernel
theorem dX9_node_39 : decode cX9_node 39 = .ok (.iastore, 1) := by decide +kernel
theorem dX9_node_40 : decode cX9_node 40 = .ok (.aload_n 0, 1) := by decide +kernel
theorem dX9_node_41 : decode cX9_node 41 = .ok (.getfield 80, 3) := by decide +kernel
theorem dX9_node_44 : decode cX9_node 44 = .ok (.aload_n 0, 1) := by decide +kernel
theorem dX9_node_45 : decode cX9_node 45 = .ok (.getfield 169, 3) := by decide +kernel
theorem dX9_node_48 : decode cX9_node 48 = .ok (.iconst 0, 1) := by decide +kernel
theorem dX9_node_49 : decode cX9_node 49 = .ok (.iastore, 1) := by decide +kernel
theorem dX9_node_50 : decode cX9_node 50 = .ok (.aload_n 0, 1) := by decide +kernel
theorem dX9_node_51 : decode cX9_node 51 = .ok (.getfield 83, 3) := by decide +kernel
theorem dX9_node_54 : decode cX9_node 54 = .ok (.aload_n 0, 1) := by decide +kernel
theorem dX9_node_55 : decode cX9_node 55 = .ok (.getfield 169, 3) := by decide +kernel
theorem dX9_node_58 : decode cX9_node 58 = .ok (.iload_n 3, 1) := by decide +kernel
theorem dX9_node_59 : decode cX9_node 59 = .ok (.iastore, 1) := by decide +kernel
theorem dX9_node_60 : decode cX9_node 60 = .ok (.aload_n 0, 1) := by decide +kernel
theorem dX9_node_61 : decode cX9_node 61 = .ok (.getfield 86, 3) := by decide +kernel
theorem dX9_node_64 : decode cX9_node 64 = .ok (.aload_n 0, 1) := by decide +kernel
theorem dX9_node_65 : decode cX9_node 65 = .ok (.getfield 169, 3) := by decide +kernel
theorem dX9_node_68 : decode cX9_node 68 = .ok (.iload 4, 2) := by decide +kernel
theorem dX9_node_70 : decode cX9_node 70 = .ok (.iastore, 1) := by decide +kernel
theorem dX9_node_71 : decode cX9_node 71 = .ok (.aload_n 0, 1) := by decide +kernel
theorem dX9_node_72 : decode cX9_node 72 = .ok (.aload_n 0, 1) := by decide +kernel
theorem dX9_node_73 : decode cX9_node 73 = .ok (.getfield 178, 3) := by decide +kernel
theorem dX9_node_76 : decode cX9_node 76 = .ok (.iload 4, 2) := by decide +kernel
theorem dX9_node_78 : decode cX9_node 78 = .ok (.invokestatic 192, 3) := by decide +kernel
theorem dX9_node_81 : decode cX9_node 81 = .ok (.putfield 178, 3) := by decide +kernel
theorem dX9_node_84 : decode cX9_node 84 = .ok (.aload_n 0, 1) := by decide +kernel
theorem dX9_node_85 : decode cX9_node 85 = .ok (.dup, 1) := by decide +kernel
theorem dX9_node_86 : decode cX9_node 86 = .ok (.getfield 172, 3) := by decide +kernel
theorem dX9_node_89 : decode cX9_node 89 = .ok (.iload_n 1, 1) := by decide +kernel
theorem dX9_node_90 : decode cX9_node 90 = .ok (.iconst 2, 1) := by decide +kernel
theorem dX9_node_91 : decode cX9_node 91 = .ok (.if_icmp .ne 7, 3) := by decide +kernel
theorem dX9_node_94 : decode cX9_node 94 = .ok (.iconst 1, 1) := by decide +kernel
theorem dX9_node_95 : decode cX9_node 95 = .ok (.goto 4, 3) := by decide +kernel
theorem dX9_node_98 : decode cX9_node 98 = .ok (.iconst 0, 1) := by decide +kernel
theorem dX9_node_99 : decode cX9_node 99 = .ok (.iadd, 1) := by decide +kernel
theorem dX9_node_100 : decode cX9_node 100 = .ok (.putfield 172, 3) := by decide +kernel
theorem dX9_node_103 : decode cX9_node 103 = .ok (.aload_n 0, 1) := by decide +kernel
theorem dX9_node_104 : decode cX9_node 104 = .ok (.dup, 1) := by decide +kernel
theorem dX9_node_105 : decode cX9_node 105 = .ok (.getfield 175, 3) := by decide +kernel
theorem dX9_node_108 : decode cX9_node 108 = .ok (.iload_n 1, 1) := by decide +kernel
theorem dX9_node_109 : decode cX9_node 109 = .ok (.iconst 1, 1) := by decide +kernel
theorem dX9_node_110 : decode cX9_node 110 = .ok (.if_icmp .ne 7, 3) := by decide +kernel
theorem dX9_node_113 : decode cX9_node 113 = .ok (.iconst 1, 1) := by decide +kernel
theorem dX9_node_114 : decode cX9_node 114 = .ok (.goto 4, 3) := by decide +kernel
theorem dX9_node_117 : decode cX9_node 117 = .ok (.iconst 0, 1) := by decide +kernel
theorem dX9_node_118 : decode cX9_node 118 = .ok (.iadd, 1) := by decide +kernel
theorem dX9_node_119 : decode cX9_node 119 = .ok (.putfield 175, 3) := by decide +kernel
theorem dX9_node_122 : decode cX9_node 122 = .ok (.aload_n 0, 1) := by decide +kernel
theorem dX9_node_123 : decode cX9_node 123 = .ok (.dup, 1) := by decide +kernel
theorem dX9_node_124 : decode cX9_node 124 = .ok (.getfield 169, 3) := by decide +kernel
theorem dX9_node_127 : decode cX9_node 127 = .ok (.iconst 1, 1) := by decide +kernel
theorem dX9_node_128 : decode cX9_node 128 = .ok (.iadd, 1) := by decide +kernel
theorem dX9_node_129 : decode cX9_node 129 = .ok (.putfield 169, 3) := by decide +kernel
theorem dX9_node_132 : decode cX9_node 132 = .ok (.aload_n 0, 1) := by decide +kernel
theorem dX9_node_133 : decode cX9_node 133 = .ok (.getfield 169, 3) := by decide +kernel
theorem dX9_node_136 : decode cX9_node 136 = .ok (.iconst 1, 1) := by decide +kernel
theorem dX9_node_137 : decode cX9_node 137 = .ok (.isub, 1) := by decide +kernel
theorem dX9_node_138 : decode cX9_node 138 = .ok (.ireturn, 1) := by decide +kernel
theorem dX9_laid_0 : decode cX9_laid 0 = .ok (.aload_n 0, 1) := by decide +kernel
theorem dX9_laid_1 : decode cX9_laid 1 = .ok (.iload_n 1, 1) := by decide +kernel
theorem dX9_laid_2 : decode cX9_laid 2 = .ok (.iload_n 2, 1) := by decide +kernel
theorem dX9_laid_3 : decode cX9_laid 3 = .ok (.invokevirtual 197, 3) := by decide +kernel
theorem dX9_laid_6 : decode cX9_laid 6 = .ok (.istore 5, 2) := by decide +kernel
theorem dX9_laid_8 : decode cX9_laid 8 = .ok (.iload 5, 2) := by decide +kernel
theorem dX9_laid_10 : decode cX9_laid 10 = .ok (.iconst (-1), 1) := by decide +kernel
theorem dX9_laid_11 : decode cX9_laid 11 = .ok (.if_icmp .ne 31, 3) := by decide +kernel
theorem dX9_laid_14 : decode cX9_laid 14 = .ok (.iload_n 2, 1) := by decide +kernel
theorem dX9_laid_15 : decode cX9_laid 15 = .ok (.iconst 1, 1) := by decide +kernel
theorem dX9_laid_16 : decode cX9_laid 16 = .ok (.if_icmp .ne 26, 3) := by decide +kernel
theorem dX9_laid_19 : decode cX9_laid 19 = .ok (.aload_n 0, 1) := by decide +kernel
theorem dX9_laid_20 : decode cX9_laid 20 = .ok (.iconst 0, 1) := by decide +kernel
theorem dX9_laid_21 : decode cX9_laid 21 = .ok (.aload_n 0, 1) := by decide +kernel
theorem dX9_laid_22 : decode cX9_laid 22 = .ok (.getfield 62, 3) := by decide +kernel
theorem dX9_laid_25 : decode cX9_laid 25 = .ok (.iload_n 1, 1) := by decide +kernel
theorem dX9_laid_26 : decode cX9_laid 26 = .ok (.iaload, 1) := by decide +kernel
theorem dX9_laid_27 : decode cX9_laid 27 = .ok (.iload_n 3, 1) := by decide +kernel
theorem dX9_laid_28 : decode cX9_laid 28 = .ok (.iload 4, 2) := by decide +kernel
theorem dX9_laid_30 : decode cX9_laid 30 = .ok (.invokevirtual 200, 3) := by decide +kernel
theorem dX9_laid_33 : decode cX9_laid 33 = .ok (.ifCond .lt 7, 3) := by decide +kernel
theorem dX9_laid_36 : decode cX9_laid 36 = .ok (.iconst 1, 1) := by decide +kernel
theorem dX9_laid_37 : decode cX9_laid 37 = .ok (.goto 4, 3) := by decide +kernel
theorem dX9_laid_40 : decode cX9_laid 40 = .ok (.iconst 0, 1) := by decide +kernel
theorem dX9_laid_41 : decode cX9_laid 41 = .ok (.ireturn, 1) := by decide +kernel
theorem dX9_laid_42 : decode cX9_laid 42 = .ok (.iload 5, 2) := by decide +kernel
theorem dX9_laid_44 : decode cX9_laid 44 = .ok (.ifCond .lt 15, 3) := by decide +kernel
theorem dX9_laid_47 : decode cX9_laid 47 = .ok (.iload 5, 2) := by decide +kernel
theorem dX9_laid_49 : decode cX9_laid 49 = .ok (.sipush 170, 3) := by decide +kernel
theorem dX9_laid_52 : decode cX9_laid 52 = .ok (.if_icmp .ge 7, 3) := by decide +kernel
theorem dX9_laid_55 : decode cX9_laid 55 = .ok (.iconst 1, 1) := by decide +kernel
theorem dX9_laid_56 : decode cX9_laid 56 = .ok (.goto 4, 3) := by decide +kernel
theorem dX9_laid_59 : decode cX9_laid 59 = .ok (.iconst 0, 1) := by decide +kernel
theorem dX9_laid_60 : decode cX9_laid 60 = .ok (.istore 6, 2) := by decide +kernel
theorem dX9_laid_62 : decode cX9_laid 62 = .ok (.aload_n 0, 1) := by decide +kernel
theorem dX9_laid_63 : decode cX9_laid 63 = .ok (.iload 6, 2) := by decide +kernel
theorem dX9_laid_65 : decode cX9_laid 65 = .ok (.ifCond .eq 7, 3) := by decide +kernel
theorem dX9_laid_68 : decode cX9_laid 68 = .ok (.iconst 1, 1) := by decide +kernel
theorem dX9_laid_69 : decode cX9_laid 69 = .ok (.goto 4, 3) := by decide +kernel
theorem dX9_laid_72 : decode cX9_laid 72 = .ok (.iconst 2, 1) := by decide +kernel
theorem dX9_laid_73 : decode cX9_laid 73 = .ok (.iconst 0, 1) := by decide +kernel
theorem dX9_laid_74 : decode cX9_laid 74 = .ok (.iload_n 3, 1) := by decide +kernel
theorem dX9_laid_75 : decode cX9_laid 75 = .ok (.iload 4, 2) := by decide +kernel
theorem dX9_laid_77 : decode cX9_laid 77 = .ok (.invokevirtual 200, 3) := by decide +kernel
theorem dX9_laid_80 : decode cX9_laid 80 = .ok (.istore 7, 2) := by decide +kernel
theorem dX9_laid_82 : decode cX9_laid 82 = .ok (.aload_n 0, 1) := by decide +kernel
theorem dX9_laid_83 : decode cX9_laid 83 = .ok (.getfield 160, 3) := by decide +kernel
theorem dX9_laid_86 : decode cX9_laid 86 = .ok (.istore 8, 2) := by decide +kernel
theorem dX9_laid_88 : decode cX9_laid 88 = .ok (.iload 6, 2) := by decide +kernel
theorem dX9_laid_90 : decode cX9_laid 90 = .ok (.istore 9, 2) := by decide +kernel
theorem dX9_laid_92 : decode cX9_laid 92 = .ok (.iload 5, 2) := by decide +kernel
theorem dX9_laid_94 : decode cX9_laid 94 = .ok (.iconst (-1), 1) := by decide +kernel
theorem dX9_laid_95 : decode cX9_laid 95 = .ok (.if_icmp .ne 48, 3) := by decide +kernel
theorem dX9_laid_98 : decode cX9_laid 98 = .ok (.iload_n 1, 1) := by decide +kernel
theorem dX9_laid_99 : decode cX9_laid 99 = .ok (.istore 10, 2) := by decide +kernel
theorem dX9_laid_101 : decode cX9_laid 101 = .ok (.iload 10, 2) := by decide +kernel
theorem dX9_laid_103 : decode cX9_laid 103 = .ok (.iload_n 1, 1) := by decide +kernel
theorem dX9_laid_104 : decode cX9_laid 104 = .ok (.iload_n 2, 1) := by decide +kernel
theorem dX9_laid_105 : decode cX9_laid 105 = .ok (.iadd, 1) := by decide +kernel
theorem dX9_laid_106 : decode cX9_laid 106 = .ok (.if_icmp .ge 27, 3) := by decide +kernel
theorem dX9_laid_109 : decode cX9_laid 109 = .ok (.aload_n 0, 1) := by decide +kernel
theorem dX9_laid_110 : decode cX9_laid 110 = .ok (.iconst 0, 1) := by decide +kernel
theorem dX9_laid_111 : decode cX9_laid 111 = .ok (.aload_n 0, 1) := by decide +kernel
theorem dX9_laid_112 : decode cX9_laid 112 = .ok (.getfield 62, 3) := by decide +kernel
theorem dX9_laid_115 : decode cX9_laid 115 = .ok (.iload 10, 2) := by decide +kernel
theorem dX9_laid_117 : decode cX9_laid 117 = .ok (.iaload, 1) := by decide +kernel
theorem dX9_laid_118 : decode cX9_laid 118 = .ok (.iconst (-1), 1) := by decide +kernel
theorem dX9_laid_119 : decode cX9_laid 119 = .ok (.iload 4, 2) := by decide +kernel
theorem dX9_laid_121 : decode cX9_laid 121 = .ok (.iconst 1, 1) := by decide +kernel
theorem dX9_laid_122 : decode cX9_laid 122 = .ok (.iadd, 1) := by decide +kernel
theorem dX9_laid_123 : decode cX9_laid 123 = .ok (.invokevirtual 200, 3) := by decide +kernel
theorem dX9_laid_126 : decode cX9_laid 126 = .ok (.pop, 1) := by decide +kernel
theorem dX9_laid_127 : decode cX9_laid 127 = .ok (.iinc 10 1, 3) := by decide +kernel
theorem dX9_laid_130 : decode cX9_laid 130 = .ok (.goto (-29), 3) := by decide +kernel
theorem dX9_laid_133 : decode cX9_laid 133 = .ok (.aload_n 0, 1) := by decide +kernel
theorem dX9_laid_134 : decode cX9_laid 134 = .ok (.getfield 80, 3) := by decide +kernel
theorem dX9_laid_137 : decode cX9_laid 137 = .ok (.iload 7, 2) := by decide +kernel
theorem dX9_laid_139 : decode cX9_laid 139 = .ok (.iload_n 2, 1) := by decide +kernel
theorem dX9_laid_140 : decode cX9_laid 140 = .ok (.iastore, 1) := by decide +kernel
theorem dX9_laid_141 : decode cX9_laid 141 = .ok (.iconst 1, 1) := by decide +kernel
theorem dX9_laid_142 : decode cX9_laid 142 = .ok (.ireturn, 1) := by decide +kernel
theorem dX9_laid_143 : decode cX9_laid 143 = .ok (.iload 6, 2) := by decide +kernel
theorem dX9_laid_145 : decode cX9_laid 145 = .ok (.ifCond .eq 209, 3) := by decide +kernel
theorem dX9_laid_148 : decode cX9_laid 148 = .ok (.aload_n 0, 1) := by decide +kernel
theorem dX9_laid_149 : decode cX9_laid 149 = .ok (.getfield 62, 3) := by decide +kernel
theorem dX9_laid_152 : decode cX9_laid 152 = .ok (.iload_n 1, 1) := by decide +kernel
theorem dX9_laid_153 : decode cX9_laid 153 = .ok (.iaload, 1) := by decide +kernel
theorem dX9_laid_154 : decode cX9_laid 154 = .ok (.istore 10, 2) := by decide +kernel
theorem dX9_laid_156 : decode cX9_laid 156 = .ok (.aload_n 0, 1) := by decide +kernel
theorem dX9_laid_157 : decode cX9_laid 157 = .ok (.getfield 74, 3) := by decide +kernel
theorem dX9_laid_160 : decode cX9_laid 160 = .ok (.iload 7, 2) := by decide +kernel
theorem dX9_laid_162 : decode cX9_laid 162 = .ok (.iload 10, 2) := by decide +kernel
theorem dX9_laid_164 : decode cX9_laid 164 = .ok (.iastore, 1) := by decide +kernel
theorem dX9_laid_165 : decode cX9_laid 165 = .ok (.aload_n 0, 1) := by decide +kernel
theorem dX9_laid_166 : decode cX9_laid 166 = .ok (.getfield 77, 3) := by decide +kernel
theorem dX9_laid_169 : decode cX9_laid 169 = .ok (.iload 7, 2) := by decide +kernel
theorem dX9_laid_171 : decode cX9_laid 171 = .ok (.aload_n 0, 1) := by decide +kernel
theorem dX9_laid_172 : decode cX9_laid 172 = .ok (.getfield 59, 3) := by decide +kernel
theorem dX9_laid_175 : decode cX9_laid 175 = .ok (.sipush 170, 3) := by decide +kernel
theorem dX9_laid_178 : decode cX9_laid 178 = .ok (.iload 10, 2) := by decide +kernel
theorem dX9_laid_180 : decode cX9_laid 180 = .ok (.imul, 1) := by decide +kernel
theorem dX9_laid_181 : decode cX9_laid 181 = .ok (.iload 5, 2) := by decide +kernel
theorem dX9_laid_183 : decode cX9_laid 183 = .ok (.iadd, 1) := by decide +kernel
theorem dX9_laid_184 : decode cX9_laid 184 = .ok (.iaload, 1) := by decide +kernel
theorem dX9_laid_185 : decode cX9_laid 185 = .ok (.iastore, 1) := by decide +kernel
theorem dX9_laid_186 : decode cX9_laid 186 = .ok (.aload_n 0, 1) := by decide +kernel
theorem dX9_laid_187 : decode cX9_laid 187 = .ok (.getfield 9, 3) := by decide +kernel
theorem dX9_laid_190 : decode cX9_laid 190 = .ok (.aload_n 0, 1) := by decide +kernel
theorem dX9_laid_191 : decode cX9_laid 191 = .ok (.iload 10, 2) := by decide +kernel
theorem dX9_laid_193 : decode cX9_laid 193 = .ok (.iload 5, 2) := by decide +kernel
theorem dX9_laid_195 : decode cX9_laid 195 = .ok (.invokevirtual 166, 3) := by decide +kernel
theorem dX9_laid_198 : decode cX9_laid 198 = .ok (.iaload, 1) := by decide +kernel
theorem dX9_laid_199 : decode cX9_laid 199 = .ok (.istore 11, 2) := by decide +kernel
theorem dX9_laid_201 : decode cX9_laid 201 = .ok (.iconst 0, 1) := by decide +kernel
theorem dX9_laid_202 : decode cX9_laid 202 = .ok (.istore 12, 2) := by decide +kernel
theorem dX9_laid_204 : decode cX9_laid 204 = .ok (.iload 12, 2) := by decide +kernel
theorem dX9_laid_206 : decode cX9_laid 206 = .ok (.aload_n 0, 1) := by decide +kernel
theorem dX9_laid_207 : decode cX9_laid 207 = .ok (.getfield 124, 3) := by decide +kernel
theorem dX9_laid_210 : decode cX9_laid 210 = .ok (.if_icmp .ge 141, 3) := by decide +kernel
theorem dX9_laid_213 : decode cX9_laid 213 = .ok (.aload_n 0, 1) := by decide +kernel
theorem dX9_laid_214 : decode cX9_laid 214 = .ok (.getfield 9, 3) := by decide +kernel
theorem dX9_laid_217 : decode cX9_laid 217 = .ok (.iload 12, 2) := by decide +kernel
theorem dX9_laid_219 : decode cX9_laid 219 = .ok (.iaload, 1) := by decide +kernel
theorem dX9_laid_220 : decode cX9_laid 220 = .ok (.iload 11, 2) := by decide +kernel
theorem dX9_laid_222 : decode cX9_laid 222 = .ok (.if_icmp .eq 6, 3) := by decide +kernel
theorem dX9_laid_225 : decode cX9_laid 225 = .ok (.goto 120, 3) := by decide +kernel
theorem dX9_laid_228 : decode cX9_laid 228 = .ok (.aload_n 0, 1) := by decide +kernel
theorem dX9_laid_229 : decode cX9_laid 229 = .ok (.iload_n 1, 1) := by decide +kernel
theorem dX9_laid_230 : decode cX9_laid 230 = .ok (.iload_n 2, 1) := by decide +kernel
theorem dX9_laid_231 : decode cX9_laid 231 = .ok (.iload 5, 2) := by decide +kernel
theorem dX9_laid_233 : decode cX9_laid 233 = .ok (.iload 12, 2) := by decide +kernel
theorem dX9_laid_235 : decode cX9_laid 235 = .ok (.invokevirtual 204, 3) := by decide +kernel
theorem dX9_laid_238 : decode cX9_laid 238 = .ok (.istore 13, 2) := by decide +kernel
theorem dX9_laid_240 : decode cX9_laid 240 = .ok (.iload 9, 2) := by decide +kernel
theorem dX9_laid_242 : decode cX9_laid 242 = .ok (.ifCond .eq 12, 3) := by decide +kernel
theorem dX9_laid_245 : decode cX9_laid 245 = .ok (.iload 13, 2) := by decide +kernel
theorem dX9_laid_247 : decode cX9_laid 247 = .ok (.ifCond .le 7, 3) := by decide +kernel
theorem dX9_laid_250 : decode cX9_laid 250 = .ok (.iconst 1, 1) := by decide +kernel
theorem dX9_laid_251 : decode cX9_laid 251 = .ok (.goto 4, 3) := by decide +kernel
theorem dX9_laid_254 : decode cX9_laid 254 = .ok (.iconst 0, 1) := by decide +kernel
theorem dX9_laid_255 : decode cX9_laid 255 = .ok (.istore 9, 2) := by decide +kernel
theorem dX9_laid_257 : decode cX9_laid 257 = .ok (.iload 13, 2) := by decide +kernel
theorem dX9_laid_259 : decode cX9_laid 259 = .ok (.ifCond .ne 6, 3) := by decide +kernel
theorem dX9_laid_262 : decode cX9_laid 262 = .ok (.goto 83, 3) := by decide +kernel
theorem dX9_laid_265 : decode cX9_laid 265 = .ok (.aload_n 0, 1) := by decide +kernel
theorem dX9_laid_266 : decode cX9_laid 266 = .ok (.getfield 80, 3) := by decide +kernel
theorem dX9_laid_269 : decode cX9_laid 269 = .ok (.iload 7, 2) := by decide +kernel
theorem dX9_laid_271 : decode cX9_laid 271 = .ok (.dup2, 1) := by decide +kernel
theorem dX9_laid_272 : decode cX9_laid 272 = .ok (.iaload, 1) := by decide +kernel
theorem dX9_laid_273 : decode cX9_laid 273 = .ok (.iconst 1, 1) := by decide +kernel
theorem dX9_laid_274 : decode cX9_laid 274 = .ok (.iadd, 1) := by decide +kernel
theorem dX9_laid_275 : decode cX9_laid 275 = .ok (.iastore, 1) := by decide +kernel
theorem dX9_laid_276 : decode cX9_laid 276 = .ok (.aload_n 0, 1) := by decide +kernel
theorem dX9_laid_277 : decode cX9_laid 277 = .ok (.iload 8, 2) := by decide +kernel
theorem dX9_laid_279 : decode cX9_laid 279 = .ok (.iload 13, 2) := by decide +kernel
theorem dX9_laid_281 : decode cX9_laid 281 = .ok (.iload 5, 2) := by decide +kernel
theorem dX9_laid_283 : decode cX9_laid 283 = .ok (.aload_n 0, 1) := by decide +kernel
theorem dX9_laid_284 : decode cX9_laid 284 = .ok (.getfield 13, 3) := by decide +kernel
theorem dX9_laid_287 : decode cX9_laid 287 = .ok (.iload 12, 2) := by decide +kernel
theorem dX9_laid_289 : decode cX9_laid 289 = .ok (.iaload, 1) := by decide +kernel
theorem dX9_laid_290 : decode cX9_laid 290 = .ok (.invokevirtual 207, 3) := by decide +kernel
theorem dX9_laid_293 : decode cX9_laid 293 = .ok (.aload_n 0, 1) := by decide +kernel
theorem dX9_laid_294 : decode cX9_laid 294 = .ok (.iload 8, 2) := by decide +kernel
theorem dX9_laid_296 : decode cX9_laid 296 = .ok (.iload 13, 2) := by decide +kernel
theorem dX9_laid_298 : decode cX9_laid 298 = .ok (.iload 12, 2) := by decide +kernel
theorem dX9_laid_300 : decode cX9_laid 300 = .ok (.iload 4, 2) := by decide +kernel
theorem dX9_laid_302 : decode cX9_laid 302 = .ok (.iconst 1, 1) := by decide +kernel
theorem dX9_laid_303 : decode cX9_laid 303 = .ok (.iadd, 1) := by decide +kernel
theorem dX9_laid_304 : decode cX9_laid 304 = .ok (.invokestatic 188, 3) := by decide +kernel
theorem dX9_laid_307 : decode cX9_laid 307 = .ok (.ifCond .eq 12, 3) := by decide +kernel
theorem dX9_laid_310 : decode cX9_laid 310 = .ok (.iload 9, 2) := by decide +kernel
theorem dX9_laid_312 : decode cX9_laid 312 = .ok (.ifCond .eq 7, 3) := by decide +kernel
theorem dX9_laid_315 : decode cX9_laid 315 = .ok (.iconst 1, 1) := by decide +kernel
theorem dX9_laid_316 : decode cX9_laid 316 = .ok (.goto 4, 3) := by decide +kernel
theorem dX9_laid_319 : decode cX9_laid 319 = .ok (.iconst 0, 1) := by decide +kernel
theorem dX9_laid_320 : decode cX9_laid 320 = .ok (.istore 9, 2) := by decide +kernel
theorem dX9_laid_322 : decode cX9_laid 322 = .ok (.aload_n 0, 1) := by decide +kernel
theorem dX9_laid_323 : decode cX9_laid 323 = .ok (.iload 8, 2) := by decide +kernel
theorem dX9_laid_325 : decode cX9_laid 325 = .ok (.iload 13, 2) := by decide +kernel
theorem dX9_laid_327 : decode cX9_laid 327 = .ok (.iload 5, 2) := by decide +kernel
theorem dX9_laid_329 : decode cX9_laid 329 = .ok (.aload_n 0, 1) := by decide +kernel
theorem dX9_laid_330 : decode cX9_laid 330 = .ok (.getfield 13, 3) := by decide +kernel
theorem dX9_laid_333 : decode cX9_laid 333 = .ok (.iload 12, 2) := by decide +kernel
theorem dX9_laid_335 : decode cX9_laid 335 = .ok (.iaload, 1) := by decide +kernel
theorem dX9_laid_336 : decode cX9_laid 336 = .ok (.invokevirtual 211, 3) := by decide +kernel
theorem dX9_laid_339 : decode cX9_laid 339 = .ok (.aload_n 0, 1) := by decide +kernel
theorem dX9_laid_340 : decode cX9_laid 340 = .ok (.iload 8, 2) := by decide +kernel
theorem dX9_laid_342 : decode cX9_laid 342 = .ok (.putfield 160, 3) := by decide +kernel
theorem dX9_laid_345 : decode cX9_laid 345 = .ok (.iinc 12 1, 3) := by decide +kernel
theorem dX9_laid_348 : decode cX9_laid 348 = .ok (.goto (-144), 3) := by decide +kernel
theorem dX9_laid_351 : decode cX9_laid 351 = .ok (.iload 9, 2) := by decide +kernel
theorem dX9_laid_353 : decode cX9_laid 353 = .ok (.ireturn, 1) := by decide +kernel
theorem dX9_laid_354 : decode cX9_laid 354 = .ok (.iconst 0, 1) := by decide +kernel
theorem dX9_laid_355 : decode cX9_laid 355 = .ok (.istore 10, 2) := by decide +kernel
theorem dX9_laid_357 : decode cX9_laid 357 = .ok (.iload 10, 2) := by decide +kernel
theorem dX9_laid_359 : decode cX9_laid 359 = .ok (.iload_n 2, 1) := by decide +kernel
theorem dX9_laid_360 : decode cX9_laid 360 = .ok (.if_icmp .ge 78, 3) := by decide +kernel
theorem dX9_laid_363 : decode cX9_laid 363 = .ok (.aload_n 0, 1) := by decide +kernel
theorem dX9_laid_364 : decode cX9_laid 364 = .ok (.iload_n 1, 1) := by decide +kernel
theorem dX9_laid_365 : decode cX9_laid 365 = .ok (.iload 10, 2) := by decide +kernel
theorem dX9_laid_367 : decode cX9_laid 367 = .ok (.iadd, 1) := by decide +kernel
theorem dX9_laid_368 : decode cX9_laid 368 = .ok (.iload_n 2, 1) := by decide +kernel
theorem dX9_laid_369 : decode cX9_laid 369 = .ok (.iload 10, 2) := by decide +kernel
theorem dX9_laid_371 : decode cX9_laid 371 = .ok (.isub, 1) := by decide +kernel
theorem dX9_laid_372 : decode cX9_laid 372 = .ok (.iload 5, 2) := by decide +kernel
theorem dX9_laid_374 : decode cX9_laid 374 = .ok (.sipush 170, 3) := by decide +kernel
theorem dX9_laid_377 : decode cX9_laid 377 = .ok (.isub, 1) := by decide +kernel
theorem dX9_laid_378 : decode cX9_laid 378 = .ok (.invokevirtual 214, 3) := by decide +kernel
theorem dX9_laid_381 : decode cX9_laid 381 = .ok (.istore 11, 2) := by decide +kernel
theorem dX9_laid_383 : decode cX9_laid 383 = .ok (.aload_n 0, 1) := by decide +kernel
theorem dX9_laid_384 : decode cX9_laid 384 = .ok (.getfield 80, 3) := by decide +kernel
theorem dX9_laid_387 : decode cX9_laid 387 = .ok (.iload 7, 2) := by decide +kernel
theorem dX9_laid_389 : decode cX9_laid 389 = .ok (.dup2, 1) := by decide +kernel
theorem dX9_laid_390 : decode cX9_laid 390 = .ok (.iaload, 1) := by decide +kernel
theorem dX9_laid_391 : decode cX9_laid 391 = .ok (.iconst 1, 1) := by decide +kernel
theorem dX9_laid_392 : decode cX9_laid 392 = .ok (.iadd, 1) := by decide +kernel
theorem dX9_laid_393 : decode cX9_laid 393 = .ok (.iastore, 1) := by decide +kernel
theorem dX9_laid_394 : decode cX9_laid 394 = .ok (.aload_n 0, 1) := by decide +kernel
