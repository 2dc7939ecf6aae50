theorem dX7_init_0 : decode cX7_init 0 = .ok (.aload_n 0, 1) := by decide +kernel
theorem dX7_init_1 : decode cX7_init 1 = .ok (.invokespecial 3, 3) := by decide +kernel
theorem dX7_init_4 : decode cX7_init 4 = .ok (.aload_n 0, 1) := by decide +kernel
theorem dX7_init_5 : decode cX7_init 5 = .ok (.sipush 187, 3) := by decide +kernel
theorem dX7_init_8 : decode cX7_init 8 = .ok (.newarray .int, 2) := by decide +kernel
theorem dX7_init_10 : decode cX7_init 10 = .ok (.putfield 9, 3) := by decide +kernel
theorem dX7_init_13 : decode cX7_init 13 = .ok (.aload_n 0, 1) := by decide +kernel
theorem dX7_init_14 : decode cX7_init 14 = .ok (.sipush 187, 3) := by decide +kernel
theorem dX7_init_17 : decode cX7_init 17 = .ok (.newarray .int, 2) := by decide +kernel
theorem dX7_init_19 : decode cX7_init 19 = .ok (.putfield 15, 3) := by decide +kernel
theorem dX7_init_22 : decode cX7_init 22 = .ok (.aload_n 0, 1) := by decide +kernel
theorem dX7_init_23 : decode cX7_init 23 = .ok (.sipush 187, 3) := by decide +kernel
theorem dX7_init_26 : decode cX7_init 26 = .ok (.newarray .int, 2) := by decide +kernel
theorem dX7_init_28 : decode cX7_init 28 = .ok (.putfield 18, 3) := by decide +kernel
theorem dX7_init_31 : decode cX7_init 31 = .ok (.aload_n 0, 1) := by decide +kernel
theorem dX7_init_32 : decode cX7_init 32 = .ok (.sipush 187, 3) := by decide +kernel
theorem dX7_init_35 : decode cX7_init 35 = .ok (.newarray .int, 2) := by decide +kernel
theorem dX7_init_37 : decode cX7_init 37 = .ok (.putfield 21, 3) := by decide +kernel
theorem dX7_init_40 : decode cX7_init 40 = .ok (.aload_n 0, 1) := by decide +kernel
theorem dX7_init_41 : decode cX7_init 41 = .ok (.aload_n 1, 1) := by decide +kernel
theorem dX7_init_42 : decode cX7_init 42 = .ok (.putfield 24, 3) := by decide +kernel
theorem dX7_init_45 : decode cX7_init 45 = .ok (.aload_n 0, 1) := by decide +kernel
theorem dX7_init_46 : decode cX7_init 46 = .ok (.aload_n 2, 1) := by decide +kernel
theorem dX7_init_47 : decode cX7_init 47 = .ok (.putfield 28, 3) := by decide +kernel
theorem dX7_init_50 : decode cX7_init 50 = .ok (.aload_n 0, 1) := by decide +kernel
theorem dX7_init_51 : decode cX7_init 51 = .ok (.aload_n 3, 1) := by decide +kernel
theorem dX7_init_52 : decode cX7_init 52 = .ok (.putfield 32, 3) := by decide +kernel
theorem dX7_init_55 : decode cX7_init 55 = .ok (.aload_n 0, 1) := by decide +kernel
theorem dX7_init_56 : decode cX7_init 56 = .ok (.aload 4, 2) := by decide +kernel
theorem dX7_init_58 : decode cX7_init 58 = .ok (.putfield 36, 3) := by decide +kernel
theorem dX7_init_61 : decode cX7_init 61 = .ok (.return_, 1) := by decide +kernel
theorem dX7_reachesAll_0 : decode cX7_reachesAll 0 = .ok (.sipush 186, 3) := by decide +kernel
theorem dX7_reachesAll_3 : decode cX7_reachesAll 3 = .ok (.istore_n 1, 1) := by decide +kernel
theorem dX7_reachesAll_4 : decode cX7_reachesAll 4 = .ok (.iconst 0, 1) := by decide +kernel
theorem dX7_reachesAll_5 : decode cX7_reachesAll 5 = .ok (.istore_n 2, 1) := by decide +kernel
theorem dX7_reachesAll_6 : decode cX7_reachesAll 6 = .ok (.iload_n 2, 1) := by decide +kernel
theorem dX7_reachesAll_7 : decode cX7_reachesAll 7 = .ok (.aload_n 0, 1) := by decide +kernel
theorem dX7_reachesAll_8 : decode cX7_reachesAll 8 = .ok (.getfield 28, 3) := by decide +kernel
theorem dX7_reachesAll_11 : decode cX7_reachesAll 11 = .ok (.getfield 40, 3) := by decide +kernel
theorem dX7_reachesAll_14 : decode cX7_reachesAll 14 = .ok (.if_icmp .ge 124, 3) := by decide +kernel
theorem dX7_reachesAll_17 : decode cX7_reachesAll 17 = .ok (.aload_n 0, 1) := by decide +kernel
theorem dX7_reachesAll_18 : decode cX7_reachesAll 18 = .ok (.getfield 28, 3) := by decide +kernel
theorem dX7_reachesAll_21 : decode cX7_reachesAll 21 = .ok (.getfield 46, 3) := by decide +kernel
theorem dX7_reachesAll_24 : decode cX7_reachesAll 24 = .ok (.iload_n 2, 1) := by decide +kernel
theorem dX7_reachesAll_25 : decode cX7_reachesAll 25 = .ok (.invokestatic 49, 3) := by decide +kernel
theorem dX7_reachesAll_28 : decode cX7_reachesAll 28 = .ok (.istore_n 3, 1) := by decide +kernel
theorem dX7_reachesAll_29 : decode cX7_reachesAll 29 = .ok (.iload_n 3, 1) := by decide +kernel
theorem dX7_reachesAll_30 : decode cX7_reachesAll 30 = .ok (.iload_n 1, 1) := by decide +kernel
theorem dX7_reachesAll_31 : decode cX7_reachesAll 31 = .ok (.if_icmp .le 6, 3) := by decide +kernel
theorem dX7_reachesAll_34 : decode cX7_reachesAll 34 = .ok (.goto 98, 3) := by decide +kernel
theorem dX7_reachesAll_37 : decode cX7_reachesAll 37 = .ok (.aload_n 0, 1) := by decide +kernel
theorem dX7_reachesAll_38 : decode cX7_reachesAll 38 = .ok (.iload_n 2, 1) := by decide +kernel
theorem dX7_reachesAll_39 : decode cX7_reachesAll 39 = .ok (.iload_n 3, 1) := by decide +kernel
theorem dX7_reachesAll_40 : decode cX7_reachesAll 40 = .ok (.invokevirtual 53, 3) := by decide +kernel
theorem dX7_reachesAll_43 : decode cX7_reachesAll 43 = .ok (.ifCond .eq 9, 3) := by decide +kernel
theorem dX7_reachesAll_46 : decode cX7_reachesAll 46 = .ok (.sipush 186, 3) := by decide +kernel
theorem dX7_reachesAll_49 : decode cX7_reachesAll 49 = .ok (.goto 4, 3) := by decide +kernel
theorem dX7_reachesAll_52 : decode cX7_reachesAll 52 = .ok (.iload_n 3, 1) := by decide +kernel
theorem dX7_reachesAll_53 : decode cX7_reachesAll 53 = .ok (.istore_n 1, 1) := by decide +kernel
theorem dX7_reachesAll_54 : decode cX7_reachesAll 54 = .ok (.iload_n 1, 1) := by decide +kernel
theorem dX7_reachesAll_55 : decode cX7_reachesAll 55 = .ok (.sipush 186, 3) := by decide +kernel
theorem dX7_reachesAll_58 : decode cX7_reachesAll 58 = .ok (.if_icmp .ne 74, 3) := by decide +kernel
theorem dX7_reachesAll_61 : decode cX7_reachesAll 61 = .ok (.aload_n 0, 1) := by decide +kernel
theorem dX7_reachesAll_62 : decode cX7_reachesAll 62 = .ok (.getfield 28, 3) := by decide +kernel
theorem dX7_reachesAll_65 : decode cX7_reachesAll 65 = .ok (.getfield 57, 3) := by decide +kernel
theorem dX7_reachesAll_68 : decode cX7_reachesAll 68 = .ok (.iload_n 2, 1) := by decide +kernel
theorem dX7_reachesAll_69 : decode cX7_reachesAll 69 = .ok (.invokestatic 49, 3) := by decide +kernel
theorem dX7_reachesAll_72 : decode cX7_reachesAll 72 = .ok (.ifCond .ne 60, 3) := by decide +kernel
theorem dX7_reachesAll_75 : decode cX7_reachesAll 75 = .ok (.aload_n 0, 1) := by decide +kernel
theorem dX7_reachesAll_76 : decode cX7_reachesAll 76 = .ok (.getfield 32, 3) := by decide +kernel
theorem dX7_reachesAll_79 : decode cX7_reachesAll 79 = .ok (.getfield 60, 3) := by decide +kernel
theorem dX7_reachesAll_82 : decode cX7_reachesAll 82 = .ok (.sipush 400, 3) := by decide +kernel
theorem dX7_reachesAll_85 : decode cX7_reachesAll 85 = .ok (.if_icmp .le 5, 3) := by decide +kernel
theorem dX7_reachesAll_88 : decode cX7_reachesAll 88 = .ok (.iconst 0, 1) := by decide +kernel
theorem dX7_reachesAll_89 : decode cX7_reachesAll 89 = .ok (.ireturn, 1) := by decide +kernel
theorem dX7_reachesAll_90 : decode cX7_reachesAll 90 = .ok (.aload_n 0, 1) := by decide +kernel
theorem dX7_reachesAll_91 : decode cX7_reachesAll 91 = .ok (.getfield 36, 3) := by decide +kernel
theorem dX7_reachesAll_94 : decode cX7_reachesAll 94 = .ok (.aload_n 0, 1) := by decide +kernel
theorem dX7_reachesAll_95 : decode cX7_reachesAll 95 = .ok (.getfield 28, 3) := by decide +kernel
theorem dX7_reachesAll_98 : decode cX7_reachesAll 98 = .ok (.getfield 65, 3) := by decide +kernel
theorem dX7_reachesAll_101 : decode cX7_reachesAll 101 = .ok (.iload_n 2, 1) := by decide +kernel
theorem dX7_reachesAll_102 : decode cX7_reachesAll 102 = .ok (.invokestatic 49, 3) := by decide +kernel
theorem dX7_reachesAll_105 : decode cX7_reachesAll 105 = .ok (.aload_n 0, 1) := by decide +kernel
theorem dX7_reachesAll_106 : decode cX7_reachesAll 106 = .ok (.getfield 18, 3) := by decide +kernel
theorem dX7_reachesAll_109 : decode cX7_reachesAll 109 = .ok (.iload_n 3, 1) := by decide +kernel
theorem dX7_reachesAll_110 : decode cX7_reachesAll 110 = .ok (.iconst 1, 1) := by decide +kernel
theorem dX7_reachesAll_111 : decode cX7_reachesAll 111 = .ok (.iadd, 1) := by decide +kernel
theorem dX7_reachesAll_112 : decode cX7_reachesAll 112 = .ok (.invokestatic 49, 3) := by decide +kernel
theorem dX7_reachesAll_115 : decode cX7_reachesAll 115 = .ok (.aload_n 0, 1) := by decide +kernel
theorem dX7_reachesAll_116 : decode cX7_reachesAll 116 = .ok (.getfield 21, 3) := by decide +kernel
theorem dX7_reachesAll_119 : decode cX7_reachesAll 119 = .ok (.iload_n 3, 1) := by decide +kernel
theorem dX7_reachesAll_120 : decode cX7_reachesAll 120 = .ok (.iconst 1, 1) := by decide +kernel
theorem dX7_reachesAll_121 : decode cX7_reachesAll 121 = .ok (.iadd, 1) := by decide +kernel
theorem dX7_reachesAll_122 : decode cX7_reachesAll 122 = .ok (.invokestatic 49, 3) := by decide +kernel
theorem dX7_reachesAll_125 : decode cX7_reachesAll 125 = .ok (.aload_n 0, 1) := by decide +kernel
theorem dX7_reachesAll_126 : decode cX7_reachesAll 126 = .ok (.getfield 32, 3) := by decide +kernel
theorem dX7_reachesAll_129 : decode cX7_reachesAll 129 = .ok (.invokevirtual 68, 3) := by decide +kernel
theorem dX7_reachesAll_132 : decode cX7_reachesAll 132 = .ok (.iinc 2 1, 3) := by decide +kernel
theorem dX7_reachesAll_135 : decode cX7_reachesAll 135 = .ok (.goto (-129), 3) := by decide +kernel
theorem dX7_reachesAll_138 : decode cX7_reachesAll 138 = .ok (.iconst 1, 1) := by decide +kernel
theorem dX7_reachesAll_139 : decode cX7_reachesAll 139 = .ok (.ireturn, 1) := by decide +kernel
theorem dX7_comesTo_0 : decode cX7_comesTo 0 = .ok (.aload_n 0, 1) := by decide +kernel
theorem dX7_comesTo_1 : decode cX7_comesTo 1 = .ok (.getfield 32, 3) := by decide +kernel
theorem dX7_comesTo_4 : decode cX7_comesTo 4 = .ok (.aload_n 0, 1) := by decide +kernel
theorem dX7_comesTo_5 : decode cX7_comesTo 5 = .ok (.getfield 9, 3) := by decide +kernel
theorem dX7_comesTo_8 : decode cX7_comesTo 8 = .ok (.iload_n 2, 1) := by decide +kernel
theorem dX7_comesTo_9 : decode cX7_comesTo 9 = .ok (.invokestatic 49, 3) := by decide +kernel
theorem dX7_comesTo_12 : decode cX7_comesTo 12 = .ok (.invokevirtual 74, 3) := by decide +kernel
theorem dX7_comesTo_15 : decode cX7_comesTo 15 = .ok (.aload_n 0, 1) := by decide +kernel
theorem dX7_comesTo_16 : decode cX7_comesTo 16 = .ok (.getfield 28, 3) := by decide +kernel
theorem dX7_comesTo_19 : decode cX7_comesTo 19 = .ok (.getfield 78, 3) := by decide +kernel
theorem dX7_comesTo_22 : decode cX7_comesTo 22 = .ok (.iload_n 1, 1) := by decide +kernel
theorem dX7_comesTo_23 : decode cX7_comesTo 23 = .ok (.invokestatic 49, 3) := by decide +kernel
theorem dX7_comesTo_26 : decode cX7_comesTo 26 = .ok (.istore_n 3, 1) := by decide +kernel
theorem dX7_comesTo_27 : decode cX7_comesTo 27 = .ok (.iload_n 3, 1) := by decide +kernel
theorem dX7_comesTo_28 : decode cX7_comesTo 28 = .ok (.iconst (-1), 1) := by decide +kernel
theorem dX7_comesTo_29 : decode cX7_comesTo 29 = .ok (.if_icmp .eq 56, 3) := by decide +kernel
theorem dX7_comesTo_32 : decode cX7_comesTo 32 = .ok (.aload_n 0, 1) := by decide +kernel
theorem dX7_comesTo_33 : decode cX7_comesTo 33 = .ok (.getfield 15, 3) := by decide +kernel
theorem dX7_comesTo_36 : decode cX7_comesTo 36 = .ok (.iload_n 2, 1) := by decide +kernel
theorem dX7_comesTo_37 : decode cX7_comesTo 37 = .ok (.invokestatic 49, 3) := by decide +kernel
theorem dX7_comesTo_40 : decode cX7_comesTo 40 = .ok (.istore 4, 2) := by decide +kernel
theorem dX7_comesTo_42 : decode cX7_comesTo 42 = .ok (.aload_n 0, 1) := by decide +kernel
theorem dX7_comesTo_43 : decode cX7_comesTo 43 = .ok (.getfield 32, 3) := by decide +kernel
theorem dX7_comesTo_46 : decode cX7_comesTo 46 = .ok (.iload 4, 2) := by decide +kernel
theorem dX7_comesTo_48 : decode cX7_comesTo 48 = .ok (.invokevirtual 81, 3) := by decide +kernel
theorem dX7_comesTo_51 : decode cX7_comesTo 51 = .ok (.ifCond .eq 16, 3) := by decide +kernel
theorem dX7_comesTo_54 : decode cX7_comesTo 54 = .ok (.aload_n 0, 1) := by decide +kernel
theorem dX7_comesTo_55 : decode cX7_comesTo 55 = .ok (.getfield 32, 3) := by decide +kernel
theorem dX7_comesTo_58 : decode cX7_comesTo 58 = .ok (.iload 4, 2) := by decide +kernel
theorem dX7_comesTo_60 : decode cX7_comesTo 60 = .ok (.iload_n 3, 1) := by decide +kernel
theorem dX7_comesTo_61 : decode cX7_comesTo 61 = .ok (.invokevirtual 85, 3) := by decide +kernel
theorem dX7_comesTo_64 : decode cX7_comesTo 64 = .ok (.goto 21, 3) := by decide +kernel
theorem dX7_comesTo_67 : decode cX7_comesTo 67 = .ok (.aload_n 0, 1) := by decide +kernel
theorem dX7_comesTo_68 : decode cX7_comesTo 68 = .ok (.getfield 32, 3) := by decide +kernel
theorem dX7_comesTo_71 : decode cX7_comesTo 71 = .ok (.getfield 89, 3) := by decide +kernel
theorem dX7_comesTo_74 : decode cX7_comesTo 74 = .ok (.iload 4, 2) := by decide +kernel
theorem dX7_comesTo_76 : decode cX7_comesTo 76 = .ok (.invokestatic 49, 3) := by decide +kernel
theorem dX7_comesTo_79 : decode cX7_comesTo 79 = .ok (.iload_n 3, 1) := by decide +kernel
theorem dX7_comesTo_80 : decode cX7_comesTo 80 = .ok (.if_icmp .eq 5, 3) := by decide +kernel
theorem dX7_comesTo_83 : decode cX7_comesTo 83 = .ok (.iconst 0, 1) := by decide +kernel
theorem dX7_comesTo_84 : decode cX7_comesTo 84 = .ok (.ireturn, 1) := by decide +kernel
theorem dX7_comesTo_85 : decode cX7_comesTo 85 = .ok (.aload_n 0, 1) := by decide +kernel
theorem dX7_comesTo_86 : decode cX7_comesTo 86 = .ok (.getfield 9, 3) := by decide +kernel
theorem dX7_comesTo_89 : decode cX7_comesTo 89 = .ok (.iload_n 2, 1) := by decide +kernel
theorem dX7_comesTo_90 : decode cX7_comesTo 90 = .ok (.iconst 1, 1) := by decide +kernel
theorem dX7_comesTo_91 : decode cX7_comesTo 91 = .ok (.iadd, 1) := by decide +kernel
theorem dX7_comesTo_92 : decode cX7_comesTo 92 = .ok (.aload_n 0, 1) := by decide +kernel
theorem dX7_comesTo_93 : decode cX7_comesTo 93 = .ok (.getfield 32, 3) := by decide +kernel
theorem dX7_comesTo_96 : decode cX7_comesTo 96 = .ok (.getfield 92, 3) := by decide +kernel
theorem dX7_comesTo_99 : decode cX7_comesTo 99 = .ok (.invokestatic 95, 3) := by decide +kernel
theorem dX7_comesTo_102 : decode cX7_comesTo 102 = .ok (.aload_n 0, 1) := by decide +kernel
theorem dX7_comesTo_103 : decode cX7_comesTo 103 = .ok (.getfield 18, 3) := by decide +kernel
theorem dX7_comesTo_106 : decode cX7_comesTo 106 = .ok (.iload_n 2, 1) := by decide +kernel
theorem dX7_comesTo_107 : decode cX7_comesTo 107 = .ok (.iconst 1, 1) := by decide +kernel
theorem dX7_comesTo_108 : decode cX7_comesTo 108 = .ok (.iadd, 1) := by decide +kernel
theorem dX7_comesTo_109 : decode cX7_comesTo 109 = .ok (.aload_n 0, 1) := by decide +kernel
theorem dX7_comesTo_110 : decode cX7_comesTo 110 = .ok (.getfield 18, 3) := by decide +kernel
theorem dX7_comesTo_113 : decode cX7_comesTo 113 = .ok (.iload_n 2, 1) := by decide +kernel
theorem dX7_comesTo_114 : decode cX7_comesTo 114 = .ok (.invokestatic 49, 3) := by decide +kernel
theorem dX7_comesTo_117 : decode cX7_comesTo 117 = .ok (.invokestatic 95, 3) := by decide +kernel
theorem dX7_comesTo_120 : decode cX7_comesTo 120 = .ok (.aload_n 0, 1) := by decide +kernel
theorem dX7_comesTo_121 : decode cX7_comesTo 121 = .ok (.getfield 21, 3) := by decide +kernel
theorem dX7_comesTo_124 : decode cX7_comesTo 124 = .ok (.iload_n 2, 1) := by decide +kernel
theorem dX7_comesTo_125 : decode cX7_comesTo 125 = .ok (.iconst 1, 1) := by decide +kernel
theorem dX7_comesTo_126 : decode cX7_comesTo 126 = .ok (.iadd, 1) := by decide +kernel
theorem dX7_comesTo_127 : decode cX7_comesTo 127 = .ok (.aload_n 0, 1) := by decide +kernel
theorem dX7_comesTo_128 : decode cX7_comesTo 128 = .ok (.getfield 21, 3) := by decide +kernel
theorem dX7_comesTo_131 : decode cX7_comesTo 131 = .ok (.iload_n 2, 1) := by decide +kernel
theorem dX7_comesTo_132 : decode cX7_comesTo 132 = .ok (.invokestatic 49, 3) := by decide +kernel
theorem dX7_comesTo_135 : decode cX7_comesTo 135 = .ok (.invokestatic 95, 3) := by decide +kernel
theorem dX7_comesTo_138 : decode cX7_comesTo 138 = .ok (.aload_n 0, 1) := by decide +kernel
theorem dX7_comesTo_139 : decode cX7_comesTo 139 = .ok (.getfield 28, 3) := by decide +kernel
theorem dX7_comesTo_142 : decode cX7_comesTo 142 = .ok (.getfield 57, 3) := by decide +kernel
theorem dX7_comesTo_145 : decode cX7_comesTo 145 = .ok (.iload_n 1, 1) := by decide +kernel
theorem dX7_comesTo_146 : decode cX7_comesTo 146 = .ok (.invokestatic 49, 3) := by decide +kernel
theorem dX7_comesTo_149 : decode cX7_comesTo 149 = .ok (.iconst 1, 1) := by decide +kernel
theorem dX7_comesTo_150 : decode cX7_comesTo 150 = .ok (.if_icmp .ne 21, 3) := by decide +kernel
theorem dX7_comesTo_153 : decode cX7_comesTo 153 = .ok (.aload_n 0, 1) := by decide +kernel
theorem dX7_comesTo_154 : decode cX7_comesTo 154 = .ok (.aload_n 0, 1) := by decide +kernel
theorem dX7_comesTo_155 : decode cX7_comesTo 155 = .ok (.getfield 28, 3) := by decide +kernel
theorem dX7_comesTo_158 : decode cX7_comesTo 158 = .ok (.getfield 65, 3) := by decide +kernel
theorem dX7_comesTo_161 : decode cX7_comesTo 161 = .ok (.iload_n 1, 1) := by decide +kernel
theorem dX7_comesTo_162 : decode cX7_comesTo 162 = .ok (.invokestatic 49, 3) := by decide +kernel
theorem dX7_comesTo_165 : decode cX7_comesTo 165 = .ok (.iload_n 2, 1) := by decide +kernel
theorem dX7_comesTo_166 : decode cX7_comesTo 166 = .ok (.iconst 1, 1) := by decide +kernel
theorem dX7_comesTo_167 : decode cX7_comesTo 167 = .ok (.iadd, 1) := by decide +kernel
theorem dX7_comesTo_168 : decode cX7_comesTo 168 = .ok (.invokevirtual 99, 3) := by decide +kernel
theorem dX7_comesTo_171 : decode cX7_comesTo 171 = .ok (.iconst 1, 1) := by decide +kernel
theorem dX7_comesTo_172 : decode cX7_comesTo 172 = .ok (.ireturn, 1) := by decide +kernel
theorem dX7_ask_0 : decode cX7_ask 0 = .ok (.aload_n 0, 1) := by decide +kernel
theorem dX7_ask_1 : decode cX7_ask 1 = .ok (.getfield 24, 3) := by decide +kernel
theorem dX7_ask_4 : decode cX7_ask 4 = .ok (.getfield 102, 3) := by decide +kernel
theorem dX7_ask_7 : decode cX7_ask 7 = .ok (.iload_n 1, 1) := by decide +kernel
theorem dX7_ask_8 : decode cX7_ask 8 = .ok (.invokestatic 49, 3) := by decide +kernel
theorem dX7_ask_11 : decode cX7_ask 11 = .ok (.istore_n 3, 1) := by decide +kernel
theorem dX7_ask_12 : decode cX7_ask 12 = .ok (.iload_n 3, 1) := by decide +kernel
theorem dX7_ask_13 : decode cX7_ask 13 = .ok (.iconst (-1), 1) := by decide +kernel
theorem dX7_ask_14 : decode cX7_ask 14 = .ok (.if_icmp .ne 7, 3) := by decide +kernel
theorem dX7_ask_17 : decode cX7_ask 17 = .ok (.iconst (-1), 1) := by decide +kernel
theorem dX7_ask_18 : decode cX7_ask 18 = .ok (.goto 23, 3) := by decide +kernel
theorem dX7_ask_21 : decode cX7_ask 21 = .ok (.aload_n 0, 1) := by decide +kernel
theorem dX7_ask_22 : decode cX7_ask 22 = .ok (.getfield 15, 3) := by decide +kernel
theorem dX7_ask_25 : decode cX7_ask 25 = .ok (.aload_n 0, 1) := by decide +kernel
theorem dX7_ask_26 : decode cX7_ask 26 = .ok (.getfield 24, 3) := by decide +kernel
theorem dX7_ask_29 : decode cX7_ask 29 = .ok (.getfield 107, 3) := by decide +kernel
theorem dX7_ask_32 : decode cX7_ask 32 = .ok (.iload_n 3, 1) := by decide +kernel
theorem dX7_ask_33 : decode cX7_ask 33 = .ok (.invokestatic 49, 3) := by decide +kernel
theorem dX7_ask_36 : decode cX7_ask 36 = .ok (.iconst 1, 1) := by decide +kernel
theorem dX7_ask_37 : decode cX7_ask 37 = .ok (.iadd, 1) := by decide +kernel
theorem dX7_ask_38 : decode cX7_ask 38 = .ok (.invokestatic 49, 3) := by decide +kernel
theorem dX7_ask_41 : decode cX7_ask 41 = .ok (.istore 4, 2) := by decide +kernel
theorem dX7_ask_43 : decode cX7_ask 43 = .ok (.aload_n 0, 1) := by decide +kernel
theorem dX7_ask_44 : decode cX7_ask 44 = .ok (.getfield 32, 3) := by decide +kernel
theorem dX7_ask_47 : decode cX7_ask 47 = .ok (.iload 4, 2) := by decide +kernel
theorem dX7_ask_49 : decode cX7_ask 49 = .ok (.aload_n 0, 1) := by decide +kernel
theorem dX7_ask_50 : decode cX7_ask 50 = .ok (.getfield 24, 3) := by decide +kernel
theorem dX7_ask_53 : decode cX7_ask 53 = .ok (.getfield 110, 3) := by decide +kernel
theorem dX7_ask_56 : decode cX7_ask 56 = .ok (.iload_n 1, 1) := by decide +kernel
theorem dX7_ask_57 : decode cX7_ask 57 = .ok (.invokestatic 49, 3) := by decide +kernel
theorem dX7_ask_60 : decode cX7_ask 60 = .ok (.invokevirtual 113, 3) := by decide +kernel
theorem dX7_ask_63 : decode cX7_ask 63 = .ok (.istore 5, 2) := by decide +kernel
theorem dX7_ask_65 : decode cX7_ask 65 = .ok (.aload_n 0, 1) := by decide +kernel
theorem dX7_ask_66 : decode cX7_ask 66 = .ok (.getfield 15, 3) := by decide +kernel
theorem dX7_ask_69 : decode cX7_ask 69 = .ok (.iload_n 2, 1) := by decide +kernel
theorem dX7_ask_70 : decode cX7_ask 70 = .ok (.iload 5, 2) := by decide +kernel
theorem dX7_ask_72 : decode cX7_ask 72 = .ok (.invokestatic 95, 3) := by decide +kernel
theorem dX7_ask_75 : decode cX7_ask 75 = .ok (.aload_n 0, 1) := by decide +kernel
theorem dX7_ask_76 : decode cX7_ask 76 = .ok (.getfield 18, 3) := by decide +kernel
theorem dX7_ask_79 : decode cX7_ask 79 = .ok (.iload_n 2, 1) := by decide +kernel
theorem dX7_ask_80 : decode cX7_ask 80 = .ok (.aload_n 0, 1) := by decide +kernel
theorem dX7_ask_81 : decode cX7_ask 81 = .ok (.getfield 18, 3) := by decide +kernel
theorem dX7_ask_84 : decode cX7_ask 84 = .ok (.iload_n 2, 1) := by decide +kernel
theorem dX7_ask_85 : decode cX7_ask 85 = .ok (.invokestatic 49, 3) := by decide +kernel
theorem dX7_ask_88 : decode cX7_ask 88 = .ok (.iconst 1, 1) := by decide +kernel
theorem dX7_ask_89 : decode cX7_ask 89 = .ok (.iadd, 1) := by decide +kernel
theorem dX7_ask_90 : decode cX7_ask 90 = .ok (.invokestatic 95, 3) := by decide +kernel
theorem dX7_ask_93 : decode cX7_ask 93 = .ok (.aload_n 0, 1) := by decide +kernel
theorem dX7_ask_94 : decode cX7_ask 94 = .ok (.getfield 32, 3) := by decide +kernel
theorem dX7_ask_97 : decode cX7_ask 97 = .ok (.iload 5, 2) := by decide +kernel
theorem dX7_ask_99 : decode cX7_ask 99 = .ok (.invokevirtual 81, 3) := by decide +kernel
theorem dX7_ask_102 : decode cX7_ask 102 = .ok (.ifCond .eq 21, 3) := by decide +kernel
theorem dX7_ask_105 : decode cX7_ask 105 = .ok (.aload_n 0, 1) := by decide +kernel
theorem dX7_ask_106 : decode cX7_ask 106 = .ok (.getfield 21, 3) := by decide +kernel
theorem dX7_ask_109 : decode cX7_ask 109 = .ok (.iload_n 2, 1) := by decide +kernel
theorem dX7_ask_110 : decode cX7_ask 110 = .ok (.aload_n 0, 1) := by decide +kernel
theorem dX7_ask_111 : decode cX7_ask 111 = .ok (.getfield 21, 3) := by decide +kernel
theorem dX7_ask_114 : decode cX7_ask 114 = .ok (.iload_n 2, 1) := by decide +kernel
theorem dX7_ask_115 : decode cX7_ask 115 = .ok (.invokestatic 49, 3) := by decide +kernel
theorem dX7_ask_118 : decode cX7_ask 118 = .ok (.iconst 1, 1) := by decide +kernel
theorem dX7_ask_119 : decode cX7_ask 119 = .ok (.iadd, 1) := by decide +kernel
theorem dX7_ask_120 : decode cX7_ask 120 = .ok (.invokestatic 95, 3) := by decide +kernel
theorem dX7_ask_123 : decode cX7_ask 123 = .ok (.return_, 1) := by decide +kernel
