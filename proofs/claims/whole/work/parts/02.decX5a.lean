theorem dX5_init_0 : decode cX5_init 0 = .ok (.aload_n 0, 1) := by decide +kernel
theorem dX5_init_1 : decode cX5_init 1 = .ok (.invokespecial 3, 3) := by decide +kernel
theorem dX5_init_4 : decode cX5_init 4 = .ok (.aload_n 0, 1) := by decide +kernel
theorem dX5_init_5 : decode cX5_init 5 = .ok (.sipush 808, 3) := by decide +kernel
theorem dX5_init_8 : decode cX5_init 8 = .ok (.newarray .int, 2) := by decide +kernel
theorem dX5_init_10 : decode cX5_init 10 = .ok (.putfield 9, 3) := by decide +kernel
theorem dX5_init_13 : decode cX5_init 13 = .ok (.aload_n 0, 1) := by decide +kernel
theorem dX5_init_14 : decode cX5_init 14 = .ok (.sipush 808, 3) := by decide +kernel
theorem dX5_init_17 : decode cX5_init 17 = .ok (.newarray .int, 2) := by decide +kernel
theorem dX5_init_19 : decode cX5_init 19 = .ok (.putfield 15, 3) := by decide +kernel
theorem dX5_init_22 : decode cX5_init 22 = .ok (.aload_n 0, 1) := by decide +kernel
theorem dX5_init_23 : decode cX5_init 23 = .ok (.sipush 808, 3) := by decide +kernel
theorem dX5_init_26 : decode cX5_init 26 = .ok (.newarray .int, 2) := by decide +kernel
theorem dX5_init_28 : decode cX5_init 28 = .ok (.putfield 18, 3) := by decide +kernel
theorem dX5_init_31 : decode cX5_init 31 = .ok (.aload_n 0, 1) := by decide +kernel
theorem dX5_init_32 : decode cX5_init 32 = .ok (.sipush 808, 3) := by decide +kernel
theorem dX5_init_35 : decode cX5_init 35 = .ok (.newarray .int, 2) := by decide +kernel
theorem dX5_init_37 : decode cX5_init 37 = .ok (.putfield 21, 3) := by decide +kernel
theorem dX5_init_40 : decode cX5_init 40 = .ok (.aload_n 0, 1) := by decide +kernel
theorem dX5_init_41 : decode cX5_init 41 = .ok (.sipush 808, 3) := by decide +kernel
theorem dX5_init_44 : decode cX5_init 44 = .ok (.newarray .int, 2) := by decide +kernel
theorem dX5_init_46 : decode cX5_init 46 = .ok (.putfield 24, 3) := by decide +kernel
theorem dX5_init_49 : decode cX5_init 49 = .ok (.aload_n 0, 1) := by decide +kernel
theorem dX5_init_50 : decode cX5_init 50 = .ok (.sipush 160, 3) := by decide +kernel
theorem dX5_init_53 : decode cX5_init 53 = .ok (.newarray .int, 2) := by decide +kernel
theorem dX5_init_55 : decode cX5_init 55 = .ok (.putfield 27, 3) := by decide +kernel
theorem dX5_init_58 : decode cX5_init 58 = .ok (.aload_n 0, 1) := by decide +kernel
theorem dX5_init_59 : decode cX5_init 59 = .ok (.sipush 400, 3) := by decide +kernel
theorem dX5_init_62 : decode cX5_init 62 = .ok (.newarray .int, 2) := by decide +kernel
theorem dX5_init_64 : decode cX5_init 64 = .ok (.putfield 30, 3) := by decide +kernel
theorem dX5_init_67 : decode cX5_init 67 = .ok (.aload_n 0, 1) := by decide +kernel
theorem dX5_init_68 : decode cX5_init 68 = .ok (.aload_n 1, 1) := by decide +kernel
theorem dX5_init_69 : decode cX5_init 69 = .ok (.putfield 33, 3) := by decide +kernel
theorem dX5_init_72 : decode cX5_init 72 = .ok (.return_, 1) := by decide +kernel
theorem dX5_load_0 : decode cX5_load 0 = .ok (.iconst 0, 1) := by decide +kernel
theorem dX5_load_1 : decode cX5_load 1 = .ok (.istore_n 3, 1) := by decide +kernel
theorem dX5_load_2 : decode cX5_load 2 = .ok (.iload_n 3, 1) := by decide +kernel
theorem dX5_load_3 : decode cX5_load 3 = .ok (.bipush 8, 2) := by decide +kernel
theorem dX5_load_5 : decode cX5_load 5 = .ok (.if_icmp .ge 28, 3) := by decide +kernel
theorem dX5_load_8 : decode cX5_load 8 = .ok (.aload_n 0, 1) := by decide +kernel
theorem dX5_load_9 : decode cX5_load 9 = .ok (.getfield 9, 3) := by decide +kernel
theorem dX5_load_12 : decode cX5_load 12 = .ok (.iload_n 3, 1) := by decide +kernel
theorem dX5_load_13 : decode cX5_load 13 = .ok (.bipush (-9), 2) := by decide +kernel
theorem dX5_load_15 : decode cX5_load 15 = .ok (.invokestatic 37, 3) := by decide +kernel
theorem dX5_load_18 : decode cX5_load 18 = .ok (.aload_n 0, 1) := by decide +kernel
theorem dX5_load_19 : decode cX5_load 19 = .ok (.getfield 21, 3) := by decide +kernel
theorem dX5_load_22 : decode cX5_load 22 = .ok (.iload_n 3, 1) := by decide +kernel
theorem dX5_load_23 : decode cX5_load 23 = .ok (.iconst 0, 1) := by decide +kernel
theorem dX5_load_24 : decode cX5_load 24 = .ok (.invokestatic 37, 3) := by decide +kernel
theorem dX5_load_27 : decode cX5_load 27 = .ok (.iinc 3 1, 3) := by decide +kernel
theorem dX5_load_30 : decode cX5_load 30 = .ok (.goto (-28), 3) := by decide +kernel
theorem dX5_load_33 : decode cX5_load 33 = .ok (.iconst 0, 1) := by decide +kernel
theorem dX5_load_34 : decode cX5_load 34 = .ok (.istore_n 3, 1) := by decide +kernel
theorem dX5_load_35 : decode cX5_load 35 = .ok (.iload_n 3, 1) := by decide +kernel
theorem dX5_load_36 : decode cX5_load 36 = .ok (.iload_n 2, 1) := by decide +kernel
theorem dX5_load_37 : decode cX5_load 37 = .ok (.if_icmp .ge 98, 3) := by decide +kernel
theorem dX5_load_40 : decode cX5_load 40 = .ok (.aload_n 1, 1) := by decide +kernel
theorem dX5_load_41 : decode cX5_load 41 = .ok (.getfield 41, 3) := by decide +kernel
theorem dX5_load_44 : decode cX5_load 44 = .ok (.iload_n 3, 1) := by decide +kernel
theorem dX5_load_45 : decode cX5_load 45 = .ok (.invokestatic 46, 3) := by decide +kernel
theorem dX5_load_48 : decode cX5_load 48 = .ok (.istore 4, 2) := by decide +kernel
theorem dX5_load_50 : decode cX5_load 50 = .ok (.bipush 8, 2) := by decide +kernel
theorem dX5_load_52 : decode cX5_load 52 = .ok (.iload_n 3, 1) := by decide +kernel
theorem dX5_load_53 : decode cX5_load 53 = .ok (.iadd, 1) := by decide +kernel
theorem dX5_load_54 : decode cX5_load 54 = .ok (.istore 5, 2) := by decide +kernel
theorem dX5_load_56 : decode cX5_load 56 = .ok (.aload_n 0, 1) := by decide +kernel
theorem dX5_load_57 : decode cX5_load 57 = .ok (.getfield 9, 3) := by decide +kernel
theorem dX5_load_60 : decode cX5_load 60 = .ok (.iload 5, 2) := by decide +kernel
theorem dX5_load_62 : decode cX5_load 62 = .ok (.iload 4, 2) := by decide +kernel
theorem dX5_load_64 : decode cX5_load 64 = .ok (.invokestatic 37, 3) := by decide +kernel
theorem dX5_load_67 : decode cX5_load 67 = .ok (.aload_n 0, 1) := by decide +kernel
theorem dX5_load_68 : decode cX5_load 68 = .ok (.getfield 15, 3) := by decide +kernel
theorem dX5_load_71 : decode cX5_load 71 = .ok (.iload 5, 2) := by decide +kernel
theorem dX5_load_73 : decode cX5_load 73 = .ok (.iload 5, 2) := by decide +kernel
theorem dX5_load_75 : decode cX5_load 75 = .ok (.iconst 1, 1) := by decide +kernel
theorem dX5_load_76 : decode cX5_load 76 = .ok (.iadd, 1) := by decide +kernel
theorem dX5_load_77 : decode cX5_load 77 = .ok (.invokestatic 37, 3) := by decide +kernel
theorem dX5_load_80 : decode cX5_load 80 = .ok (.aload_n 0, 1) := by decide +kernel
theorem dX5_load_81 : decode cX5_load 81 = .ok (.getfield 18, 3) := by decide +kernel
theorem dX5_load_84 : decode cX5_load 84 = .ok (.iload 5, 2) := by decide +kernel
theorem dX5_load_86 : decode cX5_load 86 = .ok (.bipush 8, 2) := by decide +kernel
theorem dX5_load_88 : decode cX5_load 88 = .ok (.aload_n 1, 1) := by decide +kernel
theorem dX5_load_89 : decode cX5_load 89 = .ok (.getfield 50, 3) := by decide +kernel
theorem dX5_load_92 : decode cX5_load 92 = .ok (.iload_n 3, 1) := by decide +kernel
theorem dX5_load_93 : decode cX5_load 93 = .ok (.invokestatic 46, 3) := by decide +kernel
theorem dX5_load_96 : decode cX5_load 96 = .ok (.iadd, 1) := by decide +kernel
theorem dX5_load_97 : decode cX5_load 97 = .ok (.invokestatic 37, 3) := by decide +kernel
theorem dX5_load_100 : decode cX5_load 100 = .ok (.iload 4, 2) := by decide +kernel
theorem dX5_load_102 : decode cX5_load 102 = .ok (.ifCond .ge 27, 3) := by decide +kernel
theorem dX5_load_105 : decode cX5_load 105 = .ok (.aload_n 0, 1) := by decide +kernel
theorem dX5_load_106 : decode cX5_load 106 = .ok (.getfield 21, 3) := by decide +kernel
theorem dX5_load_109 : decode cX5_load 109 = .ok (.iconst (-1), 1) := by decide +kernel
theorem dX5_load_110 : decode cX5_load 110 = .ok (.iload 4, 2) := by decide +kernel
theorem dX5_load_112 : decode cX5_load 112 = .ok (.isub, 1) := by decide +kernel
theorem dX5_load_113 : decode cX5_load 113 = .ok (.aload_n 0, 1) := by decide +kernel
theorem dX5_load_114 : decode cX5_load 114 = .ok (.getfield 21, 3) := by decide +kernel
theorem dX5_load_117 : decode cX5_load 117 = .ok (.iconst (-1), 1) := by decide +kernel
theorem dX5_load_118 : decode cX5_load 118 = .ok (.iload 4, 2) := by decide +kernel
theorem dX5_load_120 : decode cX5_load 120 = .ok (.isub, 1) := by decide +kernel
theorem dX5_load_121 : decode cX5_load 121 = .ok (.invokestatic 46, 3) := by decide +kernel
theorem dX5_load_124 : decode cX5_load 124 = .ok (.iconst 1, 1) := by decide +kernel
theorem dX5_load_125 : decode cX5_load 125 = .ok (.iadd, 1) := by decide +kernel
theorem dX5_load_126 : decode cX5_load 126 = .ok (.invokestatic 37, 3) := by decide +kernel
theorem dX5_load_129 : decode cX5_load 129 = .ok (.iinc 3 1, 3) := by decide +kernel
theorem dX5_load_132 : decode cX5_load 132 = .ok (.goto (-97), 3) := by decide +kernel
theorem dX5_load_135 : decode cX5_load 135 = .ok (.aload_n 0, 1) := by decide +kernel
theorem dX5_load_136 : decode cX5_load 136 = .ok (.bipush 8, 2) := by decide +kernel
theorem dX5_load_138 : decode cX5_load 138 = .ok (.iload_n 2, 1) := by decide +kernel
theorem dX5_load_139 : decode cX5_load 139 = .ok (.iadd, 1) := by decide +kernel
theorem dX5_load_140 : decode cX5_load 140 = .ok (.putfield 51, 3) := by decide +kernel
theorem dX5_load_143 : decode cX5_load 143 = .ok (.aload_n 0, 1) := by decide +kernel
theorem dX5_load_144 : decode cX5_load 144 = .ok (.iconst 0, 1) := by decide +kernel
theorem dX5_load_145 : decode cX5_load 145 = .ok (.putfield 55, 3) := by decide +kernel
theorem dX5_load_148 : decode cX5_load 148 = .ok (.aload_n 0, 1) := by decide +kernel
theorem dX5_load_149 : decode cX5_load 149 = .ok (.iload_n 2, 1) := by decide +kernel
theorem dX5_load_150 : decode cX5_load 150 = .ok (.putfield 58, 3) := by decide +kernel
theorem dX5_load_153 : decode cX5_load 153 = .ok (.return_, 1) := by decide +kernel
theorem dX5_meant_0 : decode cX5_meant 0 = .ok (.aload_n 0, 1) := by decide +kernel
theorem dX5_meant_1 : decode cX5_meant 1 = .ok (.getfield 9, 3) := by decide +kernel
theorem dX5_meant_4 : decode cX5_meant 4 = .ok (.iload_n 1, 1) := by decide +kernel
theorem dX5_meant_5 : decode cX5_meant 5 = .ok (.invokestatic 46, 3) := by decide +kernel
theorem dX5_meant_8 : decode cX5_meant 8 = .ok (.istore_n 2, 1) := by decide +kernel
theorem dX5_meant_9 : decode cX5_meant 9 = .ok (.iload_n 2, 1) := by decide +kernel
theorem dX5_meant_10 : decode cX5_meant 10 = .ok (.ifCond .ge 15, 3) := by decide +kernel
theorem dX5_meant_13 : decode cX5_meant 13 = .ok (.iload_n 2, 1) := by decide +kernel
theorem dX5_meant_14 : decode cX5_meant 14 = .ok (.bipush (-9), 2) := by decide +kernel
theorem dX5_meant_16 : decode cX5_meant 16 = .ok (.if_icmp .le 9, 3) := by decide +kernel
theorem dX5_meant_19 : decode cX5_meant 19 = .ok (.iconst (-1), 1) := by decide +kernel
theorem dX5_meant_20 : decode cX5_meant 20 = .ok (.iload_n 2, 1) := by decide +kernel
theorem dX5_meant_21 : decode cX5_meant 21 = .ok (.isub, 1) := by decide +kernel
theorem dX5_meant_22 : decode cX5_meant 22 = .ok (.goto 4, 3) := by decide +kernel
theorem dX5_meant_25 : decode cX5_meant 25 = .ok (.iload_n 1, 1) := by decide +kernel
theorem dX5_meant_26 : decode cX5_meant 26 = .ok (.ireturn, 1) := by decide +kernel
theorem dX5_isFree_0 : decode cX5_isFree 0 = .ok (.aload_n 0, 1) := by decide +kernel
theorem dX5_isFree_1 : decode cX5_isFree 1 = .ok (.getfield 9, 3) := by decide +kernel
theorem dX5_isFree_4 : decode cX5_isFree 4 = .ok (.iload_n 1, 1) := by decide +kernel
theorem dX5_isFree_5 : decode cX5_isFree 5 = .ok (.invokestatic 46, 3) := by decide +kernel
theorem dX5_isFree_8 : decode cX5_isFree 8 = .ok (.bipush (-9), 2) := by decide +kernel
theorem dX5_isFree_10 : decode cX5_isFree 10 = .ok (.if_icmp .ne 7, 3) := by decide +kernel
theorem dX5_isFree_13 : decode cX5_isFree 13 = .ok (.iconst 1, 1) := by decide +kernel
theorem dX5_isFree_14 : decode cX5_isFree 14 = .ok (.goto 4, 3) := by decide +kernel
theorem dX5_isFree_17 : decode cX5_isFree 17 = .ok (.iconst 0, 1) := by decide +kernel
theorem dX5_isFree_18 : decode cX5_isFree 18 = .ok (.ireturn, 1) := by decide +kernel
theorem dX5_part_0 : decode cX5_part 0 = .ok (.iload_n 1, 1) := by decide +kernel
theorem dX5_part_1 : decode cX5_part 1 = .ok (.iconst (-1), 1) := by decide +kernel
theorem dX5_part_2 : decode cX5_part 2 = .ok (.if_icmp .ne 8, 3) := by decide +kernel
theorem dX5_part_5 : decode cX5_part 5 = .ok (.bipush 8, 2) := by decide +kernel
theorem dX5_part_7 : decode cX5_part 7 = .ok (.goto 11, 3) := by decide +kernel
theorem dX5_part_10 : decode cX5_part 10 = .ok (.aload_n 0, 1) := by decide +kernel
theorem dX5_part_11 : decode cX5_part 11 = .ok (.getfield 15, 3) := by decide +kernel
theorem dX5_part_14 : decode cX5_part 14 = .ok (.iload_n 1, 1) := by decide +kernel
theorem dX5_part_15 : decode cX5_part 15 = .ok (.invokestatic 46, 3) := by decide +kernel
theorem dX5_part_18 : decode cX5_part 18 = .ok (.istore_n 3, 1) := by decide +kernel
theorem dX5_part_19 : decode cX5_part 19 = .ok (.iconst 0, 1) := by decide +kernel
theorem dX5_part_20 : decode cX5_part 20 = .ok (.istore 4, 2) := by decide +kernel
theorem dX5_part_22 : decode cX5_part 22 = .ok (.iload 4, 2) := by decide +kernel
theorem dX5_part_24 : decode cX5_part 24 = .ok (.iload_n 2, 1) := by decide +kernel
theorem dX5_part_25 : decode cX5_part 25 = .ok (.if_icmp .ge 18, 3) := by decide +kernel
theorem dX5_part_28 : decode cX5_part 28 = .ok (.aload_n 0, 1) := by decide +kernel
theorem dX5_part_29 : decode cX5_part 29 = .ok (.getfield 18, 3) := by decide +kernel
theorem dX5_part_32 : decode cX5_part 32 = .ok (.iload_n 3, 1) := by decide +kernel
theorem dX5_part_33 : decode cX5_part 33 = .ok (.invokestatic 46, 3) := by decide +kernel
theorem dX5_part_36 : decode cX5_part 36 = .ok (.istore_n 3, 1) := by decide +kernel
theorem dX5_part_37 : decode cX5_part 37 = .ok (.iinc 4 1, 3) := by decide +kernel
theorem dX5_part_40 : decode cX5_part 40 = .ok (.goto (-18), 3) := by decide +kernel
theorem dX5_part_43 : decode cX5_part 43 = .ok (.aload_n 0, 1) := by decide +kernel
theorem dX5_part_44 : decode cX5_part 44 = .ok (.iload_n 3, 1) := by decide +kernel
theorem dX5_part_45 : decode cX5_part 45 = .ok (.invokevirtual 61, 3) := by decide +kernel
theorem dX5_part_48 : decode cX5_part 48 = .ok (.ireturn, 1) := by decide +kernel
theorem dX5_bind_0 : decode cX5_bind 0 = .ok (.aload_n 0, 1) := by decide +kernel
theorem dX5_bind_1 : decode cX5_bind 1 = .ok (.getfield 33, 3) := by decide +kernel
theorem dX5_bind_4 : decode cX5_bind 4 = .ok (.iload_n 2, 1) := by decide +kernel
theorem dX5_bind_5 : decode cX5_bind 5 = .ok (.invokevirtual 65, 3) := by decide +kernel
theorem dX5_bind_8 : decode cX5_bind 8 = .ok (.istore_n 3, 1) := by decide +kernel
theorem dX5_bind_9 : decode cX5_bind 9 = .ok (.aload_n 0, 1) := by decide +kernel
theorem dX5_bind_10 : decode cX5_bind 10 = .ok (.getfield 55, 3) := by decide +kernel
theorem dX5_bind_13 : decode cX5_bind 13 = .ok (.sipush 160, 3) := by decide +kernel
theorem dX5_bind_16 : decode cX5_bind 16 = .ok (.if_icmp .ge 15, 3) := by decide +kernel
theorem dX5_bind_19 : decode cX5_bind 19 = .ok (.aload_n 0, 1) := by decide +kernel
theorem dX5_bind_20 : decode cX5_bind 20 = .ok (.getfield 51, 3) := by decide +kernel
theorem dX5_bind_23 : decode cX5_bind 23 = .ok (.iload_n 3, 1) := by decide +kernel
theorem dX5_bind_24 : decode cX5_bind 24 = .ok (.iadd, 1) := by decide +kernel
theorem dX5_bind_25 : decode cX5_bind 25 = .ok (.sipush 808, 3) := by decide +kernel
theorem dX5_bind_28 : decode cX5_bind 28 = .ok (.if_icmp .le 4, 3) := by decide +kernel
theorem dX5_bind_31 : decode cX5_bind 31 = .ok (.return_, 1) := by decide +kernel
theorem dX5_bind_32 : decode cX5_bind 32 = .ok (.aload_n 0, 1) := by decide +kernel
theorem dX5_bind_33 : decode cX5_bind 33 = .ok (.getfield 27, 3) := by decide +kernel
theorem dX5_bind_36 : decode cX5_bind 36 = .ok (.aload_n 0, 1) := by decide +kernel
theorem dX5_bind_37 : decode cX5_bind 37 = .ok (.getfield 55, 3) := by decide +kernel
theorem dX5_bind_40 : decode cX5_bind 40 = .ok (.iload_n 1, 1) := by decide +kernel
theorem dX5_bind_41 : decode cX5_bind 41 = .ok (.invokestatic 37, 3) := by decide +kernel
theorem dX5_bind_44 : decode cX5_bind 44 = .ok (.aload_n 0, 1) := by decide +kernel
theorem dX5_bind_45 : decode cX5_bind 45 = .ok (.dup, 1) := by decide +kernel
theorem dX5_bind_46 : decode cX5_bind 46 = .ok (.getfield 55, 3) := by decide +kernel
theorem dX5_bind_49 : decode cX5_bind 49 = .ok (.iconst 1, 1) := by decide +kernel
theorem dX5_bind_50 : decode cX5_bind 50 = .ok (.iadd, 1) := by decide +kernel
theorem dX5_bind_51 : decode cX5_bind 51 = .ok (.putfield 55, 3) := by decide +kernel
theorem dX5_bind_54 : decode cX5_bind 54 = .ok (.aload_n 0, 1) := by decide +kernel
theorem dX5_bind_55 : decode cX5_bind 55 = .ok (.getfield 9, 3) := by decide +kernel
theorem dX5_bind_58 : decode cX5_bind 58 = .ok (.iload_n 1, 1) := by decide +kernel
theorem dX5_bind_59 : decode cX5_bind 59 = .ok (.iload_n 2, 1) := by decide +kernel
theorem dX5_bind_60 : decode cX5_bind 60 = .ok (.invokestatic 37, 3) := by decide +kernel
theorem dX5_bind_63 : decode cX5_bind 63 = .ok (.aload_n 0, 1) := by decide +kernel
theorem dX5_bind_64 : decode cX5_bind 64 = .ok (.getfield 15, 3) := by decide +kernel
theorem dX5_bind_67 : decode cX5_bind 67 = .ok (.iload_n 1, 1) := by decide +kernel
theorem dX5_bind_68 : decode cX5_bind 68 = .ok (.aload_n 0, 1) := by decide +kernel
theorem dX5_bind_69 : decode cX5_bind 69 = .ok (.getfield 51, 3) := by decide +kernel
theorem dX5_bind_72 : decode cX5_bind 72 = .ok (.invokestatic 37, 3) := by decide +kernel
theorem dX5_bind_75 : decode cX5_bind 75 = .ok (.iconst 0, 1) := by decide +kernel
theorem dX5_bind_76 : decode cX5_bind 76 = .ok (.istore 4, 2) := by decide +kernel
theorem dX5_bind_78 : decode cX5_bind 78 = .ok (.iload 4, 2) := by decide +kernel
theorem dX5_bind_80 : decode cX5_bind 80 = .ok (.iload_n 3, 1) := by decide +kernel
theorem dX5_bind_81 : decode cX5_bind 81 = .ok (.if_icmp .ge 68, 3) := by decide +kernel
theorem dX5_bind_84 : decode cX5_bind 84 = .ok (.aload_n 0, 1) := by decide +kernel
theorem dX5_bind_85 : decode cX5_bind 85 = .ok (.getfield 9, 3) := by decide +kernel
theorem dX5_bind_88 : decode cX5_bind 88 = .ok (.aload_n 0, 1) := by decide +kernel
theorem dX5_bind_89 : decode cX5_bind 89 = .ok (.getfield 51, 3) := by decide +kernel
theorem dX5_bind_92 : decode cX5_bind 92 = .ok (.bipush (-9), 2) := by decide +kernel
theorem dX5_bind_94 : decode cX5_bind 94 = .ok (.invokestatic 37, 3) := by decide +kernel
theorem dX5_bind_97 : decode cX5_bind 97 = .ok (.aload_n 0, 1) := by decide +kernel
theorem dX5_bind_98 : decode cX5_bind 98 = .ok (.getfield 18, 3) := by decide +kernel
theorem dX5_bind_101 : decode cX5_bind 101 = .ok (.aload_n 0, 1) := by decide +kernel
theorem dX5_bind_102 : decode cX5_bind 102 = .ok (.getfield 51, 3) := by decide +kernel
theorem dX5_bind_105 : decode cX5_bind 105 = .ok (.aload_n 0, 1) := by decide +kernel
theorem dX5_bind_106 : decode cX5_bind 106 = .ok (.getfield 51, 3) := by decide +kernel
theorem dX5_bind_109 : decode cX5_bind 109 = .ok (.iconst 1, 1) := by decide +kernel
theorem dX5_bind_110 : decode cX5_bind 110 = .ok (.iadd, 1) := by decide +kernel
theorem dX5_bind_111 : decode cX5_bind 111 = .ok (.invokestatic 37, 3) := by decide +kernel
theorem dX5_bind_114 : decode cX5_bind 114 = .ok (.aload_n 0, 1) := by decide +kernel
theorem dX5_bind_115 : decode cX5_bind 115 = .ok (.getfield 21, 3) := by decide +kernel
theorem dX5_bind_118 : decode cX5_bind 118 = .ok (.aload_n 0, 1) := by decide +kernel
theorem dX5_bind_119 : decode cX5_bind 119 = .ok (.getfield 51, 3) := by decide +kernel
theorem dX5_bind_122 : decode cX5_bind 122 = .ok (.aload_n 0, 1) := by decide +kernel
theorem dX5_bind_123 : decode cX5_bind 123 = .ok (.getfield 21, 3) := by decide +kernel
theorem dX5_bind_126 : decode cX5_bind 126 = .ok (.iload_n 1, 1) := by decide +kernel
theorem dX5_bind_127 : decode cX5_bind 127 = .ok (.invokestatic 46, 3) := by decide +kernel
theorem dX5_bind_130 : decode cX5_bind 130 = .ok (.invokestatic 37, 3) := by decide +kernel
theorem dX5_bind_133 : decode cX5_bind 133 = .ok (.aload_n 0, 1) := by decide +kernel
theorem dX5_bind_134 : decode cX5_bind 134 = .ok (.dup, 1) := by decide +kernel
theorem dX5_bind_135 : decode cX5_bind 135 = .ok (.getfield 51, 3) := by decide +kernel
theorem dX5_bind_138 : decode cX5_bind 138 = .ok (.iconst 1, 1) := by decide +kernel
theorem dX5_bind_139 : decode cX5_bind 139 = .ok (.iadd, 1) := by decide +kernel
theorem dX5_bind_140 : decode cX5_bind 140 = .ok (.putfield 51, 3) := by decide +kernel
theorem dX5_bind_143 : decode cX5_bind 143 = .ok (.iinc 4 1, 3) := by decide +kernel
theorem dX5_bind_146 : decode cX5_bind 146 = .ok (.goto (-68), 3) := by decide +kernel
theorem dX5_bind_149 : decode cX5_bind 149 = .ok (.aload_n 0, 1) := by decide +kernel
theorem dX5_bind_150 : decode cX5_bind 150 = .ok (.dup, 1) := by decide +kernel
theorem dX5_bind_151 : decode cX5_bind 151 = .ok (.getfield 58, 3) := by decide +kernel
theorem dX5_bind_154 : decode cX5_bind 154 = .ok (.iload_n 3, 1) := by decide +kernel
theorem dX5_bind_155 : decode cX5_bind 155 = .ok (.aload_n 0, 1) := by decide +kernel
theorem dX5_bind_156 : decode cX5_bind 156 = .ok (.getfield 21, 3) := by decide +kernel
theorem dX5_bind_159 : decode cX5_bind 159 = .ok (.iload_n 1, 1) := by decide +kernel
theorem dX5_bind_160 : decode cX5_bind 160 = .ok (.invokestatic 46, 3) := by decide +kernel
theorem dX5_bind_163 : decode cX5_bind 163 = .ok (.imul, 1) := by decide +kernel
theorem dX5_bind_164 : decode cX5_bind 164 = .ok (.iadd, 1) := by decide +kernel
theorem dX5_bind_165 : decode cX5_bind 165 = .ok (.putfield 58, 3) := by decide +kernel
theorem dX5_bind_168 : decode cX5_bind 168 = .ok (.return_, 1) := by decide +kernel
theorem dX5_unbindTo_0 : decode cX5_unbindTo 0 = .ok (.aload_n 0, 1) := by decide +kernel
theorem dX5_unbindTo_1 : decode cX5_unbindTo 1 = .ok (.getfield 55, 3) := by decide +kernel
theorem dX5_unbindTo_4 : decode cX5_unbindTo 4 = .ok (.iconst 1, 1) := by decide +kernel
theorem dX5_unbindTo_5 : decode cX5_unbindTo 5 = .ok (.isub, 1) := by decide +kernel
theorem dX5_unbindTo_6 : decode cX5_unbindTo 6 = .ok (.istore_n 2, 1) := by decide +kernel
theorem dX5_unbindTo_7 : decode cX5_unbindTo 7 = .ok (.iload_n 2, 1) := by decide +kernel
theorem dX5_unbindTo_8 : decode cX5_unbindTo 8 = .ok (.iload_n 1, 1) := by decide +kernel
theorem dX5_unbindTo_9 : decode cX5_unbindTo 9 = .ok (.if_icmp .lt 82, 3) := by decide +kernel
theorem dX5_unbindTo_12 : decode cX5_unbindTo 12 = .ok (.iload_n 2, 1) := by decide +kernel
theorem dX5_unbindTo_13 : decode cX5_unbindTo 13 = .ok (.ifCond .lt 78, 3) := by decide +kernel
theorem dX5_unbindTo_16 : decode cX5_unbindTo 16 = .ok (.aload_n 0, 1) := by decide +kernel
theorem dX5_unbindTo_17 : decode cX5_unbindTo 17 = .ok (.getfield 27, 3) := by decide +kernel
theorem dX5_unbindTo_20 : decode cX5_unbindTo 20 = .ok (.iload_n 2, 1) := by decide +kernel
theorem dX5_unbindTo_21 : decode cX5_unbindTo 21 = .ok (.invokestatic 46, 3) := by decide +kernel
theorem dX5_unbindTo_24 : decode cX5_unbindTo 24 = .ok (.istore_n 3, 1) := by decide +kernel
theorem dX5_unbindTo_25 : decode cX5_unbindTo 25 = .ok (.aload_n 0, 1) := by decide +kernel
theorem dX5_unbindTo_26 : decode cX5_unbindTo 26 = .ok (.dup, 1) := by decide +kernel
theorem dX5_unbindTo_27 : decode cX5_unbindTo 27 = .ok (.getfield 58, 3) := by decide +kernel
theorem dX5_unbindTo_30 : decode cX5_unbindTo 30 = .ok (.aload_n 0, 1) := by decide +kernel
theorem dX5_unbindTo_31 : decode cX5_unbindTo 31 = .ok (.getfield 33, 3) := by decide +kernel
theorem dX5_unbindTo_34 : decode cX5_unbindTo 34 = .ok (.aload_n 0, 1) := by decide +kernel
theorem dX5_unbindTo_35 : decode cX5_unbindTo 35 = .ok (.getfield 9, 3) := by decide +kernel
theorem dX5_unbindTo_38 : decode cX5_unbindTo 38 = .ok (.iload_n 3, 1) := by decide +kernel
theorem dX5_unbindTo_39 : decode cX5_unbindTo 39 = .ok (.invokestatic 46, 3) := by decide +kernel
theorem dX5_unbindTo_42 : decode cX5_unbindTo 42 = .ok (.invokevirtual 65, 3) := by decide +kernel
theorem dX5_unbindTo_45 : decode cX5_unbindTo 45 = .ok (.aload_n 0, 1) := by decide +kernel
theorem dX5_unbindTo_46 : decode cX5_unbindTo 46 = .ok (.getfield 21, 3) := by decide +kernel
theorem dX5_unbindTo_49 : decode cX5_unbindTo 49 = .ok (.iload_n 3, 1) := by decide +kernel
theorem dX5_unbindTo_50 : decode cX5_unbindTo 50 = .ok (.invokestatic 46, 3) := by decide +kernel
theorem dX5_unbindTo_53 : decode cX5_unbindTo 53 = .ok (.imul, 1) := by decide +kernel
theorem dX5_unbindTo_54 : decode cX5_unbindTo 54 = .ok (.isub, 1) := by decide +kernel
theorem dX5_unbindTo_55 : decode cX5_unbindTo 55 = .ok (.putfield 58, 3) := by decide +kernel
theorem dX5_unbindTo_58 : decode cX5_unbindTo 58 = .ok (.aload_n 0, 1) := by decide +kernel
theorem dX5_unbindTo_59 : decode cX5_unbindTo 59 = .ok (.aload_n 0, 1) := by decide +kernel
theorem dX5_unbindTo_60 : decode cX5_unbindTo 60 = .ok (.getfield 15, 3) := by decide +kernel
theorem dX5_unbindTo_63 : decode cX5_unbindTo 63 = .ok (.iload_n 3, 1) := by decide +kernel
theorem dX5_unbindTo_64 : decode cX5_unbindTo 64 = .ok (.invokestatic 46, 3) := by decide +kernel
theorem dX5_unbindTo_67 : decode cX5_unbindTo 67 = .ok (.putfield 51, 3) := by decide +kernel
theorem dX5_unbindTo_70 : decode cX5_unbindTo 70 = .ok (.aload_n 0, 1) := by decide +kernel
theorem dX5_unbindTo_71 : decode cX5_unbindTo 71 = .ok (.getfield 9, 3) := by decide +kernel
theorem dX5_unbindTo_74 : decode cX5_unbindTo 74 = .ok (.iload_n 3, 1) := by decide +kernel
theorem dX5_unbindTo_75 : decode cX5_unbindTo 75 = .ok (.bipush (-9), 2) := by decide +kernel
theorem dX5_unbindTo_77 : decode cX5_unbindTo 77 = .ok (.invokestatic 37, 3) := by decide +kernel
theorem dX5_unbindTo_80 : decode cX5_unbindTo 80 = .ok (.aload_n 0, 1) := by decide +kernel
theorem dX5_unbindTo_81 : decode cX5_unbindTo 81 = .ok (.iload_n 2, 1) := by decide +kernel
theorem dX5_unbindTo_82 : decode cX5_unbindTo 82 = .ok (.putfield 55, 3) := by decide +kernel
theorem dX5_unbindTo_85 : decode cX5_unbindTo 85 = .ok (.iinc 2 (-1), 3) := by decide +kernel
theorem dX5_unbindTo_88 : decode cX5_unbindTo 88 = .ok (.goto (-81), 3) := by decide +kernel
theorem dX5_unbindTo_91 : decode cX5_unbindTo 91 = .ok (.return_, 1) := by decide +kernel
theorem dX5_write_0 : decode cX5_write 0 = .ok (.iconst 0, 1) := by decide +kernel
theorem dX5_write_1 : decode cX5_write 1 = .ok (.istore_n 3, 1) := by decide +kernel
theorem dX5_write_2 : decode cX5_write 2 = .ok (.aload_n 0, 1) := by decide +kernel
theorem dX5_write_3 : decode cX5_write 3 = .ok (.getfield 24, 3) := by decide +kernel
theorem dX5_write_6 : decode cX5_write 6 = .ok (.iconst 0, 1) := by decide +kernel
theorem dX5_write_7 : decode cX5_write 7 = .ok (.invokestatic 70, 3) := by decide +kernel
theorem dX5_write_10 : decode cX5_write 10 = .ok (.aload_n 0, 1) := by decide +kernel
theorem dX5_write_11 : decode cX5_write 11 = .ok (.iconst 0, 1) := by decide +kernel
theorem dX5_write_12 : decode cX5_write 12 = .ok (.putfield 76, 3) := by decide +kernel
theorem dX5_write_15 : decode cX5_write 15 = .ok (.aload_n 0, 1) := by decide +kernel
theorem dX5_write_16 : decode cX5_write 16 = .ok (.bipush 8, 2) := by decide +kernel
theorem dX5_write_18 : decode cX5_write 18 = .ok (.aload_n 0, 1) := by decide +kernel
theorem dX5_write_19 : decode cX5_write 19 = .ok (.getfield 33, 3) := by decide +kernel
theorem dX5_write_22 : decode cX5_write 22 = .ok (.iconst (-1), 1) := by decide +kernel
theorem dX5_write_23 : decode cX5_write 23 = .ok (.invokevirtual 65, 3) := by decide +kernel
theorem dX5_write_26 : decode cX5_write 26 = .ok (.invokevirtual 79, 3) := by decide +kernel
theorem dX5_write_29 : decode cX5_write 29 = .ok (.iconst 0, 1) := by decide +kernel
theorem dX5_write_30 : decode cX5_write 30 = .ok (.istore 4, 2) := by decide +kernel
theorem dX5_write_32 : decode cX5_write 32 = .ok (.iload 4, 2) := by decide +kernel
theorem dX5_write_34 : decode cX5_write 34 = .ok (.aload_n 0, 1) := by decide +kernel
theorem dX5_write_35 : decode cX5_write 35 = .ok (.getfield 58, 3) := by decide +kernel
theorem dX5_write_38 : decode cX5_write 38 = .ok (.if_icmp .ge 137, 3) := by decide +kernel
theorem dX5_write_41 : decode cX5_write 41 = .ok (.aload_n 0, 1) := by decide +kernel
theorem dX5_write_42 : decode cX5_write 42 = .ok (.getfield 76, 3) := by decide +kernel
theorem dX5_write_45 : decode cX5_write 45 = .ok (.ifCond .le 130, 3) := by decide +kernel
theorem dX5_write_48 : decode cX5_write 48 = .ok (.aload_n 0, 1) := by decide +kernel
theorem dX5_write_49 : decode cX5_write 49 = .ok (.dup, 1) := by decide +kernel
theorem dX5_write_50 : decode cX5_write 50 = .ok (.getfield 76, 3) := by decide +kernel
theorem dX5_write_53 : decode cX5_write 53 = .ok (.iconst 1, 1) := by decide +kernel
theorem dX5_write_54 : decode cX5_write 54 = .ok (.isub, 1) := by decide +kernel
theorem dX5_write_55 : decode cX5_write 55 = .ok (.putfield 76, 3) := by decide +kernel
theorem dX5_write_58 : decode cX5_write 58 = .ok (.aload_n 0, 1) := by decide +kernel
theorem dX5_write_59 : decode cX5_write 59 = .ok (.aload_n 0, 1) := by decide +kernel
theorem dX5_write_60 : decode cX5_write 60 = .ok (.getfield 30, 3) := by decide +kernel
theorem dX5_write_63 : decode cX5_write 63 = .ok (.aload_n 0, 1) := by decide +kernel
theorem dX5_write_64 : decode cX5_write 64 = .ok (.getfield 76, 3) := by decide +kernel
theorem dX5_write_67 : decode cX5_write 67 = .ok (.invokestatic 46, 3) := by decide +kernel
theorem dX5_write_70 : decode cX5_write 70 = .ok (.invokevirtual 61, 3) := by decide +kernel
theorem dX5_write_73 : decode cX5_write 73 = .ok (.istore 5, 2) := by decide +kernel
theorem dX5_write_75 : decode cX5_write 75 = .ok (.aload_n 0, 1) := by decide +kernel
theorem dX5_write_76 : decode cX5_write 76 = .ok (.getfield 9, 3) := by decide +kernel
theorem dX5_write_79 : decode cX5_write 79 = .ok (.iload 5, 2) := by decide +kernel
theorem dX5_write_81 : decode cX5_write 81 = .ok (.invokestatic 46, 3) := by decide +kernel
theorem dX5_write_84 : decode cX5_write 84 = .ok (.istore 6, 2) := by decide +kernel
theorem dX5_write_86 : decode cX5_write 86 = .ok (.iload 6, 2) := by decide +kernel
theorem dX5_write_88 : decode cX5_write 88 = .ok (.ifCond .lt 28, 3) := by decide +kernel
theorem dX5_write_91 : decode cX5_write 91 = .ok (.aload_n 0, 1) := by decide +kernel
theorem dX5_write_92 : decode cX5_write 92 = .ok (.aload_n 0, 1) := by decide +kernel
theorem dX5_write_93 : decode cX5_write 93 = .ok (.getfield 15, 3) := by decide +kernel
theorem dX5_write_96 : decode cX5_write 96 = .ok (.iload 5, 2) := by decide +kernel
theorem dX5_write_98 : decode cX5_write 98 = .ok (.invokestatic 46, 3) := by decide +kernel
theorem dX5_write_101 : decode cX5_write 101 = .ok (.aload_n 0, 1) := by decide +kernel
theorem dX5_write_102 : decode cX5_write 102 = .ok (.getfield 33, 3) := by decide +kernel
theorem dX5_write_105 : decode cX5_write 105 = .ok (.iload 6, 2) := by decide +kernel
theorem dX5_write_107 : decode cX5_write 107 = .ok (.invokevirtual 65, 3) := by decide +kernel
theorem dX5_write_110 : decode cX5_write 110 = .ok (.invokevirtual 79, 3) := by decide +kernel
theorem dX5_write_113 : decode cX5_write 113 = .ok (.goto 29, 3) := by decide +kernel
theorem dX5_write_116 : decode cX5_write 116 = .ok (.aload_n 0, 1) := by decide +kernel
theorem dX5_write_117 : decode cX5_write 117 = .ok (.getfield 24, 3) := by decide +kernel
theorem dX5_write_120 : decode cX5_write 120 = .ok (.iload 5, 2) := by decide +kernel
theorem dX5_write_122 : decode cX5_write 122 = .ok (.invokestatic 46, 3) := by decide +kernel
theorem dX5_write_125 : decode cX5_write 125 = .ok (.ifCond .ne 17, 3) := by decide +kernel
theorem dX5_write_128 : decode cX5_write 128 = .ok (.iinc 3 1, 3) := by decide +kernel
theorem dX5_write_131 : decode cX5_write 131 = .ok (.aload_n 0, 1) := by decide +kernel
theorem dX5_write_132 : decode cX5_write 132 = .ok (.getfield 24, 3) := by decide +kernel
theorem dX5_write_135 : decode cX5_write 135 = .ok (.iload 5, 2) := by decide +kernel
theorem dX5_write_137 : decode cX5_write 137 = .ok (.iload_n 3, 1) := by decide +kernel
theorem dX5_write_138 : decode cX5_write 138 = .ok (.ineg, 1) := by decide +kernel
theorem dX5_write_139 : decode cX5_write 139 = .ok (.invokestatic 37, 3) := by decide +kernel
theorem dX5_write_142 : decode cX5_write 142 = .ok (.aload_n 1, 1) := by decide +kernel
theorem dX5_write_143 : decode cX5_write 143 = .ok (.iload_n 2, 1) := by decide +kernel
theorem dX5_write_144 : decode cX5_write 144 = .ok (.iload 4, 2) := by decide +kernel
theorem dX5_write_146 : decode cX5_write 146 = .ok (.iadd, 1) := by decide +kernel
theorem dX5_write_147 : decode cX5_write 147 = .ok (.iload 6, 2) := by decide +kernel
theorem dX5_write_149 : decode cX5_write 149 = .ok (.ifCond .lt 8, 3) := by decide +kernel
theorem dX5_write_152 : decode cX5_write 152 = .ok (.iload 6, 2) := by decide +kernel
theorem dX5_write_154 : decode cX5_write 154 = .ok (.goto 12, 3) := by decide +kernel
theorem dX5_write_157 : decode cX5_write 157 = .ok (.aload_n 0, 1) := by decide +kernel
theorem dX5_write_158 : decode cX5_write 158 = .ok (.getfield 24, 3) := by decide +kernel
theorem dX5_write_161 : decode cX5_write 161 = .ok (.iload 5, 2) := by decide +kernel
theorem dX5_write_163 : decode cX5_write 163 = .ok (.invokestatic 46, 3) := by decide +kernel
theorem dX5_write_166 : decode cX5_write 166 = .ok (.invokestatic 37, 3) := by decide +kernel
theorem dX5_write_169 : decode cX5_write 169 = .ok (.iinc 4 1, 3) := by decide +kernel
theorem dX5_write_172 : decode cX5_write 172 = .ok (.goto (-140), 3) := by decide +kernel
theorem dX5_write_175 : decode cX5_write 175 = .ok (.return_, 1) := by decide +kernel
theorem dX5_leave_0 : decode cX5_leave 0 = .ok (.iload_n 1, 1) := by decide +kernel
theorem dX5_leave_1 : decode cX5_leave 1 = .ok (.istore_n 3, 1) := by decide +kernel
theorem dX5_leave_2 : decode cX5_leave 2 = .ok (.iload_n 2, 1) := by decide +kernel
theorem dX5_leave_3 : decode cX5_leave 3 = .ok (.iconst 1, 1) := by decide +kernel
theorem dX5_leave_4 : decode cX5_leave 4 = .ok (.isub, 1) := by decide +kernel
theorem dX5_leave_5 : decode cX5_leave 5 = .ok (.istore 4, 2) := by decide +kernel
theorem dX5_leave_7 : decode cX5_leave 7 = .ok (.iload 4, 2) := by decide +kernel
theorem dX5_leave_9 : decode cX5_leave 9 = .ok (.ifCond .lt 33, 3) := by decide +kernel
theorem dX5_leave_12 : decode cX5_leave 12 = .ok (.aload_n 0, 1) := by decide +kernel
theorem dX5_leave_13 : decode cX5_leave 13 = .ok (.getfield 30, 3) := by decide +kernel
theorem dX5_leave_16 : decode cX5_leave 16 = .ok (.aload_n 0, 1) := by decide +kernel
theorem dX5_leave_17 : decode cX5_leave 17 = .ok (.getfield 76, 3) := by decide +kernel
theorem dX5_leave_20 : decode cX5_leave 20 = .ok (.iload 4, 2) := by decide +kernel
theorem dX5_leave_22 : decode cX5_leave 22 = .ok (.iadd, 1) := by decide +kernel
theorem dX5_leave_23 : decode cX5_leave 23 = .ok (.iload_n 3, 1) := by decide +kernel
theorem dX5_leave_24 : decode cX5_leave 24 = .ok (.invokestatic 37, 3) := by decide +kernel
theorem dX5_leave_27 : decode cX5_leave 27 = .ok (.aload_n 0, 1) := by decide +kernel
theorem dX5_leave_28 : decode cX5_leave 28 = .ok (.getfield 18, 3) := by decide +kernel
theorem dX5_leave_31 : decode cX5_leave 31 = .ok (.iload_n 3, 1) := by decide +kernel
theorem dX5_leave_32 : decode cX5_leave 32 = .ok (.invokestatic 46, 3) := by decide +kernel
theorem dX5_leave_35 : decode cX5_leave 35 = .ok (.istore_n 3, 1) := by decide +kernel
theorem dX5_leave_36 : decode cX5_leave 36 = .ok (.iinc 4 (-1), 3) := by decide +kernel
theorem dX5_leave_39 : decode cX5_leave 39 = .ok (.goto (-32), 3) := by decide +kernel
theorem dX5_leave_42 : decode cX5_leave 42 = .ok (.aload_n 0, 1) := by decide +kernel
theorem dX5_leave_43 : decode cX5_leave 43 = .ok (.dup, 1) := by decide +kernel
theorem dX5_leave_44 : decode cX5_leave 44 = .ok (.getfield 76, 3) := by decide +kernel
theorem dX5_leave_47 : decode cX5_leave 47 = .ok (.iload_n 2, 1) := by decide +kernel
theorem dX5_leave_48 : decode cX5_leave 48 = .ok (.iadd, 1) := by decide +kernel
theorem dX5_leave_49 : decode cX5_leave 49 = .ok (.putfield 76, 3) := by decide +kernel
theorem dX5_leave_52 : decode cX5_leave 52 = .ok (.return_, 1) := by decide +kernel
