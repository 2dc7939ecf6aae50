theorem dX6_init_0 : decode cX6_init 0 = .ok (.aload_n 0, 1) := by decide +kernel
theorem dX6_init_1 : decode cX6_init 1 = .ok (.invokespecial 3, 3) := by decide +kernel
theorem dX6_init_4 : decode cX6_init 4 = .ok (.aload_n 0, 1) := by decide +kernel
theorem dX6_init_5 : decode cX6_init 5 = .ok (.sipush 560, 3) := by decide +kernel
theorem dX6_init_8 : decode cX6_init 8 = .ok (.newarray .int, 2) := by decide +kernel
theorem dX6_init_10 : decode cX6_init 10 = .ok (.putfield 9, 3) := by decide +kernel
theorem dX6_init_13 : decode cX6_init 13 = .ok (.aload_n 0, 1) := by decide +kernel
theorem dX6_init_14 : decode cX6_init 14 = .ok (.sipush 560, 3) := by decide +kernel
theorem dX6_init_17 : decode cX6_init 17 = .ok (.newarray .int, 2) := by decide +kernel
theorem dX6_init_19 : decode cX6_init 19 = .ok (.putfield 15, 3) := by decide +kernel
theorem dX6_init_22 : decode cX6_init 22 = .ok (.aload_n 0, 1) := by decide +kernel
theorem dX6_init_23 : decode cX6_init 23 = .ok (.sipush 560, 3) := by decide +kernel
theorem dX6_init_26 : decode cX6_init 26 = .ok (.newarray .int, 2) := by decide +kernel
theorem dX6_init_28 : decode cX6_init 28 = .ok (.putfield 18, 3) := by decide +kernel
theorem dX6_init_31 : decode cX6_init 31 = .ok (.aload_n 0, 1) := by decide +kernel
theorem dX6_init_32 : decode cX6_init 32 = .ok (.sipush 560, 3) := by decide +kernel
theorem dX6_init_35 : decode cX6_init 35 = .ok (.newarray .int, 2) := by decide +kernel
theorem dX6_init_37 : decode cX6_init 37 = .ok (.putfield 21, 3) := by decide +kernel
theorem dX6_init_40 : decode cX6_init 40 = .ok (.aload_n 0, 1) := by decide +kernel
theorem dX6_init_41 : decode cX6_init 41 = .ok (.sipush 560, 3) := by decide +kernel
theorem dX6_init_44 : decode cX6_init 44 = .ok (.newarray .int, 2) := by decide +kernel
theorem dX6_init_46 : decode cX6_init 46 = .ok (.putfield 24, 3) := by decide +kernel
theorem dX6_init_49 : decode cX6_init 49 = .ok (.aload_n 0, 1) := by decide +kernel
theorem dX6_init_50 : decode cX6_init 50 = .ok (.sipush 186, 3) := by decide +kernel
theorem dX6_init_53 : decode cX6_init 53 = .ok (.newarray .int, 2) := by decide +kernel
theorem dX6_init_55 : decode cX6_init 55 = .ok (.putfield 27, 3) := by decide +kernel
theorem dX6_init_58 : decode cX6_init 58 = .ok (.return_, 1) := by decide +kernel
theorem dX6_clear_0 : decode cX6_clear 0 = .ok (.aload_n 0, 1) := by decide +kernel
theorem dX6_clear_1 : decode cX6_clear 1 = .ok (.iconst 0, 1) := by decide +kernel
theorem dX6_clear_2 : decode cX6_clear 2 = .ok (.putfield 30, 3) := by decide +kernel
theorem dX6_clear_5 : decode cX6_clear 5 = .ok (.return_, 1) := by decide +kernel
theorem dX6_add_0 : decode cX6_add 0 = .ok (.aload_n 0, 1) := by decide +kernel
theorem dX6_add_1 : decode cX6_add 1 = .ok (.getfield 30, 3) := by decide +kernel
theorem dX6_add_4 : decode cX6_add 4 = .ok (.sipush 560, 3) := by decide +kernel
theorem dX6_add_7 : decode cX6_add 7 = .ok (.if_icmp .lt 4, 3) := by decide +kernel
theorem dX6_add_10 : decode cX6_add 10 = .ok (.return_, 1) := by decide +kernel
theorem dX6_add_11 : decode cX6_add 11 = .ok (.aload_n 0, 1) := by decide +kernel
theorem dX6_add_12 : decode cX6_add 12 = .ok (.getfield 9, 3) := by decide +kernel
theorem dX6_add_15 : decode cX6_add 15 = .ok (.aload_n 0, 1) := by decide +kernel
theorem dX6_add_16 : decode cX6_add 16 = .ok (.getfield 30, 3) := by decide +kernel
theorem dX6_add_19 : decode cX6_add 19 = .ok (.iload_n 1, 1) := by decide +kernel
theorem dX6_add_20 : decode cX6_add 20 = .ok (.invokestatic 34, 3) := by decide +kernel
theorem dX6_add_23 : decode cX6_add 23 = .ok (.aload_n 0, 1) := by decide +kernel
theorem dX6_add_24 : decode cX6_add 24 = .ok (.getfield 15, 3) := by decide +kernel
theorem dX6_add_27 : decode cX6_add 27 = .ok (.aload_n 0, 1) := by decide +kernel
theorem dX6_add_28 : decode cX6_add 28 = .ok (.getfield 30, 3) := by decide +kernel
theorem dX6_add_31 : decode cX6_add 31 = .ok (.iload_n 2, 1) := by decide +kernel
theorem dX6_add_32 : decode cX6_add 32 = .ok (.invokestatic 34, 3) := by decide +kernel
theorem dX6_add_35 : decode cX6_add 35 = .ok (.aload_n 0, 1) := by decide +kernel
theorem dX6_add_36 : decode cX6_add 36 = .ok (.getfield 21, 3) := by decide +kernel
theorem dX6_add_39 : decode cX6_add 39 = .ok (.aload_n 0, 1) := by decide +kernel
theorem dX6_add_40 : decode cX6_add 40 = .ok (.getfield 30, 3) := by decide +kernel
theorem dX6_add_43 : decode cX6_add 43 = .ok (.iload_n 3, 1) := by decide +kernel
theorem dX6_add_44 : decode cX6_add 44 = .ok (.invokestatic 34, 3) := by decide +kernel
theorem dX6_add_47 : decode cX6_add 47 = .ok (.aload_n 0, 1) := by decide +kernel
theorem dX6_add_48 : decode cX6_add 48 = .ok (.getfield 24, 3) := by decide +kernel
theorem dX6_add_51 : decode cX6_add 51 = .ok (.aload_n 0, 1) := by decide +kernel
theorem dX6_add_52 : decode cX6_add 52 = .ok (.getfield 30, 3) := by decide +kernel
theorem dX6_add_55 : decode cX6_add 55 = .ok (.iload 4, 2) := by decide +kernel
theorem dX6_add_57 : decode cX6_add 57 = .ok (.invokestatic 34, 3) := by decide +kernel
theorem dX6_add_60 : decode cX6_add 60 = .ok (.aload_n 0, 1) := by decide +kernel
theorem dX6_add_61 : decode cX6_add 61 = .ok (.getfield 18, 3) := by decide +kernel
theorem dX6_add_64 : decode cX6_add 64 = .ok (.aload_n 0, 1) := by decide +kernel
theorem dX6_add_65 : decode cX6_add 65 = .ok (.getfield 30, 3) := by decide +kernel
theorem dX6_add_68 : decode cX6_add 68 = .ok (.iload 5, 2) := by decide +kernel
theorem dX6_add_70 : decode cX6_add 70 = .ok (.invokestatic 34, 3) := by decide +kernel
theorem dX6_add_73 : decode cX6_add 73 = .ok (.aload_n 0, 1) := by decide +kernel
theorem dX6_add_74 : decode cX6_add 74 = .ok (.dup, 1) := by decide +kernel
theorem dX6_add_75 : decode cX6_add 75 = .ok (.getfield 30, 3) := by decide +kernel
theorem dX6_add_78 : decode cX6_add 78 = .ok (.iconst 1, 1) := by decide +kernel
theorem dX6_add_79 : decode cX6_add 79 = .ok (.iadd, 1) := by decide +kernel
theorem dX6_add_80 : decode cX6_add 80 = .ok (.putfield 30, 3) := by decide +kernel
theorem dX6_add_83 : decode cX6_add 83 = .ok (.return_, 1) := by decide +kernel
theorem dX6_answer_0 : decode cX6_answer 0 = .ok (.iload_n 2, 1) := by decide +kernel
theorem dX6_answer_1 : decode cX6_answer 1 = .ok (.ifCond .lt 15, 3) := by decide +kernel
theorem dX6_answer_4 : decode cX6_answer 4 = .ok (.iload_n 2, 1) := by decide +kernel
theorem dX6_answer_5 : decode cX6_answer 5 = .ok (.aload_n 0, 1) := by decide +kernel
theorem dX6_answer_6 : decode cX6_answer 6 = .ok (.getfield 30, 3) := by decide +kernel
theorem dX6_answer_9 : decode cX6_answer 9 = .ok (.if_icmp .ge 7, 3) := by decide +kernel
theorem dX6_answer_12 : decode cX6_answer 12 = .ok (.iload_n 3, 1) := by decide +kernel
theorem dX6_answer_13 : decode cX6_answer 13 = .ok (.ifCond .ge 6, 3) := by decide +kernel
theorem dX6_answer_16 : decode cX6_answer 16 = .ok (.bipush (-9), 2) := by decide +kernel
theorem dX6_answer_18 : decode cX6_answer 18 = .ok (.ireturn, 1) := by decide +kernel
theorem dX6_answer_19 : decode cX6_answer 19 = .ok (.iload_n 3, 1) := by decide +kernel
theorem dX6_answer_20 : decode cX6_answer 20 = .ok (.tableswitch 101 0 4 #[36, 45, 74, 83, 92], 36) := by decide +kernel
theorem dX6_answer_56 : decode cX6_answer 56 = .ok (.aload_n 0, 1) := by decide +kernel
theorem dX6_answer_57 : decode cX6_answer 57 = .ok (.getfield 9, 3) := by decide +kernel
theorem dX6_answer_60 : decode cX6_answer 60 = .ok (.iload_n 2, 1) := by decide +kernel
theorem dX6_answer_61 : decode cX6_answer 61 = .ok (.invokestatic 38, 3) := by decide +kernel
theorem dX6_answer_64 : decode cX6_answer 64 = .ok (.ireturn, 1) := by decide +kernel
theorem dX6_answer_65 : decode cX6_answer 65 = .ok (.aload_n 0, 1) := by decide +kernel
theorem dX6_answer_66 : decode cX6_answer 66 = .ok (.getfield 9, 3) := by decide +kernel
theorem dX6_answer_69 : decode cX6_answer 69 = .ok (.iload_n 2, 1) := by decide +kernel
theorem dX6_answer_70 : decode cX6_answer 70 = .ok (.invokestatic 38, 3) := by decide +kernel
theorem dX6_answer_73 : decode cX6_answer 73 = .ok (.ifCond .ne 14, 3) := by decide +kernel
theorem dX6_answer_76 : decode cX6_answer 76 = .ok (.aload_n 0, 1) := by decide +kernel
theorem dX6_answer_77 : decode cX6_answer 77 = .ok (.getfield 15, 3) := by decide +kernel
theorem dX6_answer_80 : decode cX6_answer 80 = .ok (.iload_n 2, 1) := by decide +kernel
theorem dX6_answer_81 : decode cX6_answer 81 = .ok (.invokestatic 38, 3) := by decide +kernel
theorem dX6_answer_84 : decode cX6_answer 84 = .ok (.goto 9, 3) := by decide +kernel
theorem dX6_answer_87 : decode cX6_answer 87 = .ok (.aload_n 0, 1) := by decide +kernel
theorem dX6_answer_88 : decode cX6_answer 88 = .ok (.aload_n 1, 1) := by decide +kernel
theorem dX6_answer_89 : decode cX6_answer 89 = .ok (.iload_n 2, 1) := by decide +kernel
theorem dX6_answer_90 : decode cX6_answer 90 = .ok (.invokevirtual 42, 3) := by decide +kernel
theorem dX6_answer_93 : decode cX6_answer 93 = .ok (.ireturn, 1) := by decide +kernel
theorem dX6_answer_94 : decode cX6_answer 94 = .ok (.aload_n 0, 1) := by decide +kernel
theorem dX6_answer_95 : decode cX6_answer 95 = .ok (.getfield 18, 3) := by decide +kernel
theorem dX6_answer_98 : decode cX6_answer 98 = .ok (.iload_n 2, 1) := by decide +kernel
theorem dX6_answer_99 : decode cX6_answer 99 = .ok (.invokestatic 38, 3) := by decide +kernel
theorem dX6_answer_102 : decode cX6_answer 102 = .ok (.ireturn, 1) := by decide +kernel
theorem dX6_answer_103 : decode cX6_answer 103 = .ok (.aload_n 0, 1) := by decide +kernel
theorem dX6_answer_104 : decode cX6_answer 104 = .ok (.getfield 21, 3) := by decide +kernel
theorem dX6_answer_107 : decode cX6_answer 107 = .ok (.iload_n 2, 1) := by decide +kernel
theorem dX6_answer_108 : decode cX6_answer 108 = .ok (.invokestatic 38, 3) := by decide +kernel
theorem dX6_answer_111 : decode cX6_answer 111 = .ok (.ireturn, 1) := by decide +kernel
theorem dX6_answer_112 : decode cX6_answer 112 = .ok (.aload_n 0, 1) := by decide +kernel
theorem dX6_answer_113 : decode cX6_answer 113 = .ok (.getfield 24, 3) := by decide +kernel
theorem dX6_answer_116 : decode cX6_answer 116 = .ok (.iload_n 2, 1) := by decide +kernel
theorem dX6_answer_117 : decode cX6_answer 117 = .ok (.invokestatic 38, 3) := by decide +kernel
theorem dX6_answer_120 : decode cX6_answer 120 = .ok (.ireturn, 1) := by decide +kernel
theorem dX6_answer_121 : decode cX6_answer 121 = .ok (.iload_n 3, 1) := by decide +kernel
theorem dX6_answer_122 : decode cX6_answer 122 = .ok (.iconst 5, 1) := by decide +kernel
theorem dX6_answer_123 : decode cX6_answer 123 = .ok (.isub, 1) := by decide +kernel
theorem dX6_answer_124 : decode cX6_answer 124 = .ok (.istore 4, 2) := by decide +kernel
theorem dX6_answer_126 : decode cX6_answer 126 = .ok (.iload 4, 2) := by decide +kernel
theorem dX6_answer_128 : decode cX6_answer 128 = .ok (.aload_n 0, 1) := by decide +kernel
theorem dX6_answer_129 : decode cX6_answer 129 = .ok (.aload_n 1, 1) := by decide +kernel
theorem dX6_answer_130 : decode cX6_answer 130 = .ok (.iload_n 2, 1) := by decide +kernel
theorem dX6_answer_131 : decode cX6_answer 131 = .ok (.invokevirtual 42, 3) := by decide +kernel
theorem dX6_answer_134 : decode cX6_answer 134 = .ok (.if_icmp .ge 20, 3) := by decide +kernel
theorem dX6_answer_137 : decode cX6_answer 137 = .ok (.aload_n 1, 1) := by decide +kernel
theorem dX6_answer_138 : decode cX6_answer 138 = .ok (.aload_n 0, 1) := by decide +kernel
theorem dX6_answer_139 : decode cX6_answer 139 = .ok (.getfield 15, 3) := by decide +kernel
theorem dX6_answer_142 : decode cX6_answer 142 = .ok (.iload_n 2, 1) := by decide +kernel
theorem dX6_answer_143 : decode cX6_answer 143 = .ok (.invokestatic 38, 3) := by decide +kernel
theorem dX6_answer_146 : decode cX6_answer 146 = .ok (.iload 4, 2) := by decide +kernel
theorem dX6_answer_148 : decode cX6_answer 148 = .ok (.invokevirtual 46, 3) := by decide +kernel
theorem dX6_answer_151 : decode cX6_answer 151 = .ok (.goto 5, 3) := by decide +kernel
theorem dX6_answer_154 : decode cX6_answer 154 = .ok (.bipush (-9), 2) := by decide +kernel
theorem dX6_answer_156 : decode cX6_answer 156 = .ok (.ireturn, 1) := by decide +kernel
theorem dX6_places_0 : decode cX6_places 0 = .ok (.aload_n 0, 1) := by decide +kernel
theorem dX6_places_1 : decode cX6_places 1 = .ok (.getfield 9, 3) := by decide +kernel
theorem dX6_places_4 : decode cX6_places 4 = .ok (.iload_n 2, 1) := by decide +kernel
theorem dX6_places_5 : decode cX6_places 5 = .ok (.invokestatic 38, 3) := by decide +kernel
theorem dX6_places_8 : decode cX6_places 8 = .ok (.iconst 1, 1) := by decide +kernel
theorem dX6_places_9 : decode cX6_places 9 = .ok (.if_icmp .ne 18, 3) := by decide +kernel
theorem dX6_places_12 : decode cX6_places 12 = .ok (.aload_n 1, 1) := by decide +kernel
theorem dX6_places_13 : decode cX6_places 13 = .ok (.aload_n 0, 1) := by decide +kernel
theorem dX6_places_14 : decode cX6_places 14 = .ok (.getfield 15, 3) := by decide +kernel
theorem dX6_places_17 : decode cX6_places 17 = .ok (.iload_n 2, 1) := by decide +kernel
theorem dX6_places_18 : decode cX6_places 18 = .ok (.invokestatic 38, 3) := by decide +kernel
theorem dX6_places_21 : decode cX6_places 21 = .ok (.invokevirtual 52, 3) := by decide +kernel
theorem dX6_places_24 : decode cX6_places 24 = .ok (.goto 4, 3) := by decide +kernel
theorem dX6_places_27 : decode cX6_places 27 = .ok (.iconst 0, 1) := by decide +kernel
theorem dX6_places_28 : decode cX6_places 28 = .ok (.ireturn, 1) := by decide +kernel
theorem dX6_howMany_0 : decode cX6_howMany 0 = .ok (.iconst 0, 1) := by decide +kernel
theorem dX6_howMany_1 : decode cX6_howMany 1 = .ok (.istore_n 2, 1) := by decide +kernel
theorem dX6_howMany_2 : decode cX6_howMany 2 = .ok (.iconst 0, 1) := by decide +kernel
theorem dX6_howMany_3 : decode cX6_howMany 3 = .ok (.istore_n 3, 1) := by decide +kernel
theorem dX6_howMany_4 : decode cX6_howMany 4 = .ok (.iload_n 3, 1) := by decide +kernel
theorem dX6_howMany_5 : decode cX6_howMany 5 = .ok (.aload_n 0, 1) := by decide +kernel
theorem dX6_howMany_6 : decode cX6_howMany 6 = .ok (.getfield 30, 3) := by decide +kernel
theorem dX6_howMany_9 : decode cX6_howMany 9 = .ok (.if_icmp .ge 24, 3) := by decide +kernel
theorem dX6_howMany_12 : decode cX6_howMany 12 = .ok (.aload_n 0, 1) := by decide +kernel
theorem dX6_howMany_13 : decode cX6_howMany 13 = .ok (.getfield 9, 3) := by decide +kernel
theorem dX6_howMany_16 : decode cX6_howMany 16 = .ok (.iload_n 3, 1) := by decide +kernel
theorem dX6_howMany_17 : decode cX6_howMany 17 = .ok (.invokestatic 38, 3) := by decide +kernel
theorem dX6_howMany_20 : decode cX6_howMany 20 = .ok (.iload_n 1, 1) := by decide +kernel
theorem dX6_howMany_21 : decode cX6_howMany 21 = .ok (.if_icmp .ne 6, 3) := by decide +kernel
theorem dX6_howMany_24 : decode cX6_howMany 24 = .ok (.iinc 2 1, 3) := by decide +kernel
theorem dX6_howMany_27 : decode cX6_howMany 27 = .ok (.iinc 3 1, 3) := by decide +kernel
theorem dX6_howMany_30 : decode cX6_howMany 30 = .ok (.goto (-26), 3) := by decide +kernel
theorem dX6_howMany_33 : decode cX6_howMany 33 = .ok (.iload_n 2, 1) := by decide +kernel
theorem dX6_howMany_34 : decode cX6_howMany 34 = .ok (.ireturn, 1) := by decide +kernel
theorem dX6_deepest_0 : decode cX6_deepest 0 = .ok (.iconst 0, 1) := by decide +kernel
theorem dX6_deepest_1 : decode cX6_deepest 1 = .ok (.istore_n 1, 1) := by decide +kernel
theorem dX6_deepest_2 : decode cX6_deepest 2 = .ok (.iconst 0, 1) := by decide +kernel
theorem dX6_deepest_3 : decode cX6_deepest 3 = .ok (.istore_n 2, 1) := by decide +kernel
theorem dX6_deepest_4 : decode cX6_deepest 4 = .ok (.iload_n 2, 1) := by decide +kernel
theorem dX6_deepest_5 : decode cX6_deepest 5 = .ok (.aload_n 0, 1) := by decide +kernel
theorem dX6_deepest_6 : decode cX6_deepest 6 = .ok (.getfield 30, 3) := by decide +kernel
theorem dX6_deepest_9 : decode cX6_deepest 9 = .ok (.if_icmp .ge 22, 3) := by decide +kernel
theorem dX6_deepest_12 : decode cX6_deepest 12 = .ok (.iload_n 1, 1) := by decide +kernel
theorem dX6_deepest_13 : decode cX6_deepest 13 = .ok (.aload_n 0, 1) := by decide +kernel
theorem dX6_deepest_14 : decode cX6_deepest 14 = .ok (.getfield 24, 3) := by decide +kernel
theorem dX6_deepest_17 : decode cX6_deepest 17 = .ok (.iload_n 2, 1) := by decide +kernel
theorem dX6_deepest_18 : decode cX6_deepest 18 = .ok (.invokestatic 38, 3) := by decide +kernel
theorem dX6_deepest_21 : decode cX6_deepest 21 = .ok (.invokestatic 56, 3) := by decide +kernel
theorem dX6_deepest_24 : decode cX6_deepest 24 = .ok (.istore_n 1, 1) := by decide +kernel
theorem dX6_deepest_25 : decode cX6_deepest 25 = .ok (.iinc 2 1, 3) := by decide +kernel
theorem dX6_deepest_28 : decode cX6_deepest 28 = .ok (.goto (-24), 3) := by decide +kernel
theorem dX6_deepest_31 : decode cX6_deepest 31 = .ok (.iload_n 1, 1) := by decide +kernel
theorem dX6_deepest_32 : decode cX6_deepest 32 = .ok (.ireturn, 1) := by decide +kernel
theorem dX6_coversAll_0 : decode cX6_coversAll 0 = .ok (.aload_n 0, 1) := by decide +kernel
theorem dX6_coversAll_1 : decode cX6_coversAll 1 = .ok (.getfield 27, 3) := by decide +kernel
theorem dX6_coversAll_4 : decode cX6_coversAll 4 = .ok (.iconst 0, 1) := by decide +kernel
theorem dX6_coversAll_5 : decode cX6_coversAll 5 = .ok (.invokestatic 61, 3) := by decide +kernel
theorem dX6_coversAll_8 : decode cX6_coversAll 8 = .ok (.aload_n 0, 1) := by decide +kernel
theorem dX6_coversAll_9 : decode cX6_coversAll 9 = .ok (.getfield 30, 3) := by decide +kernel
theorem dX6_coversAll_12 : decode cX6_coversAll 12 = .ok (.iconst 1, 1) := by decide +kernel
theorem dX6_coversAll_13 : decode cX6_coversAll 13 = .ok (.isub, 1) := by decide +kernel
theorem dX6_coversAll_14 : decode cX6_coversAll 14 = .ok (.istore_n 3, 1) := by decide +kernel
theorem dX6_coversAll_15 : decode cX6_coversAll 15 = .ok (.iload_n 3, 1) := by decide +kernel
theorem dX6_coversAll_16 : decode cX6_coversAll 16 = .ok (.ifCond .lt 76, 3) := by decide +kernel
theorem dX6_coversAll_19 : decode cX6_coversAll 19 = .ok (.aload_n 0, 1) := by decide +kernel
theorem dX6_coversAll_20 : decode cX6_coversAll 20 = .ok (.getfield 24, 3) := by decide +kernel
theorem dX6_coversAll_23 : decode cX6_coversAll 23 = .ok (.iload_n 3, 1) := by decide +kernel
theorem dX6_coversAll_24 : decode cX6_coversAll 24 = .ok (.invokestatic 38, 3) := by decide +kernel
theorem dX6_coversAll_27 : decode cX6_coversAll 27 = .ok (.istore 4, 2) := by decide +kernel
theorem dX6_coversAll_29 : decode cX6_coversAll 29 = .ok (.aload_n 0, 1) := by decide +kernel
theorem dX6_coversAll_30 : decode cX6_coversAll 30 = .ok (.getfield 27, 3) := by decide +kernel
theorem dX6_coversAll_33 : decode cX6_coversAll 33 = .ok (.iload 4, 2) := by decide +kernel
theorem dX6_coversAll_35 : decode cX6_coversAll 35 = .ok (.iconst 1, 1) := by decide +kernel
theorem dX6_coversAll_36 : decode cX6_coversAll 36 = .ok (.iadd, 1) := by decide +kernel
theorem dX6_coversAll_37 : decode cX6_coversAll 37 = .ok (.invokestatic 38, 3) := by decide +kernel
theorem dX6_coversAll_40 : decode cX6_coversAll 40 = .ok (.istore 5, 2) := by decide +kernel
theorem dX6_coversAll_42 : decode cX6_coversAll 42 = .ok (.aload_n 0, 1) := by decide +kernel
theorem dX6_coversAll_43 : decode cX6_coversAll 43 = .ok (.getfield 27, 3) := by decide +kernel
theorem dX6_coversAll_46 : decode cX6_coversAll 46 = .ok (.iload 4, 2) := by decide +kernel
theorem dX6_coversAll_48 : decode cX6_coversAll 48 = .ok (.iconst 1, 1) := by decide +kernel
theorem dX6_coversAll_49 : decode cX6_coversAll 49 = .ok (.iadd, 1) := by decide +kernel
theorem dX6_coversAll_50 : decode cX6_coversAll 50 = .ok (.iconst 0, 1) := by decide +kernel
theorem dX6_coversAll_51 : decode cX6_coversAll 51 = .ok (.invokestatic 34, 3) := by decide +kernel
theorem dX6_coversAll_54 : decode cX6_coversAll 54 = .ok (.aload_n 0, 1) := by decide +kernel
theorem dX6_coversAll_55 : decode cX6_coversAll 55 = .ok (.iload 5, 2) := by decide +kernel
theorem dX6_coversAll_57 : decode cX6_coversAll 57 = .ok (.iload_n 3, 1) := by decide +kernel
theorem dX6_coversAll_58 : decode cX6_coversAll 58 = .ok (.aload_n 1, 1) := by decide +kernel
theorem dX6_coversAll_59 : decode cX6_coversAll 59 = .ok (.aload_n 2, 1) := by decide +kernel
theorem dX6_coversAll_60 : decode cX6_coversAll 60 = .ok (.invokevirtual 67, 3) := by decide +kernel
theorem dX6_coversAll_63 : decode cX6_coversAll 63 = .ok (.ifCond .eq 23, 3) := by decide +kernel
theorem dX6_coversAll_66 : decode cX6_coversAll 66 = .ok (.aload_n 0, 1) := by decide +kernel
theorem dX6_coversAll_67 : decode cX6_coversAll 67 = .ok (.getfield 27, 3) := by decide +kernel
theorem dX6_coversAll_70 : decode cX6_coversAll 70 = .ok (.iload 4, 2) := by decide +kernel
theorem dX6_coversAll_72 : decode cX6_coversAll 72 = .ok (.aload_n 0, 1) := by decide +kernel
theorem dX6_coversAll_73 : decode cX6_coversAll 73 = .ok (.getfield 27, 3) := by decide +kernel
theorem dX6_coversAll_76 : decode cX6_coversAll 76 = .ok (.iload 4, 2) := by decide +kernel
theorem dX6_coversAll_78 : decode cX6_coversAll 78 = .ok (.invokestatic 38, 3) := by decide +kernel
theorem dX6_coversAll_81 : decode cX6_coversAll 81 = .ok (.iconst 1, 1) := by decide +kernel
theorem dX6_coversAll_82 : decode cX6_coversAll 82 = .ok (.iadd, 1) := by decide +kernel
theorem dX6_coversAll_83 : decode cX6_coversAll 83 = .ok (.invokestatic 34, 3) := by decide +kernel
theorem dX6_coversAll_86 : decode cX6_coversAll 86 = .ok (.iinc 3 (-1), 3) := by decide +kernel
theorem dX6_coversAll_89 : decode cX6_coversAll 89 = .ok (.goto (-74), 3) := by decide +kernel
theorem dX6_coversAll_92 : decode cX6_coversAll 92 = .ok (.aload_n 0, 1) := by decide +kernel
theorem dX6_coversAll_93 : decode cX6_coversAll 93 = .ok (.getfield 27, 3) := by decide +kernel
theorem dX6_coversAll_96 : decode cX6_coversAll 96 = .ok (.iconst 0, 1) := by decide +kernel
theorem dX6_coversAll_97 : decode cX6_coversAll 97 = .ok (.invokestatic 38, 3) := by decide +kernel
theorem dX6_coversAll_100 : decode cX6_coversAll 100 = .ok (.ifCond .le 7, 3) := by decide +kernel
theorem dX6_coversAll_103 : decode cX6_coversAll 103 = .ok (.iconst 1, 1) := by decide +kernel
theorem dX6_coversAll_104 : decode cX6_coversAll 104 = .ok (.goto 4, 3) := by decide +kernel
theorem dX6_coversAll_107 : decode cX6_coversAll 107 = .ok (.iconst 0, 1) := by decide +kernel
theorem dX6_coversAll_108 : decode cX6_coversAll 108 = .ok (.ireturn, 1) := by decide +kernel
theorem dX6_coversWith_0 : decode cX6_coversWith 0 = .ok (.aload_n 0, 1) := by decide +kernel
theorem dX6_coversWith_1 : decode cX6_coversWith 1 = .ok (.getfield 9, 3) := by decide +kernel
theorem dX6_coversWith_4 : decode cX6_coversWith 4 = .ok (.iload_n 2, 1) := by decide +kernel
theorem dX6_coversWith_5 : decode cX6_coversWith 5 = .ok (.invokestatic 38, 3) := by decide +kernel
theorem dX6_coversWith_8 : decode cX6_coversWith 8 = .ok (.lookupswitch 40 #[(0, 28), (2, 30)], 28) := by decide +kernel
theorem dX6_coversWith_36 : decode cX6_coversWith 36 = .ok (.iconst 1, 1) := by decide +kernel
theorem dX6_coversWith_37 : decode cX6_coversWith 37 = .ok (.ireturn, 1) := by decide +kernel
theorem dX6_coversWith_38 : decode cX6_coversWith 38 = .ok (.iload_n 1, 1) := by decide +kernel
theorem dX6_coversWith_39 : decode cX6_coversWith 39 = .ok (.ifCond .le 7, 3) := by decide +kernel
theorem dX6_coversWith_42 : decode cX6_coversWith 42 = .ok (.iconst 1, 1) := by decide +kernel
theorem dX6_coversWith_43 : decode cX6_coversWith 43 = .ok (.goto 4, 3) := by decide +kernel
theorem dX6_coversWith_46 : decode cX6_coversWith 46 = .ok (.iconst 0, 1) := by decide +kernel
theorem dX6_coversWith_47 : decode cX6_coversWith 47 = .ok (.ireturn, 1) := by decide +kernel
theorem dX6_coversWith_48 : decode cX6_coversWith 48 = .ok (.aload_n 3, 1) := by decide +kernel
theorem dX6_coversWith_49 : decode cX6_coversWith 49 = .ok (.getfield 71, 3) := by decide +kernel
theorem dX6_coversWith_52 : decode cX6_coversWith 52 = .ok (.aload_n 0, 1) := by decide +kernel
theorem dX6_coversWith_53 : decode cX6_coversWith 53 = .ok (.getfield 15, 3) := by decide +kernel
theorem dX6_coversWith_56 : decode cX6_coversWith 56 = .ok (.iload_n 2, 1) := by decide +kernel
theorem dX6_coversWith_57 : decode cX6_coversWith 57 = .ok (.invokestatic 38, 3) := by decide +kernel
theorem dX6_coversWith_60 : decode cX6_coversWith 60 = .ok (.invokestatic 38, 3) := by decide +kernel
theorem dX6_coversWith_63 : decode cX6_coversWith 63 = .ok (.istore 5, 2) := by decide +kernel
theorem dX6_coversWith_65 : decode cX6_coversWith 65 = .ok (.iload_n 1, 1) := by decide +kernel
theorem dX6_coversWith_66 : decode cX6_coversWith 66 = .ok (.aload 4, 2) := by decide +kernel
theorem dX6_coversWith_68 : decode cX6_coversWith 68 = .ok (.aload 4, 2) := by decide +kernel
theorem dX6_coversWith_70 : decode cX6_coversWith 70 = .ok (.iload 5, 2) := by decide +kernel
theorem dX6_coversWith_72 : decode cX6_coversWith 72 = .ok (.invokevirtual 74, 3) := by decide +kernel
theorem dX6_coversWith_75 : decode cX6_coversWith 75 = .ok (.invokevirtual 79, 3) := by decide +kernel
theorem dX6_coversWith_78 : decode cX6_coversWith 78 = .ok (.if_icmp .ne 7, 3) := by decide +kernel
theorem dX6_coversWith_81 : decode cX6_coversWith 81 = .ok (.iconst 1, 1) := by decide +kernel
theorem dX6_coversWith_82 : decode cX6_coversWith 82 = .ok (.goto 4, 3) := by decide +kernel
theorem dX6_coversWith_85 : decode cX6_coversWith 85 = .ok (.iconst 0, 1) := by decide +kernel
theorem dX6_coversWith_86 : decode cX6_coversWith 86 = .ok (.ireturn, 1) := by decide +kernel
