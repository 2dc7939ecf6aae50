theorem dX3_init_0 : decode cX3_init 0 = .ok (.aload_n 0, 1) := by decide +kernel
theorem dX3_init_1 : decode cX3_init 1 = .ok (.invokespecial 3, 3) := by decide +kernel
theorem dX3_init_4 : decode cX3_init 4 = .ok (.aload_n 0, 1) := by decide +kernel
theorem dX3_init_5 : decode cX3_init 5 = .ok (.bipush 25, 2) := by decide +kernel
theorem dX3_init_7 : decode cX3_init 7 = .ok (.newarray .int, 2) := by decide +kernel
theorem dX3_init_9 : decode cX3_init 9 = .ok (.putfield 9, 3) := by decide +kernel
theorem dX3_init_12 : decode cX3_init 12 = .ok (.aload_n 0, 1) := by decide +kernel
theorem dX3_init_13 : decode cX3_init 13 = .ok (.sipush 512, 3) := by decide +kernel
theorem dX3_init_16 : decode cX3_init 16 = .ok (.newarray .int, 2) := by decide +kernel
theorem dX3_init_18 : decode cX3_init 18 = .ok (.putfield 15, 3) := by decide +kernel
theorem dX3_init_21 : decode cX3_init 21 = .ok (.aload_n 0, 1) := by decide +kernel
theorem dX3_init_22 : decode cX3_init 22 = .ok (.sipush 512, 3) := by decide +kernel
theorem dX3_init_25 : decode cX3_init 25 = .ok (.newarray .int, 2) := by decide +kernel
theorem dX3_init_27 : decode cX3_init 27 = .ok (.putfield 18, 3) := by decide +kernel
theorem dX3_init_30 : decode cX3_init 30 = .ok (.aload_n 0, 1) := by decide +kernel
theorem dX3_init_31 : decode cX3_init 31 = .ok (.sipush 512, 3) := by decide +kernel
theorem dX3_init_34 : decode cX3_init 34 = .ok (.newarray .int, 2) := by decide +kernel
theorem dX3_init_36 : decode cX3_init 36 = .ok (.putfield 21, 3) := by decide +kernel
theorem dX3_init_39 : decode cX3_init 39 = .ok (.aload_n 0, 1) := by decide +kernel
theorem dX3_init_40 : decode cX3_init 40 = .ok (.sipush 512, 3) := by decide +kernel
theorem dX3_init_43 : decode cX3_init 43 = .ok (.newarray .int, 2) := by decide +kernel
theorem dX3_init_45 : decode cX3_init 45 = .ok (.putfield 24, 3) := by decide +kernel
theorem dX3_init_48 : decode cX3_init 48 = .ok (.aload_n 0, 1) := by decide +kernel
theorem dX3_init_49 : decode cX3_init 49 = .ok (.sipush 512, 3) := by decide +kernel
theorem dX3_init_52 : decode cX3_init 52 = .ok (.newarray .int, 2) := by decide +kernel
theorem dX3_init_54 : decode cX3_init 54 = .ok (.putfield 27, 3) := by decide +kernel
theorem dX3_init_57 : decode cX3_init 57 = .ok (.return_, 1) := by decide +kernel
theorem dX3_clear_0 : decode cX3_clear 0 = .ok (.aload_n 0, 1) := by decide +kernel
theorem dX3_clear_1 : decode cX3_clear 1 = .ok (.iconst 0, 1) := by decide +kernel
theorem dX3_clear_2 : decode cX3_clear 2 = .ok (.putfield 30, 3) := by decide +kernel
theorem dX3_clear_5 : decode cX3_clear 5 = .ok (.return_, 1) := by decide +kernel
theorem dX3_hasRoom_0 : decode cX3_hasRoom 0 = .ok (.aload_n 0, 1) := by decide +kernel
theorem dX3_hasRoom_1 : decode cX3_hasRoom 1 = .ok (.getfield 30, 3) := by decide +kernel
theorem dX3_hasRoom_4 : decode cX3_hasRoom 4 = .ok (.bipush 24, 2) := by decide +kernel
theorem dX3_hasRoom_6 : decode cX3_hasRoom 6 = .ok (.if_icmp .ge 23, 3) := by decide +kernel
theorem dX3_hasRoom_9 : decode cX3_hasRoom 9 = .ok (.aload_n 0, 1) := by decide +kernel
theorem dX3_hasRoom_10 : decode cX3_hasRoom 10 = .ok (.aload_n 0, 1) := by decide +kernel
theorem dX3_hasRoom_11 : decode cX3_hasRoom 11 = .ok (.getfield 30, 3) := by decide +kernel
theorem dX3_hasRoom_14 : decode cX3_hasRoom 14 = .ok (.invokevirtual 34, 3) := by decide +kernel
theorem dX3_hasRoom_17 : decode cX3_hasRoom 17 = .ok (.iload_n 1, 1) := by decide +kernel
theorem dX3_hasRoom_18 : decode cX3_hasRoom 18 = .ok (.iadd, 1) := by decide +kernel
theorem dX3_hasRoom_19 : decode cX3_hasRoom 19 = .ok (.sipush 512, 3) := by decide +kernel
theorem dX3_hasRoom_22 : decode cX3_hasRoom 22 = .ok (.if_icmp .gt 7, 3) := by decide +kernel
theorem dX3_hasRoom_25 : decode cX3_hasRoom 25 = .ok (.iconst 1, 1) := by decide +kernel
theorem dX3_hasRoom_26 : decode cX3_hasRoom 26 = .ok (.goto 4, 3) := by decide +kernel
theorem dX3_hasRoom_29 : decode cX3_hasRoom 29 = .ok (.iconst 0, 1) := by decide +kernel
theorem dX3_hasRoom_30 : decode cX3_hasRoom 30 = .ok (.ireturn, 1) := by decide +kernel
theorem dX3_start_0 : decode cX3_start 0 = .ok (.aload_n 0, 1) := by decide +kernel
theorem dX3_start_1 : decode cX3_start 1 = .ok (.getfield 9, 3) := by decide +kernel
theorem dX3_start_4 : decode cX3_start 4 = .ok (.iload_n 1, 1) := by decide +kernel
theorem dX3_start_5 : decode cX3_start 5 = .ok (.invokestatic 38, 3) := by decide +kernel
theorem dX3_start_8 : decode cX3_start 8 = .ok (.ireturn, 1) := by decide +kernel
theorem dX3_add_0 : decode cX3_add 0 = .ok (.aload_n 0, 1) := by decide +kernel
theorem dX3_add_1 : decode cX3_add 1 = .ok (.aload_n 0, 1) := by decide +kernel
theorem dX3_add_2 : decode cX3_add 2 = .ok (.getfield 30, 3) := by decide +kernel
theorem dX3_add_5 : decode cX3_add 5 = .ok (.invokevirtual 34, 3) := by decide +kernel
theorem dX3_add_8 : decode cX3_add 8 = .ok (.istore_n 3, 1) := by decide +kernel
theorem dX3_add_9 : decode cX3_add 9 = .ok (.iconst 0, 1) := by decide +kernel
theorem dX3_add_10 : decode cX3_add 10 = .ok (.istore 4, 2) := by decide +kernel
theorem dX3_add_12 : decode cX3_add 12 = .ok (.iload 4, 2) := by decide +kernel
theorem dX3_add_14 : decode cX3_add 14 = .ok (.iload_n 2, 1) := by decide +kernel
theorem dX3_add_15 : decode cX3_add 15 = .ok (.if_icmp .ge 107, 3) := by decide +kernel
theorem dX3_add_18 : decode cX3_add 18 = .ok (.aload_n 1, 1) := by decide +kernel
theorem dX3_add_19 : decode cX3_add 19 = .ok (.getfield 42, 3) := by decide +kernel
theorem dX3_add_22 : decode cX3_add 22 = .ok (.iload 4, 2) := by decide +kernel
theorem dX3_add_24 : decode cX3_add 24 = .ok (.invokestatic 38, 3) := by decide +kernel
theorem dX3_add_27 : decode cX3_add 27 = .ok (.istore 5, 2) := by decide +kernel
theorem dX3_add_29 : decode cX3_add 29 = .ok (.aload_n 0, 1) := by decide +kernel
theorem dX3_add_30 : decode cX3_add 30 = .ok (.getfield 15, 3) := by decide +kernel
theorem dX3_add_33 : decode cX3_add 33 = .ok (.iload_n 3, 1) := by decide +kernel
theorem dX3_add_34 : decode cX3_add 34 = .ok (.iload 4, 2) := by decide +kernel
theorem dX3_add_36 : decode cX3_add 36 = .ok (.iadd, 1) := by decide +kernel
theorem dX3_add_37 : decode cX3_add 37 = .ok (.aload_n 1, 1) := by decide +kernel
theorem dX3_add_38 : decode cX3_add 38 = .ok (.getfield 45, 3) := by decide +kernel
theorem dX3_add_41 : decode cX3_add 41 = .ok (.iload 4, 2) := by decide +kernel
theorem dX3_add_43 : decode cX3_add 43 = .ok (.invokestatic 38, 3) := by decide +kernel
theorem dX3_add_46 : decode cX3_add 46 = .ok (.invokestatic 48, 3) := by decide +kernel
theorem dX3_add_49 : decode cX3_add 49 = .ok (.aload_n 0, 1) := by decide +kernel
theorem dX3_add_50 : decode cX3_add 50 = .ok (.getfield 18, 3) := by decide +kernel
theorem dX3_add_53 : decode cX3_add 53 = .ok (.iload_n 3, 1) := by decide +kernel
theorem dX3_add_54 : decode cX3_add 54 = .ok (.iload 4, 2) := by decide +kernel
theorem dX3_add_56 : decode cX3_add 56 = .ok (.iadd, 1) := by decide +kernel
theorem dX3_add_57 : decode cX3_add 57 = .ok (.iload 5, 2) := by decide +kernel
theorem dX3_add_59 : decode cX3_add 59 = .ok (.iconst (-1), 1) := by decide +kernel
theorem dX3_add_60 : decode cX3_add 60 = .ok (.if_icmp .ne 7, 3) := by decide +kernel
theorem dX3_add_63 : decode cX3_add 63 = .ok (.iconst (-1), 1) := by decide +kernel
theorem dX3_add_64 : decode cX3_add 64 = .ok (.goto 7, 3) := by decide +kernel
theorem dX3_add_67 : decode cX3_add 67 = .ok (.iload_n 3, 1) := by decide +kernel
theorem dX3_add_68 : decode cX3_add 68 = .ok (.iload 5, 2) := by decide +kernel
theorem dX3_add_70 : decode cX3_add 70 = .ok (.iadd, 1) := by decide +kernel
theorem dX3_add_71 : decode cX3_add 71 = .ok (.invokestatic 48, 3) := by decide +kernel
theorem dX3_add_74 : decode cX3_add 74 = .ok (.aload_n 0, 1) := by decide +kernel
theorem dX3_add_75 : decode cX3_add 75 = .ok (.getfield 21, 3) := by decide +kernel
theorem dX3_add_78 : decode cX3_add 78 = .ok (.iload_n 3, 1) := by decide +kernel
theorem dX3_add_79 : decode cX3_add 79 = .ok (.iload 4, 2) := by decide +kernel
theorem dX3_add_81 : decode cX3_add 81 = .ok (.iadd, 1) := by decide +kernel
theorem dX3_add_82 : decode cX3_add 82 = .ok (.aload_n 1, 1) := by decide +kernel
theorem dX3_add_83 : decode cX3_add 83 = .ok (.getfield 52, 3) := by decide +kernel
theorem dX3_add_86 : decode cX3_add 86 = .ok (.iload 4, 2) := by decide +kernel
theorem dX3_add_88 : decode cX3_add 88 = .ok (.invokestatic 38, 3) := by decide +kernel
theorem dX3_add_91 : decode cX3_add 91 = .ok (.invokestatic 48, 3) := by decide +kernel
theorem dX3_add_94 : decode cX3_add 94 = .ok (.aload_n 0, 1) := by decide +kernel
theorem dX3_add_95 : decode cX3_add 95 = .ok (.getfield 24, 3) := by decide +kernel
theorem dX3_add_98 : decode cX3_add 98 = .ok (.iload_n 3, 1) := by decide +kernel
theorem dX3_add_99 : decode cX3_add 99 = .ok (.iload 4, 2) := by decide +kernel
theorem dX3_add_101 : decode cX3_add 101 = .ok (.iadd, 1) := by decide +kernel
theorem dX3_add_102 : decode cX3_add 102 = .ok (.iload_n 3, 1) := by decide +kernel
theorem dX3_add_103 : decode cX3_add 103 = .ok (.aload_n 1, 1) := by decide +kernel
theorem dX3_add_104 : decode cX3_add 104 = .ok (.getfield 53, 3) := by decide +kernel
theorem dX3_add_107 : decode cX3_add 107 = .ok (.iload 4, 2) := by decide +kernel
theorem dX3_add_109 : decode cX3_add 109 = .ok (.invokestatic 38, 3) := by decide +kernel
theorem dX3_add_112 : decode cX3_add 112 = .ok (.iadd, 1) := by decide +kernel
theorem dX3_add_113 : decode cX3_add 113 = .ok (.invokestatic 48, 3) := by decide +kernel
theorem dX3_add_116 : decode cX3_add 116 = .ok (.iinc 4 1, 3) := by decide +kernel
theorem dX3_add_119 : decode cX3_add 119 = .ok (.goto (-107), 3) := by decide +kernel
theorem dX3_add_122 : decode cX3_add 122 = .ok (.aload_n 0, 1) := by decide +kernel
theorem dX3_add_123 : decode cX3_add 123 = .ok (.dup, 1) := by decide +kernel
theorem dX3_add_124 : decode cX3_add 124 = .ok (.getfield 30, 3) := by decide +kernel
theorem dX3_add_127 : decode cX3_add 127 = .ok (.iconst 1, 1) := by decide +kernel
theorem dX3_add_128 : decode cX3_add 128 = .ok (.iadd, 1) := by decide +kernel
theorem dX3_add_129 : decode cX3_add 129 = .ok (.putfield 30, 3) := by decide +kernel
theorem dX3_add_132 : decode cX3_add 132 = .ok (.aload_n 0, 1) := by decide +kernel
theorem dX3_add_133 : decode cX3_add 133 = .ok (.getfield 9, 3) := by decide +kernel
theorem dX3_add_136 : decode cX3_add 136 = .ok (.aload_n 0, 1) := by decide +kernel
theorem dX3_add_137 : decode cX3_add 137 = .ok (.getfield 30, 3) := by decide +kernel
theorem dX3_add_140 : decode cX3_add 140 = .ok (.iload_n 3, 1) := by decide +kernel
theorem dX3_add_141 : decode cX3_add 141 = .ok (.iload_n 2, 1) := by decide +kernel
theorem dX3_add_142 : decode cX3_add 142 = .ok (.iadd, 1) := by decide +kernel
theorem dX3_add_143 : decode cX3_add 143 = .ok (.invokestatic 48, 3) := by decide +kernel
theorem dX3_add_146 : decode cX3_add 146 = .ok (.aload_n 0, 1) := by decide +kernel
theorem dX3_add_147 : decode cX3_add 147 = .ok (.getfield 30, 3) := by decide +kernel
theorem dX3_add_150 : decode cX3_add 150 = .ok (.iconst 1, 1) := by decide +kernel
theorem dX3_add_151 : decode cX3_add 151 = .ok (.isub, 1) := by decide +kernel
theorem dX3_add_152 : decode cX3_add 152 = .ok (.ireturn, 1) := by decide +kernel
theorem dX3_forgetAsked_0 : decode cX3_forgetAsked 0 = .ok (.aload_n 0, 1) := by decide +kernel
theorem dX3_forgetAsked_1 : decode cX3_forgetAsked 1 = .ok (.getfield 27, 3) := by decide +kernel
theorem dX3_forgetAsked_4 : decode cX3_forgetAsked 4 = .ok (.iconst (-1), 1) := by decide +kernel
theorem dX3_forgetAsked_5 : decode cX3_forgetAsked 5 = .ok (.invokestatic 54, 3) := by decide +kernel
theorem dX3_forgetAsked_8 : decode cX3_forgetAsked 8 = .ok (.return_, 1) := by decide +kernel
theorem dX3_isAsked_0 : decode cX3_isAsked 0 = .ok (.aload_n 0, 1) := by decide +kernel
theorem dX3_isAsked_1 : decode cX3_isAsked 1 = .ok (.getfield 27, 3) := by decide +kernel
theorem dX3_isAsked_4 : decode cX3_isAsked 4 = .ok (.iload_n 1, 1) := by decide +kernel
theorem dX3_isAsked_5 : decode cX3_isAsked 5 = .ok (.invokestatic 38, 3) := by decide +kernel
theorem dX3_isAsked_8 : decode cX3_isAsked 8 = .ok (.iconst (-1), 1) := by decide +kernel
theorem dX3_isAsked_9 : decode cX3_isAsked 9 = .ok (.if_icmp .eq 7, 3) := by decide +kernel
theorem dX3_isAsked_12 : decode cX3_isAsked 12 = .ok (.iconst 1, 1) := by decide +kernel
theorem dX3_isAsked_13 : decode cX3_isAsked 13 = .ok (.goto 4, 3) := by decide +kernel
theorem dX3_isAsked_16 : decode cX3_isAsked 16 = .ok (.iconst 0, 1) := by decide +kernel
theorem dX3_isAsked_17 : decode cX3_isAsked 17 = .ok (.ireturn, 1) := by decide +kernel
theorem dX3_isVariable_0 : decode cX3_isVariable 0 = .ok (.aload_n 0, 1) := by decide +kernel
theorem dX3_isVariable_1 : decode cX3_isVariable 1 = .ok (.getfield 15, 3) := by decide +kernel
theorem dX3_isVariable_4 : decode cX3_isVariable 4 = .ok (.iload_n 1, 1) := by decide +kernel
theorem dX3_isVariable_5 : decode cX3_isVariable 5 = .ok (.invokestatic 38, 3) := by decide +kernel
theorem dX3_isVariable_8 : decode cX3_isVariable 8 = .ok (.ifCond .ge 7, 3) := by decide +kernel
theorem dX3_isVariable_11 : decode cX3_isVariable 11 = .ok (.iconst 1, 1) := by decide +kernel
theorem dX3_isVariable_12 : decode cX3_isVariable 12 = .ok (.goto 4, 3) := by decide +kernel
theorem dX3_isVariable_15 : decode cX3_isVariable 15 = .ok (.iconst 0, 1) := by decide +kernel
theorem dX3_isVariable_16 : decode cX3_isVariable 16 = .ok (.ireturn, 1) := by decide +kernel
theorem dX3_meet_0 : decode cX3_meet 0 = .ok (.iload_n 1, 1) := by decide +kernel
theorem dX3_meet_1 : decode cX3_meet 1 = .ok (.ifCond .lt 23, 3) := by decide +kernel
theorem dX3_meet_4 : decode cX3_meet 4 = .ok (.iload_n 1, 1) := by decide +kernel
theorem dX3_meet_5 : decode cX3_meet 5 = .ok (.aload_n 0, 1) := by decide +kernel
theorem dX3_meet_6 : decode cX3_meet 6 = .ok (.getfield 30, 3) := by decide +kernel
theorem dX3_meet_9 : decode cX3_meet 9 = .ok (.if_icmp .ge 15, 3) := by decide +kernel
theorem dX3_meet_12 : decode cX3_meet 12 = .ok (.iload_n 2, 1) := by decide +kernel
theorem dX3_meet_13 : decode cX3_meet 13 = .ok (.ifCond .lt 11, 3) := by decide +kernel
theorem dX3_meet_16 : decode cX3_meet 16 = .ok (.iload_n 2, 1) := by decide +kernel
theorem dX3_meet_17 : decode cX3_meet 17 = .ok (.aload_n 0, 1) := by decide +kernel
theorem dX3_meet_18 : decode cX3_meet 18 = .ok (.getfield 30, 3) := by decide +kernel
theorem dX3_meet_21 : decode cX3_meet 21 = .ok (.if_icmp .lt 5, 3) := by decide +kernel
theorem dX3_meet_24 : decode cX3_meet 24 = .ok (.iconst 0, 1) := by decide +kernel
theorem dX3_meet_25 : decode cX3_meet 25 = .ok (.ireturn, 1) := by decide +kernel
theorem dX3_meet_26 : decode cX3_meet 26 = .ok (.aload_n 0, 1) := by decide +kernel
theorem dX3_meet_27 : decode cX3_meet 27 = .ok (.iload_n 1, 1) := by decide +kernel
theorem dX3_meet_28 : decode cX3_meet 28 = .ok (.invokevirtual 34, 3) := by decide +kernel
theorem dX3_meet_31 : decode cX3_meet 31 = .ok (.istore_n 3, 1) := by decide +kernel
theorem dX3_meet_32 : decode cX3_meet 32 = .ok (.aload_n 0, 1) := by decide +kernel
theorem dX3_meet_33 : decode cX3_meet 33 = .ok (.iload_n 2, 1) := by decide +kernel
theorem dX3_meet_34 : decode cX3_meet 34 = .ok (.invokevirtual 34, 3) := by decide +kernel
theorem dX3_meet_37 : decode cX3_meet 37 = .ok (.istore 4, 2) := by decide +kernel
theorem dX3_meet_39 : decode cX3_meet 39 = .ok (.iconst 0, 1) := by decide +kernel
theorem dX3_meet_40 : decode cX3_meet 40 = .ok (.istore 5, 2) := by decide +kernel
theorem dX3_meet_42 : decode cX3_meet 42 = .ok (.iload 5, 2) := by decide +kernel
theorem dX3_meet_44 : decode cX3_meet 44 = .ok (.sipush 160, 3) := by decide +kernel
theorem dX3_meet_47 : decode cX3_meet 47 = .ok (.if_icmp .ge 88, 3) := by decide +kernel
theorem dX3_meet_50 : decode cX3_meet 50 = .ok (.iload_n 3, 1) := by decide +kernel
theorem dX3_meet_51 : decode cX3_meet 51 = .ok (.aload_n 0, 1) := by decide +kernel
theorem dX3_meet_52 : decode cX3_meet 52 = .ok (.iload_n 1, 1) := by decide +kernel
theorem dX3_meet_53 : decode cX3_meet 53 = .ok (.iconst 1, 1) := by decide +kernel
theorem dX3_meet_54 : decode cX3_meet 54 = .ok (.iadd, 1) := by decide +kernel
theorem dX3_meet_55 : decode cX3_meet 55 = .ok (.invokevirtual 34, 3) := by decide +kernel
theorem dX3_meet_58 : decode cX3_meet 58 = .ok (.if_icmp .ge 77, 3) := by decide +kernel
theorem dX3_meet_61 : decode cX3_meet 61 = .ok (.aload_n 0, 1) := by decide +kernel
theorem dX3_meet_62 : decode cX3_meet 62 = .ok (.iload_n 3, 1) := by decide +kernel
theorem dX3_meet_63 : decode cX3_meet 63 = .ok (.invokevirtual 60, 3) := by decide +kernel
theorem dX3_meet_66 : decode cX3_meet 66 = .ok (.ifCond .ne 12, 3) := by decide +kernel
theorem dX3_meet_69 : decode cX3_meet 69 = .ok (.aload_n 0, 1) := by decide +kernel
theorem dX3_meet_70 : decode cX3_meet 70 = .ok (.iload 4, 2) := by decide +kernel
theorem dX3_meet_72 : decode cX3_meet 72 = .ok (.invokevirtual 60, 3) := by decide +kernel
theorem dX3_meet_75 : decode cX3_meet 75 = .ok (.ifCond .eq 26, 3) := by decide +kernel
theorem dX3_meet_78 : decode cX3_meet 78 = .ok (.aload_n 0, 1) := by decide +kernel
theorem dX3_meet_79 : decode cX3_meet 79 = .ok (.getfield 24, 3) := by decide +kernel
theorem dX3_meet_82 : decode cX3_meet 82 = .ok (.iload_n 3, 1) := by decide +kernel
theorem dX3_meet_83 : decode cX3_meet 83 = .ok (.invokestatic 38, 3) := by decide +kernel
theorem dX3_meet_86 : decode cX3_meet 86 = .ok (.istore_n 3, 1) := by decide +kernel
theorem dX3_meet_87 : decode cX3_meet 87 = .ok (.aload_n 0, 1) := by decide +kernel
theorem dX3_meet_88 : decode cX3_meet 88 = .ok (.getfield 24, 3) := by decide +kernel
theorem dX3_meet_91 : decode cX3_meet 91 = .ok (.iload 4, 2) := by decide +kernel
theorem dX3_meet_93 : decode cX3_meet 93 = .ok (.invokestatic 38, 3) := by decide +kernel
theorem dX3_meet_96 : decode cX3_meet 96 = .ok (.istore 4, 2) := by decide +kernel
theorem dX3_meet_98 : decode cX3_meet 98 = .ok (.goto 31, 3) := by decide +kernel
theorem dX3_meet_101 : decode cX3_meet 101 = .ok (.aload_n 0, 1) := by decide +kernel
theorem dX3_meet_102 : decode cX3_meet 102 = .ok (.getfield 15, 3) := by decide +kernel
theorem dX3_meet_105 : decode cX3_meet 105 = .ok (.iload_n 3, 1) := by decide +kernel
theorem dX3_meet_106 : decode cX3_meet 106 = .ok (.invokestatic 38, 3) := by decide +kernel
theorem dX3_meet_109 : decode cX3_meet 109 = .ok (.aload_n 0, 1) := by decide +kernel
theorem dX3_meet_110 : decode cX3_meet 110 = .ok (.getfield 15, 3) := by decide +kernel
theorem dX3_meet_113 : decode cX3_meet 113 = .ok (.iload 4, 2) := by decide +kernel
theorem dX3_meet_115 : decode cX3_meet 115 = .ok (.invokestatic 38, 3) := by decide +kernel
theorem dX3_meet_118 : decode cX3_meet 118 = .ok (.if_icmp .eq 5, 3) := by decide +kernel
theorem dX3_meet_121 : decode cX3_meet 121 = .ok (.iconst 0, 1) := by decide +kernel
theorem dX3_meet_122 : decode cX3_meet 122 = .ok (.ireturn, 1) := by decide +kernel
theorem dX3_meet_123 : decode cX3_meet 123 = .ok (.iinc 3 1, 3) := by decide +kernel
theorem dX3_meet_126 : decode cX3_meet 126 = .ok (.iinc 4 1, 3) := by decide +kernel
theorem dX3_meet_129 : decode cX3_meet 129 = .ok (.iinc 5 1, 3) := by decide +kernel
theorem dX3_meet_132 : decode cX3_meet 132 = .ok (.goto (-90), 3) := by decide +kernel
theorem dX3_meet_135 : decode cX3_meet 135 = .ok (.iconst 1, 1) := by decide +kernel
theorem dX3_meet_136 : decode cX3_meet 136 = .ok (.ireturn, 1) := by decide +kernel
theorem dX3_placesTo_0 : decode cX3_placesTo 0 = .ok (.iconst 0, 1) := by decide +kernel
theorem dX3_placesTo_1 : decode cX3_placesTo 1 = .ok (.istore_n 2, 1) := by decide +kernel
theorem dX3_placesTo_2 : decode cX3_placesTo 2 = .ok (.iload_n 1, 1) := by decide +kernel
theorem dX3_placesTo_3 : decode cX3_placesTo 3 = .ok (.istore_n 3, 1) := by decide +kernel
theorem dX3_placesTo_4 : decode cX3_placesTo 4 = .ok (.iconst 0, 1) := by decide +kernel
theorem dX3_placesTo_5 : decode cX3_placesTo 5 = .ok (.istore 4, 2) := by decide +kernel
theorem dX3_placesTo_7 : decode cX3_placesTo 7 = .ok (.iload 4, 2) := by decide +kernel
theorem dX3_placesTo_9 : decode cX3_placesTo 9 = .ok (.sipush 160, 3) := by decide +kernel
theorem dX3_placesTo_12 : decode cX3_placesTo 12 = .ok (.if_icmp .ge 26, 3) := by decide +kernel
theorem dX3_placesTo_15 : decode cX3_placesTo 15 = .ok (.iload_n 3, 1) := by decide +kernel
theorem dX3_placesTo_16 : decode cX3_placesTo 16 = .ok (.iconst (-1), 1) := by decide +kernel
theorem dX3_placesTo_17 : decode cX3_placesTo 17 = .ok (.if_icmp .eq 21, 3) := by decide +kernel
theorem dX3_placesTo_20 : decode cX3_placesTo 20 = .ok (.iinc 2 1, 3) := by decide +kernel
theorem dX3_placesTo_23 : decode cX3_placesTo 23 = .ok (.aload_n 0, 1) := by decide +kernel
theorem dX3_placesTo_24 : decode cX3_placesTo 24 = .ok (.getfield 18, 3) := by decide +kernel
theorem dX3_placesTo_27 : decode cX3_placesTo 27 = .ok (.iload_n 3, 1) := by decide +kernel
theorem dX3_placesTo_28 : decode cX3_placesTo 28 = .ok (.invokestatic 38, 3) := by decide +kernel
theorem dX3_placesTo_31 : decode cX3_placesTo 31 = .ok (.istore_n 3, 1) := by decide +kernel
theorem dX3_placesTo_32 : decode cX3_placesTo 32 = .ok (.iinc 4 1, 3) := by decide +kernel
theorem dX3_placesTo_35 : decode cX3_placesTo 35 = .ok (.goto (-28), 3) := by decide +kernel
theorem dX3_placesTo_38 : decode cX3_placesTo 38 = .ok (.iload_n 2, 1) := by decide +kernel
theorem dX3_placesTo_39 : decode cX3_placesTo 39 = .ok (.ireturn, 1) := by decide +kernel
theorem dX3_placeOnWay_0 : decode cX3_placeOnWay 0 = .ok (.iload_n 1, 1) := by decide +kernel
theorem dX3_placeOnWay_1 : decode cX3_placeOnWay 1 = .ok (.istore_n 3, 1) := by decide +kernel
theorem dX3_placeOnWay_2 : decode cX3_placeOnWay 2 = .ok (.aload_n 0, 1) := by decide +kernel
theorem dX3_placeOnWay_3 : decode cX3_placeOnWay 3 = .ok (.iload_n 1, 1) := by decide +kernel
theorem dX3_placeOnWay_4 : decode cX3_placeOnWay 4 = .ok (.invokevirtual 64, 3) := by decide +kernel
theorem dX3_placeOnWay_7 : decode cX3_placeOnWay 7 = .ok (.iconst 1, 1) := by decide +kernel
theorem dX3_placeOnWay_8 : decode cX3_placeOnWay 8 = .ok (.isub, 1) := by decide +kernel
theorem dX3_placeOnWay_9 : decode cX3_placeOnWay 9 = .ok (.istore 4, 2) := by decide +kernel
theorem dX3_placeOnWay_11 : decode cX3_placeOnWay 11 = .ok (.iload 4, 2) := by decide +kernel
theorem dX3_placeOnWay_13 : decode cX3_placeOnWay 13 = .ok (.iload_n 2, 1) := by decide +kernel
theorem dX3_placeOnWay_14 : decode cX3_placeOnWay 14 = .ok (.if_icmp .le 18, 3) := by decide +kernel
theorem dX3_placeOnWay_17 : decode cX3_placeOnWay 17 = .ok (.aload_n 0, 1) := by decide +kernel
theorem dX3_placeOnWay_18 : decode cX3_placeOnWay 18 = .ok (.getfield 18, 3) := by decide +kernel
theorem dX3_placeOnWay_21 : decode cX3_placeOnWay 21 = .ok (.iload_n 3, 1) := by decide +kernel
theorem dX3_placeOnWay_22 : decode cX3_placeOnWay 22 = .ok (.invokestatic 38, 3) := by decide +kernel
theorem dX3_placeOnWay_25 : decode cX3_placeOnWay 25 = .ok (.istore_n 3, 1) := by decide +kernel
theorem dX3_placeOnWay_26 : decode cX3_placeOnWay 26 = .ok (.iinc 4 (-1), 3) := by decide +kernel
theorem dX3_placeOnWay_29 : decode cX3_placeOnWay 29 = .ok (.goto (-18), 3) := by decide +kernel
theorem dX3_placeOnWay_32 : decode cX3_placeOnWay 32 = .ok (.aload_n 0, 1) := by decide +kernel
theorem dX3_placeOnWay_33 : decode cX3_placeOnWay 33 = .ok (.getfield 21, 3) := by decide +kernel
theorem dX3_placeOnWay_36 : decode cX3_placeOnWay 36 = .ok (.iload_n 3, 1) := by decide +kernel
theorem dX3_placeOnWay_37 : decode cX3_placeOnWay 37 = .ok (.invokestatic 38, 3) := by decide +kernel
theorem dX3_placeOnWay_40 : decode cX3_placeOnWay 40 = .ok (.ireturn, 1) := by decide +kernel
