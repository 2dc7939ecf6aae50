theorem dX0_init_0 : decode cX0_init 0 = .ok (.aload_n 0, 1) := by decide +kernel
theorem dX0_init_1 : decode cX0_init 1 = .ok (.invokespecial 3, 3) := by decide +kernel
theorem dX0_init_4 : decode cX0_init 4 = .ok (.aload_n 0, 1) := by decide +kernel
theorem dX0_init_5 : decode cX0_init 5 = .ok (.bipush 24, 2) := by decide +kernel
theorem dX0_init_7 : decode cX0_init 7 = .ok (.newarray .int, 2) := by decide +kernel
theorem dX0_init_9 : decode cX0_init 9 = .ok (.putfield 9, 3) := by decide +kernel
theorem dX0_init_12 : decode cX0_init 12 = .ok (.aload_n 0, 1) := by decide +kernel
theorem dX0_init_13 : decode cX0_init 13 = .ok (.bipush 24, 2) := by decide +kernel
theorem dX0_init_15 : decode cX0_init 15 = .ok (.newarray .int, 2) := by decide +kernel
theorem dX0_init_17 : decode cX0_init 17 = .ok (.putfield 15, 3) := by decide +kernel
theorem dX0_init_20 : decode cX0_init 20 = .ok (.aload_n 0, 1) := by decide +kernel
theorem dX0_init_21 : decode cX0_init 21 = .ok (.bipush 24, 2) := by decide +kernel
theorem dX0_init_23 : decode cX0_init 23 = .ok (.newarray .int, 2) := by decide +kernel
theorem dX0_init_25 : decode cX0_init 25 = .ok (.putfield 18, 3) := by decide +kernel
theorem dX0_init_28 : decode cX0_init 28 = .ok (.aload_n 0, 1) := by decide +kernel
theorem dX0_init_29 : decode cX0_init 29 = .ok (.bipush 24, 2) := by decide +kernel
theorem dX0_init_31 : decode cX0_init 31 = .ok (.newarray .int, 2) := by decide +kernel
theorem dX0_init_33 : decode cX0_init 33 = .ok (.putfield 21, 3) := by decide +kernel
theorem dX0_init_36 : decode cX0_init 36 = .ok (.aload_n 0, 1) := by decide +kernel
theorem dX0_init_37 : decode cX0_init 37 = .ok (.iconst 0, 1) := by decide +kernel
theorem dX0_init_38 : decode cX0_init 38 = .ok (.newarray .int, 2) := by decide +kernel
theorem dX0_init_40 : decode cX0_init 40 = .ok (.putfield 24, 3) := by decide +kernel
theorem dX0_init_43 : decode cX0_init 43 = .ok (.return_, 1) := by decide +kernel
theorem dX0_clear_0 : decode cX0_clear 0 = .ok (.aload_n 0, 1) := by decide +kernel
theorem dX0_clear_1 : decode cX0_clear 1 = .ok (.iconst 0, 1) := by decide +kernel
theorem dX0_clear_2 : decode cX0_clear 2 = .ok (.putfield 27, 3) := by decide +kernel
theorem dX0_clear_5 : decode cX0_clear 5 = .ok (.return_, 1) := by decide +kernel
theorem dX0_add_0 : decode cX0_add 0 = .ok (.aload_n 0, 1) := by decide +kernel
theorem dX0_add_1 : decode cX0_add 1 = .ok (.getfield 27, 3) := by decide +kernel
theorem dX0_add_4 : decode cX0_add 4 = .ok (.bipush 24, 2) := by decide +kernel
theorem dX0_add_6 : decode cX0_add 6 = .ok (.if_icmp .ge 14, 3) := by decide +kernel
theorem dX0_add_9 : decode cX0_add 9 = .ok (.aload 4, 2) := by decide +kernel
theorem dX0_add_11 : decode cX0_add 11 = .ok (.getfield 31, 3) := by decide +kernel
theorem dX0_add_14 : decode cX0_add 14 = .ok (.sipush 400, 3) := by decide +kernel
theorem dX0_add_17 : decode cX0_add 17 = .ok (.if_icmp .le 4, 3) := by decide +kernel
theorem dX0_add_20 : decode cX0_add 20 = .ok (.return_, 1) := by decide +kernel
theorem dX0_add_21 : decode cX0_add 21 = .ok (.aload_n 0, 1) := by decide +kernel
theorem dX0_add_22 : decode cX0_add 22 = .ok (.getfield 24, 3) := by decide +kernel
theorem dX0_add_25 : decode cX0_add 25 = .ok (.arraylength, 1) := by decide +kernel
theorem dX0_add_26 : decode cX0_add 26 = .ok (.ifCond .ne 12, 3) := by decide +kernel
theorem dX0_add_29 : decode cX0_add 29 = .ok (.aload_n 0, 1) := by decide +kernel
theorem dX0_add_30 : decode cX0_add 30 = .ok (.sipush 9600, 3) := by decide +kernel
theorem dX0_add_33 : decode cX0_add 33 = .ok (.newarray .int, 2) := by decide +kernel
theorem dX0_add_35 : decode cX0_add 35 = .ok (.putfield 24, 3) := by decide +kernel
theorem dX0_add_38 : decode cX0_add 38 = .ok (.aload_n 0, 1) := by decide +kernel
theorem dX0_add_39 : decode cX0_add 39 = .ok (.getfield 9, 3) := by decide +kernel
theorem dX0_add_42 : decode cX0_add 42 = .ok (.aload_n 0, 1) := by decide +kernel
theorem dX0_add_43 : decode cX0_add 43 = .ok (.getfield 27, 3) := by decide +kernel
theorem dX0_add_46 : decode cX0_add 46 = .ok (.iload_n 1, 1) := by decide +kernel
theorem dX0_add_47 : decode cX0_add 47 = .ok (.invokestatic 36, 3) := by decide +kernel
theorem dX0_add_50 : decode cX0_add 50 = .ok (.aload_n 0, 1) := by decide +kernel
theorem dX0_add_51 : decode cX0_add 51 = .ok (.getfield 15, 3) := by decide +kernel
theorem dX0_add_54 : decode cX0_add 54 = .ok (.aload_n 0, 1) := by decide +kernel
theorem dX0_add_55 : decode cX0_add 55 = .ok (.getfield 27, 3) := by decide +kernel
theorem dX0_add_58 : decode cX0_add 58 = .ok (.iload_n 2, 1) := by decide +kernel
theorem dX0_add_59 : decode cX0_add 59 = .ok (.invokestatic 36, 3) := by decide +kernel
theorem dX0_add_62 : decode cX0_add 62 = .ok (.aload_n 0, 1) := by decide +kernel
theorem dX0_add_63 : decode cX0_add 63 = .ok (.getfield 18, 3) := by decide +kernel
theorem dX0_add_66 : decode cX0_add 66 = .ok (.aload_n 0, 1) := by decide +kernel
theorem dX0_add_67 : decode cX0_add 67 = .ok (.getfield 27, 3) := by decide +kernel
theorem dX0_add_70 : decode cX0_add 70 = .ok (.iload_n 3, 1) := by decide +kernel
theorem dX0_add_71 : decode cX0_add 71 = .ok (.invokestatic 36, 3) := by decide +kernel
theorem dX0_add_74 : decode cX0_add 74 = .ok (.aload_n 0, 1) := by decide +kernel
theorem dX0_add_75 : decode cX0_add 75 = .ok (.getfield 21, 3) := by decide +kernel
theorem dX0_add_78 : decode cX0_add 78 = .ok (.aload_n 0, 1) := by decide +kernel
theorem dX0_add_79 : decode cX0_add 79 = .ok (.getfield 27, 3) := by decide +kernel
theorem dX0_add_82 : decode cX0_add 82 = .ok (.aload 4, 2) := by decide +kernel
theorem dX0_add_84 : decode cX0_add 84 = .ok (.getfield 31, 3) := by decide +kernel
theorem dX0_add_87 : decode cX0_add 87 = .ok (.invokestatic 36, 3) := by decide +kernel
theorem dX0_add_90 : decode cX0_add 90 = .ok (.aload 4, 2) := by decide +kernel
theorem dX0_add_92 : decode cX0_add 92 = .ok (.aload_n 0, 1) := by decide +kernel
theorem dX0_add_93 : decode cX0_add 93 = .ok (.getfield 24, 3) := by decide +kernel
theorem dX0_add_96 : decode cX0_add 96 = .ok (.aload_n 0, 1) := by decide +kernel
theorem dX0_add_97 : decode cX0_add 97 = .ok (.getfield 27, 3) := by decide +kernel
theorem dX0_add_100 : decode cX0_add 100 = .ok (.sipush 400, 3) := by decide +kernel
theorem dX0_add_103 : decode cX0_add 103 = .ok (.imul, 1) := by decide +kernel
theorem dX0_add_104 : decode cX0_add 104 = .ok (.invokevirtual 40, 3) := by decide +kernel
theorem dX0_add_107 : decode cX0_add 107 = .ok (.aload_n 0, 1) := by decide +kernel
theorem dX0_add_108 : decode cX0_add 108 = .ok (.dup, 1) := by decide +kernel
theorem dX0_add_109 : decode cX0_add 109 = .ok (.getfield 27, 3) := by decide +kernel
theorem dX0_add_112 : decode cX0_add 112 = .ok (.iconst 1, 1) := by decide +kernel
theorem dX0_add_113 : decode cX0_add 113 = .ok (.iadd, 1) := by decide +kernel
theorem dX0_add_114 : decode cX0_add 114 = .ok (.putfield 27, 3) := by decide +kernel
theorem dX0_add_117 : decode cX0_add 117 = .ok (.return_, 1) := by decide +kernel
theorem dX0_answer_0 : decode cX0_answer 0 = .ok (.iload_n 1, 1) := by decide +kernel
theorem dX0_answer_1 : decode cX0_answer 1 = .ok (.ifCond .lt 15, 3) := by decide +kernel
theorem dX0_answer_4 : decode cX0_answer 4 = .ok (.iload_n 1, 1) := by decide +kernel
theorem dX0_answer_5 : decode cX0_answer 5 = .ok (.aload_n 0, 1) := by decide +kernel
theorem dX0_answer_6 : decode cX0_answer 6 = .ok (.getfield 27, 3) := by decide +kernel
theorem dX0_answer_9 : decode cX0_answer 9 = .ok (.if_icmp .ge 7, 3) := by decide +kernel
theorem dX0_answer_12 : decode cX0_answer 12 = .ok (.iload_n 2, 1) := by decide +kernel
theorem dX0_answer_13 : decode cX0_answer 13 = .ok (.ifCond .ge 6, 3) := by decide +kernel
theorem dX0_answer_16 : decode cX0_answer 16 = .ok (.bipush (-9), 2) := by decide +kernel
theorem dX0_answer_18 : decode cX0_answer 18 = .ok (.ireturn, 1) := by decide +kernel
theorem dX0_answer_19 : decode cX0_answer 19 = .ok (.iload_n 2, 1) := by decide +kernel
theorem dX0_answer_20 : decode cX0_answer 20 = .ok (.tableswitch 68 0 3 #[32, 41, 50, 59], 32) := by decide +kernel
theorem dX0_answer_52 : decode cX0_answer 52 = .ok (.aload_n 0, 1) := by decide +kernel
theorem dX0_answer_53 : decode cX0_answer 53 = .ok (.getfield 9, 3) := by decide +kernel
theorem dX0_answer_56 : decode cX0_answer 56 = .ok (.iload_n 1, 1) := by decide +kernel
theorem dX0_answer_57 : decode cX0_answer 57 = .ok (.invokestatic 44, 3) := by decide +kernel
theorem dX0_answer_60 : decode cX0_answer 60 = .ok (.ireturn, 1) := by decide +kernel
theorem dX0_answer_61 : decode cX0_answer 61 = .ok (.aload_n 0, 1) := by decide +kernel
theorem dX0_answer_62 : decode cX0_answer 62 = .ok (.getfield 15, 3) := by decide +kernel
theorem dX0_answer_65 : decode cX0_answer 65 = .ok (.iload_n 1, 1) := by decide +kernel
theorem dX0_answer_66 : decode cX0_answer 66 = .ok (.invokestatic 44, 3) := by decide +kernel
theorem dX0_answer_69 : decode cX0_answer 69 = .ok (.ireturn, 1) := by decide +kernel
theorem dX0_answer_70 : decode cX0_answer 70 = .ok (.aload_n 0, 1) := by decide +kernel
theorem dX0_answer_71 : decode cX0_answer 71 = .ok (.getfield 18, 3) := by decide +kernel
theorem dX0_answer_74 : decode cX0_answer 74 = .ok (.iload_n 1, 1) := by decide +kernel
theorem dX0_answer_75 : decode cX0_answer 75 = .ok (.invokestatic 44, 3) := by decide +kernel
theorem dX0_answer_78 : decode cX0_answer 78 = .ok (.ireturn, 1) := by decide +kernel
theorem dX0_answer_79 : decode cX0_answer 79 = .ok (.aload_n 0, 1) := by decide +kernel
theorem dX0_answer_80 : decode cX0_answer 80 = .ok (.getfield 21, 3) := by decide +kernel
theorem dX0_answer_83 : decode cX0_answer 83 = .ok (.iload_n 1, 1) := by decide +kernel
theorem dX0_answer_84 : decode cX0_answer 84 = .ok (.invokestatic 44, 3) := by decide +kernel
theorem dX0_answer_87 : decode cX0_answer 87 = .ok (.ireturn, 1) := by decide +kernel
theorem dX0_answer_88 : decode cX0_answer 88 = .ok (.iload_n 2, 1) := by decide +kernel
theorem dX0_answer_89 : decode cX0_answer 89 = .ok (.iconst 4, 1) := by decide +kernel
theorem dX0_answer_90 : decode cX0_answer 90 = .ok (.isub, 1) := by decide +kernel
theorem dX0_answer_91 : decode cX0_answer 91 = .ok (.istore_n 3, 1) := by decide +kernel
theorem dX0_answer_92 : decode cX0_answer 92 = .ok (.iload_n 3, 1) := by decide +kernel
theorem dX0_answer_93 : decode cX0_answer 93 = .ok (.aload_n 0, 1) := by decide +kernel
theorem dX0_answer_94 : decode cX0_answer 94 = .ok (.getfield 21, 3) := by decide +kernel
theorem dX0_answer_97 : decode cX0_answer 97 = .ok (.iload_n 1, 1) := by decide +kernel
theorem dX0_answer_98 : decode cX0_answer 98 = .ok (.invokestatic 44, 3) := by decide +kernel
theorem dX0_answer_101 : decode cX0_answer 101 = .ok (.if_icmp .ge 20, 3) := by decide +kernel
theorem dX0_answer_104 : decode cX0_answer 104 = .ok (.aload_n 0, 1) := by decide +kernel
theorem dX0_answer_105 : decode cX0_answer 105 = .ok (.getfield 24, 3) := by decide +kernel
theorem dX0_answer_108 : decode cX0_answer 108 = .ok (.iload_n 1, 1) := by decide +kernel
theorem dX0_answer_109 : decode cX0_answer 109 = .ok (.sipush 400, 3) := by decide +kernel
theorem dX0_answer_112 : decode cX0_answer 112 = .ok (.imul, 1) := by decide +kernel
theorem dX0_answer_113 : decode cX0_answer 113 = .ok (.iload_n 3, 1) := by decide +kernel
theorem dX0_answer_114 : decode cX0_answer 114 = .ok (.iadd, 1) := by decide +kernel
theorem dX0_answer_115 : decode cX0_answer 115 = .ok (.invokestatic 44, 3) := by decide +kernel
theorem dX0_answer_118 : decode cX0_answer 118 = .ok (.goto 5, 3) := by decide +kernel
theorem dX0_answer_121 : decode cX0_answer 121 = .ok (.bipush (-9), 2) := by decide +kernel
theorem dX0_answer_123 : decode cX0_answer 123 = .ok (.ireturn, 1) := by decide +kernel
