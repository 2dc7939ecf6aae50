theorem dX2_init_0 : decode cX2_init 0 = .ok (.aload_n 0, 1) := by decide +kernel
theorem dX2_init_1 : decode cX2_init 1 = .ok (.invokespecial 3, 3) := by decide +kernel
theorem dX2_init_4 : decode cX2_init 4 = .ok (.aload_n 0, 1) := by decide +kernel
theorem dX2_init_5 : decode cX2_init 5 = .ok (.sipush 160, 3) := by decide +kernel
theorem dX2_init_8 : decode cX2_init 8 = .ok (.newarray .int, 2) := by decide +kernel
theorem dX2_init_10 : decode cX2_init 10 = .ok (.putfield 9, 3) := by decide +kernel
theorem dX2_init_13 : decode cX2_init 13 = .ok (.aload_n 0, 1) := by decide +kernel
theorem dX2_init_14 : decode cX2_init 14 = .ok (.sipush 160, 3) := by decide +kernel
theorem dX2_init_17 : decode cX2_init 17 = .ok (.newarray .int, 2) := by decide +kernel
theorem dX2_init_19 : decode cX2_init 19 = .ok (.putfield 15, 3) := by decide +kernel
theorem dX2_init_22 : decode cX2_init 22 = .ok (.aload_n 0, 1) := by decide +kernel
theorem dX2_init_23 : decode cX2_init 23 = .ok (.sipush 160, 3) := by decide +kernel
theorem dX2_init_26 : decode cX2_init 26 = .ok (.newarray .int, 2) := by decide +kernel
theorem dX2_init_28 : decode cX2_init 28 = .ok (.putfield 18, 3) := by decide +kernel
theorem dX2_init_31 : decode cX2_init 31 = .ok (.aload_n 0, 1) := by decide +kernel
theorem dX2_init_32 : decode cX2_init 32 = .ok (.sipush 160, 3) := by decide +kernel
theorem dX2_init_35 : decode cX2_init 35 = .ok (.newarray .int, 2) := by decide +kernel
theorem dX2_init_37 : decode cX2_init 37 = .ok (.putfield 21, 3) := by decide +kernel
theorem dX2_init_40 : decode cX2_init 40 = .ok (.aload_n 0, 1) := by decide +kernel
theorem dX2_init_41 : decode cX2_init 41 = .ok (.bipush 8, 2) := by decide +kernel
theorem dX2_init_43 : decode cX2_init 43 = .ok (.newarray .int, 2) := by decide +kernel
theorem dX2_init_45 : decode cX2_init 45 = .ok (.putfield 24, 3) := by decide +kernel
theorem dX2_init_48 : decode cX2_init 48 = .ok (.return_, 1) := by decide +kernel
theorem dX2_add_0 : decode cX2_add 0 = .ok (.aload_n 0, 1) := by decide +kernel
theorem dX2_add_1 : decode cX2_add 1 = .ok (.getfield 27, 3) := by decide +kernel
theorem dX2_add_4 : decode cX2_add 4 = .ok (.sipush 160, 3) := by decide +kernel
theorem dX2_add_7 : decode cX2_add 7 = .ok (.if_icmp .lt 5, 3) := by decide +kernel
theorem dX2_add_10 : decode cX2_add 10 = .ok (.iconst (-1), 1) := by decide +kernel
theorem dX2_add_11 : decode cX2_add 11 = .ok (.ireturn, 1) := by decide +kernel
theorem dX2_add_12 : decode cX2_add 12 = .ok (.aload_n 0, 1) := by decide +kernel
theorem dX2_add_13 : decode cX2_add 13 = .ok (.getfield 9, 3) := by decide +kernel
theorem dX2_add_16 : decode cX2_add 16 = .ok (.aload_n 0, 1) := by decide +kernel
theorem dX2_add_17 : decode cX2_add 17 = .ok (.getfield 27, 3) := by decide +kernel
theorem dX2_add_20 : decode cX2_add 20 = .ok (.iload_n 1, 1) := by decide +kernel
theorem dX2_add_21 : decode cX2_add 21 = .ok (.invokestatic 31, 3) := by decide +kernel
theorem dX2_add_24 : decode cX2_add 24 = .ok (.aload_n 0, 1) := by decide +kernel
theorem dX2_add_25 : decode cX2_add 25 = .ok (.dup, 1) := by decide +kernel
theorem dX2_add_26 : decode cX2_add 26 = .ok (.getfield 27, 3) := by decide +kernel
theorem dX2_add_29 : decode cX2_add 29 = .ok (.iconst 1, 1) := by decide +kernel
theorem dX2_add_30 : decode cX2_add 30 = .ok (.iadd, 1) := by decide +kernel
theorem dX2_add_31 : decode cX2_add 31 = .ok (.putfield 27, 3) := by decide +kernel
theorem dX2_add_34 : decode cX2_add 34 = .ok (.aload_n 0, 1) := by decide +kernel
theorem dX2_add_35 : decode cX2_add 35 = .ok (.getfield 27, 3) := by decide +kernel
theorem dX2_add_38 : decode cX2_add 38 = .ok (.ireturn, 1) := by decide +kernel
theorem dX2_take_0 : decode cX2_take 0 = .ok (.aload_n 0, 1) := by decide +kernel
theorem dX2_take_1 : decode cX2_take 1 = .ok (.getfield 27, 3) := by decide +kernel
theorem dX2_take_4 : decode cX2_take 4 = .ok (.istore_n 1, 1) := by decide +kernel
theorem dX2_take_5 : decode cX2_take 5 = .ok (.aload_n 0, 1) := by decide +kernel
theorem dX2_take_6 : decode cX2_take 6 = .ok (.iconst 0, 1) := by decide +kernel
theorem dX2_take_7 : decode cX2_take 7 = .ok (.putfield 27, 3) := by decide +kernel
theorem dX2_take_10 : decode cX2_take 10 = .ok (.iload_n 1, 1) := by decide +kernel
theorem dX2_take_11 : decode cX2_take 11 = .ok (.ireturn, 1) := by decide +kernel
theorem dX2_firstWrong_0 : decode cX2_firstWrong 0 = .ok (.aload_n 0, 1) := by decide +kernel
theorem dX2_firstWrong_1 : decode cX2_firstWrong 1 = .ok (.getfield 24, 3) := by decide +kernel
theorem dX2_firstWrong_4 : decode cX2_firstWrong 4 = .ok (.iconst (-1), 1) := by decide +kernel
theorem dX2_firstWrong_5 : decode cX2_firstWrong 5 = .ok (.invokestatic 35, 3) := by decide +kernel
theorem dX2_firstWrong_8 : decode cX2_firstWrong 8 = .ok (.aload_n 0, 1) := by decide +kernel
theorem dX2_firstWrong_9 : decode cX2_firstWrong 9 = .ok (.iconst (-1), 1) := by decide +kernel
theorem dX2_firstWrong_10 : decode cX2_firstWrong 10 = .ok (.putfield 41, 3) := by decide +kernel
theorem dX2_firstWrong_13 : decode cX2_firstWrong 13 = .ok (.aload_n 0, 1) := by decide +kernel
theorem dX2_firstWrong_14 : decode cX2_firstWrong 14 = .ok (.iconst 0, 1) := by decide +kernel
theorem dX2_firstWrong_15 : decode cX2_firstWrong 15 = .ok (.putfield 44, 3) := by decide +kernel
theorem dX2_firstWrong_18 : decode cX2_firstWrong 18 = .ok (.iconst 0, 1) := by decide +kernel
theorem dX2_firstWrong_19 : decode cX2_firstWrong 19 = .ok (.istore 4, 2) := by decide +kernel
theorem dX2_firstWrong_21 : decode cX2_firstWrong 21 = .ok (.iload 4, 2) := by decide +kernel
theorem dX2_firstWrong_23 : decode cX2_firstWrong 23 = .ok (.iload_n 1, 1) := by decide +kernel
theorem dX2_firstWrong_24 : decode cX2_firstWrong 24 = .ok (.if_icmp .ge 72, 3) := by decide +kernel
theorem dX2_firstWrong_27 : decode cX2_firstWrong 27 = .ok (.aload_n 0, 1) := by decide +kernel
theorem dX2_firstWrong_28 : decode cX2_firstWrong 28 = .ok (.aload_n 2, 1) := by decide +kernel
theorem dX2_firstWrong_29 : decode cX2_firstWrong 29 = .ok (.invokevirtual 47, 3) := by decide +kernel
theorem dX2_firstWrong_32 : decode cX2_firstWrong 32 = .ok (.ifCond .eq 6, 3) := by decide +kernel
theorem dX2_firstWrong_35 : decode cX2_firstWrong 35 = .ok (.iload 4, 2) := by decide +kernel
theorem dX2_firstWrong_37 : decode cX2_firstWrong 37 = .ok (.ireturn, 1) := by decide +kernel
theorem dX2_firstWrong_38 : decode cX2_firstWrong 38 = .ok (.aload_n 2, 1) := by decide +kernel
theorem dX2_firstWrong_39 : decode cX2_firstWrong 39 = .ok (.aload_n 0, 1) := by decide +kernel
theorem dX2_firstWrong_40 : decode cX2_firstWrong 40 = .ok (.invokevirtual 51, 3) := by decide +kernel
theorem dX2_firstWrong_43 : decode cX2_firstWrong 43 = .ok (.aload_n 0, 1) := by decide +kernel
theorem dX2_firstWrong_44 : decode cX2_firstWrong 44 = .ok (.getfield 44, 3) := by decide +kernel
theorem dX2_firstWrong_47 : decode cX2_firstWrong 47 = .ok (.invokevirtual 55, 3) := by decide +kernel
theorem dX2_firstWrong_50 : decode cX2_firstWrong 50 = .ok (.istore 5, 2) := by decide +kernel
theorem dX2_firstWrong_52 : decode cX2_firstWrong 52 = .ok (.aload_n 0, 1) := by decide +kernel
theorem dX2_firstWrong_53 : decode cX2_firstWrong 53 = .ok (.aload_n 0, 1) := by decide +kernel
theorem dX2_firstWrong_54 : decode cX2_firstWrong 54 = .ok (.getfield 9, 3) := by decide +kernel
theorem dX2_firstWrong_57 : decode cX2_firstWrong 57 = .ok (.iload 4, 2) := by decide +kernel
theorem dX2_firstWrong_59 : decode cX2_firstWrong 59 = .ok (.invokestatic 61, 3) := by decide +kernel
theorem dX2_firstWrong_62 : decode cX2_firstWrong 62 = .ok (.iload 5, 2) := by decide +kernel
theorem dX2_firstWrong_64 : decode cX2_firstWrong 64 = .ok (.aload_n 2, 1) := by decide +kernel
theorem dX2_firstWrong_65 : decode cX2_firstWrong 65 = .ok (.iload_n 3, 1) := by decide +kernel
theorem dX2_firstWrong_66 : decode cX2_firstWrong 66 = .ok (.invokevirtual 65, 3) := by decide +kernel
theorem dX2_firstWrong_69 : decode cX2_firstWrong 69 = .ok (.ifCond .ne 6, 3) := by decide +kernel
theorem dX2_firstWrong_72 : decode cX2_firstWrong 72 = .ok (.iload 4, 2) := by decide +kernel
theorem dX2_firstWrong_74 : decode cX2_firstWrong 74 = .ok (.ireturn, 1) := by decide +kernel
theorem dX2_firstWrong_75 : decode cX2_firstWrong 75 = .ok (.aload_n 0, 1) := by decide +kernel
theorem dX2_firstWrong_76 : decode cX2_firstWrong 76 = .ok (.iload 4, 2) := by decide +kernel
theorem dX2_firstWrong_78 : decode cX2_firstWrong 78 = .ok (.invokevirtual 69, 3) := by decide +kernel
theorem dX2_firstWrong_81 : decode cX2_firstWrong 81 = .ok (.aload_n 0, 1) := by decide +kernel
theorem dX2_firstWrong_82 : decode cX2_firstWrong 82 = .ok (.iload 4, 2) := by decide +kernel
theorem dX2_firstWrong_84 : decode cX2_firstWrong 84 = .ok (.iconst 1, 1) := by decide +kernel
theorem dX2_firstWrong_85 : decode cX2_firstWrong 85 = .ok (.iadd, 1) := by decide +kernel
theorem dX2_firstWrong_86 : decode cX2_firstWrong 86 = .ok (.aload_n 2, 1) := by decide +kernel
theorem dX2_firstWrong_87 : decode cX2_firstWrong 87 = .ok (.invokevirtual 73, 3) := by decide +kernel
theorem dX2_firstWrong_90 : decode cX2_firstWrong 90 = .ok (.iinc 4 1, 3) := by decide +kernel
theorem dX2_firstWrong_93 : decode cX2_firstWrong 93 = .ok (.goto (-72), 3) := by decide +kernel
theorem dX2_firstWrong_96 : decode cX2_firstWrong 96 = .ok (.aload_n 0, 1) := by decide +kernel
theorem dX2_firstWrong_97 : decode cX2_firstWrong 97 = .ok (.aload_n 2, 1) := by decide +kernel
theorem dX2_firstWrong_98 : decode cX2_firstWrong 98 = .ok (.invokevirtual 47, 3) := by decide +kernel
theorem dX2_firstWrong_101 : decode cX2_firstWrong 101 = .ok (.ifCond .eq 7, 3) := by decide +kernel
theorem dX2_firstWrong_104 : decode cX2_firstWrong 104 = .ok (.iconst (-1), 1) := by decide +kernel
theorem dX2_firstWrong_105 : decode cX2_firstWrong 105 = .ok (.goto 4, 3) := by decide +kernel
theorem dX2_firstWrong_108 : decode cX2_firstWrong 108 = .ok (.iload_n 1, 1) := by decide +kernel
theorem dX2_firstWrong_109 : decode cX2_firstWrong 109 = .ok (.ireturn, 1) := by decide +kernel
theorem dX2_isWhole_0 : decode cX2_isWhole 0 = .ok (.aload_n 0, 1) := by decide +kernel
theorem dX2_isWhole_1 : decode cX2_isWhole 1 = .ok (.getfield 41, 3) := by decide +kernel
theorem dX2_isWhole_4 : decode cX2_isWhole 4 = .ok (.iconst (-1), 1) := by decide +kernel
theorem dX2_isWhole_5 : decode cX2_isWhole 5 = .ok (.if_icmp .ne 19, 3) := by decide +kernel
theorem dX2_isWhole_8 : decode cX2_isWhole 8 = .ok (.aload_n 0, 1) := by decide +kernel
theorem dX2_isWhole_9 : decode cX2_isWhole 9 = .ok (.getfield 44, 3) := by decide +kernel
theorem dX2_isWhole_12 : decode cX2_isWhole 12 = .ok (.aload_n 1, 1) := by decide +kernel
theorem dX2_isWhole_13 : decode cX2_isWhole 13 = .ok (.iconst (-1), 1) := by decide +kernel
theorem dX2_isWhole_14 : decode cX2_isWhole 14 = .ok (.invokevirtual 77, 3) := by decide +kernel
theorem dX2_isWhole_17 : decode cX2_isWhole 17 = .ok (.if_icmp .lt 7, 3) := by decide +kernel
theorem dX2_isWhole_20 : decode cX2_isWhole 20 = .ok (.iconst 1, 1) := by decide +kernel
theorem dX2_isWhole_21 : decode cX2_isWhole 21 = .ok (.goto 4, 3) := by decide +kernel
theorem dX2_isWhole_24 : decode cX2_isWhole 24 = .ok (.iconst 0, 1) := by decide +kernel
theorem dX2_isWhole_25 : decode cX2_isWhole 25 = .ok (.ireturn, 1) := by decide +kernel
theorem dX2_holding_0 : decode cX2_holding 0 = .ok (.aload_n 0, 1) := by decide +kernel
theorem dX2_holding_1 : decode cX2_holding 1 = .ok (.getfield 41, 3) := by decide +kernel
theorem dX2_holding_4 : decode cX2_holding 4 = .ok (.iconst (-1), 1) := by decide +kernel
theorem dX2_holding_5 : decode cX2_holding 5 = .ok (.if_icmp .ne 7, 3) := by decide +kernel
theorem dX2_holding_8 : decode cX2_holding 8 = .ok (.iconst (-1), 1) := by decide +kernel
theorem dX2_holding_9 : decode cX2_holding 9 = .ok (.goto 14, 3) := by decide +kernel
theorem dX2_holding_12 : decode cX2_holding 12 = .ok (.aload_n 0, 1) := by decide +kernel
theorem dX2_holding_13 : decode cX2_holding 13 = .ok (.getfield 9, 3) := by decide +kernel
theorem dX2_holding_16 : decode cX2_holding 16 = .ok (.aload_n 0, 1) := by decide +kernel
theorem dX2_holding_17 : decode cX2_holding 17 = .ok (.getfield 41, 3) := by decide +kernel
theorem dX2_holding_20 : decode cX2_holding 20 = .ok (.invokestatic 61, 3) := by decide +kernel
theorem dX2_holding_23 : decode cX2_holding 23 = .ok (.ireturn, 1) := by decide +kernel
theorem dX2_fits_0 : decode cX2_fits 0 = .ok (.iload_n 1, 1) := by decide +kernel
theorem dX2_fits_1 : decode cX2_fits 1 = .ok (.ifCond .lt 18, 3) := by decide +kernel
theorem dX2_fits_4 : decode cX2_fits 4 = .ok (.aload_n 3, 1) := by decide +kernel
theorem dX2_fits_5 : decode cX2_fits 5 = .ok (.iload_n 1, 1) := by decide +kernel
theorem dX2_fits_6 : decode cX2_fits 6 = .ok (.invokevirtual 81, 3) := by decide +kernel
theorem dX2_fits_9 : decode cX2_fits 9 = .ok (.iload_n 2, 1) := by decide +kernel
theorem dX2_fits_10 : decode cX2_fits 10 = .ok (.if_icmp .ne 7, 3) := by decide +kernel
theorem dX2_fits_13 : decode cX2_fits 13 = .ok (.iconst 1, 1) := by decide +kernel
theorem dX2_fits_14 : decode cX2_fits 14 = .ok (.goto 4, 3) := by decide +kernel
theorem dX2_fits_17 : decode cX2_fits 17 = .ok (.iconst 0, 1) := by decide +kernel
theorem dX2_fits_18 : decode cX2_fits 18 = .ok (.ireturn, 1) := by decide +kernel
theorem dX2_fits_19 : decode cX2_fits 19 = .ok (.iload 4, 2) := by decide +kernel
theorem dX2_fits_21 : decode cX2_fits 21 = .ok (.ifCond .ne 14, 3) := by decide +kernel
theorem dX2_fits_24 : decode cX2_fits 24 = .ok (.iload_n 1, 1) := by decide +kernel
theorem dX2_fits_25 : decode cX2_fits 25 = .ok (.iconst (-1), 1) := by decide +kernel
theorem dX2_fits_26 : decode cX2_fits 26 = .ok (.if_icmp .ne 7, 3) := by decide +kernel
theorem dX2_fits_29 : decode cX2_fits 29 = .ok (.iconst 1, 1) := by decide +kernel
theorem dX2_fits_30 : decode cX2_fits 30 = .ok (.goto 4, 3) := by decide +kernel
theorem dX2_fits_33 : decode cX2_fits 33 = .ok (.iconst 0, 1) := by decide +kernel
theorem dX2_fits_34 : decode cX2_fits 34 = .ok (.ireturn, 1) := by decide +kernel
theorem dX2_fits_35 : decode cX2_fits 35 = .ok (.iconst (-1), 1) := by decide +kernel
theorem dX2_fits_36 : decode cX2_fits 36 = .ok (.iload_n 1, 1) := by decide +kernel
theorem dX2_fits_37 : decode cX2_fits 37 = .ok (.isub, 1) := by decide +kernel
theorem dX2_fits_38 : decode cX2_fits 38 = .ok (.istore 5, 2) := by decide +kernel
theorem dX2_fits_40 : decode cX2_fits 40 = .ok (.iload 5, 2) := by decide +kernel
theorem dX2_fits_42 : decode cX2_fits 42 = .ok (.bipush 8, 2) := by decide +kernel
theorem dX2_fits_44 : decode cX2_fits 44 = .ok (.if_icmp .lt 5, 3) := by decide +kernel
theorem dX2_fits_47 : decode cX2_fits 47 = .ok (.iconst 0, 1) := by decide +kernel
theorem dX2_fits_48 : decode cX2_fits 48 = .ok (.ireturn, 1) := by decide +kernel
theorem dX2_fits_49 : decode cX2_fits 49 = .ok (.aload_n 0, 1) := by decide +kernel
theorem dX2_fits_50 : decode cX2_fits 50 = .ok (.getfield 24, 3) := by decide +kernel
theorem dX2_fits_53 : decode cX2_fits 53 = .ok (.iload 5, 2) := by decide +kernel
theorem dX2_fits_55 : decode cX2_fits 55 = .ok (.invokestatic 61, 3) := by decide +kernel
theorem dX2_fits_58 : decode cX2_fits 58 = .ok (.iconst (-1), 1) := by decide +kernel
theorem dX2_fits_59 : decode cX2_fits 59 = .ok (.if_icmp .ne 13, 3) := by decide +kernel
theorem dX2_fits_62 : decode cX2_fits 62 = .ok (.aload_n 0, 1) := by decide +kernel
theorem dX2_fits_63 : decode cX2_fits 63 = .ok (.getfield 24, 3) := by decide +kernel
theorem dX2_fits_66 : decode cX2_fits 66 = .ok (.iload 5, 2) := by decide +kernel
theorem dX2_fits_68 : decode cX2_fits 68 = .ok (.iload_n 2, 1) := by decide +kernel
theorem dX2_fits_69 : decode cX2_fits 69 = .ok (.invokestatic 31, 3) := by decide +kernel
theorem dX2_fits_72 : decode cX2_fits 72 = .ok (.aload_n 0, 1) := by decide +kernel
theorem dX2_fits_73 : decode cX2_fits 73 = .ok (.getfield 24, 3) := by decide +kernel
theorem dX2_fits_76 : decode cX2_fits 76 = .ok (.iload 5, 2) := by decide +kernel
theorem dX2_fits_78 : decode cX2_fits 78 = .ok (.invokestatic 61, 3) := by decide +kernel
theorem dX2_fits_81 : decode cX2_fits 81 = .ok (.iload_n 2, 1) := by decide +kernel
theorem dX2_fits_82 : decode cX2_fits 82 = .ok (.if_icmp .ne 7, 3) := by decide +kernel
theorem dX2_fits_85 : decode cX2_fits 85 = .ok (.iconst 1, 1) := by decide +kernel
theorem dX2_fits_86 : decode cX2_fits 86 = .ok (.goto 4, 3) := by decide +kernel
theorem dX2_fits_89 : decode cX2_fits 89 = .ok (.iconst 0, 1) := by decide +kernel
theorem dX2_fits_90 : decode cX2_fits 90 = .ok (.ireturn, 1) := by decide +kernel
theorem dX2_hang_0 : decode cX2_hang 0 = .ok (.aload_n 0, 1) := by decide +kernel
theorem dX2_hang_1 : decode cX2_hang 1 = .ok (.getfield 15, 3) := by decide +kernel
theorem dX2_hang_4 : decode cX2_hang 4 = .ok (.iload_n 1, 1) := by decide +kernel
theorem dX2_hang_5 : decode cX2_hang 5 = .ok (.aload_n 0, 1) := by decide +kernel
theorem dX2_hang_6 : decode cX2_hang 6 = .ok (.getfield 41, 3) := by decide +kernel
theorem dX2_hang_9 : decode cX2_hang 9 = .ok (.invokestatic 31, 3) := by decide +kernel
theorem dX2_hang_12 : decode cX2_hang 12 = .ok (.aload_n 0, 1) := by decide +kernel
theorem dX2_hang_13 : decode cX2_hang 13 = .ok (.getfield 18, 3) := by decide +kernel
theorem dX2_hang_16 : decode cX2_hang 16 = .ok (.iload_n 1, 1) := by decide +kernel
theorem dX2_hang_17 : decode cX2_hang 17 = .ok (.aload_n 0, 1) := by decide +kernel
theorem dX2_hang_18 : decode cX2_hang 18 = .ok (.getfield 44, 3) := by decide +kernel
theorem dX2_hang_21 : decode cX2_hang 21 = .ok (.invokestatic 31, 3) := by decide +kernel
theorem dX2_hang_24 : decode cX2_hang 24 = .ok (.aload_n 0, 1) := by decide +kernel
theorem dX2_hang_25 : decode cX2_hang 25 = .ok (.getfield 9, 3) := by decide +kernel
theorem dX2_hang_28 : decode cX2_hang 28 = .ok (.iload_n 1, 1) := by decide +kernel
theorem dX2_hang_29 : decode cX2_hang 29 = .ok (.invokestatic 61, 3) := by decide +kernel
theorem dX2_hang_32 : decode cX2_hang 32 = .ok (.ifCond .lt 16, 3) := by decide +kernel
theorem dX2_hang_35 : decode cX2_hang 35 = .ok (.aload_n 0, 1) := by decide +kernel
theorem dX2_hang_36 : decode cX2_hang 36 = .ok (.iload_n 1, 1) := by decide +kernel
theorem dX2_hang_37 : decode cX2_hang 37 = .ok (.putfield 41, 3) := by decide +kernel
theorem dX2_hang_40 : decode cX2_hang 40 = .ok (.aload_n 0, 1) := by decide +kernel
theorem dX2_hang_41 : decode cX2_hang 41 = .ok (.iconst 0, 1) := by decide +kernel
theorem dX2_hang_42 : decode cX2_hang 42 = .ok (.putfield 44, 3) := by decide +kernel
theorem dX2_hang_45 : decode cX2_hang 45 = .ok (.goto 24, 3) := by decide +kernel
theorem dX2_hang_48 : decode cX2_hang 48 = .ok (.aload_n 0, 1) := by decide +kernel
theorem dX2_hang_49 : decode cX2_hang 49 = .ok (.getfield 21, 3) := by decide +kernel
theorem dX2_hang_52 : decode cX2_hang 52 = .ok (.iload_n 1, 1) := by decide +kernel
theorem dX2_hang_53 : decode cX2_hang 53 = .ok (.iload_n 1, 1) := by decide +kernel
theorem dX2_hang_54 : decode cX2_hang 54 = .ok (.iconst 1, 1) := by decide +kernel
theorem dX2_hang_55 : decode cX2_hang 55 = .ok (.iadd, 1) := by decide +kernel
theorem dX2_hang_56 : decode cX2_hang 56 = .ok (.invokestatic 31, 3) := by decide +kernel
theorem dX2_hang_59 : decode cX2_hang 59 = .ok (.aload_n 0, 1) := by decide +kernel
theorem dX2_hang_60 : decode cX2_hang 60 = .ok (.dup, 1) := by decide +kernel
theorem dX2_hang_61 : decode cX2_hang 61 = .ok (.getfield 44, 3) := by decide +kernel
theorem dX2_hang_64 : decode cX2_hang 64 = .ok (.iconst 1, 1) := by decide +kernel
theorem dX2_hang_65 : decode cX2_hang 65 = .ok (.iadd, 1) := by decide +kernel
theorem dX2_hang_66 : decode cX2_hang 66 = .ok (.putfield 44, 3) := by decide +kernel
theorem dX2_hang_69 : decode cX2_hang 69 = .ok (.return_, 1) := by decide +kernel
theorem dX2_closeWhole_0 : decode cX2_closeWhole 0 = .ok (.iconst 0, 1) := by decide +kernel
theorem dX2_closeWhole_1 : decode cX2_closeWhole 1 = .ok (.istore_n 3, 1) := by decide +kernel
theorem dX2_closeWhole_2 : decode cX2_closeWhole 2 = .ok (.iload_n 3, 1) := by decide +kernel
theorem dX2_closeWhole_3 : decode cX2_closeWhole 3 = .ok (.sipush 160, 3) := by decide +kernel
theorem dX2_closeWhole_6 : decode cX2_closeWhole 6 = .ok (.if_icmp .ge 77, 3) := by decide +kernel
theorem dX2_closeWhole_9 : decode cX2_closeWhole 9 = .ok (.aload_n 0, 1) := by decide +kernel
theorem dX2_closeWhole_10 : decode cX2_closeWhole 10 = .ok (.getfield 41, 3) := by decide +kernel
theorem dX2_closeWhole_13 : decode cX2_closeWhole 13 = .ok (.iconst (-1), 1) := by decide +kernel
theorem dX2_closeWhole_14 : decode cX2_closeWhole 14 = .ok (.if_icmp .eq 18, 3) := by decide +kernel
theorem dX2_closeWhole_17 : decode cX2_closeWhole 17 = .ok (.aload_n 0, 1) := by decide +kernel
theorem dX2_closeWhole_18 : decode cX2_closeWhole 18 = .ok (.getfield 44, 3) := by decide +kernel
theorem dX2_closeWhole_21 : decode cX2_closeWhole 21 = .ok (.aload_n 2, 1) := by decide +kernel
theorem dX2_closeWhole_22 : decode cX2_closeWhole 22 = .ok (.aload_n 0, 1) := by decide +kernel
theorem dX2_closeWhole_23 : decode cX2_closeWhole 23 = .ok (.invokevirtual 51, 3) := by decide +kernel
theorem dX2_closeWhole_26 : decode cX2_closeWhole 26 = .ok (.invokevirtual 77, 3) := by decide +kernel
theorem dX2_closeWhole_29 : decode cX2_closeWhole 29 = .ok (.if_icmp .ge 4, 3) := by decide +kernel
theorem dX2_closeWhole_32 : decode cX2_closeWhole 32 = .ok (.return_, 1) := by decide +kernel
theorem dX2_closeWhole_33 : decode cX2_closeWhole 33 = .ok (.aload_n 0, 1) := by decide +kernel
theorem dX2_closeWhole_34 : decode cX2_closeWhole 34 = .ok (.getfield 21, 3) := by decide +kernel
theorem dX2_closeWhole_37 : decode cX2_closeWhole 37 = .ok (.aload_n 0, 1) := by decide +kernel
theorem dX2_closeWhole_38 : decode cX2_closeWhole 38 = .ok (.getfield 41, 3) := by decide +kernel
theorem dX2_closeWhole_41 : decode cX2_closeWhole 41 = .ok (.iload_n 1, 1) := by decide +kernel
theorem dX2_closeWhole_42 : decode cX2_closeWhole 42 = .ok (.invokestatic 31, 3) := by decide +kernel
theorem dX2_closeWhole_45 : decode cX2_closeWhole 45 = .ok (.aload_n 0, 1) := by decide +kernel
theorem dX2_closeWhole_46 : decode cX2_closeWhole 46 = .ok (.aload_n 0, 1) := by decide +kernel
theorem dX2_closeWhole_47 : decode cX2_closeWhole 47 = .ok (.getfield 18, 3) := by decide +kernel
theorem dX2_closeWhole_50 : decode cX2_closeWhole 50 = .ok (.aload_n 0, 1) := by decide +kernel
theorem dX2_closeWhole_51 : decode cX2_closeWhole 51 = .ok (.getfield 41, 3) := by decide +kernel
theorem dX2_closeWhole_54 : decode cX2_closeWhole 54 = .ok (.invokestatic 61, 3) := by decide +kernel
theorem dX2_closeWhole_57 : decode cX2_closeWhole 57 = .ok (.iconst 1, 1) := by decide +kernel
theorem dX2_closeWhole_58 : decode cX2_closeWhole 58 = .ok (.iadd, 1) := by decide +kernel
theorem dX2_closeWhole_59 : decode cX2_closeWhole 59 = .ok (.putfield 44, 3) := by decide +kernel
theorem dX2_closeWhole_62 : decode cX2_closeWhole 62 = .ok (.aload_n 0, 1) := by decide +kernel
theorem dX2_closeWhole_63 : decode cX2_closeWhole 63 = .ok (.aload_n 0, 1) := by decide +kernel
theorem dX2_closeWhole_64 : decode cX2_closeWhole 64 = .ok (.getfield 15, 3) := by decide +kernel
theorem dX2_closeWhole_67 : decode cX2_closeWhole 67 = .ok (.aload_n 0, 1) := by decide +kernel
theorem dX2_closeWhole_68 : decode cX2_closeWhole 68 = .ok (.getfield 41, 3) := by decide +kernel
theorem dX2_closeWhole_71 : decode cX2_closeWhole 71 = .ok (.invokestatic 61, 3) := by decide +kernel
theorem dX2_closeWhole_74 : decode cX2_closeWhole 74 = .ok (.putfield 41, 3) := by decide +kernel
theorem dX2_closeWhole_77 : decode cX2_closeWhole 77 = .ok (.iinc 3 1, 3) := by decide +kernel
theorem dX2_closeWhole_80 : decode cX2_closeWhole 80 = .ok (.goto (-78), 3) := by decide +kernel
theorem dX2_closeWhole_83 : decode cX2_closeWhole 83 = .ok (.return_, 1) := by decide +kernel
