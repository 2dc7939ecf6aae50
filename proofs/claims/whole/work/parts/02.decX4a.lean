theorem dX4_init_0 : decode cX4_init 0 = .ok (.aload_n 0, 1) := by decide +kernel
theorem dX4_init_1 : decode cX4_init 1 = .ok (.invokespecial 3, 3) := by decide +kernel
theorem dX4_init_4 : decode cX4_init 4 = .ok (.aload_n 0, 1) := by decide +kernel
theorem dX4_init_5 : decode cX4_init 5 = .ok (.bipush 60, 2) := by decide +kernel
theorem dX4_init_7 : decode cX4_init 7 = .ok (.newarray .int, 2) := by decide +kernel
theorem dX4_init_9 : decode cX4_init 9 = .ok (.putfield 9, 3) := by decide +kernel
theorem dX4_init_12 : decode cX4_init 12 = .ok (.aload_n 0, 1) := by decide +kernel
theorem dX4_init_13 : decode cX4_init 13 = .ok (.bipush 60, 2) := by decide +kernel
theorem dX4_init_15 : decode cX4_init 15 = .ok (.newarray .int, 2) := by decide +kernel
theorem dX4_init_17 : decode cX4_init 17 = .ok (.putfield 15, 3) := by decide +kernel
theorem dX4_init_20 : decode cX4_init 20 = .ok (.aload_n 0, 1) := by decide +kernel
theorem dX4_init_21 : decode cX4_init 21 = .ok (.bipush 60, 2) := by decide +kernel
theorem dX4_init_23 : decode cX4_init 23 = .ok (.newarray .int, 2) := by decide +kernel
theorem dX4_init_25 : decode cX4_init 25 = .ok (.putfield 18, 3) := by decide +kernel
theorem dX4_init_28 : decode cX4_init 28 = .ok (.aload_n 0, 1) := by decide +kernel
theorem dX4_init_29 : decode cX4_init 29 = .ok (.iconst (-1), 1) := by decide +kernel
theorem dX4_init_30 : decode cX4_init 30 = .ok (.putfield 21, 3) := by decide +kernel
theorem dX4_init_33 : decode cX4_init 33 = .ok (.return_, 1) := by decide +kernel
theorem dX4_addType_0 : decode cX4_addType 0 = .ok (.aload_n 0, 1) := by decide +kernel
theorem dX4_addType_1 : decode cX4_addType 1 = .ok (.getfield 25, 3) := by decide +kernel
theorem dX4_addType_4 : decode cX4_addType 4 = .ok (.bipush 12, 2) := by decide +kernel
theorem dX4_addType_6 : decode cX4_addType 6 = .ok (.if_icmp .lt 5, 3) := by decide +kernel
theorem dX4_addType_9 : decode cX4_addType 9 = .ok (.iconst (-1), 1) := by decide +kernel
theorem dX4_addType_10 : decode cX4_addType 10 = .ok (.ireturn, 1) := by decide +kernel
theorem dX4_addType_11 : decode cX4_addType 11 = .ok (.aload_n 0, 1) := by decide +kernel
theorem dX4_addType_12 : decode cX4_addType 12 = .ok (.dup, 1) := by decide +kernel
theorem dX4_addType_13 : decode cX4_addType 13 = .ok (.getfield 25, 3) := by decide +kernel
theorem dX4_addType_16 : decode cX4_addType 16 = .ok (.iconst 1, 1) := by decide +kernel
theorem dX4_addType_17 : decode cX4_addType 17 = .ok (.iadd, 1) := by decide +kernel
theorem dX4_addType_18 : decode cX4_addType 18 = .ok (.putfield 25, 3) := by decide +kernel
theorem dX4_addType_21 : decode cX4_addType 21 = .ok (.aload_n 0, 1) := by decide +kernel
theorem dX4_addType_22 : decode cX4_addType 22 = .ok (.getfield 25, 3) := by decide +kernel
theorem dX4_addType_25 : decode cX4_addType 25 = .ok (.iconst 1, 1) := by decide +kernel
theorem dX4_addType_26 : decode cX4_addType 26 = .ok (.isub, 1) := by decide +kernel
theorem dX4_addType_27 : decode cX4_addType 27 = .ok (.ireturn, 1) := by decide +kernel
theorem dX4_addConstructor_0 : decode cX4_addConstructor 0 = .ok (.iload_n 1, 1) := by decide +kernel
theorem dX4_addConstructor_1 : decode cX4_addConstructor 1 = .ok (.ifCond .lt 20, 3) := by decide +kernel
theorem dX4_addConstructor_4 : decode cX4_addConstructor 4 = .ok (.iload_n 1, 1) := by decide +kernel
theorem dX4_addConstructor_5 : decode cX4_addConstructor 5 = .ok (.aload_n 0, 1) := by decide +kernel
theorem dX4_addConstructor_6 : decode cX4_addConstructor 6 = .ok (.getfield 25, 3) := by decide +kernel
theorem dX4_addConstructor_9 : decode cX4_addConstructor 9 = .ok (.if_icmp .ge 12, 3) := by decide +kernel
theorem dX4_addConstructor_12 : decode cX4_addConstructor 12 = .ok (.aload_n 0, 1) := by decide +kernel
theorem dX4_addConstructor_13 : decode cX4_addConstructor 13 = .ok (.getfield 28, 3) := by decide +kernel
theorem dX4_addConstructor_16 : decode cX4_addConstructor 16 = .ok (.bipush 60, 2) := by decide +kernel
theorem dX4_addConstructor_18 : decode cX4_addConstructor 18 = .ok (.if_icmp .lt 5, 3) := by decide +kernel
theorem dX4_addConstructor_21 : decode cX4_addConstructor 21 = .ok (.iconst (-1), 1) := by decide +kernel
theorem dX4_addConstructor_22 : decode cX4_addConstructor 22 = .ok (.ireturn, 1) := by decide +kernel
theorem dX4_addConstructor_23 : decode cX4_addConstructor 23 = .ok (.iload_n 2, 1) := by decide +kernel
theorem dX4_addConstructor_24 : decode cX4_addConstructor 24 = .ok (.ifCond .lt 17, 3) := by decide +kernel
theorem dX4_addConstructor_27 : decode cX4_addConstructor 27 = .ok (.iload_n 2, 1) := by decide +kernel
theorem dX4_addConstructor_28 : decode cX4_addConstructor 28 = .ok (.iconst 4, 1) := by decide +kernel
theorem dX4_addConstructor_29 : decode cX4_addConstructor 29 = .ok (.if_icmp .gt 12, 3) := by decide +kernel
theorem dX4_addConstructor_32 : decode cX4_addConstructor 32 = .ok (.aload_n 0, 1) := by decide +kernel
theorem dX4_addConstructor_33 : decode cX4_addConstructor 33 = .ok (.iload_n 2, 1) := by decide +kernel
theorem dX4_addConstructor_34 : decode cX4_addConstructor 34 = .ok (.iload_n 3, 1) := by decide +kernel
theorem dX4_addConstructor_35 : decode cX4_addConstructor 35 = .ok (.invokevirtual 31, 3) := by decide +kernel
theorem dX4_addConstructor_38 : decode cX4_addConstructor 38 = .ok (.ifCond .ne 5, 3) := by decide +kernel
theorem dX4_addConstructor_41 : decode cX4_addConstructor 41 = .ok (.iconst (-1), 1) := by decide +kernel
theorem dX4_addConstructor_42 : decode cX4_addConstructor 42 = .ok (.ireturn, 1) := by decide +kernel
theorem dX4_addConstructor_43 : decode cX4_addConstructor 43 = .ok (.aload_n 0, 1) := by decide +kernel
theorem dX4_addConstructor_44 : decode cX4_addConstructor 44 = .ok (.getfield 9, 3) := by decide +kernel
theorem dX4_addConstructor_47 : decode cX4_addConstructor 47 = .ok (.aload_n 0, 1) := by decide +kernel
theorem dX4_addConstructor_48 : decode cX4_addConstructor 48 = .ok (.getfield 28, 3) := by decide +kernel
theorem dX4_addConstructor_51 : decode cX4_addConstructor 51 = .ok (.iload_n 1, 1) := by decide +kernel
theorem dX4_addConstructor_52 : decode cX4_addConstructor 52 = .ok (.invokestatic 35, 3) := by decide +kernel
theorem dX4_addConstructor_55 : decode cX4_addConstructor 55 = .ok (.aload_n 0, 1) := by decide +kernel
theorem dX4_addConstructor_56 : decode cX4_addConstructor 56 = .ok (.getfield 15, 3) := by decide +kernel
theorem dX4_addConstructor_59 : decode cX4_addConstructor 59 = .ok (.aload_n 0, 1) := by decide +kernel
theorem dX4_addConstructor_60 : decode cX4_addConstructor 60 = .ok (.getfield 28, 3) := by decide +kernel
theorem dX4_addConstructor_63 : decode cX4_addConstructor 63 = .ok (.iload_n 2, 1) := by decide +kernel
theorem dX4_addConstructor_64 : decode cX4_addConstructor 64 = .ok (.invokestatic 35, 3) := by decide +kernel
theorem dX4_addConstructor_67 : decode cX4_addConstructor 67 = .ok (.aload_n 0, 1) := by decide +kernel
theorem dX4_addConstructor_68 : decode cX4_addConstructor 68 = .ok (.getfield 18, 3) := by decide +kernel
theorem dX4_addConstructor_71 : decode cX4_addConstructor 71 = .ok (.aload_n 0, 1) := by decide +kernel
theorem dX4_addConstructor_72 : decode cX4_addConstructor 72 = .ok (.getfield 28, 3) := by decide +kernel
theorem dX4_addConstructor_75 : decode cX4_addConstructor 75 = .ok (.iload_n 3, 1) := by decide +kernel
theorem dX4_addConstructor_76 : decode cX4_addConstructor 76 = .ok (.invokestatic 35, 3) := by decide +kernel
theorem dX4_addConstructor_79 : decode cX4_addConstructor 79 = .ok (.aload_n 0, 1) := by decide +kernel
theorem dX4_addConstructor_80 : decode cX4_addConstructor 80 = .ok (.dup, 1) := by decide +kernel
theorem dX4_addConstructor_81 : decode cX4_addConstructor 81 = .ok (.getfield 28, 3) := by decide +kernel
theorem dX4_addConstructor_84 : decode cX4_addConstructor 84 = .ok (.iconst 1, 1) := by decide +kernel
theorem dX4_addConstructor_85 : decode cX4_addConstructor 85 = .ok (.iadd, 1) := by decide +kernel
theorem dX4_addConstructor_86 : decode cX4_addConstructor 86 = .ok (.putfield 28, 3) := by decide +kernel
theorem dX4_addConstructor_89 : decode cX4_addConstructor 89 = .ok (.aload_n 0, 1) := by decide +kernel
theorem dX4_addConstructor_90 : decode cX4_addConstructor 90 = .ok (.getfield 28, 3) := by decide +kernel
theorem dX4_addConstructor_93 : decode cX4_addConstructor 93 = .ok (.iconst 1, 1) := by decide +kernel
theorem dX4_addConstructor_94 : decode cX4_addConstructor 94 = .ok (.isub, 1) := by decide +kernel
theorem dX4_addConstructor_95 : decode cX4_addConstructor 95 = .ok (.ireturn, 1) := by decide +kernel
theorem dX4_setFunction_0 : decode cX4_setFunction 0 = .ok (.iload_n 1, 1) := by decide +kernel
theorem dX4_setFunction_1 : decode cX4_setFunction 1 = .ok (.ifCond .lt 18, 3) := by decide +kernel
theorem dX4_setFunction_4 : decode cX4_setFunction 4 = .ok (.iload_n 1, 1) := by decide +kernel
theorem dX4_setFunction_5 : decode cX4_setFunction 5 = .ok (.bipush 6, 2) := by decide +kernel
theorem dX4_setFunction_7 : decode cX4_setFunction 7 = .ok (.if_icmp .gt 12, 3) := by decide +kernel
theorem dX4_setFunction_10 : decode cX4_setFunction 10 = .ok (.aload_n 0, 1) := by decide +kernel
theorem dX4_setFunction_11 : decode cX4_setFunction 11 = .ok (.iload_n 1, 1) := by decide +kernel
theorem dX4_setFunction_12 : decode cX4_setFunction 12 = .ok (.iload_n 2, 1) := by decide +kernel
theorem dX4_setFunction_13 : decode cX4_setFunction 13 = .ok (.invokevirtual 31, 3) := by decide +kernel
theorem dX4_setFunction_16 : decode cX4_setFunction 16 = .ok (.ifCond .ne 5, 3) := by decide +kernel
theorem dX4_setFunction_19 : decode cX4_setFunction 19 = .ok (.iconst 0, 1) := by decide +kernel
theorem dX4_setFunction_20 : decode cX4_setFunction 20 = .ok (.ireturn, 1) := by decide +kernel
theorem dX4_setFunction_21 : decode cX4_setFunction 21 = .ok (.aload_n 0, 1) := by decide +kernel
theorem dX4_setFunction_22 : decode cX4_setFunction 22 = .ok (.iload_n 1, 1) := by decide +kernel
theorem dX4_setFunction_23 : decode cX4_setFunction 23 = .ok (.putfield 21, 3) := by decide +kernel
theorem dX4_setFunction_26 : decode cX4_setFunction 26 = .ok (.aload_n 0, 1) := by decide +kernel
theorem dX4_setFunction_27 : decode cX4_setFunction 27 = .ok (.iload_n 2, 1) := by decide +kernel
theorem dX4_setFunction_28 : decode cX4_setFunction 28 = .ok (.putfield 39, 3) := by decide +kernel
theorem dX4_setFunction_31 : decode cX4_setFunction 31 = .ok (.iconst 1, 1) := by decide +kernel
theorem dX4_setFunction_32 : decode cX4_setFunction 32 = .ok (.ireturn, 1) := by decide +kernel
theorem dX4_hasFunction_0 : decode cX4_hasFunction 0 = .ok (.aload_n 0, 1) := by decide +kernel
theorem dX4_hasFunction_1 : decode cX4_hasFunction 1 = .ok (.getfield 21, 3) := by decide +kernel
theorem dX4_hasFunction_4 : decode cX4_hasFunction 4 = .ok (.iconst (-1), 1) := by decide +kernel
theorem dX4_hasFunction_5 : decode cX4_hasFunction 5 = .ok (.if_icmp .eq 7, 3) := by decide +kernel
theorem dX4_hasFunction_8 : decode cX4_hasFunction 8 = .ok (.iconst 1, 1) := by decide +kernel
theorem dX4_hasFunction_9 : decode cX4_hasFunction 9 = .ok (.goto 4, 3) := by decide +kernel
theorem dX4_hasFunction_12 : decode cX4_hasFunction 12 = .ok (.iconst 0, 1) := by decide +kernel
theorem dX4_hasFunction_13 : decode cX4_hasFunction 13 = .ok (.ireturn, 1) := by decide +kernel
theorem dX4_areTypes_0 : decode cX4_areTypes 0 = .ok (.iconst 0, 1) := by decide +kernel
theorem dX4_areTypes_1 : decode cX4_areTypes 1 = .ok (.istore_n 3, 1) := by decide +kernel
theorem dX4_areTypes_2 : decode cX4_areTypes 2 = .ok (.iload_n 3, 1) := by decide +kernel
theorem dX4_areTypes_3 : decode cX4_areTypes 3 = .ok (.iload_n 1, 1) := by decide +kernel
theorem dX4_areTypes_4 : decode cX4_areTypes 4 = .ok (.if_icmp .ge 23, 3) := by decide +kernel
theorem dX4_areTypes_7 : decode cX4_areTypes 7 = .ok (.iload_n 2, 1) := by decide +kernel
theorem dX4_areTypes_8 : decode cX4_areTypes 8 = .ok (.iload_n 3, 1) := by decide +kernel
theorem dX4_areTypes_9 : decode cX4_areTypes 9 = .ok (.invokestatic 42, 3) := by decide +kernel
theorem dX4_areTypes_12 : decode cX4_areTypes 12 = .ok (.aload_n 0, 1) := by decide +kernel
theorem dX4_areTypes_13 : decode cX4_areTypes 13 = .ok (.getfield 25, 3) := by decide +kernel
theorem dX4_areTypes_16 : decode cX4_areTypes 16 = .ok (.if_icmp .lt 5, 3) := by decide +kernel
theorem dX4_areTypes_19 : decode cX4_areTypes 19 = .ok (.iconst 0, 1) := by decide +kernel
theorem dX4_areTypes_20 : decode cX4_areTypes 20 = .ok (.ireturn, 1) := by decide +kernel
theorem dX4_areTypes_21 : decode cX4_areTypes 21 = .ok (.iinc 3 1, 3) := by decide +kernel
theorem dX4_areTypes_24 : decode cX4_areTypes 24 = .ok (.goto (-22), 3) := by decide +kernel
theorem dX4_areTypes_27 : decode cX4_areTypes 27 = .ok (.iconst 1, 1) := by decide +kernel
theorem dX4_areTypes_28 : decode cX4_areTypes 28 = .ok (.ireturn, 1) := by decide +kernel
theorem dX4_typeOf_0 : decode cX4_typeOf 0 = .ok (.iload_n 1, 1) := by decide +kernel
theorem dX4_typeOf_1 : decode cX4_typeOf 1 = .ok (.aload_n 0, 1) := by decide +kernel
theorem dX4_typeOf_2 : decode cX4_typeOf 2 = .ok (.getfield 28, 3) := by decide +kernel
theorem dX4_typeOf_5 : decode cX4_typeOf 5 = .ok (.if_icmp .ge 14, 3) := by decide +kernel
theorem dX4_typeOf_8 : decode cX4_typeOf 8 = .ok (.aload_n 0, 1) := by decide +kernel
theorem dX4_typeOf_9 : decode cX4_typeOf 9 = .ok (.getfield 9, 3) := by decide +kernel
theorem dX4_typeOf_12 : decode cX4_typeOf 12 = .ok (.iload_n 1, 1) := by decide +kernel
theorem dX4_typeOf_13 : decode cX4_typeOf 13 = .ok (.invokestatic 46, 3) := by decide +kernel
theorem dX4_typeOf_16 : decode cX4_typeOf 16 = .ok (.goto 4, 3) := by decide +kernel
theorem dX4_typeOf_19 : decode cX4_typeOf 19 = .ok (.iconst (-1), 1) := by decide +kernel
theorem dX4_typeOf_20 : decode cX4_typeOf 20 = .ok (.ireturn, 1) := by decide +kernel
theorem dX4_parts_0 : decode cX4_parts 0 = .ok (.iload_n 1, 1) := by decide +kernel
theorem dX4_parts_1 : decode cX4_parts 1 = .ok (.iconst (-1), 1) := by decide +kernel
theorem dX4_parts_2 : decode cX4_parts 2 = .ok (.if_icmp .ne 10, 3) := by decide +kernel
theorem dX4_parts_5 : decode cX4_parts 5 = .ok (.aload_n 0, 1) := by decide +kernel
theorem dX4_parts_6 : decode cX4_parts 6 = .ok (.getfield 21, 3) := by decide +kernel
theorem dX4_parts_9 : decode cX4_parts 9 = .ok (.goto 11, 3) := by decide +kernel
theorem dX4_parts_12 : decode cX4_parts 12 = .ok (.aload_n 0, 1) := by decide +kernel
theorem dX4_parts_13 : decode cX4_parts 13 = .ok (.getfield 15, 3) := by decide +kernel
theorem dX4_parts_16 : decode cX4_parts 16 = .ok (.iload_n 1, 1) := by decide +kernel
theorem dX4_parts_17 : decode cX4_parts 17 = .ok (.invokestatic 46, 3) := by decide +kernel
theorem dX4_parts_20 : decode cX4_parts 20 = .ok (.ireturn, 1) := by decide +kernel
theorem dX4_wanted_0 : decode cX4_wanted 0 = .ok (.iload_n 1, 1) := by decide +kernel
theorem dX4_wanted_1 : decode cX4_wanted 1 = .ok (.iconst (-1), 1) := by decide +kernel
theorem dX4_wanted_2 : decode cX4_wanted 2 = .ok (.if_icmp .ne 10, 3) := by decide +kernel
theorem dX4_wanted_5 : decode cX4_wanted 5 = .ok (.aload_n 0, 1) := by decide +kernel
theorem dX4_wanted_6 : decode cX4_wanted 6 = .ok (.getfield 39, 3) := by decide +kernel
theorem dX4_wanted_9 : decode cX4_wanted 9 = .ok (.goto 11, 3) := by decide +kernel
theorem dX4_wanted_12 : decode cX4_wanted 12 = .ok (.aload_n 0, 1) := by decide +kernel
theorem dX4_wanted_13 : decode cX4_wanted 13 = .ok (.getfield 18, 3) := by decide +kernel
theorem dX4_wanted_16 : decode cX4_wanted 16 = .ok (.iload_n 1, 1) := by decide +kernel
theorem dX4_wanted_17 : decode cX4_wanted 17 = .ok (.invokestatic 46, 3) := by decide +kernel
theorem dX4_wanted_20 : decode cX4_wanted 20 = .ok (.iload_n 2, 1) := by decide +kernel
theorem dX4_wanted_21 : decode cX4_wanted 21 = .ok (.invokestatic 42, 3) := by decide +kernel
theorem dX4_wanted_24 : decode cX4_wanted 24 = .ok (.ireturn, 1) := by decide +kernel
theorem dX4_constructorsOf_0 : decode cX4_constructorsOf 0 = .ok (.iconst 0, 1) := by decide +kernel
theorem dX4_constructorsOf_1 : decode cX4_constructorsOf 1 = .ok (.istore_n 2, 1) := by decide +kernel
theorem dX4_constructorsOf_2 : decode cX4_constructorsOf 2 = .ok (.iconst 0, 1) := by decide +kernel
theorem dX4_constructorsOf_3 : decode cX4_constructorsOf 3 = .ok (.istore_n 3, 1) := by decide +kernel
theorem dX4_constructorsOf_4 : decode cX4_constructorsOf 4 = .ok (.iload_n 3, 1) := by decide +kernel
theorem dX4_constructorsOf_5 : decode cX4_constructorsOf 5 = .ok (.aload_n 0, 1) := by decide +kernel
theorem dX4_constructorsOf_6 : decode cX4_constructorsOf 6 = .ok (.getfield 28, 3) := by decide +kernel
theorem dX4_constructorsOf_9 : decode cX4_constructorsOf 9 = .ok (.if_icmp .ge 24, 3) := by decide +kernel
theorem dX4_constructorsOf_12 : decode cX4_constructorsOf 12 = .ok (.aload_n 0, 1) := by decide +kernel
theorem dX4_constructorsOf_13 : decode cX4_constructorsOf 13 = .ok (.getfield 9, 3) := by decide +kernel
theorem dX4_constructorsOf_16 : decode cX4_constructorsOf 16 = .ok (.iload_n 3, 1) := by decide +kernel
theorem dX4_constructorsOf_17 : decode cX4_constructorsOf 17 = .ok (.invokestatic 46, 3) := by decide +kernel
theorem dX4_constructorsOf_20 : decode cX4_constructorsOf 20 = .ok (.iload_n 1, 1) := by decide +kernel
theorem dX4_constructorsOf_21 : decode cX4_constructorsOf 21 = .ok (.if_icmp .ne 6, 3) := by decide +kernel
theorem dX4_constructorsOf_24 : decode cX4_constructorsOf 24 = .ok (.iinc 2 1, 3) := by decide +kernel
theorem dX4_constructorsOf_27 : decode cX4_constructorsOf 27 = .ok (.iinc 3 1, 3) := by decide +kernel
theorem dX4_constructorsOf_30 : decode cX4_constructorsOf 30 = .ok (.goto (-26), 3) := by decide +kernel
theorem dX4_constructorsOf_33 : decode cX4_constructorsOf 33 = .ok (.iload_n 2, 1) := by decide +kernel
theorem dX4_constructorsOf_34 : decode cX4_constructorsOf 34 = .ok (.ireturn, 1) := by decide +kernel
theorem dX4_unpack_0 : decode cX4_unpack 0 = .ok (.iload_n 0, 1) := by decide +kernel
theorem dX4_unpack_1 : decode cX4_unpack 1 = .ok (.iconst 4, 1) := by decide +kernel
theorem dX4_unpack_2 : decode cX4_unpack 2 = .ok (.iload_n 1, 1) := by decide +kernel
theorem dX4_unpack_3 : decode cX4_unpack 3 = .ok (.imul, 1) := by decide +kernel
theorem dX4_unpack_4 : decode cX4_unpack 4 = .ok (.ishr, 1) := by decide +kernel
theorem dX4_unpack_5 : decode cX4_unpack 5 = .ok (.bipush 15, 2) := by decide +kernel
theorem dX4_unpack_7 : decode cX4_unpack 7 = .ok (.iand, 1) := by decide +kernel
theorem dX4_unpack_8 : decode cX4_unpack 8 = .ok (.ireturn, 1) := by decide +kernel
