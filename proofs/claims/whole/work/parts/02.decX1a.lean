theorem dX1_init_0 : decode cX1_init 0 = .ok (.aload_n 0, 1) := by decide +kernel
theorem dX1_init_1 : decode cX1_init 1 = .ok (.invokespecial 3, 3) := by decide +kernel
theorem dX1_init_4 : decode cX1_init 4 = .ok (.aload_n 0, 1) := by decide +kernel
theorem dX1_init_5 : decode cX1_init 5 = .ok (.bipush 24, 2) := by decide +kernel
theorem dX1_init_7 : decode cX1_init 7 = .ok (.newarray .int, 2) := by decide +kernel
theorem dX1_init_9 : decode cX1_init 9 = .ok (.putfield 9, 3) := by decide +kernel
theorem dX1_init_12 : decode cX1_init 12 = .ok (.aload_n 0, 1) := by decide +kernel
theorem dX1_init_13 : decode cX1_init 13 = .ok (.bipush 24, 2) := by decide +kernel
theorem dX1_init_15 : decode cX1_init 15 = .ok (.newarray .int, 2) := by decide +kernel
theorem dX1_init_17 : decode cX1_init 17 = .ok (.putfield 15, 3) := by decide +kernel
theorem dX1_init_20 : decode cX1_init 20 = .ok (.aload_n 0, 1) := by decide +kernel
theorem dX1_init_21 : decode cX1_init 21 = .ok (.bipush 24, 2) := by decide +kernel
theorem dX1_init_23 : decode cX1_init 23 = .ok (.newarray .int, 2) := by decide +kernel
theorem dX1_init_25 : decode cX1_init 25 = .ok (.putfield 18, 3) := by decide +kernel
theorem dX1_init_28 : decode cX1_init 28 = .ok (.aload_n 0, 1) := by decide +kernel
theorem dX1_init_29 : decode cX1_init 29 = .ok (.bipush 24, 2) := by decide +kernel
theorem dX1_init_31 : decode cX1_init 31 = .ok (.newarray .int, 2) := by decide +kernel
theorem dX1_init_33 : decode cX1_init 33 = .ok (.putfield 21, 3) := by decide +kernel
theorem dX1_init_36 : decode cX1_init 36 = .ok (.aload_n 0, 1) := by decide +kernel
theorem dX1_init_37 : decode cX1_init 37 = .ok (.aload_n 1, 1) := by decide +kernel
theorem dX1_init_38 : decode cX1_init 38 = .ok (.putfield 24, 3) := by decide +kernel
theorem dX1_init_41 : decode cX1_init 41 = .ok (.aload_n 0, 1) := by decide +kernel
theorem dX1_init_42 : decode cX1_init 42 = .ok (.aload_n 2, 1) := by decide +kernel
theorem dX1_init_43 : decode cX1_init 43 = .ok (.putfield 28, 3) := by decide +kernel
theorem dX1_init_46 : decode cX1_init 46 = .ok (.return_, 1) := by decide +kernel
theorem dX1_plant_0 : decode cX1_plant 0 = .ok (.aload_n 0, 1) := by decide +kernel
theorem dX1_plant_1 : decode cX1_plant 1 = .ok (.getfield 28, 3) := by decide +kernel
theorem dX1_plant_4 : decode cX1_plant 4 = .ok (.invokevirtual 32, 3) := by decide +kernel
theorem dX1_plant_7 : decode cX1_plant 7 = .ok (.aload_n 0, 1) := by decide +kernel
theorem dX1_plant_8 : decode cX1_plant 8 = .ok (.getfield 24, 3) := by decide +kernel
theorem dX1_plant_11 : decode cX1_plant 11 = .ok (.invokevirtual 37, 3) := by decide +kernel
theorem dX1_plant_14 : decode cX1_plant 14 = .ok (.aload_n 0, 1) := by decide +kernel
theorem dX1_plant_15 : decode cX1_plant 15 = .ok (.iconst 0, 1) := by decide +kernel
theorem dX1_plant_16 : decode cX1_plant 16 = .ok (.putfield 42, 3) := by decide +kernel
theorem dX1_plant_19 : decode cX1_plant 19 = .ok (.aload_n 0, 1) := by decide +kernel
theorem dX1_plant_20 : decode cX1_plant 20 = .ok (.getfield 24, 3) := by decide +kernel
theorem dX1_plant_23 : decode cX1_plant 23 = .ok (.getfield 46, 3) := by decide +kernel
theorem dX1_plant_26 : decode cX1_plant 26 = .ok (.ifCond .le 20, 3) := by decide +kernel
theorem dX1_plant_29 : decode cX1_plant 29 = .ok (.aload_n 0, 1) := by decide +kernel
theorem dX1_plant_30 : decode cX1_plant 30 = .ok (.iconst 1, 1) := by decide +kernel
theorem dX1_plant_31 : decode cX1_plant 31 = .ok (.aload_n 0, 1) := by decide +kernel
theorem dX1_plant_32 : decode cX1_plant 32 = .ok (.getfield 24, 3) := by decide +kernel
theorem dX1_plant_35 : decode cX1_plant 35 = .ok (.getfield 46, 3) := by decide +kernel
theorem dX1_plant_38 : decode cX1_plant 38 = .ok (.ishl, 1) := by decide +kernel
theorem dX1_plant_39 : decode cX1_plant 39 = .ok (.iconst 1, 1) := by decide +kernel
theorem dX1_plant_40 : decode cX1_plant 40 = .ok (.isub, 1) := by decide +kernel
theorem dX1_plant_41 : decode cX1_plant 41 = .ok (.iconst (-1), 1) := by decide +kernel
theorem dX1_plant_42 : decode cX1_plant 42 = .ok (.iconst 0, 1) := by decide +kernel
theorem dX1_plant_43 : decode cX1_plant 43 = .ok (.invokevirtual 49, 3) := by decide +kernel
theorem dX1_plant_46 : decode cX1_plant 46 = .ok (.iconst 0, 1) := by decide +kernel
theorem dX1_plant_47 : decode cX1_plant 47 = .ok (.istore_n 1, 1) := by decide +kernel
theorem dX1_plant_48 : decode cX1_plant 48 = .ok (.iload_n 1, 1) := by decide +kernel
theorem dX1_plant_49 : decode cX1_plant 49 = .ok (.sipush 560, 3) := by decide +kernel
theorem dX1_plant_52 : decode cX1_plant 52 = .ok (.if_icmp .ge 63, 3) := by decide +kernel
theorem dX1_plant_55 : decode cX1_plant 55 = .ok (.aload_n 0, 1) := by decide +kernel
theorem dX1_plant_56 : decode cX1_plant 56 = .ok (.getfield 42, 3) := by decide +kernel
theorem dX1_plant_59 : decode cX1_plant 59 = .ok (.ifCond .le 56, 3) := by decide +kernel
theorem dX1_plant_62 : decode cX1_plant 62 = .ok (.aload_n 0, 1) := by decide +kernel
theorem dX1_plant_63 : decode cX1_plant 63 = .ok (.dup, 1) := by decide +kernel
theorem dX1_plant_64 : decode cX1_plant 64 = .ok (.getfield 42, 3) := by decide +kernel
theorem dX1_plant_67 : decode cX1_plant 67 = .ok (.iconst 1, 1) := by decide +kernel
theorem dX1_plant_68 : decode cX1_plant 68 = .ok (.isub, 1) := by decide +kernel
theorem dX1_plant_69 : decode cX1_plant 69 = .ok (.putfield 42, 3) := by decide +kernel
theorem dX1_plant_72 : decode cX1_plant 72 = .ok (.aload_n 0, 1) := by decide +kernel
theorem dX1_plant_73 : decode cX1_plant 73 = .ok (.aload_n 0, 1) := by decide +kernel
theorem dX1_plant_74 : decode cX1_plant 74 = .ok (.getfield 9, 3) := by decide +kernel
theorem dX1_plant_77 : decode cX1_plant 77 = .ok (.aload_n 0, 1) := by decide +kernel
theorem dX1_plant_78 : decode cX1_plant 78 = .ok (.getfield 42, 3) := by decide +kernel
theorem dX1_plant_81 : decode cX1_plant 81 = .ok (.invokestatic 53, 3) := by decide +kernel
theorem dX1_plant_84 : decode cX1_plant 84 = .ok (.aload_n 0, 1) := by decide +kernel
theorem dX1_plant_85 : decode cX1_plant 85 = .ok (.getfield 15, 3) := by decide +kernel
theorem dX1_plant_88 : decode cX1_plant 88 = .ok (.aload_n 0, 1) := by decide +kernel
theorem dX1_plant_89 : decode cX1_plant 89 = .ok (.getfield 42, 3) := by decide +kernel
theorem dX1_plant_92 : decode cX1_plant 92 = .ok (.invokestatic 53, 3) := by decide +kernel
theorem dX1_plant_95 : decode cX1_plant 95 = .ok (.aload_n 0, 1) := by decide +kernel
theorem dX1_plant_96 : decode cX1_plant 96 = .ok (.getfield 18, 3) := by decide +kernel
theorem dX1_plant_99 : decode cX1_plant 99 = .ok (.aload_n 0, 1) := by decide +kernel
theorem dX1_plant_100 : decode cX1_plant 100 = .ok (.getfield 42, 3) := by decide +kernel
theorem dX1_plant_103 : decode cX1_plant 103 = .ok (.invokestatic 53, 3) := by decide +kernel
theorem dX1_plant_106 : decode cX1_plant 106 = .ok (.invokevirtual 57, 3) := by decide +kernel
theorem dX1_plant_109 : decode cX1_plant 109 = .ok (.iinc 1 1, 3) := by decide +kernel
theorem dX1_plant_112 : decode cX1_plant 112 = .ok (.goto (-64), 3) := by decide +kernel
theorem dX1_plant_115 : decode cX1_plant 115 = .ok (.return_, 1) := by decide +kernel
theorem dX1_await_0 : decode cX1_await 0 = .ok (.aload_n 0, 1) := by decide +kernel
theorem dX1_await_1 : decode cX1_await 1 = .ok (.getfield 42, 3) := by decide +kernel
theorem dX1_await_4 : decode cX1_await 4 = .ok (.bipush 24, 2) := by decide +kernel
theorem dX1_await_6 : decode cX1_await 6 = .ok (.if_icmp .ge 49, 3) := by decide +kernel
theorem dX1_await_9 : decode cX1_await 9 = .ok (.aload_n 0, 1) := by decide +kernel
theorem dX1_await_10 : decode cX1_await 10 = .ok (.getfield 9, 3) := by decide +kernel
theorem dX1_await_13 : decode cX1_await 13 = .ok (.aload_n 0, 1) := by decide +kernel
theorem dX1_await_14 : decode cX1_await 14 = .ok (.getfield 42, 3) := by decide +kernel
theorem dX1_await_17 : decode cX1_await 17 = .ok (.iload_n 1, 1) := by decide +kernel
theorem dX1_await_18 : decode cX1_await 18 = .ok (.invokestatic 60, 3) := by decide +kernel
theorem dX1_await_21 : decode cX1_await 21 = .ok (.aload_n 0, 1) := by decide +kernel
theorem dX1_await_22 : decode cX1_await 22 = .ok (.getfield 15, 3) := by decide +kernel
theorem dX1_await_25 : decode cX1_await 25 = .ok (.aload_n 0, 1) := by decide +kernel
theorem dX1_await_26 : decode cX1_await 26 = .ok (.getfield 42, 3) := by decide +kernel
theorem dX1_await_29 : decode cX1_await 29 = .ok (.iload_n 2, 1) := by decide +kernel
theorem dX1_await_30 : decode cX1_await 30 = .ok (.invokestatic 60, 3) := by decide +kernel
theorem dX1_await_33 : decode cX1_await 33 = .ok (.aload_n 0, 1) := by decide +kernel
theorem dX1_await_34 : decode cX1_await 34 = .ok (.getfield 18, 3) := by decide +kernel
theorem dX1_await_37 : decode cX1_await 37 = .ok (.aload_n 0, 1) := by decide +kernel
theorem dX1_await_38 : decode cX1_await 38 = .ok (.getfield 42, 3) := by decide +kernel
theorem dX1_await_41 : decode cX1_await 41 = .ok (.iload_n 3, 1) := by decide +kernel
theorem dX1_await_42 : decode cX1_await 42 = .ok (.invokestatic 60, 3) := by decide +kernel
theorem dX1_await_45 : decode cX1_await 45 = .ok (.aload_n 0, 1) := by decide +kernel
theorem dX1_await_46 : decode cX1_await 46 = .ok (.dup, 1) := by decide +kernel
theorem dX1_await_47 : decode cX1_await 47 = .ok (.getfield 42, 3) := by decide +kernel
theorem dX1_await_50 : decode cX1_await 50 = .ok (.iconst 1, 1) := by decide +kernel
theorem dX1_await_51 : decode cX1_await 51 = .ok (.iadd, 1) := by decide +kernel
theorem dX1_await_52 : decode cX1_await 52 = .ok (.putfield 42, 3) := by decide +kernel
theorem dX1_await_55 : decode cX1_await 55 = .ok (.return_, 1) := by decide +kernel
theorem dX1_grow_0 : decode cX1_grow 0 = .ok (.aload_n 0, 1) := by decide +kernel
theorem dX1_grow_1 : decode cX1_grow 1 = .ok (.iload_n 1, 1) := by decide +kernel
theorem dX1_grow_2 : decode cX1_grow 2 = .ok (.invokevirtual 64, 3) := by decide +kernel
theorem dX1_grow_5 : decode cX1_grow 5 = .ok (.istore 4, 2) := by decide +kernel
theorem dX1_grow_7 : decode cX1_grow 7 = .ok (.aload_n 0, 1) := by decide +kernel
theorem dX1_grow_8 : decode cX1_grow 8 = .ok (.getfield 42, 3) := by decide +kernel
theorem dX1_grow_11 : decode cX1_grow 11 = .ok (.istore 5, 2) := by decide +kernel
theorem dX1_grow_13 : decode cX1_grow 13 = .ok (.iload 4, 2) := by decide +kernel
theorem dX1_grow_15 : decode cX1_grow 15 = .ok (.iload_n 1, 1) := by decide +kernel
theorem dX1_grow_16 : decode cX1_grow 16 = .ok (.if_icmp .ne 44, 3) := by decide +kernel
theorem dX1_grow_19 : decode cX1_grow 19 = .ok (.aload_n 0, 1) := by decide +kernel
theorem dX1_grow_20 : decode cX1_grow 20 = .ok (.getfield 21, 3) := by decide +kernel
theorem dX1_grow_23 : decode cX1_grow 23 = .ok (.iload_n 1, 1) := by decide +kernel
theorem dX1_grow_24 : decode cX1_grow 24 = .ok (.invokestatic 68, 3) := by decide +kernel
theorem dX1_grow_27 : decode cX1_grow 27 = .ok (.invokestatic 53, 3) := by decide +kernel
theorem dX1_grow_30 : decode cX1_grow 30 = .ok (.istore 6, 2) := by decide +kernel
theorem dX1_grow_32 : decode cX1_grow 32 = .ok (.aload_n 0, 1) := by decide +kernel
theorem dX1_grow_33 : decode cX1_grow 33 = .ok (.iload_n 1, 1) := by decide +kernel
theorem dX1_grow_34 : decode cX1_grow 34 = .ok (.iload_n 3, 1) := by decide +kernel
theorem dX1_grow_35 : decode cX1_grow 35 = .ok (.invokevirtual 71, 3) := by decide +kernel
theorem dX1_grow_38 : decode cX1_grow 38 = .ok (.aload_n 0, 1) := by decide +kernel
theorem dX1_grow_39 : decode cX1_grow 39 = .ok (.getfield 28, 3) := by decide +kernel
theorem dX1_grow_42 : decode cX1_grow 42 = .ok (.iconst 1, 1) := by decide +kernel
theorem dX1_grow_43 : decode cX1_grow 43 = .ok (.iload 6, 2) := by decide +kernel
theorem dX1_grow_45 : decode cX1_grow 45 = .ok (.iload_n 2, 1) := by decide +kernel
theorem dX1_grow_46 : decode cX1_grow 46 = .ok (.iload_n 3, 1) := by decide +kernel
theorem dX1_grow_47 : decode cX1_grow 47 = .ok (.aload_n 0, 1) := by decide +kernel
theorem dX1_grow_48 : decode cX1_grow 48 = .ok (.getfield 42, 3) := by decide +kernel
theorem dX1_grow_51 : decode cX1_grow 51 = .ok (.iload 5, 2) := by decide +kernel
theorem dX1_grow_53 : decode cX1_grow 53 = .ok (.isub, 1) := by decide +kernel
theorem dX1_grow_54 : decode cX1_grow 54 = .ok (.invokevirtual 75, 3) := by decide +kernel
theorem dX1_grow_57 : decode cX1_grow 57 = .ok (.goto 87, 3) := by decide +kernel
theorem dX1_grow_60 : decode cX1_grow 60 = .ok (.iload 4, 2) := by decide +kernel
theorem dX1_grow_62 : decode cX1_grow 62 = .ok (.ifCond .eq 32, 3) := by decide +kernel
theorem dX1_grow_65 : decode cX1_grow 65 = .ok (.aload_n 0, 1) := by decide +kernel
theorem dX1_grow_66 : decode cX1_grow 66 = .ok (.iload_n 1, 1) := by decide +kernel
theorem dX1_grow_67 : decode cX1_grow 67 = .ok (.iload 4, 2) := by decide +kernel
theorem dX1_grow_69 : decode cX1_grow 69 = .ok (.iload_n 3, 1) := by decide +kernel
theorem dX1_grow_70 : decode cX1_grow 70 = .ok (.invokevirtual 79, 3) := by decide +kernel
theorem dX1_grow_73 : decode cX1_grow 73 = .ok (.aload_n 0, 1) := by decide +kernel
theorem dX1_grow_74 : decode cX1_grow 74 = .ok (.getfield 28, 3) := by decide +kernel
theorem dX1_grow_77 : decode cX1_grow 77 = .ok (.iconst 2, 1) := by decide +kernel
theorem dX1_grow_78 : decode cX1_grow 78 = .ok (.iconst (-1), 1) := by decide +kernel
theorem dX1_grow_79 : decode cX1_grow 79 = .ok (.iload_n 2, 1) := by decide +kernel
theorem dX1_grow_80 : decode cX1_grow 80 = .ok (.iload_n 3, 1) := by decide +kernel
theorem dX1_grow_81 : decode cX1_grow 81 = .ok (.aload_n 0, 1) := by decide +kernel
theorem dX1_grow_82 : decode cX1_grow 82 = .ok (.getfield 42, 3) := by decide +kernel
theorem dX1_grow_85 : decode cX1_grow 85 = .ok (.iload 5, 2) := by decide +kernel
theorem dX1_grow_87 : decode cX1_grow 87 = .ok (.isub, 1) := by decide +kernel
theorem dX1_grow_88 : decode cX1_grow 88 = .ok (.invokevirtual 75, 3) := by decide +kernel
theorem dX1_grow_91 : decode cX1_grow 91 = .ok (.goto 53, 3) := by decide +kernel
theorem dX1_grow_94 : decode cX1_grow 94 = .ok (.iload_n 1, 1) := by decide +kernel
theorem dX1_grow_95 : decode cX1_grow 95 = .ok (.invokestatic 82, 3) := by decide +kernel
theorem dX1_grow_98 : decode cX1_grow 98 = .ok (.iconst 1, 1) := by decide +kernel
theorem dX1_grow_99 : decode cX1_grow 99 = .ok (.if_icmp .le 30, 3) := by decide +kernel
theorem dX1_grow_102 : decode cX1_grow 102 = .ok (.aload_n 0, 1) := by decide +kernel
theorem dX1_grow_103 : decode cX1_grow 103 = .ok (.iload_n 1, 1) := by decide +kernel
theorem dX1_grow_104 : decode cX1_grow 104 = .ok (.iload_n 3, 1) := by decide +kernel
theorem dX1_grow_105 : decode cX1_grow 105 = .ok (.invokevirtual 87, 3) := by decide +kernel
theorem dX1_grow_108 : decode cX1_grow 108 = .ok (.aload_n 0, 1) := by decide +kernel
theorem dX1_grow_109 : decode cX1_grow 109 = .ok (.getfield 28, 3) := by decide +kernel
theorem dX1_grow_112 : decode cX1_grow 112 = .ok (.iconst 2, 1) := by decide +kernel
theorem dX1_grow_113 : decode cX1_grow 113 = .ok (.iconst (-1), 1) := by decide +kernel
theorem dX1_grow_114 : decode cX1_grow 114 = .ok (.iload_n 2, 1) := by decide +kernel
theorem dX1_grow_115 : decode cX1_grow 115 = .ok (.iload_n 3, 1) := by decide +kernel
theorem dX1_grow_116 : decode cX1_grow 116 = .ok (.aload_n 0, 1) := by decide +kernel
theorem dX1_grow_117 : decode cX1_grow 117 = .ok (.getfield 42, 3) := by decide +kernel
theorem dX1_grow_120 : decode cX1_grow 120 = .ok (.iload 5, 2) := by decide +kernel
theorem dX1_grow_122 : decode cX1_grow 122 = .ok (.isub, 1) := by decide +kernel
theorem dX1_grow_123 : decode cX1_grow 123 = .ok (.invokevirtual 75, 3) := by decide +kernel
theorem dX1_grow_126 : decode cX1_grow 126 = .ok (.goto 18, 3) := by decide +kernel
theorem dX1_grow_129 : decode cX1_grow 129 = .ok (.aload_n 0, 1) := by decide +kernel
theorem dX1_grow_130 : decode cX1_grow 130 = .ok (.getfield 28, 3) := by decide +kernel
theorem dX1_grow_133 : decode cX1_grow 133 = .ok (.iconst 0, 1) := by decide +kernel
theorem dX1_grow_134 : decode cX1_grow 134 = .ok (.iload_n 1, 1) := by decide +kernel
theorem dX1_grow_135 : decode cX1_grow 135 = .ok (.invokestatic 68, 3) := by decide +kernel
theorem dX1_grow_138 : decode cX1_grow 138 = .ok (.iload_n 2, 1) := by decide +kernel
theorem dX1_grow_139 : decode cX1_grow 139 = .ok (.iload_n 3, 1) := by decide +kernel
theorem dX1_grow_140 : decode cX1_grow 140 = .ok (.iconst 0, 1) := by decide +kernel
theorem dX1_grow_141 : decode cX1_grow 141 = .ok (.invokevirtual 75, 3) := by decide +kernel
theorem dX1_grow_144 : decode cX1_grow 144 = .ok (.return_, 1) := by decide +kernel
theorem dX1_takePosition_0 : decode cX1_takePosition 0 = .ok (.iload_n 1, 1) := by decide +kernel
theorem dX1_takePosition_1 : decode cX1_takePosition 1 = .ok (.invokestatic 68, 3) := by decide +kernel
theorem dX1_takePosition_4 : decode cX1_takePosition 4 = .ok (.istore_n 2, 1) := by decide +kernel
theorem dX1_takePosition_5 : decode cX1_takePosition 5 = .ok (.iconst 0, 1) := by decide +kernel
theorem dX1_takePosition_6 : decode cX1_takePosition 6 = .ok (.istore_n 3, 1) := by decide +kernel
theorem dX1_takePosition_7 : decode cX1_takePosition 7 = .ok (.aload_n 0, 1) := by decide +kernel
theorem dX1_takePosition_8 : decode cX1_takePosition 8 = .ok (.iload_n 1, 1) := by decide +kernel
theorem dX1_takePosition_9 : decode cX1_takePosition 9 = .ok (.invokevirtual 90, 3) := by decide +kernel
theorem dX1_takePosition_12 : decode cX1_takePosition 12 = .ok (.iconst 0, 1) := by decide +kernel
theorem dX1_takePosition_13 : decode cX1_takePosition 13 = .ok (.istore 4, 2) := by decide +kernel
theorem dX1_takePosition_15 : decode cX1_takePosition 15 = .ok (.iload 4, 2) := by decide +kernel
theorem dX1_takePosition_17 : decode cX1_takePosition 17 = .ok (.sipush 160, 3) := by decide +kernel
theorem dX1_takePosition_20 : decode cX1_takePosition 20 = .ok (.if_icmp .ge 87, 3) := by decide +kernel
theorem dX1_takePosition_23 : decode cX1_takePosition 23 = .ok (.aload_n 0, 1) := by decide +kernel
theorem dX1_takePosition_24 : decode cX1_takePosition 24 = .ok (.getfield 21, 3) := by decide +kernel
theorem dX1_takePosition_27 : decode cX1_takePosition 27 = .ok (.iload_n 2, 1) := by decide +kernel
theorem dX1_takePosition_28 : decode cX1_takePosition 28 = .ok (.invokestatic 53, 3) := by decide +kernel
theorem dX1_takePosition_31 : decode cX1_takePosition 31 = .ok (.aload_n 0, 1) := by decide +kernel
theorem dX1_takePosition_32 : decode cX1_takePosition 32 = .ok (.getfield 24, 3) := by decide +kernel
theorem dX1_takePosition_35 : decode cX1_takePosition 35 = .ok (.iload_n 2, 1) := by decide +kernel
theorem dX1_takePosition_36 : decode cX1_takePosition 36 = .ok (.iconst 1, 1) := by decide +kernel
theorem dX1_takePosition_37 : decode cX1_takePosition 37 = .ok (.iadd, 1) := by decide +kernel
theorem dX1_takePosition_38 : decode cX1_takePosition 38 = .ok (.invokevirtual 94, 3) := by decide +kernel
theorem dX1_takePosition_41 : decode cX1_takePosition 41 = .ok (.if_icmp .ge 66, 3) := by decide +kernel
theorem dX1_takePosition_44 : decode cX1_takePosition 44 = .ok (.aload_n 0, 1) := by decide +kernel
theorem dX1_takePosition_45 : decode cX1_takePosition 45 = .ok (.getfield 24, 3) := by decide +kernel
theorem dX1_takePosition_48 : decode cX1_takePosition 48 = .ok (.aload_n 0, 1) := by decide +kernel
theorem dX1_takePosition_49 : decode cX1_takePosition 49 = .ok (.getfield 21, 3) := by decide +kernel
theorem dX1_takePosition_52 : decode cX1_takePosition 52 = .ok (.iload_n 2, 1) := by decide +kernel
theorem dX1_takePosition_53 : decode cX1_takePosition 53 = .ok (.invokestatic 53, 3) := by decide +kernel
theorem dX1_takePosition_56 : decode cX1_takePosition 56 = .ok (.invokevirtual 97, 3) := by decide +kernel
theorem dX1_takePosition_59 : decode cX1_takePosition 59 = .ok (.ifCond .eq 11, 3) := by decide +kernel
theorem dX1_takePosition_62 : decode cX1_takePosition 62 = .ok (.aload_n 0, 1) := by decide +kernel
theorem dX1_takePosition_63 : decode cX1_takePosition 63 = .ok (.iload_n 1, 1) := by decide +kernel
theorem dX1_takePosition_64 : decode cX1_takePosition 64 = .ok (.invokevirtual 101, 3) := by decide +kernel
theorem dX1_takePosition_67 : decode cX1_takePosition 67 = .ok (.goto 34, 3) := by decide +kernel
theorem dX1_takePosition_70 : decode cX1_takePosition 70 = .ok (.aload_n 0, 1) := by decide +kernel
theorem dX1_takePosition_71 : decode cX1_takePosition 71 = .ok (.iload_n 1, 1) := by decide +kernel
theorem dX1_takePosition_72 : decode cX1_takePosition 72 = .ok (.invokevirtual 104, 3) := by decide +kernel
theorem dX1_takePosition_75 : decode cX1_takePosition 75 = .ok (.istore 5, 2) := by decide +kernel
theorem dX1_takePosition_77 : decode cX1_takePosition 77 = .ok (.iload 5, 2) := by decide +kernel
theorem dX1_takePosition_79 : decode cX1_takePosition 79 = .ok (.iload_n 1, 1) := by decide +kernel
theorem dX1_takePosition_80 : decode cX1_takePosition 80 = .ok (.if_icmp .ne 5, 3) := by decide +kernel
theorem dX1_takePosition_83 : decode cX1_takePosition 83 = .ok (.iload_n 1, 1) := by decide +kernel
theorem dX1_takePosition_84 : decode cX1_takePosition 84 = .ok (.ireturn, 1) := by decide +kernel
theorem dX1_takePosition_85 : decode cX1_takePosition 85 = .ok (.iload_n 3, 1) := by decide +kernel
theorem dX1_takePosition_86 : decode cX1_takePosition 86 = .ok (.ifCond .ne 8, 3) := by decide +kernel
theorem dX1_takePosition_89 : decode cX1_takePosition 89 = .ok (.iload 5, 2) := by decide +kernel
theorem dX1_takePosition_91 : decode cX1_takePosition 91 = .ok (.goto 4, 3) := by decide +kernel
theorem dX1_takePosition_94 : decode cX1_takePosition 94 = .ok (.iload_n 3, 1) := by decide +kernel
theorem dX1_takePosition_95 : decode cX1_takePosition 95 = .ok (.istore_n 3, 1) := by decide +kernel
theorem dX1_takePosition_96 : decode cX1_takePosition 96 = .ok (.aload_n 0, 1) := by decide +kernel
theorem dX1_takePosition_97 : decode cX1_takePosition 97 = .ok (.iload_n 1, 1) := by decide +kernel
theorem dX1_takePosition_98 : decode cX1_takePosition 98 = .ok (.invokevirtual 107, 3) := by decide +kernel
theorem dX1_takePosition_101 : decode cX1_takePosition 101 = .ok (.iinc 4 1, 3) := by decide +kernel
theorem dX1_takePosition_104 : decode cX1_takePosition 104 = .ok (.goto (-89), 3) := by decide +kernel
theorem dX1_takePosition_107 : decode cX1_takePosition 107 = .ok (.iload_n 3, 1) := by decide +kernel
theorem dX1_takePosition_108 : decode cX1_takePosition 108 = .ok (.ireturn, 1) := by decide +kernel
theorem dX1_startCursors_0 : decode cX1_startCursors 0 = .ok (.iconst 0, 1) := by decide +kernel
theorem dX1_startCursors_1 : decode cX1_startCursors 1 = .ok (.istore_n 2, 1) := by decide +kernel
theorem dX1_startCursors_2 : decode cX1_startCursors 2 = .ok (.iload_n 2, 1) := by decide +kernel
theorem dX1_startCursors_3 : decode cX1_startCursors 3 = .ok (.aload_n 0, 1) := by decide +kernel
theorem dX1_startCursors_4 : decode cX1_startCursors 4 = .ok (.getfield 24, 3) := by decide +kernel
theorem dX1_startCursors_7 : decode cX1_startCursors 7 = .ok (.getfield 46, 3) := by decide +kernel
theorem dX1_startCursors_10 : decode cX1_startCursors 10 = .ok (.if_icmp .ge 33, 3) := by decide +kernel
theorem dX1_startCursors_13 : decode cX1_startCursors 13 = .ok (.iload_n 1, 1) := by decide +kernel
theorem dX1_startCursors_14 : decode cX1_startCursors 14 = .ok (.iload_n 2, 1) := by decide +kernel
theorem dX1_startCursors_15 : decode cX1_startCursors 15 = .ok (.invokestatic 110, 3) := by decide +kernel
theorem dX1_startCursors_18 : decode cX1_startCursors 18 = .ok (.ifCond .eq 19, 3) := by decide +kernel
theorem dX1_startCursors_21 : decode cX1_startCursors 21 = .ok (.aload_n 0, 1) := by decide +kernel
theorem dX1_startCursors_22 : decode cX1_startCursors 22 = .ok (.getfield 21, 3) := by decide +kernel
theorem dX1_startCursors_25 : decode cX1_startCursors 25 = .ok (.iload_n 2, 1) := by decide +kernel
theorem dX1_startCursors_26 : decode cX1_startCursors 26 = .ok (.aload_n 0, 1) := by decide +kernel
theorem dX1_startCursors_27 : decode cX1_startCursors 27 = .ok (.getfield 24, 3) := by decide +kernel
theorem dX1_startCursors_30 : decode cX1_startCursors 30 = .ok (.iload_n 2, 1) := by decide +kernel
theorem dX1_startCursors_31 : decode cX1_startCursors 31 = .ok (.invokevirtual 94, 3) := by decide +kernel
theorem dX1_startCursors_34 : decode cX1_startCursors 34 = .ok (.invokestatic 60, 3) := by decide +kernel
theorem dX1_startCursors_37 : decode cX1_startCursors 37 = .ok (.iinc 2 1, 3) := by decide +kernel
theorem dX1_startCursors_40 : decode cX1_startCursors 40 = .ok (.goto (-38), 3) := by decide +kernel
theorem dX1_startCursors_43 : decode cX1_startCursors 43 = .ok (.return_, 1) := by decide +kernel
theorem dX1_enter_0 : decode cX1_enter 0 = .ok (.iconst 0, 1) := by decide +kernel
theorem dX1_enter_1 : decode cX1_enter 1 = .ok (.istore_n 2, 1) := by decide +kernel
theorem dX1_enter_2 : decode cX1_enter 2 = .ok (.iload_n 2, 1) := by decide +kernel
theorem dX1_enter_3 : decode cX1_enter 3 = .ok (.aload_n 0, 1) := by decide +kernel
theorem dX1_enter_4 : decode cX1_enter 4 = .ok (.getfield 24, 3) := by decide +kernel
theorem dX1_enter_7 : decode cX1_enter 7 = .ok (.getfield 46, 3) := by decide +kernel
theorem dX1_enter_10 : decode cX1_enter 10 = .ok (.if_icmp .ge 35, 3) := by decide +kernel
theorem dX1_enter_13 : decode cX1_enter 13 = .ok (.iload_n 1, 1) := by decide +kernel
theorem dX1_enter_14 : decode cX1_enter 14 = .ok (.iload_n 2, 1) := by decide +kernel
theorem dX1_enter_15 : decode cX1_enter 15 = .ok (.invokestatic 110, 3) := by decide +kernel
theorem dX1_enter_18 : decode cX1_enter 18 = .ok (.ifCond .eq 21, 3) := by decide +kernel
theorem dX1_enter_21 : decode cX1_enter 21 = .ok (.aload_n 0, 1) := by decide +kernel
theorem dX1_enter_22 : decode cX1_enter 22 = .ok (.getfield 21, 3) := by decide +kernel
theorem dX1_enter_25 : decode cX1_enter 25 = .ok (.iload_n 2, 1) := by decide +kernel
theorem dX1_enter_26 : decode cX1_enter 26 = .ok (.aload_n 0, 1) := by decide +kernel
theorem dX1_enter_27 : decode cX1_enter 27 = .ok (.getfield 21, 3) := by decide +kernel
theorem dX1_enter_30 : decode cX1_enter 30 = .ok (.iload_n 2, 1) := by decide +kernel
theorem dX1_enter_31 : decode cX1_enter 31 = .ok (.invokestatic 53, 3) := by decide +kernel
theorem dX1_enter_34 : decode cX1_enter 34 = .ok (.iconst 1, 1) := by decide +kernel
theorem dX1_enter_35 : decode cX1_enter 35 = .ok (.iadd, 1) := by decide +kernel
theorem dX1_enter_36 : decode cX1_enter 36 = .ok (.invokestatic 60, 3) := by decide +kernel
theorem dX1_enter_39 : decode cX1_enter 39 = .ok (.iinc 2 1, 3) := by decide +kernel
theorem dX1_enter_42 : decode cX1_enter 42 = .ok (.goto (-40), 3) := by decide +kernel
theorem dX1_enter_45 : decode cX1_enter 45 = .ok (.return_, 1) := by decide +kernel
theorem dX1_pass_0 : decode cX1_pass 0 = .ok (.iconst 0, 1) := by decide +kernel
theorem dX1_pass_1 : decode cX1_pass 1 = .ok (.istore_n 2, 1) := by decide +kernel
theorem dX1_pass_2 : decode cX1_pass 2 = .ok (.iload_n 2, 1) := by decide +kernel
theorem dX1_pass_3 : decode cX1_pass 3 = .ok (.aload_n 0, 1) := by decide +kernel
theorem dX1_pass_4 : decode cX1_pass 4 = .ok (.getfield 24, 3) := by decide +kernel
theorem dX1_pass_7 : decode cX1_pass 7 = .ok (.getfield 46, 3) := by decide +kernel
theorem dX1_pass_10 : decode cX1_pass 10 = .ok (.if_icmp .ge 43, 3) := by decide +kernel
theorem dX1_pass_13 : decode cX1_pass 13 = .ok (.iload_n 1, 1) := by decide +kernel
theorem dX1_pass_14 : decode cX1_pass 14 = .ok (.iload_n 2, 1) := by decide +kernel
theorem dX1_pass_15 : decode cX1_pass 15 = .ok (.invokestatic 110, 3) := by decide +kernel
theorem dX1_pass_18 : decode cX1_pass 18 = .ok (.ifCond .eq 29, 3) := by decide +kernel
theorem dX1_pass_21 : decode cX1_pass 21 = .ok (.aload_n 0, 1) := by decide +kernel
theorem dX1_pass_22 : decode cX1_pass 22 = .ok (.getfield 21, 3) := by decide +kernel
theorem dX1_pass_25 : decode cX1_pass 25 = .ok (.iload_n 2, 1) := by decide +kernel
theorem dX1_pass_26 : decode cX1_pass 26 = .ok (.aload_n 0, 1) := by decide +kernel
theorem dX1_pass_27 : decode cX1_pass 27 = .ok (.getfield 24, 3) := by decide +kernel
theorem dX1_pass_30 : decode cX1_pass 30 = .ok (.getfield 114, 3) := by decide +kernel
theorem dX1_pass_33 : decode cX1_pass 33 = .ok (.aload_n 0, 1) := by decide +kernel
theorem dX1_pass_34 : decode cX1_pass 34 = .ok (.getfield 21, 3) := by decide +kernel
theorem dX1_pass_37 : decode cX1_pass 37 = .ok (.iload_n 2, 1) := by decide +kernel
theorem dX1_pass_38 : decode cX1_pass 38 = .ok (.invokestatic 53, 3) := by decide +kernel
theorem dX1_pass_41 : decode cX1_pass 41 = .ok (.invokestatic 53, 3) := by decide +kernel
theorem dX1_pass_44 : decode cX1_pass 44 = .ok (.invokestatic 60, 3) := by decide +kernel
theorem dX1_pass_47 : decode cX1_pass 47 = .ok (.iinc 2 1, 3) := by decide +kernel
theorem dX1_pass_50 : decode cX1_pass 50 = .ok (.goto (-48), 3) := by decide +kernel
theorem dX1_pass_53 : decode cX1_pass 53 = .ok (.return_, 1) := by decide +kernel
theorem dX1_needing_0 : decode cX1_needing 0 = .ok (.iconst 0, 1) := by decide +kernel
theorem dX1_needing_1 : decode cX1_needing 1 = .ok (.istore_n 2, 1) := by decide +kernel
theorem dX1_needing_2 : decode cX1_needing 2 = .ok (.iconst 0, 1) := by decide +kernel
theorem dX1_needing_3 : decode cX1_needing 3 = .ok (.istore_n 3, 1) := by decide +kernel
theorem dX1_needing_4 : decode cX1_needing 4 = .ok (.iload_n 3, 1) := by decide +kernel
theorem dX1_needing_5 : decode cX1_needing 5 = .ok (.aload_n 0, 1) := by decide +kernel
theorem dX1_needing_6 : decode cX1_needing 6 = .ok (.getfield 24, 3) := by decide +kernel
theorem dX1_needing_9 : decode cX1_needing 9 = .ok (.getfield 46, 3) := by decide +kernel
theorem dX1_needing_12 : decode cX1_needing 12 = .ok (.if_icmp .ge 41, 3) := by decide +kernel
theorem dX1_needing_15 : decode cX1_needing 15 = .ok (.iload_n 1, 1) := by decide +kernel
theorem dX1_needing_16 : decode cX1_needing 16 = .ok (.iload_n 3, 1) := by decide +kernel
theorem dX1_needing_17 : decode cX1_needing 17 = .ok (.invokestatic 110, 3) := by decide +kernel
theorem dX1_needing_20 : decode cX1_needing 20 = .ok (.ifCond .eq 27, 3) := by decide +kernel
theorem dX1_needing_23 : decode cX1_needing 23 = .ok (.aload_n 0, 1) := by decide +kernel
theorem dX1_needing_24 : decode cX1_needing 24 = .ok (.getfield 24, 3) := by decide +kernel
theorem dX1_needing_27 : decode cX1_needing 27 = .ok (.aload_n 0, 1) := by decide +kernel
theorem dX1_needing_28 : decode cX1_needing 28 = .ok (.getfield 21, 3) := by decide +kernel
theorem dX1_needing_31 : decode cX1_needing 31 = .ok (.iload_n 3, 1) := by decide +kernel
theorem dX1_needing_32 : decode cX1_needing 32 = .ok (.invokestatic 53, 3) := by decide +kernel
theorem dX1_needing_35 : decode cX1_needing 35 = .ok (.invokevirtual 117, 3) := by decide +kernel
theorem dX1_needing_38 : decode cX1_needing 38 = .ok (.ifCond .ne 9, 3) := by decide +kernel
theorem dX1_needing_41 : decode cX1_needing 41 = .ok (.iload_n 2, 1) := by decide +kernel
theorem dX1_needing_42 : decode cX1_needing 42 = .ok (.iconst 1, 1) := by decide +kernel
theorem dX1_needing_43 : decode cX1_needing 43 = .ok (.iload_n 3, 1) := by decide +kernel
theorem dX1_needing_44 : decode cX1_needing 44 = .ok (.ishl, 1) := by decide +kernel
theorem dX1_needing_45 : decode cX1_needing 45 = .ok (.ior, 1) := by decide +kernel
theorem dX1_needing_46 : decode cX1_needing 46 = .ok (.istore_n 2, 1) := by decide +kernel
theorem dX1_needing_47 : decode cX1_needing 47 = .ok (.iinc 3 1, 3) := by decide +kernel
theorem dX1_needing_50 : decode cX1_needing 50 = .ok (.goto (-46), 3) := by decide +kernel
theorem dX1_needing_53 : decode cX1_needing 53 = .ok (.iload_n 2, 1) := by decide +kernel
theorem dX1_needing_54 : decode cX1_needing 54 = .ok (.ireturn, 1) := by decide +kernel
theorem dX1_ask_0 : decode cX1_ask 0 = .ok (.iload_n 1, 1) := by decide +kernel
theorem dX1_ask_1 : decode cX1_ask 1 = .ok (.istore_n 3, 1) := by decide +kernel
theorem dX1_ask_2 : decode cX1_ask 2 = .ok (.iconst 0, 1) := by decide +kernel
theorem dX1_ask_3 : decode cX1_ask 3 = .ok (.istore 4, 2) := by decide +kernel
theorem dX1_ask_5 : decode cX1_ask 5 = .ok (.iload 4, 2) := by decide +kernel
theorem dX1_ask_7 : decode cX1_ask 7 = .ok (.bipush 24, 2) := by decide +kernel
theorem dX1_ask_9 : decode cX1_ask 9 = .ok (.if_icmp .ge 47, 3) := by decide +kernel
theorem dX1_ask_12 : decode cX1_ask 12 = .ok (.iload_n 3, 1) := by decide +kernel
theorem dX1_ask_13 : decode cX1_ask 13 = .ok (.ifCond .eq 43, 3) := by decide +kernel
theorem dX1_ask_16 : decode cX1_ask 16 = .ok (.aload_n 0, 1) := by decide +kernel
theorem dX1_ask_17 : decode cX1_ask 17 = .ok (.iload_n 3, 1) := by decide +kernel
theorem dX1_ask_18 : decode cX1_ask 18 = .ok (.invokevirtual 120, 3) := by decide +kernel
theorem dX1_ask_21 : decode cX1_ask 21 = .ok (.istore 5, 2) := by decide +kernel
theorem dX1_ask_23 : decode cX1_ask 23 = .ok (.aload_n 0, 1) := by decide +kernel
theorem dX1_ask_24 : decode cX1_ask 24 = .ok (.iload_n 3, 1) := by decide +kernel
theorem dX1_ask_25 : decode cX1_ask 25 = .ok (.iload 5, 2) := by decide +kernel
theorem dX1_ask_27 : decode cX1_ask 27 = .ok (.invokevirtual 123, 3) := by decide +kernel
theorem dX1_ask_30 : decode cX1_ask 30 = .ok (.istore 6, 2) := by decide +kernel
theorem dX1_ask_32 : decode cX1_ask 32 = .ok (.aload_n 0, 1) := by decide +kernel
theorem dX1_ask_33 : decode cX1_ask 33 = .ok (.iload 6, 2) := by decide +kernel
theorem dX1_ask_35 : decode cX1_ask 35 = .ok (.iload 5, 2) := by decide +kernel
theorem dX1_ask_37 : decode cX1_ask 37 = .ok (.iload_n 2, 1) := by decide +kernel
theorem dX1_ask_38 : decode cX1_ask 38 = .ok (.iconst 1, 1) := by decide +kernel
theorem dX1_ask_39 : decode cX1_ask 39 = .ok (.iadd, 1) := by decide +kernel
theorem dX1_ask_40 : decode cX1_ask 40 = .ok (.invokevirtual 49, 3) := by decide +kernel
theorem dX1_ask_43 : decode cX1_ask 43 = .ok (.iload_n 3, 1) := by decide +kernel
theorem dX1_ask_44 : decode cX1_ask 44 = .ok (.iload 6, 2) := by decide +kernel
theorem dX1_ask_46 : decode cX1_ask 46 = .ok (.iconst (-1), 1) := by decide +kernel
theorem dX1_ask_47 : decode cX1_ask 47 = .ok (.ixor, 1) := by decide +kernel
theorem dX1_ask_48 : decode cX1_ask 48 = .ok (.iand, 1) := by decide +kernel
theorem dX1_ask_49 : decode cX1_ask 49 = .ok (.istore_n 3, 1) := by decide +kernel
theorem dX1_ask_50 : decode cX1_ask 50 = .ok (.iinc 4 1, 3) := by decide +kernel
theorem dX1_ask_53 : decode cX1_ask 53 = .ok (.goto (-48), 3) := by decide +kernel
theorem dX1_ask_56 : decode cX1_ask 56 = .ok (.iconst 0, 1) := by decide +kernel
theorem dX1_ask_57 : decode cX1_ask 57 = .ok (.istore 4, 2) := by decide +kernel
theorem dX1_ask_59 : decode cX1_ask 59 = .ok (.iload 4, 2) := by decide +kernel
theorem dX1_ask_61 : decode cX1_ask 61 = .ok (.aload_n 0, 1) := by decide +kernel
theorem dX1_ask_62 : decode cX1_ask 62 = .ok (.getfield 24, 3) := by decide +kernel
theorem dX1_ask_65 : decode cX1_ask 65 = .ok (.getfield 46, 3) := by decide +kernel
theorem dX1_ask_68 : decode cX1_ask 68 = .ok (.if_icmp .ge 38, 3) := by decide +kernel
theorem dX1_ask_71 : decode cX1_ask 71 = .ok (.iload_n 1, 1) := by decide +kernel
theorem dX1_ask_72 : decode cX1_ask 72 = .ok (.iload 4, 2) := by decide +kernel
theorem dX1_ask_74 : decode cX1_ask 74 = .ok (.invokestatic 110, 3) := by decide +kernel
theorem dX1_ask_77 : decode cX1_ask 77 = .ok (.ifCond .eq 23, 3) := by decide +kernel
theorem dX1_ask_80 : decode cX1_ask 80 = .ok (.aload_n 0, 1) := by decide +kernel
theorem dX1_ask_81 : decode cX1_ask 81 = .ok (.getfield 24, 3) := by decide +kernel
theorem dX1_ask_84 : decode cX1_ask 84 = .ok (.getfield 127, 3) := by decide +kernel
theorem dX1_ask_87 : decode cX1_ask 87 = .ok (.aload_n 0, 1) := by decide +kernel
theorem dX1_ask_88 : decode cX1_ask 88 = .ok (.getfield 21, 3) := by decide +kernel
theorem dX1_ask_91 : decode cX1_ask 91 = .ok (.iload 4, 2) := by decide +kernel
theorem dX1_ask_93 : decode cX1_ask 93 = .ok (.invokestatic 53, 3) := by decide +kernel
theorem dX1_ask_96 : decode cX1_ask 96 = .ok (.iload_n 2, 1) := by decide +kernel
theorem dX1_ask_97 : decode cX1_ask 97 = .ok (.invokestatic 60, 3) := by decide +kernel
theorem dX1_ask_100 : decode cX1_ask 100 = .ok (.iinc 4 1, 3) := by decide +kernel
theorem dX1_ask_103 : decode cX1_ask 103 = .ok (.goto (-44), 3) := by decide +kernel
theorem dX1_ask_106 : decode cX1_ask 106 = .ok (.return_, 1) := by decide +kernel
theorem dX1_lastConstructor_0 : decode cX1_lastConstructor 0 = .ok (.iconst (-1), 1) := by decide +kernel
theorem dX1_lastConstructor_1 : decode cX1_lastConstructor 1 = .ok (.istore_n 2, 1) := by decide +kernel
theorem dX1_lastConstructor_2 : decode cX1_lastConstructor 2 = .ok (.iconst 0, 1) := by decide +kernel
theorem dX1_lastConstructor_3 : decode cX1_lastConstructor 3 = .ok (.istore_n 3, 1) := by decide +kernel
theorem dX1_lastConstructor_4 : decode cX1_lastConstructor 4 = .ok (.iload_n 3, 1) := by decide +kernel
theorem dX1_lastConstructor_5 : decode cX1_lastConstructor 5 = .ok (.aload_n 0, 1) := by decide +kernel
theorem dX1_lastConstructor_6 : decode cX1_lastConstructor 6 = .ok (.getfield 24, 3) := by decide +kernel
theorem dX1_lastConstructor_9 : decode cX1_lastConstructor 9 = .ok (.getfield 46, 3) := by decide +kernel
theorem dX1_lastConstructor_12 : decode cX1_lastConstructor 12 = .ok (.if_icmp .ge 40, 3) := by decide +kernel
theorem dX1_lastConstructor_15 : decode cX1_lastConstructor 15 = .ok (.iload_n 1, 1) := by decide +kernel
theorem dX1_lastConstructor_16 : decode cX1_lastConstructor 16 = .ok (.iload_n 3, 1) := by decide +kernel
theorem dX1_lastConstructor_17 : decode cX1_lastConstructor 17 = .ok (.invokestatic 110, 3) := by decide +kernel
theorem dX1_lastConstructor_20 : decode cX1_lastConstructor 20 = .ok (.ifCond .eq 26, 3) := by decide +kernel
theorem dX1_lastConstructor_23 : decode cX1_lastConstructor 23 = .ok (.iload_n 2, 1) := by decide +kernel
theorem dX1_lastConstructor_24 : decode cX1_lastConstructor 24 = .ok (.aload_n 0, 1) := by decide +kernel
theorem dX1_lastConstructor_25 : decode cX1_lastConstructor 25 = .ok (.getfield 24, 3) := by decide +kernel
theorem dX1_lastConstructor_28 : decode cX1_lastConstructor 28 = .ok (.getfield 130, 3) := by decide +kernel
theorem dX1_lastConstructor_31 : decode cX1_lastConstructor 31 = .ok (.aload_n 0, 1) := by decide +kernel
theorem dX1_lastConstructor_32 : decode cX1_lastConstructor 32 = .ok (.getfield 21, 3) := by decide +kernel
theorem dX1_lastConstructor_35 : decode cX1_lastConstructor 35 = .ok (.iload_n 3, 1) := by decide +kernel
theorem dX1_lastConstructor_36 : decode cX1_lastConstructor 36 = .ok (.invokestatic 53, 3) := by decide +kernel
theorem dX1_lastConstructor_39 : decode cX1_lastConstructor 39 = .ok (.invokestatic 53, 3) := by decide +kernel
theorem dX1_lastConstructor_42 : decode cX1_lastConstructor 42 = .ok (.invokestatic 133, 3) := by decide +kernel
theorem dX1_lastConstructor_45 : decode cX1_lastConstructor 45 = .ok (.istore_n 2, 1) := by decide +kernel
theorem dX1_lastConstructor_46 : decode cX1_lastConstructor 46 = .ok (.iinc 3 1, 3) := by decide +kernel
theorem dX1_lastConstructor_49 : decode cX1_lastConstructor 49 = .ok (.goto (-45), 3) := by decide +kernel
theorem dX1_lastConstructor_52 : decode cX1_lastConstructor 52 = .ok (.iload_n 2, 1) := by decide +kernel
theorem dX1_lastConstructor_53 : decode cX1_lastConstructor 53 = .ok (.ireturn, 1) := by decide +kernel
theorem dX1_having_0 : decode cX1_having 0 = .ok (.iconst 0, 1) := by decide +kernel
theorem dX1_having_1 : decode cX1_having 1 = .ok (.istore_n 3, 1) := by decide +kernel
theorem dX1_having_2 : decode cX1_having 2 = .ok (.iconst 0, 1) := by decide +kernel
theorem dX1_having_3 : decode cX1_having 3 = .ok (.istore 4, 2) := by decide +kernel
theorem dX1_having_5 : decode cX1_having 5 = .ok (.iload 4, 2) := by decide +kernel
theorem dX1_having_7 : decode cX1_having 7 = .ok (.aload_n 0, 1) := by decide +kernel
theorem dX1_having_8 : decode cX1_having 8 = .ok (.getfield 24, 3) := by decide +kernel
theorem dX1_having_11 : decode cX1_having 11 = .ok (.getfield 46, 3) := by decide +kernel
theorem dX1_having_14 : decode cX1_having 14 = .ok (.if_icmp .ge 48, 3) := by decide +kernel
theorem dX1_having_17 : decode cX1_having 17 = .ok (.iload_n 1, 1) := by decide +kernel
theorem dX1_having_18 : decode cX1_having 18 = .ok (.iload 4, 2) := by decide +kernel
theorem dX1_having_20 : decode cX1_having 20 = .ok (.invokestatic 110, 3) := by decide +kernel
theorem dX1_having_23 : decode cX1_having 23 = .ok (.ifCond .eq 33, 3) := by decide +kernel
theorem dX1_having_26 : decode cX1_having 26 = .ok (.aload_n 0, 1) := by decide +kernel
theorem dX1_having_27 : decode cX1_having 27 = .ok (.getfield 24, 3) := by decide +kernel
theorem dX1_having_30 : decode cX1_having 30 = .ok (.getfield 130, 3) := by decide +kernel
theorem dX1_having_33 : decode cX1_having 33 = .ok (.aload_n 0, 1) := by decide +kernel
theorem dX1_having_34 : decode cX1_having 34 = .ok (.getfield 21, 3) := by decide +kernel
theorem dX1_having_37 : decode cX1_having 37 = .ok (.iload 4, 2) := by decide +kernel
theorem dX1_having_39 : decode cX1_having 39 = .ok (.invokestatic 53, 3) := by decide +kernel
theorem dX1_having_42 : decode cX1_having 42 = .ok (.invokestatic 53, 3) := by decide +kernel
theorem dX1_having_45 : decode cX1_having 45 = .ok (.iload_n 2, 1) := by decide +kernel
theorem dX1_having_46 : decode cX1_having 46 = .ok (.if_icmp .ne 10, 3) := by decide +kernel
theorem dX1_having_49 : decode cX1_having 49 = .ok (.iload_n 3, 1) := by decide +kernel
theorem dX1_having_50 : decode cX1_having 50 = .ok (.iconst 1, 1) := by decide +kernel
theorem dX1_having_51 : decode cX1_having 51 = .ok (.iload 4, 2) := by decide +kernel
theorem dX1_having_53 : decode cX1_having 53 = .ok (.ishl, 1) := by decide +kernel
theorem dX1_having_54 : decode cX1_having 54 = .ok (.ior, 1) := by decide +kernel
theorem dX1_having_55 : decode cX1_having 55 = .ok (.istore_n 3, 1) := by decide +kernel
theorem dX1_having_56 : decode cX1_having 56 = .ok (.iinc 4 1, 3) := by decide +kernel
theorem dX1_having_59 : decode cX1_having 59 = .ok (.goto (-54), 3) := by decide +kernel
theorem dX1_having_62 : decode cX1_having 62 = .ok (.iload_n 3, 1) := by decide +kernel
theorem dX1_having_63 : decode cX1_having 63 = .ok (.ireturn, 1) := by decide +kernel
theorem dX1_partByNeed_0 : decode cX1_partByNeed 0 = .ok (.iconst 0, 1) := by decide +kernel
theorem dX1_partByNeed_1 : decode cX1_partByNeed 1 = .ok (.istore 4, 2) := by decide +kernel
theorem dX1_partByNeed_3 : decode cX1_partByNeed 3 = .ok (.iconst 0, 1) := by decide +kernel
theorem dX1_partByNeed_4 : decode cX1_partByNeed 4 = .ok (.istore 5, 2) := by decide +kernel
theorem dX1_partByNeed_6 : decode cX1_partByNeed 6 = .ok (.aload_n 0, 1) := by decide +kernel
theorem dX1_partByNeed_7 : decode cX1_partByNeed 7 = .ok (.getfield 24, 3) := by decide +kernel
theorem dX1_partByNeed_10 : decode cX1_partByNeed 10 = .ok (.getfield 46, 3) := by decide +kernel
theorem dX1_partByNeed_13 : decode cX1_partByNeed 13 = .ok (.iconst 1, 1) := by decide +kernel
theorem dX1_partByNeed_14 : decode cX1_partByNeed 14 = .ok (.isub, 1) := by decide +kernel
theorem dX1_partByNeed_15 : decode cX1_partByNeed 15 = .ok (.istore 6, 2) := by decide +kernel
theorem dX1_partByNeed_17 : decode cX1_partByNeed 17 = .ok (.iload 6, 2) := by decide +kernel
theorem dX1_partByNeed_19 : decode cX1_partByNeed 19 = .ok (.ifCond .lt 67, 3) := by decide +kernel
theorem dX1_partByNeed_22 : decode cX1_partByNeed 22 = .ok (.iload_n 1, 1) := by decide +kernel
theorem dX1_partByNeed_23 : decode cX1_partByNeed 23 = .ok (.iload 6, 2) := by decide +kernel
theorem dX1_partByNeed_25 : decode cX1_partByNeed 25 = .ok (.invokestatic 110, 3) := by decide +kernel
theorem dX1_partByNeed_28 : decode cX1_partByNeed 28 = .ok (.ifCond .ne 6, 3) := by decide +kernel
theorem dX1_partByNeed_31 : decode cX1_partByNeed 31 = .ok (.goto 49, 3) := by decide +kernel
theorem dX1_partByNeed_34 : decode cX1_partByNeed 34 = .ok (.iload 4, 2) := by decide +kernel
theorem dX1_partByNeed_36 : decode cX1_partByNeed 36 = .ok (.ifCond .eq 27, 3) := by decide +kernel
theorem dX1_partByNeed_39 : decode cX1_partByNeed 39 = .ok (.iload_n 2, 1) := by decide +kernel
theorem dX1_partByNeed_40 : decode cX1_partByNeed 40 = .ok (.iload 6, 2) := by decide +kernel
theorem dX1_partByNeed_42 : decode cX1_partByNeed 42 = .ok (.invokestatic 110, 3) := by decide +kernel
theorem dX1_partByNeed_45 : decode cX1_partByNeed 45 = .ok (.iload 5, 2) := by decide +kernel
theorem dX1_partByNeed_47 : decode cX1_partByNeed 47 = .ok (.if_icmp .eq 16, 3) := by decide +kernel
theorem dX1_partByNeed_50 : decode cX1_partByNeed 50 = .ok (.aload_n 0, 1) := by decide +kernel
theorem dX1_partByNeed_51 : decode cX1_partByNeed 51 = .ok (.iload 4, 2) := by decide +kernel
theorem dX1_partByNeed_53 : decode cX1_partByNeed 53 = .ok (.iconst (-1), 1) := by decide +kernel
theorem dX1_partByNeed_54 : decode cX1_partByNeed 54 = .ok (.iload_n 3, 1) := by decide +kernel
theorem dX1_partByNeed_55 : decode cX1_partByNeed 55 = .ok (.iconst 1, 1) := by decide +kernel
theorem dX1_partByNeed_56 : decode cX1_partByNeed 56 = .ok (.iadd, 1) := by decide +kernel
theorem dX1_partByNeed_57 : decode cX1_partByNeed 57 = .ok (.invokevirtual 49, 3) := by decide +kernel
theorem dX1_partByNeed_60 : decode cX1_partByNeed 60 = .ok (.iconst 0, 1) := by decide +kernel
theorem dX1_partByNeed_61 : decode cX1_partByNeed 61 = .ok (.istore 4, 2) := by decide +kernel
theorem dX1_partByNeed_63 : decode cX1_partByNeed 63 = .ok (.iload 4, 2) := by decide +kernel
theorem dX1_partByNeed_65 : decode cX1_partByNeed 65 = .ok (.iconst 1, 1) := by decide +kernel
theorem dX1_partByNeed_66 : decode cX1_partByNeed 66 = .ok (.iload 6, 2) := by decide +kernel
theorem dX1_partByNeed_68 : decode cX1_partByNeed 68 = .ok (.ishl, 1) := by decide +kernel
theorem dX1_partByNeed_69 : decode cX1_partByNeed 69 = .ok (.ior, 1) := by decide +kernel
theorem dX1_partByNeed_70 : decode cX1_partByNeed 70 = .ok (.istore 4, 2) := by decide +kernel
theorem dX1_partByNeed_72 : decode cX1_partByNeed 72 = .ok (.iload_n 2, 1) := by decide +kernel
theorem dX1_partByNeed_73 : decode cX1_partByNeed 73 = .ok (.iload 6, 2) := by decide +kernel
theorem dX1_partByNeed_75 : decode cX1_partByNeed 75 = .ok (.invokestatic 110, 3) := by decide +kernel
theorem dX1_partByNeed_78 : decode cX1_partByNeed 78 = .ok (.istore 5, 2) := by decide +kernel
theorem dX1_partByNeed_80 : decode cX1_partByNeed 80 = .ok (.iinc 6 (-1), 3) := by decide +kernel
theorem dX1_partByNeed_83 : decode cX1_partByNeed 83 = .ok (.goto (-66), 3) := by decide +kernel
theorem dX1_partByNeed_86 : decode cX1_partByNeed 86 = .ok (.aload_n 0, 1) := by decide +kernel
theorem dX1_partByNeed_87 : decode cX1_partByNeed 87 = .ok (.iload 4, 2) := by decide +kernel
theorem dX1_partByNeed_89 : decode cX1_partByNeed 89 = .ok (.iconst (-1), 1) := by decide +kernel
theorem dX1_partByNeed_90 : decode cX1_partByNeed 90 = .ok (.iload_n 3, 1) := by decide +kernel
theorem dX1_partByNeed_91 : decode cX1_partByNeed 91 = .ok (.iconst 1, 1) := by decide +kernel
theorem dX1_partByNeed_92 : decode cX1_partByNeed 92 = .ok (.iadd, 1) := by decide +kernel
theorem dX1_partByNeed_93 : decode cX1_partByNeed 93 = .ok (.invokevirtual 49, 3) := by decide +kernel
theorem dX1_partByNeed_96 : decode cX1_partByNeed 96 = .ok (.return_, 1) := by decide +kernel
theorem dX1_partEach_0 : decode cX1_partEach 0 = .ok (.aload_n 0, 1) := by decide +kernel
theorem dX1_partEach_1 : decode cX1_partEach 1 = .ok (.getfield 24, 3) := by decide +kernel
theorem dX1_partEach_4 : decode cX1_partEach 4 = .ok (.getfield 46, 3) := by decide +kernel
theorem dX1_partEach_7 : decode cX1_partEach 7 = .ok (.iconst 1, 1) := by decide +kernel
theorem dX1_partEach_8 : decode cX1_partEach 8 = .ok (.isub, 1) := by decide +kernel
theorem dX1_partEach_9 : decode cX1_partEach 9 = .ok (.istore_n 3, 1) := by decide +kernel
theorem dX1_partEach_10 : decode cX1_partEach 10 = .ok (.iload_n 3, 1) := by decide +kernel
theorem dX1_partEach_11 : decode cX1_partEach 11 = .ok (.ifCond .lt 28, 3) := by decide +kernel
theorem dX1_partEach_14 : decode cX1_partEach 14 = .ok (.iload_n 1, 1) := by decide +kernel
theorem dX1_partEach_15 : decode cX1_partEach 15 = .ok (.iload_n 3, 1) := by decide +kernel
theorem dX1_partEach_16 : decode cX1_partEach 16 = .ok (.invokestatic 110, 3) := by decide +kernel
theorem dX1_partEach_19 : decode cX1_partEach 19 = .ok (.ifCond .eq 14, 3) := by decide +kernel
theorem dX1_partEach_22 : decode cX1_partEach 22 = .ok (.aload_n 0, 1) := by decide +kernel
theorem dX1_partEach_23 : decode cX1_partEach 23 = .ok (.iconst 1, 1) := by decide +kernel
theorem dX1_partEach_24 : decode cX1_partEach 24 = .ok (.iload_n 3, 1) := by decide +kernel
theorem dX1_partEach_25 : decode cX1_partEach 25 = .ok (.ishl, 1) := by decide +kernel
theorem dX1_partEach_26 : decode cX1_partEach 26 = .ok (.iconst (-1), 1) := by decide +kernel
theorem dX1_partEach_27 : decode cX1_partEach 27 = .ok (.iload_n 2, 1) := by decide +kernel
theorem dX1_partEach_28 : decode cX1_partEach 28 = .ok (.iconst 1, 1) := by decide +kernel
theorem dX1_partEach_29 : decode cX1_partEach 29 = .ok (.iadd, 1) := by decide +kernel
theorem dX1_partEach_30 : decode cX1_partEach 30 = .ok (.invokevirtual 49, 3) := by decide +kernel
theorem dX1_partEach_33 : decode cX1_partEach 33 = .ok (.iinc 3 (-1), 3) := by decide +kernel
theorem dX1_partEach_36 : decode cX1_partEach 36 = .ok (.goto (-26), 3) := by decide +kernel
theorem dX1_partEach_39 : decode cX1_partEach 39 = .ok (.return_, 1) := by decide +kernel
theorem dX1_firstOf_0 : decode cX1_firstOf 0 = .ok (.iload_n 0, 1) := by decide +kernel
theorem dX1_firstOf_1 : decode cX1_firstOf 1 = .ok (.iload_n 0, 1) := by decide +kernel
theorem dX1_firstOf_2 : decode cX1_firstOf 2 = .ok (.ineg, 1) := by decide +kernel
theorem dX1_firstOf_3 : decode cX1_firstOf 3 = .ok (.iand, 1) := by decide +kernel
theorem dX1_firstOf_4 : decode cX1_firstOf 4 = .ok (.iconst 1, 1) := by decide +kernel
theorem dX1_firstOf_5 : decode cX1_firstOf 5 = .ok (.isub, 1) := by decide +kernel
theorem dX1_firstOf_6 : decode cX1_firstOf 6 = .ok (.invokestatic 82, 3) := by decide +kernel
theorem dX1_firstOf_9 : decode cX1_firstOf 9 = .ok (.ireturn, 1) := by decide +kernel
