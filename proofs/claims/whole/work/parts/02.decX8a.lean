theorem dX8_init_0 : decode cX8_init 0 = .ok (.aload_n 0, 1) := by decide +kernel
theorem dX8_init_1 : decode cX8_init 1 = .ok (.invokespecial 3, 3) := by decide +kernel
theorem dX8_init_4 : decode cX8_init 4 = .ok (.aload_n 0, 1) := by decide +kernel
theorem dX8_init_5 : decode cX8_init 5 = .ok (.new 9, 3) := by decide +kernel
theorem dX8_init_8 : decode cX8_init 8 = .ok (.dup, 1) := by decide +kernel
theorem dX8_init_9 : decode cX8_init 9 = .ok (.invokespecial 11, 3) := by decide +kernel
theorem dX8_init_12 : decode cX8_init 12 = .ok (.putfield 12, 3) := by decide +kernel
theorem dX8_init_15 : decode cX8_init 15 = .ok (.aload_n 0, 1) := by decide +kernel
theorem dX8_init_16 : decode cX8_init 16 = .ok (.new 16, 3) := by decide +kernel
theorem dX8_init_19 : decode cX8_init 19 = .ok (.dup, 1) := by decide +kernel
theorem dX8_init_20 : decode cX8_init 20 = .ok (.invokespecial 18, 3) := by decide +kernel
theorem dX8_init_23 : decode cX8_init 23 = .ok (.putfield 19, 3) := by decide +kernel
theorem dX8_init_26 : decode cX8_init 26 = .ok (.aload_n 0, 1) := by decide +kernel
theorem dX8_init_27 : decode cX8_init 27 = .ok (.new 23, 3) := by decide +kernel
theorem dX8_init_30 : decode cX8_init 30 = .ok (.dup, 1) := by decide +kernel
theorem dX8_init_31 : decode cX8_init 31 = .ok (.invokespecial 25, 3) := by decide +kernel
theorem dX8_init_34 : decode cX8_init 34 = .ok (.putfield 26, 3) := by decide +kernel
theorem dX8_init_37 : decode cX8_init 37 = .ok (.aload_n 0, 1) := by decide +kernel
theorem dX8_init_38 : decode cX8_init 38 = .ok (.new 30, 3) := by decide +kernel
theorem dX8_init_41 : decode cX8_init 41 = .ok (.dup, 1) := by decide +kernel
theorem dX8_init_42 : decode cX8_init 42 = .ok (.invokespecial 32, 3) := by decide +kernel
theorem dX8_init_45 : decode cX8_init 45 = .ok (.putfield 33, 3) := by decide +kernel
theorem dX8_init_48 : decode cX8_init 48 = .ok (.aload_n 0, 1) := by decide +kernel
theorem dX8_init_49 : decode cX8_init 49 = .ok (.new 37, 3) := by decide +kernel
theorem dX8_init_52 : decode cX8_init 52 = .ok (.dup, 1) := by decide +kernel
theorem dX8_init_53 : decode cX8_init 53 = .ok (.aload_n 0, 1) := by decide +kernel
theorem dX8_init_54 : decode cX8_init 54 = .ok (.getfield 26, 3) := by decide +kernel
theorem dX8_init_57 : decode cX8_init 57 = .ok (.aload_n 0, 1) := by decide +kernel
theorem dX8_init_58 : decode cX8_init 58 = .ok (.getfield 33, 3) := by decide +kernel
theorem dX8_init_61 : decode cX8_init 61 = .ok (.invokespecial 39, 3) := by decide +kernel
theorem dX8_init_64 : decode cX8_init 64 = .ok (.putfield 42, 3) := by decide +kernel
theorem dX8_init_67 : decode cX8_init 67 = .ok (.aload_n 0, 1) := by decide +kernel
theorem dX8_init_68 : decode cX8_init 68 = .ok (.new 46, 3) := by decide +kernel
theorem dX8_init_71 : decode cX8_init 71 = .ok (.dup, 1) := by decide +kernel
theorem dX8_init_72 : decode cX8_init 72 = .ok (.aload_n 0, 1) := by decide +kernel
theorem dX8_init_73 : decode cX8_init 73 = .ok (.getfield 12, 3) := by decide +kernel
theorem dX8_init_76 : decode cX8_init 76 = .ok (.invokespecial 48, 3) := by decide +kernel
theorem dX8_init_79 : decode cX8_init 79 = .ok (.putfield 51, 3) := by decide +kernel
theorem dX8_init_82 : decode cX8_init 82 = .ok (.aload_n 0, 1) := by decide +kernel
theorem dX8_init_83 : decode cX8_init 83 = .ok (.new 55, 3) := by decide +kernel
theorem dX8_init_86 : decode cX8_init 86 = .ok (.dup, 1) := by decide +kernel
theorem dX8_init_87 : decode cX8_init 87 = .ok (.invokespecial 57, 3) := by decide +kernel
theorem dX8_init_90 : decode cX8_init 90 = .ok (.putfield 58, 3) := by decide +kernel
theorem dX8_init_93 : decode cX8_init 93 = .ok (.aload_n 0, 1) := by decide +kernel
theorem dX8_init_94 : decode cX8_init 94 = .ok (.new 62, 3) := by decide +kernel
theorem dX8_init_97 : decode cX8_init 97 = .ok (.dup, 1) := by decide +kernel
theorem dX8_init_98 : decode cX8_init 98 = .ok (.aload_n 0, 1) := by decide +kernel
theorem dX8_init_99 : decode cX8_init 99 = .ok (.getfield 26, 3) := by decide +kernel
theorem dX8_init_102 : decode cX8_init 102 = .ok (.aload_n 0, 1) := by decide +kernel
theorem dX8_init_103 : decode cX8_init 103 = .ok (.getfield 33, 3) := by decide +kernel
theorem dX8_init_106 : decode cX8_init 106 = .ok (.aload_n 0, 1) := by decide +kernel
theorem dX8_init_107 : decode cX8_init 107 = .ok (.getfield 51, 3) := by decide +kernel
theorem dX8_init_110 : decode cX8_init 110 = .ok (.aload_n 0, 1) := by decide +kernel
theorem dX8_init_111 : decode cX8_init 111 = .ok (.getfield 58, 3) := by decide +kernel
theorem dX8_init_114 : decode cX8_init 114 = .ok (.invokespecial 64, 3) := by decide +kernel
theorem dX8_init_117 : decode cX8_init 117 = .ok (.putfield 67, 3) := by decide +kernel
theorem dX8_init_120 : decode cX8_init 120 = .ok (.return_, 1) := by decide +kernel
theorem dX8_type_0 : decode cX8_type 0 = .ok (.aload_n 0, 1) := by decide +kernel
theorem dX8_type_1 : decode cX8_type 1 = .ok (.getfield 12, 3) := by decide +kernel
theorem dX8_type_4 : decode cX8_type 4 = .ok (.invokevirtual 71, 3) := by decide +kernel
theorem dX8_type_7 : decode cX8_type 7 = .ok (.ireturn, 1) := by decide +kernel
theorem dX8_constructor_0 : decode cX8_constructor 0 = .ok (.aload_n 0, 1) := by decide +kernel
theorem dX8_constructor_1 : decode cX8_constructor 1 = .ok (.getfield 12, 3) := by decide +kernel
theorem dX8_constructor_4 : decode cX8_constructor 4 = .ok (.iload_n 1, 1) := by decide +kernel
theorem dX8_constructor_5 : decode cX8_constructor 5 = .ok (.iload_n 2, 1) := by decide +kernel
theorem dX8_constructor_6 : decode cX8_constructor 6 = .ok (.iload_n 3, 1) := by decide +kernel
theorem dX8_constructor_7 : decode cX8_constructor 7 = .ok (.invokevirtual 75, 3) := by decide +kernel
theorem dX8_constructor_10 : decode cX8_constructor 10 = .ok (.istore 4, 2) := by decide +kernel
theorem dX8_constructor_12 : decode cX8_constructor 12 = .ok (.iload 4, 2) := by decide +kernel
theorem dX8_constructor_14 : decode cX8_constructor 14 = .ok (.iconst (-1), 1) := by decide +kernel
theorem dX8_constructor_15 : decode cX8_constructor 15 = .ok (.if_icmp .eq 10, 3) := by decide +kernel
theorem dX8_constructor_18 : decode cX8_constructor 18 = .ok (.aload_n 0, 1) := by decide +kernel
theorem dX8_constructor_19 : decode cX8_constructor 19 = .ok (.getfield 58, 3) := by decide +kernel
theorem dX8_constructor_22 : decode cX8_constructor 22 = .ok (.invokevirtual 79, 3) := by decide +kernel
theorem dX8_constructor_25 : decode cX8_constructor 25 = .ok (.iload 4, 2) := by decide +kernel
theorem dX8_constructor_27 : decode cX8_constructor 27 = .ok (.ireturn, 1) := by decide +kernel
theorem dX8_begin_0 : decode cX8_begin 0 = .ok (.aload_n 0, 1) := by decide +kernel
theorem dX8_begin_1 : decode cX8_begin 1 = .ok (.getfield 12, 3) := by decide +kernel
theorem dX8_begin_4 : decode cX8_begin 4 = .ok (.iload_n 1, 1) := by decide +kernel
theorem dX8_begin_5 : decode cX8_begin 5 = .ok (.iload_n 2, 1) := by decide +kernel
theorem dX8_begin_6 : decode cX8_begin 6 = .ok (.invokevirtual 82, 3) := by decide +kernel
theorem dX8_begin_9 : decode cX8_begin 9 = .ok (.ifCond .ne 5, 3) := by decide +kernel
theorem dX8_begin_12 : decode cX8_begin 12 = .ok (.iconst 0, 1) := by decide +kernel
theorem dX8_begin_13 : decode cX8_begin 13 = .ok (.ireturn, 1) := by decide +kernel
theorem dX8_begin_14 : decode cX8_begin 14 = .ok (.aload_n 0, 1) := by decide +kernel
theorem dX8_begin_15 : decode cX8_begin 15 = .ok (.getfield 26, 3) := by decide +kernel
theorem dX8_begin_18 : decode cX8_begin 18 = .ok (.invokevirtual 86, 3) := by decide +kernel
theorem dX8_begin_21 : decode cX8_begin 21 = .ok (.aload_n 0, 1) := by decide +kernel
theorem dX8_begin_22 : decode cX8_begin 22 = .ok (.iconst 1, 1) := by decide +kernel
theorem dX8_begin_23 : decode cX8_begin 23 = .ok (.putfield 87, 3) := by decide +kernel
theorem dX8_begin_26 : decode cX8_begin 26 = .ok (.aload_n 0, 1) := by decide +kernel
theorem dX8_begin_27 : decode cX8_begin 27 = .ok (.getfield 58, 3) := by decide +kernel
theorem dX8_begin_30 : decode cX8_begin 30 = .ok (.invokevirtual 79, 3) := by decide +kernel
theorem dX8_begin_33 : decode cX8_begin 33 = .ok (.iconst 1, 1) := by decide +kernel
theorem dX8_begin_34 : decode cX8_begin 34 = .ok (.ireturn, 1) := by decide +kernel
theorem dX8_put_0 : decode cX8_put 0 = .ok (.aload_n 0, 1) := by decide +kernel
theorem dX8_put_1 : decode cX8_put 1 = .ok (.getfield 19, 3) := by decide +kernel
theorem dX8_put_4 : decode cX8_put 4 = .ok (.iload_n 1, 1) := by decide +kernel
theorem dX8_put_5 : decode cX8_put 5 = .ok (.invokevirtual 91, 3) := by decide +kernel
theorem dX8_put_8 : decode cX8_put 8 = .ok (.ireturn, 1) := by decide +kernel
theorem dX8_rule_0 : decode cX8_rule 0 = .ok (.aload_n 0, 1) := by decide +kernel
theorem dX8_rule_1 : decode cX8_rule 1 = .ok (.getfield 19, 3) := by decide +kernel
theorem dX8_rule_4 : decode cX8_rule 4 = .ok (.invokevirtual 95, 3) := by decide +kernel
theorem dX8_rule_7 : decode cX8_rule 7 = .ok (.istore_n 1, 1) := by decide +kernel
theorem dX8_rule_8 : decode cX8_rule 8 = .ok (.aload_n 0, 1) := by decide +kernel
theorem dX8_rule_9 : decode cX8_rule 9 = .ok (.getfield 12, 3) := by decide +kernel
theorem dX8_rule_12 : decode cX8_rule 12 = .ok (.invokevirtual 98, 3) := by decide +kernel
theorem dX8_rule_15 : decode cX8_rule 15 = .ok (.ifCond .eq 14, 3) := by decide +kernel
theorem dX8_rule_18 : decode cX8_rule 18 = .ok (.aload_n 0, 1) := by decide +kernel
theorem dX8_rule_19 : decode cX8_rule 19 = .ok (.getfield 26, 3) := by decide +kernel
theorem dX8_rule_22 : decode cX8_rule 22 = .ok (.iload_n 1, 1) := by decide +kernel
theorem dX8_rule_23 : decode cX8_rule 23 = .ok (.invokevirtual 102, 3) := by decide +kernel
theorem dX8_rule_26 : decode cX8_rule 26 = .ok (.ifCond .ne 5, 3) := by decide +kernel
theorem dX8_rule_29 : decode cX8_rule 29 = .ok (.iconst (-1), 1) := by decide +kernel
theorem dX8_rule_30 : decode cX8_rule 30 = .ok (.ireturn, 1) := by decide +kernel
theorem dX8_rule_31 : decode cX8_rule 31 = .ok (.aload_n 0, 1) := by decide +kernel
theorem dX8_rule_32 : decode cX8_rule 32 = .ok (.getfield 19, 3) := by decide +kernel
theorem dX8_rule_35 : decode cX8_rule 35 = .ok (.iload_n 1, 1) := by decide +kernel
theorem dX8_rule_36 : decode cX8_rule 36 = .ok (.aload_n 0, 1) := by decide +kernel
theorem dX8_rule_37 : decode cX8_rule 37 = .ok (.getfield 12, 3) := by decide +kernel
theorem dX8_rule_40 : decode cX8_rule 40 = .ok (.iconst 0, 1) := by decide +kernel
theorem dX8_rule_41 : decode cX8_rule 41 = .ok (.invokevirtual 106, 3) := by decide +kernel
theorem dX8_rule_44 : decode cX8_rule 44 = .ok (.istore_n 2, 1) := by decide +kernel
theorem dX8_rule_45 : decode cX8_rule 45 = .ok (.iload_n 2, 1) := by decide +kernel
theorem dX8_rule_46 : decode cX8_rule 46 = .ok (.iconst (-1), 1) := by decide +kernel
theorem dX8_rule_47 : decode cX8_rule 47 = .ok (.if_icmp .eq 8, 3) := by decide +kernel
theorem dX8_rule_50 : decode cX8_rule 50 = .ok (.bipush (-2), 2) := by decide +kernel
theorem dX8_rule_52 : decode cX8_rule 52 = .ok (.iload_n 2, 1) := by decide +kernel
theorem dX8_rule_53 : decode cX8_rule 53 = .ok (.isub, 1) := by decide +kernel
theorem dX8_rule_54 : decode cX8_rule 54 = .ok (.ireturn, 1) := by decide +kernel
theorem dX8_rule_55 : decode cX8_rule 55 = .ok (.aload_n 0, 1) := by decide +kernel
theorem dX8_rule_56 : decode cX8_rule 56 = .ok (.getfield 26, 3) := by decide +kernel
theorem dX8_rule_59 : decode cX8_rule 59 = .ok (.aload_n 0, 1) := by decide +kernel
theorem dX8_rule_60 : decode cX8_rule 60 = .ok (.getfield 19, 3) := by decide +kernel
theorem dX8_rule_63 : decode cX8_rule 63 = .ok (.iload_n 1, 1) := by decide +kernel
theorem dX8_rule_64 : decode cX8_rule 64 = .ok (.invokevirtual 110, 3) := by decide +kernel
theorem dX8_rule_67 : decode cX8_rule 67 = .ok (.istore_n 3, 1) := by decide +kernel
theorem dX8_rule_68 : decode cX8_rule 68 = .ok (.aload_n 0, 1) := by decide +kernel
theorem dX8_rule_69 : decode cX8_rule 69 = .ok (.iconst 1, 1) := by decide +kernel
theorem dX8_rule_70 : decode cX8_rule 70 = .ok (.putfield 87, 3) := by decide +kernel
theorem dX8_rule_73 : decode cX8_rule 73 = .ok (.aload_n 0, 1) := by decide +kernel
theorem dX8_rule_74 : decode cX8_rule 74 = .ok (.getfield 58, 3) := by decide +kernel
theorem dX8_rule_77 : decode cX8_rule 77 = .ok (.invokevirtual 79, 3) := by decide +kernel
theorem dX8_rule_80 : decode cX8_rule 80 = .ok (.iload_n 3, 1) := by decide +kernel
theorem dX8_rule_81 : decode cX8_rule 81 = .ok (.ireturn, 1) := by decide +kernel
theorem dX8_lead_0 : decode cX8_lead 0 = .ok (.aload_n 0, 1) := by decide +kernel
theorem dX8_lead_1 : decode cX8_lead 1 = .ok (.getfield 19, 3) := by decide +kernel
theorem dX8_lead_4 : decode cX8_lead 4 = .ok (.invokevirtual 95, 3) := by decide +kernel
theorem dX8_lead_7 : decode cX8_lead 7 = .ok (.istore_n 1, 1) := by decide +kernel
theorem dX8_lead_8 : decode cX8_lead 8 = .ok (.aload_n 0, 1) := by decide +kernel
theorem dX8_lead_9 : decode cX8_lead 9 = .ok (.getfield 12, 3) := by decide +kernel
theorem dX8_lead_12 : decode cX8_lead 12 = .ok (.invokevirtual 98, 3) := by decide +kernel
theorem dX8_lead_15 : decode cX8_lead 15 = .ok (.ifCond .ne 5, 3) := by decide +kernel
theorem dX8_lead_18 : decode cX8_lead 18 = .ok (.iconst (-1), 1) := by decide +kernel
theorem dX8_lead_19 : decode cX8_lead 19 = .ok (.ireturn, 1) := by decide +kernel
theorem dX8_lead_20 : decode cX8_lead 20 = .ok (.aload_n 0, 1) := by decide +kernel
theorem dX8_lead_21 : decode cX8_lead 21 = .ok (.getfield 58, 3) := by decide +kernel
theorem dX8_lead_24 : decode cX8_lead 24 = .ok (.invokevirtual 79, 3) := by decide +kernel
theorem dX8_lead_27 : decode cX8_lead 27 = .ok (.aload_n 0, 1) := by decide +kernel
theorem dX8_lead_28 : decode cX8_lead 28 = .ok (.getfield 19, 3) := by decide +kernel
theorem dX8_lead_31 : decode cX8_lead 31 = .ok (.iload_n 1, 1) := by decide +kernel
theorem dX8_lead_32 : decode cX8_lead 32 = .ok (.aload_n 0, 1) := by decide +kernel
theorem dX8_lead_33 : decode cX8_lead 33 = .ok (.getfield 12, 3) := by decide +kernel
theorem dX8_lead_36 : decode cX8_lead 36 = .ok (.iconst 1, 1) := by decide +kernel
theorem dX8_lead_37 : decode cX8_lead 37 = .ok (.invokevirtual 106, 3) := by decide +kernel
theorem dX8_lead_40 : decode cX8_lead 40 = .ok (.istore_n 2, 1) := by decide +kernel
theorem dX8_lead_41 : decode cX8_lead 41 = .ok (.iload_n 2, 1) := by decide +kernel
theorem dX8_lead_42 : decode cX8_lead 42 = .ok (.iconst (-1), 1) := by decide +kernel
theorem dX8_lead_43 : decode cX8_lead 43 = .ok (.if_icmp .eq 8, 3) := by decide +kernel
theorem dX8_lead_46 : decode cX8_lead 46 = .ok (.bipush (-2), 2) := by decide +kernel
theorem dX8_lead_48 : decode cX8_lead 48 = .ok (.iload_n 2, 1) := by decide +kernel
theorem dX8_lead_49 : decode cX8_lead 49 = .ok (.isub, 1) := by decide +kernel
theorem dX8_lead_50 : decode cX8_lead 50 = .ok (.ireturn, 1) := by decide +kernel
theorem dX8_lead_51 : decode cX8_lead 51 = .ok (.aload_n 0, 1) := by decide +kernel
theorem dX8_lead_52 : decode cX8_lead 52 = .ok (.getfield 51, 3) := by decide +kernel
theorem dX8_lead_55 : decode cX8_lead 55 = .ok (.aload_n 0, 1) := by decide +kernel
theorem dX8_lead_56 : decode cX8_lead 56 = .ok (.getfield 19, 3) := by decide +kernel
theorem dX8_lead_59 : decode cX8_lead 59 = .ok (.iload_n 1, 1) := by decide +kernel
theorem dX8_lead_60 : decode cX8_lead 60 = .ok (.invokevirtual 113, 3) := by decide +kernel
theorem dX8_lead_63 : decode cX8_lead 63 = .ok (.aload_n 0, 1) := by decide +kernel
theorem dX8_lead_64 : decode cX8_lead 64 = .ok (.invokevirtual 117, 3) := by decide +kernel
theorem dX8_lead_67 : decode cX8_lead 67 = .ok (.aload_n 0, 1) := by decide +kernel
theorem dX8_lead_68 : decode cX8_lead 68 = .ok (.getfield 67, 3) := by decide +kernel
theorem dX8_lead_71 : decode cX8_lead 71 = .ok (.invokevirtual 120, 3) := by decide +kernel
theorem dX8_lead_74 : decode cX8_lead 74 = .ok (.ifCond .ne 14, 3) := by decide +kernel
theorem dX8_lead_77 : decode cX8_lead 77 = .ok (.aload_n 0, 1) := by decide +kernel
theorem dX8_lead_78 : decode cX8_lead 78 = .ok (.getfield 58, 3) := by decide +kernel
theorem dX8_lead_81 : decode cX8_lead 81 = .ok (.invokevirtual 79, 3) := by decide +kernel
theorem dX8_lead_84 : decode cX8_lead 84 = .ok (.sipush (-1000), 3) := by decide +kernel
theorem dX8_lead_87 : decode cX8_lead 87 = .ok (.ireturn, 1) := by decide +kernel
theorem dX8_lead_88 : decode cX8_lead 88 = .ok (.aload_n 0, 1) := by decide +kernel
theorem dX8_lead_89 : decode cX8_lead 89 = .ok (.getfield 58, 3) := by decide +kernel
theorem dX8_lead_92 : decode cX8_lead 92 = .ok (.getfield 123, 3) := by decide +kernel
theorem dX8_lead_95 : decode cX8_lead 95 = .ok (.ireturn, 1) := by decide +kernel
theorem dX8_outcome_0 : decode cX8_outcome 0 = .ok (.aload_n 0, 1) := by decide +kernel
theorem dX8_outcome_1 : decode cX8_outcome 1 = .ok (.getfield 58, 3) := by decide +kernel
theorem dX8_outcome_4 : decode cX8_outcome 4 = .ok (.iload_n 1, 1) := by decide +kernel
theorem dX8_outcome_5 : decode cX8_outcome 5 = .ok (.iload_n 2, 1) := by decide +kernel
theorem dX8_outcome_6 : decode cX8_outcome 6 = .ok (.invokevirtual 127, 3) := by decide +kernel
theorem dX8_outcome_9 : decode cX8_outcome 9 = .ok (.ireturn, 1) := by decide +kernel
theorem dX8_size_0 : decode cX8_size 0 = .ok (.aload_n 0, 1) := by decide +kernel
theorem dX8_size_1 : decode cX8_size 1 = .ok (.invokevirtual 117, 3) := by decide +kernel
theorem dX8_size_4 : decode cX8_size 4 = .ok (.aload_n 0, 1) := by decide +kernel
theorem dX8_size_5 : decode cX8_size 5 = .ok (.getfield 33, 3) := by decide +kernel
theorem dX8_size_8 : decode cX8_size 8 = .ok (.getfield 131, 3) := by decide +kernel
theorem dX8_size_11 : decode cX8_size 11 = .ok (.ireturn, 1) := by decide +kernel
theorem dX8_node_0 : decode cX8_node 0 = .ok (.aload_n 0, 1) := by decide +kernel
theorem dX8_node_1 : decode cX8_node 1 = .ok (.invokevirtual 117, 3) := by decide +kernel
theorem dX8_node_4 : decode cX8_node 4 = .ok (.aload_n 0, 1) := by decide +kernel
theorem dX8_node_5 : decode cX8_node 5 = .ok (.getfield 33, 3) := by decide +kernel
theorem dX8_node_8 : decode cX8_node 8 = .ok (.aload_n 0, 1) := by decide +kernel
theorem dX8_node_9 : decode cX8_node 9 = .ok (.getfield 26, 3) := by decide +kernel
theorem dX8_node_12 : decode cX8_node 12 = .ok (.iload_n 1, 1) := by decide +kernel
theorem dX8_node_13 : decode cX8_node 13 = .ok (.iload_n 2, 1) := by decide +kernel
theorem dX8_node_14 : decode cX8_node 14 = .ok (.invokevirtual 134, 3) := by decide +kernel
theorem dX8_node_17 : decode cX8_node 17 = .ok (.ireturn, 1) := by decide +kernel
theorem dX8_covers_0 : decode cX8_covers 0 = .ok (.aload_n 0, 1) := by decide +kernel
theorem dX8_covers_1 : decode cX8_covers 1 = .ok (.invokevirtual 117, 3) := by decide +kernel
theorem dX8_covers_4 : decode cX8_covers 4 = .ok (.aload_n 0, 1) := by decide +kernel
theorem dX8_covers_5 : decode cX8_covers 5 = .ok (.getfield 33, 3) := by decide +kernel
theorem dX8_covers_8 : decode cX8_covers 8 = .ok (.aload_n 0, 1) := by decide +kernel
theorem dX8_covers_9 : decode cX8_covers 9 = .ok (.getfield 26, 3) := by decide +kernel
theorem dX8_covers_12 : decode cX8_covers 12 = .ok (.aload_n 0, 1) := by decide +kernel
theorem dX8_covers_13 : decode cX8_covers 13 = .ok (.getfield 12, 3) := by decide +kernel
theorem dX8_covers_16 : decode cX8_covers 16 = .ok (.invokevirtual 137, 3) := by decide +kernel
theorem dX8_covers_19 : decode cX8_covers 19 = .ok (.ireturn, 1) := by decide +kernel
theorem dX8_clash_0 : decode cX8_clash 0 = .ok (.aload_n 0, 1) := by decide +kernel
theorem dX8_clash_1 : decode cX8_clash 1 = .ok (.getfield 26, 3) := by decide +kernel
theorem dX8_clash_4 : decode cX8_clash 4 = .ok (.iload_n 1, 1) := by decide +kernel
theorem dX8_clash_5 : decode cX8_clash 5 = .ok (.iload_n 2, 1) := by decide +kernel
theorem dX8_clash_6 : decode cX8_clash 6 = .ok (.invokevirtual 141, 3) := by decide +kernel
theorem dX8_clash_9 : decode cX8_clash 9 = .ok (.ireturn, 1) := by decide +kernel
theorem dX8_count_0 : decode cX8_count 0 = .ok (.aload_n 0, 1) := by decide +kernel
theorem dX8_count_1 : decode cX8_count 1 = .ok (.invokevirtual 117, 3) := by decide +kernel
theorem dX8_count_4 : decode cX8_count 4 = .ok (.iload_n 1, 1) := by decide +kernel
theorem dX8_count_5 : decode cX8_count 5 = .ok (.tableswitch 125 0 8 #[51, 59, 67, 75, 83, 91, 99, 108, 117], 51) := by decide +kernel
theorem dX8_count_56 : decode cX8_count 56 = .ok (.aload_n 0, 1) := by decide +kernel
theorem dX8_count_57 : decode cX8_count 57 = .ok (.getfield 12, 3) := by decide +kernel
theorem dX8_count_60 : decode cX8_count 60 = .ok (.getfield 144, 3) := by decide +kernel
theorem dX8_count_63 : decode cX8_count 63 = .ok (.ireturn, 1) := by decide +kernel
theorem dX8_count_64 : decode cX8_count 64 = .ok (.aload_n 0, 1) := by decide +kernel
theorem dX8_count_65 : decode cX8_count 65 = .ok (.getfield 12, 3) := by decide +kernel
theorem dX8_count_68 : decode cX8_count 68 = .ok (.getfield 147, 3) := by decide +kernel
theorem dX8_count_71 : decode cX8_count 71 = .ok (.ireturn, 1) := by decide +kernel
theorem dX8_count_72 : decode cX8_count 72 = .ok (.aload_n 0, 1) := by decide +kernel
theorem dX8_count_73 : decode cX8_count 73 = .ok (.getfield 26, 3) := by decide +kernel
theorem dX8_count_76 : decode cX8_count 76 = .ok (.getfield 150, 3) := by decide +kernel
theorem dX8_count_79 : decode cX8_count 79 = .ok (.ireturn, 1) := by decide +kernel
theorem dX8_count_80 : decode cX8_count 80 = .ok (.aload_n 0, 1) := by decide +kernel
theorem dX8_count_81 : decode cX8_count 81 = .ok (.getfield 12, 3) := by decide +kernel
theorem dX8_count_84 : decode cX8_count 84 = .ok (.getfield 151, 3) := by decide +kernel
theorem dX8_count_87 : decode cX8_count 87 = .ok (.ireturn, 1) := by decide +kernel
theorem dX8_count_88 : decode cX8_count 88 = .ok (.aload_n 0, 1) := by decide +kernel
theorem dX8_count_89 : decode cX8_count 89 = .ok (.getfield 19, 3) := by decide +kernel
theorem dX8_count_92 : decode cX8_count 92 = .ok (.getfield 154, 3) := by decide +kernel
theorem dX8_count_95 : decode cX8_count 95 = .ok (.ireturn, 1) := by decide +kernel
theorem dX8_count_96 : decode cX8_count 96 = .ok (.aload_n 0, 1) := by decide +kernel
theorem dX8_count_97 : decode cX8_count 97 = .ok (.getfield 58, 3) := by decide +kernel
theorem dX8_count_100 : decode cX8_count 100 = .ok (.getfield 123, 3) := by decide +kernel
theorem dX8_count_103 : decode cX8_count 103 = .ok (.ireturn, 1) := by decide +kernel
theorem dX8_count_104 : decode cX8_count 104 = .ok (.aload_n 0, 1) := by decide +kernel
theorem dX8_count_105 : decode cX8_count 105 = .ok (.getfield 33, 3) := by decide +kernel
theorem dX8_count_108 : decode cX8_count 108 = .ok (.iconst 2, 1) := by decide +kernel
theorem dX8_count_109 : decode cX8_count 109 = .ok (.invokevirtual 157, 3) := by decide +kernel
theorem dX8_count_112 : decode cX8_count 112 = .ok (.ireturn, 1) := by decide +kernel
theorem dX8_count_113 : decode cX8_count 113 = .ok (.aload_n 0, 1) := by decide +kernel
theorem dX8_count_114 : decode cX8_count 114 = .ok (.getfield 33, 3) := by decide +kernel
theorem dX8_count_117 : decode cX8_count 117 = .ok (.iconst 1, 1) := by decide +kernel
theorem dX8_count_118 : decode cX8_count 118 = .ok (.invokevirtual 157, 3) := by decide +kernel
theorem dX8_count_121 : decode cX8_count 121 = .ok (.ireturn, 1) := by decide +kernel
theorem dX8_count_122 : decode cX8_count 122 = .ok (.aload_n 0, 1) := by decide +kernel
theorem dX8_count_123 : decode cX8_count 123 = .ok (.getfield 33, 3) := by decide +kernel
theorem dX8_count_126 : decode cX8_count 126 = .ok (.invokevirtual 160, 3) := by decide +kernel
theorem dX8_count_129 : decode cX8_count 129 = .ok (.ireturn, 1) := by decide +kernel
theorem dX8_count_130 : decode cX8_count 130 = .ok (.bipush (-9), 2) := by decide +kernel
theorem dX8_count_132 : decode cX8_count 132 = .ok (.ireturn, 1) := by decide +kernel
theorem dX8_refreshTree_0 : decode cX8_refreshTree 0 = .ok (.aload_n 0, 1) := by decide +kernel
theorem dX8_refreshTree_1 : decode cX8_refreshTree 1 = .ok (.getfield 87, 3) := by decide +kernel
theorem dX8_refreshTree_4 : decode cX8_refreshTree 4 = .ok (.ifCond .eq 15, 3) := by decide +kernel
theorem dX8_refreshTree_7 : decode cX8_refreshTree 7 = .ok (.aload_n 0, 1) := by decide +kernel
theorem dX8_refreshTree_8 : decode cX8_refreshTree 8 = .ok (.getfield 42, 3) := by decide +kernel
theorem dX8_refreshTree_11 : decode cX8_refreshTree 11 = .ok (.invokevirtual 163, 3) := by decide +kernel
theorem dX8_refreshTree_14 : decode cX8_refreshTree 14 = .ok (.aload_n 0, 1) := by decide +kernel
theorem dX8_refreshTree_15 : decode cX8_refreshTree 15 = .ok (.iconst 0, 1) := by decide +kernel
theorem dX8_refreshTree_16 : decode cX8_refreshTree 16 = .ok (.putfield 87, 3) := by decide +kernel
theorem dX8_refreshTree_19 : decode cX8_refreshTree 19 = .ok (.return_, 1) := by decide +kernel
theorem dX8_get_0 : decode cX8_get 0 = .ok (.iload_n 1, 1) := by decide +kernel
theorem dX8_get_1 : decode cX8_get 1 = .ok (.ifCond .lt 15, 3) := by decide +kernel
theorem dX8_get_4 : decode cX8_get 4 = .ok (.iload_n 1, 1) := by decide +kernel
theorem dX8_get_5 : decode cX8_get 5 = .ok (.aload_n 0, 1) := by decide +kernel
theorem dX8_get_6 : decode cX8_get 6 = .ok (.arraylength, 1) := by decide +kernel
theorem dX8_get_7 : decode cX8_get 7 = .ok (.if_icmp .ge 9, 3) := by decide +kernel
theorem dX8_get_10 : decode cX8_get 10 = .ok (.aload_n 0, 1) := by decide +kernel
theorem dX8_get_11 : decode cX8_get 11 = .ok (.iload_n 1, 1) := by decide +kernel
theorem dX8_get_12 : decode cX8_get 12 = .ok (.iaload, 1) := by decide +kernel
theorem dX8_get_13 : decode cX8_get 13 = .ok (.goto 4, 3) := by decide +kernel
theorem dX8_get_16 : decode cX8_get 16 = .ok (.iconst (-1), 1) := by decide +kernel
theorem dX8_get_17 : decode cX8_get 17 = .ok (.ireturn, 1) := by decide +kernel
theorem dX8_set_0 : decode cX8_set 0 = .ok (.iload_n 1, 1) := by decide +kernel
theorem dX8_set_1 : decode cX8_set 1 = .ok (.ifCond .lt 13, 3) := by decide +kernel
theorem dX8_set_4 : decode cX8_set 4 = .ok (.iload_n 1, 1) := by decide +kernel
theorem dX8_set_5 : decode cX8_set 5 = .ok (.aload_n 0, 1) := by decide +kernel
theorem dX8_set_6 : decode cX8_set 6 = .ok (.arraylength, 1) := by decide +kernel
theorem dX8_set_7 : decode cX8_set 7 = .ok (.if_icmp .ge 7, 3) := by decide +kernel
theorem dX8_set_10 : decode cX8_set 10 = .ok (.aload_n 0, 1) := by decide +kernel
theorem dX8_set_11 : decode cX8_set 11 = .ok (.iload_n 1, 1) := by decide +kernel
theorem dX8_set_12 : decode cX8_set 12 = .ok (.iload_n 2, 1) := by decide +kernel
theorem dX8_set_13 : decode cX8_set 13 = .ok (.iastore, 1) := by decide +kernel
theorem dX8_set_14 : decode cX8_set 14 = .ok (.return_, 1) := by decide +kernel
theorem dX8_has_0 : decode cX8_has 0 = .ok (.iload_n 0, 1) := by decide +kernel
theorem dX8_has_1 : decode cX8_has 1 = .ok (.iload_n 1, 1) := by decide +kernel
theorem dX8_has_2 : decode cX8_has 2 = .ok (.ishr, 1) := by decide +kernel
theorem dX8_has_3 : decode cX8_has 3 = .ok (.iconst 1, 1) := by decide +kernel
theorem dX8_has_4 : decode cX8_has 4 = .ok (.iand, 1) := by decide +kernel
theorem dX8_has_5 : decode cX8_has 5 = .ok (.ifCond .eq 7, 3) := by decide +kernel
theorem dX8_has_8 : decode cX8_has 8 = .ok (.iconst 1, 1) := by decide +kernel
theorem dX8_has_9 : decode cX8_has 9 = .ok (.goto 4, 3) := by decide +kernel
theorem dX8_has_12 : decode cX8_has 12 = .ok (.iconst 0, 1) := by decide +kernel
theorem dX8_has_13 : decode cX8_has 13 = .ok (.ireturn, 1) := by decide +kernel
