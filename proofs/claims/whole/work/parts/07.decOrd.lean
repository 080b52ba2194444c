/-! decode rows of HeatOrder -/
theorem d_Ord_init_0 : decode c_Ord_init 0 = .ok (.aload_n 0, 1) := by decide +kernel
theorem d_Ord_init_1 : decode c_Ord_init 1 = .ok (.invokespecial 1, 3) := by decide +kernel
theorem d_Ord_init_4 : decode c_Ord_init 4 = .ok (.aload_n 0, 1) := by decide +kernel
theorem d_Ord_init_5 : decode c_Ord_init 5 = .ok (.new 7, 3) := by decide +kernel
theorem d_Ord_init_8 : decode c_Ord_init 8 = .ok (.dup, 1) := by decide +kernel
theorem d_Ord_init_9 : decode c_Ord_init 9 = .ok (.invokespecial 9, 3) := by decide +kernel
theorem d_Ord_init_12 : decode c_Ord_init 12 = .ok (.putfield 10, 3) := by decide +kernel
theorem d_Ord_init_15 : decode c_Ord_init 15 = .ok (.aload_n 0, 1) := by decide +kernel
theorem d_Ord_init_16 : decode c_Ord_init 16 = .ok (.new 16, 3) := by decide +kernel
theorem d_Ord_init_19 : decode c_Ord_init 19 = .ok (.dup, 1) := by decide +kernel
theorem d_Ord_init_20 : decode c_Ord_init 20 = .ok (.aload_n 0, 1) := by decide +kernel
theorem d_Ord_init_21 : decode c_Ord_init 21 = .ok (.getfield 10, 3) := by decide +kernel
theorem d_Ord_init_24 : decode c_Ord_init 24 = .ok (.invokespecial 18, 3) := by decide +kernel
theorem d_Ord_init_27 : decode c_Ord_init 27 = .ok (.putfield 21, 3) := by decide +kernel
theorem d_Ord_init_30 : decode c_Ord_init 30 = .ok (.aload_n 0, 1) := by decide +kernel
theorem d_Ord_init_31 : decode c_Ord_init 31 = .ok (.new 25, 3) := by decide +kernel
theorem d_Ord_init_34 : decode c_Ord_init 34 = .ok (.dup, 1) := by decide +kernel
theorem d_Ord_init_35 : decode c_Ord_init 35 = .ok (.aload_n 0, 1) := by decide +kernel
theorem d_Ord_init_36 : decode c_Ord_init 36 = .ok (.getfield 10, 3) := by decide +kernel
theorem d_Ord_init_39 : decode c_Ord_init 39 = .ok (.invokespecial 27, 3) := by decide +kernel
theorem d_Ord_init_42 : decode c_Ord_init 42 = .ok (.putfield 28, 3) := by decide +kernel
theorem d_Ord_init_45 : decode c_Ord_init 45 = .ok (.aload_n 0, 1) := by decide +kernel
theorem d_Ord_init_46 : decode c_Ord_init 46 = .ok (.iconst 0, 1) := by decide +kernel
theorem d_Ord_init_47 : decode c_Ord_init 47 = .ok (.putfield 32, 3) := by decide +kernel
theorem d_Ord_init_50 : decode c_Ord_init 50 = .ok (.aload_n 0, 1) := by decide +kernel
theorem d_Ord_init_51 : decode c_Ord_init 51 = .ok (.iconst 0, 1) := by decide +kernel
theorem d_Ord_init_52 : decode c_Ord_init 52 = .ok (.putfield 36, 3) := by decide +kernel
theorem d_Ord_init_55 : decode c_Ord_init 55 = .ok (.return_, 1) := by decide +kernel
theorem d_Ord_heat_0 : decode c_Ord_heat 0 = .ok (.aload_n 0, 1) := by decide +kernel
theorem d_Ord_heat_1 : decode c_Ord_heat 1 = .ok (.getfield 10, 3) := by decide +kernel
theorem d_Ord_heat_4 : decode c_Ord_heat 4 = .ok (.getfield 39, 3) := by decide +kernel
theorem d_Ord_heat_7 : decode c_Ord_heat 7 = .ok (.bipush 6, 2) := by decide +kernel
theorem d_Ord_heat_9 : decode c_Ord_heat 9 = .ok (.if_icmp .lt 13, 3) := by decide +kernel
theorem d_Ord_heat_12 : decode c_Ord_heat 12 = .ok (.new 43, 3) := by decide +kernel
theorem d_Ord_heat_15 : decode c_Ord_heat 15 = .ok (.dup, 1) := by decide +kernel
theorem d_Ord_heat_16 : decode c_Ord_heat 16 = .ok (.ldc 45, 2) := by decide +kernel
theorem d_Ord_heat_18 : decode c_Ord_heat 18 = .ok (.invokespecial 47, 3) := by decide +kernel
theorem d_Ord_heat_21 : decode c_Ord_heat 21 = .ok (.athrow, 1) := by decide +kernel
theorem d_Ord_heat_22 : decode c_Ord_heat 22 = .ok (.iload_n 1, 1) := by decide +kernel
theorem d_Ord_heat_23 : decode c_Ord_heat 23 = .ok (.iconst 0, 1) := by decide +kernel
theorem d_Ord_heat_24 : decode c_Ord_heat 24 = .ok (.iconst 5, 1) := by decide +kernel
theorem d_Ord_heat_25 : decode c_Ord_heat 25 = .ok (.invokestatic 50, 3) := by decide +kernel
theorem d_Ord_heat_28 : decode c_Ord_heat 28 = .ok (.ifCond .eq 19, 3) := by decide +kernel
theorem d_Ord_heat_31 : decode c_Ord_heat 31 = .ok (.iload_n 2, 1) := by decide +kernel
theorem d_Ord_heat_32 : decode c_Ord_heat 32 = .ok (.bipush 100, 2) := by decide +kernel
theorem d_Ord_heat_34 : decode c_Ord_heat 34 = .ok (.sipush 2000, 3) := by decide +kernel
theorem d_Ord_heat_37 : decode c_Ord_heat 37 = .ok (.invokestatic 50, 3) := by decide +kernel
theorem d_Ord_heat_40 : decode c_Ord_heat 40 = .ok (.ifCond .eq 7, 3) := by decide +kernel
theorem d_Ord_heat_43 : decode c_Ord_heat 43 = .ok (.iconst 1, 1) := by decide +kernel
theorem d_Ord_heat_44 : decode c_Ord_heat 44 = .ok (.goto 4, 3) := by decide +kernel
theorem d_Ord_heat_47 : decode c_Ord_heat 47 = .ok (.iconst 0, 1) := by decide +kernel
theorem d_Ord_heat_48 : decode c_Ord_heat 48 = .ok (.istore 7, 2) := by decide +kernel
theorem d_Ord_heat_50 : decode c_Ord_heat 50 = .ok (.iload_n 3, 1) := by decide +kernel
theorem d_Ord_heat_51 : decode c_Ord_heat 51 = .ok (.iconst 1, 1) := by decide +kernel
theorem d_Ord_heat_52 : decode c_Ord_heat 52 = .ok (.sipush 500, 3) := by decide +kernel
theorem d_Ord_heat_55 : decode c_Ord_heat 55 = .ok (.invokestatic 50, 3) := by decide +kernel
theorem d_Ord_heat_58 : decode c_Ord_heat 58 = .ok (.ifCond .eq 27, 3) := by decide +kernel
theorem d_Ord_heat_61 : decode c_Ord_heat 61 = .ok (.iload 4, 2) := by decide +kernel
theorem d_Ord_heat_63 : decode c_Ord_heat 63 = .ok (.iconst 1, 1) := by decide +kernel
theorem d_Ord_heat_64 : decode c_Ord_heat 64 = .ok (.sipush 500, 3) := by decide +kernel
theorem d_Ord_heat_67 : decode c_Ord_heat 67 = .ok (.invokestatic 50, 3) := by decide +kernel
theorem d_Ord_heat_70 : decode c_Ord_heat 70 = .ok (.ifCond .eq 15, 3) := by decide +kernel
theorem d_Ord_heat_73 : decode c_Ord_heat 73 = .ok (.iload 5, 2) := by decide +kernel
theorem d_Ord_heat_75 : decode c_Ord_heat 75 = .ok (.invokestatic 54, 3) := by decide +kernel
theorem d_Ord_heat_78 : decode c_Ord_heat 78 = .ok (.ifCond .eq 7, 3) := by decide +kernel
theorem d_Ord_heat_81 : decode c_Ord_heat 81 = .ok (.iconst 1, 1) := by decide +kernel
theorem d_Ord_heat_82 : decode c_Ord_heat 82 = .ok (.goto 4, 3) := by decide +kernel
theorem d_Ord_heat_85 : decode c_Ord_heat 85 = .ok (.iconst 0, 1) := by decide +kernel
theorem d_Ord_heat_86 : decode c_Ord_heat 86 = .ok (.istore 8, 2) := by decide +kernel
theorem d_Ord_heat_88 : decode c_Ord_heat 88 = .ok (.iload 7, 2) := by decide +kernel
theorem d_Ord_heat_90 : decode c_Ord_heat 90 = .ok (.ifCond .eq 18, 3) := by decide +kernel
theorem d_Ord_heat_93 : decode c_Ord_heat 93 = .ok (.iload 8, 2) := by decide +kernel
theorem d_Ord_heat_95 : decode c_Ord_heat 95 = .ok (.ifCond .eq 13, 3) := by decide +kernel
theorem d_Ord_heat_98 : decode c_Ord_heat 98 = .ok (.iload 6, 2) := by decide +kernel
theorem d_Ord_heat_100 : decode c_Ord_heat 100 = .ok (.iconst 1, 1) := by decide +kernel
theorem d_Ord_heat_101 : decode c_Ord_heat 101 = .ok (.iconst 3, 1) := by decide +kernel
theorem d_Ord_heat_102 : decode c_Ord_heat 102 = .ok (.invokestatic 50, 3) := by decide +kernel
theorem d_Ord_heat_105 : decode c_Ord_heat 105 = .ok (.ifCond .ne 13, 3) := by decide +kernel
theorem d_Ord_heat_108 : decode c_Ord_heat 108 = .ok (.new 58, 3) := by decide +kernel
theorem d_Ord_heat_111 : decode c_Ord_heat 111 = .ok (.dup, 1) := by decide +kernel
theorem d_Ord_heat_112 : decode c_Ord_heat 112 = .ok (.ldc 60, 2) := by decide +kernel
theorem d_Ord_heat_114 : decode c_Ord_heat 114 = .ok (.invokespecial 62, 3) := by decide +kernel
theorem d_Ord_heat_117 : decode c_Ord_heat 117 = .ok (.athrow, 1) := by decide +kernel
theorem d_Ord_heat_118 : decode c_Ord_heat 118 = .ok (.aload_n 0, 1) := by decide +kernel
theorem d_Ord_heat_119 : decode c_Ord_heat 119 = .ok (.invokevirtual 63, 3) := by decide +kernel
theorem d_Ord_heat_122 : decode c_Ord_heat 122 = .ok (.aload_n 0, 1) := by decide +kernel
theorem d_Ord_heat_123 : decode c_Ord_heat 123 = .ok (.getfield 10, 3) := by decide +kernel
theorem d_Ord_heat_126 : decode c_Ord_heat 126 = .ok (.iload_n 1, 1) := by decide +kernel
theorem d_Ord_heat_127 : decode c_Ord_heat 127 = .ok (.iload_n 2, 1) := by decide +kernel
theorem d_Ord_heat_128 : decode c_Ord_heat 128 = .ok (.iload_n 3, 1) := by decide +kernel
theorem d_Ord_heat_129 : decode c_Ord_heat 129 = .ok (.iload 4, 2) := by decide +kernel
theorem d_Ord_heat_131 : decode c_Ord_heat 131 = .ok (.iload 5, 2) := by decide +kernel
theorem d_Ord_heat_133 : decode c_Ord_heat 133 = .ok (.iload 6, 2) := by decide +kernel
theorem d_Ord_heat_135 : decode c_Ord_heat 135 = .ok (.invokevirtual 66, 3) := by decide +kernel
theorem d_Ord_heat_138 : decode c_Ord_heat 138 = .ok (.ireturn, 1) := by decide +kernel
theorem d_Ord_due_0 : decode c_Ord_due 0 = .ok (.iload_n 1, 1) := by decide +kernel
theorem d_Ord_due_1 : decode c_Ord_due 1 = .ok (.iconst 0, 1) := by decide +kernel
theorem d_Ord_due_2 : decode c_Ord_due 2 = .ok (.aload_n 0, 1) := by decide +kernel
theorem d_Ord_due_3 : decode c_Ord_due 3 = .ok (.getfield 10, 3) := by decide +kernel
theorem d_Ord_due_6 : decode c_Ord_due 6 = .ok (.getfield 39, 3) := by decide +kernel
theorem d_Ord_due_9 : decode c_Ord_due 9 = .ok (.iconst 1, 1) := by decide +kernel
theorem d_Ord_due_10 : decode c_Ord_due 10 = .ok (.isub, 1) := by decide +kernel
theorem d_Ord_due_11 : decode c_Ord_due 11 = .ok (.invokestatic 50, 3) := by decide +kernel
theorem d_Ord_due_14 : decode c_Ord_due 14 = .ok (.ifCond .ne 13, 3) := by decide +kernel
theorem d_Ord_due_17 : decode c_Ord_due 17 = .ok (.new 70, 3) := by decide +kernel
theorem d_Ord_due_20 : decode c_Ord_due 20 = .ok (.dup, 1) := by decide +kernel
theorem d_Ord_due_21 : decode c_Ord_due 21 = .ok (.ldc 72, 2) := by decide +kernel
theorem d_Ord_due_23 : decode c_Ord_due 23 = .ok (.invokespecial 74, 3) := by decide +kernel
theorem d_Ord_due_26 : decode c_Ord_due 26 = .ok (.athrow, 1) := by decide +kernel
theorem d_Ord_due_27 : decode c_Ord_due 27 = .ok (.iload_n 2, 1) := by decide +kernel
theorem d_Ord_due_28 : decode c_Ord_due 28 = .ok (.invokestatic 54, 3) := by decide +kernel
theorem d_Ord_due_31 : decode c_Ord_due 31 = .ok (.ifCond .ne 13, 3) := by decide +kernel
theorem d_Ord_due_34 : decode c_Ord_due 34 = .ok (.new 58, 3) := by decide +kernel
theorem d_Ord_due_37 : decode c_Ord_due 37 = .ok (.dup, 1) := by decide +kernel
theorem d_Ord_due_38 : decode c_Ord_due 38 = .ok (.ldc 75, 2) := by decide +kernel
theorem d_Ord_due_40 : decode c_Ord_due 40 = .ok (.invokespecial 62, 3) := by decide +kernel
theorem d_Ord_due_43 : decode c_Ord_due 43 = .ok (.athrow, 1) := by decide +kernel
theorem d_Ord_due_44 : decode c_Ord_due 44 = .ok (.aload_n 0, 1) := by decide +kernel
theorem d_Ord_due_45 : decode c_Ord_due 45 = .ok (.invokevirtual 63, 3) := by decide +kernel
theorem d_Ord_due_48 : decode c_Ord_due 48 = .ok (.aload_n 0, 1) := by decide +kernel
theorem d_Ord_due_49 : decode c_Ord_due 49 = .ok (.getfield 10, 3) := by decide +kernel
theorem d_Ord_due_52 : decode c_Ord_due 52 = .ok (.getfield 77, 3) := by decide +kernel
theorem d_Ord_due_55 : decode c_Ord_due 55 = .ok (.iload_n 1, 1) := by decide +kernel
theorem d_Ord_due_56 : decode c_Ord_due 56 = .ok (.iload_n 2, 1) := by decide +kernel
theorem d_Ord_due_57 : decode c_Ord_due 57 = .ok (.iastore, 1) := by decide +kernel
theorem d_Ord_due_58 : decode c_Ord_due 58 = .ok (.return_, 1) := by decide +kernel
theorem d_Ord_rules_0 : decode c_Ord_rules 0 = .ok (.iload_n 1, 1) := by decide +kernel
theorem d_Ord_rules_1 : decode c_Ord_rules 1 = .ok (.iconst 0, 1) := by decide +kernel
theorem d_Ord_rules_2 : decode c_Ord_rules 2 = .ok (.sipush 1000, 3) := by decide +kernel
theorem d_Ord_rules_5 : decode c_Ord_rules 5 = .ok (.invokestatic 50, 3) := by decide +kernel
theorem d_Ord_rules_8 : decode c_Ord_rules 8 = .ok (.ifCond .eq 29, 3) := by decide +kernel
theorem d_Ord_rules_11 : decode c_Ord_rules 11 = .ok (.iload_n 2, 1) := by decide +kernel
theorem d_Ord_rules_12 : decode c_Ord_rules 12 = .ok (.iconst 0, 1) := by decide +kernel
theorem d_Ord_rules_13 : decode c_Ord_rules 13 = .ok (.sipush 500, 3) := by decide +kernel
theorem d_Ord_rules_16 : decode c_Ord_rules 16 = .ok (.invokestatic 50, 3) := by decide +kernel
theorem d_Ord_rules_19 : decode c_Ord_rules 19 = .ok (.ifCond .eq 18, 3) := by decide +kernel
theorem d_Ord_rules_22 : decode c_Ord_rules 22 = .ok (.iload_n 3, 1) := by decide +kernel
theorem d_Ord_rules_23 : decode c_Ord_rules 23 = .ok (.iconst 0, 1) := by decide +kernel
theorem d_Ord_rules_24 : decode c_Ord_rules 24 = .ok (.sipush 500, 3) := by decide +kernel
theorem d_Ord_rules_27 : decode c_Ord_rules 27 = .ok (.invokestatic 50, 3) := by decide +kernel
theorem d_Ord_rules_30 : decode c_Ord_rules 30 = .ok (.ifCond .eq 7, 3) := by decide +kernel
theorem d_Ord_rules_33 : decode c_Ord_rules 33 = .ok (.iconst 1, 1) := by decide +kernel
theorem d_Ord_rules_34 : decode c_Ord_rules 34 = .ok (.goto 4, 3) := by decide +kernel
theorem d_Ord_rules_37 : decode c_Ord_rules 37 = .ok (.iconst 0, 1) := by decide +kernel
theorem d_Ord_rules_38 : decode c_Ord_rules 38 = .ok (.istore 6, 2) := by decide +kernel
theorem d_Ord_rules_40 : decode c_Ord_rules 40 = .ok (.iload 6, 2) := by decide +kernel
theorem d_Ord_rules_42 : decode c_Ord_rules 42 = .ok (.ifCond .eq 26, 3) := by decide +kernel
theorem d_Ord_rules_45 : decode c_Ord_rules 45 = .ok (.iload 4, 2) := by decide +kernel
theorem d_Ord_rules_47 : decode c_Ord_rules 47 = .ok (.iconst 1, 1) := by decide +kernel
theorem d_Ord_rules_48 : decode c_Ord_rules 48 = .ok (.bipush 20, 2) := by decide +kernel
theorem d_Ord_rules_50 : decode c_Ord_rules 50 = .ok (.invokestatic 50, 3) := by decide +kernel
theorem d_Ord_rules_53 : decode c_Ord_rules 53 = .ok (.ifCond .eq 15, 3) := by decide +kernel
theorem d_Ord_rules_56 : decode c_Ord_rules 56 = .ok (.iload 5, 2) := by decide +kernel
theorem d_Ord_rules_58 : decode c_Ord_rules 58 = .ok (.iconst 0, 1) := by decide +kernel
theorem d_Ord_rules_59 : decode c_Ord_rules 59 = .ok (.sipush 2000, 3) := by decide +kernel
theorem d_Ord_rules_62 : decode c_Ord_rules 62 = .ok (.invokestatic 50, 3) := by decide +kernel
theorem d_Ord_rules_65 : decode c_Ord_rules 65 = .ok (.ifCond .ne 13, 3) := by decide +kernel
theorem d_Ord_rules_68 : decode c_Ord_rules 68 = .ok (.new 58, 3) := by decide +kernel
theorem d_Ord_rules_71 : decode c_Ord_rules 71 = .ok (.dup, 1) := by decide +kernel
theorem d_Ord_rules_72 : decode c_Ord_rules 72 = .ok (.ldc 81, 2) := by decide +kernel
theorem d_Ord_rules_74 : decode c_Ord_rules 74 = .ok (.invokespecial 62, 3) := by decide +kernel
theorem d_Ord_rules_77 : decode c_Ord_rules 77 = .ok (.athrow, 1) := by decide +kernel
theorem d_Ord_rules_78 : decode c_Ord_rules 78 = .ok (.aload_n 0, 1) := by decide +kernel
theorem d_Ord_rules_79 : decode c_Ord_rules 79 = .ok (.invokevirtual 63, 3) := by decide +kernel
theorem d_Ord_rules_82 : decode c_Ord_rules 82 = .ok (.aload_n 0, 1) := by decide +kernel
theorem d_Ord_rules_83 : decode c_Ord_rules 83 = .ok (.getfield 10, 3) := by decide +kernel
theorem d_Ord_rules_86 : decode c_Ord_rules 86 = .ok (.iload_n 1, 1) := by decide +kernel
theorem d_Ord_rules_87 : decode c_Ord_rules 87 = .ok (.putfield 83, 3) := by decide +kernel
theorem d_Ord_rules_90 : decode c_Ord_rules 90 = .ok (.aload_n 0, 1) := by decide +kernel
theorem d_Ord_rules_91 : decode c_Ord_rules 91 = .ok (.getfield 10, 3) := by decide +kernel
theorem d_Ord_rules_94 : decode c_Ord_rules 94 = .ok (.iload_n 2, 1) := by decide +kernel
theorem d_Ord_rules_95 : decode c_Ord_rules 95 = .ok (.putfield 86, 3) := by decide +kernel
theorem d_Ord_rules_98 : decode c_Ord_rules 98 = .ok (.aload_n 0, 1) := by decide +kernel
theorem d_Ord_rules_99 : decode c_Ord_rules 99 = .ok (.getfield 10, 3) := by decide +kernel
theorem d_Ord_rules_102 : decode c_Ord_rules 102 = .ok (.iload_n 3, 1) := by decide +kernel
theorem d_Ord_rules_103 : decode c_Ord_rules 103 = .ok (.putfield 89, 3) := by decide +kernel
theorem d_Ord_rules_106 : decode c_Ord_rules 106 = .ok (.aload_n 0, 1) := by decide +kernel
theorem d_Ord_rules_107 : decode c_Ord_rules 107 = .ok (.getfield 10, 3) := by decide +kernel
theorem d_Ord_rules_110 : decode c_Ord_rules 110 = .ok (.iload 4, 2) := by decide +kernel
theorem d_Ord_rules_112 : decode c_Ord_rules 112 = .ok (.putfield 92, 3) := by decide +kernel
theorem d_Ord_rules_115 : decode c_Ord_rules 115 = .ok (.aload_n 0, 1) := by decide +kernel
theorem d_Ord_rules_116 : decode c_Ord_rules 116 = .ok (.getfield 10, 3) := by decide +kernel
theorem d_Ord_rules_119 : decode c_Ord_rules 119 = .ok (.iload 5, 2) := by decide +kernel
theorem d_Ord_rules_121 : decode c_Ord_rules 121 = .ok (.putfield 95, 3) := by decide +kernel
theorem d_Ord_rules_124 : decode c_Ord_rules 124 = .ok (.return_, 1) := by decide +kernel
theorem d_Ord_costs_0 : decode c_Ord_costs 0 = .ok (.iload_n 1, 1) := by decide +kernel
theorem d_Ord_costs_1 : decode c_Ord_costs 1 = .ok (.iconst 0, 1) := by decide +kernel
theorem d_Ord_costs_2 : decode c_Ord_costs 2 = .ok (.ldc 98, 2) := by decide +kernel
theorem d_Ord_costs_4 : decode c_Ord_costs 4 = .ok (.invokestatic 50, 3) := by decide +kernel
theorem d_Ord_costs_7 : decode c_Ord_costs 7 = .ok (.ifCond .eq 14, 3) := by decide +kernel
theorem d_Ord_costs_10 : decode c_Ord_costs 10 = .ok (.iload_n 2, 1) := by decide +kernel
theorem d_Ord_costs_11 : decode c_Ord_costs 11 = .ok (.iconst 0, 1) := by decide +kernel
theorem d_Ord_costs_12 : decode c_Ord_costs 12 = .ok (.sipush 1000, 3) := by decide +kernel
theorem d_Ord_costs_15 : decode c_Ord_costs 15 = .ok (.invokestatic 50, 3) := by decide +kernel
theorem d_Ord_costs_18 : decode c_Ord_costs 18 = .ok (.ifCond .ne 13, 3) := by decide +kernel
theorem d_Ord_costs_21 : decode c_Ord_costs 21 = .ok (.new 58, 3) := by decide +kernel
theorem d_Ord_costs_24 : decode c_Ord_costs 24 = .ok (.dup, 1) := by decide +kernel
theorem d_Ord_costs_25 : decode c_Ord_costs 25 = .ok (.ldc 99, 2) := by decide +kernel
theorem d_Ord_costs_27 : decode c_Ord_costs 27 = .ok (.invokespecial 62, 3) := by decide +kernel
theorem d_Ord_costs_30 : decode c_Ord_costs 30 = .ok (.athrow, 1) := by decide +kernel
theorem d_Ord_costs_31 : decode c_Ord_costs 31 = .ok (.aload_n 0, 1) := by decide +kernel
theorem d_Ord_costs_32 : decode c_Ord_costs 32 = .ok (.invokevirtual 63, 3) := by decide +kernel
theorem d_Ord_costs_35 : decode c_Ord_costs 35 = .ok (.aload_n 0, 1) := by decide +kernel
theorem d_Ord_costs_36 : decode c_Ord_costs 36 = .ok (.getfield 10, 3) := by decide +kernel
theorem d_Ord_costs_39 : decode c_Ord_costs 39 = .ok (.iload_n 1, 1) := by decide +kernel
theorem d_Ord_costs_40 : decode c_Ord_costs 40 = .ok (.putfield 101, 3) := by decide +kernel
theorem d_Ord_costs_43 : decode c_Ord_costs 43 = .ok (.aload_n 0, 1) := by decide +kernel
theorem d_Ord_costs_44 : decode c_Ord_costs 44 = .ok (.getfield 10, 3) := by decide +kernel
theorem d_Ord_costs_47 : decode c_Ord_costs 47 = .ok (.iload_n 2, 1) := by decide +kernel
theorem d_Ord_costs_48 : decode c_Ord_costs 48 = .ok (.putfield 104, 3) := by decide +kernel
theorem d_Ord_costs_51 : decode c_Ord_costs 51 = .ok (.return_, 1) := by decide +kernel
theorem d_Ord_move_0 : decode c_Ord_move 0 = .ok (.iload_n 1, 1) := by decide +kernel
theorem d_Ord_move_1 : decode c_Ord_move 1 = .ok (.iconst 0, 1) := by decide +kernel
theorem d_Ord_move_2 : decode c_Ord_move 2 = .ok (.iconst 5, 1) := by decide +kernel
theorem d_Ord_move_3 : decode c_Ord_move 3 = .ok (.invokestatic 50, 3) := by decide +kernel
theorem d_Ord_move_6 : decode c_Ord_move 6 = .ok (.ifCond .eq 12, 3) := by decide +kernel
theorem d_Ord_move_9 : decode c_Ord_move 9 = .ok (.iload_n 2, 1) := by decide +kernel
theorem d_Ord_move_10 : decode c_Ord_move 10 = .ok (.iconst 0, 1) := by decide +kernel
theorem d_Ord_move_11 : decode c_Ord_move 11 = .ok (.iconst 5, 1) := by decide +kernel
theorem d_Ord_move_12 : decode c_Ord_move 12 = .ok (.invokestatic 50, 3) := by decide +kernel
theorem d_Ord_move_15 : decode c_Ord_move 15 = .ok (.ifCond .ne 13, 3) := by decide +kernel
theorem d_Ord_move_18 : decode c_Ord_move 18 = .ok (.new 70, 3) := by decide +kernel
theorem d_Ord_move_21 : decode c_Ord_move 21 = .ok (.dup, 1) := by decide +kernel
theorem d_Ord_move_22 : decode c_Ord_move 22 = .ok (.ldc 107, 2) := by decide +kernel
theorem d_Ord_move_24 : decode c_Ord_move 24 = .ok (.invokespecial 74, 3) := by decide +kernel
theorem d_Ord_move_27 : decode c_Ord_move 27 = .ok (.athrow, 1) := by decide +kernel
theorem d_Ord_move_28 : decode c_Ord_move 28 = .ok (.iload_n 3, 1) := by decide +kernel
theorem d_Ord_move_29 : decode c_Ord_move 29 = .ok (.iconst (-1), 1) := by decide +kernel
theorem d_Ord_move_30 : decode c_Ord_move 30 = .ok (.if_icmp .eq 24, 3) := by decide +kernel
theorem d_Ord_move_33 : decode c_Ord_move 33 = .ok (.iload_n 3, 1) := by decide +kernel
theorem d_Ord_move_34 : decode c_Ord_move 34 = .ok (.iconst 0, 1) := by decide +kernel
theorem d_Ord_move_35 : decode c_Ord_move 35 = .ok (.sipush 10000, 3) := by decide +kernel
theorem d_Ord_move_38 : decode c_Ord_move 38 = .ok (.invokestatic 50, 3) := by decide +kernel
theorem d_Ord_move_41 : decode c_Ord_move 41 = .ok (.ifCond .ne 13, 3) := by decide +kernel
theorem d_Ord_move_44 : decode c_Ord_move 44 = .ok (.new 58, 3) := by decide +kernel
theorem d_Ord_move_47 : decode c_Ord_move 47 = .ok (.dup, 1) := by decide +kernel
theorem d_Ord_move_48 : decode c_Ord_move 48 = .ok (.ldc 109, 2) := by decide +kernel
theorem d_Ord_move_50 : decode c_Ord_move 50 = .ok (.invokespecial 62, 3) := by decide +kernel
theorem d_Ord_move_53 : decode c_Ord_move 53 = .ok (.athrow, 1) := by decide +kernel
theorem d_Ord_move_54 : decode c_Ord_move 54 = .ok (.aload_n 0, 1) := by decide +kernel
theorem d_Ord_move_55 : decode c_Ord_move 55 = .ok (.invokevirtual 63, 3) := by decide +kernel
theorem d_Ord_move_58 : decode c_Ord_move 58 = .ok (.aload_n 0, 1) := by decide +kernel
theorem d_Ord_move_59 : decode c_Ord_move 59 = .ok (.getfield 10, 3) := by decide +kernel
theorem d_Ord_move_62 : decode c_Ord_move 62 = .ok (.getfield 111, 3) := by decide +kernel
theorem d_Ord_move_65 : decode c_Ord_move 65 = .ok (.iload_n 1, 1) := by decide +kernel
theorem d_Ord_move_66 : decode c_Ord_move 66 = .ok (.bipush 6, 2) := by decide +kernel
theorem d_Ord_move_68 : decode c_Ord_move 68 = .ok (.imul, 1) := by decide +kernel
theorem d_Ord_move_69 : decode c_Ord_move 69 = .ok (.iload_n 2, 1) := by decide +kernel
theorem d_Ord_move_70 : decode c_Ord_move 70 = .ok (.iadd, 1) := by decide +kernel
theorem d_Ord_move_71 : decode c_Ord_move 71 = .ok (.iload_n 3, 1) := by decide +kernel
theorem d_Ord_move_72 : decode c_Ord_move 72 = .ok (.iastore, 1) := by decide +kernel
theorem d_Ord_move_73 : decode c_Ord_move 73 = .ok (.return_, 1) := by decide +kernel
theorem d_Ord_run_0 : decode c_Ord_run 0 = .ok (.iload_n 1, 1) := by decide +kernel
theorem d_Ord_run_1 : decode c_Ord_run 1 = .ok (.iconst 0, 1) := by decide +kernel
theorem d_Ord_run_2 : decode c_Ord_run 2 = .ok (.ldc 98, 2) := by decide +kernel
theorem d_Ord_run_4 : decode c_Ord_run 4 = .ok (.invokestatic 50, 3) := by decide +kernel
theorem d_Ord_run_7 : decode c_Ord_run 7 = .ok (.ifCond .ne 13, 3) := by decide +kernel
theorem d_Ord_run_10 : decode c_Ord_run 10 = .ok (.new 58, 3) := by decide +kernel
theorem d_Ord_run_13 : decode c_Ord_run 13 = .ok (.dup, 1) := by decide +kernel
theorem d_Ord_run_14 : decode c_Ord_run 14 = .ok (.ldc 114, 2) := by decide +kernel
theorem d_Ord_run_16 : decode c_Ord_run 16 = .ok (.invokespecial 62, 3) := by decide +kernel
theorem d_Ord_run_19 : decode c_Ord_run 19 = .ok (.athrow, 1) := by decide +kernel
theorem d_Ord_run_20 : decode c_Ord_run 20 = .ok (.aload_n 0, 1) := by decide +kernel
theorem d_Ord_run_21 : decode c_Ord_run 21 = .ok (.getfield 21, 3) := by decide +kernel
theorem d_Ord_run_24 : decode c_Ord_run 24 = .ok (.iload_n 1, 1) := by decide +kernel
theorem d_Ord_run_25 : decode c_Ord_run 25 = .ok (.invokevirtual 116, 3) := by decide +kernel
theorem d_Ord_run_28 : decode c_Ord_run 28 = .ok (.aload_n 0, 1) := by decide +kernel
theorem d_Ord_run_29 : decode c_Ord_run 29 = .ok (.iconst 1, 1) := by decide +kernel
theorem d_Ord_run_30 : decode c_Ord_run 30 = .ok (.putfield 36, 3) := by decide +kernel
theorem d_Ord_run_33 : decode c_Ord_run 33 = .ok (.aload_n 0, 1) := by decide +kernel
theorem d_Ord_run_34 : decode c_Ord_run 34 = .ok (.aload_n 0, 1) := by decide +kernel
theorem d_Ord_run_35 : decode c_Ord_run 35 = .ok (.getfield 21, 3) := by decide +kernel
theorem d_Ord_run_38 : decode c_Ord_run 38 = .ok (.getfield 120, 3) := by decide +kernel
theorem d_Ord_run_41 : decode c_Ord_run 41 = .ok (.ifCond .eq 31, 3) := by decide +kernel
theorem d_Ord_run_44 : decode c_Ord_run 44 = .ok (.aload_n 0, 1) := by decide +kernel
theorem d_Ord_run_45 : decode c_Ord_run 45 = .ok (.getfield 28, 3) := by decide +kernel
theorem d_Ord_run_48 : decode c_Ord_run 48 = .ok (.aload_n 0, 1) := by decide +kernel
theorem d_Ord_run_49 : decode c_Ord_run 49 = .ok (.getfield 21, 3) := by decide +kernel
theorem d_Ord_run_52 : decode c_Ord_run 52 = .ok (.getfield 123, 3) := by decide +kernel
theorem d_Ord_run_55 : decode c_Ord_run 55 = .ok (.aload_n 0, 1) := by decide +kernel
theorem d_Ord_run_56 : decode c_Ord_run 56 = .ok (.getfield 10, 3) := by decide +kernel
theorem d_Ord_run_59 : decode c_Ord_run 59 = .ok (.getfield 39, 3) := by decide +kernel
theorem d_Ord_run_62 : decode c_Ord_run 62 = .ok (.invokevirtual 126, 3) := by decide +kernel
theorem d_Ord_run_65 : decode c_Ord_run 65 = .ok (.ifCond .eq 7, 3) := by decide +kernel
theorem d_Ord_run_68 : decode c_Ord_run 68 = .ok (.iconst 1, 1) := by decide +kernel
theorem d_Ord_run_69 : decode c_Ord_run 69 = .ok (.goto 4, 3) := by decide +kernel
theorem d_Ord_run_72 : decode c_Ord_run 72 = .ok (.iconst 0, 1) := by decide +kernel
theorem d_Ord_run_73 : decode c_Ord_run 73 = .ok (.putfield 32, 3) := by decide +kernel
theorem d_Ord_run_76 : decode c_Ord_run 76 = .ok (.aload_n 0, 1) := by decide +kernel
theorem d_Ord_run_77 : decode c_Ord_run 77 = .ok (.getfield 32, 3) := by decide +kernel
theorem d_Ord_run_80 : decode c_Ord_run 80 = .ok (.ifCond .eq 20, 3) := by decide +kernel
theorem d_Ord_run_83 : decode c_Ord_run 83 = .ok (.aload_n 0, 1) := by decide +kernel
theorem d_Ord_run_84 : decode c_Ord_run 84 = .ok (.getfield 28, 3) := by decide +kernel
theorem d_Ord_run_87 : decode c_Ord_run 87 = .ok (.aload_n 0, 1) := by decide +kernel
theorem d_Ord_run_88 : decode c_Ord_run 88 = .ok (.getfield 10, 3) := by decide +kernel
theorem d_Ord_run_91 : decode c_Ord_run 91 = .ok (.getfield 39, 3) := by decide +kernel
theorem d_Ord_run_94 : decode c_Ord_run 94 = .ok (.invokevirtual 130, 3) := by decide +kernel
theorem d_Ord_run_97 : decode c_Ord_run 97 = .ok (.goto 4, 3) := by decide +kernel
theorem d_Ord_run_100 : decode c_Ord_run 100 = .ok (.iconst (-1), 1) := by decide +kernel
theorem d_Ord_run_101 : decode c_Ord_run 101 = .ok (.ireturn, 1) := by decide +kernel
theorem d_Ord_planned_0 : decode c_Ord_planned 0 = .ok (.iload_n 1, 1) := by decide +kernel
theorem d_Ord_planned_1 : decode c_Ord_planned 1 = .ok (.iconst 0, 1) := by decide +kernel
theorem d_Ord_planned_2 : decode c_Ord_planned 2 = .ok (.iconst 1, 1) := by decide +kernel
theorem d_Ord_planned_3 : decode c_Ord_planned 3 = .ok (.invokestatic 50, 3) := by decide +kernel
theorem d_Ord_planned_6 : decode c_Ord_planned 6 = .ok (.ifCond .ne 13, 3) := by decide +kernel
theorem d_Ord_planned_9 : decode c_Ord_planned 9 = .ok (.new 70, 3) := by decide +kernel
theorem d_Ord_planned_12 : decode c_Ord_planned 12 = .ok (.dup, 1) := by decide +kernel
theorem d_Ord_planned_13 : decode c_Ord_planned 13 = .ok (.ldc 134, 2) := by decide +kernel
theorem d_Ord_planned_15 : decode c_Ord_planned 15 = .ok (.invokespecial 74, 3) := by decide +kernel
theorem d_Ord_planned_18 : decode c_Ord_planned 18 = .ok (.athrow, 1) := by decide +kernel
theorem d_Ord_planned_19 : decode c_Ord_planned 19 = .ok (.aload_n 0, 1) := by decide +kernel
theorem d_Ord_planned_20 : decode c_Ord_planned 20 = .ok (.getfield 36, 3) := by decide +kernel
theorem d_Ord_planned_23 : decode c_Ord_planned 23 = .ok (.ifCond .ne 13, 3) := by decide +kernel
theorem d_Ord_planned_26 : decode c_Ord_planned 26 = .ok (.new 43, 3) := by decide +kernel
theorem d_Ord_planned_29 : decode c_Ord_planned 29 = .ok (.dup, 1) := by decide +kernel
theorem d_Ord_planned_30 : decode c_Ord_planned 30 = .ok (.ldc 136, 2) := by decide +kernel
theorem d_Ord_planned_32 : decode c_Ord_planned 32 = .ok (.invokespecial 47, 3) := by decide +kernel
theorem d_Ord_planned_35 : decode c_Ord_planned 35 = .ok (.athrow, 1) := by decide +kernel
theorem d_Ord_planned_36 : decode c_Ord_planned 36 = .ok (.iload_n 1, 1) := by decide +kernel
theorem d_Ord_planned_37 : decode c_Ord_planned 37 = .ok (.ifCond .ne 19, 3) := by decide +kernel
theorem d_Ord_planned_40 : decode c_Ord_planned 40 = .ok (.aload_n 0, 1) := by decide +kernel
theorem d_Ord_planned_41 : decode c_Ord_planned 41 = .ok (.getfield 21, 3) := by decide +kernel
theorem d_Ord_planned_44 : decode c_Ord_planned 44 = .ok (.getfield 138, 3) := by decide +kernel
theorem d_Ord_planned_47 : decode c_Ord_planned 47 = .ok (.ifCond .eq 7, 3) := by decide +kernel
theorem d_Ord_planned_50 : decode c_Ord_planned 50 = .ok (.iconst 0, 1) := by decide +kernel
theorem d_Ord_planned_51 : decode c_Ord_planned 51 = .ok (.goto 4, 3) := by decide +kernel
theorem d_Ord_planned_54 : decode c_Ord_planned 54 = .ok (.iconst 1, 1) := by decide +kernel
theorem d_Ord_planned_55 : decode c_Ord_planned 55 = .ok (.ireturn, 1) := by decide +kernel
theorem d_Ord_planned_56 : decode c_Ord_planned 56 = .ok (.aload_n 0, 1) := by decide +kernel
theorem d_Ord_planned_57 : decode c_Ord_planned 57 = .ok (.getfield 21, 3) := by decide +kernel
theorem d_Ord_planned_60 : decode c_Ord_planned 60 = .ok (.getfield 141, 3) := by decide +kernel
theorem d_Ord_planned_63 : decode c_Ord_planned 63 = .ok (.ireturn, 1) := by decide +kernel
theorem d_Ord_step_0 : decode c_Ord_step 0 = .ok (.aload_n 0, 1) := by decide +kernel
theorem d_Ord_step_1 : decode c_Ord_step 1 = .ok (.getfield 32, 3) := by decide +kernel
theorem d_Ord_step_4 : decode c_Ord_step 4 = .ok (.ifCond .ne 13, 3) := by decide +kernel
theorem d_Ord_step_7 : decode c_Ord_step 7 = .ok (.new 43, 3) := by decide +kernel
theorem d_Ord_step_10 : decode c_Ord_step 10 = .ok (.dup, 1) := by decide +kernel
theorem d_Ord_step_11 : decode c_Ord_step 11 = .ok (.ldc 144, 2) := by decide +kernel
theorem d_Ord_step_13 : decode c_Ord_step 13 = .ok (.invokespecial 47, 3) := by decide +kernel
theorem d_Ord_step_16 : decode c_Ord_step 16 = .ok (.athrow, 1) := by decide +kernel
theorem d_Ord_step_17 : decode c_Ord_step 17 = .ok (.iload_n 1, 1) := by decide +kernel
theorem d_Ord_step_18 : decode c_Ord_step 18 = .ok (.iconst 0, 1) := by decide +kernel
theorem d_Ord_step_19 : decode c_Ord_step 19 = .ok (.aload_n 0, 1) := by decide +kernel
theorem d_Ord_step_20 : decode c_Ord_step 20 = .ok (.getfield 10, 3) := by decide +kernel
theorem d_Ord_step_23 : decode c_Ord_step 23 = .ok (.getfield 39, 3) := by decide +kernel
theorem d_Ord_step_26 : decode c_Ord_step 26 = .ok (.iconst 1, 1) := by decide +kernel
theorem d_Ord_step_27 : decode c_Ord_step 27 = .ok (.isub, 1) := by decide +kernel
theorem d_Ord_step_28 : decode c_Ord_step 28 = .ok (.invokestatic 50, 3) := by decide +kernel
theorem d_Ord_step_31 : decode c_Ord_step 31 = .ok (.ifCond .eq 13, 3) := by decide +kernel
theorem d_Ord_step_34 : decode c_Ord_step 34 = .ok (.iload_n 2, 1) := by decide +kernel
theorem d_Ord_step_35 : decode c_Ord_step 35 = .ok (.iconst 0, 1) := by decide +kernel
theorem d_Ord_step_36 : decode c_Ord_step 36 = .ok (.bipush 6, 2) := by decide +kernel
theorem d_Ord_step_38 : decode c_Ord_step 38 = .ok (.invokestatic 50, 3) := by decide +kernel
theorem d_Ord_step_41 : decode c_Ord_step 41 = .ok (.ifCond .ne 13, 3) := by decide +kernel
theorem d_Ord_step_44 : decode c_Ord_step 44 = .ok (.new 70, 3) := by decide +kernel
theorem d_Ord_step_47 : decode c_Ord_step 47 = .ok (.dup, 1) := by decide +kernel
theorem d_Ord_step_48 : decode c_Ord_step 48 = .ok (.ldc 146, 2) := by decide +kernel
theorem d_Ord_step_50 : decode c_Ord_step 50 = .ok (.invokespecial 74, 3) := by decide +kernel
theorem d_Ord_step_53 : decode c_Ord_step 53 = .ok (.athrow, 1) := by decide +kernel
theorem d_Ord_step_54 : decode c_Ord_step 54 = .ok (.iload_n 2, 1) := by decide +kernel
theorem d_Ord_step_55 : decode c_Ord_step 55 = .ok (.tableswitch 97 0 5 #[37, 47, 57, 67, 77, 87], 37) := by decide +kernel
theorem d_Ord_step_92 : decode c_Ord_step 92 = .ok (.aload_n 0, 1) := by decide +kernel
theorem d_Ord_step_93 : decode c_Ord_step 93 = .ok (.getfield 28, 3) := by decide +kernel
theorem d_Ord_step_96 : decode c_Ord_step 96 = .ok (.getfield 148, 3) := by decide +kernel
theorem d_Ord_step_99 : decode c_Ord_step 99 = .ok (.iload_n 1, 1) := by decide +kernel
theorem d_Ord_step_100 : decode c_Ord_step 100 = .ok (.iaload, 1) := by decide +kernel
theorem d_Ord_step_101 : decode c_Ord_step 101 = .ok (.ireturn, 1) := by decide +kernel
theorem d_Ord_step_102 : decode c_Ord_step 102 = .ok (.aload_n 0, 1) := by decide +kernel
theorem d_Ord_step_103 : decode c_Ord_step 103 = .ok (.getfield 28, 3) := by decide +kernel
theorem d_Ord_step_106 : decode c_Ord_step 106 = .ok (.getfield 151, 3) := by decide +kernel
theorem d_Ord_step_109 : decode c_Ord_step 109 = .ok (.iload_n 1, 1) := by decide +kernel
theorem d_Ord_step_110 : decode c_Ord_step 110 = .ok (.iaload, 1) := by decide +kernel
theorem d_Ord_step_111 : decode c_Ord_step 111 = .ok (.ireturn, 1) := by decide +kernel
theorem d_Ord_step_112 : decode c_Ord_step 112 = .ok (.aload_n 0, 1) := by decide +kernel
theorem d_Ord_step_113 : decode c_Ord_step 113 = .ok (.getfield 28, 3) := by decide +kernel
theorem d_Ord_step_116 : decode c_Ord_step 116 = .ok (.getfield 154, 3) := by decide +kernel
theorem d_Ord_step_119 : decode c_Ord_step 119 = .ok (.iload_n 1, 1) := by decide +kernel
theorem d_Ord_step_120 : decode c_Ord_step 120 = .ok (.iaload, 1) := by decide +kernel
theorem d_Ord_step_121 : decode c_Ord_step 121 = .ok (.ireturn, 1) := by decide +kernel
theorem d_Ord_step_122 : decode c_Ord_step 122 = .ok (.aload_n 0, 1) := by decide +kernel
theorem d_Ord_step_123 : decode c_Ord_step 123 = .ok (.getfield 28, 3) := by decide +kernel
theorem d_Ord_step_126 : decode c_Ord_step 126 = .ok (.getfield 157, 3) := by decide +kernel
theorem d_Ord_step_129 : decode c_Ord_step 129 = .ok (.iload_n 1, 1) := by decide +kernel
theorem d_Ord_step_130 : decode c_Ord_step 130 = .ok (.iaload, 1) := by decide +kernel
theorem d_Ord_step_131 : decode c_Ord_step 131 = .ok (.ireturn, 1) := by decide +kernel
theorem d_Ord_step_132 : decode c_Ord_step 132 = .ok (.aload_n 0, 1) := by decide +kernel
theorem d_Ord_step_133 : decode c_Ord_step 133 = .ok (.getfield 28, 3) := by decide +kernel
theorem d_Ord_step_136 : decode c_Ord_step 136 = .ok (.getfield 160, 3) := by decide +kernel
theorem d_Ord_step_139 : decode c_Ord_step 139 = .ok (.iload_n 1, 1) := by decide +kernel
theorem d_Ord_step_140 : decode c_Ord_step 140 = .ok (.iaload, 1) := by decide +kernel
theorem d_Ord_step_141 : decode c_Ord_step 141 = .ok (.ireturn, 1) := by decide +kernel
theorem d_Ord_step_142 : decode c_Ord_step 142 = .ok (.aload_n 0, 1) := by decide +kernel
theorem d_Ord_step_143 : decode c_Ord_step 143 = .ok (.getfield 28, 3) := by decide +kernel
theorem d_Ord_step_146 : decode c_Ord_step 146 = .ok (.getfield 163, 3) := by decide +kernel
theorem d_Ord_step_149 : decode c_Ord_step 149 = .ok (.iload_n 1, 1) := by decide +kernel
theorem d_Ord_step_150 : decode c_Ord_step 150 = .ok (.iaload, 1) := by decide +kernel
theorem d_Ord_step_151 : decode c_Ord_step 151 = .ok (.ireturn, 1) := by decide +kernel
theorem d_Ord_step_152 : decode c_Ord_step 152 = .ok (.aload_n 0, 1) := by decide +kernel
theorem d_Ord_step_153 : decode c_Ord_step 153 = .ok (.getfield 28, 3) := by decide +kernel
theorem d_Ord_step_156 : decode c_Ord_step 156 = .ok (.getfield 166, 3) := by decide +kernel
theorem d_Ord_step_159 : decode c_Ord_step 159 = .ok (.iload_n 1, 1) := by decide +kernel
theorem d_Ord_step_160 : decode c_Ord_step 160 = .ok (.iaload, 1) := by decide +kernel
theorem d_Ord_step_161 : decode c_Ord_step 161 = .ok (.ireturn, 1) := by decide +kernel
theorem d_Ord_told_0 : decode c_Ord_told 0 = .ok (.iload_n 1, 1) := by decide +kernel
theorem d_Ord_told_1 : decode c_Ord_told 1 = .ok (.iconst 0, 1) := by decide +kernel
theorem d_Ord_told_2 : decode c_Ord_told 2 = .ok (.iconst 3, 1) := by decide +kernel
theorem d_Ord_told_3 : decode c_Ord_told 3 = .ok (.invokestatic 50, 3) := by decide +kernel
theorem d_Ord_told_6 : decode c_Ord_told 6 = .ok (.ifCond .ne 13, 3) := by decide +kernel
theorem d_Ord_told_9 : decode c_Ord_told 9 = .ok (.new 70, 3) := by decide +kernel
theorem d_Ord_told_12 : decode c_Ord_told 12 = .ok (.dup, 1) := by decide +kernel
theorem d_Ord_told_13 : decode c_Ord_told 13 = .ok (.ldc 134, 2) := by decide +kernel
theorem d_Ord_told_15 : decode c_Ord_told 15 = .ok (.invokespecial 74, 3) := by decide +kernel
theorem d_Ord_told_18 : decode c_Ord_told 18 = .ok (.athrow, 1) := by decide +kernel
theorem d_Ord_told_19 : decode c_Ord_told 19 = .ok (.aload_n 0, 1) := by decide +kernel
theorem d_Ord_told_20 : decode c_Ord_told 20 = .ok (.getfield 32, 3) := by decide +kernel
theorem d_Ord_told_23 : decode c_Ord_told 23 = .ok (.ifCond .ne 13, 3) := by decide +kernel
theorem d_Ord_told_26 : decode c_Ord_told 26 = .ok (.new 43, 3) := by decide +kernel
theorem d_Ord_told_29 : decode c_Ord_told 29 = .ok (.dup, 1) := by decide +kernel
theorem d_Ord_told_30 : decode c_Ord_told 30 = .ok (.ldc 144, 2) := by decide +kernel
theorem d_Ord_told_32 : decode c_Ord_told 32 = .ok (.invokespecial 47, 3) := by decide +kernel
theorem d_Ord_told_35 : decode c_Ord_told 35 = .ok (.athrow, 1) := by decide +kernel
theorem d_Ord_told_36 : decode c_Ord_told 36 = .ok (.iload_n 1, 1) := by decide +kernel
theorem d_Ord_told_37 : decode c_Ord_told 37 = .ok (.tableswitch 74 0 2 #[27, 42, 58], 27) := by decide +kernel
theorem d_Ord_told_64 : decode c_Ord_told 64 = .ok (.aload_n 0, 1) := by decide +kernel
theorem d_Ord_told_65 : decode c_Ord_told 65 = .ok (.getfield 28, 3) := by decide +kernel
theorem d_Ord_told_68 : decode c_Ord_told 68 = .ok (.aload_n 0, 1) := by decide +kernel
theorem d_Ord_told_69 : decode c_Ord_told 69 = .ok (.getfield 10, 3) := by decide +kernel
theorem d_Ord_told_72 : decode c_Ord_told 72 = .ok (.getfield 39, 3) := by decide +kernel
theorem d_Ord_told_75 : decode c_Ord_told 75 = .ok (.invokevirtual 130, 3) := by decide +kernel
theorem d_Ord_told_78 : decode c_Ord_told 78 = .ok (.ireturn, 1) := by decide +kernel
theorem d_Ord_told_79 : decode c_Ord_told 79 = .ok (.aload_n 0, 1) := by decide +kernel
theorem d_Ord_told_80 : decode c_Ord_told 80 = .ok (.getfield 28, 3) := by decide +kernel
theorem d_Ord_told_83 : decode c_Ord_told 83 = .ok (.getfield 168, 3) := by decide +kernel
theorem d_Ord_told_86 : decode c_Ord_told 86 = .ok (.aload_n 0, 1) := by decide +kernel
theorem d_Ord_told_87 : decode c_Ord_told 87 = .ok (.getfield 10, 3) := by decide +kernel
theorem d_Ord_told_90 : decode c_Ord_told 90 = .ok (.getfield 39, 3) := by decide +kernel
theorem d_Ord_told_93 : decode c_Ord_told 93 = .ok (.iaload, 1) := by decide +kernel
theorem d_Ord_told_94 : decode c_Ord_told 94 = .ok (.ireturn, 1) := by decide +kernel
theorem d_Ord_told_95 : decode c_Ord_told 95 = .ok (.aload_n 0, 1) := by decide +kernel
theorem d_Ord_told_96 : decode c_Ord_told 96 = .ok (.getfield 28, 3) := by decide +kernel
theorem d_Ord_told_99 : decode c_Ord_told 99 = .ok (.getfield 171, 3) := by decide +kernel
theorem d_Ord_told_102 : decode c_Ord_told 102 = .ok (.aload_n 0, 1) := by decide +kernel
theorem d_Ord_told_103 : decode c_Ord_told 103 = .ok (.getfield 10, 3) := by decide +kernel
theorem d_Ord_told_106 : decode c_Ord_told 106 = .ok (.getfield 39, 3) := by decide +kernel
theorem d_Ord_told_109 : decode c_Ord_told 109 = .ok (.iaload, 1) := by decide +kernel
theorem d_Ord_told_110 : decode c_Ord_told 110 = .ok (.ireturn, 1) := by decide +kernel
theorem d_Ord_told_111 : decode c_Ord_told 111 = .ok (.aload_n 0, 1) := by decide +kernel
theorem d_Ord_told_112 : decode c_Ord_told 112 = .ok (.getfield 28, 3) := by decide +kernel
theorem d_Ord_told_115 : decode c_Ord_told 115 = .ok (.getfield 174, 3) := by decide +kernel
theorem d_Ord_told_118 : decode c_Ord_told 118 = .ok (.aload_n 0, 1) := by decide +kernel
theorem d_Ord_told_119 : decode c_Ord_told 119 = .ok (.getfield 10, 3) := by decide +kernel
theorem d_Ord_told_122 : decode c_Ord_told 122 = .ok (.getfield 39, 3) := by decide +kernel
theorem d_Ord_told_125 : decode c_Ord_told 125 = .ok (.iaload, 1) := by decide +kernel
theorem d_Ord_told_126 : decode c_Ord_told 126 = .ok (.ireturn, 1) := by decide +kernel
theorem d_Ord_tell_0 : decode c_Ord_tell 0 = .ok (.iload_n 2, 1) := by decide +kernel
theorem d_Ord_tell_1 : decode c_Ord_tell 1 = .ok (.aload_n 0, 1) := by decide +kernel
theorem d_Ord_tell_2 : decode c_Ord_tell 2 = .ok (.getfield 10, 3) := by decide +kernel
theorem d_Ord_tell_5 : decode c_Ord_tell 5 = .ok (.getfield 39, 3) := by decide +kernel
theorem d_Ord_tell_8 : decode c_Ord_tell 8 = .ok (.if_icmp .ne 12, 3) := by decide +kernel
theorem d_Ord_tell_11 : decode c_Ord_tell 11 = .ok (.aload_n 0, 1) := by decide +kernel
theorem d_Ord_tell_12 : decode c_Ord_tell 12 = .ok (.iload_n 1, 1) := by decide +kernel
theorem d_Ord_tell_13 : decode c_Ord_tell 13 = .ok (.iload_n 2, 1) := by decide +kernel
theorem d_Ord_tell_14 : decode c_Ord_tell 14 = .ok (.invokevirtual 177, 3) := by decide +kernel
theorem d_Ord_tell_17 : decode c_Ord_tell 17 = .ok (.ifCond .ne 13, 3) := by decide +kernel
theorem d_Ord_tell_20 : decode c_Ord_tell 20 = .ok (.new 70, 3) := by decide +kernel
theorem d_Ord_tell_23 : decode c_Ord_tell 23 = .ok (.dup, 1) := by decide +kernel
theorem d_Ord_tell_24 : decode c_Ord_tell 24 = .ok (.ldc 180, 2) := by decide +kernel
theorem d_Ord_tell_26 : decode c_Ord_tell 26 = .ok (.invokespecial 74, 3) := by decide +kernel
theorem d_Ord_tell_29 : decode c_Ord_tell 29 = .ok (.athrow, 1) := by decide +kernel
theorem d_Ord_tell_30 : decode c_Ord_tell 30 = .ok (.aload_n 0, 1) := by decide +kernel
theorem d_Ord_tell_31 : decode c_Ord_tell 31 = .ok (.getfield 21, 3) := by decide +kernel
theorem d_Ord_tell_34 : decode c_Ord_tell 34 = .ok (.getfield 182, 3) := by decide +kernel
theorem d_Ord_tell_37 : decode c_Ord_tell 37 = .ok (.iload_n 1, 1) := by decide +kernel
theorem d_Ord_tell_38 : decode c_Ord_tell 38 = .ok (.iload_n 2, 1) := by decide +kernel
theorem d_Ord_tell_39 : decode c_Ord_tell 39 = .ok (.invokevirtual 126, 3) := by decide +kernel
theorem d_Ord_tell_42 : decode c_Ord_tell 42 = .ok (.ifCond .ne 13, 3) := by decide +kernel
theorem d_Ord_tell_45 : decode c_Ord_tell 45 = .ok (.new 185, 3) := by decide +kernel
theorem d_Ord_tell_48 : decode c_Ord_tell 48 = .ok (.dup, 1) := by decide +kernel
theorem d_Ord_tell_49 : decode c_Ord_tell 49 = .ok (.ldc 187, 2) := by decide +kernel
theorem d_Ord_tell_51 : decode c_Ord_tell 51 = .ok (.invokespecial 189, 3) := by decide +kernel
theorem d_Ord_tell_54 : decode c_Ord_tell 54 = .ok (.athrow, 1) := by decide +kernel
theorem d_Ord_tell_55 : decode c_Ord_tell 55 = .ok (.aload_n 0, 1) := by decide +kernel
theorem d_Ord_tell_56 : decode c_Ord_tell 56 = .ok (.aload_n 0, 1) := by decide +kernel
theorem d_Ord_tell_57 : decode c_Ord_tell 57 = .ok (.getfield 28, 3) := by decide +kernel
theorem d_Ord_tell_60 : decode c_Ord_tell 60 = .ok (.iload_n 1, 1) := by decide +kernel
theorem d_Ord_tell_61 : decode c_Ord_tell 61 = .ok (.iload_n 2, 1) := by decide +kernel
theorem d_Ord_tell_62 : decode c_Ord_tell 62 = .ok (.invokevirtual 126, 3) := by decide +kernel
theorem d_Ord_tell_65 : decode c_Ord_tell 65 = .ok (.putfield 32, 3) := by decide +kernel
theorem d_Ord_tell_68 : decode c_Ord_tell 68 = .ok (.aload_n 0, 1) := by decide +kernel
theorem d_Ord_tell_69 : decode c_Ord_tell 69 = .ok (.getfield 28, 3) := by decide +kernel
theorem d_Ord_tell_72 : decode c_Ord_tell 72 = .ok (.iload_n 2, 1) := by decide +kernel
theorem d_Ord_tell_73 : decode c_Ord_tell 73 = .ok (.invokevirtual 130, 3) := by decide +kernel
theorem d_Ord_tell_76 : decode c_Ord_tell 76 = .ok (.ireturn, 1) := by decide +kernel
theorem d_Ord_bound_0 : decode c_Ord_bound 0 = .ok (.iconst 0, 1) := by decide +kernel
theorem d_Ord_bound_1 : decode c_Ord_bound 1 = .ok (.istore_n 1, 1) := by decide +kernel
theorem d_Ord_bound_2 : decode c_Ord_bound 2 = .ok (.iconst 0, 1) := by decide +kernel
theorem d_Ord_bound_3 : decode c_Ord_bound 3 = .ok (.istore_n 2, 1) := by decide +kernel
theorem d_Ord_bound_4 : decode c_Ord_bound 4 = .ok (.iload_n 2, 1) := by decide +kernel
theorem d_Ord_bound_5 : decode c_Ord_bound 5 = .ok (.aload_n 0, 1) := by decide +kernel
theorem d_Ord_bound_6 : decode c_Ord_bound 6 = .ok (.getfield 10, 3) := by decide +kernel
theorem d_Ord_bound_9 : decode c_Ord_bound 9 = .ok (.getfield 39, 3) := by decide +kernel
theorem d_Ord_bound_12 : decode c_Ord_bound 12 = .ok (.if_icmp .ge 47, 3) := by decide +kernel
theorem d_Ord_bound_15 : decode c_Ord_bound 15 = .ok (.iload_n 1, 1) := by decide +kernel
theorem d_Ord_bound_16 : decode c_Ord_bound 16 = .ok (.aload_n 0, 1) := by decide +kernel
theorem d_Ord_bound_17 : decode c_Ord_bound 17 = .ok (.getfield 10, 3) := by decide +kernel
theorem d_Ord_bound_20 : decode c_Ord_bound 20 = .ok (.iload_n 2, 1) := by decide +kernel
theorem d_Ord_bound_21 : decode c_Ord_bound 21 = .ok (.aload_n 0, 1) := by decide +kernel
theorem d_Ord_bound_22 : decode c_Ord_bound 22 = .ok (.getfield 10, 3) := by decide +kernel
theorem d_Ord_bound_25 : decode c_Ord_bound 25 = .ok (.getfield 190, 3) := by decide +kernel
theorem d_Ord_bound_28 : decode c_Ord_bound 28 = .ok (.iload_n 2, 1) := by decide +kernel
theorem d_Ord_bound_29 : decode c_Ord_bound 29 = .ok (.iaload, 1) := by decide +kernel
theorem d_Ord_bound_30 : decode c_Ord_bound 30 = .ok (.aload_n 0, 1) := by decide +kernel
theorem d_Ord_bound_31 : decode c_Ord_bound 31 = .ok (.getfield 10, 3) := by decide +kernel
theorem d_Ord_bound_34 : decode c_Ord_bound 34 = .ok (.getfield 193, 3) := by decide +kernel
theorem d_Ord_bound_37 : decode c_Ord_bound 37 = .ok (.iload_n 2, 1) := by decide +kernel
theorem d_Ord_bound_38 : decode c_Ord_bound 38 = .ok (.iaload, 1) := by decide +kernel
theorem d_Ord_bound_39 : decode c_Ord_bound 39 = .ok (.iadd, 1) := by decide +kernel
theorem d_Ord_bound_40 : decode c_Ord_bound 40 = .ok (.invokevirtual 196, 3) := by decide +kernel
theorem d_Ord_bound_43 : decode c_Ord_bound 43 = .ok (.aload_n 0, 1) := by decide +kernel
theorem d_Ord_bound_44 : decode c_Ord_bound 44 = .ok (.getfield 10, 3) := by decide +kernel
theorem d_Ord_bound_47 : decode c_Ord_bound 47 = .ok (.getfield 104, 3) := by decide +kernel
theorem d_Ord_bound_50 : decode c_Ord_bound 50 = .ok (.imul, 1) := by decide +kernel
theorem d_Ord_bound_51 : decode c_Ord_bound 51 = .ok (.iadd, 1) := by decide +kernel
theorem d_Ord_bound_52 : decode c_Ord_bound 52 = .ok (.istore_n 1, 1) := by decide +kernel
theorem d_Ord_bound_53 : decode c_Ord_bound 53 = .ok (.iinc 2 1, 3) := by decide +kernel
theorem d_Ord_bound_56 : decode c_Ord_bound 56 = .ok (.goto (-52), 3) := by decide +kernel
theorem d_Ord_bound_59 : decode c_Ord_bound 59 = .ok (.iload_n 1, 1) := by decide +kernel
theorem d_Ord_bound_60 : decode c_Ord_bound 60 = .ok (.ireturn, 1) := by decide +kernel
theorem d_Ord_clash_0 : decode c_Ord_clash 0 = .ok (.aload_n 0, 1) := by decide +kernel
theorem d_Ord_clash_1 : decode c_Ord_clash 1 = .ok (.getfield 10, 3) := by decide +kernel
theorem d_Ord_clash_4 : decode c_Ord_clash 4 = .ok (.invokevirtual 200, 3) := by decide +kernel
theorem d_Ord_clash_7 : decode c_Ord_clash 7 = .ok (.istore_n 1, 1) := by decide +kernel
theorem d_Ord_clash_8 : decode c_Ord_clash 8 = .ok (.aload_n 0, 1) := by decide +kernel
theorem d_Ord_clash_9 : decode c_Ord_clash 9 = .ok (.getfield 21, 3) := by decide +kernel
theorem d_Ord_clash_12 : decode c_Ord_clash 12 = .ok (.iload_n 1, 1) := by decide +kernel
theorem d_Ord_clash_13 : decode c_Ord_clash 13 = .ok (.invokevirtual 204, 3) := by decide +kernel
theorem d_Ord_clash_16 : decode c_Ord_clash 16 = .ok (.ifCond .eq 5, 3) := by decide +kernel
theorem d_Ord_clash_19 : decode c_Ord_clash 19 = .ok (.iconst 0, 1) := by decide +kernel
theorem d_Ord_clash_20 : decode c_Ord_clash 20 = .ok (.ireturn, 1) := by decide +kernel
theorem d_Ord_clash_21 : decode c_Ord_clash 21 = .ok (.iconst 0, 1) := by decide +kernel
theorem d_Ord_clash_22 : decode c_Ord_clash 22 = .ok (.istore_n 2, 1) := by decide +kernel
theorem d_Ord_clash_23 : decode c_Ord_clash 23 = .ok (.iload_n 2, 1) := by decide +kernel
theorem d_Ord_clash_24 : decode c_Ord_clash 24 = .ok (.aload_n 0, 1) := by decide +kernel
theorem d_Ord_clash_25 : decode c_Ord_clash 25 = .ok (.getfield 10, 3) := by decide +kernel
theorem d_Ord_clash_28 : decode c_Ord_clash 28 = .ok (.getfield 39, 3) := by decide +kernel
theorem d_Ord_clash_31 : decode c_Ord_clash 31 = .ok (.if_icmp .ge 30, 3) := by decide +kernel
theorem d_Ord_clash_34 : decode c_Ord_clash 34 = .ok (.iload_n 1, 1) := by decide +kernel
theorem d_Ord_clash_35 : decode c_Ord_clash 35 = .ok (.iconst 1, 1) := by decide +kernel
theorem d_Ord_clash_36 : decode c_Ord_clash 36 = .ok (.iload_n 2, 1) := by decide +kernel
theorem d_Ord_clash_37 : decode c_Ord_clash 37 = .ok (.ishl, 1) := by decide +kernel
theorem d_Ord_clash_38 : decode c_Ord_clash 38 = .ok (.iconst (-1), 1) := by decide +kernel
theorem d_Ord_clash_39 : decode c_Ord_clash 39 = .ok (.ixor, 1) := by decide +kernel
theorem d_Ord_clash_40 : decode c_Ord_clash 40 = .ok (.iand, 1) := by decide +kernel
theorem d_Ord_clash_41 : decode c_Ord_clash 41 = .ok (.istore_n 3, 1) := by decide +kernel
theorem d_Ord_clash_42 : decode c_Ord_clash 42 = .ok (.aload_n 0, 1) := by decide +kernel
theorem d_Ord_clash_43 : decode c_Ord_clash 43 = .ok (.getfield 21, 3) := by decide +kernel
theorem d_Ord_clash_46 : decode c_Ord_clash 46 = .ok (.iload_n 3, 1) := by decide +kernel
theorem d_Ord_clash_47 : decode c_Ord_clash 47 = .ok (.invokevirtual 204, 3) := by decide +kernel
theorem d_Ord_clash_50 : decode c_Ord_clash 50 = .ok (.ifCond .ne 5, 3) := by decide +kernel
theorem d_Ord_clash_53 : decode c_Ord_clash 53 = .ok (.iload_n 3, 1) := by decide +kernel
theorem d_Ord_clash_54 : decode c_Ord_clash 54 = .ok (.istore_n 1, 1) := by decide +kernel
theorem d_Ord_clash_55 : decode c_Ord_clash 55 = .ok (.iinc 2 1, 3) := by decide +kernel
theorem d_Ord_clash_58 : decode c_Ord_clash 58 = .ok (.goto (-35), 3) := by decide +kernel
theorem d_Ord_clash_61 : decode c_Ord_clash 61 = .ok (.iload_n 1, 1) := by decide +kernel
theorem d_Ord_clash_62 : decode c_Ord_clash 62 = .ok (.ireturn, 1) := by decide +kernel
theorem d_Ord_forget_0 : decode c_Ord_forget 0 = .ok (.aload_n 0, 1) := by decide +kernel
theorem d_Ord_forget_1 : decode c_Ord_forget 1 = .ok (.iconst 0, 1) := by decide +kernel
theorem d_Ord_forget_2 : decode c_Ord_forget 2 = .ok (.putfield 32, 3) := by decide +kernel
theorem d_Ord_forget_5 : decode c_Ord_forget 5 = .ok (.aload_n 0, 1) := by decide +kernel
theorem d_Ord_forget_6 : decode c_Ord_forget 6 = .ok (.iconst 0, 1) := by decide +kernel
theorem d_Ord_forget_7 : decode c_Ord_forget 7 = .ok (.putfield 36, 3) := by decide +kernel
theorem d_Ord_forget_10 : decode c_Ord_forget 10 = .ok (.return_, 1) := by decide +kernel
theorem d_Ord_within_0 : decode c_Ord_within 0 = .ok (.iload_n 0, 1) := by decide +kernel
theorem d_Ord_within_1 : decode c_Ord_within 1 = .ok (.iload_n 1, 1) := by decide +kernel
theorem d_Ord_within_2 : decode c_Ord_within 2 = .ok (.if_icmp .lt 12, 3) := by decide +kernel
theorem d_Ord_within_5 : decode c_Ord_within 5 = .ok (.iload_n 0, 1) := by decide +kernel
theorem d_Ord_within_6 : decode c_Ord_within 6 = .ok (.iload_n 2, 1) := by decide +kernel
theorem d_Ord_within_7 : decode c_Ord_within 7 = .ok (.if_icmp .gt 7, 3) := by decide +kernel
theorem d_Ord_within_10 : decode c_Ord_within 10 = .ok (.iconst 1, 1) := by decide +kernel
theorem d_Ord_within_11 : decode c_Ord_within 11 = .ok (.goto 4, 3) := by decide +kernel
theorem d_Ord_within_14 : decode c_Ord_within 14 = .ok (.iconst 0, 1) := by decide +kernel
theorem d_Ord_within_15 : decode c_Ord_within 15 = .ok (.ireturn, 1) := by decide +kernel
theorem d_Ord_isDue_0 : decode c_Ord_isDue 0 = .ok (.iload_n 0, 1) := by decide +kernel
theorem d_Ord_isDue_1 : decode c_Ord_isDue 1 = .ok (.iconst 0, 1) := by decide +kernel
theorem d_Ord_isDue_2 : decode c_Ord_isDue 2 = .ok (.sipush 10000, 3) := by decide +kernel
theorem d_Ord_isDue_5 : decode c_Ord_isDue 5 = .ok (.invokestatic 50, 3) := by decide +kernel
theorem d_Ord_isDue_8 : decode c_Ord_isDue 8 = .ok (.ireturn, 1) := by decide +kernel
theorem d_Ord_namesEachHeat_0 : decode c_Ord_namesEachHeat 0 = .ok (.aload_n 0, 1) := by decide +kernel
theorem d_Ord_namesEachHeat_1 : decode c_Ord_namesEachHeat 1 = .ok (.getfield 10, 3) := by decide +kernel
theorem d_Ord_namesEachHeat_4 : decode c_Ord_namesEachHeat 4 = .ok (.invokevirtual 200, 3) := by decide +kernel
theorem d_Ord_namesEachHeat_7 : decode c_Ord_namesEachHeat 7 = .ok (.istore_n 3, 1) := by decide +kernel
theorem d_Ord_namesEachHeat_8 : decode c_Ord_namesEachHeat 8 = .ok (.iconst 0, 1) := by decide +kernel
theorem d_Ord_namesEachHeat_9 : decode c_Ord_namesEachHeat 9 = .ok (.istore 4, 2) := by decide +kernel
theorem d_Ord_namesEachHeat_11 : decode c_Ord_namesEachHeat 11 = .ok (.iload 4, 2) := by decide +kernel
theorem d_Ord_namesEachHeat_13 : decode c_Ord_namesEachHeat 13 = .ok (.iload_n 2, 1) := by decide +kernel
theorem d_Ord_namesEachHeat_14 : decode c_Ord_namesEachHeat 14 = .ok (.if_icmp .ge 35, 3) := by decide +kernel
theorem d_Ord_namesEachHeat_17 : decode c_Ord_namesEachHeat 17 = .ok (.iconst 1, 1) := by decide +kernel
theorem d_Ord_namesEachHeat_18 : decode c_Ord_namesEachHeat 18 = .ok (.iload_n 1, 1) := by decide +kernel
theorem d_Ord_namesEachHeat_19 : decode c_Ord_namesEachHeat 19 = .ok (.iload 4, 2) := by decide +kernel
theorem d_Ord_namesEachHeat_21 : decode c_Ord_namesEachHeat 21 = .ok (.invokestatic 207, 3) := by decide +kernel
theorem d_Ord_namesEachHeat_24 : decode c_Ord_namesEachHeat 24 = .ok (.ishl, 1) := by decide +kernel
theorem d_Ord_namesEachHeat_25 : decode c_Ord_namesEachHeat 25 = .ok (.istore 5, 2) := by decide +kernel
theorem d_Ord_namesEachHeat_27 : decode c_Ord_namesEachHeat 27 = .ok (.iload_n 3, 1) := by decide +kernel
theorem d_Ord_namesEachHeat_28 : decode c_Ord_namesEachHeat 28 = .ok (.iload 5, 2) := by decide +kernel
theorem d_Ord_namesEachHeat_30 : decode c_Ord_namesEachHeat 30 = .ok (.iand, 1) := by decide +kernel
theorem d_Ord_namesEachHeat_31 : decode c_Ord_namesEachHeat 31 = .ok (.ifCond .ne 5, 3) := by decide +kernel
theorem d_Ord_namesEachHeat_34 : decode c_Ord_namesEachHeat 34 = .ok (.iconst 0, 1) := by decide +kernel
theorem d_Ord_namesEachHeat_35 : decode c_Ord_namesEachHeat 35 = .ok (.ireturn, 1) := by decide +kernel
theorem d_Ord_namesEachHeat_36 : decode c_Ord_namesEachHeat 36 = .ok (.iload_n 3, 1) := by decide +kernel
theorem d_Ord_namesEachHeat_37 : decode c_Ord_namesEachHeat 37 = .ok (.iload 5, 2) := by decide +kernel
theorem d_Ord_namesEachHeat_39 : decode c_Ord_namesEachHeat 39 = .ok (.iconst (-1), 1) := by decide +kernel
theorem d_Ord_namesEachHeat_40 : decode c_Ord_namesEachHeat 40 = .ok (.ixor, 1) := by decide +kernel
theorem d_Ord_namesEachHeat_41 : decode c_Ord_namesEachHeat 41 = .ok (.iand, 1) := by decide +kernel
theorem d_Ord_namesEachHeat_42 : decode c_Ord_namesEachHeat 42 = .ok (.istore_n 3, 1) := by decide +kernel
theorem d_Ord_namesEachHeat_43 : decode c_Ord_namesEachHeat 43 = .ok (.iinc 4 1, 3) := by decide +kernel
theorem d_Ord_namesEachHeat_46 : decode c_Ord_namesEachHeat 46 = .ok (.goto (-35), 3) := by decide +kernel
theorem d_Ord_namesEachHeat_49 : decode c_Ord_namesEachHeat 49 = .ok (.iconst 1, 1) := by decide +kernel
theorem d_Ord_namesEachHeat_50 : decode c_Ord_namesEachHeat 50 = .ok (.ireturn, 1) := by decide +kernel
theorem d_Ord_heatOf_0 : decode c_Ord_heatOf 0 = .ok (.iload_n 0, 1) := by decide +kernel
theorem d_Ord_heatOf_1 : decode c_Ord_heatOf 1 = .ok (.iconst 4, 1) := by decide +kernel
theorem d_Ord_heatOf_2 : decode c_Ord_heatOf 2 = .ok (.iload_n 1, 1) := by decide +kernel
theorem d_Ord_heatOf_3 : decode c_Ord_heatOf 3 = .ok (.imul, 1) := by decide +kernel
theorem d_Ord_heatOf_4 : decode c_Ord_heatOf 4 = .ok (.ishr, 1) := by decide +kernel
theorem d_Ord_heatOf_5 : decode c_Ord_heatOf 5 = .ok (.bipush 7, 2) := by decide +kernel
theorem d_Ord_heatOf_7 : decode c_Ord_heatOf 7 = .ok (.iand, 1) := by decide +kernel
theorem d_Ord_heatOf_8 : decode c_Ord_heatOf 8 = .ok (.ireturn, 1) := by decide +kernel
theorem d_Ord_casterOf_0 : decode c_Ord_casterOf 0 = .ok (.iload_n 0, 1) := by decide +kernel
theorem d_Ord_casterOf_1 : decode c_Ord_casterOf 1 = .ok (.iconst 4, 1) := by decide +kernel
theorem d_Ord_casterOf_2 : decode c_Ord_casterOf 2 = .ok (.iload_n 1, 1) := by decide +kernel
theorem d_Ord_casterOf_3 : decode c_Ord_casterOf 3 = .ok (.imul, 1) := by decide +kernel
theorem d_Ord_casterOf_4 : decode c_Ord_casterOf 4 = .ok (.iconst 3, 1) := by decide +kernel
theorem d_Ord_casterOf_5 : decode c_Ord_casterOf 5 = .ok (.iadd, 1) := by decide +kernel
theorem d_Ord_casterOf_6 : decode c_Ord_casterOf 6 = .ok (.ishr, 1) := by decide +kernel
theorem d_Ord_casterOf_7 : decode c_Ord_casterOf 7 = .ok (.iconst 1, 1) := by decide +kernel
theorem d_Ord_casterOf_8 : decode c_Ord_casterOf 8 = .ok (.iand, 1) := by decide +kernel
theorem d_Ord_casterOf_9 : decode c_Ord_casterOf 9 = .ok (.ireturn, 1) := by decide +kernel
theorem d_Ord_withStep_0 : decode c_Ord_withStep 0 = .ok (.iload_n 0, 1) := by decide +kernel
theorem d_Ord_withStep_1 : decode c_Ord_withStep 1 = .ok (.iload_n 2, 1) := by decide +kernel
theorem d_Ord_withStep_2 : decode c_Ord_withStep 2 = .ok (.iload_n 3, 1) := by decide +kernel
theorem d_Ord_withStep_3 : decode c_Ord_withStep 3 = .ok (.iconst 3, 1) := by decide +kernel
theorem d_Ord_withStep_4 : decode c_Ord_withStep 4 = .ok (.ishl, 1) := by decide +kernel
theorem d_Ord_withStep_5 : decode c_Ord_withStep 5 = .ok (.ior, 1) := by decide +kernel
theorem d_Ord_withStep_6 : decode c_Ord_withStep 6 = .ok (.iconst 4, 1) := by decide +kernel
theorem d_Ord_withStep_7 : decode c_Ord_withStep 7 = .ok (.iload_n 1, 1) := by decide +kernel
theorem d_Ord_withStep_8 : decode c_Ord_withStep 8 = .ok (.imul, 1) := by decide +kernel
theorem d_Ord_withStep_9 : decode c_Ord_withStep 9 = .ok (.ishl, 1) := by decide +kernel
theorem d_Ord_withStep_10 : decode c_Ord_withStep 10 = .ok (.ior, 1) := by decide +kernel
theorem d_Ord_withStep_11 : decode c_Ord_withStep 11 = .ok (.ireturn, 1) := by decide +kernel
