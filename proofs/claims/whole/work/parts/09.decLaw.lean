/-! decode rows of HeatOrderLaw -/
theorem d_Law_heat_0 : decode c_Law_heat 0 = .ok (.aload 7, 2) := by decide +kernel
theorem d_Law_heat_2 : decode c_Law_heat 2 = .ok (.iconst 0, 1) := by decide +kernel
theorem d_Law_heat_3 : decode c_Law_heat 3 = .ok (.aload_n 0, 1) := by decide +kernel
theorem d_Law_heat_4 : decode c_Law_heat 4 = .ok (.iload_n 1, 1) := by decide +kernel
theorem d_Law_heat_5 : decode c_Law_heat 5 = .ok (.iload_n 2, 1) := by decide +kernel
theorem d_Law_heat_6 : decode c_Law_heat 6 = .ok (.iload_n 3, 1) := by decide +kernel
theorem d_Law_heat_7 : decode c_Law_heat 7 = .ok (.iload 4, 2) := by decide +kernel
theorem d_Law_heat_9 : decode c_Law_heat 9 = .ok (.iload 5, 2) := by decide +kernel
theorem d_Law_heat_11 : decode c_Law_heat 11 = .ok (.iload 6, 2) := by decide +kernel
theorem d_Law_heat_13 : decode c_Law_heat 13 = .ok (.invokevirtual 7, 3) := by decide +kernel
theorem d_Law_heat_16 : decode c_Law_heat 16 = .ok (.i2l, 1) := by decide +kernel
theorem d_Law_heat_17 : decode c_Law_heat 17 = .ok (.lastore, 1) := by decide +kernel
theorem d_Law_heat_18 : decode c_Law_heat 18 = .ok (.goto 11, 3) := by decide +kernel
theorem d_Law_heat_21 : decode c_Law_heat 21 = .ok (.astore 8, 2) := by decide +kernel
theorem d_Law_heat_23 : decode c_Law_heat 23 = .ok (.iconst 1, 1) := by decide +kernel
theorem d_Law_heat_24 : decode c_Law_heat 24 = .ok (.ireturn, 1) := by decide +kernel
theorem d_Law_heat_25 : decode c_Law_heat 25 = .ok (.astore 8, 2) := by decide +kernel
theorem d_Law_heat_27 : decode c_Law_heat 27 = .ok (.iconst 2, 1) := by decide +kernel
theorem d_Law_heat_28 : decode c_Law_heat 28 = .ok (.ireturn, 1) := by decide +kernel
theorem d_Law_heat_29 : decode c_Law_heat 29 = .ok (.iconst 0, 1) := by decide +kernel
theorem d_Law_heat_30 : decode c_Law_heat 30 = .ok (.ireturn, 1) := by decide +kernel
theorem d_Law_due_0 : decode c_Law_due 0 = .ok (.aload_n 0, 1) := by decide +kernel
theorem d_Law_due_1 : decode c_Law_due 1 = .ok (.iload_n 1, 1) := by decide +kernel
theorem d_Law_due_2 : decode c_Law_due 2 = .ok (.iload_n 2, 1) := by decide +kernel
theorem d_Law_due_3 : decode c_Law_due 3 = .ok (.invokevirtual 17, 3) := by decide +kernel
theorem d_Law_due_6 : decode c_Law_due 6 = .ok (.goto 9, 3) := by decide +kernel
theorem d_Law_due_9 : decode c_Law_due 9 = .ok (.astore_n 3, 1) := by decide +kernel
theorem d_Law_due_10 : decode c_Law_due 10 = .ok (.iconst 1, 1) := by decide +kernel
theorem d_Law_due_11 : decode c_Law_due 11 = .ok (.ireturn, 1) := by decide +kernel
theorem d_Law_due_12 : decode c_Law_due 12 = .ok (.astore_n 3, 1) := by decide +kernel
theorem d_Law_due_13 : decode c_Law_due 13 = .ok (.iconst 2, 1) := by decide +kernel
theorem d_Law_due_14 : decode c_Law_due 14 = .ok (.ireturn, 1) := by decide +kernel
theorem d_Law_due_15 : decode c_Law_due 15 = .ok (.iconst 0, 1) := by decide +kernel
theorem d_Law_due_16 : decode c_Law_due 16 = .ok (.ireturn, 1) := by decide +kernel
theorem d_Law_rules_0 : decode c_Law_rules 0 = .ok (.aload_n 0, 1) := by decide +kernel
theorem d_Law_rules_1 : decode c_Law_rules 1 = .ok (.iload_n 1, 1) := by decide +kernel
theorem d_Law_rules_2 : decode c_Law_rules 2 = .ok (.iload_n 2, 1) := by decide +kernel
theorem d_Law_rules_3 : decode c_Law_rules 3 = .ok (.iload_n 3, 1) := by decide +kernel
theorem d_Law_rules_4 : decode c_Law_rules 4 = .ok (.iload 4, 2) := by decide +kernel
theorem d_Law_rules_6 : decode c_Law_rules 6 = .ok (.iload 5, 2) := by decide +kernel
theorem d_Law_rules_8 : decode c_Law_rules 8 = .ok (.invokevirtual 23, 3) := by decide +kernel
theorem d_Law_rules_11 : decode c_Law_rules 11 = .ok (.goto 7, 3) := by decide +kernel
theorem d_Law_rules_14 : decode c_Law_rules 14 = .ok (.astore 6, 2) := by decide +kernel
theorem d_Law_rules_16 : decode c_Law_rules 16 = .ok (.iconst 1, 1) := by decide +kernel
theorem d_Law_rules_17 : decode c_Law_rules 17 = .ok (.ireturn, 1) := by decide +kernel
theorem d_Law_rules_18 : decode c_Law_rules 18 = .ok (.iconst 0, 1) := by decide +kernel
theorem d_Law_rules_19 : decode c_Law_rules 19 = .ok (.ireturn, 1) := by decide +kernel
theorem d_Law_costs_0 : decode c_Law_costs 0 = .ok (.aload_n 0, 1) := by decide +kernel
theorem d_Law_costs_1 : decode c_Law_costs 1 = .ok (.iload_n 1, 1) := by decide +kernel
theorem d_Law_costs_2 : decode c_Law_costs 2 = .ok (.iload_n 2, 1) := by decide +kernel
theorem d_Law_costs_3 : decode c_Law_costs 3 = .ok (.invokevirtual 27, 3) := by decide +kernel
theorem d_Law_costs_6 : decode c_Law_costs 6 = .ok (.goto 6, 3) := by decide +kernel
theorem d_Law_costs_9 : decode c_Law_costs 9 = .ok (.astore_n 3, 1) := by decide +kernel
theorem d_Law_costs_10 : decode c_Law_costs 10 = .ok (.iconst 1, 1) := by decide +kernel
theorem d_Law_costs_11 : decode c_Law_costs 11 = .ok (.ireturn, 1) := by decide +kernel
theorem d_Law_costs_12 : decode c_Law_costs 12 = .ok (.iconst 0, 1) := by decide +kernel
theorem d_Law_costs_13 : decode c_Law_costs 13 = .ok (.ireturn, 1) := by decide +kernel
theorem d_Law_move_0 : decode c_Law_move 0 = .ok (.aload_n 0, 1) := by decide +kernel
theorem d_Law_move_1 : decode c_Law_move 1 = .ok (.iload_n 1, 1) := by decide +kernel
theorem d_Law_move_2 : decode c_Law_move 2 = .ok (.iload_n 2, 1) := by decide +kernel
theorem d_Law_move_3 : decode c_Law_move 3 = .ok (.iload_n 3, 1) := by decide +kernel
theorem d_Law_move_4 : decode c_Law_move 4 = .ok (.invokevirtual 30, 3) := by decide +kernel
theorem d_Law_move_7 : decode c_Law_move 7 = .ok (.goto 11, 3) := by decide +kernel
theorem d_Law_move_10 : decode c_Law_move 10 = .ok (.astore 4, 2) := by decide +kernel
theorem d_Law_move_12 : decode c_Law_move 12 = .ok (.iconst 1, 1) := by decide +kernel
theorem d_Law_move_13 : decode c_Law_move 13 = .ok (.ireturn, 1) := by decide +kernel
theorem d_Law_move_14 : decode c_Law_move 14 = .ok (.astore 4, 2) := by decide +kernel
theorem d_Law_move_16 : decode c_Law_move 16 = .ok (.iconst 2, 1) := by decide +kernel
theorem d_Law_move_17 : decode c_Law_move 17 = .ok (.ireturn, 1) := by decide +kernel
theorem d_Law_move_18 : decode c_Law_move 18 = .ok (.iconst 0, 1) := by decide +kernel
theorem d_Law_move_19 : decode c_Law_move 19 = .ok (.ireturn, 1) := by decide +kernel
theorem d_Law_run_0 : decode c_Law_run 0 = .ok (.aload_n 2, 1) := by decide +kernel
theorem d_Law_run_1 : decode c_Law_run 1 = .ok (.iconst 0, 1) := by decide +kernel
theorem d_Law_run_2 : decode c_Law_run 2 = .ok (.aload_n 0, 1) := by decide +kernel
theorem d_Law_run_3 : decode c_Law_run 3 = .ok (.iload_n 1, 1) := by decide +kernel
theorem d_Law_run_4 : decode c_Law_run 4 = .ok (.invokevirtual 34, 3) := by decide +kernel
theorem d_Law_run_7 : decode c_Law_run 7 = .ok (.i2l, 1) := by decide +kernel
theorem d_Law_run_8 : decode c_Law_run 8 = .ok (.lastore, 1) := by decide +kernel
theorem d_Law_run_9 : decode c_Law_run 9 = .ok (.goto 6, 3) := by decide +kernel
theorem d_Law_run_12 : decode c_Law_run 12 = .ok (.astore_n 3, 1) := by decide +kernel
theorem d_Law_run_13 : decode c_Law_run 13 = .ok (.iconst 1, 1) := by decide +kernel
theorem d_Law_run_14 : decode c_Law_run 14 = .ok (.ireturn, 1) := by decide +kernel
theorem d_Law_run_15 : decode c_Law_run 15 = .ok (.iconst 0, 1) := by decide +kernel
theorem d_Law_run_16 : decode c_Law_run 16 = .ok (.ireturn, 1) := by decide +kernel
theorem d_Law_planned_0 : decode c_Law_planned 0 = .ok (.aload_n 2, 1) := by decide +kernel
theorem d_Law_planned_1 : decode c_Law_planned 1 = .ok (.iconst 0, 1) := by decide +kernel
theorem d_Law_planned_2 : decode c_Law_planned 2 = .ok (.aload_n 0, 1) := by decide +kernel
theorem d_Law_planned_3 : decode c_Law_planned 3 = .ok (.iload_n 1, 1) := by decide +kernel
theorem d_Law_planned_4 : decode c_Law_planned 4 = .ok (.invokevirtual 38, 3) := by decide +kernel
theorem d_Law_planned_7 : decode c_Law_planned 7 = .ok (.i2l, 1) := by decide +kernel
theorem d_Law_planned_8 : decode c_Law_planned 8 = .ok (.lastore, 1) := by decide +kernel
theorem d_Law_planned_9 : decode c_Law_planned 9 = .ok (.goto 9, 3) := by decide +kernel
theorem d_Law_planned_12 : decode c_Law_planned 12 = .ok (.astore_n 3, 1) := by decide +kernel
theorem d_Law_planned_13 : decode c_Law_planned 13 = .ok (.iconst 1, 1) := by decide +kernel
theorem d_Law_planned_14 : decode c_Law_planned 14 = .ok (.ireturn, 1) := by decide +kernel
theorem d_Law_planned_15 : decode c_Law_planned 15 = .ok (.astore_n 3, 1) := by decide +kernel
theorem d_Law_planned_16 : decode c_Law_planned 16 = .ok (.iconst 2, 1) := by decide +kernel
theorem d_Law_planned_17 : decode c_Law_planned 17 = .ok (.ireturn, 1) := by decide +kernel
theorem d_Law_planned_18 : decode c_Law_planned 18 = .ok (.iconst 0, 1) := by decide +kernel
theorem d_Law_planned_19 : decode c_Law_planned 19 = .ok (.ireturn, 1) := by decide +kernel
theorem d_Law_step_0 : decode c_Law_step 0 = .ok (.aload_n 3, 1) := by decide +kernel
theorem d_Law_step_1 : decode c_Law_step 1 = .ok (.iconst 0, 1) := by decide +kernel
theorem d_Law_step_2 : decode c_Law_step 2 = .ok (.aload_n 0, 1) := by decide +kernel
theorem d_Law_step_3 : decode c_Law_step 3 = .ok (.iload_n 1, 1) := by decide +kernel
theorem d_Law_step_4 : decode c_Law_step 4 = .ok (.iload_n 2, 1) := by decide +kernel
theorem d_Law_step_5 : decode c_Law_step 5 = .ok (.invokevirtual 41, 3) := by decide +kernel
theorem d_Law_step_8 : decode c_Law_step 8 = .ok (.i2l, 1) := by decide +kernel
theorem d_Law_step_9 : decode c_Law_step 9 = .ok (.lastore, 1) := by decide +kernel
theorem d_Law_step_10 : decode c_Law_step 10 = .ok (.goto 11, 3) := by decide +kernel
theorem d_Law_step_13 : decode c_Law_step 13 = .ok (.astore 4, 2) := by decide +kernel
theorem d_Law_step_15 : decode c_Law_step 15 = .ok (.iconst 1, 1) := by decide +kernel
theorem d_Law_step_16 : decode c_Law_step 16 = .ok (.ireturn, 1) := by decide +kernel
theorem d_Law_step_17 : decode c_Law_step 17 = .ok (.astore 4, 2) := by decide +kernel
theorem d_Law_step_19 : decode c_Law_step 19 = .ok (.iconst 2, 1) := by decide +kernel
theorem d_Law_step_20 : decode c_Law_step 20 = .ok (.ireturn, 1) := by decide +kernel
theorem d_Law_step_21 : decode c_Law_step 21 = .ok (.iconst 0, 1) := by decide +kernel
theorem d_Law_step_22 : decode c_Law_step 22 = .ok (.ireturn, 1) := by decide +kernel
theorem d_Law_told_0 : decode c_Law_told 0 = .ok (.aload_n 2, 1) := by decide +kernel
theorem d_Law_told_1 : decode c_Law_told 1 = .ok (.iconst 0, 1) := by decide +kernel
theorem d_Law_told_2 : decode c_Law_told 2 = .ok (.aload_n 0, 1) := by decide +kernel
theorem d_Law_told_3 : decode c_Law_told 3 = .ok (.iload_n 1, 1) := by decide +kernel
theorem d_Law_told_4 : decode c_Law_told 4 = .ok (.invokevirtual 45, 3) := by decide +kernel
theorem d_Law_told_7 : decode c_Law_told 7 = .ok (.i2l, 1) := by decide +kernel
theorem d_Law_told_8 : decode c_Law_told 8 = .ok (.lastore, 1) := by decide +kernel
theorem d_Law_told_9 : decode c_Law_told 9 = .ok (.goto 9, 3) := by decide +kernel
theorem d_Law_told_12 : decode c_Law_told 12 = .ok (.astore_n 3, 1) := by decide +kernel
theorem d_Law_told_13 : decode c_Law_told 13 = .ok (.iconst 1, 1) := by decide +kernel
theorem d_Law_told_14 : decode c_Law_told 14 = .ok (.ireturn, 1) := by decide +kernel
theorem d_Law_told_15 : decode c_Law_told 15 = .ok (.astore_n 3, 1) := by decide +kernel
theorem d_Law_told_16 : decode c_Law_told 16 = .ok (.iconst 2, 1) := by decide +kernel
theorem d_Law_told_17 : decode c_Law_told 17 = .ok (.ireturn, 1) := by decide +kernel
theorem d_Law_told_18 : decode c_Law_told 18 = .ok (.iconst 0, 1) := by decide +kernel
theorem d_Law_told_19 : decode c_Law_told 19 = .ok (.ireturn, 1) := by decide +kernel
theorem d_Law_tell_0 : decode c_Law_tell 0 = .ok (.aload_n 3, 1) := by decide +kernel
theorem d_Law_tell_1 : decode c_Law_tell 1 = .ok (.iconst 0, 1) := by decide +kernel
theorem d_Law_tell_2 : decode c_Law_tell 2 = .ok (.aload_n 0, 1) := by decide +kernel
theorem d_Law_tell_3 : decode c_Law_tell 3 = .ok (.iload_n 1, 1) := by decide +kernel
theorem d_Law_tell_4 : decode c_Law_tell 4 = .ok (.iload_n 2, 1) := by decide +kernel
theorem d_Law_tell_5 : decode c_Law_tell 5 = .ok (.invokevirtual 48, 3) := by decide +kernel
theorem d_Law_tell_8 : decode c_Law_tell 8 = .ok (.i2l, 1) := by decide +kernel
theorem d_Law_tell_9 : decode c_Law_tell 9 = .ok (.lastore, 1) := by decide +kernel
theorem d_Law_tell_10 : decode c_Law_tell 10 = .ok (.goto 11, 3) := by decide +kernel
theorem d_Law_tell_13 : decode c_Law_tell 13 = .ok (.astore 4, 2) := by decide +kernel
theorem d_Law_tell_15 : decode c_Law_tell 15 = .ok (.iconst 1, 1) := by decide +kernel
theorem d_Law_tell_16 : decode c_Law_tell 16 = .ok (.ireturn, 1) := by decide +kernel
theorem d_Law_tell_17 : decode c_Law_tell 17 = .ok (.astore 4, 2) := by decide +kernel
theorem d_Law_tell_19 : decode c_Law_tell 19 = .ok (.iconst 2, 1) := by decide +kernel
theorem d_Law_tell_20 : decode c_Law_tell 20 = .ok (.ireturn, 1) := by decide +kernel
theorem d_Law_tell_21 : decode c_Law_tell 21 = .ok (.iconst 0, 1) := by decide +kernel
theorem d_Law_tell_22 : decode c_Law_tell 22 = .ok (.ireturn, 1) := by decide +kernel
theorem d_Law_law_0 : decode c_Law_law 0 = .ok (.new 8, 3) := by decide +kernel
theorem d_Law_law_3 : decode c_Law_law 3 = .ok (.dup, 1) := by decide +kernel
theorem d_Law_law_4 : decode c_Law_law 4 = .ok (.invokespecial 53, 3) := by decide +kernel
theorem d_Law_law_7 : decode c_Law_law 7 = .ok (.astore_n 1, 1) := by decide +kernel
theorem d_Law_law_8 : decode c_Law_law 8 = .ok (.new 54, 3) := by decide +kernel
theorem d_Law_law_11 : decode c_Law_law 11 = .ok (.dup, 1) := by decide +kernel
theorem d_Law_law_12 : decode c_Law_law 12 = .ok (.invokespecial 56, 3) := by decide +kernel
theorem d_Law_law_15 : decode c_Law_law 15 = .ok (.astore_n 2, 1) := by decide +kernel
theorem d_Law_law_16 : decode c_Law_law 16 = .ok (.iconst 1, 1) := by decide +kernel
theorem d_Law_law_17 : decode c_Law_law 17 = .ok (.newarray .long, 2) := by decide +kernel
theorem d_Law_law_19 : decode c_Law_law 19 = .ok (.astore_n 3, 1) := by decide +kernel
theorem d_Law_law_20 : decode c_Law_law 20 = .ok (.iconst 0, 1) := by decide +kernel
theorem d_Law_law_21 : decode c_Law_law 21 = .ok (.istore 4, 2) := by decide +kernel
theorem d_Law_law_23 : decode c_Law_law 23 = .ok (.iload 4, 2) := by decide +kernel
theorem d_Law_law_25 : decode c_Law_law 25 = .ok (.aload_n 0, 1) := by decide +kernel
theorem d_Law_law_26 : decode c_Law_law 26 = .ok (.arraylength, 1) := by decide +kernel
theorem d_Law_law_27 : decode c_Law_law 27 = .ok (.bipush 7, 2) := by decide +kernel
theorem d_Law_law_29 : decode c_Law_law 29 = .ok (.isub, 1) := by decide +kernel
theorem d_Law_law_30 : decode c_Law_law 30 = .ok (.if_icmp .gt 768, 3) := by decide +kernel
theorem d_Law_law_33 : decode c_Law_law 33 = .ok (.aload_n 0, 1) := by decide +kernel
theorem d_Law_law_34 : decode c_Law_law 34 = .ok (.iload 4, 2) := by decide +kernel
theorem d_Law_law_36 : decode c_Law_law 36 = .ok (.iaload, 1) := by decide +kernel
theorem d_Law_law_37 : decode c_Law_law 37 = .ok (.bipush 15, 2) := by decide +kernel
theorem d_Law_law_39 : decode c_Law_law 39 = .ok (.iand, 1) := by decide +kernel
theorem d_Law_law_40 : decode c_Law_law 40 = .ok (.tableswitch 752 0 11 #[64, 182, 230, 314, 362, 422, 478, 534, 602, 658, 726, 739], 64) := by decide +kernel
theorem d_Law_law_104 : decode c_Law_law 104 = .ok (.aload_n 1, 1) := by decide +kernel
theorem d_Law_law_105 : decode c_Law_law 105 = .ok (.aload_n 0, 1) := by decide +kernel
theorem d_Law_law_106 : decode c_Law_law 106 = .ok (.iload 4, 2) := by decide +kernel
theorem d_Law_law_108 : decode c_Law_law 108 = .ok (.iconst 1, 1) := by decide +kernel
theorem d_Law_law_109 : decode c_Law_law 109 = .ok (.iadd, 1) := by decide +kernel
theorem d_Law_law_110 : decode c_Law_law 110 = .ok (.iaload, 1) := by decide +kernel
theorem d_Law_law_111 : decode c_Law_law 111 = .ok (.aload_n 0, 1) := by decide +kernel
theorem d_Law_law_112 : decode c_Law_law 112 = .ok (.iload 4, 2) := by decide +kernel
theorem d_Law_law_114 : decode c_Law_law 114 = .ok (.iconst 2, 1) := by decide +kernel
theorem d_Law_law_115 : decode c_Law_law 115 = .ok (.iadd, 1) := by decide +kernel
theorem d_Law_law_116 : decode c_Law_law 116 = .ok (.iaload, 1) := by decide +kernel
theorem d_Law_law_117 : decode c_Law_law 117 = .ok (.aload_n 0, 1) := by decide +kernel
theorem d_Law_law_118 : decode c_Law_law 118 = .ok (.iload 4, 2) := by decide +kernel
theorem d_Law_law_120 : decode c_Law_law 120 = .ok (.iconst 3, 1) := by decide +kernel
theorem d_Law_law_121 : decode c_Law_law 121 = .ok (.iadd, 1) := by decide +kernel
theorem d_Law_law_122 : decode c_Law_law 122 = .ok (.iaload, 1) := by decide +kernel
theorem d_Law_law_123 : decode c_Law_law 123 = .ok (.aload_n 0, 1) := by decide +kernel
theorem d_Law_law_124 : decode c_Law_law 124 = .ok (.iload 4, 2) := by decide +kernel
theorem d_Law_law_126 : decode c_Law_law 126 = .ok (.iconst 4, 1) := by decide +kernel
theorem d_Law_law_127 : decode c_Law_law 127 = .ok (.iadd, 1) := by decide +kernel
theorem d_Law_law_128 : decode c_Law_law 128 = .ok (.iaload, 1) := by decide +kernel
theorem d_Law_law_129 : decode c_Law_law 129 = .ok (.aload_n 0, 1) := by decide +kernel
theorem d_Law_law_130 : decode c_Law_law 130 = .ok (.iload 4, 2) := by decide +kernel
theorem d_Law_law_132 : decode c_Law_law 132 = .ok (.iconst 5, 1) := by decide +kernel
theorem d_Law_law_133 : decode c_Law_law 133 = .ok (.iadd, 1) := by decide +kernel
theorem d_Law_law_134 : decode c_Law_law 134 = .ok (.iaload, 1) := by decide +kernel
theorem d_Law_law_135 : decode c_Law_law 135 = .ok (.aload_n 0, 1) := by decide +kernel
theorem d_Law_law_136 : decode c_Law_law 136 = .ok (.iload 4, 2) := by decide +kernel
theorem d_Law_law_138 : decode c_Law_law 138 = .ok (.bipush 6, 2) := by decide +kernel
theorem d_Law_law_140 : decode c_Law_law 140 = .ok (.iadd, 1) := by decide +kernel
theorem d_Law_law_141 : decode c_Law_law 141 = .ok (.iaload, 1) := by decide +kernel
theorem d_Law_law_142 : decode c_Law_law 142 = .ok (.aload_n 3, 1) := by decide +kernel
theorem d_Law_law_143 : decode c_Law_law 143 = .ok (.invokestatic 57, 3) := by decide +kernel
theorem d_Law_law_146 : decode c_Law_law 146 = .ok (.istore 5, 2) := by decide +kernel
theorem d_Law_law_148 : decode c_Law_law 148 = .ok (.aload_n 2, 1) := by decide +kernel
theorem d_Law_law_149 : decode c_Law_law 149 = .ok (.aload_n 0, 1) := by decide +kernel
theorem d_Law_law_150 : decode c_Law_law 150 = .ok (.iload 4, 2) := by decide +kernel
theorem d_Law_law_152 : decode c_Law_law 152 = .ok (.iconst 1, 1) := by decide +kernel
theorem d_Law_law_153 : decode c_Law_law 153 = .ok (.iadd, 1) := by decide +kernel
theorem d_Law_law_154 : decode c_Law_law 154 = .ok (.iaload, 1) := by decide +kernel
theorem d_Law_law_155 : decode c_Law_law 155 = .ok (.aload_n 0, 1) := by decide +kernel
theorem d_Law_law_156 : decode c_Law_law 156 = .ok (.iload 4, 2) := by decide +kernel
theorem d_Law_law_158 : decode c_Law_law 158 = .ok (.iconst 2, 1) := by decide +kernel
theorem d_Law_law_159 : decode c_Law_law 159 = .ok (.iadd, 1) := by decide +kernel
theorem d_Law_law_160 : decode c_Law_law 160 = .ok (.iaload, 1) := by decide +kernel
theorem d_Law_law_161 : decode c_Law_law 161 = .ok (.aload_n 0, 1) := by decide +kernel
theorem d_Law_law_162 : decode c_Law_law 162 = .ok (.iload 4, 2) := by decide +kernel
theorem d_Law_law_164 : decode c_Law_law 164 = .ok (.iconst 3, 1) := by decide +kernel
theorem d_Law_law_165 : decode c_Law_law 165 = .ok (.iadd, 1) := by decide +kernel
theorem d_Law_law_166 : decode c_Law_law 166 = .ok (.iaload, 1) := by decide +kernel
theorem d_Law_law_167 : decode c_Law_law 167 = .ok (.aload_n 0, 1) := by decide +kernel
theorem d_Law_law_168 : decode c_Law_law 168 = .ok (.iload 4, 2) := by decide +kernel
theorem d_Law_law_170 : decode c_Law_law 170 = .ok (.iconst 4, 1) := by decide +kernel
theorem d_Law_law_171 : decode c_Law_law 171 = .ok (.iadd, 1) := by decide +kernel
theorem d_Law_law_172 : decode c_Law_law 172 = .ok (.iaload, 1) := by decide +kernel
theorem d_Law_law_173 : decode c_Law_law 173 = .ok (.aload_n 0, 1) := by decide +kernel
theorem d_Law_law_174 : decode c_Law_law 174 = .ok (.iload 4, 2) := by decide +kernel
theorem d_Law_law_176 : decode c_Law_law 176 = .ok (.iconst 5, 1) := by decide +kernel
theorem d_Law_law_177 : decode c_Law_law 177 = .ok (.iadd, 1) := by decide +kernel
theorem d_Law_law_178 : decode c_Law_law 178 = .ok (.iaload, 1) := by decide +kernel
theorem d_Law_law_179 : decode c_Law_law 179 = .ok (.aload_n 0, 1) := by decide +kernel
theorem d_Law_law_180 : decode c_Law_law 180 = .ok (.iload 4, 2) := by decide +kernel
theorem d_Law_law_182 : decode c_Law_law 182 = .ok (.bipush 6, 2) := by decide +kernel
theorem d_Law_law_184 : decode c_Law_law 184 = .ok (.iadd, 1) := by decide +kernel
theorem d_Law_law_185 : decode c_Law_law 185 = .ok (.iaload, 1) := by decide +kernel
theorem d_Law_law_186 : decode c_Law_law 186 = .ok (.invokevirtual 62, 3) := by decide +kernel
theorem d_Law_law_189 : decode c_Law_law 189 = .ok (.istore 6, 2) := by decide +kernel
theorem d_Law_law_191 : decode c_Law_law 191 = .ok (.aload_n 2, 1) := by decide +kernel
theorem d_Law_law_192 : decode c_Law_law 192 = .ok (.invokevirtual 63, 3) := by decide +kernel
theorem d_Law_law_195 : decode c_Law_law 195 = .ok (.iload 5, 2) := by decide +kernel
theorem d_Law_law_197 : decode c_Law_law 197 = .ok (.if_icmp .eq 5, 3) := by decide +kernel
theorem d_Law_law_200 : decode c_Law_law 200 = .ok (.iconst 0, 1) := by decide +kernel
theorem d_Law_law_201 : decode c_Law_law 201 = .ok (.ireturn, 1) := by decide +kernel
theorem d_Law_law_202 : decode c_Law_law 202 = .ok (.iload 5, 2) := by decide +kernel
theorem d_Law_law_204 : decode c_Law_law 204 = .ok (.ifCond .ne 15, 3) := by decide +kernel
theorem d_Law_law_207 : decode c_Law_law 207 = .ok (.aload_n 3, 1) := by decide +kernel
theorem d_Law_law_208 : decode c_Law_law 208 = .ok (.iconst 0, 1) := by decide +kernel
theorem d_Law_law_209 : decode c_Law_law 209 = .ok (.laload, 1) := by decide +kernel
theorem d_Law_law_210 : decode c_Law_law 210 = .ok (.iload 6, 2) := by decide +kernel
theorem d_Law_law_212 : decode c_Law_law 212 = .ok (.i2l, 1) := by decide +kernel
theorem d_Law_law_213 : decode c_Law_law 213 = .ok (.lcmp, 1) := by decide +kernel
theorem d_Law_law_214 : decode c_Law_law 214 = .ok (.ifCond .eq 5, 3) := by decide +kernel
theorem d_Law_law_217 : decode c_Law_law 217 = .ok (.iconst 0, 1) := by decide +kernel
theorem d_Law_law_218 : decode c_Law_law 218 = .ok (.ireturn, 1) := by decide +kernel
theorem d_Law_law_219 : decode c_Law_law 219 = .ok (.goto 573, 3) := by decide +kernel
theorem d_Law_law_222 : decode c_Law_law 222 = .ok (.aload_n 1, 1) := by decide +kernel
theorem d_Law_law_223 : decode c_Law_law 223 = .ok (.aload_n 0, 1) := by decide +kernel
theorem d_Law_law_224 : decode c_Law_law 224 = .ok (.iload 4, 2) := by decide +kernel
theorem d_Law_law_226 : decode c_Law_law 226 = .ok (.iconst 1, 1) := by decide +kernel
theorem d_Law_law_227 : decode c_Law_law 227 = .ok (.iadd, 1) := by decide +kernel
theorem d_Law_law_228 : decode c_Law_law 228 = .ok (.iaload, 1) := by decide +kernel
theorem d_Law_law_229 : decode c_Law_law 229 = .ok (.aload_n 0, 1) := by decide +kernel
theorem d_Law_law_230 : decode c_Law_law 230 = .ok (.iload 4, 2) := by decide +kernel
theorem d_Law_law_232 : decode c_Law_law 232 = .ok (.iconst 2, 1) := by decide +kernel
theorem d_Law_law_233 : decode c_Law_law 233 = .ok (.iadd, 1) := by decide +kernel
theorem d_Law_law_234 : decode c_Law_law 234 = .ok (.iaload, 1) := by decide +kernel
theorem d_Law_law_235 : decode c_Law_law 235 = .ok (.invokestatic 67, 3) := by decide +kernel
theorem d_Law_law_238 : decode c_Law_law 238 = .ok (.istore 5, 2) := by decide +kernel
theorem d_Law_law_240 : decode c_Law_law 240 = .ok (.aload_n 2, 1) := by decide +kernel
theorem d_Law_law_241 : decode c_Law_law 241 = .ok (.aload_n 0, 1) := by decide +kernel
theorem d_Law_law_242 : decode c_Law_law 242 = .ok (.iload 4, 2) := by decide +kernel
theorem d_Law_law_244 : decode c_Law_law 244 = .ok (.iconst 1, 1) := by decide +kernel
theorem d_Law_law_245 : decode c_Law_law 245 = .ok (.iadd, 1) := by decide +kernel
theorem d_Law_law_246 : decode c_Law_law 246 = .ok (.iaload, 1) := by decide +kernel
theorem d_Law_law_247 : decode c_Law_law 247 = .ok (.aload_n 0, 1) := by decide +kernel
theorem d_Law_law_248 : decode c_Law_law 248 = .ok (.iload 4, 2) := by decide +kernel
theorem d_Law_law_250 : decode c_Law_law 250 = .ok (.iconst 2, 1) := by decide +kernel
theorem d_Law_law_251 : decode c_Law_law 251 = .ok (.iadd, 1) := by decide +kernel
theorem d_Law_law_252 : decode c_Law_law 252 = .ok (.iaload, 1) := by decide +kernel
theorem d_Law_law_253 : decode c_Law_law 253 = .ok (.invokevirtual 70, 3) := by decide +kernel
theorem d_Law_law_256 : decode c_Law_law 256 = .ok (.aload_n 2, 1) := by decide +kernel
theorem d_Law_law_257 : decode c_Law_law 257 = .ok (.invokevirtual 63, 3) := by decide +kernel
theorem d_Law_law_260 : decode c_Law_law 260 = .ok (.iload 5, 2) := by decide +kernel
theorem d_Law_law_262 : decode c_Law_law 262 = .ok (.if_icmp .eq 5, 3) := by decide +kernel
theorem d_Law_law_265 : decode c_Law_law 265 = .ok (.iconst 0, 1) := by decide +kernel
theorem d_Law_law_266 : decode c_Law_law 266 = .ok (.ireturn, 1) := by decide +kernel
theorem d_Law_law_267 : decode c_Law_law 267 = .ok (.goto 525, 3) := by decide +kernel
theorem d_Law_law_270 : decode c_Law_law 270 = .ok (.aload_n 1, 1) := by decide +kernel
theorem d_Law_law_271 : decode c_Law_law 271 = .ok (.aload_n 0, 1) := by decide +kernel
theorem d_Law_law_272 : decode c_Law_law 272 = .ok (.iload 4, 2) := by decide +kernel
theorem d_Law_law_274 : decode c_Law_law 274 = .ok (.iconst 1, 1) := by decide +kernel
theorem d_Law_law_275 : decode c_Law_law 275 = .ok (.iadd, 1) := by decide +kernel
theorem d_Law_law_276 : decode c_Law_law 276 = .ok (.iaload, 1) := by decide +kernel
theorem d_Law_law_277 : decode c_Law_law 277 = .ok (.aload_n 0, 1) := by decide +kernel
theorem d_Law_law_278 : decode c_Law_law 278 = .ok (.iload 4, 2) := by decide +kernel
theorem d_Law_law_280 : decode c_Law_law 280 = .ok (.iconst 2, 1) := by decide +kernel
theorem d_Law_law_281 : decode c_Law_law 281 = .ok (.iadd, 1) := by decide +kernel
theorem d_Law_law_282 : decode c_Law_law 282 = .ok (.iaload, 1) := by decide +kernel
theorem d_Law_law_283 : decode c_Law_law 283 = .ok (.aload_n 0, 1) := by decide +kernel
theorem d_Law_law_284 : decode c_Law_law 284 = .ok (.iload 4, 2) := by decide +kernel
theorem d_Law_law_286 : decode c_Law_law 286 = .ok (.iconst 3, 1) := by decide +kernel
theorem d_Law_law_287 : decode c_Law_law 287 = .ok (.iadd, 1) := by decide +kernel
theorem d_Law_law_288 : decode c_Law_law 288 = .ok (.iaload, 1) := by decide +kernel
theorem d_Law_law_289 : decode c_Law_law 289 = .ok (.aload_n 0, 1) := by decide +kernel
theorem d_Law_law_290 : decode c_Law_law 290 = .ok (.iload 4, 2) := by decide +kernel
theorem d_Law_law_292 : decode c_Law_law 292 = .ok (.iconst 4, 1) := by decide +kernel
theorem d_Law_law_293 : decode c_Law_law 293 = .ok (.iadd, 1) := by decide +kernel
theorem d_Law_law_294 : decode c_Law_law 294 = .ok (.iaload, 1) := by decide +kernel
theorem d_Law_law_295 : decode c_Law_law 295 = .ok (.aload_n 0, 1) := by decide +kernel
theorem d_Law_law_296 : decode c_Law_law 296 = .ok (.iload 4, 2) := by decide +kernel
theorem d_Law_law_298 : decode c_Law_law 298 = .ok (.iconst 5, 1) := by decide +kernel
theorem d_Law_law_299 : decode c_Law_law 299 = .ok (.iadd, 1) := by decide +kernel
theorem d_Law_law_300 : decode c_Law_law 300 = .ok (.iaload, 1) := by decide +kernel
theorem d_Law_law_301 : decode c_Law_law 301 = .ok (.invokestatic 71, 3) := by decide +kernel
theorem d_Law_law_304 : decode c_Law_law 304 = .ok (.istore 5, 2) := by decide +kernel
theorem d_Law_law_306 : decode c_Law_law 306 = .ok (.aload_n 2, 1) := by decide +kernel
theorem d_Law_law_307 : decode c_Law_law 307 = .ok (.aload_n 0, 1) := by decide +kernel
theorem d_Law_law_308 : decode c_Law_law 308 = .ok (.iload 4, 2) := by decide +kernel
theorem d_Law_law_310 : decode c_Law_law 310 = .ok (.iconst 1, 1) := by decide +kernel
theorem d_Law_law_311 : decode c_Law_law 311 = .ok (.iadd, 1) := by decide +kernel
theorem d_Law_law_312 : decode c_Law_law 312 = .ok (.iaload, 1) := by decide +kernel
theorem d_Law_law_313 : decode c_Law_law 313 = .ok (.aload_n 0, 1) := by decide +kernel
theorem d_Law_law_314 : decode c_Law_law 314 = .ok (.iload 4, 2) := by decide +kernel
theorem d_Law_law_316 : decode c_Law_law 316 = .ok (.iconst 2, 1) := by decide +kernel
theorem d_Law_law_317 : decode c_Law_law 317 = .ok (.iadd, 1) := by decide +kernel
theorem d_Law_law_318 : decode c_Law_law 318 = .ok (.iaload, 1) := by decide +kernel
theorem d_Law_law_319 : decode c_Law_law 319 = .ok (.aload_n 0, 1) := by decide +kernel
theorem d_Law_law_320 : decode c_Law_law 320 = .ok (.iload 4, 2) := by decide +kernel
theorem d_Law_law_322 : decode c_Law_law 322 = .ok (.iconst 3, 1) := by decide +kernel
theorem d_Law_law_323 : decode c_Law_law 323 = .ok (.iadd, 1) := by decide +kernel
theorem d_Law_law_324 : decode c_Law_law 324 = .ok (.iaload, 1) := by decide +kernel
theorem d_Law_law_325 : decode c_Law_law 325 = .ok (.aload_n 0, 1) := by decide +kernel
theorem d_Law_law_326 : decode c_Law_law 326 = .ok (.iload 4, 2) := by decide +kernel
theorem d_Law_law_328 : decode c_Law_law 328 = .ok (.iconst 4, 1) := by decide +kernel
theorem d_Law_law_329 : decode c_Law_law 329 = .ok (.iadd, 1) := by decide +kernel
theorem d_Law_law_330 : decode c_Law_law 330 = .ok (.iaload, 1) := by decide +kernel
theorem d_Law_law_331 : decode c_Law_law 331 = .ok (.aload_n 0, 1) := by decide +kernel
theorem d_Law_law_332 : decode c_Law_law 332 = .ok (.iload 4, 2) := by decide +kernel
theorem d_Law_law_334 : decode c_Law_law 334 = .ok (.iconst 5, 1) := by decide +kernel
theorem d_Law_law_335 : decode c_Law_law 335 = .ok (.iadd, 1) := by decide +kernel
theorem d_Law_law_336 : decode c_Law_law 336 = .ok (.iaload, 1) := by decide +kernel
theorem d_Law_law_337 : decode c_Law_law 337 = .ok (.invokevirtual 74, 3) := by decide +kernel
theorem d_Law_law_340 : decode c_Law_law 340 = .ok (.aload_n 2, 1) := by decide +kernel
theorem d_Law_law_341 : decode c_Law_law 341 = .ok (.invokevirtual 63, 3) := by decide +kernel
theorem d_Law_law_344 : decode c_Law_law 344 = .ok (.iload 5, 2) := by decide +kernel
theorem d_Law_law_346 : decode c_Law_law 346 = .ok (.if_icmp .eq 5, 3) := by decide +kernel
theorem d_Law_law_349 : decode c_Law_law 349 = .ok (.iconst 0, 1) := by decide +kernel
theorem d_Law_law_350 : decode c_Law_law 350 = .ok (.ireturn, 1) := by decide +kernel
theorem d_Law_law_351 : decode c_Law_law 351 = .ok (.goto 441, 3) := by decide +kernel
theorem d_Law_law_354 : decode c_Law_law 354 = .ok (.aload_n 1, 1) := by decide +kernel
theorem d_Law_law_355 : decode c_Law_law 355 = .ok (.aload_n 0, 1) := by decide +kernel
theorem d_Law_law_356 : decode c_Law_law 356 = .ok (.iload 4, 2) := by decide +kernel
theorem d_Law_law_358 : decode c_Law_law 358 = .ok (.iconst 1, 1) := by decide +kernel
theorem d_Law_law_359 : decode c_Law_law 359 = .ok (.iadd, 1) := by decide +kernel
theorem d_Law_law_360 : decode c_Law_law 360 = .ok (.iaload, 1) := by decide +kernel
theorem d_Law_law_361 : decode c_Law_law 361 = .ok (.aload_n 0, 1) := by decide +kernel
theorem d_Law_law_362 : decode c_Law_law 362 = .ok (.iload 4, 2) := by decide +kernel
theorem d_Law_law_364 : decode c_Law_law 364 = .ok (.iconst 2, 1) := by decide +kernel
theorem d_Law_law_365 : decode c_Law_law 365 = .ok (.iadd, 1) := by decide +kernel
theorem d_Law_law_366 : decode c_Law_law 366 = .ok (.iaload, 1) := by decide +kernel
theorem d_Law_law_367 : decode c_Law_law 367 = .ok (.invokestatic 75, 3) := by decide +kernel
theorem d_Law_law_370 : decode c_Law_law 370 = .ok (.istore 5, 2) := by decide +kernel
theorem d_Law_law_372 : decode c_Law_law 372 = .ok (.aload_n 2, 1) := by decide +kernel
theorem d_Law_law_373 : decode c_Law_law 373 = .ok (.aload_n 0, 1) := by decide +kernel
theorem d_Law_law_374 : decode c_Law_law 374 = .ok (.iload 4, 2) := by decide +kernel
theorem d_Law_law_376 : decode c_Law_law 376 = .ok (.iconst 1, 1) := by decide +kernel
theorem d_Law_law_377 : decode c_Law_law 377 = .ok (.iadd, 1) := by decide +kernel
theorem d_Law_law_378 : decode c_Law_law 378 = .ok (.iaload, 1) := by decide +kernel
theorem d_Law_law_379 : decode c_Law_law 379 = .ok (.aload_n 0, 1) := by decide +kernel
theorem d_Law_law_380 : decode c_Law_law 380 = .ok (.iload 4, 2) := by decide +kernel
theorem d_Law_law_382 : decode c_Law_law 382 = .ok (.iconst 2, 1) := by decide +kernel
theorem d_Law_law_383 : decode c_Law_law 383 = .ok (.iadd, 1) := by decide +kernel
theorem d_Law_law_384 : decode c_Law_law 384 = .ok (.iaload, 1) := by decide +kernel
theorem d_Law_law_385 : decode c_Law_law 385 = .ok (.invokevirtual 77, 3) := by decide +kernel
theorem d_Law_law_388 : decode c_Law_law 388 = .ok (.aload_n 2, 1) := by decide +kernel
theorem d_Law_law_389 : decode c_Law_law 389 = .ok (.invokevirtual 63, 3) := by decide +kernel
theorem d_Law_law_392 : decode c_Law_law 392 = .ok (.iload 5, 2) := by decide +kernel
theorem d_Law_law_394 : decode c_Law_law 394 = .ok (.if_icmp .eq 5, 3) := by decide +kernel
theorem d_Law_law_397 : decode c_Law_law 397 = .ok (.iconst 0, 1) := by decide +kernel
theorem d_Law_law_398 : decode c_Law_law 398 = .ok (.ireturn, 1) := by decide +kernel
theorem d_Law_law_399 : decode c_Law_law 399 = .ok (.goto 393, 3) := by decide +kernel
theorem d_Law_law_402 : decode c_Law_law 402 = .ok (.aload_n 1, 1) := by decide +kernel
theorem d_Law_law_403 : decode c_Law_law 403 = .ok (.aload_n 0, 1) := by decide +kernel
theorem d_Law_law_404 : decode c_Law_law 404 = .ok (.iload 4, 2) := by decide +kernel
theorem d_Law_law_406 : decode c_Law_law 406 = .ok (.iconst 1, 1) := by decide +kernel
theorem d_Law_law_407 : decode c_Law_law 407 = .ok (.iadd, 1) := by decide +kernel
theorem d_Law_law_408 : decode c_Law_law 408 = .ok (.iaload, 1) := by decide +kernel
theorem d_Law_law_409 : decode c_Law_law 409 = .ok (.aload_n 0, 1) := by decide +kernel
theorem d_Law_law_410 : decode c_Law_law 410 = .ok (.iload 4, 2) := by decide +kernel
theorem d_Law_law_412 : decode c_Law_law 412 = .ok (.iconst 2, 1) := by decide +kernel
theorem d_Law_law_413 : decode c_Law_law 413 = .ok (.iadd, 1) := by decide +kernel
theorem d_Law_law_414 : decode c_Law_law 414 = .ok (.iaload, 1) := by decide +kernel
theorem d_Law_law_415 : decode c_Law_law 415 = .ok (.aload_n 0, 1) := by decide +kernel
theorem d_Law_law_416 : decode c_Law_law 416 = .ok (.iload 4, 2) := by decide +kernel
theorem d_Law_law_418 : decode c_Law_law 418 = .ok (.iconst 3, 1) := by decide +kernel
theorem d_Law_law_419 : decode c_Law_law 419 = .ok (.iadd, 1) := by decide +kernel
theorem d_Law_law_420 : decode c_Law_law 420 = .ok (.iaload, 1) := by decide +kernel
theorem d_Law_law_421 : decode c_Law_law 421 = .ok (.invokestatic 78, 3) := by decide +kernel
theorem d_Law_law_424 : decode c_Law_law 424 = .ok (.istore 5, 2) := by decide +kernel
theorem d_Law_law_426 : decode c_Law_law 426 = .ok (.aload_n 2, 1) := by decide +kernel
theorem d_Law_law_427 : decode c_Law_law 427 = .ok (.aload_n 0, 1) := by decide +kernel
theorem d_Law_law_428 : decode c_Law_law 428 = .ok (.iload 4, 2) := by decide +kernel
theorem d_Law_law_430 : decode c_Law_law 430 = .ok (.iconst 1, 1) := by decide +kernel
theorem d_Law_law_431 : decode c_Law_law 431 = .ok (.iadd, 1) := by decide +kernel
theorem d_Law_law_432 : decode c_Law_law 432 = .ok (.iaload, 1) := by decide +kernel
theorem d_Law_law_433 : decode c_Law_law 433 = .ok (.aload_n 0, 1) := by decide +kernel
theorem d_Law_law_434 : decode c_Law_law 434 = .ok (.iload 4, 2) := by decide +kernel
theorem d_Law_law_436 : decode c_Law_law 436 = .ok (.iconst 2, 1) := by decide +kernel
theorem d_Law_law_437 : decode c_Law_law 437 = .ok (.iadd, 1) := by decide +kernel
theorem d_Law_law_438 : decode c_Law_law 438 = .ok (.iaload, 1) := by decide +kernel
theorem d_Law_law_439 : decode c_Law_law 439 = .ok (.aload_n 0, 1) := by decide +kernel
theorem d_Law_law_440 : decode c_Law_law 440 = .ok (.iload 4, 2) := by decide +kernel
theorem d_Law_law_442 : decode c_Law_law 442 = .ok (.iconst 3, 1) := by decide +kernel
theorem d_Law_law_443 : decode c_Law_law 443 = .ok (.iadd, 1) := by decide +kernel
theorem d_Law_law_444 : decode c_Law_law 444 = .ok (.iaload, 1) := by decide +kernel
theorem d_Law_law_445 : decode c_Law_law 445 = .ok (.invokevirtual 81, 3) := by decide +kernel
theorem d_Law_law_448 : decode c_Law_law 448 = .ok (.aload_n 2, 1) := by decide +kernel
theorem d_Law_law_449 : decode c_Law_law 449 = .ok (.invokevirtual 63, 3) := by decide +kernel
theorem d_Law_law_452 : decode c_Law_law 452 = .ok (.iload 5, 2) := by decide +kernel
theorem d_Law_law_454 : decode c_Law_law 454 = .ok (.if_icmp .eq 5, 3) := by decide +kernel
theorem d_Law_law_457 : decode c_Law_law 457 = .ok (.iconst 0, 1) := by decide +kernel
theorem d_Law_law_458 : decode c_Law_law 458 = .ok (.ireturn, 1) := by decide +kernel
theorem d_Law_law_459 : decode c_Law_law 459 = .ok (.goto 333, 3) := by decide +kernel
theorem d_Law_law_462 : decode c_Law_law 462 = .ok (.aload_n 1, 1) := by decide +kernel
theorem d_Law_law_463 : decode c_Law_law 463 = .ok (.aload_n 0, 1) := by decide +kernel
theorem d_Law_law_464 : decode c_Law_law 464 = .ok (.iload 4, 2) := by decide +kernel
theorem d_Law_law_466 : decode c_Law_law 466 = .ok (.iconst 1, 1) := by decide +kernel
theorem d_Law_law_467 : decode c_Law_law 467 = .ok (.iadd, 1) := by decide +kernel
theorem d_Law_law_468 : decode c_Law_law 468 = .ok (.iaload, 1) := by decide +kernel
theorem d_Law_law_469 : decode c_Law_law 469 = .ok (.aload_n 3, 1) := by decide +kernel
theorem d_Law_law_470 : decode c_Law_law 470 = .ok (.invokestatic 82, 3) := by decide +kernel
theorem d_Law_law_473 : decode c_Law_law 473 = .ok (.istore 5, 2) := by decide +kernel
theorem d_Law_law_475 : decode c_Law_law 475 = .ok (.aload_n 2, 1) := by decide +kernel
theorem d_Law_law_476 : decode c_Law_law 476 = .ok (.aload_n 0, 1) := by decide +kernel
theorem d_Law_law_477 : decode c_Law_law 477 = .ok (.iload 4, 2) := by decide +kernel
theorem d_Law_law_479 : decode c_Law_law 479 = .ok (.iconst 1, 1) := by decide +kernel
theorem d_Law_law_480 : decode c_Law_law 480 = .ok (.iadd, 1) := by decide +kernel
theorem d_Law_law_481 : decode c_Law_law 481 = .ok (.iaload, 1) := by decide +kernel
theorem d_Law_law_482 : decode c_Law_law 482 = .ok (.invokevirtual 85, 3) := by decide +kernel
theorem d_Law_law_485 : decode c_Law_law 485 = .ok (.istore 6, 2) := by decide +kernel
theorem d_Law_law_487 : decode c_Law_law 487 = .ok (.aload_n 2, 1) := by decide +kernel
theorem d_Law_law_488 : decode c_Law_law 488 = .ok (.invokevirtual 63, 3) := by decide +kernel
theorem d_Law_law_491 : decode c_Law_law 491 = .ok (.iload 5, 2) := by decide +kernel
theorem d_Law_law_493 : decode c_Law_law 493 = .ok (.if_icmp .eq 5, 3) := by decide +kernel
theorem d_Law_law_496 : decode c_Law_law 496 = .ok (.iconst 0, 1) := by decide +kernel
theorem d_Law_law_497 : decode c_Law_law 497 = .ok (.ireturn, 1) := by decide +kernel
theorem d_Law_law_498 : decode c_Law_law 498 = .ok (.iload 5, 2) := by decide +kernel
theorem d_Law_law_500 : decode c_Law_law 500 = .ok (.ifCond .ne 15, 3) := by decide +kernel
theorem d_Law_law_503 : decode c_Law_law 503 = .ok (.aload_n 3, 1) := by decide +kernel
theorem d_Law_law_504 : decode c_Law_law 504 = .ok (.iconst 0, 1) := by decide +kernel
theorem d_Law_law_505 : decode c_Law_law 505 = .ok (.laload, 1) := by decide +kernel
theorem d_Law_law_506 : decode c_Law_law 506 = .ok (.iload 6, 2) := by decide +kernel
theorem d_Law_law_508 : decode c_Law_law 508 = .ok (.i2l, 1) := by decide +kernel
theorem d_Law_law_509 : decode c_Law_law 509 = .ok (.lcmp, 1) := by decide +kernel
theorem d_Law_law_510 : decode c_Law_law 510 = .ok (.ifCond .eq 5, 3) := by decide +kernel
theorem d_Law_law_513 : decode c_Law_law 513 = .ok (.iconst 0, 1) := by decide +kernel
theorem d_Law_law_514 : decode c_Law_law 514 = .ok (.ireturn, 1) := by decide +kernel
theorem d_Law_law_515 : decode c_Law_law 515 = .ok (.goto 277, 3) := by decide +kernel
theorem d_Law_law_518 : decode c_Law_law 518 = .ok (.aload_n 1, 1) := by decide +kernel
theorem d_Law_law_519 : decode c_Law_law 519 = .ok (.aload_n 0, 1) := by decide +kernel
theorem d_Law_law_520 : decode c_Law_law 520 = .ok (.iload 4, 2) := by decide +kernel
theorem d_Law_law_522 : decode c_Law_law 522 = .ok (.iconst 1, 1) := by decide +kernel
theorem d_Law_law_523 : decode c_Law_law 523 = .ok (.iadd, 1) := by decide +kernel
theorem d_Law_law_524 : decode c_Law_law 524 = .ok (.iaload, 1) := by decide +kernel
theorem d_Law_law_525 : decode c_Law_law 525 = .ok (.aload_n 3, 1) := by decide +kernel
theorem d_Law_law_526 : decode c_Law_law 526 = .ok (.invokestatic 86, 3) := by decide +kernel
theorem d_Law_law_529 : decode c_Law_law 529 = .ok (.istore 5, 2) := by decide +kernel
theorem d_Law_law_531 : decode c_Law_law 531 = .ok (.aload_n 2, 1) := by decide +kernel
theorem d_Law_law_532 : decode c_Law_law 532 = .ok (.aload_n 0, 1) := by decide +kernel
theorem d_Law_law_533 : decode c_Law_law 533 = .ok (.iload 4, 2) := by decide +kernel
theorem d_Law_law_535 : decode c_Law_law 535 = .ok (.iconst 1, 1) := by decide +kernel
theorem d_Law_law_536 : decode c_Law_law 536 = .ok (.iadd, 1) := by decide +kernel
theorem d_Law_law_537 : decode c_Law_law 537 = .ok (.iaload, 1) := by decide +kernel
theorem d_Law_law_538 : decode c_Law_law 538 = .ok (.invokevirtual 88, 3) := by decide +kernel
theorem d_Law_law_541 : decode c_Law_law 541 = .ok (.istore 6, 2) := by decide +kernel
theorem d_Law_law_543 : decode c_Law_law 543 = .ok (.aload_n 2, 1) := by decide +kernel
theorem d_Law_law_544 : decode c_Law_law 544 = .ok (.invokevirtual 63, 3) := by decide +kernel
theorem d_Law_law_547 : decode c_Law_law 547 = .ok (.iload 5, 2) := by decide +kernel
theorem d_Law_law_549 : decode c_Law_law 549 = .ok (.if_icmp .eq 5, 3) := by decide +kernel
theorem d_Law_law_552 : decode c_Law_law 552 = .ok (.iconst 0, 1) := by decide +kernel
theorem d_Law_law_553 : decode c_Law_law 553 = .ok (.ireturn, 1) := by decide +kernel
theorem d_Law_law_554 : decode c_Law_law 554 = .ok (.iload 5, 2) := by decide +kernel
theorem d_Law_law_556 : decode c_Law_law 556 = .ok (.ifCond .ne 15, 3) := by decide +kernel
theorem d_Law_law_559 : decode c_Law_law 559 = .ok (.aload_n 3, 1) := by decide +kernel
theorem d_Law_law_560 : decode c_Law_law 560 = .ok (.iconst 0, 1) := by decide +kernel
theorem d_Law_law_561 : decode c_Law_law 561 = .ok (.laload, 1) := by decide +kernel
theorem d_Law_law_562 : decode c_Law_law 562 = .ok (.iload 6, 2) := by decide +kernel
theorem d_Law_law_564 : decode c_Law_law 564 = .ok (.i2l, 1) := by decide +kernel
theorem d_Law_law_565 : decode c_Law_law 565 = .ok (.lcmp, 1) := by decide +kernel
theorem d_Law_law_566 : decode c_Law_law 566 = .ok (.ifCond .eq 5, 3) := by decide +kernel
theorem d_Law_law_569 : decode c_Law_law 569 = .ok (.iconst 0, 1) := by decide +kernel
theorem d_Law_law_570 : decode c_Law_law 570 = .ok (.ireturn, 1) := by decide +kernel
theorem d_Law_law_571 : decode c_Law_law 571 = .ok (.goto 221, 3) := by decide +kernel
theorem d_Law_law_574 : decode c_Law_law 574 = .ok (.aload_n 1, 1) := by decide +kernel
theorem d_Law_law_575 : decode c_Law_law 575 = .ok (.aload_n 0, 1) := by decide +kernel
theorem d_Law_law_576 : decode c_Law_law 576 = .ok (.iload 4, 2) := by decide +kernel
theorem d_Law_law_578 : decode c_Law_law 578 = .ok (.iconst 1, 1) := by decide +kernel
theorem d_Law_law_579 : decode c_Law_law 579 = .ok (.iadd, 1) := by decide +kernel
theorem d_Law_law_580 : decode c_Law_law 580 = .ok (.iaload, 1) := by decide +kernel
theorem d_Law_law_581 : decode c_Law_law 581 = .ok (.aload_n 0, 1) := by decide +kernel
theorem d_Law_law_582 : decode c_Law_law 582 = .ok (.iload 4, 2) := by decide +kernel
theorem d_Law_law_584 : decode c_Law_law 584 = .ok (.iconst 2, 1) := by decide +kernel
theorem d_Law_law_585 : decode c_Law_law 585 = .ok (.iadd, 1) := by decide +kernel
theorem d_Law_law_586 : decode c_Law_law 586 = .ok (.iaload, 1) := by decide +kernel
theorem d_Law_law_587 : decode c_Law_law 587 = .ok (.aload_n 3, 1) := by decide +kernel
theorem d_Law_law_588 : decode c_Law_law 588 = .ok (.invokestatic 89, 3) := by decide +kernel
theorem d_Law_law_591 : decode c_Law_law 591 = .ok (.istore 5, 2) := by decide +kernel
theorem d_Law_law_593 : decode c_Law_law 593 = .ok (.aload_n 2, 1) := by decide +kernel
theorem d_Law_law_594 : decode c_Law_law 594 = .ok (.aload_n 0, 1) := by decide +kernel
theorem d_Law_law_595 : decode c_Law_law 595 = .ok (.iload 4, 2) := by decide +kernel
theorem d_Law_law_597 : decode c_Law_law 597 = .ok (.iconst 1, 1) := by decide +kernel
theorem d_Law_law_598 : decode c_Law_law 598 = .ok (.iadd, 1) := by decide +kernel
theorem d_Law_law_599 : decode c_Law_law 599 = .ok (.iaload, 1) := by decide +kernel
theorem d_Law_law_600 : decode c_Law_law 600 = .ok (.aload_n 0, 1) := by decide +kernel
theorem d_Law_law_601 : decode c_Law_law 601 = .ok (.iload 4, 2) := by decide +kernel
theorem d_Law_law_603 : decode c_Law_law 603 = .ok (.iconst 2, 1) := by decide +kernel
theorem d_Law_law_604 : decode c_Law_law 604 = .ok (.iadd, 1) := by decide +kernel
theorem d_Law_law_605 : decode c_Law_law 605 = .ok (.iaload, 1) := by decide +kernel
theorem d_Law_law_606 : decode c_Law_law 606 = .ok (.invokevirtual 92, 3) := by decide +kernel
theorem d_Law_law_609 : decode c_Law_law 609 = .ok (.istore 6, 2) := by decide +kernel
theorem d_Law_law_611 : decode c_Law_law 611 = .ok (.aload_n 2, 1) := by decide +kernel
theorem d_Law_law_612 : decode c_Law_law 612 = .ok (.invokevirtual 63, 3) := by decide +kernel
theorem d_Law_law_615 : decode c_Law_law 615 = .ok (.iload 5, 2) := by decide +kernel
theorem d_Law_law_617 : decode c_Law_law 617 = .ok (.if_icmp .eq 5, 3) := by decide +kernel
theorem d_Law_law_620 : decode c_Law_law 620 = .ok (.iconst 0, 1) := by decide +kernel
theorem d_Law_law_621 : decode c_Law_law 621 = .ok (.ireturn, 1) := by decide +kernel
theorem d_Law_law_622 : decode c_Law_law 622 = .ok (.iload 5, 2) := by decide +kernel
theorem d_Law_law_624 : decode c_Law_law 624 = .ok (.ifCond .ne 15, 3) := by decide +kernel
theorem d_Law_law_627 : decode c_Law_law 627 = .ok (.aload_n 3, 1) := by decide +kernel
theorem d_Law_law_628 : decode c_Law_law 628 = .ok (.iconst 0, 1) := by decide +kernel
theorem d_Law_law_629 : decode c_Law_law 629 = .ok (.laload, 1) := by decide +kernel
theorem d_Law_law_630 : decode c_Law_law 630 = .ok (.iload 6, 2) := by decide +kernel
theorem d_Law_law_632 : decode c_Law_law 632 = .ok (.i2l, 1) := by decide +kernel
theorem d_Law_law_633 : decode c_Law_law 633 = .ok (.lcmp, 1) := by decide +kernel
theorem d_Law_law_634 : decode c_Law_law 634 = .ok (.ifCond .eq 5, 3) := by decide +kernel
theorem d_Law_law_637 : decode c_Law_law 637 = .ok (.iconst 0, 1) := by decide +kernel
theorem d_Law_law_638 : decode c_Law_law 638 = .ok (.ireturn, 1) := by decide +kernel
theorem d_Law_law_639 : decode c_Law_law 639 = .ok (.goto 153, 3) := by decide +kernel
theorem d_Law_law_642 : decode c_Law_law 642 = .ok (.aload_n 1, 1) := by decide +kernel
theorem d_Law_law_643 : decode c_Law_law 643 = .ok (.aload_n 0, 1) := by decide +kernel
theorem d_Law_law_644 : decode c_Law_law 644 = .ok (.iload 4, 2) := by decide +kernel
theorem d_Law_law_646 : decode c_Law_law 646 = .ok (.iconst 1, 1) := by decide +kernel
theorem d_Law_law_647 : decode c_Law_law 647 = .ok (.iadd, 1) := by decide +kernel
theorem d_Law_law_648 : decode c_Law_law 648 = .ok (.iaload, 1) := by decide +kernel
theorem d_Law_law_649 : decode c_Law_law 649 = .ok (.aload_n 3, 1) := by decide +kernel
theorem d_Law_law_650 : decode c_Law_law 650 = .ok (.invokestatic 93, 3) := by decide +kernel
theorem d_Law_law_653 : decode c_Law_law 653 = .ok (.istore 5, 2) := by decide +kernel
theorem d_Law_law_655 : decode c_Law_law 655 = .ok (.aload_n 2, 1) := by decide +kernel
theorem d_Law_law_656 : decode c_Law_law 656 = .ok (.aload_n 0, 1) := by decide +kernel
theorem d_Law_law_657 : decode c_Law_law 657 = .ok (.iload 4, 2) := by decide +kernel
theorem d_Law_law_659 : decode c_Law_law 659 = .ok (.iconst 1, 1) := by decide +kernel
theorem d_Law_law_660 : decode c_Law_law 660 = .ok (.iadd, 1) := by decide +kernel
theorem d_Law_law_661 : decode c_Law_law 661 = .ok (.iaload, 1) := by decide +kernel
theorem d_Law_law_662 : decode c_Law_law 662 = .ok (.invokevirtual 95, 3) := by decide +kernel
theorem d_Law_law_665 : decode c_Law_law 665 = .ok (.istore 6, 2) := by decide +kernel
theorem d_Law_law_667 : decode c_Law_law 667 = .ok (.aload_n 2, 1) := by decide +kernel
theorem d_Law_law_668 : decode c_Law_law 668 = .ok (.invokevirtual 63, 3) := by decide +kernel
theorem d_Law_law_671 : decode c_Law_law 671 = .ok (.iload 5, 2) := by decide +kernel
theorem d_Law_law_673 : decode c_Law_law 673 = .ok (.if_icmp .eq 5, 3) := by decide +kernel
theorem d_Law_law_676 : decode c_Law_law 676 = .ok (.iconst 0, 1) := by decide +kernel
theorem d_Law_law_677 : decode c_Law_law 677 = .ok (.ireturn, 1) := by decide +kernel
theorem d_Law_law_678 : decode c_Law_law 678 = .ok (.iload 5, 2) := by decide +kernel
theorem d_Law_law_680 : decode c_Law_law 680 = .ok (.ifCond .ne 15, 3) := by decide +kernel
theorem d_Law_law_683 : decode c_Law_law 683 = .ok (.aload_n 3, 1) := by decide +kernel
theorem d_Law_law_684 : decode c_Law_law 684 = .ok (.iconst 0, 1) := by decide +kernel
theorem d_Law_law_685 : decode c_Law_law 685 = .ok (.laload, 1) := by decide +kernel
theorem d_Law_law_686 : decode c_Law_law 686 = .ok (.iload 6, 2) := by decide +kernel
theorem d_Law_law_688 : decode c_Law_law 688 = .ok (.i2l, 1) := by decide +kernel
theorem d_Law_law_689 : decode c_Law_law 689 = .ok (.lcmp, 1) := by decide +kernel
theorem d_Law_law_690 : decode c_Law_law 690 = .ok (.ifCond .eq 5, 3) := by decide +kernel
theorem d_Law_law_693 : decode c_Law_law 693 = .ok (.iconst 0, 1) := by decide +kernel
theorem d_Law_law_694 : decode c_Law_law 694 = .ok (.ireturn, 1) := by decide +kernel
theorem d_Law_law_695 : decode c_Law_law 695 = .ok (.goto 97, 3) := by decide +kernel
theorem d_Law_law_698 : decode c_Law_law 698 = .ok (.aload_n 1, 1) := by decide +kernel
theorem d_Law_law_699 : decode c_Law_law 699 = .ok (.aload_n 0, 1) := by decide +kernel
theorem d_Law_law_700 : decode c_Law_law 700 = .ok (.iload 4, 2) := by decide +kernel
theorem d_Law_law_702 : decode c_Law_law 702 = .ok (.iconst 1, 1) := by decide +kernel
theorem d_Law_law_703 : decode c_Law_law 703 = .ok (.iadd, 1) := by decide +kernel
theorem d_Law_law_704 : decode c_Law_law 704 = .ok (.iaload, 1) := by decide +kernel
theorem d_Law_law_705 : decode c_Law_law 705 = .ok (.aload_n 0, 1) := by decide +kernel
theorem d_Law_law_706 : decode c_Law_law 706 = .ok (.iload 4, 2) := by decide +kernel
theorem d_Law_law_708 : decode c_Law_law 708 = .ok (.iconst 2, 1) := by decide +kernel
theorem d_Law_law_709 : decode c_Law_law 709 = .ok (.iadd, 1) := by decide +kernel
theorem d_Law_law_710 : decode c_Law_law 710 = .ok (.iaload, 1) := by decide +kernel
theorem d_Law_law_711 : decode c_Law_law 711 = .ok (.aload_n 3, 1) := by decide +kernel
theorem d_Law_law_712 : decode c_Law_law 712 = .ok (.invokestatic 96, 3) := by decide +kernel
theorem d_Law_law_715 : decode c_Law_law 715 = .ok (.istore 5, 2) := by decide +kernel
theorem d_Law_law_717 : decode c_Law_law 717 = .ok (.aload_n 2, 1) := by decide +kernel
theorem d_Law_law_718 : decode c_Law_law 718 = .ok (.aload_n 0, 1) := by decide +kernel
theorem d_Law_law_719 : decode c_Law_law 719 = .ok (.iload 4, 2) := by decide +kernel
theorem d_Law_law_721 : decode c_Law_law 721 = .ok (.iconst 1, 1) := by decide +kernel
theorem d_Law_law_722 : decode c_Law_law 722 = .ok (.iadd, 1) := by decide +kernel
theorem d_Law_law_723 : decode c_Law_law 723 = .ok (.iaload, 1) := by decide +kernel
theorem d_Law_law_724 : decode c_Law_law 724 = .ok (.aload_n 0, 1) := by decide +kernel
theorem d_Law_law_725 : decode c_Law_law 725 = .ok (.iload 4, 2) := by decide +kernel
theorem d_Law_law_727 : decode c_Law_law 727 = .ok (.iconst 2, 1) := by decide +kernel
theorem d_Law_law_728 : decode c_Law_law 728 = .ok (.iadd, 1) := by decide +kernel
theorem d_Law_law_729 : decode c_Law_law 729 = .ok (.iaload, 1) := by decide +kernel
theorem d_Law_law_730 : decode c_Law_law 730 = .ok (.invokevirtual 98, 3) := by decide +kernel
theorem d_Law_law_733 : decode c_Law_law 733 = .ok (.istore 6, 2) := by decide +kernel
theorem d_Law_law_735 : decode c_Law_law 735 = .ok (.aload_n 2, 1) := by decide +kernel
theorem d_Law_law_736 : decode c_Law_law 736 = .ok (.invokevirtual 63, 3) := by decide +kernel
theorem d_Law_law_739 : decode c_Law_law 739 = .ok (.iload 5, 2) := by decide +kernel
theorem d_Law_law_741 : decode c_Law_law 741 = .ok (.if_icmp .eq 5, 3) := by decide +kernel
theorem d_Law_law_744 : decode c_Law_law 744 = .ok (.iconst 0, 1) := by decide +kernel
theorem d_Law_law_745 : decode c_Law_law 745 = .ok (.ireturn, 1) := by decide +kernel
theorem d_Law_law_746 : decode c_Law_law 746 = .ok (.iload 5, 2) := by decide +kernel
theorem d_Law_law_748 : decode c_Law_law 748 = .ok (.ifCond .ne 15, 3) := by decide +kernel
theorem d_Law_law_751 : decode c_Law_law 751 = .ok (.aload_n 3, 1) := by decide +kernel
theorem d_Law_law_752 : decode c_Law_law 752 = .ok (.iconst 0, 1) := by decide +kernel
theorem d_Law_law_753 : decode c_Law_law 753 = .ok (.laload, 1) := by decide +kernel
theorem d_Law_law_754 : decode c_Law_law 754 = .ok (.iload 6, 2) := by decide +kernel
theorem d_Law_law_756 : decode c_Law_law 756 = .ok (.i2l, 1) := by decide +kernel
theorem d_Law_law_757 : decode c_Law_law 757 = .ok (.lcmp, 1) := by decide +kernel
theorem d_Law_law_758 : decode c_Law_law 758 = .ok (.ifCond .eq 5, 3) := by decide +kernel
theorem d_Law_law_761 : decode c_Law_law 761 = .ok (.iconst 0, 1) := by decide +kernel
theorem d_Law_law_762 : decode c_Law_law 762 = .ok (.ireturn, 1) := by decide +kernel
theorem d_Law_law_763 : decode c_Law_law 763 = .ok (.goto 29, 3) := by decide +kernel
theorem d_Law_law_766 : decode c_Law_law 766 = .ok (.aload_n 1, 1) := by decide +kernel
theorem d_Law_law_767 : decode c_Law_law 767 = .ok (.invokevirtual 99, 3) := by decide +kernel
theorem d_Law_law_770 : decode c_Law_law 770 = .ok (.aload_n 2, 1) := by decide +kernel
theorem d_Law_law_771 : decode c_Law_law 771 = .ok (.invokevirtual 102, 3) := by decide +kernel
theorem d_Law_law_774 : decode c_Law_law 774 = .ok (.if_icmp .eq 18, 3) := by decide +kernel
theorem d_Law_law_777 : decode c_Law_law 777 = .ok (.iconst 0, 1) := by decide +kernel
theorem d_Law_law_778 : decode c_Law_law 778 = .ok (.ireturn, 1) := by decide +kernel
theorem d_Law_law_779 : decode c_Law_law 779 = .ok (.aload_n 1, 1) := by decide +kernel
theorem d_Law_law_780 : decode c_Law_law 780 = .ok (.invokevirtual 103, 3) := by decide +kernel
theorem d_Law_law_783 : decode c_Law_law 783 = .ok (.aload_n 2, 1) := by decide +kernel
theorem d_Law_law_784 : decode c_Law_law 784 = .ok (.invokevirtual 106, 3) := by decide +kernel
theorem d_Law_law_787 : decode c_Law_law 787 = .ok (.if_icmp .eq 5, 3) := by decide +kernel
theorem d_Law_law_790 : decode c_Law_law 790 = .ok (.iconst 0, 1) := by decide +kernel
theorem d_Law_law_791 : decode c_Law_law 791 = .ok (.ireturn, 1) := by decide +kernel
theorem d_Law_law_792 : decode c_Law_law 792 = .ok (.iinc 4 7, 3) := by decide +kernel
theorem d_Law_law_795 : decode c_Law_law 795 = .ok (.goto (-772), 3) := by decide +kernel
theorem d_Law_law_798 : decode c_Law_law 798 = .ok (.iconst 1, 1) := by decide +kernel
theorem d_Law_law_799 : decode c_Law_law 799 = .ok (.ireturn, 1) := by decide +kernel
