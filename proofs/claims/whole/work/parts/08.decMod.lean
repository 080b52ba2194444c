/-! decode rows of HeatOrderModel -/
theorem d_Mod_init_0 : decode c_Mod_init 0 = .ok (.aload_n 0, 1) := by decide +kernel
theorem d_Mod_init_1 : decode c_Mod_init 1 = .ok (.invokespecial 1, 3) := by decide +kernel
theorem d_Mod_init_4 : decode c_Mod_init 4 = .ok (.aload_n 0, 1) := by decide +kernel
theorem d_Mod_init_5 : decode c_Mod_init 5 = .ok (.bipush 6, 2) := by decide +kernel
theorem d_Mod_init_7 : decode c_Mod_init 7 = .ok (.newarray .int, 2) := by decide +kernel
theorem d_Mod_init_9 : decode c_Mod_init 9 = .ok (.putfield 7, 3) := by decide +kernel
theorem d_Mod_init_12 : decode c_Mod_init 12 = .ok (.aload_n 0, 1) := by decide +kernel
theorem d_Mod_init_13 : decode c_Mod_init 13 = .ok (.bipush 6, 2) := by decide +kernel
theorem d_Mod_init_15 : decode c_Mod_init 15 = .ok (.newarray .int, 2) := by decide +kernel
theorem d_Mod_init_17 : decode c_Mod_init 17 = .ok (.putfield 13, 3) := by decide +kernel
theorem d_Mod_init_20 : decode c_Mod_init 20 = .ok (.aload_n 0, 1) := by decide +kernel
theorem d_Mod_init_21 : decode c_Mod_init 21 = .ok (.bipush 6, 2) := by decide +kernel
theorem d_Mod_init_23 : decode c_Mod_init 23 = .ok (.newarray .int, 2) := by decide +kernel
theorem d_Mod_init_25 : decode c_Mod_init 25 = .ok (.putfield 16, 3) := by decide +kernel
theorem d_Mod_init_28 : decode c_Mod_init 28 = .ok (.aload_n 0, 1) := by decide +kernel
theorem d_Mod_init_29 : decode c_Mod_init 29 = .ok (.bipush 6, 2) := by decide +kernel
theorem d_Mod_init_31 : decode c_Mod_init 31 = .ok (.newarray .int, 2) := by decide +kernel
theorem d_Mod_init_33 : decode c_Mod_init 33 = .ok (.putfield 19, 3) := by decide +kernel
theorem d_Mod_init_36 : decode c_Mod_init 36 = .ok (.aload_n 0, 1) := by decide +kernel
theorem d_Mod_init_37 : decode c_Mod_init 37 = .ok (.bipush 6, 2) := by decide +kernel
theorem d_Mod_init_39 : decode c_Mod_init 39 = .ok (.newarray .int, 2) := by decide +kernel
theorem d_Mod_init_41 : decode c_Mod_init 41 = .ok (.putfield 22, 3) := by decide +kernel
theorem d_Mod_init_44 : decode c_Mod_init 44 = .ok (.aload_n 0, 1) := by decide +kernel
theorem d_Mod_init_45 : decode c_Mod_init 45 = .ok (.bipush 6, 2) := by decide +kernel
theorem d_Mod_init_47 : decode c_Mod_init 47 = .ok (.newarray .int, 2) := by decide +kernel
theorem d_Mod_init_49 : decode c_Mod_init 49 = .ok (.putfield 25, 3) := by decide +kernel
theorem d_Mod_init_52 : decode c_Mod_init 52 = .ok (.aload_n 0, 1) := by decide +kernel
theorem d_Mod_init_53 : decode c_Mod_init 53 = .ok (.bipush 60, 2) := by decide +kernel
theorem d_Mod_init_55 : decode c_Mod_init 55 = .ok (.putfield 28, 3) := by decide +kernel
theorem d_Mod_init_58 : decode c_Mod_init 58 = .ok (.aload_n 0, 1) := by decide +kernel
theorem d_Mod_init_59 : decode c_Mod_init 59 = .ok (.bipush 40, 2) := by decide +kernel
theorem d_Mod_init_61 : decode c_Mod_init 61 = .ok (.putfield 32, 3) := by decide +kernel
theorem d_Mod_init_64 : decode c_Mod_init 64 = .ok (.aload_n 0, 1) := by decide +kernel
theorem d_Mod_init_65 : decode c_Mod_init 65 = .ok (.bipush 10, 2) := by decide +kernel
theorem d_Mod_init_67 : decode c_Mod_init 67 = .ok (.putfield 35, 3) := by decide +kernel
theorem d_Mod_init_70 : decode c_Mod_init 70 = .ok (.aload_n 0, 1) := by decide +kernel
theorem d_Mod_init_71 : decode c_Mod_init 71 = .ok (.iconst 4, 1) := by decide +kernel
theorem d_Mod_init_72 : decode c_Mod_init 72 = .ok (.putfield 38, 3) := by decide +kernel
theorem d_Mod_init_75 : decode c_Mod_init 75 = .ok (.aload_n 0, 1) := by decide +kernel
theorem d_Mod_init_76 : decode c_Mod_init 76 = .ok (.sipush 200, 3) := by decide +kernel
theorem d_Mod_init_79 : decode c_Mod_init 79 = .ok (.putfield 41, 3) := by decide +kernel
theorem d_Mod_init_82 : decode c_Mod_init 82 = .ok (.aload_n 0, 1) := by decide +kernel
theorem d_Mod_init_83 : decode c_Mod_init 83 = .ok (.sipush 500, 3) := by decide +kernel
theorem d_Mod_init_86 : decode c_Mod_init 86 = .ok (.putfield 44, 3) := by decide +kernel
theorem d_Mod_init_89 : decode c_Mod_init 89 = .ok (.aload_n 0, 1) := by decide +kernel
theorem d_Mod_init_90 : decode c_Mod_init 90 = .ok (.iconst 1, 1) := by decide +kernel
theorem d_Mod_init_91 : decode c_Mod_init 91 = .ok (.putfield 47, 3) := by decide +kernel
theorem d_Mod_init_94 : decode c_Mod_init 94 = .ok (.aload_n 0, 1) := by decide +kernel
theorem d_Mod_init_95 : decode c_Mod_init 95 = .ok (.bipush 36, 2) := by decide +kernel
theorem d_Mod_init_97 : decode c_Mod_init 97 = .ok (.newarray .int, 2) := by decide +kernel
theorem d_Mod_init_99 : decode c_Mod_init 99 = .ok (.putfield 50, 3) := by decide +kernel
theorem d_Mod_init_102 : decode c_Mod_init 102 = .ok (.aload_n 0, 1) := by decide +kernel
theorem d_Mod_init_103 : decode c_Mod_init 103 = .ok (.bipush 6, 2) := by decide +kernel
theorem d_Mod_init_105 : decode c_Mod_init 105 = .ok (.newarray .int, 2) := by decide +kernel
theorem d_Mod_init_107 : decode c_Mod_init 107 = .ok (.putfield 53, 3) := by decide +kernel
theorem d_Mod_init_110 : decode c_Mod_init 110 = .ok (.aload_n 0, 1) := by decide +kernel
theorem d_Mod_init_111 : decode c_Mod_init 111 = .ok (.bipush 7, 2) := by decide +kernel
theorem d_Mod_init_113 : decode c_Mod_init 113 = .ok (.newarray .int, 2) := by decide +kernel
theorem d_Mod_init_115 : decode c_Mod_init 115 = .ok (.putfield 56, 3) := by decide +kernel
theorem d_Mod_init_118 : decode c_Mod_init 118 = .ok (.aload_n 0, 1) := by decide +kernel
theorem d_Mod_init_119 : decode c_Mod_init 119 = .ok (.bipush 6, 2) := by decide +kernel
theorem d_Mod_init_121 : decode c_Mod_init 121 = .ok (.newarray .int, 2) := by decide +kernel
theorem d_Mod_init_123 : decode c_Mod_init 123 = .ok (.putfield 59, 3) := by decide +kernel
theorem d_Mod_init_126 : decode c_Mod_init 126 = .ok (.aload_n 0, 1) := by decide +kernel
theorem d_Mod_init_127 : decode c_Mod_init 127 = .ok (.bipush 6, 2) := by decide +kernel
theorem d_Mod_init_129 : decode c_Mod_init 129 = .ok (.newarray .int, 2) := by decide +kernel
theorem d_Mod_init_131 : decode c_Mod_init 131 = .ok (.putfield 62, 3) := by decide +kernel
theorem d_Mod_init_134 : decode c_Mod_init 134 = .ok (.aload_n 0, 1) := by decide +kernel
theorem d_Mod_init_135 : decode c_Mod_init 135 = .ok (.bipush 6, 2) := by decide +kernel
theorem d_Mod_init_137 : decode c_Mod_init 137 = .ok (.newarray .int, 2) := by decide +kernel
theorem d_Mod_init_139 : decode c_Mod_init 139 = .ok (.putfield 65, 3) := by decide +kernel
theorem d_Mod_init_142 : decode c_Mod_init 142 = .ok (.aload_n 0, 1) := by decide +kernel
theorem d_Mod_init_143 : decode c_Mod_init 143 = .ok (.bipush 6, 2) := by decide +kernel
theorem d_Mod_init_145 : decode c_Mod_init 145 = .ok (.newarray .boolean, 2) := by decide +kernel
theorem d_Mod_init_147 : decode c_Mod_init 147 = .ok (.putfield 68, 3) := by decide +kernel
theorem d_Mod_init_150 : decode c_Mod_init 150 = .ok (.iconst 0, 1) := by decide +kernel
theorem d_Mod_init_151 : decode c_Mod_init 151 = .ok (.istore_n 1, 1) := by decide +kernel
theorem d_Mod_init_152 : decode c_Mod_init 152 = .ok (.iload_n 1, 1) := by decide +kernel
theorem d_Mod_init_153 : decode c_Mod_init 153 = .ok (.bipush 36, 2) := by decide +kernel
theorem d_Mod_init_155 : decode c_Mod_init 155 = .ok (.if_icmp .ge 27, 3) := by decide +kernel
theorem d_Mod_init_158 : decode c_Mod_init 158 = .ok (.aload_n 0, 1) := by decide +kernel
theorem d_Mod_init_159 : decode c_Mod_init 159 = .ok (.getfield 50, 3) := by decide +kernel
theorem d_Mod_init_162 : decode c_Mod_init 162 = .ok (.iload_n 1, 1) := by decide +kernel
theorem d_Mod_init_163 : decode c_Mod_init 163 = .ok (.iload_n 1, 1) := by decide +kernel
theorem d_Mod_init_164 : decode c_Mod_init 164 = .ok (.bipush 7, 2) := by decide +kernel
theorem d_Mod_init_166 : decode c_Mod_init 166 = .ok (.irem, 1) := by decide +kernel
theorem d_Mod_init_167 : decode c_Mod_init 167 = .ok (.ifCond .ne 7, 3) := by decide +kernel
theorem d_Mod_init_170 : decode c_Mod_init 170 = .ok (.iconst 0, 1) := by decide +kernel
theorem d_Mod_init_171 : decode c_Mod_init 171 = .ok (.goto 4, 3) := by decide +kernel
theorem d_Mod_init_174 : decode c_Mod_init 174 = .ok (.iconst (-1), 1) := by decide +kernel
theorem d_Mod_init_175 : decode c_Mod_init 175 = .ok (.iastore, 1) := by decide +kernel
theorem d_Mod_init_176 : decode c_Mod_init 176 = .ok (.iinc 1 1, 3) := by decide +kernel
theorem d_Mod_init_179 : decode c_Mod_init 179 = .ok (.goto (-27), 3) := by decide +kernel
theorem d_Mod_init_182 : decode c_Mod_init 182 = .ok (.return_, 1) := by decide +kernel
theorem d_Mod_thrown_0 : decode c_Mod_thrown 0 = .ok (.aload_n 0, 1) := by decide +kernel
theorem d_Mod_thrown_1 : decode c_Mod_thrown 1 = .ok (.getfield 72, 3) := by decide +kernel
theorem d_Mod_thrown_4 : decode c_Mod_thrown 4 = .ok (.ireturn, 1) := by decide +kernel
theorem d_Mod_throwing_0 : decode c_Mod_throwing 0 = .ok (.aload_n 0, 1) := by decide +kernel
theorem d_Mod_throwing_1 : decode c_Mod_throwing 1 = .ok (.iload_n 1, 1) := by decide +kernel
theorem d_Mod_throwing_2 : decode c_Mod_throwing 2 = .ok (.ifCond .eq 7, 3) := by decide +kernel
theorem d_Mod_throwing_5 : decode c_Mod_throwing 5 = .ok (.iconst 1, 1) := by decide +kernel
theorem d_Mod_throwing_6 : decode c_Mod_throwing 6 = .ok (.goto 20, 3) := by decide +kernel
theorem d_Mod_throwing_9 : decode c_Mod_throwing 9 = .ok (.iload_n 2, 1) := by decide +kernel
theorem d_Mod_throwing_10 : decode c_Mod_throwing 10 = .ok (.ifCond .eq 7, 3) := by decide +kernel
theorem d_Mod_throwing_13 : decode c_Mod_throwing 13 = .ok (.iconst 2, 1) := by decide +kernel
theorem d_Mod_throwing_14 : decode c_Mod_throwing 14 = .ok (.goto 12, 3) := by decide +kernel
theorem d_Mod_throwing_17 : decode c_Mod_throwing 17 = .ok (.iload_n 3, 1) := by decide +kernel
theorem d_Mod_throwing_18 : decode c_Mod_throwing 18 = .ok (.ifCond .eq 7, 3) := by decide +kernel
theorem d_Mod_throwing_21 : decode c_Mod_throwing 21 = .ok (.iconst 3, 1) := by decide +kernel
theorem d_Mod_throwing_22 : decode c_Mod_throwing 22 = .ok (.goto 4, 3) := by decide +kernel
theorem d_Mod_throwing_25 : decode c_Mod_throwing 25 = .ok (.iconst 0, 1) := by decide +kernel
theorem d_Mod_throwing_26 : decode c_Mod_throwing 26 = .ok (.putfield 72, 3) := by decide +kernel
theorem d_Mod_throwing_29 : decode c_Mod_throwing 29 = .ok (.aload_n 0, 1) := by decide +kernel
theorem d_Mod_throwing_30 : decode c_Mod_throwing 30 = .ok (.getfield 72, 3) := by decide +kernel
theorem d_Mod_throwing_33 : decode c_Mod_throwing 33 = .ok (.ifCond .le 7, 3) := by decide +kernel
theorem d_Mod_throwing_36 : decode c_Mod_throwing 36 = .ok (.iconst 1, 1) := by decide +kernel
theorem d_Mod_throwing_37 : decode c_Mod_throwing 37 = .ok (.goto 4, 3) := by decide +kernel
theorem d_Mod_throwing_40 : decode c_Mod_throwing 40 = .ok (.iconst 0, 1) := by decide +kernel
theorem d_Mod_throwing_41 : decode c_Mod_throwing 41 = .ok (.ireturn, 1) := by decide +kernel
theorem d_Mod_in_0 : decode c_Mod_in 0 = .ok (.iload_n 0, 1) := by decide +kernel
theorem d_Mod_in_1 : decode c_Mod_in 1 = .ok (.iload_n 1, 1) := by decide +kernel
theorem d_Mod_in_2 : decode c_Mod_in 2 = .ok (.if_icmp .lt 12, 3) := by decide +kernel
theorem d_Mod_in_5 : decode c_Mod_in 5 = .ok (.iload_n 0, 1) := by decide +kernel
theorem d_Mod_in_6 : decode c_Mod_in 6 = .ok (.iload_n 2, 1) := by decide +kernel
theorem d_Mod_in_7 : decode c_Mod_in 7 = .ok (.if_icmp .gt 7, 3) := by decide +kernel
theorem d_Mod_in_10 : decode c_Mod_in 10 = .ok (.iconst 1, 1) := by decide +kernel
theorem d_Mod_in_11 : decode c_Mod_in 11 = .ok (.goto 4, 3) := by decide +kernel
theorem d_Mod_in_14 : decode c_Mod_in 14 = .ok (.iconst 0, 1) := by decide +kernel
theorem d_Mod_in_15 : decode c_Mod_in 15 = .ok (.ireturn, 1) := by decide +kernel
theorem d_Mod_forget_0 : decode c_Mod_forget 0 = .ok (.aload_n 0, 1) := by decide +kernel
theorem d_Mod_forget_1 : decode c_Mod_forget 1 = .ok (.iconst 0, 1) := by decide +kernel
theorem d_Mod_forget_2 : decode c_Mod_forget 2 = .ok (.putfield 75, 3) := by decide +kernel
theorem d_Mod_forget_5 : decode c_Mod_forget 5 = .ok (.aload_n 0, 1) := by decide +kernel
theorem d_Mod_forget_6 : decode c_Mod_forget 6 = .ok (.iconst 0, 1) := by decide +kernel
theorem d_Mod_forget_7 : decode c_Mod_forget 7 = .ok (.putfield 79, 3) := by decide +kernel
theorem d_Mod_forget_10 : decode c_Mod_forget 10 = .ok (.return_, 1) := by decide +kernel
theorem d_Mod_heat_0 : decode c_Mod_heat 0 = .ok (.iload_n 1, 1) := by decide +kernel
theorem d_Mod_heat_1 : decode c_Mod_heat 1 = .ok (.iconst 0, 1) := by decide +kernel
theorem d_Mod_heat_2 : decode c_Mod_heat 2 = .ok (.iconst 5, 1) := by decide +kernel
theorem d_Mod_heat_3 : decode c_Mod_heat 3 = .ok (.invokestatic 82, 3) := by decide +kernel
theorem d_Mod_heat_6 : decode c_Mod_heat 6 = .ok (.ifCond .eq 60, 3) := by decide +kernel
theorem d_Mod_heat_9 : decode c_Mod_heat 9 = .ok (.iload_n 2, 1) := by decide +kernel
theorem d_Mod_heat_10 : decode c_Mod_heat 10 = .ok (.bipush 100, 2) := by decide +kernel
theorem d_Mod_heat_12 : decode c_Mod_heat 12 = .ok (.sipush 2000, 3) := by decide +kernel
theorem d_Mod_heat_15 : decode c_Mod_heat 15 = .ok (.invokestatic 82, 3) := by decide +kernel
theorem d_Mod_heat_18 : decode c_Mod_heat 18 = .ok (.ifCond .eq 48, 3) := by decide +kernel
theorem d_Mod_heat_21 : decode c_Mod_heat 21 = .ok (.iload_n 3, 1) := by decide +kernel
theorem d_Mod_heat_22 : decode c_Mod_heat 22 = .ok (.iconst 1, 1) := by decide +kernel
theorem d_Mod_heat_23 : decode c_Mod_heat 23 = .ok (.sipush 500, 3) := by decide +kernel
theorem d_Mod_heat_26 : decode c_Mod_heat 26 = .ok (.invokestatic 82, 3) := by decide +kernel
theorem d_Mod_heat_29 : decode c_Mod_heat 29 = .ok (.ifCond .eq 37, 3) := by decide +kernel
theorem d_Mod_heat_32 : decode c_Mod_heat 32 = .ok (.iload 4, 2) := by decide +kernel
theorem d_Mod_heat_34 : decode c_Mod_heat 34 = .ok (.iconst 1, 1) := by decide +kernel
theorem d_Mod_heat_35 : decode c_Mod_heat 35 = .ok (.sipush 500, 3) := by decide +kernel
theorem d_Mod_heat_38 : decode c_Mod_heat 38 = .ok (.invokestatic 82, 3) := by decide +kernel
theorem d_Mod_heat_41 : decode c_Mod_heat 41 = .ok (.ifCond .eq 25, 3) := by decide +kernel
theorem d_Mod_heat_44 : decode c_Mod_heat 44 = .ok (.iload 5, 2) := by decide +kernel
theorem d_Mod_heat_46 : decode c_Mod_heat 46 = .ok (.iconst 0, 1) := by decide +kernel
theorem d_Mod_heat_47 : decode c_Mod_heat 47 = .ok (.sipush 10000, 3) := by decide +kernel
theorem d_Mod_heat_50 : decode c_Mod_heat 50 = .ok (.invokestatic 82, 3) := by decide +kernel
theorem d_Mod_heat_53 : decode c_Mod_heat 53 = .ok (.ifCond .eq 13, 3) := by decide +kernel
theorem d_Mod_heat_56 : decode c_Mod_heat 56 = .ok (.iload 6, 2) := by decide +kernel
theorem d_Mod_heat_58 : decode c_Mod_heat 58 = .ok (.iconst 1, 1) := by decide +kernel
theorem d_Mod_heat_59 : decode c_Mod_heat 59 = .ok (.iconst 3, 1) := by decide +kernel
theorem d_Mod_heat_60 : decode c_Mod_heat 60 = .ok (.invokestatic 82, 3) := by decide +kernel
theorem d_Mod_heat_63 : decode c_Mod_heat 63 = .ok (.ifCond .ne 7, 3) := by decide +kernel
theorem d_Mod_heat_66 : decode c_Mod_heat 66 = .ok (.iconst 1, 1) := by decide +kernel
theorem d_Mod_heat_67 : decode c_Mod_heat 67 = .ok (.goto 4, 3) := by decide +kernel
theorem d_Mod_heat_70 : decode c_Mod_heat 70 = .ok (.iconst 0, 1) := by decide +kernel
theorem d_Mod_heat_71 : decode c_Mod_heat 71 = .ok (.istore 7, 2) := by decide +kernel
theorem d_Mod_heat_73 : decode c_Mod_heat 73 = .ok (.aload_n 0, 1) := by decide +kernel
theorem d_Mod_heat_74 : decode c_Mod_heat 74 = .ok (.aload_n 0, 1) := by decide +kernel
theorem d_Mod_heat_75 : decode c_Mod_heat 75 = .ok (.getfield 86, 3) := by decide +kernel
theorem d_Mod_heat_78 : decode c_Mod_heat 78 = .ok (.bipush 6, 2) := by decide +kernel
theorem d_Mod_heat_80 : decode c_Mod_heat 80 = .ok (.if_icmp .ne 7, 3) := by decide +kernel
theorem d_Mod_heat_83 : decode c_Mod_heat 83 = .ok (.iconst 1, 1) := by decide +kernel
theorem d_Mod_heat_84 : decode c_Mod_heat 84 = .ok (.goto 4, 3) := by decide +kernel
theorem d_Mod_heat_87 : decode c_Mod_heat 87 = .ok (.iconst 0, 1) := by decide +kernel
theorem d_Mod_heat_88 : decode c_Mod_heat 88 = .ok (.iload 7, 2) := by decide +kernel
theorem d_Mod_heat_90 : decode c_Mod_heat 90 = .ok (.iconst 0, 1) := by decide +kernel
theorem d_Mod_heat_91 : decode c_Mod_heat 91 = .ok (.invokevirtual 89, 3) := by decide +kernel
theorem d_Mod_heat_94 : decode c_Mod_heat 94 = .ok (.ifCond .eq 5, 3) := by decide +kernel
theorem d_Mod_heat_97 : decode c_Mod_heat 97 = .ok (.iconst 0, 1) := by decide +kernel
theorem d_Mod_heat_98 : decode c_Mod_heat 98 = .ok (.ireturn, 1) := by decide +kernel
theorem d_Mod_heat_99 : decode c_Mod_heat 99 = .ok (.aload_n 0, 1) := by decide +kernel
theorem d_Mod_heat_100 : decode c_Mod_heat 100 = .ok (.getfield 7, 3) := by decide +kernel
theorem d_Mod_heat_103 : decode c_Mod_heat 103 = .ok (.aload_n 0, 1) := by decide +kernel
theorem d_Mod_heat_104 : decode c_Mod_heat 104 = .ok (.getfield 86, 3) := by decide +kernel
theorem d_Mod_heat_107 : decode c_Mod_heat 107 = .ok (.iload_n 1, 1) := by decide +kernel
theorem d_Mod_heat_108 : decode c_Mod_heat 108 = .ok (.iastore, 1) := by decide +kernel
theorem d_Mod_heat_109 : decode c_Mod_heat 109 = .ok (.aload_n 0, 1) := by decide +kernel
theorem d_Mod_heat_110 : decode c_Mod_heat 110 = .ok (.getfield 13, 3) := by decide +kernel
theorem d_Mod_heat_113 : decode c_Mod_heat 113 = .ok (.aload_n 0, 1) := by decide +kernel
theorem d_Mod_heat_114 : decode c_Mod_heat 114 = .ok (.getfield 86, 3) := by decide +kernel
theorem d_Mod_heat_117 : decode c_Mod_heat 117 = .ok (.iload_n 2, 1) := by decide +kernel
theorem d_Mod_heat_118 : decode c_Mod_heat 118 = .ok (.iastore, 1) := by decide +kernel
theorem d_Mod_heat_119 : decode c_Mod_heat 119 = .ok (.aload_n 0, 1) := by decide +kernel
theorem d_Mod_heat_120 : decode c_Mod_heat 120 = .ok (.getfield 16, 3) := by decide +kernel
theorem d_Mod_heat_123 : decode c_Mod_heat 123 = .ok (.aload_n 0, 1) := by decide +kernel
theorem d_Mod_heat_124 : decode c_Mod_heat 124 = .ok (.getfield 86, 3) := by decide +kernel
theorem d_Mod_heat_127 : decode c_Mod_heat 127 = .ok (.iload_n 3, 1) := by decide +kernel
theorem d_Mod_heat_128 : decode c_Mod_heat 128 = .ok (.iastore, 1) := by decide +kernel
theorem d_Mod_heat_129 : decode c_Mod_heat 129 = .ok (.aload_n 0, 1) := by decide +kernel
theorem d_Mod_heat_130 : decode c_Mod_heat 130 = .ok (.getfield 19, 3) := by decide +kernel
theorem d_Mod_heat_133 : decode c_Mod_heat 133 = .ok (.aload_n 0, 1) := by decide +kernel
theorem d_Mod_heat_134 : decode c_Mod_heat 134 = .ok (.getfield 86, 3) := by decide +kernel
theorem d_Mod_heat_137 : decode c_Mod_heat 137 = .ok (.iload 4, 2) := by decide +kernel
theorem d_Mod_heat_139 : decode c_Mod_heat 139 = .ok (.iastore, 1) := by decide +kernel
theorem d_Mod_heat_140 : decode c_Mod_heat 140 = .ok (.aload_n 0, 1) := by decide +kernel
theorem d_Mod_heat_141 : decode c_Mod_heat 141 = .ok (.getfield 22, 3) := by decide +kernel
theorem d_Mod_heat_144 : decode c_Mod_heat 144 = .ok (.aload_n 0, 1) := by decide +kernel
theorem d_Mod_heat_145 : decode c_Mod_heat 145 = .ok (.getfield 86, 3) := by decide +kernel
theorem d_Mod_heat_148 : decode c_Mod_heat 148 = .ok (.iload 5, 2) := by decide +kernel
theorem d_Mod_heat_150 : decode c_Mod_heat 150 = .ok (.iastore, 1) := by decide +kernel
theorem d_Mod_heat_151 : decode c_Mod_heat 151 = .ok (.aload_n 0, 1) := by decide +kernel
theorem d_Mod_heat_152 : decode c_Mod_heat 152 = .ok (.getfield 25, 3) := by decide +kernel
theorem d_Mod_heat_155 : decode c_Mod_heat 155 = .ok (.aload_n 0, 1) := by decide +kernel
theorem d_Mod_heat_156 : decode c_Mod_heat 156 = .ok (.getfield 86, 3) := by decide +kernel
theorem d_Mod_heat_159 : decode c_Mod_heat 159 = .ok (.iload 6, 2) := by decide +kernel
theorem d_Mod_heat_161 : decode c_Mod_heat 161 = .ok (.iastore, 1) := by decide +kernel
theorem d_Mod_heat_162 : decode c_Mod_heat 162 = .ok (.aload_n 0, 1) := by decide +kernel
theorem d_Mod_heat_163 : decode c_Mod_heat 163 = .ok (.dup, 1) := by decide +kernel
theorem d_Mod_heat_164 : decode c_Mod_heat 164 = .ok (.getfield 86, 3) := by decide +kernel
theorem d_Mod_heat_167 : decode c_Mod_heat 167 = .ok (.iconst 1, 1) := by decide +kernel
theorem d_Mod_heat_168 : decode c_Mod_heat 168 = .ok (.iadd, 1) := by decide +kernel
theorem d_Mod_heat_169 : decode c_Mod_heat 169 = .ok (.putfield 86, 3) := by decide +kernel
theorem d_Mod_heat_172 : decode c_Mod_heat 172 = .ok (.aload_n 0, 1) := by decide +kernel
theorem d_Mod_heat_173 : decode c_Mod_heat 173 = .ok (.invokevirtual 93, 3) := by decide +kernel
theorem d_Mod_heat_176 : decode c_Mod_heat 176 = .ok (.aload_n 0, 1) := by decide +kernel
theorem d_Mod_heat_177 : decode c_Mod_heat 177 = .ok (.getfield 86, 3) := by decide +kernel
theorem d_Mod_heat_180 : decode c_Mod_heat 180 = .ok (.iconst 1, 1) := by decide +kernel
theorem d_Mod_heat_181 : decode c_Mod_heat 181 = .ok (.isub, 1) := by decide +kernel
theorem d_Mod_heat_182 : decode c_Mod_heat 182 = .ok (.ireturn, 1) := by decide +kernel
theorem d_Mod_due_0 : decode c_Mod_due 0 = .ok (.aload_n 0, 1) := by decide +kernel
theorem d_Mod_due_1 : decode c_Mod_due 1 = .ok (.iload_n 1, 1) := by decide +kernel
theorem d_Mod_due_2 : decode c_Mod_due 2 = .ok (.iconst 0, 1) := by decide +kernel
theorem d_Mod_due_3 : decode c_Mod_due 3 = .ok (.aload_n 0, 1) := by decide +kernel
theorem d_Mod_due_4 : decode c_Mod_due 4 = .ok (.getfield 86, 3) := by decide +kernel
theorem d_Mod_due_7 : decode c_Mod_due 7 = .ok (.iconst 1, 1) := by decide +kernel
theorem d_Mod_due_8 : decode c_Mod_due 8 = .ok (.isub, 1) := by decide +kernel
theorem d_Mod_due_9 : decode c_Mod_due 9 = .ok (.invokestatic 82, 3) := by decide +kernel
theorem d_Mod_due_12 : decode c_Mod_due 12 = .ok (.ifCond .ne 7, 3) := by decide +kernel
theorem d_Mod_due_15 : decode c_Mod_due 15 = .ok (.iconst 1, 1) := by decide +kernel
theorem d_Mod_due_16 : decode c_Mod_due 16 = .ok (.goto 4, 3) := by decide +kernel
theorem d_Mod_due_19 : decode c_Mod_due 19 = .ok (.iconst 0, 1) := by decide +kernel
theorem d_Mod_due_20 : decode c_Mod_due 20 = .ok (.iload_n 2, 1) := by decide +kernel
theorem d_Mod_due_21 : decode c_Mod_due 21 = .ok (.iconst 0, 1) := by decide +kernel
theorem d_Mod_due_22 : decode c_Mod_due 22 = .ok (.sipush 10000, 3) := by decide +kernel
theorem d_Mod_due_25 : decode c_Mod_due 25 = .ok (.invokestatic 82, 3) := by decide +kernel
theorem d_Mod_due_28 : decode c_Mod_due 28 = .ok (.ifCond .ne 7, 3) := by decide +kernel
theorem d_Mod_due_31 : decode c_Mod_due 31 = .ok (.iconst 1, 1) := by decide +kernel
theorem d_Mod_due_32 : decode c_Mod_due 32 = .ok (.goto 4, 3) := by decide +kernel
theorem d_Mod_due_35 : decode c_Mod_due 35 = .ok (.iconst 0, 1) := by decide +kernel
theorem d_Mod_due_36 : decode c_Mod_due 36 = .ok (.iconst 0, 1) := by decide +kernel
theorem d_Mod_due_37 : decode c_Mod_due 37 = .ok (.invokevirtual 89, 3) := by decide +kernel
theorem d_Mod_due_40 : decode c_Mod_due 40 = .ok (.ifCond .eq 4, 3) := by decide +kernel
theorem d_Mod_due_43 : decode c_Mod_due 43 = .ok (.return_, 1) := by decide +kernel
theorem d_Mod_due_44 : decode c_Mod_due 44 = .ok (.aload_n 0, 1) := by decide +kernel
theorem d_Mod_due_45 : decode c_Mod_due 45 = .ok (.getfield 22, 3) := by decide +kernel
theorem d_Mod_due_48 : decode c_Mod_due 48 = .ok (.iload_n 1, 1) := by decide +kernel
theorem d_Mod_due_49 : decode c_Mod_due 49 = .ok (.iload_n 2, 1) := by decide +kernel
theorem d_Mod_due_50 : decode c_Mod_due 50 = .ok (.iastore, 1) := by decide +kernel
theorem d_Mod_due_51 : decode c_Mod_due 51 = .ok (.aload_n 0, 1) := by decide +kernel
theorem d_Mod_due_52 : decode c_Mod_due 52 = .ok (.invokevirtual 93, 3) := by decide +kernel
theorem d_Mod_due_55 : decode c_Mod_due 55 = .ok (.return_, 1) := by decide +kernel
theorem d_Mod_rules_0 : decode c_Mod_rules 0 = .ok (.iload_n 1, 1) := by decide +kernel
theorem d_Mod_rules_1 : decode c_Mod_rules 1 = .ok (.iconst 0, 1) := by decide +kernel
theorem d_Mod_rules_2 : decode c_Mod_rules 2 = .ok (.sipush 1000, 3) := by decide +kernel
theorem d_Mod_rules_5 : decode c_Mod_rules 5 = .ok (.invokestatic 82, 3) := by decide +kernel
theorem d_Mod_rules_8 : decode c_Mod_rules 8 = .ok (.ifCond .eq 52, 3) := by decide +kernel
theorem d_Mod_rules_11 : decode c_Mod_rules 11 = .ok (.iload_n 2, 1) := by decide +kernel
theorem d_Mod_rules_12 : decode c_Mod_rules 12 = .ok (.iconst 0, 1) := by decide +kernel
theorem d_Mod_rules_13 : decode c_Mod_rules 13 = .ok (.sipush 500, 3) := by decide +kernel
theorem d_Mod_rules_16 : decode c_Mod_rules 16 = .ok (.invokestatic 82, 3) := by decide +kernel
theorem d_Mod_rules_19 : decode c_Mod_rules 19 = .ok (.ifCond .eq 41, 3) := by decide +kernel
theorem d_Mod_rules_22 : decode c_Mod_rules 22 = .ok (.iload_n 3, 1) := by decide +kernel
theorem d_Mod_rules_23 : decode c_Mod_rules 23 = .ok (.iconst 0, 1) := by decide +kernel
theorem d_Mod_rules_24 : decode c_Mod_rules 24 = .ok (.sipush 500, 3) := by decide +kernel
theorem d_Mod_rules_27 : decode c_Mod_rules 27 = .ok (.invokestatic 82, 3) := by decide +kernel
theorem d_Mod_rules_30 : decode c_Mod_rules 30 = .ok (.ifCond .eq 30, 3) := by decide +kernel
theorem d_Mod_rules_33 : decode c_Mod_rules 33 = .ok (.iload 4, 2) := by decide +kernel
theorem d_Mod_rules_35 : decode c_Mod_rules 35 = .ok (.iconst 1, 1) := by decide +kernel
theorem d_Mod_rules_36 : decode c_Mod_rules 36 = .ok (.bipush 20, 2) := by decide +kernel
theorem d_Mod_rules_38 : decode c_Mod_rules 38 = .ok (.invokestatic 82, 3) := by decide +kernel
theorem d_Mod_rules_41 : decode c_Mod_rules 41 = .ok (.ifCond .eq 19, 3) := by decide +kernel
theorem d_Mod_rules_44 : decode c_Mod_rules 44 = .ok (.iload 5, 2) := by decide +kernel
theorem d_Mod_rules_46 : decode c_Mod_rules 46 = .ok (.iconst 0, 1) := by decide +kernel
theorem d_Mod_rules_47 : decode c_Mod_rules 47 = .ok (.sipush 2000, 3) := by decide +kernel
theorem d_Mod_rules_50 : decode c_Mod_rules 50 = .ok (.invokestatic 82, 3) := by decide +kernel
theorem d_Mod_rules_53 : decode c_Mod_rules 53 = .ok (.ifCond .eq 7, 3) := by decide +kernel
theorem d_Mod_rules_56 : decode c_Mod_rules 56 = .ok (.iconst 1, 1) := by decide +kernel
theorem d_Mod_rules_57 : decode c_Mod_rules 57 = .ok (.goto 4, 3) := by decide +kernel
theorem d_Mod_rules_60 : decode c_Mod_rules 60 = .ok (.iconst 0, 1) := by decide +kernel
theorem d_Mod_rules_61 : decode c_Mod_rules 61 = .ok (.istore 6, 2) := by decide +kernel
theorem d_Mod_rules_63 : decode c_Mod_rules 63 = .ok (.aload_n 0, 1) := by decide +kernel
theorem d_Mod_rules_64 : decode c_Mod_rules 64 = .ok (.iload 6, 2) := by decide +kernel
theorem d_Mod_rules_66 : decode c_Mod_rules 66 = .ok (.ifCond .ne 7, 3) := by decide +kernel
theorem d_Mod_rules_69 : decode c_Mod_rules 69 = .ok (.iconst 1, 1) := by decide +kernel
theorem d_Mod_rules_70 : decode c_Mod_rules 70 = .ok (.goto 4, 3) := by decide +kernel
theorem d_Mod_rules_73 : decode c_Mod_rules 73 = .ok (.iconst 0, 1) := by decide +kernel
theorem d_Mod_rules_74 : decode c_Mod_rules 74 = .ok (.iconst 0, 1) := by decide +kernel
theorem d_Mod_rules_75 : decode c_Mod_rules 75 = .ok (.iconst 0, 1) := by decide +kernel
theorem d_Mod_rules_76 : decode c_Mod_rules 76 = .ok (.invokevirtual 89, 3) := by decide +kernel
theorem d_Mod_rules_79 : decode c_Mod_rules 79 = .ok (.ifCond .eq 4, 3) := by decide +kernel
theorem d_Mod_rules_82 : decode c_Mod_rules 82 = .ok (.return_, 1) := by decide +kernel
theorem d_Mod_rules_83 : decode c_Mod_rules 83 = .ok (.aload_n 0, 1) := by decide +kernel
theorem d_Mod_rules_84 : decode c_Mod_rules 84 = .ok (.iload_n 1, 1) := by decide +kernel
theorem d_Mod_rules_85 : decode c_Mod_rules 85 = .ok (.putfield 28, 3) := by decide +kernel
theorem d_Mod_rules_88 : decode c_Mod_rules 88 = .ok (.aload_n 0, 1) := by decide +kernel
theorem d_Mod_rules_89 : decode c_Mod_rules 89 = .ok (.iload_n 2, 1) := by decide +kernel
theorem d_Mod_rules_90 : decode c_Mod_rules 90 = .ok (.putfield 32, 3) := by decide +kernel
theorem d_Mod_rules_93 : decode c_Mod_rules 93 = .ok (.aload_n 0, 1) := by decide +kernel
theorem d_Mod_rules_94 : decode c_Mod_rules 94 = .ok (.iload_n 3, 1) := by decide +kernel
theorem d_Mod_rules_95 : decode c_Mod_rules 95 = .ok (.putfield 35, 3) := by decide +kernel
theorem d_Mod_rules_98 : decode c_Mod_rules 98 = .ok (.aload_n 0, 1) := by decide +kernel
theorem d_Mod_rules_99 : decode c_Mod_rules 99 = .ok (.iload 4, 2) := by decide +kernel
theorem d_Mod_rules_101 : decode c_Mod_rules 101 = .ok (.putfield 38, 3) := by decide +kernel
theorem d_Mod_rules_104 : decode c_Mod_rules 104 = .ok (.aload_n 0, 1) := by decide +kernel
theorem d_Mod_rules_105 : decode c_Mod_rules 105 = .ok (.iload 5, 2) := by decide +kernel
theorem d_Mod_rules_107 : decode c_Mod_rules 107 = .ok (.putfield 41, 3) := by decide +kernel
theorem d_Mod_rules_110 : decode c_Mod_rules 110 = .ok (.aload_n 0, 1) := by decide +kernel
theorem d_Mod_rules_111 : decode c_Mod_rules 111 = .ok (.invokevirtual 93, 3) := by decide +kernel
theorem d_Mod_rules_114 : decode c_Mod_rules 114 = .ok (.return_, 1) := by decide +kernel
theorem d_Mod_costs_0 : decode c_Mod_costs 0 = .ok (.aload_n 0, 1) := by decide +kernel
theorem d_Mod_costs_1 : decode c_Mod_costs 1 = .ok (.iload_n 1, 1) := by decide +kernel
theorem d_Mod_costs_2 : decode c_Mod_costs 2 = .ok (.iconst 0, 1) := by decide +kernel
theorem d_Mod_costs_3 : decode c_Mod_costs 3 = .ok (.ldc 96, 2) := by decide +kernel
theorem d_Mod_costs_5 : decode c_Mod_costs 5 = .ok (.invokestatic 82, 3) := by decide +kernel
theorem d_Mod_costs_8 : decode c_Mod_costs 8 = .ok (.ifCond .eq 14, 3) := by decide +kernel
theorem d_Mod_costs_11 : decode c_Mod_costs 11 = .ok (.iload_n 2, 1) := by decide +kernel
theorem d_Mod_costs_12 : decode c_Mod_costs 12 = .ok (.iconst 0, 1) := by decide +kernel
theorem d_Mod_costs_13 : decode c_Mod_costs 13 = .ok (.sipush 1000, 3) := by decide +kernel
theorem d_Mod_costs_16 : decode c_Mod_costs 16 = .ok (.invokestatic 82, 3) := by decide +kernel
theorem d_Mod_costs_19 : decode c_Mod_costs 19 = .ok (.ifCond .ne 7, 3) := by decide +kernel
theorem d_Mod_costs_22 : decode c_Mod_costs 22 = .ok (.iconst 1, 1) := by decide +kernel
theorem d_Mod_costs_23 : decode c_Mod_costs 23 = .ok (.goto 4, 3) := by decide +kernel
theorem d_Mod_costs_26 : decode c_Mod_costs 26 = .ok (.iconst 0, 1) := by decide +kernel
theorem d_Mod_costs_27 : decode c_Mod_costs 27 = .ok (.iconst 0, 1) := by decide +kernel
theorem d_Mod_costs_28 : decode c_Mod_costs 28 = .ok (.iconst 0, 1) := by decide +kernel
theorem d_Mod_costs_29 : decode c_Mod_costs 29 = .ok (.invokevirtual 89, 3) := by decide +kernel
theorem d_Mod_costs_32 : decode c_Mod_costs 32 = .ok (.ifCond .eq 4, 3) := by decide +kernel
theorem d_Mod_costs_35 : decode c_Mod_costs 35 = .ok (.return_, 1) := by decide +kernel
theorem d_Mod_costs_36 : decode c_Mod_costs 36 = .ok (.aload_n 0, 1) := by decide +kernel
theorem d_Mod_costs_37 : decode c_Mod_costs 37 = .ok (.iload_n 1, 1) := by decide +kernel
theorem d_Mod_costs_38 : decode c_Mod_costs 38 = .ok (.putfield 44, 3) := by decide +kernel
theorem d_Mod_costs_41 : decode c_Mod_costs 41 = .ok (.aload_n 0, 1) := by decide +kernel
theorem d_Mod_costs_42 : decode c_Mod_costs 42 = .ok (.iload_n 2, 1) := by decide +kernel
theorem d_Mod_costs_43 : decode c_Mod_costs 43 = .ok (.putfield 47, 3) := by decide +kernel
theorem d_Mod_costs_46 : decode c_Mod_costs 46 = .ok (.aload_n 0, 1) := by decide +kernel
theorem d_Mod_costs_47 : decode c_Mod_costs 47 = .ok (.invokevirtual 93, 3) := by decide +kernel
theorem d_Mod_costs_50 : decode c_Mod_costs 50 = .ok (.return_, 1) := by decide +kernel
theorem d_Mod_move_0 : decode c_Mod_move 0 = .ok (.aload_n 0, 1) := by decide +kernel
theorem d_Mod_move_1 : decode c_Mod_move 1 = .ok (.iload_n 1, 1) := by decide +kernel
theorem d_Mod_move_2 : decode c_Mod_move 2 = .ok (.iconst 0, 1) := by decide +kernel
theorem d_Mod_move_3 : decode c_Mod_move 3 = .ok (.iconst 5, 1) := by decide +kernel
theorem d_Mod_move_4 : decode c_Mod_move 4 = .ok (.invokestatic 82, 3) := by decide +kernel
theorem d_Mod_move_7 : decode c_Mod_move 7 = .ok (.ifCond .eq 12, 3) := by decide +kernel
theorem d_Mod_move_10 : decode c_Mod_move 10 = .ok (.iload_n 2, 1) := by decide +kernel
theorem d_Mod_move_11 : decode c_Mod_move 11 = .ok (.iconst 0, 1) := by decide +kernel
theorem d_Mod_move_12 : decode c_Mod_move 12 = .ok (.iconst 5, 1) := by decide +kernel
theorem d_Mod_move_13 : decode c_Mod_move 13 = .ok (.invokestatic 82, 3) := by decide +kernel
theorem d_Mod_move_16 : decode c_Mod_move 16 = .ok (.ifCond .ne 7, 3) := by decide +kernel
theorem d_Mod_move_19 : decode c_Mod_move 19 = .ok (.iconst 1, 1) := by decide +kernel
theorem d_Mod_move_20 : decode c_Mod_move 20 = .ok (.goto 4, 3) := by decide +kernel
theorem d_Mod_move_23 : decode c_Mod_move 23 = .ok (.iconst 0, 1) := by decide +kernel
theorem d_Mod_move_24 : decode c_Mod_move 24 = .ok (.iload_n 3, 1) := by decide +kernel
theorem d_Mod_move_25 : decode c_Mod_move 25 = .ok (.iconst (-1), 1) := by decide +kernel
theorem d_Mod_move_26 : decode c_Mod_move 26 = .ok (.sipush 10000, 3) := by decide +kernel
theorem d_Mod_move_29 : decode c_Mod_move 29 = .ok (.invokestatic 82, 3) := by decide +kernel
theorem d_Mod_move_32 : decode c_Mod_move 32 = .ok (.ifCond .ne 7, 3) := by decide +kernel
theorem d_Mod_move_35 : decode c_Mod_move 35 = .ok (.iconst 1, 1) := by decide +kernel
theorem d_Mod_move_36 : decode c_Mod_move 36 = .ok (.goto 4, 3) := by decide +kernel
theorem d_Mod_move_39 : decode c_Mod_move 39 = .ok (.iconst 0, 1) := by decide +kernel
theorem d_Mod_move_40 : decode c_Mod_move 40 = .ok (.iconst 0, 1) := by decide +kernel
theorem d_Mod_move_41 : decode c_Mod_move 41 = .ok (.invokevirtual 89, 3) := by decide +kernel
theorem d_Mod_move_44 : decode c_Mod_move 44 = .ok (.ifCond .eq 4, 3) := by decide +kernel
theorem d_Mod_move_47 : decode c_Mod_move 47 = .ok (.return_, 1) := by decide +kernel
theorem d_Mod_move_48 : decode c_Mod_move 48 = .ok (.aload_n 0, 1) := by decide +kernel
theorem d_Mod_move_49 : decode c_Mod_move 49 = .ok (.getfield 50, 3) := by decide +kernel
theorem d_Mod_move_52 : decode c_Mod_move 52 = .ok (.bipush 6, 2) := by decide +kernel
theorem d_Mod_move_54 : decode c_Mod_move 54 = .ok (.iload_n 1, 1) := by decide +kernel
theorem d_Mod_move_55 : decode c_Mod_move 55 = .ok (.imul, 1) := by decide +kernel
theorem d_Mod_move_56 : decode c_Mod_move 56 = .ok (.iload_n 2, 1) := by decide +kernel
theorem d_Mod_move_57 : decode c_Mod_move 57 = .ok (.iadd, 1) := by decide +kernel
theorem d_Mod_move_58 : decode c_Mod_move 58 = .ok (.iload_n 3, 1) := by decide +kernel
theorem d_Mod_move_59 : decode c_Mod_move 59 = .ok (.iastore, 1) := by decide +kernel
theorem d_Mod_move_60 : decode c_Mod_move 60 = .ok (.aload_n 0, 1) := by decide +kernel
theorem d_Mod_move_61 : decode c_Mod_move 61 = .ok (.invokevirtual 93, 3) := by decide +kernel
theorem d_Mod_move_64 : decode c_Mod_move 64 = .ok (.return_, 1) := by decide +kernel
theorem d_Mod_far_0 : decode c_Mod_far 0 = .ok (.aload_n 0, 1) := by decide +kernel
theorem d_Mod_far_1 : decode c_Mod_far 1 = .ok (.getfield 13, 3) := by decide +kernel
theorem d_Mod_far_4 : decode c_Mod_far 4 = .ok (.iload_n 1, 1) := by decide +kernel
theorem d_Mod_far_5 : decode c_Mod_far 5 = .ok (.iaload, 1) := by decide +kernel
theorem d_Mod_far_6 : decode c_Mod_far 6 = .ok (.aload_n 0, 1) := by decide +kernel
theorem d_Mod_far_7 : decode c_Mod_far 7 = .ok (.getfield 13, 3) := by decide +kernel
theorem d_Mod_far_10 : decode c_Mod_far 10 = .ok (.iload_n 2, 1) := by decide +kernel
theorem d_Mod_far_11 : decode c_Mod_far 11 = .ok (.iaload, 1) := by decide +kernel
theorem d_Mod_far_12 : decode c_Mod_far 12 = .ok (.if_icmp .ge 19, 3) := by decide +kernel
theorem d_Mod_far_15 : decode c_Mod_far 15 = .ok (.aload_n 0, 1) := by decide +kernel
theorem d_Mod_far_16 : decode c_Mod_far 16 = .ok (.getfield 13, 3) := by decide +kernel
theorem d_Mod_far_19 : decode c_Mod_far 19 = .ok (.iload_n 2, 1) := by decide +kernel
theorem d_Mod_far_20 : decode c_Mod_far 20 = .ok (.iaload, 1) := by decide +kernel
theorem d_Mod_far_21 : decode c_Mod_far 21 = .ok (.aload_n 0, 1) := by decide +kernel
theorem d_Mod_far_22 : decode c_Mod_far 22 = .ok (.getfield 13, 3) := by decide +kernel
theorem d_Mod_far_25 : decode c_Mod_far 25 = .ok (.iload_n 1, 1) := by decide +kernel
theorem d_Mod_far_26 : decode c_Mod_far 26 = .ok (.iaload, 1) := by decide +kernel
theorem d_Mod_far_27 : decode c_Mod_far 27 = .ok (.isub, 1) := by decide +kernel
theorem d_Mod_far_28 : decode c_Mod_far 28 = .ok (.goto 16, 3) := by decide +kernel
theorem d_Mod_far_31 : decode c_Mod_far 31 = .ok (.aload_n 0, 1) := by decide +kernel
theorem d_Mod_far_32 : decode c_Mod_far 32 = .ok (.getfield 13, 3) := by decide +kernel
theorem d_Mod_far_35 : decode c_Mod_far 35 = .ok (.iload_n 1, 1) := by decide +kernel
theorem d_Mod_far_36 : decode c_Mod_far 36 = .ok (.iaload, 1) := by decide +kernel
theorem d_Mod_far_37 : decode c_Mod_far 37 = .ok (.aload_n 0, 1) := by decide +kernel
theorem d_Mod_far_38 : decode c_Mod_far 38 = .ok (.getfield 13, 3) := by decide +kernel
theorem d_Mod_far_41 : decode c_Mod_far 41 = .ok (.iload_n 2, 1) := by decide +kernel
theorem d_Mod_far_42 : decode c_Mod_far 42 = .ok (.iaload, 1) := by decide +kernel
theorem d_Mod_far_43 : decode c_Mod_far 43 = .ok (.isub, 1) := by decide +kernel
theorem d_Mod_far_44 : decode c_Mod_far 44 = .ok (.ireturn, 1) := by decide +kernel
theorem d_Mod_workOut_0 : decode c_Mod_workOut 0 = .ok (.iconst 0, 1) := by decide +kernel
theorem d_Mod_workOut_1 : decode c_Mod_workOut 1 = .ok (.istore_n 2, 1) := by decide +kernel
theorem d_Mod_workOut_2 : decode c_Mod_workOut 2 = .ok (.iconst 1, 1) := by decide +kernel
theorem d_Mod_workOut_3 : decode c_Mod_workOut 3 = .ok (.istore_n 3, 1) := by decide +kernel
theorem d_Mod_workOut_4 : decode c_Mod_workOut 4 = .ok (.aload_n 0, 1) := by decide +kernel
theorem d_Mod_workOut_5 : decode c_Mod_workOut 5 = .ok (.iconst 0, 1) := by decide +kernel
theorem d_Mod_workOut_6 : decode c_Mod_workOut 6 = .ok (.putfield 97, 3) := by decide +kernel
theorem d_Mod_workOut_9 : decode c_Mod_workOut 9 = .ok (.aload_n 0, 1) := by decide +kernel
theorem d_Mod_workOut_10 : decode c_Mod_workOut 10 = .ok (.iconst 0, 1) := by decide +kernel
theorem d_Mod_workOut_11 : decode c_Mod_workOut 11 = .ok (.putfield 100, 3) := by decide +kernel
theorem d_Mod_workOut_14 : decode c_Mod_workOut 14 = .ok (.aload_n 0, 1) := by decide +kernel
theorem d_Mod_workOut_15 : decode c_Mod_workOut 15 = .ok (.iconst 0, 1) := by decide +kernel
theorem d_Mod_workOut_16 : decode c_Mod_workOut 16 = .ok (.putfield 103, 3) := by decide +kernel
theorem d_Mod_workOut_19 : decode c_Mod_workOut 19 = .ok (.iconst 0, 1) := by decide +kernel
theorem d_Mod_workOut_20 : decode c_Mod_workOut 20 = .ok (.istore 4, 2) := by decide +kernel
theorem d_Mod_workOut_22 : decode c_Mod_workOut 22 = .ok (.iload 4, 2) := by decide +kernel
theorem d_Mod_workOut_24 : decode c_Mod_workOut 24 = .ok (.iload_n 1, 1) := by decide +kernel
theorem d_Mod_workOut_25 : decode c_Mod_workOut 25 = .ok (.if_icmp .ge 433, 3) := by decide +kernel
theorem d_Mod_workOut_28 : decode c_Mod_workOut 28 = .ok (.aload_n 0, 1) := by decide +kernel
theorem d_Mod_workOut_29 : decode c_Mod_workOut 29 = .ok (.getfield 56, 3) := by decide +kernel
theorem d_Mod_workOut_32 : decode c_Mod_workOut 32 = .ok (.iload 4, 2) := by decide +kernel
theorem d_Mod_workOut_34 : decode c_Mod_workOut 34 = .ok (.iaload, 1) := by decide +kernel
theorem d_Mod_workOut_35 : decode c_Mod_workOut 35 = .ok (.iconst 2, 1) := by decide +kernel
theorem d_Mod_workOut_36 : decode c_Mod_workOut 36 = .ok (.idiv, 1) := by decide +kernel
theorem d_Mod_workOut_37 : decode c_Mod_workOut 37 = .ok (.istore 5, 2) := by decide +kernel
theorem d_Mod_workOut_39 : decode c_Mod_workOut 39 = .ok (.iload_n 2, 1) := by decide +kernel
theorem d_Mod_workOut_40 : decode c_Mod_workOut 40 = .ok (.aload_n 0, 1) := by decide +kernel
theorem d_Mod_workOut_41 : decode c_Mod_workOut 41 = .ok (.getfield 16, 3) := by decide +kernel
theorem d_Mod_workOut_44 : decode c_Mod_workOut 44 = .ok (.iload 5, 2) := by decide +kernel
theorem d_Mod_workOut_46 : decode c_Mod_workOut 46 = .ok (.iaload, 1) := by decide +kernel
theorem d_Mod_workOut_47 : decode c_Mod_workOut 47 = .ok (.iadd, 1) := by decide +kernel
theorem d_Mod_workOut_48 : decode c_Mod_workOut 48 = .ok (.istore_n 2, 1) := by decide +kernel
theorem d_Mod_workOut_49 : decode c_Mod_workOut 49 = .ok (.aload_n 0, 1) := by decide +kernel
theorem d_Mod_workOut_50 : decode c_Mod_workOut 50 = .ok (.getfield 59, 3) := by decide +kernel
theorem d_Mod_workOut_53 : decode c_Mod_workOut 53 = .ok (.iload 4, 2) := by decide +kernel
theorem d_Mod_workOut_55 : decode c_Mod_workOut 55 = .ok (.iload_n 2, 1) := by decide +kernel
theorem d_Mod_workOut_56 : decode c_Mod_workOut 56 = .ok (.iastore, 1) := by decide +kernel
theorem d_Mod_workOut_57 : decode c_Mod_workOut 57 = .ok (.iconst (-1), 1) := by decide +kernel
theorem d_Mod_workOut_58 : decode c_Mod_workOut 58 = .ok (.istore 6, 2) := by decide +kernel
theorem d_Mod_workOut_60 : decode c_Mod_workOut 60 = .ok (.iconst 0, 1) := by decide +kernel
theorem d_Mod_workOut_61 : decode c_Mod_workOut 61 = .ok (.istore 7, 2) := by decide +kernel
theorem d_Mod_workOut_63 : decode c_Mod_workOut 63 = .ok (.iconst 0, 1) := by decide +kernel
theorem d_Mod_workOut_64 : decode c_Mod_workOut 64 = .ok (.istore 8, 2) := by decide +kernel
theorem d_Mod_workOut_66 : decode c_Mod_workOut 66 = .ok (.iload 8, 2) := by decide +kernel
theorem d_Mod_workOut_68 : decode c_Mod_workOut 68 = .ok (.iload 4, 2) := by decide +kernel
theorem d_Mod_workOut_70 : decode c_Mod_workOut 70 = .ok (.if_icmp .ge 59, 3) := by decide +kernel
theorem d_Mod_workOut_73 : decode c_Mod_workOut 73 = .ok (.aload_n 0, 1) := by decide +kernel
theorem d_Mod_workOut_74 : decode c_Mod_workOut 74 = .ok (.getfield 56, 3) := by decide +kernel
theorem d_Mod_workOut_77 : decode c_Mod_workOut 77 = .ok (.iload 8, 2) := by decide +kernel
theorem d_Mod_workOut_79 : decode c_Mod_workOut 79 = .ok (.iaload, 1) := by decide +kernel
theorem d_Mod_workOut_80 : decode c_Mod_workOut 80 = .ok (.iconst 2, 1) := by decide +kernel
theorem d_Mod_workOut_81 : decode c_Mod_workOut 81 = .ok (.irem, 1) := by decide +kernel
theorem d_Mod_workOut_82 : decode c_Mod_workOut 82 = .ok (.aload_n 0, 1) := by decide +kernel
theorem d_Mod_workOut_83 : decode c_Mod_workOut 83 = .ok (.getfield 56, 3) := by decide +kernel
theorem d_Mod_workOut_86 : decode c_Mod_workOut 86 = .ok (.iload 4, 2) := by decide +kernel
theorem d_Mod_workOut_88 : decode c_Mod_workOut 88 = .ok (.iaload, 1) := by decide +kernel
theorem d_Mod_workOut_89 : decode c_Mod_workOut 89 = .ok (.iconst 2, 1) := by decide +kernel
theorem d_Mod_workOut_90 : decode c_Mod_workOut 90 = .ok (.irem, 1) := by decide +kernel
theorem d_Mod_workOut_91 : decode c_Mod_workOut 91 = .ok (.if_icmp .ne 32, 3) := by decide +kernel
theorem d_Mod_workOut_94 : decode c_Mod_workOut 94 = .ok (.aload_n 0, 1) := by decide +kernel
theorem d_Mod_workOut_95 : decode c_Mod_workOut 95 = .ok (.getfield 68, 3) := by decide +kernel
theorem d_Mod_workOut_98 : decode c_Mod_workOut 98 = .ok (.iload 8, 2) := by decide +kernel
theorem d_Mod_workOut_100 : decode c_Mod_workOut 100 = .ok (.baload, 1) := by decide +kernel
theorem d_Mod_workOut_101 : decode c_Mod_workOut 101 = .ok (.ifCond .ne 8, 3) := by decide +kernel
theorem d_Mod_workOut_104 : decode c_Mod_workOut 104 = .ok (.iload 6, 2) := by decide +kernel
theorem d_Mod_workOut_106 : decode c_Mod_workOut 106 = .ok (.ifCond .ge 7, 3) := by decide +kernel
theorem d_Mod_workOut_109 : decode c_Mod_workOut 109 = .ok (.iconst 1, 1) := by decide +kernel
theorem d_Mod_workOut_110 : decode c_Mod_workOut 110 = .ok (.goto 7, 3) := by decide +kernel
theorem d_Mod_workOut_113 : decode c_Mod_workOut 113 = .ok (.iload 7, 2) := by decide +kernel
theorem d_Mod_workOut_115 : decode c_Mod_workOut 115 = .ok (.iconst 1, 1) := by decide +kernel
theorem d_Mod_workOut_116 : decode c_Mod_workOut 116 = .ok (.iadd, 1) := by decide +kernel
theorem d_Mod_workOut_117 : decode c_Mod_workOut 117 = .ok (.istore 7, 2) := by decide +kernel
theorem d_Mod_workOut_119 : decode c_Mod_workOut 119 = .ok (.iload 8, 2) := by decide +kernel
theorem d_Mod_workOut_121 : decode c_Mod_workOut 121 = .ok (.istore 6, 2) := by decide +kernel
theorem d_Mod_workOut_123 : decode c_Mod_workOut 123 = .ok (.iinc 8 1, 3) := by decide +kernel
theorem d_Mod_workOut_126 : decode c_Mod_workOut 126 = .ok (.goto (-60), 3) := by decide +kernel
theorem d_Mod_workOut_129 : decode c_Mod_workOut 129 = .ok (.aload_n 0, 1) := by decide +kernel
theorem d_Mod_workOut_130 : decode c_Mod_workOut 130 = .ok (.getfield 68, 3) := by decide +kernel
theorem d_Mod_workOut_133 : decode c_Mod_workOut 133 = .ok (.iload 4, 2) := by decide +kernel
theorem d_Mod_workOut_135 : decode c_Mod_workOut 135 = .ok (.iconst 0, 1) := by decide +kernel
theorem d_Mod_workOut_136 : decode c_Mod_workOut 136 = .ok (.bastore, 1) := by decide +kernel
theorem d_Mod_workOut_137 : decode c_Mod_workOut 137 = .ok (.aload_n 0, 1) := by decide +kernel
theorem d_Mod_workOut_138 : decode c_Mod_workOut 138 = .ok (.getfield 62, 3) := by decide +kernel
theorem d_Mod_workOut_141 : decode c_Mod_workOut 141 = .ok (.iload 4, 2) := by decide +kernel
theorem d_Mod_workOut_143 : decode c_Mod_workOut 143 = .ok (.iload_n 2, 1) := by decide +kernel
theorem d_Mod_workOut_144 : decode c_Mod_workOut 144 = .ok (.iastore, 1) := by decide +kernel
theorem d_Mod_workOut_145 : decode c_Mod_workOut 145 = .ok (.iload 6, 2) := by decide +kernel
theorem d_Mod_workOut_147 : decode c_Mod_workOut 147 = .ok (.ifCond .lt 189, 3) := by decide +kernel
theorem d_Mod_workOut_150 : decode c_Mod_workOut 150 = .ok (.aload_n 0, 1) := by decide +kernel
theorem d_Mod_workOut_151 : decode c_Mod_workOut 151 = .ok (.getfield 65, 3) := by decide +kernel
theorem d_Mod_workOut_154 : decode c_Mod_workOut 154 = .ok (.iload 6, 2) := by decide +kernel
theorem d_Mod_workOut_156 : decode c_Mod_workOut 156 = .ok (.iaload, 1) := by decide +kernel
theorem d_Mod_workOut_157 : decode c_Mod_workOut 157 = .ok (.istore 8, 2) := by decide +kernel
theorem d_Mod_workOut_159 : decode c_Mod_workOut 159 = .ok (.aload_n 0, 1) := by decide +kernel
theorem d_Mod_workOut_160 : decode c_Mod_workOut 160 = .ok (.getfield 56, 3) := by decide +kernel
theorem d_Mod_workOut_163 : decode c_Mod_workOut 163 = .ok (.iload 6, 2) := by decide +kernel
theorem d_Mod_workOut_165 : decode c_Mod_workOut 165 = .ok (.iaload, 1) := by decide +kernel
theorem d_Mod_workOut_166 : decode c_Mod_workOut 166 = .ok (.iconst 2, 1) := by decide +kernel
theorem d_Mod_workOut_167 : decode c_Mod_workOut 167 = .ok (.idiv, 1) := by decide +kernel
theorem d_Mod_workOut_168 : decode c_Mod_workOut 168 = .ok (.istore 9, 2) := by decide +kernel
theorem d_Mod_workOut_170 : decode c_Mod_workOut 170 = .ok (.aload_n 0, 1) := by decide +kernel
theorem d_Mod_workOut_171 : decode c_Mod_workOut 171 = .ok (.getfield 50, 3) := by decide +kernel
theorem d_Mod_workOut_174 : decode c_Mod_workOut 174 = .ok (.bipush 6, 2) := by decide +kernel
theorem d_Mod_workOut_176 : decode c_Mod_workOut 176 = .ok (.aload_n 0, 1) := by decide +kernel
theorem d_Mod_workOut_177 : decode c_Mod_workOut 177 = .ok (.getfield 7, 3) := by decide +kernel
theorem d_Mod_workOut_180 : decode c_Mod_workOut 180 = .ok (.iload 9, 2) := by decide +kernel
theorem d_Mod_workOut_182 : decode c_Mod_workOut 182 = .ok (.iaload, 1) := by decide +kernel
theorem d_Mod_workOut_183 : decode c_Mod_workOut 183 = .ok (.imul, 1) := by decide +kernel
theorem d_Mod_workOut_184 : decode c_Mod_workOut 184 = .ok (.aload_n 0, 1) := by decide +kernel
theorem d_Mod_workOut_185 : decode c_Mod_workOut 185 = .ok (.getfield 7, 3) := by decide +kernel
theorem d_Mod_workOut_188 : decode c_Mod_workOut 188 = .ok (.iload 5, 2) := by decide +kernel
theorem d_Mod_workOut_190 : decode c_Mod_workOut 190 = .ok (.iaload, 1) := by decide +kernel
theorem d_Mod_workOut_191 : decode c_Mod_workOut 191 = .ok (.iadd, 1) := by decide +kernel
theorem d_Mod_workOut_192 : decode c_Mod_workOut 192 = .ok (.iaload, 1) := by decide +kernel
theorem d_Mod_workOut_193 : decode c_Mod_workOut 193 = .ok (.istore 10, 2) := by decide +kernel
theorem d_Mod_workOut_195 : decode c_Mod_workOut 195 = .ok (.iload 10, 2) := by decide +kernel
theorem d_Mod_workOut_197 : decode c_Mod_workOut 197 = .ok (.ifCond .lt 42, 3) := by decide +kernel
theorem d_Mod_workOut_200 : decode c_Mod_workOut 200 = .ok (.aload_n 0, 1) := by decide +kernel
theorem d_Mod_workOut_201 : decode c_Mod_workOut 201 = .ok (.iload 9, 2) := by decide +kernel
theorem d_Mod_workOut_203 : decode c_Mod_workOut 203 = .ok (.iload 5, 2) := by decide +kernel
theorem d_Mod_workOut_205 : decode c_Mod_workOut 205 = .ok (.invokevirtual 106, 3) := by decide +kernel
theorem d_Mod_workOut_208 : decode c_Mod_workOut 208 = .ok (.aload_n 0, 1) := by decide +kernel
theorem d_Mod_workOut_209 : decode c_Mod_workOut 209 = .ok (.getfield 41, 3) := by decide +kernel
theorem d_Mod_workOut_212 : decode c_Mod_workOut 212 = .ok (.if_icmp .gt 27, 3) := by decide +kernel
theorem d_Mod_workOut_215 : decode c_Mod_workOut 215 = .ok (.iload 7, 2) := by decide +kernel
theorem d_Mod_workOut_217 : decode c_Mod_workOut 217 = .ok (.aload_n 0, 1) := by decide +kernel
theorem d_Mod_workOut_218 : decode c_Mod_workOut 218 = .ok (.getfield 38, 3) := by decide +kernel
theorem d_Mod_workOut_221 : decode c_Mod_workOut 221 = .ok (.if_icmp .ge 18, 3) := by decide +kernel
theorem d_Mod_workOut_224 : decode c_Mod_workOut 224 = .ok (.iload_n 2, 1) := by decide +kernel
theorem d_Mod_workOut_225 : decode c_Mod_workOut 225 = .ok (.iload 8, 2) := by decide +kernel
theorem d_Mod_workOut_227 : decode c_Mod_workOut 227 = .ok (.isub, 1) := by decide +kernel
theorem d_Mod_workOut_228 : decode c_Mod_workOut 228 = .ok (.aload_n 0, 1) := by decide +kernel
theorem d_Mod_workOut_229 : decode c_Mod_workOut 229 = .ok (.getfield 35, 3) := by decide +kernel
theorem d_Mod_workOut_232 : decode c_Mod_workOut 232 = .ok (.if_icmp .gt 7, 3) := by decide +kernel
theorem d_Mod_workOut_235 : decode c_Mod_workOut 235 = .ok (.iconst 1, 1) := by decide +kernel
theorem d_Mod_workOut_236 : decode c_Mod_workOut 236 = .ok (.goto 4, 3) := by decide +kernel
theorem d_Mod_workOut_239 : decode c_Mod_workOut 239 = .ok (.iconst 0, 1) := by decide +kernel
theorem d_Mod_workOut_240 : decode c_Mod_workOut 240 = .ok (.istore 11, 2) := by decide +kernel
theorem d_Mod_workOut_242 : decode c_Mod_workOut 242 = .ok (.aload_n 0, 1) := by decide +kernel
theorem d_Mod_workOut_243 : decode c_Mod_workOut 243 = .ok (.getfield 68, 3) := by decide +kernel
theorem d_Mod_workOut_246 : decode c_Mod_workOut 246 = .ok (.iload 4, 2) := by decide +kernel
theorem d_Mod_workOut_248 : decode c_Mod_workOut 248 = .ok (.iload 11, 2) := by decide +kernel
theorem d_Mod_workOut_250 : decode c_Mod_workOut 250 = .ok (.ifCond .ne 7, 3) := by decide +kernel
theorem d_Mod_workOut_253 : decode c_Mod_workOut 253 = .ok (.iconst 1, 1) := by decide +kernel
theorem d_Mod_workOut_254 : decode c_Mod_workOut 254 = .ok (.goto 4, 3) := by decide +kernel
theorem d_Mod_workOut_257 : decode c_Mod_workOut 257 = .ok (.iconst 0, 1) := by decide +kernel
theorem d_Mod_workOut_258 : decode c_Mod_workOut 258 = .ok (.bastore, 1) := by decide +kernel
theorem d_Mod_workOut_259 : decode c_Mod_workOut 259 = .ok (.iload 11, 2) := by decide +kernel
theorem d_Mod_workOut_261 : decode c_Mod_workOut 261 = .ok (.ifCond .eq 8, 3) := by decide +kernel
theorem d_Mod_workOut_264 : decode c_Mod_workOut 264 = .ok (.iload 8, 2) := by decide +kernel
theorem d_Mod_workOut_266 : decode c_Mod_workOut 266 = .ok (.goto 10, 3) := by decide +kernel
theorem d_Mod_workOut_269 : decode c_Mod_workOut 269 = .ok (.iload 8, 2) := by decide +kernel
theorem d_Mod_workOut_271 : decode c_Mod_workOut 271 = .ok (.aload_n 0, 1) := by decide +kernel
theorem d_Mod_workOut_272 : decode c_Mod_workOut 272 = .ok (.getfield 32, 3) := by decide +kernel
theorem d_Mod_workOut_275 : decode c_Mod_workOut 275 = .ok (.iadd, 1) := by decide +kernel
theorem d_Mod_workOut_276 : decode c_Mod_workOut 276 = .ok (.istore 12, 2) := by decide +kernel
theorem d_Mod_workOut_278 : decode c_Mod_workOut 278 = .ok (.aload_n 0, 1) := by decide +kernel
theorem d_Mod_workOut_279 : decode c_Mod_workOut 279 = .ok (.getfield 62, 3) := by decide +kernel
theorem d_Mod_workOut_282 : decode c_Mod_workOut 282 = .ok (.iload 4, 2) := by decide +kernel
theorem d_Mod_workOut_284 : decode c_Mod_workOut 284 = .ok (.iload 12, 2) := by decide +kernel
theorem d_Mod_workOut_286 : decode c_Mod_workOut 286 = .ok (.iload_n 2, 1) := by decide +kernel
theorem d_Mod_workOut_287 : decode c_Mod_workOut 287 = .ok (.if_icmp .le 8, 3) := by decide +kernel
theorem d_Mod_workOut_290 : decode c_Mod_workOut 290 = .ok (.iload 12, 2) := by decide +kernel
theorem d_Mod_workOut_292 : decode c_Mod_workOut 292 = .ok (.goto 4, 3) := by decide +kernel
theorem d_Mod_workOut_295 : decode c_Mod_workOut 295 = .ok (.iload_n 2, 1) := by decide +kernel
theorem d_Mod_workOut_296 : decode c_Mod_workOut 296 = .ok (.iastore, 1) := by decide +kernel
theorem d_Mod_workOut_297 : decode c_Mod_workOut 297 = .ok (.aload_n 0, 1) := by decide +kernel
theorem d_Mod_workOut_298 : decode c_Mod_workOut 298 = .ok (.dup, 1) := by decide +kernel
theorem d_Mod_workOut_299 : decode c_Mod_workOut 299 = .ok (.getfield 97, 3) := by decide +kernel
theorem d_Mod_workOut_302 : decode c_Mod_workOut 302 = .ok (.iload 11, 2) := by decide +kernel
theorem d_Mod_workOut_304 : decode c_Mod_workOut 304 = .ok (.ifCond .eq 8, 3) := by decide +kernel
theorem d_Mod_workOut_307 : decode c_Mod_workOut 307 = .ok (.iload 10, 2) := by decide +kernel
theorem d_Mod_workOut_309 : decode c_Mod_workOut 309 = .ok (.goto 4, 3) := by decide +kernel
theorem d_Mod_workOut_312 : decode c_Mod_workOut 312 = .ok (.iconst 0, 1) := by decide +kernel
theorem d_Mod_workOut_313 : decode c_Mod_workOut 313 = .ok (.iadd, 1) := by decide +kernel
theorem d_Mod_workOut_314 : decode c_Mod_workOut 314 = .ok (.putfield 97, 3) := by decide +kernel
theorem d_Mod_workOut_317 : decode c_Mod_workOut 317 = .ok (.aload_n 0, 1) := by decide +kernel
theorem d_Mod_workOut_318 : decode c_Mod_workOut 318 = .ok (.dup, 1) := by decide +kernel
theorem d_Mod_workOut_319 : decode c_Mod_workOut 319 = .ok (.getfield 100, 3) := by decide +kernel
theorem d_Mod_workOut_322 : decode c_Mod_workOut 322 = .ok (.iload 11, 2) := by decide +kernel
theorem d_Mod_workOut_324 : decode c_Mod_workOut 324 = .ok (.ifCond .eq 7, 3) := by decide +kernel
theorem d_Mod_workOut_327 : decode c_Mod_workOut 327 = .ok (.iconst 0, 1) := by decide +kernel
theorem d_Mod_workOut_328 : decode c_Mod_workOut 328 = .ok (.goto 4, 3) := by decide +kernel
theorem d_Mod_workOut_331 : decode c_Mod_workOut 331 = .ok (.iconst 1, 1) := by decide +kernel
theorem d_Mod_workOut_332 : decode c_Mod_workOut 332 = .ok (.iadd, 1) := by decide +kernel
theorem d_Mod_workOut_333 : decode c_Mod_workOut 333 = .ok (.putfield 100, 3) := by decide +kernel
theorem d_Mod_workOut_336 : decode c_Mod_workOut 336 = .ok (.aload_n 0, 1) := by decide +kernel
theorem d_Mod_workOut_337 : decode c_Mod_workOut 337 = .ok (.getfield 65, 3) := by decide +kernel
theorem d_Mod_workOut_340 : decode c_Mod_workOut 340 = .ok (.iload 4, 2) := by decide +kernel
theorem d_Mod_workOut_342 : decode c_Mod_workOut 342 = .ok (.aload_n 0, 1) := by decide +kernel
theorem d_Mod_workOut_343 : decode c_Mod_workOut 343 = .ok (.getfield 62, 3) := by decide +kernel
theorem d_Mod_workOut_346 : decode c_Mod_workOut 346 = .ok (.iload 4, 2) := by decide +kernel
theorem d_Mod_workOut_348 : decode c_Mod_workOut 348 = .ok (.iaload, 1) := by decide +kernel
theorem d_Mod_workOut_349 : decode c_Mod_workOut 349 = .ok (.aload_n 0, 1) := by decide +kernel
theorem d_Mod_workOut_350 : decode c_Mod_workOut 350 = .ok (.getfield 19, 3) := by decide +kernel
theorem d_Mod_workOut_353 : decode c_Mod_workOut 353 = .ok (.iload 5, 2) := by decide +kernel
theorem d_Mod_workOut_355 : decode c_Mod_workOut 355 = .ok (.iaload, 1) := by decide +kernel
theorem d_Mod_workOut_356 : decode c_Mod_workOut 356 = .ok (.iadd, 1) := by decide +kernel
theorem d_Mod_workOut_357 : decode c_Mod_workOut 357 = .ok (.iastore, 1) := by decide +kernel
theorem d_Mod_workOut_358 : decode c_Mod_workOut 358 = .ok (.aload_n 0, 1) := by decide +kernel
theorem d_Mod_workOut_359 : decode c_Mod_workOut 359 = .ok (.dup, 1) := by decide +kernel
theorem d_Mod_workOut_360 : decode c_Mod_workOut 360 = .ok (.getfield 103, 3) := by decide +kernel
theorem d_Mod_workOut_363 : decode c_Mod_workOut 363 = .ok (.aload_n 0, 1) := by decide +kernel
theorem d_Mod_workOut_364 : decode c_Mod_workOut 364 = .ok (.getfield 65, 3) := by decide +kernel
theorem d_Mod_workOut_367 : decode c_Mod_workOut 367 = .ok (.iload 4, 2) := by decide +kernel
theorem d_Mod_workOut_369 : decode c_Mod_workOut 369 = .ok (.iaload, 1) := by decide +kernel
theorem d_Mod_workOut_370 : decode c_Mod_workOut 370 = .ok (.aload_n 0, 1) := by decide +kernel
theorem d_Mod_workOut_371 : decode c_Mod_workOut 371 = .ok (.getfield 22, 3) := by decide +kernel
theorem d_Mod_workOut_374 : decode c_Mod_workOut 374 = .ok (.iload 5, 2) := by decide +kernel
theorem d_Mod_workOut_376 : decode c_Mod_workOut 376 = .ok (.iaload, 1) := by decide +kernel
theorem d_Mod_workOut_377 : decode c_Mod_workOut 377 = .ok (.if_icmp .le 21, 3) := by decide +kernel
theorem d_Mod_workOut_380 : decode c_Mod_workOut 380 = .ok (.aload_n 0, 1) := by decide +kernel
theorem d_Mod_workOut_381 : decode c_Mod_workOut 381 = .ok (.getfield 65, 3) := by decide +kernel
theorem d_Mod_workOut_384 : decode c_Mod_workOut 384 = .ok (.iload 4, 2) := by decide +kernel
theorem d_Mod_workOut_386 : decode c_Mod_workOut 386 = .ok (.iaload, 1) := by decide +kernel
theorem d_Mod_workOut_387 : decode c_Mod_workOut 387 = .ok (.aload_n 0, 1) := by decide +kernel
theorem d_Mod_workOut_388 : decode c_Mod_workOut 388 = .ok (.getfield 22, 3) := by decide +kernel
theorem d_Mod_workOut_391 : decode c_Mod_workOut 391 = .ok (.iload 5, 2) := by decide +kernel
theorem d_Mod_workOut_393 : decode c_Mod_workOut 393 = .ok (.iaload, 1) := by decide +kernel
theorem d_Mod_workOut_394 : decode c_Mod_workOut 394 = .ok (.isub, 1) := by decide +kernel
theorem d_Mod_workOut_395 : decode c_Mod_workOut 395 = .ok (.goto 4, 3) := by decide +kernel
theorem d_Mod_workOut_398 : decode c_Mod_workOut 398 = .ok (.iconst 0, 1) := by decide +kernel
theorem d_Mod_workOut_399 : decode c_Mod_workOut 399 = .ok (.iadd, 1) := by decide +kernel
theorem d_Mod_workOut_400 : decode c_Mod_workOut 400 = .ok (.putfield 103, 3) := by decide +kernel
theorem d_Mod_workOut_403 : decode c_Mod_workOut 403 = .ok (.iload_n 3, 1) := by decide +kernel
theorem d_Mod_workOut_404 : decode c_Mod_workOut 404 = .ok (.ifCond .eq 46, 3) := by decide +kernel
theorem d_Mod_workOut_407 : decode c_Mod_workOut 407 = .ok (.aload_n 0, 1) := by decide +kernel
theorem d_Mod_workOut_408 : decode c_Mod_workOut 408 = .ok (.getfield 62, 3) := by decide +kernel
theorem d_Mod_workOut_411 : decode c_Mod_workOut 411 = .ok (.iload 4, 2) := by decide +kernel
theorem d_Mod_workOut_413 : decode c_Mod_workOut 413 = .ok (.iaload, 1) := by decide +kernel
theorem d_Mod_workOut_414 : decode c_Mod_workOut 414 = .ok (.iload_n 2, 1) := by decide +kernel
theorem d_Mod_workOut_415 : decode c_Mod_workOut 415 = .ok (.isub, 1) := by decide +kernel
theorem d_Mod_workOut_416 : decode c_Mod_workOut 416 = .ok (.aload_n 0, 1) := by decide +kernel
theorem d_Mod_workOut_417 : decode c_Mod_workOut 417 = .ok (.getfield 28, 3) := by decide +kernel
theorem d_Mod_workOut_420 : decode c_Mod_workOut 420 = .ok (.if_icmp .gt 30, 3) := by decide +kernel
theorem d_Mod_workOut_423 : decode c_Mod_workOut 423 = .ok (.aload_n 0, 1) := by decide +kernel
theorem d_Mod_workOut_424 : decode c_Mod_workOut 424 = .ok (.getfield 25, 3) := by decide +kernel
theorem d_Mod_workOut_427 : decode c_Mod_workOut 427 = .ok (.iload 5, 2) := by decide +kernel
theorem d_Mod_workOut_429 : decode c_Mod_workOut 429 = .ok (.iaload, 1) := by decide +kernel
theorem d_Mod_workOut_430 : decode c_Mod_workOut 430 = .ok (.aload_n 0, 1) := by decide +kernel
theorem d_Mod_workOut_431 : decode c_Mod_workOut 431 = .ok (.getfield 56, 3) := by decide +kernel
theorem d_Mod_workOut_434 : decode c_Mod_workOut 434 = .ok (.iload 4, 2) := by decide +kernel
theorem d_Mod_workOut_436 : decode c_Mod_workOut 436 = .ok (.iaload, 1) := by decide +kernel
theorem d_Mod_workOut_437 : decode c_Mod_workOut 437 = .ok (.iconst 2, 1) := by decide +kernel
theorem d_Mod_workOut_438 : decode c_Mod_workOut 438 = .ok (.irem, 1) := by decide +kernel
theorem d_Mod_workOut_439 : decode c_Mod_workOut 439 = .ok (.ishr, 1) := by decide +kernel
theorem d_Mod_workOut_440 : decode c_Mod_workOut 440 = .ok (.iconst 1, 1) := by decide +kernel
theorem d_Mod_workOut_441 : decode c_Mod_workOut 441 = .ok (.iand, 1) := by decide +kernel
theorem d_Mod_workOut_442 : decode c_Mod_workOut 442 = .ok (.iconst 1, 1) := by decide +kernel
theorem d_Mod_workOut_443 : decode c_Mod_workOut 443 = .ok (.if_icmp .ne 7, 3) := by decide +kernel
theorem d_Mod_workOut_446 : decode c_Mod_workOut 446 = .ok (.iconst 1, 1) := by decide +kernel
theorem d_Mod_workOut_447 : decode c_Mod_workOut 447 = .ok (.goto 4, 3) := by decide +kernel
theorem d_Mod_workOut_450 : decode c_Mod_workOut 450 = .ok (.iconst 0, 1) := by decide +kernel
theorem d_Mod_workOut_451 : decode c_Mod_workOut 451 = .ok (.istore_n 3, 1) := by decide +kernel
theorem d_Mod_workOut_452 : decode c_Mod_workOut 452 = .ok (.iinc 4 1, 3) := by decide +kernel
theorem d_Mod_workOut_455 : decode c_Mod_workOut 455 = .ok (.goto (-433), 3) := by decide +kernel
theorem d_Mod_workOut_458 : decode c_Mod_workOut 458 = .ok (.iload_n 3, 1) := by decide +kernel
theorem d_Mod_workOut_459 : decode c_Mod_workOut 459 = .ok (.ireturn, 1) := by decide +kernel
theorem d_Mod_costNow_0 : decode c_Mod_costNow 0 = .ok (.aload_n 0, 1) := by decide +kernel
theorem d_Mod_costNow_1 : decode c_Mod_costNow 1 = .ok (.getfield 97, 3) := by decide +kernel
theorem d_Mod_costNow_4 : decode c_Mod_costNow 4 = .ok (.aload_n 0, 1) := by decide +kernel
theorem d_Mod_costNow_5 : decode c_Mod_costNow 5 = .ok (.getfield 100, 3) := by decide +kernel
theorem d_Mod_costNow_8 : decode c_Mod_costNow 8 = .ok (.aload_n 0, 1) := by decide +kernel
theorem d_Mod_costNow_9 : decode c_Mod_costNow 9 = .ok (.getfield 44, 3) := by decide +kernel
theorem d_Mod_costNow_12 : decode c_Mod_costNow 12 = .ok (.imul, 1) := by decide +kernel
theorem d_Mod_costNow_13 : decode c_Mod_costNow 13 = .ok (.iadd, 1) := by decide +kernel
theorem d_Mod_costNow_14 : decode c_Mod_costNow 14 = .ok (.aload_n 0, 1) := by decide +kernel
theorem d_Mod_costNow_15 : decode c_Mod_costNow 15 = .ok (.getfield 103, 3) := by decide +kernel
theorem d_Mod_costNow_18 : decode c_Mod_costNow 18 = .ok (.aload_n 0, 1) := by decide +kernel
theorem d_Mod_costNow_19 : decode c_Mod_costNow 19 = .ok (.getfield 47, 3) := by decide +kernel
theorem d_Mod_costNow_22 : decode c_Mod_costNow 22 = .ok (.imul, 1) := by decide +kernel
theorem d_Mod_costNow_23 : decode c_Mod_costNow 23 = .ok (.iadd, 1) := by decide +kernel
theorem d_Mod_costNow_24 : decode c_Mod_costNow 24 = .ok (.ireturn, 1) := by decide +kernel
theorem d_Mod_isUsed_0 : decode c_Mod_isUsed 0 = .ok (.iconst 0, 1) := by decide +kernel
theorem d_Mod_isUsed_1 : decode c_Mod_isUsed 1 = .ok (.istore_n 2, 1) := by decide +kernel
theorem d_Mod_isUsed_2 : decode c_Mod_isUsed 2 = .ok (.iconst 0, 1) := by decide +kernel
theorem d_Mod_isUsed_3 : decode c_Mod_isUsed 3 = .ok (.istore_n 3, 1) := by decide +kernel
theorem d_Mod_isUsed_4 : decode c_Mod_isUsed 4 = .ok (.iload_n 3, 1) := by decide +kernel
theorem d_Mod_isUsed_5 : decode c_Mod_isUsed 5 = .ok (.iload_n 1, 1) := by decide +kernel
theorem d_Mod_isUsed_6 : decode c_Mod_isUsed 6 = .ok (.if_icmp .ge 38, 3) := by decide +kernel
theorem d_Mod_isUsed_9 : decode c_Mod_isUsed 9 = .ok (.iload_n 2, 1) := by decide +kernel
theorem d_Mod_isUsed_10 : decode c_Mod_isUsed 10 = .ok (.ifCond .ne 22, 3) := by decide +kernel
theorem d_Mod_isUsed_13 : decode c_Mod_isUsed 13 = .ok (.aload_n 0, 1) := by decide +kernel
theorem d_Mod_isUsed_14 : decode c_Mod_isUsed 14 = .ok (.getfield 56, 3) := by decide +kernel
theorem d_Mod_isUsed_17 : decode c_Mod_isUsed 17 = .ok (.iload_n 3, 1) := by decide +kernel
theorem d_Mod_isUsed_18 : decode c_Mod_isUsed 18 = .ok (.iaload, 1) := by decide +kernel
theorem d_Mod_isUsed_19 : decode c_Mod_isUsed 19 = .ok (.iconst 2, 1) := by decide +kernel
theorem d_Mod_isUsed_20 : decode c_Mod_isUsed 20 = .ok (.idiv, 1) := by decide +kernel
theorem d_Mod_isUsed_21 : decode c_Mod_isUsed 21 = .ok (.aload_n 0, 1) := by decide +kernel
theorem d_Mod_isUsed_22 : decode c_Mod_isUsed 22 = .ok (.getfield 56, 3) := by decide +kernel
theorem d_Mod_isUsed_25 : decode c_Mod_isUsed 25 = .ok (.iload_n 1, 1) := by decide +kernel
theorem d_Mod_isUsed_26 : decode c_Mod_isUsed 26 = .ok (.iaload, 1) := by decide +kernel
theorem d_Mod_isUsed_27 : decode c_Mod_isUsed 27 = .ok (.iconst 2, 1) := by decide +kernel
theorem d_Mod_isUsed_28 : decode c_Mod_isUsed 28 = .ok (.idiv, 1) := by decide +kernel
theorem d_Mod_isUsed_29 : decode c_Mod_isUsed 29 = .ok (.if_icmp .ne 7, 3) := by decide +kernel
theorem d_Mod_isUsed_32 : decode c_Mod_isUsed 32 = .ok (.iconst 1, 1) := by decide +kernel
theorem d_Mod_isUsed_33 : decode c_Mod_isUsed 33 = .ok (.goto 4, 3) := by decide +kernel
theorem d_Mod_isUsed_36 : decode c_Mod_isUsed 36 = .ok (.iconst 0, 1) := by decide +kernel
theorem d_Mod_isUsed_37 : decode c_Mod_isUsed 37 = .ok (.istore_n 2, 1) := by decide +kernel
theorem d_Mod_isUsed_38 : decode c_Mod_isUsed 38 = .ok (.iinc 3 1, 3) := by decide +kernel
theorem d_Mod_isUsed_41 : decode c_Mod_isUsed 41 = .ok (.goto (-37), 3) := by decide +kernel
theorem d_Mod_isUsed_44 : decode c_Mod_isUsed 44 = .ok (.iload_n 2, 1) := by decide +kernel
theorem d_Mod_isUsed_45 : decode c_Mod_isUsed 45 = .ok (.ireturn, 1) := by decide +kernel
theorem d_Mod_search_0 : decode c_Mod_search 0 = .ok (.iconst 0, 1) := by decide +kernel
theorem d_Mod_search_1 : decode c_Mod_search 1 = .ok (.istore 4, 2) := by decide +kernel
theorem d_Mod_search_3 : decode c_Mod_search 3 = .ok (.iconst 0, 1) := by decide +kernel
theorem d_Mod_search_4 : decode c_Mod_search 4 = .ok (.istore 5, 2) := by decide +kernel
theorem d_Mod_search_6 : decode c_Mod_search 6 = .ok (.iload 5, 2) := by decide +kernel
theorem d_Mod_search_8 : decode c_Mod_search 8 = .ok (.aload_n 0, 1) := by decide +kernel
theorem d_Mod_search_9 : decode c_Mod_search 9 = .ok (.getfield 86, 3) := by decide +kernel
theorem d_Mod_search_12 : decode c_Mod_search 12 = .ok (.if_icmp .ge 20, 3) := by decide +kernel
theorem d_Mod_search_15 : decode c_Mod_search 15 = .ok (.iload 4, 2) := by decide +kernel
theorem d_Mod_search_17 : decode c_Mod_search 17 = .ok (.iload_n 1, 1) := by decide +kernel
theorem d_Mod_search_18 : decode c_Mod_search 18 = .ok (.iload 5, 2) := by decide +kernel
theorem d_Mod_search_20 : decode c_Mod_search 20 = .ok (.ishr, 1) := by decide +kernel
theorem d_Mod_search_21 : decode c_Mod_search 21 = .ok (.iconst 1, 1) := by decide +kernel
theorem d_Mod_search_22 : decode c_Mod_search 22 = .ok (.iand, 1) := by decide +kernel
theorem d_Mod_search_23 : decode c_Mod_search 23 = .ok (.iadd, 1) := by decide +kernel
theorem d_Mod_search_24 : decode c_Mod_search 24 = .ok (.istore 4, 2) := by decide +kernel
theorem d_Mod_search_26 : decode c_Mod_search 26 = .ok (.iinc 5 1, 3) := by decide +kernel
theorem d_Mod_search_29 : decode c_Mod_search 29 = .ok (.goto (-23), 3) := by decide +kernel
theorem d_Mod_search_32 : decode c_Mod_search 32 = .ok (.iconst 0, 1) := by decide +kernel
theorem d_Mod_search_33 : decode c_Mod_search 33 = .ok (.istore 5, 2) := by decide +kernel
theorem d_Mod_search_35 : decode c_Mod_search 35 = .ok (.iconst 0, 1) := by decide +kernel
theorem d_Mod_search_36 : decode c_Mod_search 36 = .ok (.istore 6, 2) := by decide +kernel
theorem d_Mod_search_38 : decode c_Mod_search 38 = .ok (.iconst 0, 1) := by decide +kernel
theorem d_Mod_search_39 : decode c_Mod_search 39 = .ok (.istore 7, 2) := by decide +kernel
theorem d_Mod_search_41 : decode c_Mod_search 41 = .ok (.aload_n 0, 1) := by decide +kernel
theorem d_Mod_search_42 : decode c_Mod_search 42 = .ok (.getfield 56, 3) := by decide +kernel
theorem d_Mod_search_45 : decode c_Mod_search 45 = .ok (.iconst 0, 1) := by decide +kernel
theorem d_Mod_search_46 : decode c_Mod_search 46 = .ok (.iconst (-1), 1) := by decide +kernel
theorem d_Mod_search_47 : decode c_Mod_search 47 = .ok (.iastore, 1) := by decide +kernel
theorem d_Mod_search_48 : decode c_Mod_search 48 = .ok (.iload 4, 2) := by decide +kernel
theorem d_Mod_search_50 : decode c_Mod_search 50 = .ok (.ifCond .ne 5, 3) := by decide +kernel
theorem d_Mod_search_53 : decode c_Mod_search 53 = .ok (.iconst 1, 1) := by decide +kernel
theorem d_Mod_search_54 : decode c_Mod_search 54 = .ok (.ireturn, 1) := by decide +kernel
theorem d_Mod_search_55 : decode c_Mod_search 55 = .ok (.iload 7, 2) := by decide +kernel
theorem d_Mod_search_57 : decode c_Mod_search 57 = .ok (.ifCond .lt 213, 3) := by decide +kernel
theorem d_Mod_search_60 : decode c_Mod_search 60 = .ok (.aload_n 0, 1) := by decide +kernel
theorem d_Mod_search_61 : decode c_Mod_search 61 = .ok (.getfield 56, 3) := by decide +kernel
theorem d_Mod_search_64 : decode c_Mod_search 64 = .ok (.iload 7, 2) := by decide +kernel
theorem d_Mod_search_66 : decode c_Mod_search 66 = .ok (.dup2, 1) := by decide +kernel
theorem d_Mod_search_67 : decode c_Mod_search 67 = .ok (.iaload, 1) := by decide +kernel
theorem d_Mod_search_68 : decode c_Mod_search 68 = .ok (.iconst 1, 1) := by decide +kernel
theorem d_Mod_search_69 : decode c_Mod_search 69 = .ok (.iadd, 1) := by decide +kernel
theorem d_Mod_search_70 : decode c_Mod_search 70 = .ok (.iastore, 1) := by decide +kernel
theorem d_Mod_search_71 : decode c_Mod_search 71 = .ok (.aload_n 0, 1) := by decide +kernel
theorem d_Mod_search_72 : decode c_Mod_search 72 = .ok (.getfield 56, 3) := by decide +kernel
theorem d_Mod_search_75 : decode c_Mod_search 75 = .ok (.iload 7, 2) := by decide +kernel
theorem d_Mod_search_77 : decode c_Mod_search 77 = .ok (.iaload, 1) := by decide +kernel
theorem d_Mod_search_78 : decode c_Mod_search 78 = .ok (.iconst 2, 1) := by decide +kernel
theorem d_Mod_search_79 : decode c_Mod_search 79 = .ok (.aload_n 0, 1) := by decide +kernel
theorem d_Mod_search_80 : decode c_Mod_search 80 = .ok (.getfield 86, 3) := by decide +kernel
theorem d_Mod_search_83 : decode c_Mod_search 83 = .ok (.imul, 1) := by decide +kernel
theorem d_Mod_search_84 : decode c_Mod_search 84 = .ok (.if_icmp .ne 9, 3) := by decide +kernel
theorem d_Mod_search_87 : decode c_Mod_search 87 = .ok (.iinc 7 (-1), 3) := by decide +kernel
theorem d_Mod_search_90 : decode c_Mod_search 90 = .ok (.goto (-35), 3) := by decide +kernel
theorem d_Mod_search_93 : decode c_Mod_search 93 = .ok (.iload_n 1, 1) := by decide +kernel
theorem d_Mod_search_94 : decode c_Mod_search 94 = .ok (.aload_n 0, 1) := by decide +kernel
theorem d_Mod_search_95 : decode c_Mod_search 95 = .ok (.getfield 56, 3) := by decide +kernel
theorem d_Mod_search_98 : decode c_Mod_search 98 = .ok (.iload 7, 2) := by decide +kernel
theorem d_Mod_search_100 : decode c_Mod_search 100 = .ok (.iaload, 1) := by decide +kernel
theorem d_Mod_search_101 : decode c_Mod_search 101 = .ok (.iconst 2, 1) := by decide +kernel
theorem d_Mod_search_102 : decode c_Mod_search 102 = .ok (.idiv, 1) := by decide +kernel
theorem d_Mod_search_103 : decode c_Mod_search 103 = .ok (.ishr, 1) := by decide +kernel
theorem d_Mod_search_104 : decode c_Mod_search 104 = .ok (.iconst 1, 1) := by decide +kernel
theorem d_Mod_search_105 : decode c_Mod_search 105 = .ok (.iand, 1) := by decide +kernel
theorem d_Mod_search_106 : decode c_Mod_search 106 = .ok (.iconst 1, 1) := by decide +kernel
theorem d_Mod_search_107 : decode c_Mod_search 107 = .ok (.if_icmp .ne (-52), 3) := by decide +kernel
theorem d_Mod_search_110 : decode c_Mod_search 110 = .ok (.aload_n 0, 1) := by decide +kernel
theorem d_Mod_search_111 : decode c_Mod_search 111 = .ok (.iload 7, 2) := by decide +kernel
theorem d_Mod_search_113 : decode c_Mod_search 113 = .ok (.invokevirtual 110, 3) := by decide +kernel
theorem d_Mod_search_116 : decode c_Mod_search 116 = .ok (.ifCond .ne (-61), 3) := by decide +kernel
theorem d_Mod_search_119 : decode c_Mod_search 119 = .ok (.aload_n 0, 1) := by decide +kernel
theorem d_Mod_search_120 : decode c_Mod_search 120 = .ok (.iload 7, 2) := by decide +kernel
theorem d_Mod_search_122 : decode c_Mod_search 122 = .ok (.iconst 1, 1) := by decide +kernel
theorem d_Mod_search_123 : decode c_Mod_search 123 = .ok (.iadd, 1) := by decide +kernel
theorem d_Mod_search_124 : decode c_Mod_search 124 = .ok (.invokevirtual 114, 3) := by decide +kernel
theorem d_Mod_search_127 : decode c_Mod_search 127 = .ok (.ifCond .eq (-72), 3) := by decide +kernel
theorem d_Mod_search_130 : decode c_Mod_search 130 = .ok (.iload_n 3, 1) := by decide +kernel
theorem d_Mod_search_131 : decode c_Mod_search 131 = .ok (.ifCond .ne 19, 3) := by decide +kernel
theorem d_Mod_search_134 : decode c_Mod_search 134 = .ok (.aload_n 0, 1) := by decide +kernel
theorem d_Mod_search_135 : decode c_Mod_search 135 = .ok (.getfield 117, 3) := by decide +kernel
theorem d_Mod_search_138 : decode c_Mod_search 138 = .ok (.iload_n 2, 1) := by decide +kernel
theorem d_Mod_search_139 : decode c_Mod_search 139 = .ok (.if_icmp .ne 11, 3) := by decide +kernel
theorem d_Mod_search_142 : decode c_Mod_search 142 = .ok (.aload_n 0, 1) := by decide +kernel
theorem d_Mod_search_143 : decode c_Mod_search 143 = .ok (.iconst 0, 1) := by decide +kernel
theorem d_Mod_search_144 : decode c_Mod_search 144 = .ok (.putfield 120, 3) := by decide +kernel
theorem d_Mod_search_147 : decode c_Mod_search 147 = .ok (.iload 5, 2) := by decide +kernel
theorem d_Mod_search_149 : decode c_Mod_search 149 = .ok (.ireturn, 1) := by decide +kernel
theorem d_Mod_search_150 : decode c_Mod_search 150 = .ok (.aload_n 0, 1) := by decide +kernel
theorem d_Mod_search_151 : decode c_Mod_search 151 = .ok (.dup, 1) := by decide +kernel
theorem d_Mod_search_152 : decode c_Mod_search 152 = .ok (.getfield 117, 3) := by decide +kernel
theorem d_Mod_search_155 : decode c_Mod_search 155 = .ok (.iload_n 3, 1) := by decide +kernel
theorem d_Mod_search_156 : decode c_Mod_search 156 = .ok (.ifCond .eq 7, 3) := by decide +kernel
theorem d_Mod_search_159 : decode c_Mod_search 159 = .ok (.iconst 0, 1) := by decide +kernel
theorem d_Mod_search_160 : decode c_Mod_search 160 = .ok (.goto 4, 3) := by decide +kernel
theorem d_Mod_search_163 : decode c_Mod_search 163 = .ok (.iconst 1, 1) := by decide +kernel
theorem d_Mod_search_164 : decode c_Mod_search 164 = .ok (.iadd, 1) := by decide +kernel
theorem d_Mod_search_165 : decode c_Mod_search 165 = .ok (.putfield 117, 3) := by decide +kernel
theorem d_Mod_search_168 : decode c_Mod_search 168 = .ok (.iload 5, 2) := by decide +kernel
theorem d_Mod_search_170 : decode c_Mod_search 170 = .ok (.ifCond .eq 16, 3) := by decide +kernel
theorem d_Mod_search_173 : decode c_Mod_search 173 = .ok (.aload_n 0, 1) := by decide +kernel
theorem d_Mod_search_174 : decode c_Mod_search 174 = .ok (.invokevirtual 123, 3) := by decide +kernel
theorem d_Mod_search_177 : decode c_Mod_search 177 = .ok (.iload 6, 2) := by decide +kernel
theorem d_Mod_search_179 : decode c_Mod_search 179 = .ok (.if_icmp .lt 7, 3) := by decide +kernel
theorem d_Mod_search_182 : decode c_Mod_search 182 = .ok (.iconst 1, 1) := by decide +kernel
theorem d_Mod_search_183 : decode c_Mod_search 183 = .ok (.goto 4, 3) := by decide +kernel
theorem d_Mod_search_186 : decode c_Mod_search 186 = .ok (.iconst 0, 1) := by decide +kernel
theorem d_Mod_search_187 : decode c_Mod_search 187 = .ok (.istore 8, 2) := by decide +kernel
theorem d_Mod_search_189 : decode c_Mod_search 189 = .ok (.iload 8, 2) := by decide +kernel
theorem d_Mod_search_191 : decode c_Mod_search 191 = .ok (.ifCond .ne 60, 3) := by decide +kernel
theorem d_Mod_search_194 : decode c_Mod_search 194 = .ok (.iload 7, 2) := by decide +kernel
theorem d_Mod_search_196 : decode c_Mod_search 196 = .ok (.iconst 1, 1) := by decide +kernel
theorem d_Mod_search_197 : decode c_Mod_search 197 = .ok (.iadd, 1) := by decide +kernel
theorem d_Mod_search_198 : decode c_Mod_search 198 = .ok (.iload 4, 2) := by decide +kernel
theorem d_Mod_search_200 : decode c_Mod_search 200 = .ok (.if_icmp .ne 51, 3) := by decide +kernel
theorem d_Mod_search_203 : decode c_Mod_search 203 = .ok (.iconst 1, 1) := by decide +kernel
theorem d_Mod_search_204 : decode c_Mod_search 204 = .ok (.istore 5, 2) := by decide +kernel
theorem d_Mod_search_206 : decode c_Mod_search 206 = .ok (.aload_n 0, 1) := by decide +kernel
theorem d_Mod_search_207 : decode c_Mod_search 207 = .ok (.invokevirtual 123, 3) := by decide +kernel
theorem d_Mod_search_210 : decode c_Mod_search 210 = .ok (.istore 6, 2) := by decide +kernel
theorem d_Mod_search_212 : decode c_Mod_search 212 = .ok (.iload_n 3, 1) := by decide +kernel
theorem d_Mod_search_213 : decode c_Mod_search 213 = .ok (.ifCond .eq 5, 3) := by decide +kernel
theorem d_Mod_search_216 : decode c_Mod_search 216 = .ok (.iconst 1, 1) := by decide +kernel
theorem d_Mod_search_217 : decode c_Mod_search 217 = .ok (.ireturn, 1) := by decide +kernel
theorem d_Mod_search_218 : decode c_Mod_search 218 = .ok (.iconst 0, 1) := by decide +kernel
theorem d_Mod_search_219 : decode c_Mod_search 219 = .ok (.istore 9, 2) := by decide +kernel
theorem d_Mod_search_221 : decode c_Mod_search 221 = .ok (.iload 9, 2) := by decide +kernel
theorem d_Mod_search_223 : decode c_Mod_search 223 = .ok (.iload 4, 2) := by decide +kernel
theorem d_Mod_search_225 : decode c_Mod_search 225 = .ok (.if_icmp .ge 23, 3) := by decide +kernel
theorem d_Mod_search_228 : decode c_Mod_search 228 = .ok (.aload_n 0, 1) := by decide +kernel
theorem d_Mod_search_229 : decode c_Mod_search 229 = .ok (.getfield 53, 3) := by decide +kernel
theorem d_Mod_search_232 : decode c_Mod_search 232 = .ok (.iload 9, 2) := by decide +kernel
theorem d_Mod_search_234 : decode c_Mod_search 234 = .ok (.aload_n 0, 1) := by decide +kernel
theorem d_Mod_search_235 : decode c_Mod_search 235 = .ok (.getfield 56, 3) := by decide +kernel
theorem d_Mod_search_238 : decode c_Mod_search 238 = .ok (.iload 9, 2) := by decide +kernel
theorem d_Mod_search_240 : decode c_Mod_search 240 = .ok (.iaload, 1) := by decide +kernel
theorem d_Mod_search_241 : decode c_Mod_search 241 = .ok (.iastore, 1) := by decide +kernel
theorem d_Mod_search_242 : decode c_Mod_search 242 = .ok (.iinc 9 1, 3) := by decide +kernel
theorem d_Mod_search_245 : decode c_Mod_search 245 = .ok (.goto (-24), 3) := by decide +kernel
theorem d_Mod_search_248 : decode c_Mod_search 248 = .ok (.goto 19, 3) := by decide +kernel
theorem d_Mod_search_251 : decode c_Mod_search 251 = .ok (.iload 8, 2) := by decide +kernel
theorem d_Mod_search_253 : decode c_Mod_search 253 = .ok (.ifCond .ne 14, 3) := by decide +kernel
theorem d_Mod_search_256 : decode c_Mod_search 256 = .ok (.iinc 7 1, 3) := by decide +kernel
theorem d_Mod_search_259 : decode c_Mod_search 259 = .ok (.aload_n 0, 1) := by decide +kernel
theorem d_Mod_search_260 : decode c_Mod_search 260 = .ok (.getfield 56, 3) := by decide +kernel
theorem d_Mod_search_263 : decode c_Mod_search 263 = .ok (.iload 7, 2) := by decide +kernel
theorem d_Mod_search_265 : decode c_Mod_search 265 = .ok (.iconst (-1), 1) := by decide +kernel
theorem d_Mod_search_266 : decode c_Mod_search 266 = .ok (.iastore, 1) := by decide +kernel
theorem d_Mod_search_267 : decode c_Mod_search 267 = .ok (.goto (-212), 3) := by decide +kernel
theorem d_Mod_search_270 : decode c_Mod_search 270 = .ok (.iload 5, 2) := by decide +kernel
theorem d_Mod_search_272 : decode c_Mod_search 272 = .ok (.ireturn, 1) := by decide +kernel
theorem d_Mod_takePlan_0 : decode c_Mod_takePlan 0 = .ok (.iconst 0, 1) := by decide +kernel
theorem d_Mod_takePlan_1 : decode c_Mod_takePlan 1 = .ok (.istore_n 1, 1) := by decide +kernel
theorem d_Mod_takePlan_2 : decode c_Mod_takePlan 2 = .ok (.iload_n 1, 1) := by decide +kernel
theorem d_Mod_takePlan_3 : decode c_Mod_takePlan 3 = .ok (.aload_n 0, 1) := by decide +kernel
theorem d_Mod_takePlan_4 : decode c_Mod_takePlan 4 = .ok (.getfield 86, 3) := by decide +kernel
theorem d_Mod_takePlan_7 : decode c_Mod_takePlan 7 = .ok (.if_icmp .ge 21, 3) := by decide +kernel
theorem d_Mod_takePlan_10 : decode c_Mod_takePlan 10 = .ok (.aload_n 0, 1) := by decide +kernel
theorem d_Mod_takePlan_11 : decode c_Mod_takePlan 11 = .ok (.getfield 56, 3) := by decide +kernel
theorem d_Mod_takePlan_14 : decode c_Mod_takePlan 14 = .ok (.iload_n 1, 1) := by decide +kernel
theorem d_Mod_takePlan_15 : decode c_Mod_takePlan 15 = .ok (.aload_n 0, 1) := by decide +kernel
theorem d_Mod_takePlan_16 : decode c_Mod_takePlan 16 = .ok (.getfield 53, 3) := by decide +kernel
theorem d_Mod_takePlan_19 : decode c_Mod_takePlan 19 = .ok (.iload_n 1, 1) := by decide +kernel
theorem d_Mod_takePlan_20 : decode c_Mod_takePlan 20 = .ok (.iaload, 1) := by decide +kernel
theorem d_Mod_takePlan_21 : decode c_Mod_takePlan 21 = .ok (.iastore, 1) := by decide +kernel
theorem d_Mod_takePlan_22 : decode c_Mod_takePlan 22 = .ok (.iinc 1 1, 3) := by decide +kernel
theorem d_Mod_takePlan_25 : decode c_Mod_takePlan 25 = .ok (.goto (-23), 3) := by decide +kernel
theorem d_Mod_takePlan_28 : decode c_Mod_takePlan 28 = .ok (.aload_n 0, 1) := by decide +kernel
theorem d_Mod_takePlan_29 : decode c_Mod_takePlan 29 = .ok (.aload_n 0, 1) := by decide +kernel
theorem d_Mod_takePlan_30 : decode c_Mod_takePlan 30 = .ok (.getfield 86, 3) := by decide +kernel
theorem d_Mod_takePlan_33 : decode c_Mod_takePlan 33 = .ok (.invokevirtual 114, 3) := by decide +kernel
theorem d_Mod_takePlan_36 : decode c_Mod_takePlan 36 = .ok (.pop, 1) := by decide +kernel
theorem d_Mod_takePlan_37 : decode c_Mod_takePlan 37 = .ok (.return_, 1) := by decide +kernel
theorem d_Mod_run_0 : decode c_Mod_run 0 = .ok (.aload_n 0, 1) := by decide +kernel
theorem d_Mod_run_1 : decode c_Mod_run 1 = .ok (.iload_n 1, 1) := by decide +kernel
theorem d_Mod_run_2 : decode c_Mod_run 2 = .ok (.iconst 0, 1) := by decide +kernel
theorem d_Mod_run_3 : decode c_Mod_run 3 = .ok (.ldc 96, 2) := by decide +kernel
theorem d_Mod_run_5 : decode c_Mod_run 5 = .ok (.invokestatic 82, 3) := by decide +kernel
theorem d_Mod_run_8 : decode c_Mod_run 8 = .ok (.ifCond .ne 7, 3) := by decide +kernel
theorem d_Mod_run_11 : decode c_Mod_run 11 = .ok (.iconst 1, 1) := by decide +kernel
theorem d_Mod_run_12 : decode c_Mod_run 12 = .ok (.goto 4, 3) := by decide +kernel
theorem d_Mod_run_15 : decode c_Mod_run 15 = .ok (.iconst 0, 1) := by decide +kernel
theorem d_Mod_run_16 : decode c_Mod_run 16 = .ok (.iconst 0, 1) := by decide +kernel
theorem d_Mod_run_17 : decode c_Mod_run 17 = .ok (.iconst 0, 1) := by decide +kernel
theorem d_Mod_run_18 : decode c_Mod_run 18 = .ok (.invokevirtual 89, 3) := by decide +kernel
theorem d_Mod_run_21 : decode c_Mod_run 21 = .ok (.ifCond .eq 5, 3) := by decide +kernel
theorem d_Mod_run_24 : decode c_Mod_run 24 = .ok (.iconst 0, 1) := by decide +kernel
theorem d_Mod_run_25 : decode c_Mod_run 25 = .ok (.ireturn, 1) := by decide +kernel
theorem d_Mod_run_26 : decode c_Mod_run 26 = .ok (.aload_n 0, 1) := by decide +kernel
theorem d_Mod_run_27 : decode c_Mod_run 27 = .ok (.iconst 1, 1) := by decide +kernel
theorem d_Mod_run_28 : decode c_Mod_run 28 = .ok (.putfield 75, 3) := by decide +kernel
theorem d_Mod_run_31 : decode c_Mod_run 31 = .ok (.aload_n 0, 1) := by decide +kernel
theorem d_Mod_run_32 : decode c_Mod_run 32 = .ok (.iconst 1, 1) := by decide +kernel
theorem d_Mod_run_33 : decode c_Mod_run 33 = .ok (.putfield 120, 3) := by decide +kernel
theorem d_Mod_run_36 : decode c_Mod_run 36 = .ok (.aload_n 0, 1) := by decide +kernel
theorem d_Mod_run_37 : decode c_Mod_run 37 = .ok (.iconst 0, 1) := by decide +kernel
theorem d_Mod_run_38 : decode c_Mod_run 38 = .ok (.putfield 117, 3) := by decide +kernel
theorem d_Mod_run_41 : decode c_Mod_run 41 = .ok (.aload_n 0, 1) := by decide +kernel
theorem d_Mod_run_42 : decode c_Mod_run 42 = .ok (.aload_n 0, 1) := by decide +kernel
theorem d_Mod_run_43 : decode c_Mod_run 43 = .ok (.iconst 1, 1) := by decide +kernel
theorem d_Mod_run_44 : decode c_Mod_run 44 = .ok (.aload_n 0, 1) := by decide +kernel
theorem d_Mod_run_45 : decode c_Mod_run 45 = .ok (.getfield 86, 3) := by decide +kernel
theorem d_Mod_run_48 : decode c_Mod_run 48 = .ok (.ishl, 1) := by decide +kernel
theorem d_Mod_run_49 : decode c_Mod_run 49 = .ok (.iconst 1, 1) := by decide +kernel
theorem d_Mod_run_50 : decode c_Mod_run 50 = .ok (.isub, 1) := by decide +kernel
theorem d_Mod_run_51 : decode c_Mod_run 51 = .ok (.iload_n 1, 1) := by decide +kernel
theorem d_Mod_run_52 : decode c_Mod_run 52 = .ok (.iconst 0, 1) := by decide +kernel
theorem d_Mod_run_53 : decode c_Mod_run 53 = .ok (.invokevirtual 127, 3) := by decide +kernel
theorem d_Mod_run_56 : decode c_Mod_run 56 = .ok (.putfield 79, 3) := by decide +kernel
theorem d_Mod_run_59 : decode c_Mod_run 59 = .ok (.aload_n 0, 1) := by decide +kernel
theorem d_Mod_run_60 : decode c_Mod_run 60 = .ok (.getfield 79, 3) := by decide +kernel
theorem d_Mod_run_63 : decode c_Mod_run 63 = .ok (.ifCond .ne 5, 3) := by decide +kernel
theorem d_Mod_run_66 : decode c_Mod_run 66 = .ok (.iconst (-1), 1) := by decide +kernel
theorem d_Mod_run_67 : decode c_Mod_run 67 = .ok (.ireturn, 1) := by decide +kernel
theorem d_Mod_run_68 : decode c_Mod_run 68 = .ok (.aload_n 0, 1) := by decide +kernel
theorem d_Mod_run_69 : decode c_Mod_run 69 = .ok (.invokevirtual 131, 3) := by decide +kernel
theorem d_Mod_run_72 : decode c_Mod_run 72 = .ok (.aload_n 0, 1) := by decide +kernel
theorem d_Mod_run_73 : decode c_Mod_run 73 = .ok (.invokevirtual 123, 3) := by decide +kernel
theorem d_Mod_run_76 : decode c_Mod_run 76 = .ok (.ireturn, 1) := by decide +kernel
theorem d_Mod_planned_0 : decode c_Mod_planned 0 = .ok (.aload_n 0, 1) := by decide +kernel
theorem d_Mod_planned_1 : decode c_Mod_planned 1 = .ok (.iload_n 1, 1) := by decide +kernel
theorem d_Mod_planned_2 : decode c_Mod_planned 2 = .ok (.iconst 0, 1) := by decide +kernel
theorem d_Mod_planned_3 : decode c_Mod_planned 3 = .ok (.iconst 1, 1) := by decide +kernel
theorem d_Mod_planned_4 : decode c_Mod_planned 4 = .ok (.invokestatic 82, 3) := by decide +kernel
theorem d_Mod_planned_7 : decode c_Mod_planned 7 = .ok (.ifCond .ne 7, 3) := by decide +kernel
theorem d_Mod_planned_10 : decode c_Mod_planned 10 = .ok (.iconst 1, 1) := by decide +kernel
theorem d_Mod_planned_11 : decode c_Mod_planned 11 = .ok (.goto 4, 3) := by decide +kernel
theorem d_Mod_planned_14 : decode c_Mod_planned 14 = .ok (.iconst 0, 1) := by decide +kernel
theorem d_Mod_planned_15 : decode c_Mod_planned 15 = .ok (.aload_n 0, 1) := by decide +kernel
theorem d_Mod_planned_16 : decode c_Mod_planned 16 = .ok (.getfield 75, 3) := by decide +kernel
theorem d_Mod_planned_19 : decode c_Mod_planned 19 = .ok (.ifCond .ne 7, 3) := by decide +kernel
theorem d_Mod_planned_22 : decode c_Mod_planned 22 = .ok (.iconst 1, 1) := by decide +kernel
theorem d_Mod_planned_23 : decode c_Mod_planned 23 = .ok (.goto 4, 3) := by decide +kernel
theorem d_Mod_planned_26 : decode c_Mod_planned 26 = .ok (.iconst 0, 1) := by decide +kernel
theorem d_Mod_planned_27 : decode c_Mod_planned 27 = .ok (.iconst 0, 1) := by decide +kernel
theorem d_Mod_planned_28 : decode c_Mod_planned 28 = .ok (.invokevirtual 89, 3) := by decide +kernel
theorem d_Mod_planned_31 : decode c_Mod_planned 31 = .ok (.ifCond .eq 5, 3) := by decide +kernel
theorem d_Mod_planned_34 : decode c_Mod_planned 34 = .ok (.iconst 0, 1) := by decide +kernel
theorem d_Mod_planned_35 : decode c_Mod_planned 35 = .ok (.ireturn, 1) := by decide +kernel
theorem d_Mod_planned_36 : decode c_Mod_planned 36 = .ok (.iload_n 1, 1) := by decide +kernel
theorem d_Mod_planned_37 : decode c_Mod_planned 37 = .ok (.iconst 1, 1) := by decide +kernel
theorem d_Mod_planned_38 : decode c_Mod_planned 38 = .ok (.if_icmp .ne 10, 3) := by decide +kernel
theorem d_Mod_planned_41 : decode c_Mod_planned 41 = .ok (.aload_n 0, 1) := by decide +kernel
theorem d_Mod_planned_42 : decode c_Mod_planned 42 = .ok (.getfield 117, 3) := by decide +kernel
theorem d_Mod_planned_45 : decode c_Mod_planned 45 = .ok (.goto 15, 3) := by decide +kernel
theorem d_Mod_planned_48 : decode c_Mod_planned 48 = .ok (.aload_n 0, 1) := by decide +kernel
theorem d_Mod_planned_49 : decode c_Mod_planned 49 = .ok (.getfield 120, 3) := by decide +kernel
theorem d_Mod_planned_52 : decode c_Mod_planned 52 = .ok (.ifCond .eq 7, 3) := by decide +kernel
theorem d_Mod_planned_55 : decode c_Mod_planned 55 = .ok (.iconst 1, 1) := by decide +kernel
theorem d_Mod_planned_56 : decode c_Mod_planned 56 = .ok (.goto 4, 3) := by decide +kernel
theorem d_Mod_planned_59 : decode c_Mod_planned 59 = .ok (.iconst 0, 1) := by decide +kernel
theorem d_Mod_planned_60 : decode c_Mod_planned 60 = .ok (.ireturn, 1) := by decide +kernel
theorem d_Mod_step_0 : decode c_Mod_step 0 = .ok (.aload_n 0, 1) := by decide +kernel
theorem d_Mod_step_1 : decode c_Mod_step 1 = .ok (.aload_n 0, 1) := by decide +kernel
theorem d_Mod_step_2 : decode c_Mod_step 2 = .ok (.getfield 79, 3) := by decide +kernel
theorem d_Mod_step_5 : decode c_Mod_step 5 = .ok (.ifCond .eq 31, 3) := by decide +kernel
theorem d_Mod_step_8 : decode c_Mod_step 8 = .ok (.iload_n 1, 1) := by decide +kernel
theorem d_Mod_step_9 : decode c_Mod_step 9 = .ok (.iconst 0, 1) := by decide +kernel
theorem d_Mod_step_10 : decode c_Mod_step 10 = .ok (.aload_n 0, 1) := by decide +kernel
theorem d_Mod_step_11 : decode c_Mod_step 11 = .ok (.getfield 86, 3) := by decide +kernel
theorem d_Mod_step_14 : decode c_Mod_step 14 = .ok (.iconst 1, 1) := by decide +kernel
theorem d_Mod_step_15 : decode c_Mod_step 15 = .ok (.isub, 1) := by decide +kernel
theorem d_Mod_step_16 : decode c_Mod_step 16 = .ok (.invokestatic 82, 3) := by decide +kernel
theorem d_Mod_step_19 : decode c_Mod_step 19 = .ok (.ifCond .eq 13, 3) := by decide +kernel
theorem d_Mod_step_22 : decode c_Mod_step 22 = .ok (.iload_n 2, 1) := by decide +kernel
theorem d_Mod_step_23 : decode c_Mod_step 23 = .ok (.iconst 0, 1) := by decide +kernel
theorem d_Mod_step_24 : decode c_Mod_step 24 = .ok (.bipush 6, 2) := by decide +kernel
theorem d_Mod_step_26 : decode c_Mod_step 26 = .ok (.invokestatic 82, 3) := by decide +kernel
theorem d_Mod_step_29 : decode c_Mod_step 29 = .ok (.ifCond .ne 7, 3) := by decide +kernel
theorem d_Mod_step_32 : decode c_Mod_step 32 = .ok (.iconst 1, 1) := by decide +kernel
theorem d_Mod_step_33 : decode c_Mod_step 33 = .ok (.goto 4, 3) := by decide +kernel
theorem d_Mod_step_36 : decode c_Mod_step 36 = .ok (.iconst 0, 1) := by decide +kernel
theorem d_Mod_step_37 : decode c_Mod_step 37 = .ok (.aload_n 0, 1) := by decide +kernel
theorem d_Mod_step_38 : decode c_Mod_step 38 = .ok (.getfield 79, 3) := by decide +kernel
theorem d_Mod_step_41 : decode c_Mod_step 41 = .ok (.ifCond .ne 7, 3) := by decide +kernel
theorem d_Mod_step_44 : decode c_Mod_step 44 = .ok (.iconst 1, 1) := by decide +kernel
theorem d_Mod_step_45 : decode c_Mod_step 45 = .ok (.goto 4, 3) := by decide +kernel
theorem d_Mod_step_48 : decode c_Mod_step 48 = .ok (.iconst 0, 1) := by decide +kernel
theorem d_Mod_step_49 : decode c_Mod_step 49 = .ok (.iconst 0, 1) := by decide +kernel
theorem d_Mod_step_50 : decode c_Mod_step 50 = .ok (.invokevirtual 89, 3) := by decide +kernel
theorem d_Mod_step_53 : decode c_Mod_step 53 = .ok (.ifCond .eq 5, 3) := by decide +kernel
theorem d_Mod_step_56 : decode c_Mod_step 56 = .ok (.iconst 0, 1) := by decide +kernel
theorem d_Mod_step_57 : decode c_Mod_step 57 = .ok (.ireturn, 1) := by decide +kernel
theorem d_Mod_step_58 : decode c_Mod_step 58 = .ok (.aload_n 0, 1) := by decide +kernel
theorem d_Mod_step_59 : decode c_Mod_step 59 = .ok (.invokevirtual 131, 3) := by decide +kernel
theorem d_Mod_step_62 : decode c_Mod_step 62 = .ok (.aload_n 0, 1) := by decide +kernel
theorem d_Mod_step_63 : decode c_Mod_step 63 = .ok (.getfield 56, 3) := by decide +kernel
theorem d_Mod_step_66 : decode c_Mod_step 66 = .ok (.iload_n 1, 1) := by decide +kernel
theorem d_Mod_step_67 : decode c_Mod_step 67 = .ok (.iaload, 1) := by decide +kernel
theorem d_Mod_step_68 : decode c_Mod_step 68 = .ok (.iconst 2, 1) := by decide +kernel
theorem d_Mod_step_69 : decode c_Mod_step 69 = .ok (.idiv, 1) := by decide +kernel
theorem d_Mod_step_70 : decode c_Mod_step 70 = .ok (.istore_n 3, 1) := by decide +kernel
theorem d_Mod_step_71 : decode c_Mod_step 71 = .ok (.iload_n 2, 1) := by decide +kernel
theorem d_Mod_step_72 : decode c_Mod_step 72 = .ok (.iconst 2, 1) := by decide +kernel
theorem d_Mod_step_73 : decode c_Mod_step 73 = .ok (.if_icmp .ge 20, 3) := by decide +kernel
theorem d_Mod_step_76 : decode c_Mod_step 76 = .ok (.iload_n 2, 1) := by decide +kernel
theorem d_Mod_step_77 : decode c_Mod_step 77 = .ok (.ifCond .ne 7, 3) := by decide +kernel
theorem d_Mod_step_80 : decode c_Mod_step 80 = .ok (.iload_n 3, 1) := by decide +kernel
theorem d_Mod_step_81 : decode c_Mod_step 81 = .ok (.goto 11, 3) := by decide +kernel
theorem d_Mod_step_84 : decode c_Mod_step 84 = .ok (.aload_n 0, 1) := by decide +kernel
theorem d_Mod_step_85 : decode c_Mod_step 85 = .ok (.getfield 56, 3) := by decide +kernel
theorem d_Mod_step_88 : decode c_Mod_step 88 = .ok (.iload_n 1, 1) := by decide +kernel
theorem d_Mod_step_89 : decode c_Mod_step 89 = .ok (.iaload, 1) := by decide +kernel
theorem d_Mod_step_90 : decode c_Mod_step 90 = .ok (.iconst 2, 1) := by decide +kernel
theorem d_Mod_step_91 : decode c_Mod_step 91 = .ok (.irem, 1) := by decide +kernel
theorem d_Mod_step_92 : decode c_Mod_step 92 = .ok (.ireturn, 1) := by decide +kernel
theorem d_Mod_step_93 : decode c_Mod_step 93 = .ok (.iload_n 2, 1) := by decide +kernel
theorem d_Mod_step_94 : decode c_Mod_step 94 = .ok (.iconst 2, 1) := by decide +kernel
theorem d_Mod_step_95 : decode c_Mod_step 95 = .ok (.if_icmp .ne 17, 3) := by decide +kernel
theorem d_Mod_step_98 : decode c_Mod_step 98 = .ok (.aload_n 0, 1) := by decide +kernel
theorem d_Mod_step_99 : decode c_Mod_step 99 = .ok (.getfield 59, 3) := by decide +kernel
theorem d_Mod_step_102 : decode c_Mod_step 102 = .ok (.iload_n 1, 1) := by decide +kernel
theorem d_Mod_step_103 : decode c_Mod_step 103 = .ok (.iaload, 1) := by decide +kernel
theorem d_Mod_step_104 : decode c_Mod_step 104 = .ok (.aload_n 0, 1) := by decide +kernel
theorem d_Mod_step_105 : decode c_Mod_step 105 = .ok (.getfield 16, 3) := by decide +kernel
theorem d_Mod_step_108 : decode c_Mod_step 108 = .ok (.iload_n 3, 1) := by decide +kernel
theorem d_Mod_step_109 : decode c_Mod_step 109 = .ok (.iaload, 1) := by decide +kernel
theorem d_Mod_step_110 : decode c_Mod_step 110 = .ok (.isub, 1) := by decide +kernel
theorem d_Mod_step_111 : decode c_Mod_step 111 = .ok (.ireturn, 1) := by decide +kernel
theorem d_Mod_step_112 : decode c_Mod_step 112 = .ok (.iload_n 2, 1) := by decide +kernel
theorem d_Mod_step_113 : decode c_Mod_step 113 = .ok (.iconst 3, 1) := by decide +kernel
theorem d_Mod_step_114 : decode c_Mod_step 114 = .ok (.if_icmp .ne 12, 3) := by decide +kernel
theorem d_Mod_step_117 : decode c_Mod_step 117 = .ok (.aload_n 0, 1) := by decide +kernel
theorem d_Mod_step_118 : decode c_Mod_step 118 = .ok (.getfield 59, 3) := by decide +kernel
theorem d_Mod_step_121 : decode c_Mod_step 121 = .ok (.iload_n 1, 1) := by decide +kernel
theorem d_Mod_step_122 : decode c_Mod_step 122 = .ok (.iaload, 1) := by decide +kernel
theorem d_Mod_step_123 : decode c_Mod_step 123 = .ok (.goto 45, 3) := by decide +kernel
theorem d_Mod_step_126 : decode c_Mod_step 126 = .ok (.iload_n 2, 1) := by decide +kernel
theorem d_Mod_step_127 : decode c_Mod_step 127 = .ok (.iconst 4, 1) := by decide +kernel
theorem d_Mod_step_128 : decode c_Mod_step 128 = .ok (.if_icmp .ne 12, 3) := by decide +kernel
theorem d_Mod_step_131 : decode c_Mod_step 131 = .ok (.aload_n 0, 1) := by decide +kernel
theorem d_Mod_step_132 : decode c_Mod_step 132 = .ok (.getfield 62, 3) := by decide +kernel
theorem d_Mod_step_135 : decode c_Mod_step 135 = .ok (.iload_n 1, 1) := by decide +kernel
theorem d_Mod_step_136 : decode c_Mod_step 136 = .ok (.iaload, 1) := by decide +kernel
theorem d_Mod_step_137 : decode c_Mod_step 137 = .ok (.goto 31, 3) := by decide +kernel
theorem d_Mod_step_140 : decode c_Mod_step 140 = .ok (.iload_n 2, 1) := by decide +kernel
theorem d_Mod_step_141 : decode c_Mod_step 141 = .ok (.iconst 5, 1) := by decide +kernel
theorem d_Mod_step_142 : decode c_Mod_step 142 = .ok (.if_icmp .ne 12, 3) := by decide +kernel
theorem d_Mod_step_145 : decode c_Mod_step 145 = .ok (.aload_n 0, 1) := by decide +kernel
theorem d_Mod_step_146 : decode c_Mod_step 146 = .ok (.getfield 65, 3) := by decide +kernel
theorem d_Mod_step_149 : decode c_Mod_step 149 = .ok (.iload_n 1, 1) := by decide +kernel
theorem d_Mod_step_150 : decode c_Mod_step 150 = .ok (.iaload, 1) := by decide +kernel
theorem d_Mod_step_151 : decode c_Mod_step 151 = .ok (.goto 17, 3) := by decide +kernel
theorem d_Mod_step_154 : decode c_Mod_step 154 = .ok (.aload_n 0, 1) := by decide +kernel
theorem d_Mod_step_155 : decode c_Mod_step 155 = .ok (.getfield 68, 3) := by decide +kernel
theorem d_Mod_step_158 : decode c_Mod_step 158 = .ok (.iload_n 1, 1) := by decide +kernel
theorem d_Mod_step_159 : decode c_Mod_step 159 = .ok (.baload, 1) := by decide +kernel
theorem d_Mod_step_160 : decode c_Mod_step 160 = .ok (.ifCond .eq 7, 3) := by decide +kernel
theorem d_Mod_step_163 : decode c_Mod_step 163 = .ok (.iconst 1, 1) := by decide +kernel
theorem d_Mod_step_164 : decode c_Mod_step 164 = .ok (.goto 4, 3) := by decide +kernel
theorem d_Mod_step_167 : decode c_Mod_step 167 = .ok (.iconst 0, 1) := by decide +kernel
theorem d_Mod_step_168 : decode c_Mod_step 168 = .ok (.ireturn, 1) := by decide +kernel
theorem d_Mod_told_0 : decode c_Mod_told 0 = .ok (.aload_n 0, 1) := by decide +kernel
theorem d_Mod_told_1 : decode c_Mod_told 1 = .ok (.iload_n 1, 1) := by decide +kernel
theorem d_Mod_told_2 : decode c_Mod_told 2 = .ok (.iconst 0, 1) := by decide +kernel
theorem d_Mod_told_3 : decode c_Mod_told 3 = .ok (.iconst 3, 1) := by decide +kernel
theorem d_Mod_told_4 : decode c_Mod_told 4 = .ok (.invokestatic 82, 3) := by decide +kernel
theorem d_Mod_told_7 : decode c_Mod_told 7 = .ok (.ifCond .ne 7, 3) := by decide +kernel
theorem d_Mod_told_10 : decode c_Mod_told 10 = .ok (.iconst 1, 1) := by decide +kernel
theorem d_Mod_told_11 : decode c_Mod_told 11 = .ok (.goto 4, 3) := by decide +kernel
theorem d_Mod_told_14 : decode c_Mod_told 14 = .ok (.iconst 0, 1) := by decide +kernel
theorem d_Mod_told_15 : decode c_Mod_told 15 = .ok (.aload_n 0, 1) := by decide +kernel
theorem d_Mod_told_16 : decode c_Mod_told 16 = .ok (.getfield 79, 3) := by decide +kernel
theorem d_Mod_told_19 : decode c_Mod_told 19 = .ok (.ifCond .ne 7, 3) := by decide +kernel
theorem d_Mod_told_22 : decode c_Mod_told 22 = .ok (.iconst 1, 1) := by decide +kernel
theorem d_Mod_told_23 : decode c_Mod_told 23 = .ok (.goto 4, 3) := by decide +kernel
theorem d_Mod_told_26 : decode c_Mod_told 26 = .ok (.iconst 0, 1) := by decide +kernel
theorem d_Mod_told_27 : decode c_Mod_told 27 = .ok (.iconst 0, 1) := by decide +kernel
theorem d_Mod_told_28 : decode c_Mod_told 28 = .ok (.invokevirtual 89, 3) := by decide +kernel
theorem d_Mod_told_31 : decode c_Mod_told 31 = .ok (.ifCond .eq 5, 3) := by decide +kernel
theorem d_Mod_told_34 : decode c_Mod_told 34 = .ok (.iconst 0, 1) := by decide +kernel
theorem d_Mod_told_35 : decode c_Mod_told 35 = .ok (.ireturn, 1) := by decide +kernel
theorem d_Mod_told_36 : decode c_Mod_told 36 = .ok (.aload_n 0, 1) := by decide +kernel
theorem d_Mod_told_37 : decode c_Mod_told 37 = .ok (.invokevirtual 131, 3) := by decide +kernel
theorem d_Mod_told_40 : decode c_Mod_told 40 = .ok (.iload_n 1, 1) := by decide +kernel
theorem d_Mod_told_41 : decode c_Mod_told 41 = .ok (.ifCond .ne 10, 3) := by decide +kernel
theorem d_Mod_told_44 : decode c_Mod_told 44 = .ok (.aload_n 0, 1) := by decide +kernel
theorem d_Mod_told_45 : decode c_Mod_told 45 = .ok (.invokevirtual 123, 3) := by decide +kernel
theorem d_Mod_told_48 : decode c_Mod_told 48 = .ok (.goto 31, 3) := by decide +kernel
theorem d_Mod_told_51 : decode c_Mod_told 51 = .ok (.iload_n 1, 1) := by decide +kernel
theorem d_Mod_told_52 : decode c_Mod_told 52 = .ok (.iconst 1, 1) := by decide +kernel
theorem d_Mod_told_53 : decode c_Mod_told 53 = .ok (.if_icmp .ne 10, 3) := by decide +kernel
theorem d_Mod_told_56 : decode c_Mod_told 56 = .ok (.aload_n 0, 1) := by decide +kernel
theorem d_Mod_told_57 : decode c_Mod_told 57 = .ok (.getfield 100, 3) := by decide +kernel
theorem d_Mod_told_60 : decode c_Mod_told 60 = .ok (.goto 19, 3) := by decide +kernel
theorem d_Mod_told_63 : decode c_Mod_told 63 = .ok (.iload_n 1, 1) := by decide +kernel
theorem d_Mod_told_64 : decode c_Mod_told 64 = .ok (.iconst 2, 1) := by decide +kernel
theorem d_Mod_told_65 : decode c_Mod_told 65 = .ok (.if_icmp .ne 10, 3) := by decide +kernel
theorem d_Mod_told_68 : decode c_Mod_told 68 = .ok (.aload_n 0, 1) := by decide +kernel
theorem d_Mod_told_69 : decode c_Mod_told 69 = .ok (.getfield 103, 3) := by decide +kernel
theorem d_Mod_told_72 : decode c_Mod_told 72 = .ok (.goto 7, 3) := by decide +kernel
theorem d_Mod_told_75 : decode c_Mod_told 75 = .ok (.aload_n 0, 1) := by decide +kernel
theorem d_Mod_told_76 : decode c_Mod_told 76 = .ok (.getfield 97, 3) := by decide +kernel
theorem d_Mod_told_79 : decode c_Mod_told 79 = .ok (.ireturn, 1) := by decide +kernel
theorem d_Mod_tell_0 : decode c_Mod_tell 0 = .ok (.iload_n 2, 1) := by decide +kernel
theorem d_Mod_tell_1 : decode c_Mod_tell 1 = .ok (.aload_n 0, 1) := by decide +kernel
theorem d_Mod_tell_2 : decode c_Mod_tell 2 = .ok (.getfield 86, 3) := by decide +kernel
theorem d_Mod_tell_5 : decode c_Mod_tell 5 = .ok (.if_icmp .eq 7, 3) := by decide +kernel
theorem d_Mod_tell_8 : decode c_Mod_tell 8 = .ok (.iconst 1, 1) := by decide +kernel
theorem d_Mod_tell_9 : decode c_Mod_tell 9 = .ok (.goto 4, 3) := by decide +kernel
theorem d_Mod_tell_12 : decode c_Mod_tell 12 = .ok (.iconst 0, 1) := by decide +kernel
theorem d_Mod_tell_13 : decode c_Mod_tell 13 = .ok (.istore_n 3, 1) := by decide +kernel
theorem d_Mod_tell_14 : decode c_Mod_tell 14 = .ok (.iconst 0, 1) := by decide +kernel
theorem d_Mod_tell_15 : decode c_Mod_tell 15 = .ok (.istore 4, 2) := by decide +kernel
theorem d_Mod_tell_17 : decode c_Mod_tell 17 = .ok (.iconst 0, 1) := by decide +kernel
theorem d_Mod_tell_18 : decode c_Mod_tell 18 = .ok (.istore 5, 2) := by decide +kernel
theorem d_Mod_tell_20 : decode c_Mod_tell 20 = .ok (.iload 5, 2) := by decide +kernel
theorem d_Mod_tell_22 : decode c_Mod_tell 22 = .ok (.aload_n 0, 1) := by decide +kernel
theorem d_Mod_tell_23 : decode c_Mod_tell 23 = .ok (.getfield 86, 3) := by decide +kernel
theorem d_Mod_tell_26 : decode c_Mod_tell 26 = .ok (.if_icmp .ge 81, 3) := by decide +kernel
theorem d_Mod_tell_29 : decode c_Mod_tell 29 = .ok (.iload_n 3, 1) := by decide +kernel
theorem d_Mod_tell_30 : decode c_Mod_tell 30 = .ok (.ifCond .ne 77, 3) := by decide +kernel
theorem d_Mod_tell_33 : decode c_Mod_tell 33 = .ok (.iload_n 1, 1) := by decide +kernel
theorem d_Mod_tell_34 : decode c_Mod_tell 34 = .ok (.iconst 4, 1) := by decide +kernel
theorem d_Mod_tell_35 : decode c_Mod_tell 35 = .ok (.iload 5, 2) := by decide +kernel
theorem d_Mod_tell_37 : decode c_Mod_tell 37 = .ok (.imul, 1) := by decide +kernel
theorem d_Mod_tell_38 : decode c_Mod_tell 38 = .ok (.ishr, 1) := by decide +kernel
theorem d_Mod_tell_39 : decode c_Mod_tell 39 = .ok (.bipush 7, 2) := by decide +kernel
theorem d_Mod_tell_41 : decode c_Mod_tell 41 = .ok (.iand, 1) := by decide +kernel
theorem d_Mod_tell_42 : decode c_Mod_tell 42 = .ok (.istore 6, 2) := by decide +kernel
theorem d_Mod_tell_44 : decode c_Mod_tell 44 = .ok (.aload_n 0, 1) := by decide +kernel
theorem d_Mod_tell_45 : decode c_Mod_tell 45 = .ok (.getfield 56, 3) := by decide +kernel
theorem d_Mod_tell_48 : decode c_Mod_tell 48 = .ok (.iload 5, 2) := by decide +kernel
theorem d_Mod_tell_50 : decode c_Mod_tell 50 = .ok (.iconst 2, 1) := by decide +kernel
theorem d_Mod_tell_51 : decode c_Mod_tell 51 = .ok (.iload 6, 2) := by decide +kernel
theorem d_Mod_tell_53 : decode c_Mod_tell 53 = .ok (.imul, 1) := by decide +kernel
theorem d_Mod_tell_54 : decode c_Mod_tell 54 = .ok (.iload_n 1, 1) := by decide +kernel
theorem d_Mod_tell_55 : decode c_Mod_tell 55 = .ok (.iconst 4, 1) := by decide +kernel
theorem d_Mod_tell_56 : decode c_Mod_tell 56 = .ok (.iload 5, 2) := by decide +kernel
theorem d_Mod_tell_58 : decode c_Mod_tell 58 = .ok (.imul, 1) := by decide +kernel
theorem d_Mod_tell_59 : decode c_Mod_tell 59 = .ok (.iconst 3, 1) := by decide +kernel
theorem d_Mod_tell_60 : decode c_Mod_tell 60 = .ok (.iadd, 1) := by decide +kernel
theorem d_Mod_tell_61 : decode c_Mod_tell 61 = .ok (.ishr, 1) := by decide +kernel
theorem d_Mod_tell_62 : decode c_Mod_tell 62 = .ok (.iconst 1, 1) := by decide +kernel
theorem d_Mod_tell_63 : decode c_Mod_tell 63 = .ok (.iand, 1) := by decide +kernel
theorem d_Mod_tell_64 : decode c_Mod_tell 64 = .ok (.iadd, 1) := by decide +kernel
theorem d_Mod_tell_65 : decode c_Mod_tell 65 = .ok (.iastore, 1) := by decide +kernel
theorem d_Mod_tell_66 : decode c_Mod_tell 66 = .ok (.iload 6, 2) := by decide +kernel
theorem d_Mod_tell_68 : decode c_Mod_tell 68 = .ok (.aload_n 0, 1) := by decide +kernel
theorem d_Mod_tell_69 : decode c_Mod_tell 69 = .ok (.getfield 86, 3) := by decide +kernel
theorem d_Mod_tell_72 : decode c_Mod_tell 72 = .ok (.if_icmp .ge 14, 3) := by decide +kernel
theorem d_Mod_tell_75 : decode c_Mod_tell 75 = .ok (.iload 4, 2) := by decide +kernel
theorem d_Mod_tell_77 : decode c_Mod_tell 77 = .ok (.iload 6, 2) := by decide +kernel
theorem d_Mod_tell_79 : decode c_Mod_tell 79 = .ok (.ishr, 1) := by decide +kernel
theorem d_Mod_tell_80 : decode c_Mod_tell 80 = .ok (.iconst 1, 1) := by decide +kernel
theorem d_Mod_tell_81 : decode c_Mod_tell 81 = .ok (.iand, 1) := by decide +kernel
theorem d_Mod_tell_82 : decode c_Mod_tell 82 = .ok (.iconst 1, 1) := by decide +kernel
theorem d_Mod_tell_83 : decode c_Mod_tell 83 = .ok (.if_icmp .ne 7, 3) := by decide +kernel
theorem d_Mod_tell_86 : decode c_Mod_tell 86 = .ok (.iconst 1, 1) := by decide +kernel
theorem d_Mod_tell_87 : decode c_Mod_tell 87 = .ok (.goto 4, 3) := by decide +kernel
theorem d_Mod_tell_90 : decode c_Mod_tell 90 = .ok (.iconst 0, 1) := by decide +kernel
theorem d_Mod_tell_91 : decode c_Mod_tell 91 = .ok (.istore_n 3, 1) := by decide +kernel
theorem d_Mod_tell_92 : decode c_Mod_tell 92 = .ok (.iload 4, 2) := by decide +kernel
theorem d_Mod_tell_94 : decode c_Mod_tell 94 = .ok (.iconst 1, 1) := by decide +kernel
theorem d_Mod_tell_95 : decode c_Mod_tell 95 = .ok (.iload 6, 2) := by decide +kernel
theorem d_Mod_tell_97 : decode c_Mod_tell 97 = .ok (.ishl, 1) := by decide +kernel
theorem d_Mod_tell_98 : decode c_Mod_tell 98 = .ok (.ior, 1) := by decide +kernel
theorem d_Mod_tell_99 : decode c_Mod_tell 99 = .ok (.istore 4, 2) := by decide +kernel
theorem d_Mod_tell_101 : decode c_Mod_tell 101 = .ok (.iinc 5 1, 3) := by decide +kernel
theorem d_Mod_tell_104 : decode c_Mod_tell 104 = .ok (.goto (-84), 3) := by decide +kernel
theorem d_Mod_tell_107 : decode c_Mod_tell 107 = .ok (.aload_n 0, 1) := by decide +kernel
theorem d_Mod_tell_108 : decode c_Mod_tell 108 = .ok (.iload_n 3, 1) := by decide +kernel
theorem d_Mod_tell_109 : decode c_Mod_tell 109 = .ok (.iload_n 3, 1) := by decide +kernel
theorem d_Mod_tell_110 : decode c_Mod_tell 110 = .ok (.ifCond .ne 18, 3) := by decide +kernel
theorem d_Mod_tell_113 : decode c_Mod_tell 113 = .ok (.aload_n 0, 1) := by decide +kernel
theorem d_Mod_tell_114 : decode c_Mod_tell 114 = .ok (.aload_n 0, 1) := by decide +kernel
theorem d_Mod_tell_115 : decode c_Mod_tell 115 = .ok (.getfield 86, 3) := by decide +kernel
theorem d_Mod_tell_118 : decode c_Mod_tell 118 = .ok (.invokevirtual 114, 3) := by decide +kernel
theorem d_Mod_tell_121 : decode c_Mod_tell 121 = .ok (.ifCond .ne 7, 3) := by decide +kernel
theorem d_Mod_tell_124 : decode c_Mod_tell 124 = .ok (.iconst 1, 1) := by decide +kernel
theorem d_Mod_tell_125 : decode c_Mod_tell 125 = .ok (.goto 4, 3) := by decide +kernel
theorem d_Mod_tell_128 : decode c_Mod_tell 128 = .ok (.iconst 0, 1) := by decide +kernel
theorem d_Mod_tell_129 : decode c_Mod_tell 129 = .ok (.iconst 0, 1) := by decide +kernel
theorem d_Mod_tell_130 : decode c_Mod_tell 130 = .ok (.invokevirtual 89, 3) := by decide +kernel
theorem d_Mod_tell_133 : decode c_Mod_tell 133 = .ok (.ifCond .eq 5, 3) := by decide +kernel
theorem d_Mod_tell_136 : decode c_Mod_tell 136 = .ok (.iconst 0, 1) := by decide +kernel
theorem d_Mod_tell_137 : decode c_Mod_tell 137 = .ok (.ireturn, 1) := by decide +kernel
theorem d_Mod_tell_138 : decode c_Mod_tell 138 = .ok (.iconst 0, 1) := by decide +kernel
theorem d_Mod_tell_139 : decode c_Mod_tell 139 = .ok (.istore 5, 2) := by decide +kernel
theorem d_Mod_tell_141 : decode c_Mod_tell 141 = .ok (.iload 5, 2) := by decide +kernel
theorem d_Mod_tell_143 : decode c_Mod_tell 143 = .ok (.aload_n 0, 1) := by decide +kernel
theorem d_Mod_tell_144 : decode c_Mod_tell 144 = .ok (.getfield 86, 3) := by decide +kernel
theorem d_Mod_tell_147 : decode c_Mod_tell 147 = .ok (.if_icmp .ge 23, 3) := by decide +kernel
theorem d_Mod_tell_150 : decode c_Mod_tell 150 = .ok (.aload_n 0, 1) := by decide +kernel
theorem d_Mod_tell_151 : decode c_Mod_tell 151 = .ok (.getfield 53, 3) := by decide +kernel
theorem d_Mod_tell_154 : decode c_Mod_tell 154 = .ok (.iload 5, 2) := by decide +kernel
theorem d_Mod_tell_156 : decode c_Mod_tell 156 = .ok (.aload_n 0, 1) := by decide +kernel
theorem d_Mod_tell_157 : decode c_Mod_tell 157 = .ok (.getfield 56, 3) := by decide +kernel
theorem d_Mod_tell_160 : decode c_Mod_tell 160 = .ok (.iload 5, 2) := by decide +kernel
theorem d_Mod_tell_162 : decode c_Mod_tell 162 = .ok (.iaload, 1) := by decide +kernel
theorem d_Mod_tell_163 : decode c_Mod_tell 163 = .ok (.iastore, 1) := by decide +kernel
theorem d_Mod_tell_164 : decode c_Mod_tell 164 = .ok (.iinc 5 1, 3) := by decide +kernel
theorem d_Mod_tell_167 : decode c_Mod_tell 167 = .ok (.goto (-26), 3) := by decide +kernel
theorem d_Mod_tell_170 : decode c_Mod_tell 170 = .ok (.aload_n 0, 1) := by decide +kernel
theorem d_Mod_tell_171 : decode c_Mod_tell 171 = .ok (.iconst 1, 1) := by decide +kernel
theorem d_Mod_tell_172 : decode c_Mod_tell 172 = .ok (.putfield 79, 3) := by decide +kernel
theorem d_Mod_tell_175 : decode c_Mod_tell 175 = .ok (.aload_n 0, 1) := by decide +kernel
theorem d_Mod_tell_176 : decode c_Mod_tell 176 = .ok (.invokevirtual 123, 3) := by decide +kernel
theorem d_Mod_tell_179 : decode c_Mod_tell 179 = .ok (.ireturn, 1) := by decide +kernel
theorem d_Mod_bound_0 : decode c_Mod_bound 0 = .ok (.aload_n 0, 1) := by decide +kernel
theorem d_Mod_bound_1 : decode c_Mod_bound 1 = .ok (.iconst 0, 1) := by decide +kernel
theorem d_Mod_bound_2 : decode c_Mod_bound 2 = .ok (.putfield 72, 3) := by decide +kernel
theorem d_Mod_bound_5 : decode c_Mod_bound 5 = .ok (.iconst 0, 1) := by decide +kernel
theorem d_Mod_bound_6 : decode c_Mod_bound 6 = .ok (.istore_n 1, 1) := by decide +kernel
theorem d_Mod_bound_7 : decode c_Mod_bound 7 = .ok (.iconst 0, 1) := by decide +kernel
theorem d_Mod_bound_8 : decode c_Mod_bound 8 = .ok (.istore_n 2, 1) := by decide +kernel
theorem d_Mod_bound_9 : decode c_Mod_bound 9 = .ok (.iload_n 2, 1) := by decide +kernel
theorem d_Mod_bound_10 : decode c_Mod_bound 10 = .ok (.aload_n 0, 1) := by decide +kernel
theorem d_Mod_bound_11 : decode c_Mod_bound 11 = .ok (.getfield 86, 3) := by decide +kernel
theorem d_Mod_bound_14 : decode c_Mod_bound 14 = .ok (.if_icmp .ge 47, 3) := by decide +kernel
theorem d_Mod_bound_17 : decode c_Mod_bound 17 = .ok (.aload_n 0, 1) := by decide +kernel
theorem d_Mod_bound_18 : decode c_Mod_bound 18 = .ok (.getfield 16, 3) := by decide +kernel
theorem d_Mod_bound_21 : decode c_Mod_bound 21 = .ok (.iload_n 2, 1) := by decide +kernel
theorem d_Mod_bound_22 : decode c_Mod_bound 22 = .ok (.iaload, 1) := by decide +kernel
theorem d_Mod_bound_23 : decode c_Mod_bound 23 = .ok (.aload_n 0, 1) := by decide +kernel
theorem d_Mod_bound_24 : decode c_Mod_bound 24 = .ok (.getfield 19, 3) := by decide +kernel
theorem d_Mod_bound_27 : decode c_Mod_bound 27 = .ok (.iload_n 2, 1) := by decide +kernel
theorem d_Mod_bound_28 : decode c_Mod_bound 28 = .ok (.iaload, 1) := by decide +kernel
theorem d_Mod_bound_29 : decode c_Mod_bound 29 = .ok (.iadd, 1) := by decide +kernel
theorem d_Mod_bound_30 : decode c_Mod_bound 30 = .ok (.aload_n 0, 1) := by decide +kernel
theorem d_Mod_bound_31 : decode c_Mod_bound 31 = .ok (.getfield 22, 3) := by decide +kernel
theorem d_Mod_bound_34 : decode c_Mod_bound 34 = .ok (.iload_n 2, 1) := by decide +kernel
theorem d_Mod_bound_35 : decode c_Mod_bound 35 = .ok (.iaload, 1) := by decide +kernel
theorem d_Mod_bound_36 : decode c_Mod_bound 36 = .ok (.isub, 1) := by decide +kernel
theorem d_Mod_bound_37 : decode c_Mod_bound 37 = .ok (.istore_n 3, 1) := by decide +kernel
theorem d_Mod_bound_38 : decode c_Mod_bound 38 = .ok (.iload_n 1, 1) := by decide +kernel
theorem d_Mod_bound_39 : decode c_Mod_bound 39 = .ok (.iload_n 3, 1) := by decide +kernel
theorem d_Mod_bound_40 : decode c_Mod_bound 40 = .ok (.ifCond .le 12, 3) := by decide +kernel
theorem d_Mod_bound_43 : decode c_Mod_bound 43 = .ok (.iload_n 3, 1) := by decide +kernel
theorem d_Mod_bound_44 : decode c_Mod_bound 44 = .ok (.aload_n 0, 1) := by decide +kernel
theorem d_Mod_bound_45 : decode c_Mod_bound 45 = .ok (.getfield 47, 3) := by decide +kernel
theorem d_Mod_bound_48 : decode c_Mod_bound 48 = .ok (.imul, 1) := by decide +kernel
theorem d_Mod_bound_49 : decode c_Mod_bound 49 = .ok (.goto 4, 3) := by decide +kernel
theorem d_Mod_bound_52 : decode c_Mod_bound 52 = .ok (.iconst 0, 1) := by decide +kernel
theorem d_Mod_bound_53 : decode c_Mod_bound 53 = .ok (.iadd, 1) := by decide +kernel
theorem d_Mod_bound_54 : decode c_Mod_bound 54 = .ok (.istore_n 1, 1) := by decide +kernel
theorem d_Mod_bound_55 : decode c_Mod_bound 55 = .ok (.iinc 2 1, 3) := by decide +kernel
theorem d_Mod_bound_58 : decode c_Mod_bound 58 = .ok (.goto (-49), 3) := by decide +kernel
theorem d_Mod_bound_61 : decode c_Mod_bound 61 = .ok (.iload_n 1, 1) := by decide +kernel
theorem d_Mod_bound_62 : decode c_Mod_bound 62 = .ok (.ireturn, 1) := by decide +kernel
theorem d_Mod_clash_0 : decode c_Mod_clash 0 = .ok (.aload_n 0, 1) := by decide +kernel
theorem d_Mod_clash_1 : decode c_Mod_clash 1 = .ok (.iconst 0, 1) := by decide +kernel
theorem d_Mod_clash_2 : decode c_Mod_clash 2 = .ok (.putfield 72, 3) := by decide +kernel
theorem d_Mod_clash_5 : decode c_Mod_clash 5 = .ok (.iconst 1, 1) := by decide +kernel
theorem d_Mod_clash_6 : decode c_Mod_clash 6 = .ok (.aload_n 0, 1) := by decide +kernel
theorem d_Mod_clash_7 : decode c_Mod_clash 7 = .ok (.getfield 86, 3) := by decide +kernel
theorem d_Mod_clash_10 : decode c_Mod_clash 10 = .ok (.ishl, 1) := by decide +kernel
theorem d_Mod_clash_11 : decode c_Mod_clash 11 = .ok (.iconst 1, 1) := by decide +kernel
theorem d_Mod_clash_12 : decode c_Mod_clash 12 = .ok (.isub, 1) := by decide +kernel
theorem d_Mod_clash_13 : decode c_Mod_clash 13 = .ok (.istore_n 1, 1) := by decide +kernel
theorem d_Mod_clash_14 : decode c_Mod_clash 14 = .ok (.aload_n 0, 1) := by decide +kernel
theorem d_Mod_clash_15 : decode c_Mod_clash 15 = .ok (.iload_n 1, 1) := by decide +kernel
theorem d_Mod_clash_16 : decode c_Mod_clash 16 = .ok (.iconst 0, 1) := by decide +kernel
theorem d_Mod_clash_17 : decode c_Mod_clash 17 = .ok (.iconst 1, 1) := by decide +kernel
theorem d_Mod_clash_18 : decode c_Mod_clash 18 = .ok (.invokevirtual 127, 3) := by decide +kernel
theorem d_Mod_clash_21 : decode c_Mod_clash 21 = .ok (.ifCond .eq 5, 3) := by decide +kernel
theorem d_Mod_clash_24 : decode c_Mod_clash 24 = .ok (.iconst 0, 1) := by decide +kernel
theorem d_Mod_clash_25 : decode c_Mod_clash 25 = .ok (.ireturn, 1) := by decide +kernel
theorem d_Mod_clash_26 : decode c_Mod_clash 26 = .ok (.iconst 0, 1) := by decide +kernel
theorem d_Mod_clash_27 : decode c_Mod_clash 27 = .ok (.istore_n 2, 1) := by decide +kernel
theorem d_Mod_clash_28 : decode c_Mod_clash 28 = .ok (.iload_n 2, 1) := by decide +kernel
theorem d_Mod_clash_29 : decode c_Mod_clash 29 = .ok (.aload_n 0, 1) := by decide +kernel
theorem d_Mod_clash_30 : decode c_Mod_clash 30 = .ok (.getfield 86, 3) := by decide +kernel
theorem d_Mod_clash_33 : decode c_Mod_clash 33 = .ok (.if_icmp .ge 33, 3) := by decide +kernel
theorem d_Mod_clash_36 : decode c_Mod_clash 36 = .ok (.aload_n 0, 1) := by decide +kernel
theorem d_Mod_clash_37 : decode c_Mod_clash 37 = .ok (.iload_n 1, 1) := by decide +kernel
theorem d_Mod_clash_38 : decode c_Mod_clash 38 = .ok (.iconst 1, 1) := by decide +kernel
theorem d_Mod_clash_39 : decode c_Mod_clash 39 = .ok (.iload_n 2, 1) := by decide +kernel
theorem d_Mod_clash_40 : decode c_Mod_clash 40 = .ok (.ishl, 1) := by decide +kernel
theorem d_Mod_clash_41 : decode c_Mod_clash 41 = .ok (.iconst (-1), 1) := by decide +kernel
theorem d_Mod_clash_42 : decode c_Mod_clash 42 = .ok (.ixor, 1) := by decide +kernel
theorem d_Mod_clash_43 : decode c_Mod_clash 43 = .ok (.iand, 1) := by decide +kernel
theorem d_Mod_clash_44 : decode c_Mod_clash 44 = .ok (.iconst 0, 1) := by decide +kernel
theorem d_Mod_clash_45 : decode c_Mod_clash 45 = .ok (.iconst 1, 1) := by decide +kernel
theorem d_Mod_clash_46 : decode c_Mod_clash 46 = .ok (.invokevirtual 127, 3) := by decide +kernel
theorem d_Mod_clash_49 : decode c_Mod_clash 49 = .ok (.ifCond .ne 11, 3) := by decide +kernel
theorem d_Mod_clash_52 : decode c_Mod_clash 52 = .ok (.iload_n 1, 1) := by decide +kernel
theorem d_Mod_clash_53 : decode c_Mod_clash 53 = .ok (.iconst 1, 1) := by decide +kernel
theorem d_Mod_clash_54 : decode c_Mod_clash 54 = .ok (.iload_n 2, 1) := by decide +kernel
theorem d_Mod_clash_55 : decode c_Mod_clash 55 = .ok (.ishl, 1) := by decide +kernel
theorem d_Mod_clash_56 : decode c_Mod_clash 56 = .ok (.iconst (-1), 1) := by decide +kernel
theorem d_Mod_clash_57 : decode c_Mod_clash 57 = .ok (.ixor, 1) := by decide +kernel
theorem d_Mod_clash_58 : decode c_Mod_clash 58 = .ok (.iand, 1) := by decide +kernel
theorem d_Mod_clash_59 : decode c_Mod_clash 59 = .ok (.istore_n 1, 1) := by decide +kernel
theorem d_Mod_clash_60 : decode c_Mod_clash 60 = .ok (.iinc 2 1, 3) := by decide +kernel
theorem d_Mod_clash_63 : decode c_Mod_clash 63 = .ok (.goto (-35), 3) := by decide +kernel
theorem d_Mod_clash_66 : decode c_Mod_clash 66 = .ok (.iload_n 1, 1) := by decide +kernel
theorem d_Mod_clash_67 : decode c_Mod_clash 67 = .ok (.ireturn, 1) := by decide +kernel
