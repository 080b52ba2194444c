/-! decode rows of HeatOrder$Plan -/
theorem d_Plan_init_0 : decode c_Plan_init 0 = .ok (.aload_n 0, 1) := by decide +kernel
theorem d_Plan_init_1 : decode c_Plan_init 1 = .ok (.invokespecial 3, 3) := by decide +kernel
theorem d_Plan_init_4 : decode c_Plan_init 4 = .ok (.aload_n 0, 1) := by decide +kernel
theorem d_Plan_init_5 : decode c_Plan_init 5 = .ok (.bipush 6, 2) := by decide +kernel
theorem d_Plan_init_7 : decode c_Plan_init 7 = .ok (.newarray .int, 2) := by decide +kernel
theorem d_Plan_init_9 : decode c_Plan_init 9 = .ok (.putfield 9, 3) := by decide +kernel
theorem d_Plan_init_12 : decode c_Plan_init 12 = .ok (.aload_n 0, 1) := by decide +kernel
theorem d_Plan_init_13 : decode c_Plan_init 13 = .ok (.bipush 6, 2) := by decide +kernel
theorem d_Plan_init_15 : decode c_Plan_init 15 = .ok (.newarray .int, 2) := by decide +kernel
theorem d_Plan_init_17 : decode c_Plan_init 17 = .ok (.putfield 15, 3) := by decide +kernel
theorem d_Plan_init_20 : decode c_Plan_init 20 = .ok (.aload_n 0, 1) := by decide +kernel
theorem d_Plan_init_21 : decode c_Plan_init 21 = .ok (.bipush 6, 2) := by decide +kernel
theorem d_Plan_init_23 : decode c_Plan_init 23 = .ok (.newarray .int, 2) := by decide +kernel
theorem d_Plan_init_25 : decode c_Plan_init 25 = .ok (.putfield 18, 3) := by decide +kernel
theorem d_Plan_init_28 : decode c_Plan_init 28 = .ok (.aload_n 0, 1) := by decide +kernel
theorem d_Plan_init_29 : decode c_Plan_init 29 = .ok (.bipush 6, 2) := by decide +kernel
theorem d_Plan_init_31 : decode c_Plan_init 31 = .ok (.newarray .int, 2) := by decide +kernel
theorem d_Plan_init_33 : decode c_Plan_init 33 = .ok (.putfield 21, 3) := by decide +kernel
theorem d_Plan_init_36 : decode c_Plan_init 36 = .ok (.aload_n 0, 1) := by decide +kernel
theorem d_Plan_init_37 : decode c_Plan_init 37 = .ok (.bipush 6, 2) := by decide +kernel
theorem d_Plan_init_39 : decode c_Plan_init 39 = .ok (.newarray .int, 2) := by decide +kernel
theorem d_Plan_init_41 : decode c_Plan_init 41 = .ok (.putfield 24, 3) := by decide +kernel
theorem d_Plan_init_44 : decode c_Plan_init 44 = .ok (.aload_n 0, 1) := by decide +kernel
theorem d_Plan_init_45 : decode c_Plan_init 45 = .ok (.bipush 6, 2) := by decide +kernel
theorem d_Plan_init_47 : decode c_Plan_init 47 = .ok (.newarray .int, 2) := by decide +kernel
theorem d_Plan_init_49 : decode c_Plan_init 49 = .ok (.putfield 27, 3) := by decide +kernel
theorem d_Plan_init_52 : decode c_Plan_init 52 = .ok (.aload_n 0, 1) := by decide +kernel
theorem d_Plan_init_53 : decode c_Plan_init 53 = .ok (.bipush 6, 2) := by decide +kernel
theorem d_Plan_init_55 : decode c_Plan_init 55 = .ok (.newarray .int, 2) := by decide +kernel
theorem d_Plan_init_57 : decode c_Plan_init 57 = .ok (.putfield 30, 3) := by decide +kernel
theorem d_Plan_init_60 : decode c_Plan_init 60 = .ok (.aload_n 0, 1) := by decide +kernel
theorem d_Plan_init_61 : decode c_Plan_init 61 = .ok (.bipush 6, 2) := by decide +kernel
theorem d_Plan_init_63 : decode c_Plan_init 63 = .ok (.newarray .int, 2) := by decide +kernel
theorem d_Plan_init_65 : decode c_Plan_init 65 = .ok (.putfield 33, 3) := by decide +kernel
theorem d_Plan_init_68 : decode c_Plan_init 68 = .ok (.aload_n 0, 1) := by decide +kernel
theorem d_Plan_init_69 : decode c_Plan_init 69 = .ok (.bipush 7, 2) := by decide +kernel
theorem d_Plan_init_71 : decode c_Plan_init 71 = .ok (.newarray .int, 2) := by decide +kernel
theorem d_Plan_init_73 : decode c_Plan_init 73 = .ok (.putfield 36, 3) := by decide +kernel
theorem d_Plan_init_76 : decode c_Plan_init 76 = .ok (.aload_n 0, 1) := by decide +kernel
theorem d_Plan_init_77 : decode c_Plan_init 77 = .ok (.bipush 7, 2) := by decide +kernel
theorem d_Plan_init_79 : decode c_Plan_init 79 = .ok (.newarray .int, 2) := by decide +kernel
theorem d_Plan_init_81 : decode c_Plan_init 81 = .ok (.putfield 39, 3) := by decide +kernel
theorem d_Plan_init_84 : decode c_Plan_init 84 = .ok (.aload_n 0, 1) := by decide +kernel
theorem d_Plan_init_85 : decode c_Plan_init 85 = .ok (.bipush 7, 2) := by decide +kernel
theorem d_Plan_init_87 : decode c_Plan_init 87 = .ok (.newarray .int, 2) := by decide +kernel
theorem d_Plan_init_89 : decode c_Plan_init 89 = .ok (.putfield 42, 3) := by decide +kernel
theorem d_Plan_init_92 : decode c_Plan_init 92 = .ok (.aload_n 0, 1) := by decide +kernel
theorem d_Plan_init_93 : decode c_Plan_init 93 = .ok (.aload_n 1, 1) := by decide +kernel
theorem d_Plan_init_94 : decode c_Plan_init 94 = .ok (.putfield 45, 3) := by decide +kernel
theorem d_Plan_init_97 : decode c_Plan_init 97 = .ok (.return_, 1) := by decide +kernel
theorem d_Plan_lay_0 : decode c_Plan_lay 0 = .ok (.iconst 0, 1) := by decide +kernel
theorem d_Plan_lay_1 : decode c_Plan_lay 1 = .ok (.istore_n 3, 1) := by decide +kernel
theorem d_Plan_lay_2 : decode c_Plan_lay 2 = .ok (.iload_n 3, 1) := by decide +kernel
theorem d_Plan_lay_3 : decode c_Plan_lay 3 = .ok (.iload_n 2, 1) := by decide +kernel
theorem d_Plan_lay_4 : decode c_Plan_lay 4 = .ok (.if_icmp .ge 29, 3) := by decide +kernel
theorem d_Plan_lay_7 : decode c_Plan_lay 7 = .ok (.aload_n 0, 1) := by decide +kernel
theorem d_Plan_lay_8 : decode c_Plan_lay 8 = .ok (.iload_n 3, 1) := by decide +kernel
theorem d_Plan_lay_9 : decode c_Plan_lay 9 = .ok (.iload_n 1, 1) := by decide +kernel
theorem d_Plan_lay_10 : decode c_Plan_lay 10 = .ok (.iload_n 3, 1) := by decide +kernel
theorem d_Plan_lay_11 : decode c_Plan_lay 11 = .ok (.invokestatic 49, 3) := by decide +kernel
theorem d_Plan_lay_14 : decode c_Plan_lay 14 = .ok (.iload_n 1, 1) := by decide +kernel
theorem d_Plan_lay_15 : decode c_Plan_lay 15 = .ok (.iload_n 3, 1) := by decide +kernel
theorem d_Plan_lay_16 : decode c_Plan_lay 16 = .ok (.invokestatic 53, 3) := by decide +kernel
theorem d_Plan_lay_19 : decode c_Plan_lay 19 = .ok (.invokevirtual 56, 3) := by decide +kernel
theorem d_Plan_lay_22 : decode c_Plan_lay 22 = .ok (.ifCond .ne 5, 3) := by decide +kernel
theorem d_Plan_lay_25 : decode c_Plan_lay 25 = .ok (.iconst 0, 1) := by decide +kernel
theorem d_Plan_lay_26 : decode c_Plan_lay 26 = .ok (.ireturn, 1) := by decide +kernel
theorem d_Plan_lay_27 : decode c_Plan_lay 27 = .ok (.iinc 3 1, 3) := by decide +kernel
theorem d_Plan_lay_30 : decode c_Plan_lay 30 = .ok (.goto (-28), 3) := by decide +kernel
theorem d_Plan_lay_33 : decode c_Plan_lay 33 = .ok (.iconst 1, 1) := by decide +kernel
theorem d_Plan_lay_34 : decode c_Plan_lay 34 = .ok (.ireturn, 1) := by decide +kernel
theorem d_Plan_put_0 : decode c_Plan_put 0 = .ok (.iload_n 1, 1) := by decide +kernel
theorem d_Plan_put_1 : decode c_Plan_put 1 = .ok (.iconst 0, 1) := by decide +kernel
theorem d_Plan_put_2 : decode c_Plan_put 2 = .ok (.iconst 5, 1) := by decide +kernel
theorem d_Plan_put_3 : decode c_Plan_put 3 = .ok (.invokestatic 60, 3) := by decide +kernel
theorem d_Plan_put_6 : decode c_Plan_put 6 = .ok (.ifCond .eq 20, 3) := by decide +kernel
theorem d_Plan_put_9 : decode c_Plan_put 9 = .ok (.iload_n 2, 1) := by decide +kernel
theorem d_Plan_put_10 : decode c_Plan_put 10 = .ok (.iconst 0, 1) := by decide +kernel
theorem d_Plan_put_11 : decode c_Plan_put 11 = .ok (.aload_n 0, 1) := by decide +kernel
theorem d_Plan_put_12 : decode c_Plan_put 12 = .ok (.getfield 45, 3) := by decide +kernel
theorem d_Plan_put_15 : decode c_Plan_put 15 = .ok (.getfield 63, 3) := by decide +kernel
theorem d_Plan_put_18 : decode c_Plan_put 18 = .ok (.iconst 1, 1) := by decide +kernel
theorem d_Plan_put_19 : decode c_Plan_put 19 = .ok (.isub, 1) := by decide +kernel
theorem d_Plan_put_20 : decode c_Plan_put 20 = .ok (.invokestatic 60, 3) := by decide +kernel
theorem d_Plan_put_23 : decode c_Plan_put 23 = .ok (.ifCond .ne 5, 3) := by decide +kernel
theorem d_Plan_put_26 : decode c_Plan_put 26 = .ok (.iconst 0, 1) := by decide +kernel
theorem d_Plan_put_27 : decode c_Plan_put 27 = .ok (.ireturn, 1) := by decide +kernel
theorem d_Plan_put_28 : decode c_Plan_put 28 = .ok (.aload_n 0, 1) := by decide +kernel
theorem d_Plan_put_29 : decode c_Plan_put 29 = .ok (.getfield 45, 3) := by decide +kernel
theorem d_Plan_put_32 : decode c_Plan_put 32 = .ok (.iload_n 2, 1) := by decide +kernel
theorem d_Plan_put_33 : decode c_Plan_put 33 = .ok (.iload_n 3, 1) := by decide +kernel
theorem d_Plan_put_34 : decode c_Plan_put 34 = .ok (.invokevirtual 69, 3) := by decide +kernel
theorem d_Plan_put_37 : decode c_Plan_put 37 = .ok (.ifCond .ne 5, 3) := by decide +kernel
theorem d_Plan_put_40 : decode c_Plan_put 40 = .ok (.iconst 0, 1) := by decide +kernel
theorem d_Plan_put_41 : decode c_Plan_put 41 = .ok (.ireturn, 1) := by decide +kernel
theorem d_Plan_put_42 : decode c_Plan_put 42 = .ok (.aload_n 0, 1) := by decide +kernel
theorem d_Plan_put_43 : decode c_Plan_put 43 = .ok (.getfield 9, 3) := by decide +kernel
theorem d_Plan_put_46 : decode c_Plan_put 46 = .ok (.iload_n 1, 1) := by decide +kernel
theorem d_Plan_put_47 : decode c_Plan_put 47 = .ok (.iload_n 2, 1) := by decide +kernel
theorem d_Plan_put_48 : decode c_Plan_put 48 = .ok (.iastore, 1) := by decide +kernel
theorem d_Plan_put_49 : decode c_Plan_put 49 = .ok (.aload_n 0, 1) := by decide +kernel
theorem d_Plan_put_50 : decode c_Plan_put 50 = .ok (.getfield 15, 3) := by decide +kernel
theorem d_Plan_put_53 : decode c_Plan_put 53 = .ok (.iload_n 1, 1) := by decide +kernel
theorem d_Plan_put_54 : decode c_Plan_put 54 = .ok (.iload_n 3, 1) := by decide +kernel
theorem d_Plan_put_55 : decode c_Plan_put 55 = .ok (.iastore, 1) := by decide +kernel
theorem d_Plan_put_56 : decode c_Plan_put 56 = .ok (.aload_n 0, 1) := by decide +kernel
theorem d_Plan_put_57 : decode c_Plan_put 57 = .ok (.getfield 18, 3) := by decide +kernel
theorem d_Plan_put_60 : decode c_Plan_put 60 = .ok (.iload_n 1, 1) := by decide +kernel
theorem d_Plan_put_61 : decode c_Plan_put 61 = .ok (.iload_n 1, 1) := by decide +kernel
theorem d_Plan_put_62 : decode c_Plan_put 62 = .ok (.ifCond .ne 7, 3) := by decide +kernel
theorem d_Plan_put_65 : decode c_Plan_put 65 = .ok (.iconst 0, 1) := by decide +kernel
theorem d_Plan_put_66 : decode c_Plan_put 66 = .ok (.goto 11, 3) := by decide +kernel
theorem d_Plan_put_69 : decode c_Plan_put 69 = .ok (.aload_n 0, 1) := by decide +kernel
theorem d_Plan_put_70 : decode c_Plan_put 70 = .ok (.getfield 21, 3) := by decide +kernel
theorem d_Plan_put_73 : decode c_Plan_put 73 = .ok (.iload_n 1, 1) := by decide +kernel
theorem d_Plan_put_74 : decode c_Plan_put 74 = .ok (.iconst 1, 1) := by decide +kernel
theorem d_Plan_put_75 : decode c_Plan_put 75 = .ok (.isub, 1) := by decide +kernel
theorem d_Plan_put_76 : decode c_Plan_put 76 = .ok (.iaload, 1) := by decide +kernel
theorem d_Plan_put_77 : decode c_Plan_put 77 = .ok (.iastore, 1) := by decide +kernel
theorem d_Plan_put_78 : decode c_Plan_put 78 = .ok (.aload_n 0, 1) := by decide +kernel
theorem d_Plan_put_79 : decode c_Plan_put 79 = .ok (.getfield 21, 3) := by decide +kernel
theorem d_Plan_put_82 : decode c_Plan_put 82 = .ok (.iload_n 1, 1) := by decide +kernel
theorem d_Plan_put_83 : decode c_Plan_put 83 = .ok (.aload_n 0, 1) := by decide +kernel
theorem d_Plan_put_84 : decode c_Plan_put 84 = .ok (.getfield 18, 3) := by decide +kernel
theorem d_Plan_put_87 : decode c_Plan_put 87 = .ok (.iload_n 1, 1) := by decide +kernel
theorem d_Plan_put_88 : decode c_Plan_put 88 = .ok (.iaload, 1) := by decide +kernel
theorem d_Plan_put_89 : decode c_Plan_put 89 = .ok (.aload_n 0, 1) := by decide +kernel
theorem d_Plan_put_90 : decode c_Plan_put 90 = .ok (.getfield 45, 3) := by decide +kernel
theorem d_Plan_put_93 : decode c_Plan_put 93 = .ok (.getfield 73, 3) := by decide +kernel
theorem d_Plan_put_96 : decode c_Plan_put 96 = .ok (.iload_n 2, 1) := by decide +kernel
theorem d_Plan_put_97 : decode c_Plan_put 97 = .ok (.iaload, 1) := by decide +kernel
theorem d_Plan_put_98 : decode c_Plan_put 98 = .ok (.iadd, 1) := by decide +kernel
theorem d_Plan_put_99 : decode c_Plan_put 99 = .ok (.iastore, 1) := by decide +kernel
theorem d_Plan_put_100 : decode c_Plan_put 100 = .ok (.aload_n 0, 1) := by decide +kernel
theorem d_Plan_put_101 : decode c_Plan_put 101 = .ok (.iload_n 1, 1) := by decide +kernel
theorem d_Plan_put_102 : decode c_Plan_put 102 = .ok (.aload_n 0, 1) := by decide +kernel
theorem d_Plan_put_103 : decode c_Plan_put 103 = .ok (.iload_n 3, 1) := by decide +kernel
theorem d_Plan_put_104 : decode c_Plan_put 104 = .ok (.iload_n 1, 1) := by decide +kernel
theorem d_Plan_put_105 : decode c_Plan_put 105 = .ok (.invokevirtual 76, 3) := by decide +kernel
theorem d_Plan_put_108 : decode c_Plan_put 108 = .ok (.invokevirtual 79, 3) := by decide +kernel
theorem d_Plan_put_111 : decode c_Plan_put 111 = .ok (.aload_n 0, 1) := by decide +kernel
theorem d_Plan_put_112 : decode c_Plan_put 112 = .ok (.getfield 24, 3) := by decide +kernel
theorem d_Plan_put_115 : decode c_Plan_put 115 = .ok (.iload_n 1, 1) := by decide +kernel
theorem d_Plan_put_116 : decode c_Plan_put 116 = .ok (.iaload, 1) := by decide +kernel
theorem d_Plan_put_117 : decode c_Plan_put 117 = .ok (.aload_n 0, 1) := by decide +kernel
theorem d_Plan_put_118 : decode c_Plan_put 118 = .ok (.getfield 21, 3) := by decide +kernel
theorem d_Plan_put_121 : decode c_Plan_put 121 = .ok (.iload_n 1, 1) := by decide +kernel
theorem d_Plan_put_122 : decode c_Plan_put 122 = .ok (.iaload, 1) := by decide +kernel
theorem d_Plan_put_123 : decode c_Plan_put 123 = .ok (.isub, 1) := by decide +kernel
theorem d_Plan_put_124 : decode c_Plan_put 124 = .ok (.aload_n 0, 1) := by decide +kernel
theorem d_Plan_put_125 : decode c_Plan_put 125 = .ok (.getfield 45, 3) := by decide +kernel
theorem d_Plan_put_128 : decode c_Plan_put 128 = .ok (.getfield 83, 3) := by decide +kernel
theorem d_Plan_put_131 : decode c_Plan_put 131 = .ok (.if_icmp .gt 7, 3) := by decide +kernel
theorem d_Plan_put_134 : decode c_Plan_put 134 = .ok (.iconst 1, 1) := by decide +kernel
theorem d_Plan_put_135 : decode c_Plan_put 135 = .ok (.goto 4, 3) := by decide +kernel
theorem d_Plan_put_138 : decode c_Plan_put 138 = .ok (.iconst 0, 1) := by decide +kernel
theorem d_Plan_put_139 : decode c_Plan_put 139 = .ok (.ireturn, 1) := by decide +kernel
theorem d_Plan_costOf_0 : decode c_Plan_costOf 0 = .ok (.aload_n 0, 1) := by decide +kernel
theorem d_Plan_costOf_1 : decode c_Plan_costOf 1 = .ok (.getfield 42, 3) := by decide +kernel
theorem d_Plan_costOf_4 : decode c_Plan_costOf 4 = .ok (.iload_n 1, 1) := by decide +kernel
theorem d_Plan_costOf_5 : decode c_Plan_costOf 5 = .ok (.iaload, 1) := by decide +kernel
theorem d_Plan_costOf_6 : decode c_Plan_costOf 6 = .ok (.aload_n 0, 1) := by decide +kernel
theorem d_Plan_costOf_7 : decode c_Plan_costOf 7 = .ok (.getfield 36, 3) := by decide +kernel
theorem d_Plan_costOf_10 : decode c_Plan_costOf 10 = .ok (.iload_n 1, 1) := by decide +kernel
theorem d_Plan_costOf_11 : decode c_Plan_costOf 11 = .ok (.iaload, 1) := by decide +kernel
theorem d_Plan_costOf_12 : decode c_Plan_costOf 12 = .ok (.aload_n 0, 1) := by decide +kernel
theorem d_Plan_costOf_13 : decode c_Plan_costOf 13 = .ok (.getfield 45, 3) := by decide +kernel
theorem d_Plan_costOf_16 : decode c_Plan_costOf 16 = .ok (.getfield 86, 3) := by decide +kernel
theorem d_Plan_costOf_19 : decode c_Plan_costOf 19 = .ok (.imul, 1) := by decide +kernel
theorem d_Plan_costOf_20 : decode c_Plan_costOf 20 = .ok (.iadd, 1) := by decide +kernel
theorem d_Plan_costOf_21 : decode c_Plan_costOf 21 = .ok (.aload_n 0, 1) := by decide +kernel
theorem d_Plan_costOf_22 : decode c_Plan_costOf 22 = .ok (.getfield 39, 3) := by decide +kernel
theorem d_Plan_costOf_25 : decode c_Plan_costOf 25 = .ok (.iload_n 1, 1) := by decide +kernel
theorem d_Plan_costOf_26 : decode c_Plan_costOf 26 = .ok (.iaload, 1) := by decide +kernel
theorem d_Plan_costOf_27 : decode c_Plan_costOf 27 = .ok (.aload_n 0, 1) := by decide +kernel
theorem d_Plan_costOf_28 : decode c_Plan_costOf 28 = .ok (.getfield 45, 3) := by decide +kernel
theorem d_Plan_costOf_31 : decode c_Plan_costOf 31 = .ok (.getfield 89, 3) := by decide +kernel
theorem d_Plan_costOf_34 : decode c_Plan_costOf 34 = .ok (.imul, 1) := by decide +kernel
theorem d_Plan_costOf_35 : decode c_Plan_costOf 35 = .ok (.iadd, 1) := by decide +kernel
theorem d_Plan_costOf_36 : decode c_Plan_costOf 36 = .ok (.ireturn, 1) := by decide +kernel
theorem d_Plan_latestOn_0 : decode c_Plan_latestOn 0 = .ok (.iload_n 2, 1) := by decide +kernel
theorem d_Plan_latestOn_1 : decode c_Plan_latestOn 1 = .ok (.iconst 1, 1) := by decide +kernel
theorem d_Plan_latestOn_2 : decode c_Plan_latestOn 2 = .ok (.isub, 1) := by decide +kernel
theorem d_Plan_latestOn_3 : decode c_Plan_latestOn 3 = .ok (.istore_n 3, 1) := by decide +kernel
theorem d_Plan_latestOn_4 : decode c_Plan_latestOn 4 = .ok (.iload_n 3, 1) := by decide +kernel
theorem d_Plan_latestOn_5 : decode c_Plan_latestOn 5 = .ok (.ifCond .lt 21, 3) := by decide +kernel
theorem d_Plan_latestOn_8 : decode c_Plan_latestOn 8 = .ok (.aload_n 0, 1) := by decide +kernel
theorem d_Plan_latestOn_9 : decode c_Plan_latestOn 9 = .ok (.getfield 15, 3) := by decide +kernel
theorem d_Plan_latestOn_12 : decode c_Plan_latestOn 12 = .ok (.iload_n 3, 1) := by decide +kernel
theorem d_Plan_latestOn_13 : decode c_Plan_latestOn 13 = .ok (.iaload, 1) := by decide +kernel
theorem d_Plan_latestOn_14 : decode c_Plan_latestOn 14 = .ok (.iload_n 1, 1) := by decide +kernel
theorem d_Plan_latestOn_15 : decode c_Plan_latestOn 15 = .ok (.if_icmp .ne 5, 3) := by decide +kernel
theorem d_Plan_latestOn_18 : decode c_Plan_latestOn 18 = .ok (.iload_n 3, 1) := by decide +kernel
theorem d_Plan_latestOn_19 : decode c_Plan_latestOn 19 = .ok (.ireturn, 1) := by decide +kernel
theorem d_Plan_latestOn_20 : decode c_Plan_latestOn 20 = .ok (.iinc 3 (-1), 3) := by decide +kernel
theorem d_Plan_latestOn_23 : decode c_Plan_latestOn 23 = .ok (.goto (-19), 3) := by decide +kernel
theorem d_Plan_latestOn_26 : decode c_Plan_latestOn 26 = .ok (.iconst (-1), 1) := by decide +kernel
theorem d_Plan_latestOn_27 : decode c_Plan_latestOn 27 = .ok (.ireturn, 1) := by decide +kernel
theorem d_Plan_castStep_0 : decode c_Plan_castStep 0 = .ok (.iload_n 2, 1) := by decide +kernel
theorem d_Plan_castStep_1 : decode c_Plan_castStep 1 = .ok (.iconst (-1), 1) := by decide +kernel
theorem d_Plan_castStep_2 : decode c_Plan_castStep 2 = .ok (.if_icmp .eq 7, 3) := by decide +kernel
theorem d_Plan_castStep_5 : decode c_Plan_castStep 5 = .ok (.iconst 1, 1) := by decide +kernel
theorem d_Plan_castStep_6 : decode c_Plan_castStep 6 = .ok (.goto 4, 3) := by decide +kernel
theorem d_Plan_castStep_9 : decode c_Plan_castStep 9 = .ok (.iconst 0, 1) := by decide +kernel
theorem d_Plan_castStep_10 : decode c_Plan_castStep 10 = .ok (.istore_n 3, 1) := by decide +kernel
theorem d_Plan_castStep_11 : decode c_Plan_castStep 11 = .ok (.iload_n 3, 1) := by decide +kernel
theorem d_Plan_castStep_12 : decode c_Plan_castStep 12 = .ok (.ifCond .eq 25, 3) := by decide +kernel
theorem d_Plan_castStep_15 : decode c_Plan_castStep 15 = .ok (.aload_n 0, 1) := by decide +kernel
theorem d_Plan_castStep_16 : decode c_Plan_castStep 16 = .ok (.getfield 45, 3) := by decide +kernel
theorem d_Plan_castStep_19 : decode c_Plan_castStep 19 = .ok (.aload_n 0, 1) := by decide +kernel
theorem d_Plan_castStep_20 : decode c_Plan_castStep 20 = .ok (.getfield 9, 3) := by decide +kernel
theorem d_Plan_castStep_23 : decode c_Plan_castStep 23 = .ok (.iload_n 2, 1) := by decide +kernel
theorem d_Plan_castStep_24 : decode c_Plan_castStep 24 = .ok (.iaload, 1) := by decide +kernel
theorem d_Plan_castStep_25 : decode c_Plan_castStep 25 = .ok (.aload_n 0, 1) := by decide +kernel
theorem d_Plan_castStep_26 : decode c_Plan_castStep 26 = .ok (.getfield 9, 3) := by decide +kernel
theorem d_Plan_castStep_29 : decode c_Plan_castStep 29 = .ok (.iload_n 1, 1) := by decide +kernel
theorem d_Plan_castStep_30 : decode c_Plan_castStep 30 = .ok (.iaload, 1) := by decide +kernel
theorem d_Plan_castStep_31 : decode c_Plan_castStep 31 = .ok (.invokevirtual 92, 3) := by decide +kernel
theorem d_Plan_castStep_34 : decode c_Plan_castStep 34 = .ok (.goto 4, 3) := by decide +kernel
theorem d_Plan_castStep_37 : decode c_Plan_castStep 37 = .ok (.iconst (-1), 1) := by decide +kernel
theorem d_Plan_castStep_38 : decode c_Plan_castStep 38 = .ok (.istore 4, 2) := by decide +kernel
theorem d_Plan_castStep_40 : decode c_Plan_castStep 40 = .ok (.iload 4, 2) := by decide +kernel
theorem d_Plan_castStep_42 : decode c_Plan_castStep 42 = .ok (.iconst (-1), 1) := by decide +kernel
theorem d_Plan_castStep_43 : decode c_Plan_castStep 43 = .ok (.if_icmp .eq 16, 3) := by decide +kernel
theorem d_Plan_castStep_46 : decode c_Plan_castStep 46 = .ok (.aload_n 0, 1) := by decide +kernel
theorem d_Plan_castStep_47 : decode c_Plan_castStep 47 = .ok (.iload_n 2, 1) := by decide +kernel
theorem d_Plan_castStep_48 : decode c_Plan_castStep 48 = .ok (.iload_n 1, 1) := by decide +kernel
theorem d_Plan_castStep_49 : decode c_Plan_castStep 49 = .ok (.invokevirtual 95, 3) := by decide +kernel
theorem d_Plan_castStep_52 : decode c_Plan_castStep 52 = .ok (.ifCond .eq 7, 3) := by decide +kernel
theorem d_Plan_castStep_55 : decode c_Plan_castStep 55 = .ok (.iconst 1, 1) := by decide +kernel
theorem d_Plan_castStep_56 : decode c_Plan_castStep 56 = .ok (.goto 4, 3) := by decide +kernel
theorem d_Plan_castStep_59 : decode c_Plan_castStep 59 = .ok (.iconst 0, 1) := by decide +kernel
theorem d_Plan_castStep_60 : decode c_Plan_castStep 60 = .ok (.istore 5, 2) := by decide +kernel
theorem d_Plan_castStep_62 : decode c_Plan_castStep 62 = .ok (.aload_n 0, 1) := by decide +kernel
theorem d_Plan_castStep_63 : decode c_Plan_castStep 63 = .ok (.getfield 30, 3) := by decide +kernel
theorem d_Plan_castStep_66 : decode c_Plan_castStep 66 = .ok (.iload_n 1, 1) := by decide +kernel
theorem d_Plan_castStep_67 : decode c_Plan_castStep 67 = .ok (.iload_n 3, 1) := by decide +kernel
theorem d_Plan_castStep_68 : decode c_Plan_castStep 68 = .ok (.ifCond .eq 12, 3) := by decide +kernel
theorem d_Plan_castStep_71 : decode c_Plan_castStep 71 = .ok (.iload 5, 2) := by decide +kernel
theorem d_Plan_castStep_73 : decode c_Plan_castStep 73 = .ok (.ifCond .ne 7, 3) := by decide +kernel
theorem d_Plan_castStep_76 : decode c_Plan_castStep 76 = .ok (.iconst 1, 1) := by decide +kernel
theorem d_Plan_castStep_77 : decode c_Plan_castStep 77 = .ok (.goto 4, 3) := by decide +kernel
theorem d_Plan_castStep_80 : decode c_Plan_castStep 80 = .ok (.iconst 0, 1) := by decide +kernel
theorem d_Plan_castStep_81 : decode c_Plan_castStep 81 = .ok (.iastore, 1) := by decide +kernel
theorem d_Plan_castStep_82 : decode c_Plan_castStep 82 = .ok (.aload_n 0, 1) := by decide +kernel
theorem d_Plan_castStep_83 : decode c_Plan_castStep 83 = .ok (.getfield 33, 3) := by decide +kernel
theorem d_Plan_castStep_86 : decode c_Plan_castStep 86 = .ok (.iload_n 1, 1) := by decide +kernel
theorem d_Plan_castStep_87 : decode c_Plan_castStep 87 = .ok (.iload 5, 2) := by decide +kernel
theorem d_Plan_castStep_89 : decode c_Plan_castStep 89 = .ok (.ifCond .eq 14, 3) := by decide +kernel
theorem d_Plan_castStep_92 : decode c_Plan_castStep 92 = .ok (.aload_n 0, 1) := by decide +kernel
theorem d_Plan_castStep_93 : decode c_Plan_castStep 93 = .ok (.getfield 33, 3) := by decide +kernel
theorem d_Plan_castStep_96 : decode c_Plan_castStep 96 = .ok (.iload_n 2, 1) := by decide +kernel
theorem d_Plan_castStep_97 : decode c_Plan_castStep 97 = .ok (.iaload, 1) := by decide +kernel
theorem d_Plan_castStep_98 : decode c_Plan_castStep 98 = .ok (.iconst 1, 1) := by decide +kernel
theorem d_Plan_castStep_99 : decode c_Plan_castStep 99 = .ok (.iadd, 1) := by decide +kernel
theorem d_Plan_castStep_100 : decode c_Plan_castStep 100 = .ok (.goto 4, 3) := by decide +kernel
theorem d_Plan_castStep_103 : decode c_Plan_castStep 103 = .ok (.iconst 1, 1) := by decide +kernel
theorem d_Plan_castStep_104 : decode c_Plan_castStep 104 = .ok (.iastore, 1) := by decide +kernel
theorem d_Plan_castStep_105 : decode c_Plan_castStep 105 = .ok (.iload_n 3, 1) := by decide +kernel
theorem d_Plan_castStep_106 : decode c_Plan_castStep 106 = .ok (.ifCond .eq 27, 3) := by decide +kernel
theorem d_Plan_castStep_109 : decode c_Plan_castStep 109 = .ok (.aload_n 0, 1) := by decide +kernel
theorem d_Plan_castStep_110 : decode c_Plan_castStep 110 = .ok (.getfield 27, 3) := by decide +kernel
theorem d_Plan_castStep_113 : decode c_Plan_castStep 113 = .ok (.iload_n 2, 1) := by decide +kernel
theorem d_Plan_castStep_114 : decode c_Plan_castStep 114 = .ok (.iaload, 1) := by decide +kernel
theorem d_Plan_castStep_115 : decode c_Plan_castStep 115 = .ok (.aload_n 0, 1) := by decide +kernel
theorem d_Plan_castStep_116 : decode c_Plan_castStep 116 = .ok (.getfield 30, 3) := by decide +kernel
theorem d_Plan_castStep_119 : decode c_Plan_castStep 119 = .ok (.iload_n 1, 1) := by decide +kernel
theorem d_Plan_castStep_120 : decode c_Plan_castStep 120 = .ok (.iaload, 1) := by decide +kernel
theorem d_Plan_castStep_121 : decode c_Plan_castStep 121 = .ok (.aload_n 0, 1) := by decide +kernel
theorem d_Plan_castStep_122 : decode c_Plan_castStep 122 = .ok (.getfield 45, 3) := by decide +kernel
theorem d_Plan_castStep_125 : decode c_Plan_castStep 125 = .ok (.getfield 98, 3) := by decide +kernel
theorem d_Plan_castStep_128 : decode c_Plan_castStep 128 = .ok (.imul, 1) := by decide +kernel
theorem d_Plan_castStep_129 : decode c_Plan_castStep 129 = .ok (.iadd, 1) := by decide +kernel
theorem d_Plan_castStep_130 : decode c_Plan_castStep 130 = .ok (.goto 4, 3) := by decide +kernel
theorem d_Plan_castStep_133 : decode c_Plan_castStep 133 = .ok (.iconst 0, 1) := by decide +kernel
theorem d_Plan_castStep_134 : decode c_Plan_castStep 134 = .ok (.istore 6, 2) := by decide +kernel
theorem d_Plan_castStep_136 : decode c_Plan_castStep 136 = .ok (.aload_n 0, 1) := by decide +kernel
theorem d_Plan_castStep_137 : decode c_Plan_castStep 137 = .ok (.getfield 24, 3) := by decide +kernel
theorem d_Plan_castStep_140 : decode c_Plan_castStep 140 = .ok (.iload_n 1, 1) := by decide +kernel
theorem d_Plan_castStep_141 : decode c_Plan_castStep 141 = .ok (.aload_n 0, 1) := by decide +kernel
theorem d_Plan_castStep_142 : decode c_Plan_castStep 142 = .ok (.getfield 21, 3) := by decide +kernel
theorem d_Plan_castStep_145 : decode c_Plan_castStep 145 = .ok (.iload_n 1, 1) := by decide +kernel
theorem d_Plan_castStep_146 : decode c_Plan_castStep 146 = .ok (.iaload, 1) := by decide +kernel
theorem d_Plan_castStep_147 : decode c_Plan_castStep 147 = .ok (.iload 6, 2) := by decide +kernel
theorem d_Plan_castStep_149 : decode c_Plan_castStep 149 = .ok (.invokestatic 100, 3) := by decide +kernel
theorem d_Plan_castStep_152 : decode c_Plan_castStep 152 = .ok (.iastore, 1) := by decide +kernel
theorem d_Plan_castStep_153 : decode c_Plan_castStep 153 = .ok (.aload_n 0, 1) := by decide +kernel
theorem d_Plan_castStep_154 : decode c_Plan_castStep 154 = .ok (.getfield 27, 3) := by decide +kernel
theorem d_Plan_castStep_157 : decode c_Plan_castStep 157 = .ok (.iload_n 1, 1) := by decide +kernel
theorem d_Plan_castStep_158 : decode c_Plan_castStep 158 = .ok (.aload_n 0, 1) := by decide +kernel
theorem d_Plan_castStep_159 : decode c_Plan_castStep 159 = .ok (.getfield 24, 3) := by decide +kernel
theorem d_Plan_castStep_162 : decode c_Plan_castStep 162 = .ok (.iload_n 1, 1) := by decide +kernel
theorem d_Plan_castStep_163 : decode c_Plan_castStep 163 = .ok (.iaload, 1) := by decide +kernel
theorem d_Plan_castStep_164 : decode c_Plan_castStep 164 = .ok (.aload_n 0, 1) := by decide +kernel
theorem d_Plan_castStep_165 : decode c_Plan_castStep 165 = .ok (.getfield 45, 3) := by decide +kernel
theorem d_Plan_castStep_168 : decode c_Plan_castStep 168 = .ok (.getfield 105, 3) := by decide +kernel
theorem d_Plan_castStep_171 : decode c_Plan_castStep 171 = .ok (.aload_n 0, 1) := by decide +kernel
theorem d_Plan_castStep_172 : decode c_Plan_castStep 172 = .ok (.getfield 9, 3) := by decide +kernel
theorem d_Plan_castStep_175 : decode c_Plan_castStep 175 = .ok (.iload_n 1, 1) := by decide +kernel
theorem d_Plan_castStep_176 : decode c_Plan_castStep 176 = .ok (.iaload, 1) := by decide +kernel
theorem d_Plan_castStep_177 : decode c_Plan_castStep 177 = .ok (.iaload, 1) := by decide +kernel
theorem d_Plan_castStep_178 : decode c_Plan_castStep 178 = .ok (.iadd, 1) := by decide +kernel
theorem d_Plan_castStep_179 : decode c_Plan_castStep 179 = .ok (.iastore, 1) := by decide +kernel
theorem d_Plan_castStep_180 : decode c_Plan_castStep 180 = .ok (.aload_n 0, 1) := by decide +kernel
theorem d_Plan_castStep_181 : decode c_Plan_castStep 181 = .ok (.getfield 36, 3) := by decide +kernel
theorem d_Plan_castStep_184 : decode c_Plan_castStep 184 = .ok (.iload_n 1, 1) := by decide +kernel
theorem d_Plan_castStep_185 : decode c_Plan_castStep 185 = .ok (.iconst 1, 1) := by decide +kernel
theorem d_Plan_castStep_186 : decode c_Plan_castStep 186 = .ok (.iadd, 1) := by decide +kernel
theorem d_Plan_castStep_187 : decode c_Plan_castStep 187 = .ok (.aload_n 0, 1) := by decide +kernel
theorem d_Plan_castStep_188 : decode c_Plan_castStep 188 = .ok (.getfield 36, 3) := by decide +kernel
theorem d_Plan_castStep_191 : decode c_Plan_castStep 191 = .ok (.iload_n 1, 1) := by decide +kernel
theorem d_Plan_castStep_192 : decode c_Plan_castStep 192 = .ok (.iaload, 1) := by decide +kernel
theorem d_Plan_castStep_193 : decode c_Plan_castStep 193 = .ok (.aload_n 0, 1) := by decide +kernel
theorem d_Plan_castStep_194 : decode c_Plan_castStep 194 = .ok (.getfield 30, 3) := by decide +kernel
theorem d_Plan_castStep_197 : decode c_Plan_castStep 197 = .ok (.iload_n 1, 1) := by decide +kernel
theorem d_Plan_castStep_198 : decode c_Plan_castStep 198 = .ok (.iaload, 1) := by decide +kernel
theorem d_Plan_castStep_199 : decode c_Plan_castStep 199 = .ok (.iadd, 1) := by decide +kernel
theorem d_Plan_castStep_200 : decode c_Plan_castStep 200 = .ok (.iastore, 1) := by decide +kernel
theorem d_Plan_castStep_201 : decode c_Plan_castStep 201 = .ok (.aload_n 0, 1) := by decide +kernel
theorem d_Plan_castStep_202 : decode c_Plan_castStep 202 = .ok (.getfield 39, 3) := by decide +kernel
theorem d_Plan_castStep_205 : decode c_Plan_castStep 205 = .ok (.iload_n 1, 1) := by decide +kernel
theorem d_Plan_castStep_206 : decode c_Plan_castStep 206 = .ok (.iconst 1, 1) := by decide +kernel
theorem d_Plan_castStep_207 : decode c_Plan_castStep 207 = .ok (.iadd, 1) := by decide +kernel
theorem d_Plan_castStep_208 : decode c_Plan_castStep 208 = .ok (.aload_n 0, 1) := by decide +kernel
theorem d_Plan_castStep_209 : decode c_Plan_castStep 209 = .ok (.getfield 39, 3) := by decide +kernel
theorem d_Plan_castStep_212 : decode c_Plan_castStep 212 = .ok (.iload_n 1, 1) := by decide +kernel
theorem d_Plan_castStep_213 : decode c_Plan_castStep 213 = .ok (.iaload, 1) := by decide +kernel
theorem d_Plan_castStep_214 : decode c_Plan_castStep 214 = .ok (.aload_n 0, 1) := by decide +kernel
theorem d_Plan_castStep_215 : decode c_Plan_castStep 215 = .ok (.getfield 45, 3) := by decide +kernel
theorem d_Plan_castStep_218 : decode c_Plan_castStep 218 = .ok (.aload_n 0, 1) := by decide +kernel
theorem d_Plan_castStep_219 : decode c_Plan_castStep 219 = .ok (.getfield 9, 3) := by decide +kernel
theorem d_Plan_castStep_222 : decode c_Plan_castStep 222 = .ok (.iload_n 1, 1) := by decide +kernel
theorem d_Plan_castStep_223 : decode c_Plan_castStep 223 = .ok (.iaload, 1) := by decide +kernel
theorem d_Plan_castStep_224 : decode c_Plan_castStep 224 = .ok (.aload_n 0, 1) := by decide +kernel
theorem d_Plan_castStep_225 : decode c_Plan_castStep 225 = .ok (.getfield 27, 3) := by decide +kernel
theorem d_Plan_castStep_228 : decode c_Plan_castStep 228 = .ok (.iload_n 1, 1) := by decide +kernel
theorem d_Plan_castStep_229 : decode c_Plan_castStep 229 = .ok (.iaload, 1) := by decide +kernel
theorem d_Plan_castStep_230 : decode c_Plan_castStep 230 = .ok (.invokevirtual 108, 3) := by decide +kernel
theorem d_Plan_castStep_233 : decode c_Plan_castStep 233 = .ok (.iadd, 1) := by decide +kernel
theorem d_Plan_castStep_234 : decode c_Plan_castStep 234 = .ok (.iastore, 1) := by decide +kernel
theorem d_Plan_castStep_235 : decode c_Plan_castStep 235 = .ok (.aload_n 0, 1) := by decide +kernel
theorem d_Plan_castStep_236 : decode c_Plan_castStep 236 = .ok (.getfield 42, 3) := by decide +kernel
theorem d_Plan_castStep_239 : decode c_Plan_castStep 239 = .ok (.iload_n 1, 1) := by decide +kernel
theorem d_Plan_castStep_240 : decode c_Plan_castStep 240 = .ok (.iconst 1, 1) := by decide +kernel
theorem d_Plan_castStep_241 : decode c_Plan_castStep 241 = .ok (.iadd, 1) := by decide +kernel
theorem d_Plan_castStep_242 : decode c_Plan_castStep 242 = .ok (.aload_n 0, 1) := by decide +kernel
theorem d_Plan_castStep_243 : decode c_Plan_castStep 243 = .ok (.getfield 42, 3) := by decide +kernel
theorem d_Plan_castStep_246 : decode c_Plan_castStep 246 = .ok (.iload_n 1, 1) := by decide +kernel
theorem d_Plan_castStep_247 : decode c_Plan_castStep 247 = .ok (.iaload, 1) := by decide +kernel
theorem d_Plan_castStep_248 : decode c_Plan_castStep 248 = .ok (.iload 5, 2) := by decide +kernel
theorem d_Plan_castStep_250 : decode c_Plan_castStep 250 = .ok (.ifCond .eq 8, 3) := by decide +kernel
theorem d_Plan_castStep_253 : decode c_Plan_castStep 253 = .ok (.iload 4, 2) := by decide +kernel
theorem d_Plan_castStep_255 : decode c_Plan_castStep 255 = .ok (.goto 4, 3) := by decide +kernel
theorem d_Plan_castStep_258 : decode c_Plan_castStep 258 = .ok (.iconst 0, 1) := by decide +kernel
theorem d_Plan_castStep_259 : decode c_Plan_castStep 259 = .ok (.iadd, 1) := by decide +kernel
theorem d_Plan_castStep_260 : decode c_Plan_castStep 260 = .ok (.iastore, 1) := by decide +kernel
theorem d_Plan_castStep_261 : decode c_Plan_castStep 261 = .ok (.return_, 1) := by decide +kernel
theorem d_Plan_goesOn_0 : decode c_Plan_goesOn 0 = .ok (.aload_n 0, 1) := by decide +kernel
theorem d_Plan_goesOn_1 : decode c_Plan_goesOn 1 = .ok (.getfield 45, 3) := by decide +kernel
theorem d_Plan_goesOn_4 : decode c_Plan_goesOn 4 = .ok (.getfield 111, 3) := by decide +kernel
theorem d_Plan_goesOn_7 : decode c_Plan_goesOn 7 = .ok (.aload_n 0, 1) := by decide +kernel
theorem d_Plan_goesOn_8 : decode c_Plan_goesOn 8 = .ok (.getfield 9, 3) := by decide +kernel
theorem d_Plan_goesOn_11 : decode c_Plan_goesOn 11 = .ok (.iload_n 1, 1) := by decide +kernel
theorem d_Plan_goesOn_12 : decode c_Plan_goesOn 12 = .ok (.iaload, 1) := by decide +kernel
theorem d_Plan_goesOn_13 : decode c_Plan_goesOn 13 = .ok (.iaload, 1) := by decide +kernel
theorem d_Plan_goesOn_14 : decode c_Plan_goesOn 14 = .ok (.aload_n 0, 1) := by decide +kernel
theorem d_Plan_goesOn_15 : decode c_Plan_goesOn 15 = .ok (.getfield 45, 3) := by decide +kernel
theorem d_Plan_goesOn_18 : decode c_Plan_goesOn 18 = .ok (.getfield 111, 3) := by decide +kernel
theorem d_Plan_goesOn_21 : decode c_Plan_goesOn 21 = .ok (.aload_n 0, 1) := by decide +kernel
theorem d_Plan_goesOn_22 : decode c_Plan_goesOn 22 = .ok (.getfield 9, 3) := by decide +kernel
theorem d_Plan_goesOn_25 : decode c_Plan_goesOn 25 = .ok (.iload_n 2, 1) := by decide +kernel
theorem d_Plan_goesOn_26 : decode c_Plan_goesOn 26 = .ok (.iaload, 1) := by decide +kernel
theorem d_Plan_goesOn_27 : decode c_Plan_goesOn 27 = .ok (.iaload, 1) := by decide +kernel
theorem d_Plan_goesOn_28 : decode c_Plan_goesOn 28 = .ok (.isub, 1) := by decide +kernel
theorem d_Plan_goesOn_29 : decode c_Plan_goesOn 29 = .ok (.invokestatic 114, 3) := by decide +kernel
theorem d_Plan_goesOn_32 : decode c_Plan_goesOn 32 = .ok (.istore_n 3, 1) := by decide +kernel
theorem d_Plan_goesOn_33 : decode c_Plan_goesOn 33 = .ok (.iload_n 3, 1) := by decide +kernel
theorem d_Plan_goesOn_34 : decode c_Plan_goesOn 34 = .ok (.aload_n 0, 1) := by decide +kernel
theorem d_Plan_goesOn_35 : decode c_Plan_goesOn 35 = .ok (.getfield 45, 3) := by decide +kernel
theorem d_Plan_goesOn_38 : decode c_Plan_goesOn 38 = .ok (.getfield 118, 3) := by decide +kernel
theorem d_Plan_goesOn_41 : decode c_Plan_goesOn 41 = .ok (.if_icmp .gt 46, 3) := by decide +kernel
theorem d_Plan_goesOn_44 : decode c_Plan_goesOn 44 = .ok (.aload_n 0, 1) := by decide +kernel
theorem d_Plan_goesOn_45 : decode c_Plan_goesOn 45 = .ok (.getfield 33, 3) := by decide +kernel
theorem d_Plan_goesOn_48 : decode c_Plan_goesOn 48 = .ok (.iload_n 1, 1) := by decide +kernel
theorem d_Plan_goesOn_49 : decode c_Plan_goesOn 49 = .ok (.iaload, 1) := by decide +kernel
theorem d_Plan_goesOn_50 : decode c_Plan_goesOn 50 = .ok (.aload_n 0, 1) := by decide +kernel
theorem d_Plan_goesOn_51 : decode c_Plan_goesOn 51 = .ok (.getfield 45, 3) := by decide +kernel
theorem d_Plan_goesOn_54 : decode c_Plan_goesOn 54 = .ok (.getfield 121, 3) := by decide +kernel
theorem d_Plan_goesOn_57 : decode c_Plan_goesOn 57 = .ok (.if_icmp .ge 30, 3) := by decide +kernel
theorem d_Plan_goesOn_60 : decode c_Plan_goesOn 60 = .ok (.aload_n 0, 1) := by decide +kernel
theorem d_Plan_goesOn_61 : decode c_Plan_goesOn 61 = .ok (.getfield 21, 3) := by decide +kernel
theorem d_Plan_goesOn_64 : decode c_Plan_goesOn 64 = .ok (.iload_n 2, 1) := by decide +kernel
theorem d_Plan_goesOn_65 : decode c_Plan_goesOn 65 = .ok (.iaload, 1) := by decide +kernel
theorem d_Plan_goesOn_66 : decode c_Plan_goesOn 66 = .ok (.aload_n 0, 1) := by decide +kernel
theorem d_Plan_goesOn_67 : decode c_Plan_goesOn 67 = .ok (.getfield 27, 3) := by decide +kernel
theorem d_Plan_goesOn_70 : decode c_Plan_goesOn 70 = .ok (.iload_n 1, 1) := by decide +kernel
theorem d_Plan_goesOn_71 : decode c_Plan_goesOn 71 = .ok (.iaload, 1) := by decide +kernel
theorem d_Plan_goesOn_72 : decode c_Plan_goesOn 72 = .ok (.isub, 1) := by decide +kernel
theorem d_Plan_goesOn_73 : decode c_Plan_goesOn 73 = .ok (.aload_n 0, 1) := by decide +kernel
theorem d_Plan_goesOn_74 : decode c_Plan_goesOn 74 = .ok (.getfield 45, 3) := by decide +kernel
theorem d_Plan_goesOn_77 : decode c_Plan_goesOn 77 = .ok (.getfield 124, 3) := by decide +kernel
theorem d_Plan_goesOn_80 : decode c_Plan_goesOn 80 = .ok (.if_icmp .gt 7, 3) := by decide +kernel
theorem d_Plan_goesOn_83 : decode c_Plan_goesOn 83 = .ok (.iconst 1, 1) := by decide +kernel
theorem d_Plan_goesOn_84 : decode c_Plan_goesOn 84 = .ok (.goto 4, 3) := by decide +kernel
theorem d_Plan_goesOn_87 : decode c_Plan_goesOn 87 = .ok (.iconst 0, 1) := by decide +kernel
theorem d_Plan_goesOn_88 : decode c_Plan_goesOn 88 = .ok (.ireturn, 1) := by decide +kernel
