/-! decode rows of HeatOrder$Search -/
theorem d_Srch_init_0 : decode c_Srch_init 0 = .ok (.aload_n 0, 1) := by decide +kernel
theorem d_Srch_init_1 : decode c_Srch_init 1 = .ok (.invokespecial 3, 3) := by decide +kernel
theorem d_Srch_init_4 : decode c_Srch_init 4 = .ok (.aload_n 0, 1) := by decide +kernel
theorem d_Srch_init_5 : decode c_Srch_init 5 = .ok (.iconst 0, 1) := by decide +kernel
theorem d_Srch_init_6 : decode c_Srch_init 6 = .ok (.putfield 9, 3) := by decide +kernel
theorem d_Srch_init_9 : decode c_Srch_init 9 = .ok (.aload_n 0, 1) := by decide +kernel
theorem d_Srch_init_10 : decode c_Srch_init 10 = .ok (.iconst 0, 1) := by decide +kernel
theorem d_Srch_init_11 : decode c_Srch_init 11 = .ok (.putfield 15, 3) := by decide +kernel
theorem d_Srch_init_14 : decode c_Srch_init 14 = .ok (.aload_n 0, 1) := by decide +kernel
theorem d_Srch_init_15 : decode c_Srch_init 15 = .ok (.iconst 0, 1) := by decide +kernel
theorem d_Srch_init_16 : decode c_Srch_init 16 = .ok (.putfield 18, 3) := by decide +kernel
theorem d_Srch_init_19 : decode c_Srch_init 19 = .ok (.aload_n 0, 1) := by decide +kernel
theorem d_Srch_init_20 : decode c_Srch_init 20 = .ok (.iconst 0, 1) := by decide +kernel
theorem d_Srch_init_21 : decode c_Srch_init 21 = .ok (.putfield 22, 3) := by decide +kernel
theorem d_Srch_init_24 : decode c_Srch_init 24 = .ok (.aload_n 0, 1) := by decide +kernel
theorem d_Srch_init_25 : decode c_Srch_init 25 = .ok (.iconst 0, 1) := by decide +kernel
theorem d_Srch_init_26 : decode c_Srch_init 26 = .ok (.putfield 25, 3) := by decide +kernel
theorem d_Srch_init_29 : decode c_Srch_init 29 = .ok (.aload_n 0, 1) := by decide +kernel
theorem d_Srch_init_30 : decode c_Srch_init 30 = .ok (.iconst 0, 1) := by decide +kernel
theorem d_Srch_init_31 : decode c_Srch_init 31 = .ok (.putfield 28, 3) := by decide +kernel
theorem d_Srch_init_34 : decode c_Srch_init 34 = .ok (.aload_n 0, 1) := by decide +kernel
theorem d_Srch_init_35 : decode c_Srch_init 35 = .ok (.aload_n 1, 1) := by decide +kernel
theorem d_Srch_init_36 : decode c_Srch_init 36 = .ok (.putfield 31, 3) := by decide +kernel
theorem d_Srch_init_39 : decode c_Srch_init 39 = .ok (.aload_n 0, 1) := by decide +kernel
theorem d_Srch_init_40 : decode c_Srch_init 40 = .ok (.new 35, 3) := by decide +kernel
theorem d_Srch_init_43 : decode c_Srch_init 43 = .ok (.dup, 1) := by decide +kernel
theorem d_Srch_init_44 : decode c_Srch_init 44 = .ok (.aload_n 1, 1) := by decide +kernel
theorem d_Srch_init_45 : decode c_Srch_init 45 = .ok (.invokespecial 37, 3) := by decide +kernel
theorem d_Srch_init_48 : decode c_Srch_init 48 = .ok (.putfield 40, 3) := by decide +kernel
theorem d_Srch_init_51 : decode c_Srch_init 51 = .ok (.return_, 1) := by decide +kernel
theorem d_Srch_findBest_0 : decode c_Srch_findBest 0 = .ok (.aload_n 0, 1) := by decide +kernel
theorem d_Srch_findBest_1 : decode c_Srch_findBest 1 = .ok (.iload_n 1, 1) := by decide +kernel
theorem d_Srch_findBest_2 : decode c_Srch_findBest 2 = .ok (.putfield 9, 3) := by decide +kernel
theorem d_Srch_findBest_5 : decode c_Srch_findBest 5 = .ok (.aload_n 0, 1) := by decide +kernel
theorem d_Srch_findBest_6 : decode c_Srch_findBest 6 = .ok (.iconst 0, 1) := by decide +kernel
theorem d_Srch_findBest_7 : decode c_Srch_findBest 7 = .ok (.putfield 15, 3) := by decide +kernel
theorem d_Srch_findBest_10 : decode c_Srch_findBest 10 = .ok (.aload_n 0, 1) := by decide +kernel
theorem d_Srch_findBest_11 : decode c_Srch_findBest 11 = .ok (.iconst 0, 1) := by decide +kernel
theorem d_Srch_findBest_12 : decode c_Srch_findBest 12 = .ok (.putfield 18, 3) := by decide +kernel
theorem d_Srch_findBest_15 : decode c_Srch_findBest 15 = .ok (.aload_n 0, 1) := by decide +kernel
theorem d_Srch_findBest_16 : decode c_Srch_findBest 16 = .ok (.iconst 0, 1) := by decide +kernel
theorem d_Srch_findBest_17 : decode c_Srch_findBest 17 = .ok (.putfield 22, 3) := by decide +kernel
theorem d_Srch_findBest_20 : decode c_Srch_findBest 20 = .ok (.aload_n 0, 1) := by decide +kernel
theorem d_Srch_findBest_21 : decode c_Srch_findBest 21 = .ok (.iconst 0, 1) := by decide +kernel
theorem d_Srch_findBest_22 : decode c_Srch_findBest 22 = .ok (.aload_n 0, 1) := by decide +kernel
theorem d_Srch_findBest_23 : decode c_Srch_findBest 23 = .ok (.getfield 31, 3) := by decide +kernel
theorem d_Srch_findBest_26 : decode c_Srch_findBest 26 = .ok (.invokevirtual 44, 3) := by decide +kernel
theorem d_Srch_findBest_29 : decode c_Srch_findBest 29 = .ok (.iconst 0, 1) := by decide +kernel
theorem d_Srch_findBest_30 : decode c_Srch_findBest 30 = .ok (.invokevirtual 50, 3) := by decide +kernel
theorem d_Srch_findBest_33 : decode c_Srch_findBest 33 = .ok (.return_, 1) := by decide +kernel
theorem d_Srch_branch_0 : decode c_Srch_branch 0 = .ok (.iload_n 2, 1) := by decide +kernel
theorem d_Srch_branch_1 : decode c_Srch_branch 1 = .ok (.ifCond .ne 26, 3) := by decide +kernel
theorem d_Srch_branch_4 : decode c_Srch_branch 4 = .ok (.aload_n 0, 1) := by decide +kernel
theorem d_Srch_branch_5 : decode c_Srch_branch 5 = .ok (.iconst 1, 1) := by decide +kernel
theorem d_Srch_branch_6 : decode c_Srch_branch 6 = .ok (.putfield 22, 3) := by decide +kernel
theorem d_Srch_branch_9 : decode c_Srch_branch 9 = .ok (.aload_n 0, 1) := by decide +kernel
theorem d_Srch_branch_10 : decode c_Srch_branch 10 = .ok (.aload_n 0, 1) := by decide +kernel
theorem d_Srch_branch_11 : decode c_Srch_branch 11 = .ok (.getfield 40, 3) := by decide +kernel
theorem d_Srch_branch_14 : decode c_Srch_branch 14 = .ok (.iload_n 1, 1) := by decide +kernel
theorem d_Srch_branch_15 : decode c_Srch_branch 15 = .ok (.invokevirtual 54, 3) := by decide +kernel
theorem d_Srch_branch_18 : decode c_Srch_branch 18 = .ok (.putfield 28, 3) := by decide +kernel
theorem d_Srch_branch_21 : decode c_Srch_branch 21 = .ok (.aload_n 0, 1) := by decide +kernel
theorem d_Srch_branch_22 : decode c_Srch_branch 22 = .ok (.iload_n 3, 1) := by decide +kernel
theorem d_Srch_branch_23 : decode c_Srch_branch 23 = .ok (.putfield 25, 3) := by decide +kernel
theorem d_Srch_branch_26 : decode c_Srch_branch 26 = .ok (.return_, 1) := by decide +kernel
theorem d_Srch_branch_27 : decode c_Srch_branch 27 = .ok (.iconst 0, 1) := by decide +kernel
theorem d_Srch_branch_28 : decode c_Srch_branch 28 = .ok (.istore 4, 2) := by decide +kernel
theorem d_Srch_branch_30 : decode c_Srch_branch 30 = .ok (.iload 4, 2) := by decide +kernel
theorem d_Srch_branch_32 : decode c_Srch_branch 32 = .ok (.aload_n 0, 1) := by decide +kernel
theorem d_Srch_branch_33 : decode c_Srch_branch 33 = .ok (.getfield 31, 3) := by decide +kernel
theorem d_Srch_branch_36 : decode c_Srch_branch 36 = .ok (.getfield 58, 3) := by decide +kernel
theorem d_Srch_branch_39 : decode c_Srch_branch 39 = .ok (.if_icmp .ge 99, 3) := by decide +kernel
theorem d_Srch_branch_42 : decode c_Srch_branch 42 = .ok (.aload_n 0, 1) := by decide +kernel
theorem d_Srch_branch_43 : decode c_Srch_branch 43 = .ok (.getfield 18, 3) := by decide +kernel
theorem d_Srch_branch_46 : decode c_Srch_branch 46 = .ok (.ifCond .ne 92, 3) := by decide +kernel
theorem d_Srch_branch_49 : decode c_Srch_branch 49 = .ok (.iload_n 2, 1) := by decide +kernel
theorem d_Srch_branch_50 : decode c_Srch_branch 50 = .ok (.iload 4, 2) := by decide +kernel
theorem d_Srch_branch_52 : decode c_Srch_branch 52 = .ok (.ishr, 1) := by decide +kernel
theorem d_Srch_branch_53 : decode c_Srch_branch 53 = .ok (.iconst 1, 1) := by decide +kernel
theorem d_Srch_branch_54 : decode c_Srch_branch 54 = .ok (.iand, 1) := by decide +kernel
theorem d_Srch_branch_55 : decode c_Srch_branch 55 = .ok (.ifCond .ne 6, 3) := by decide +kernel
theorem d_Srch_branch_58 : decode c_Srch_branch 58 = .ok (.goto 74, 3) := by decide +kernel
theorem d_Srch_branch_61 : decode c_Srch_branch 61 = .ok (.iconst 0, 1) := by decide +kernel
theorem d_Srch_branch_62 : decode c_Srch_branch 62 = .ok (.istore 5, 2) := by decide +kernel
theorem d_Srch_branch_64 : decode c_Srch_branch 64 = .ok (.iload 5, 2) := by decide +kernel
theorem d_Srch_branch_66 : decode c_Srch_branch 66 = .ok (.iconst 2, 1) := by decide +kernel
theorem d_Srch_branch_67 : decode c_Srch_branch 67 = .ok (.if_icmp .ge 65, 3) := by decide +kernel
theorem d_Srch_branch_70 : decode c_Srch_branch 70 = .ok (.aload_n 0, 1) := by decide +kernel
theorem d_Srch_branch_71 : decode c_Srch_branch 71 = .ok (.getfield 18, 3) := by decide +kernel
theorem d_Srch_branch_74 : decode c_Srch_branch 74 = .ok (.ifCond .ne 58, 3) := by decide +kernel
theorem d_Srch_branch_77 : decode c_Srch_branch 77 = .ok (.aload_n 0, 1) := by decide +kernel
theorem d_Srch_branch_78 : decode c_Srch_branch 78 = .ok (.getfield 40, 3) := by decide +kernel
theorem d_Srch_branch_81 : decode c_Srch_branch 81 = .ok (.iload_n 1, 1) := by decide +kernel
theorem d_Srch_branch_82 : decode c_Srch_branch 82 = .ok (.iload 4, 2) := by decide +kernel
theorem d_Srch_branch_84 : decode c_Srch_branch 84 = .ok (.iload 5, 2) := by decide +kernel
theorem d_Srch_branch_86 : decode c_Srch_branch 86 = .ok (.invokevirtual 61, 3) := by decide +kernel
theorem d_Srch_branch_89 : decode c_Srch_branch 89 = .ok (.ifCond .eq 37, 3) := by decide +kernel
theorem d_Srch_branch_92 : decode c_Srch_branch 92 = .ok (.aload_n 0, 1) := by decide +kernel
theorem d_Srch_branch_93 : decode c_Srch_branch 93 = .ok (.iload_n 1, 1) := by decide +kernel
theorem d_Srch_branch_94 : decode c_Srch_branch 94 = .ok (.iconst 1, 1) := by decide +kernel
theorem d_Srch_branch_95 : decode c_Srch_branch 95 = .ok (.iadd, 1) := by decide +kernel
theorem d_Srch_branch_96 : decode c_Srch_branch 96 = .ok (.invokevirtual 65, 3) := by decide +kernel
theorem d_Srch_branch_99 : decode c_Srch_branch 99 = .ok (.ifCond .eq 27, 3) := by decide +kernel
theorem d_Srch_branch_102 : decode c_Srch_branch 102 = .ok (.aload_n 0, 1) := by decide +kernel
theorem d_Srch_branch_103 : decode c_Srch_branch 103 = .ok (.iload_n 1, 1) := by decide +kernel
theorem d_Srch_branch_104 : decode c_Srch_branch 104 = .ok (.iconst 1, 1) := by decide +kernel
theorem d_Srch_branch_105 : decode c_Srch_branch 105 = .ok (.iadd, 1) := by decide +kernel
theorem d_Srch_branch_106 : decode c_Srch_branch 106 = .ok (.iload_n 2, 1) := by decide +kernel
theorem d_Srch_branch_107 : decode c_Srch_branch 107 = .ok (.iconst 1, 1) := by decide +kernel
theorem d_Srch_branch_108 : decode c_Srch_branch 108 = .ok (.iload 4, 2) := by decide +kernel
theorem d_Srch_branch_110 : decode c_Srch_branch 110 = .ok (.ishl, 1) := by decide +kernel
theorem d_Srch_branch_111 : decode c_Srch_branch 111 = .ok (.iconst (-1), 1) := by decide +kernel
theorem d_Srch_branch_112 : decode c_Srch_branch 112 = .ok (.ixor, 1) := by decide +kernel
theorem d_Srch_branch_113 : decode c_Srch_branch 113 = .ok (.iand, 1) := by decide +kernel
theorem d_Srch_branch_114 : decode c_Srch_branch 114 = .ok (.iload_n 3, 1) := by decide +kernel
theorem d_Srch_branch_115 : decode c_Srch_branch 115 = .ok (.iload_n 1, 1) := by decide +kernel
theorem d_Srch_branch_116 : decode c_Srch_branch 116 = .ok (.iload 4, 2) := by decide +kernel
theorem d_Srch_branch_118 : decode c_Srch_branch 118 = .ok (.iload 5, 2) := by decide +kernel
theorem d_Srch_branch_120 : decode c_Srch_branch 120 = .ok (.invokestatic 69, 3) := by decide +kernel
theorem d_Srch_branch_123 : decode c_Srch_branch 123 = .ok (.invokevirtual 50, 3) := by decide +kernel
theorem d_Srch_branch_126 : decode c_Srch_branch 126 = .ok (.iinc 5 1, 3) := by decide +kernel
theorem d_Srch_branch_129 : decode c_Srch_branch 129 = .ok (.goto (-65), 3) := by decide +kernel
theorem d_Srch_branch_132 : decode c_Srch_branch 132 = .ok (.iinc 4 1, 3) := by decide +kernel
theorem d_Srch_branch_135 : decode c_Srch_branch 135 = .ok (.goto (-105), 3) := by decide +kernel
theorem d_Srch_branch_138 : decode c_Srch_branch 138 = .ok (.return_, 1) := by decide +kernel
theorem d_Srch_isWorthMore_0 : decode c_Srch_isWorthMore 0 = .ok (.aload_n 0, 1) := by decide +kernel
theorem d_Srch_isWorthMore_1 : decode c_Srch_isWorthMore 1 = .ok (.getfield 15, 3) := by decide +kernel
theorem d_Srch_isWorthMore_4 : decode c_Srch_isWorthMore 4 = .ok (.aload_n 0, 1) := by decide +kernel
theorem d_Srch_isWorthMore_5 : decode c_Srch_isWorthMore 5 = .ok (.getfield 9, 3) := by decide +kernel
theorem d_Srch_isWorthMore_8 : decode c_Srch_isWorthMore 8 = .ok (.if_icmp .lt 10, 3) := by decide +kernel
theorem d_Srch_isWorthMore_11 : decode c_Srch_isWorthMore 11 = .ok (.aload_n 0, 1) := by decide +kernel
theorem d_Srch_isWorthMore_12 : decode c_Srch_isWorthMore 12 = .ok (.iconst 1, 1) := by decide +kernel
theorem d_Srch_isWorthMore_13 : decode c_Srch_isWorthMore 13 = .ok (.putfield 18, 3) := by decide +kernel
theorem d_Srch_isWorthMore_16 : decode c_Srch_isWorthMore 16 = .ok (.iconst 0, 1) := by decide +kernel
theorem d_Srch_isWorthMore_17 : decode c_Srch_isWorthMore 17 = .ok (.ireturn, 1) := by decide +kernel
theorem d_Srch_isWorthMore_18 : decode c_Srch_isWorthMore 18 = .ok (.aload_n 0, 1) := by decide +kernel
theorem d_Srch_isWorthMore_19 : decode c_Srch_isWorthMore 19 = .ok (.dup, 1) := by decide +kernel
theorem d_Srch_isWorthMore_20 : decode c_Srch_isWorthMore 20 = .ok (.getfield 15, 3) := by decide +kernel
theorem d_Srch_isWorthMore_23 : decode c_Srch_isWorthMore 23 = .ok (.iconst 1, 1) := by decide +kernel
theorem d_Srch_isWorthMore_24 : decode c_Srch_isWorthMore 24 = .ok (.iadd, 1) := by decide +kernel
theorem d_Srch_isWorthMore_25 : decode c_Srch_isWorthMore 25 = .ok (.putfield 15, 3) := by decide +kernel
theorem d_Srch_isWorthMore_28 : decode c_Srch_isWorthMore 28 = .ok (.aload_n 0, 1) := by decide +kernel
theorem d_Srch_isWorthMore_29 : decode c_Srch_isWorthMore 29 = .ok (.getfield 22, 3) := by decide +kernel
theorem d_Srch_isWorthMore_32 : decode c_Srch_isWorthMore 32 = .ok (.ifCond .eq 18, 3) := by decide +kernel
theorem d_Srch_isWorthMore_35 : decode c_Srch_isWorthMore 35 = .ok (.aload_n 0, 1) := by decide +kernel
theorem d_Srch_isWorthMore_36 : decode c_Srch_isWorthMore 36 = .ok (.getfield 40, 3) := by decide +kernel
theorem d_Srch_isWorthMore_39 : decode c_Srch_isWorthMore 39 = .ok (.iload_n 1, 1) := by decide +kernel
theorem d_Srch_isWorthMore_40 : decode c_Srch_isWorthMore 40 = .ok (.invokevirtual 54, 3) := by decide +kernel
theorem d_Srch_isWorthMore_43 : decode c_Srch_isWorthMore 43 = .ok (.aload_n 0, 1) := by decide +kernel
theorem d_Srch_isWorthMore_44 : decode c_Srch_isWorthMore 44 = .ok (.getfield 28, 3) := by decide +kernel
theorem d_Srch_isWorthMore_47 : decode c_Srch_isWorthMore 47 = .ok (.if_icmp .ge 7, 3) := by decide +kernel
theorem d_Srch_isWorthMore_50 : decode c_Srch_isWorthMore 50 = .ok (.iconst 1, 1) := by decide +kernel
theorem d_Srch_isWorthMore_51 : decode c_Srch_isWorthMore 51 = .ok (.goto 4, 3) := by decide +kernel
theorem d_Srch_isWorthMore_54 : decode c_Srch_isWorthMore 54 = .ok (.iconst 0, 1) := by decide +kernel
theorem d_Srch_isWorthMore_55 : decode c_Srch_isWorthMore 55 = .ok (.ireturn, 1) := by decide +kernel
theorem d_Srch_hasGoodPlan_0 : decode c_Srch_hasGoodPlan 0 = .ok (.aload_n 0, 1) := by decide +kernel
theorem d_Srch_hasGoodPlan_1 : decode c_Srch_hasGoodPlan 1 = .ok (.iconst 0, 1) := by decide +kernel
theorem d_Srch_hasGoodPlan_2 : decode c_Srch_hasGoodPlan 2 = .ok (.iload_n 1, 1) := by decide +kernel
theorem d_Srch_hasGoodPlan_3 : decode c_Srch_hasGoodPlan 3 = .ok (.invokevirtual 73, 3) := by decide +kernel
theorem d_Srch_hasGoodPlan_6 : decode c_Srch_hasGoodPlan 6 = .ok (.ireturn, 1) := by decide +kernel
theorem d_Srch_canEnd_0 : decode c_Srch_canEnd 0 = .ok (.iload_n 2, 1) := by decide +kernel
theorem d_Srch_canEnd_1 : decode c_Srch_canEnd 1 = .ok (.ifCond .ne 5, 3) := by decide +kernel
theorem d_Srch_canEnd_4 : decode c_Srch_canEnd 4 = .ok (.iconst 1, 1) := by decide +kernel
theorem d_Srch_canEnd_5 : decode c_Srch_canEnd 5 = .ok (.ireturn, 1) := by decide +kernel
theorem d_Srch_canEnd_6 : decode c_Srch_canEnd 6 = .ok (.iconst 0, 1) := by decide +kernel
theorem d_Srch_canEnd_7 : decode c_Srch_canEnd 7 = .ok (.istore_n 3, 1) := by decide +kernel
theorem d_Srch_canEnd_8 : decode c_Srch_canEnd 8 = .ok (.iload_n 3, 1) := by decide +kernel
theorem d_Srch_canEnd_9 : decode c_Srch_canEnd 9 = .ok (.aload_n 0, 1) := by decide +kernel
theorem d_Srch_canEnd_10 : decode c_Srch_canEnd 10 = .ok (.getfield 31, 3) := by decide +kernel
theorem d_Srch_canEnd_13 : decode c_Srch_canEnd 13 = .ok (.getfield 58, 3) := by decide +kernel
theorem d_Srch_canEnd_16 : decode c_Srch_canEnd 16 = .ok (.if_icmp .ge 68, 3) := by decide +kernel
theorem d_Srch_canEnd_19 : decode c_Srch_canEnd 19 = .ok (.iload_n 2, 1) := by decide +kernel
theorem d_Srch_canEnd_20 : decode c_Srch_canEnd 20 = .ok (.iload_n 3, 1) := by decide +kernel
theorem d_Srch_canEnd_21 : decode c_Srch_canEnd 21 = .ok (.ishr, 1) := by decide +kernel
theorem d_Srch_canEnd_22 : decode c_Srch_canEnd 22 = .ok (.iconst 1, 1) := by decide +kernel
theorem d_Srch_canEnd_23 : decode c_Srch_canEnd 23 = .ok (.iand, 1) := by decide +kernel
theorem d_Srch_canEnd_24 : decode c_Srch_canEnd 24 = .ok (.ifCond .ne 6, 3) := by decide +kernel
theorem d_Srch_canEnd_27 : decode c_Srch_canEnd 27 = .ok (.goto 51, 3) := by decide +kernel
theorem d_Srch_canEnd_30 : decode c_Srch_canEnd 30 = .ok (.iconst 0, 1) := by decide +kernel
theorem d_Srch_canEnd_31 : decode c_Srch_canEnd 31 = .ok (.istore 4, 2) := by decide +kernel
theorem d_Srch_canEnd_33 : decode c_Srch_canEnd 33 = .ok (.iload 4, 2) := by decide +kernel
theorem d_Srch_canEnd_35 : decode c_Srch_canEnd 35 = .ok (.iconst 2, 1) := by decide +kernel
theorem d_Srch_canEnd_36 : decode c_Srch_canEnd 36 = .ok (.if_icmp .ge 42, 3) := by decide +kernel
theorem d_Srch_canEnd_39 : decode c_Srch_canEnd 39 = .ok (.aload_n 0, 1) := by decide +kernel
theorem d_Srch_canEnd_40 : decode c_Srch_canEnd 40 = .ok (.getfield 40, 3) := by decide +kernel
theorem d_Srch_canEnd_43 : decode c_Srch_canEnd 43 = .ok (.iload_n 1, 1) := by decide +kernel
theorem d_Srch_canEnd_44 : decode c_Srch_canEnd 44 = .ok (.iload_n 3, 1) := by decide +kernel
theorem d_Srch_canEnd_45 : decode c_Srch_canEnd 45 = .ok (.iload 4, 2) := by decide +kernel
theorem d_Srch_canEnd_47 : decode c_Srch_canEnd 47 = .ok (.invokevirtual 61, 3) := by decide +kernel
theorem d_Srch_canEnd_50 : decode c_Srch_canEnd 50 = .ok (.ifCond .eq 22, 3) := by decide +kernel
theorem d_Srch_canEnd_53 : decode c_Srch_canEnd 53 = .ok (.aload_n 0, 1) := by decide +kernel
theorem d_Srch_canEnd_54 : decode c_Srch_canEnd 54 = .ok (.iload_n 1, 1) := by decide +kernel
theorem d_Srch_canEnd_55 : decode c_Srch_canEnd 55 = .ok (.iconst 1, 1) := by decide +kernel
theorem d_Srch_canEnd_56 : decode c_Srch_canEnd 56 = .ok (.iadd, 1) := by decide +kernel
theorem d_Srch_canEnd_57 : decode c_Srch_canEnd 57 = .ok (.iload_n 2, 1) := by decide +kernel
theorem d_Srch_canEnd_58 : decode c_Srch_canEnd 58 = .ok (.iconst 1, 1) := by decide +kernel
theorem d_Srch_canEnd_59 : decode c_Srch_canEnd 59 = .ok (.iload_n 3, 1) := by decide +kernel
theorem d_Srch_canEnd_60 : decode c_Srch_canEnd 60 = .ok (.ishl, 1) := by decide +kernel
theorem d_Srch_canEnd_61 : decode c_Srch_canEnd 61 = .ok (.iconst (-1), 1) := by decide +kernel
theorem d_Srch_canEnd_62 : decode c_Srch_canEnd 62 = .ok (.ixor, 1) := by decide +kernel
theorem d_Srch_canEnd_63 : decode c_Srch_canEnd 63 = .ok (.iand, 1) := by decide +kernel
theorem d_Srch_canEnd_64 : decode c_Srch_canEnd 64 = .ok (.invokevirtual 73, 3) := by decide +kernel
theorem d_Srch_canEnd_67 : decode c_Srch_canEnd 67 = .ok (.ifCond .eq 5, 3) := by decide +kernel
theorem d_Srch_canEnd_70 : decode c_Srch_canEnd 70 = .ok (.iconst 1, 1) := by decide +kernel
theorem d_Srch_canEnd_71 : decode c_Srch_canEnd 71 = .ok (.ireturn, 1) := by decide +kernel
theorem d_Srch_canEnd_72 : decode c_Srch_canEnd 72 = .ok (.iinc 4 1, 3) := by decide +kernel
theorem d_Srch_canEnd_75 : decode c_Srch_canEnd 75 = .ok (.goto (-42), 3) := by decide +kernel
theorem d_Srch_canEnd_78 : decode c_Srch_canEnd 78 = .ok (.iinc 3 1, 3) := by decide +kernel
theorem d_Srch_canEnd_81 : decode c_Srch_canEnd 81 = .ok (.goto (-73), 3) := by decide +kernel
theorem d_Srch_canEnd_84 : decode c_Srch_canEnd 84 = .ok (.iconst 0, 1) := by decide +kernel
theorem d_Srch_canEnd_85 : decode c_Srch_canEnd 85 = .ok (.ireturn, 1) := by decide +kernel
