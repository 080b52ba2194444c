/-! decode rows of HeatOrder$Shop -/
theorem d_Shop_init_0 : decode c_Shop_init 0 = .ok (.aload_n 0, 1) := by decide +kernel
theorem d_Shop_init_1 : decode c_Shop_init 1 = .ok (.invokespecial 3, 3) := by decide +kernel
theorem d_Shop_init_4 : decode c_Shop_init 4 = .ok (.aload_n 0, 1) := by decide +kernel
theorem d_Shop_init_5 : decode c_Shop_init 5 = .ok (.iconst 0, 1) := by decide +kernel
theorem d_Shop_init_6 : decode c_Shop_init 6 = .ok (.putfield 9, 3) := by decide +kernel
theorem d_Shop_init_9 : decode c_Shop_init 9 = .ok (.aload_n 0, 1) := by decide +kernel
theorem d_Shop_init_10 : decode c_Shop_init 10 = .ok (.bipush 6, 2) := by decide +kernel
theorem d_Shop_init_12 : decode c_Shop_init 12 = .ok (.newarray .int, 2) := by decide +kernel
theorem d_Shop_init_14 : decode c_Shop_init 14 = .ok (.putfield 15, 3) := by decide +kernel
theorem d_Shop_init_17 : decode c_Shop_init 17 = .ok (.aload_n 0, 1) := by decide +kernel
theorem d_Shop_init_18 : decode c_Shop_init 18 = .ok (.bipush 6, 2) := by decide +kernel
theorem d_Shop_init_20 : decode c_Shop_init 20 = .ok (.newarray .int, 2) := by decide +kernel
theorem d_Shop_init_22 : decode c_Shop_init 22 = .ok (.putfield 19, 3) := by decide +kernel
theorem d_Shop_init_25 : decode c_Shop_init 25 = .ok (.aload_n 0, 1) := by decide +kernel
theorem d_Shop_init_26 : decode c_Shop_init 26 = .ok (.bipush 6, 2) := by decide +kernel
theorem d_Shop_init_28 : decode c_Shop_init 28 = .ok (.newarray .int, 2) := by decide +kernel
theorem d_Shop_init_30 : decode c_Shop_init 30 = .ok (.putfield 22, 3) := by decide +kernel
theorem d_Shop_init_33 : decode c_Shop_init 33 = .ok (.aload_n 0, 1) := by decide +kernel
theorem d_Shop_init_34 : decode c_Shop_init 34 = .ok (.bipush 6, 2) := by decide +kernel
theorem d_Shop_init_36 : decode c_Shop_init 36 = .ok (.newarray .int, 2) := by decide +kernel
theorem d_Shop_init_38 : decode c_Shop_init 38 = .ok (.putfield 25, 3) := by decide +kernel
theorem d_Shop_init_41 : decode c_Shop_init 41 = .ok (.aload_n 0, 1) := by decide +kernel
theorem d_Shop_init_42 : decode c_Shop_init 42 = .ok (.bipush 6, 2) := by decide +kernel
theorem d_Shop_init_44 : decode c_Shop_init 44 = .ok (.newarray .int, 2) := by decide +kernel
theorem d_Shop_init_46 : decode c_Shop_init 46 = .ok (.putfield 28, 3) := by decide +kernel
theorem d_Shop_init_49 : decode c_Shop_init 49 = .ok (.aload_n 0, 1) := by decide +kernel
theorem d_Shop_init_50 : decode c_Shop_init 50 = .ok (.bipush 6, 2) := by decide +kernel
theorem d_Shop_init_52 : decode c_Shop_init 52 = .ok (.newarray .int, 2) := by decide +kernel
theorem d_Shop_init_54 : decode c_Shop_init 54 = .ok (.putfield 31, 3) := by decide +kernel
theorem d_Shop_init_57 : decode c_Shop_init 57 = .ok (.aload_n 0, 1) := by decide +kernel
theorem d_Shop_init_58 : decode c_Shop_init 58 = .ok (.bipush 60, 2) := by decide +kernel
theorem d_Shop_init_60 : decode c_Shop_init 60 = .ok (.putfield 34, 3) := by decide +kernel
theorem d_Shop_init_63 : decode c_Shop_init 63 = .ok (.aload_n 0, 1) := by decide +kernel
theorem d_Shop_init_64 : decode c_Shop_init 64 = .ok (.bipush 40, 2) := by decide +kernel
theorem d_Shop_init_66 : decode c_Shop_init 66 = .ok (.putfield 37, 3) := by decide +kernel
theorem d_Shop_init_69 : decode c_Shop_init 69 = .ok (.aload_n 0, 1) := by decide +kernel
theorem d_Shop_init_70 : decode c_Shop_init 70 = .ok (.bipush 10, 2) := by decide +kernel
theorem d_Shop_init_72 : decode c_Shop_init 72 = .ok (.putfield 40, 3) := by decide +kernel
theorem d_Shop_init_75 : decode c_Shop_init 75 = .ok (.aload_n 0, 1) := by decide +kernel
theorem d_Shop_init_76 : decode c_Shop_init 76 = .ok (.iconst 4, 1) := by decide +kernel
theorem d_Shop_init_77 : decode c_Shop_init 77 = .ok (.putfield 43, 3) := by decide +kernel
theorem d_Shop_init_80 : decode c_Shop_init 80 = .ok (.aload_n 0, 1) := by decide +kernel
theorem d_Shop_init_81 : decode c_Shop_init 81 = .ok (.sipush 200, 3) := by decide +kernel
theorem d_Shop_init_84 : decode c_Shop_init 84 = .ok (.putfield 46, 3) := by decide +kernel
theorem d_Shop_init_87 : decode c_Shop_init 87 = .ok (.aload_n 0, 1) := by decide +kernel
theorem d_Shop_init_88 : decode c_Shop_init 88 = .ok (.sipush 500, 3) := by decide +kernel
theorem d_Shop_init_91 : decode c_Shop_init 91 = .ok (.putfield 49, 3) := by decide +kernel
theorem d_Shop_init_94 : decode c_Shop_init 94 = .ok (.aload_n 0, 1) := by decide +kernel
theorem d_Shop_init_95 : decode c_Shop_init 95 = .ok (.iconst 1, 1) := by decide +kernel
theorem d_Shop_init_96 : decode c_Shop_init 96 = .ok (.putfield 52, 3) := by decide +kernel
theorem d_Shop_init_99 : decode c_Shop_init 99 = .ok (.aload_n 0, 1) := by decide +kernel
theorem d_Shop_init_100 : decode c_Shop_init 100 = .ok (.bipush 36, 2) := by decide +kernel
theorem d_Shop_init_102 : decode c_Shop_init 102 = .ok (.newarray .int, 2) := by decide +kernel
theorem d_Shop_init_104 : decode c_Shop_init 104 = .ok (.putfield 55, 3) := by decide +kernel
theorem d_Shop_init_107 : decode c_Shop_init 107 = .ok (.iconst 0, 1) := by decide +kernel
theorem d_Shop_init_108 : decode c_Shop_init 108 = .ok (.istore_n 1, 1) := by decide +kernel
theorem d_Shop_init_109 : decode c_Shop_init 109 = .ok (.iload_n 1, 1) := by decide +kernel
theorem d_Shop_init_110 : decode c_Shop_init 110 = .ok (.bipush 6, 2) := by decide +kernel
theorem d_Shop_init_112 : decode c_Shop_init 112 = .ok (.if_icmp .ge 44, 3) := by decide +kernel
theorem d_Shop_init_115 : decode c_Shop_init 115 = .ok (.iconst 0, 1) := by decide +kernel
theorem d_Shop_init_116 : decode c_Shop_init 116 = .ok (.istore_n 2, 1) := by decide +kernel
theorem d_Shop_init_117 : decode c_Shop_init 117 = .ok (.iload_n 2, 1) := by decide +kernel
theorem d_Shop_init_118 : decode c_Shop_init 118 = .ok (.bipush 6, 2) := by decide +kernel
theorem d_Shop_init_120 : decode c_Shop_init 120 = .ok (.if_icmp .ge 30, 3) := by decide +kernel
theorem d_Shop_init_123 : decode c_Shop_init 123 = .ok (.aload_n 0, 1) := by decide +kernel
theorem d_Shop_init_124 : decode c_Shop_init 124 = .ok (.getfield 55, 3) := by decide +kernel
theorem d_Shop_init_127 : decode c_Shop_init 127 = .ok (.iload_n 1, 1) := by decide +kernel
theorem d_Shop_init_128 : decode c_Shop_init 128 = .ok (.bipush 6, 2) := by decide +kernel
theorem d_Shop_init_130 : decode c_Shop_init 130 = .ok (.imul, 1) := by decide +kernel
theorem d_Shop_init_131 : decode c_Shop_init 131 = .ok (.iload_n 2, 1) := by decide +kernel
theorem d_Shop_init_132 : decode c_Shop_init 132 = .ok (.iadd, 1) := by decide +kernel
theorem d_Shop_init_133 : decode c_Shop_init 133 = .ok (.iload_n 1, 1) := by decide +kernel
theorem d_Shop_init_134 : decode c_Shop_init 134 = .ok (.iload_n 2, 1) := by decide +kernel
theorem d_Shop_init_135 : decode c_Shop_init 135 = .ok (.if_icmp .ne 7, 3) := by decide +kernel
theorem d_Shop_init_138 : decode c_Shop_init 138 = .ok (.iconst 0, 1) := by decide +kernel
theorem d_Shop_init_139 : decode c_Shop_init 139 = .ok (.goto 4, 3) := by decide +kernel
theorem d_Shop_init_142 : decode c_Shop_init 142 = .ok (.iconst (-1), 1) := by decide +kernel
theorem d_Shop_init_143 : decode c_Shop_init 143 = .ok (.iastore, 1) := by decide +kernel
theorem d_Shop_init_144 : decode c_Shop_init 144 = .ok (.iinc 2 1, 3) := by decide +kernel
theorem d_Shop_init_147 : decode c_Shop_init 147 = .ok (.goto (-30), 3) := by decide +kernel
theorem d_Shop_init_150 : decode c_Shop_init 150 = .ok (.iinc 1 1, 3) := by decide +kernel
theorem d_Shop_init_153 : decode c_Shop_init 153 = .ok (.goto (-44), 3) := by decide +kernel
theorem d_Shop_init_156 : decode c_Shop_init 156 = .ok (.return_, 1) := by decide +kernel
theorem d_Shop_add_0 : decode c_Shop_add 0 = .ok (.aload_n 0, 1) := by decide +kernel
theorem d_Shop_add_1 : decode c_Shop_add 1 = .ok (.getfield 9, 3) := by decide +kernel
theorem d_Shop_add_4 : decode c_Shop_add 4 = .ok (.bipush 6, 2) := by decide +kernel
theorem d_Shop_add_6 : decode c_Shop_add 6 = .ok (.if_icmp .lt 5, 3) := by decide +kernel
theorem d_Shop_add_9 : decode c_Shop_add 9 = .ok (.iconst (-1), 1) := by decide +kernel
theorem d_Shop_add_10 : decode c_Shop_add 10 = .ok (.ireturn, 1) := by decide +kernel
theorem d_Shop_add_11 : decode c_Shop_add 11 = .ok (.aload_n 0, 1) := by decide +kernel
theorem d_Shop_add_12 : decode c_Shop_add 12 = .ok (.getfield 15, 3) := by decide +kernel
theorem d_Shop_add_15 : decode c_Shop_add 15 = .ok (.aload_n 0, 1) := by decide +kernel
theorem d_Shop_add_16 : decode c_Shop_add 16 = .ok (.getfield 9, 3) := by decide +kernel
theorem d_Shop_add_19 : decode c_Shop_add 19 = .ok (.iload_n 1, 1) := by decide +kernel
theorem d_Shop_add_20 : decode c_Shop_add 20 = .ok (.iastore, 1) := by decide +kernel
theorem d_Shop_add_21 : decode c_Shop_add 21 = .ok (.aload_n 0, 1) := by decide +kernel
theorem d_Shop_add_22 : decode c_Shop_add 22 = .ok (.getfield 19, 3) := by decide +kernel
theorem d_Shop_add_25 : decode c_Shop_add 25 = .ok (.aload_n 0, 1) := by decide +kernel
theorem d_Shop_add_26 : decode c_Shop_add 26 = .ok (.getfield 9, 3) := by decide +kernel
theorem d_Shop_add_29 : decode c_Shop_add 29 = .ok (.iload_n 2, 1) := by decide +kernel
theorem d_Shop_add_30 : decode c_Shop_add 30 = .ok (.iastore, 1) := by decide +kernel
theorem d_Shop_add_31 : decode c_Shop_add 31 = .ok (.aload_n 0, 1) := by decide +kernel
theorem d_Shop_add_32 : decode c_Shop_add 32 = .ok (.getfield 22, 3) := by decide +kernel
theorem d_Shop_add_35 : decode c_Shop_add 35 = .ok (.aload_n 0, 1) := by decide +kernel
theorem d_Shop_add_36 : decode c_Shop_add 36 = .ok (.getfield 9, 3) := by decide +kernel
theorem d_Shop_add_39 : decode c_Shop_add 39 = .ok (.iload_n 3, 1) := by decide +kernel
theorem d_Shop_add_40 : decode c_Shop_add 40 = .ok (.iastore, 1) := by decide +kernel
theorem d_Shop_add_41 : decode c_Shop_add 41 = .ok (.aload_n 0, 1) := by decide +kernel
theorem d_Shop_add_42 : decode c_Shop_add 42 = .ok (.getfield 25, 3) := by decide +kernel
theorem d_Shop_add_45 : decode c_Shop_add 45 = .ok (.aload_n 0, 1) := by decide +kernel
theorem d_Shop_add_46 : decode c_Shop_add 46 = .ok (.getfield 9, 3) := by decide +kernel
theorem d_Shop_add_49 : decode c_Shop_add 49 = .ok (.iload 4, 2) := by decide +kernel
theorem d_Shop_add_51 : decode c_Shop_add 51 = .ok (.iastore, 1) := by decide +kernel
theorem d_Shop_add_52 : decode c_Shop_add 52 = .ok (.aload_n 0, 1) := by decide +kernel
theorem d_Shop_add_53 : decode c_Shop_add 53 = .ok (.getfield 28, 3) := by decide +kernel
theorem d_Shop_add_56 : decode c_Shop_add 56 = .ok (.aload_n 0, 1) := by decide +kernel
theorem d_Shop_add_57 : decode c_Shop_add 57 = .ok (.getfield 9, 3) := by decide +kernel
theorem d_Shop_add_60 : decode c_Shop_add 60 = .ok (.iload 5, 2) := by decide +kernel
theorem d_Shop_add_62 : decode c_Shop_add 62 = .ok (.iastore, 1) := by decide +kernel
theorem d_Shop_add_63 : decode c_Shop_add 63 = .ok (.aload_n 0, 1) := by decide +kernel
theorem d_Shop_add_64 : decode c_Shop_add 64 = .ok (.getfield 31, 3) := by decide +kernel
theorem d_Shop_add_67 : decode c_Shop_add 67 = .ok (.aload_n 0, 1) := by decide +kernel
theorem d_Shop_add_68 : decode c_Shop_add 68 = .ok (.getfield 9, 3) := by decide +kernel
theorem d_Shop_add_71 : decode c_Shop_add 71 = .ok (.iload 6, 2) := by decide +kernel
theorem d_Shop_add_73 : decode c_Shop_add 73 = .ok (.iastore, 1) := by decide +kernel
theorem d_Shop_add_74 : decode c_Shop_add 74 = .ok (.aload_n 0, 1) := by decide +kernel
theorem d_Shop_add_75 : decode c_Shop_add 75 = .ok (.dup, 1) := by decide +kernel
theorem d_Shop_add_76 : decode c_Shop_add 76 = .ok (.getfield 9, 3) := by decide +kernel
theorem d_Shop_add_79 : decode c_Shop_add 79 = .ok (.iconst 1, 1) := by decide +kernel
theorem d_Shop_add_80 : decode c_Shop_add 80 = .ok (.iadd, 1) := by decide +kernel
theorem d_Shop_add_81 : decode c_Shop_add 81 = .ok (.putfield 9, 3) := by decide +kernel
theorem d_Shop_add_84 : decode c_Shop_add 84 = .ok (.aload_n 0, 1) := by decide +kernel
theorem d_Shop_add_85 : decode c_Shop_add 85 = .ok (.getfield 9, 3) := by decide +kernel
theorem d_Shop_add_88 : decode c_Shop_add 88 = .ok (.iconst 1, 1) := by decide +kernel
theorem d_Shop_add_89 : decode c_Shop_add 89 = .ok (.isub, 1) := by decide +kernel
theorem d_Shop_add_90 : decode c_Shop_add 90 = .ok (.ireturn, 1) := by decide +kernel
theorem d_Shop_allHeats_0 : decode c_Shop_allHeats 0 = .ok (.iconst 1, 1) := by decide +kernel
theorem d_Shop_allHeats_1 : decode c_Shop_allHeats 1 = .ok (.aload_n 0, 1) := by decide +kernel
theorem d_Shop_allHeats_2 : decode c_Shop_allHeats 2 = .ok (.getfield 9, 3) := by decide +kernel
theorem d_Shop_allHeats_5 : decode c_Shop_allHeats 5 = .ok (.ishl, 1) := by decide +kernel
theorem d_Shop_allHeats_6 : decode c_Shop_allHeats 6 = .ok (.iconst 1, 1) := by decide +kernel
theorem d_Shop_allHeats_7 : decode c_Shop_allHeats 7 = .ok (.isub, 1) := by decide +kernel
theorem d_Shop_allHeats_8 : decode c_Shop_allHeats 8 = .ok (.ireturn, 1) := by decide +kernel
theorem d_Shop_mayCast_0 : decode c_Shop_mayCast 0 = .ok (.aload_n 0, 1) := by decide +kernel
theorem d_Shop_mayCast_1 : decode c_Shop_mayCast 1 = .ok (.getfield 31, 3) := by decide +kernel
theorem d_Shop_mayCast_4 : decode c_Shop_mayCast 4 = .ok (.iload_n 1, 1) := by decide +kernel
theorem d_Shop_mayCast_5 : decode c_Shop_mayCast 5 = .ok (.iaload, 1) := by decide +kernel
theorem d_Shop_mayCast_6 : decode c_Shop_mayCast 6 = .ok (.iload_n 2, 1) := by decide +kernel
theorem d_Shop_mayCast_7 : decode c_Shop_mayCast 7 = .ok (.ishr, 1) := by decide +kernel
theorem d_Shop_mayCast_8 : decode c_Shop_mayCast 8 = .ok (.iconst 1, 1) := by decide +kernel
theorem d_Shop_mayCast_9 : decode c_Shop_mayCast 9 = .ok (.iand, 1) := by decide +kernel
theorem d_Shop_mayCast_10 : decode c_Shop_mayCast 10 = .ok (.iconst 1, 1) := by decide +kernel
theorem d_Shop_mayCast_11 : decode c_Shop_mayCast 11 = .ok (.if_icmp .ne 7, 3) := by decide +kernel
theorem d_Shop_mayCast_14 : decode c_Shop_mayCast 14 = .ok (.iconst 1, 1) := by decide +kernel
theorem d_Shop_mayCast_15 : decode c_Shop_mayCast 15 = .ok (.goto 4, 3) := by decide +kernel
theorem d_Shop_mayCast_18 : decode c_Shop_mayCast 18 = .ok (.iconst 0, 1) := by decide +kernel
theorem d_Shop_mayCast_19 : decode c_Shop_mayCast 19 = .ok (.ireturn, 1) := by decide +kernel
theorem d_Shop_moveBetween_0 : decode c_Shop_moveBetween 0 = .ok (.aload_n 0, 1) := by decide +kernel
theorem d_Shop_moveBetween_1 : decode c_Shop_moveBetween 1 = .ok (.getfield 55, 3) := by decide +kernel
theorem d_Shop_moveBetween_4 : decode c_Shop_moveBetween 4 = .ok (.aload_n 0, 1) := by decide +kernel
theorem d_Shop_moveBetween_5 : decode c_Shop_moveBetween 5 = .ok (.getfield 15, 3) := by decide +kernel
theorem d_Shop_moveBetween_8 : decode c_Shop_moveBetween 8 = .ok (.iload_n 1, 1) := by decide +kernel
theorem d_Shop_moveBetween_9 : decode c_Shop_moveBetween 9 = .ok (.iaload, 1) := by decide +kernel
theorem d_Shop_moveBetween_10 : decode c_Shop_moveBetween 10 = .ok (.bipush 6, 2) := by decide +kernel
theorem d_Shop_moveBetween_12 : decode c_Shop_moveBetween 12 = .ok (.imul, 1) := by decide +kernel
theorem d_Shop_moveBetween_13 : decode c_Shop_moveBetween 13 = .ok (.aload_n 0, 1) := by decide +kernel
theorem d_Shop_moveBetween_14 : decode c_Shop_moveBetween 14 = .ok (.getfield 15, 3) := by decide +kernel
theorem d_Shop_moveBetween_17 : decode c_Shop_moveBetween 17 = .ok (.iload_n 2, 1) := by decide +kernel
theorem d_Shop_moveBetween_18 : decode c_Shop_moveBetween 18 = .ok (.iaload, 1) := by decide +kernel
theorem d_Shop_moveBetween_19 : decode c_Shop_moveBetween 19 = .ok (.iadd, 1) := by decide +kernel
theorem d_Shop_moveBetween_20 : decode c_Shop_moveBetween 20 = .ok (.iaload, 1) := by decide +kernel
theorem d_Shop_moveBetween_21 : decode c_Shop_moveBetween 21 = .ok (.ireturn, 1) := by decide +kernel
theorem d_Shop_lateMinutes_0 : decode c_Shop_lateMinutes 0 = .ok (.iconst 0, 1) := by decide +kernel
theorem d_Shop_lateMinutes_1 : decode c_Shop_lateMinutes 1 = .ok (.iload_n 2, 1) := by decide +kernel
theorem d_Shop_lateMinutes_2 : decode c_Shop_lateMinutes 2 = .ok (.aload_n 0, 1) := by decide +kernel
theorem d_Shop_lateMinutes_3 : decode c_Shop_lateMinutes 3 = .ok (.getfield 28, 3) := by decide +kernel
theorem d_Shop_lateMinutes_6 : decode c_Shop_lateMinutes 6 = .ok (.iload_n 1, 1) := by decide +kernel
theorem d_Shop_lateMinutes_7 : decode c_Shop_lateMinutes 7 = .ok (.iaload, 1) := by decide +kernel
theorem d_Shop_lateMinutes_8 : decode c_Shop_lateMinutes 8 = .ok (.isub, 1) := by decide +kernel
theorem d_Shop_lateMinutes_9 : decode c_Shop_lateMinutes 9 = .ok (.invokestatic 58, 3) := by decide +kernel
theorem d_Shop_lateMinutes_12 : decode c_Shop_lateMinutes 12 = .ok (.ireturn, 1) := by decide +kernel
