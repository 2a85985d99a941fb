/-! ===== decode rows of StepHeapModel ===== -/
theorem d_R_init_0 : decode b_R_init 0 = .ok (.aload_n 0, 1) := by decide +kernel
theorem d_R_init_1 : decode b_R_init 1 = .ok (.invokespecial 1, 3) := by decide +kernel
theorem d_R_init_4 : decode b_R_init 4 = .ok (.aload_n 0, 1) := by decide +kernel
theorem d_R_init_5 : decode b_R_init 5 = .ok (.ldc 9, 2) := by decide +kernel
theorem d_R_init_7 : decode b_R_init 7 = .ok (.newarray .byte, 2) := by decide +kernel
theorem d_R_init_9 : decode b_R_init 9 = .ok (.putfield 10, 3) := by decide +kernel
theorem d_R_init_12 : decode b_R_init 12 = .ok (.aload_n 0, 1) := by decide +kernel
theorem d_R_init_13 : decode b_R_init 13 = .ok (.ldc 9, 2) := by decide +kernel
theorem d_R_init_15 : decode b_R_init 15 = .ok (.newarray .byte, 2) := by decide +kernel
theorem d_R_init_17 : decode b_R_init 17 = .ok (.putfield 14, 3) := by decide +kernel
theorem d_R_init_20 : decode b_R_init 20 = .ok (.aload_n 0, 1) := by decide +kernel
theorem d_R_init_21 : decode b_R_init 21 = .ok (.ldc 9, 2) := by decide +kernel
theorem d_R_init_23 : decode b_R_init 23 = .ok (.newarray .byte, 2) := by decide +kernel
theorem d_R_init_25 : decode b_R_init 25 = .ok (.putfield 17, 3) := by decide +kernel
theorem d_R_init_28 : decode b_R_init 28 = .ok (.aload_n 0, 1) := by decide +kernel
theorem d_R_init_29 : decode b_R_init 29 = .ok (.ldc 9, 2) := by decide +kernel
theorem d_R_init_31 : decode b_R_init 31 = .ok (.newarray .short, 2) := by decide +kernel
theorem d_R_init_33 : decode b_R_init 33 = .ok (.putfield 20, 3) := by decide +kernel
theorem d_R_init_36 : decode b_R_init 36 = .ok (.aload_n 0, 1) := by decide +kernel
theorem d_R_init_37 : decode b_R_init 37 = .ok (.ldc 9, 2) := by decide +kernel
theorem d_R_init_39 : decode b_R_init 39 = .ok (.newarray .boolean, 2) := by decide +kernel
theorem d_R_init_41 : decode b_R_init 41 = .ok (.putfield 24, 3) := by decide +kernel
theorem d_R_init_44 : decode b_R_init 44 = .ok (.aload_n 0, 1) := by decide +kernel
theorem d_R_init_45 : decode b_R_init 45 = .ok (.ldc 28, 2) := by decide +kernel
theorem d_R_init_47 : decode b_R_init 47 = .ok (.newarray .int, 2) := by decide +kernel
theorem d_R_init_49 : decode b_R_init 49 = .ok (.putfield 29, 3) := by decide +kernel
theorem d_R_init_52 : decode b_R_init 52 = .ok (.aload_n 0, 1) := by decide +kernel
theorem d_R_init_53 : decode b_R_init 53 = .ok (.ldc 9, 2) := by decide +kernel
theorem d_R_init_55 : decode b_R_init 55 = .ok (.newarray .int, 2) := by decide +kernel
theorem d_R_init_57 : decode b_R_init 57 = .ok (.putfield 33, 3) := by decide +kernel
theorem d_R_init_60 : decode b_R_init 60 = .ok (.aload_n 0, 1) := by decide +kernel
theorem d_R_init_61 : decode b_R_init 61 = .ok (.bipush 8, 2) := by decide +kernel
theorem d_R_init_63 : decode b_R_init 63 = .ok (.newarray .int, 2) := by decide +kernel
theorem d_R_init_65 : decode b_R_init 65 = .ok (.putfield 36, 3) := by decide +kernel
theorem d_R_init_68 : decode b_R_init 68 = .ok (.aload_n 0, 1) := by decide +kernel
theorem d_R_init_69 : decode b_R_init 69 = .ok (.ldc 9, 2) := by decide +kernel
theorem d_R_init_71 : decode b_R_init 71 = .ok (.newarray .boolean, 2) := by decide +kernel
theorem d_R_init_73 : decode b_R_init 73 = .ok (.putfield 39, 3) := by decide +kernel
theorem d_R_init_76 : decode b_R_init 76 = .ok (.aload_n 0, 1) := by decide +kernel
theorem d_R_init_77 : decode b_R_init 77 = .ok (.ldc 9, 2) := by decide +kernel
theorem d_R_init_79 : decode b_R_init 79 = .ok (.newarray .int, 2) := by decide +kernel
theorem d_R_init_81 : decode b_R_init 81 = .ok (.putfield 42, 3) := by decide +kernel
theorem d_R_init_84 : decode b_R_init 84 = .ok (.iload_n 1, 1) := by decide +kernel
theorem d_R_init_85 : decode b_R_init 85 = .ok (.sipush 1024, 3) := by decide +kernel
theorem d_R_init_88 : decode b_R_init 88 = .ok (.if_icmp .ge 9, 3) := by decide +kernel
theorem d_R_init_91 : decode b_R_init 91 = .ok (.sipush 1024, 3) := by decide +kernel
theorem d_R_init_94 : decode b_R_init 94 = .ok (.goto 15, 3) := by decide +kernel
theorem d_R_init_97 : decode b_R_init 97 = .ok (.iload_n 1, 1) := by decide +kernel
theorem d_R_init_98 : decode b_R_init 98 = .ok (.ldc 45, 2) := by decide +kernel
theorem d_R_init_100 : decode b_R_init 100 = .ok (.if_icmp .le 8, 3) := by decide +kernel
theorem d_R_init_103 : decode b_R_init 103 = .ok (.ldc 45, 2) := by decide +kernel
theorem d_R_init_105 : decode b_R_init 105 = .ok (.goto 4, 3) := by decide +kernel
theorem d_R_init_108 : decode b_R_init 108 = .ok (.iload_n 1, 1) := by decide +kernel
theorem d_R_init_109 : decode b_R_init 109 = .ok (.istore_n 3, 1) := by decide +kernel
theorem d_R_init_110 : decode b_R_init 110 = .ok (.aload_n 0, 1) := by decide +kernel
theorem d_R_init_111 : decode b_R_init 111 = .ok (.iload_n 2, 1) := by decide +kernel
theorem d_R_init_112 : decode b_R_init 112 = .ok (.iconst 1, 1) := by decide +kernel
theorem d_R_init_113 : decode b_R_init 113 = .ok (.if_icmp .ge 7, 3) := by decide +kernel
theorem d_R_init_116 : decode b_R_init 116 = .ok (.iconst 1, 1) := by decide +kernel
theorem d_R_init_117 : decode b_R_init 117 = .ok (.goto 15, 3) := by decide +kernel
theorem d_R_init_120 : decode b_R_init 120 = .ok (.iload_n 2, 1) := by decide +kernel
theorem d_R_init_121 : decode b_R_init 121 = .ok (.bipush 64, 2) := by decide +kernel
theorem d_R_init_123 : decode b_R_init 123 = .ok (.if_icmp .le 8, 3) := by decide +kernel
theorem d_R_init_126 : decode b_R_init 126 = .ok (.bipush 64, 2) := by decide +kernel
theorem d_R_init_128 : decode b_R_init 128 = .ok (.goto 4, 3) := by decide +kernel
theorem d_R_init_131 : decode b_R_init 131 = .ok (.iload_n 2, 1) := by decide +kernel
theorem d_R_init_132 : decode b_R_init 132 = .ok (.putfield 46, 3) := by decide +kernel
theorem d_R_init_135 : decode b_R_init 135 = .ok (.aload_n 0, 1) := by decide +kernel
theorem d_R_init_136 : decode b_R_init 136 = .ok (.iload_n 3, 1) := by decide +kernel
theorem d_R_init_137 : decode b_R_init 137 = .ok (.aload_n 0, 1) := by decide +kernel
theorem d_R_init_138 : decode b_R_init 138 = .ok (.getfield 46, 3) := by decide +kernel
theorem d_R_init_141 : decode b_R_init 141 = .ok (.imul, 1) := by decide +kernel
theorem d_R_init_142 : decode b_R_init 142 = .ok (.aload_n 0, 1) := by decide +kernel
theorem d_R_init_143 : decode b_R_init 143 = .ok (.getfield 46, 3) := by decide +kernel
theorem d_R_init_146 : decode b_R_init 146 = .ok (.iconst 1, 1) := by decide +kernel
theorem d_R_init_147 : decode b_R_init 147 = .ok (.iadd, 1) := by decide +kernel
theorem d_R_init_148 : decode b_R_init 148 = .ok (.idiv, 1) := by decide +kernel
theorem d_R_init_149 : decode b_R_init 149 = .ok (.putfield 50, 3) := by decide +kernel
theorem d_R_init_152 : decode b_R_init 152 = .ok (.return_, 1) := by decide +kernel
theorem d_R_isRegister_0 : decode b_R_isRegister 0 = .ok (.iload_n 0, 1) := by decide +kernel
theorem d_R_isRegister_1 : decode b_R_isRegister 1 = .ok (.ifCond .lt 13, 3) := by decide +kernel
theorem d_R_isRegister_4 : decode b_R_isRegister 4 = .ok (.iload_n 0, 1) := by decide +kernel
theorem d_R_isRegister_5 : decode b_R_isRegister 5 = .ok (.bipush 8, 2) := by decide +kernel
theorem d_R_isRegister_7 : decode b_R_isRegister 7 = .ok (.if_icmp .ge 7, 3) := by decide +kernel
theorem d_R_isRegister_10 : decode b_R_isRegister 10 = .ok (.iconst 1, 1) := by decide +kernel
theorem d_R_isRegister_11 : decode b_R_isRegister 11 = .ok (.goto 4, 3) := by decide +kernel
theorem d_R_isRegister_14 : decode b_R_isRegister 14 = .ok (.iconst 0, 1) := by decide +kernel
theorem d_R_isRegister_15 : decode b_R_isRegister 15 = .ok (.ireturn, 1) := by decide +kernel
theorem d_R_cells_0 : decode b_R_cells 0 = .ok (.aload_n 0, 1) := by decide +kernel
theorem d_R_cells_1 : decode b_R_cells 1 = .ok (.getfield 10, 3) := by decide +kernel
theorem d_R_cells_4 : decode b_R_cells 4 = .ok (.iload_n 1, 1) := by decide +kernel
theorem d_R_cells_5 : decode b_R_cells 5 = .ok (.baload, 1) := by decide +kernel
theorem d_R_cells_6 : decode b_R_cells 6 = .ok (.iconst 1, 1) := by decide +kernel
theorem d_R_cells_7 : decode b_R_cells 7 = .ok (.if_icmp .ne 21, 3) := by decide +kernel
theorem d_R_cells_10 : decode b_R_cells 10 = .ok (.iconst 1, 1) := by decide +kernel
theorem d_R_cells_11 : decode b_R_cells 11 = .ok (.aload_n 0, 1) := by decide +kernel
theorem d_R_cells_12 : decode b_R_cells 12 = .ok (.getfield 14, 3) := by decide +kernel
theorem d_R_cells_15 : decode b_R_cells 15 = .ok (.iload_n 1, 1) := by decide +kernel
theorem d_R_cells_16 : decode b_R_cells 16 = .ok (.baload, 1) := by decide +kernel
theorem d_R_cells_17 : decode b_R_cells 17 = .ok (.iadd, 1) := by decide +kernel
theorem d_R_cells_18 : decode b_R_cells 18 = .ok (.aload_n 0, 1) := by decide +kernel
theorem d_R_cells_19 : decode b_R_cells 19 = .ok (.getfield 17, 3) := by decide +kernel
theorem d_R_cells_22 : decode b_R_cells 22 = .ok (.iload_n 1, 1) := by decide +kernel
theorem d_R_cells_23 : decode b_R_cells 23 = .ok (.baload, 1) := by decide +kernel
theorem d_R_cells_24 : decode b_R_cells 24 = .ok (.iadd, 1) := by decide +kernel
theorem d_R_cells_25 : decode b_R_cells 25 = .ok (.goto 5, 3) := by decide +kernel
theorem d_R_cells_28 : decode b_R_cells 28 = .ok (.bipush 16, 2) := by decide +kernel
theorem d_R_cells_30 : decode b_R_cells 30 = .ok (.ireturn, 1) := by decide +kernel
theorem d_R_reach_0 : decode b_R_reach 0 = .ok (.iload_n 1, 1) := by decide +kernel
theorem d_R_reach_1 : decode b_R_reach 1 = .ok (.ifCond .eq 45, 3) := by decide +kernel
theorem d_R_reach_4 : decode b_R_reach 4 = .ok (.aload_n 0, 1) := by decide +kernel
theorem d_R_reach_5 : decode b_R_reach 5 = .ok (.getfield 39, 3) := by decide +kernel
theorem d_R_reach_8 : decode b_R_reach 8 = .ok (.iload_n 1, 1) := by decide +kernel
theorem d_R_reach_9 : decode b_R_reach 9 = .ok (.iconst 1, 1) := by decide +kernel
theorem d_R_reach_10 : decode b_R_reach 10 = .ok (.isub, 1) := by decide +kernel
theorem d_R_reach_11 : decode b_R_reach 11 = .ok (.baload, 1) := by decide +kernel
theorem d_R_reach_12 : decode b_R_reach 12 = .ok (.ifCond .ne 34, 3) := by decide +kernel
theorem d_R_reach_15 : decode b_R_reach 15 = .ok (.aload_n 0, 1) := by decide +kernel
theorem d_R_reach_16 : decode b_R_reach 16 = .ok (.getfield 39, 3) := by decide +kernel
theorem d_R_reach_19 : decode b_R_reach 19 = .ok (.iload_n 1, 1) := by decide +kernel
theorem d_R_reach_20 : decode b_R_reach 20 = .ok (.iconst 1, 1) := by decide +kernel
theorem d_R_reach_21 : decode b_R_reach 21 = .ok (.isub, 1) := by decide +kernel
theorem d_R_reach_22 : decode b_R_reach 22 = .ok (.iconst 1, 1) := by decide +kernel
theorem d_R_reach_23 : decode b_R_reach 23 = .ok (.bastore, 1) := by decide +kernel
theorem d_R_reach_24 : decode b_R_reach 24 = .ok (.aload_n 0, 1) := by decide +kernel
theorem d_R_reach_25 : decode b_R_reach 25 = .ok (.getfield 42, 3) := by decide +kernel
theorem d_R_reach_28 : decode b_R_reach 28 = .ok (.aload_n 0, 1) := by decide +kernel
theorem d_R_reach_29 : decode b_R_reach 29 = .ok (.getfield 53, 3) := by decide +kernel
theorem d_R_reach_32 : decode b_R_reach 32 = .ok (.iload_n 1, 1) := by decide +kernel
theorem d_R_reach_33 : decode b_R_reach 33 = .ok (.iconst 1, 1) := by decide +kernel
theorem d_R_reach_34 : decode b_R_reach 34 = .ok (.isub, 1) := by decide +kernel
theorem d_R_reach_35 : decode b_R_reach 35 = .ok (.iastore, 1) := by decide +kernel
theorem d_R_reach_36 : decode b_R_reach 36 = .ok (.aload_n 0, 1) := by decide +kernel
theorem d_R_reach_37 : decode b_R_reach 37 = .ok (.dup, 1) := by decide +kernel
theorem d_R_reach_38 : decode b_R_reach 38 = .ok (.getfield 53, 3) := by decide +kernel
theorem d_R_reach_41 : decode b_R_reach 41 = .ok (.iconst 1, 1) := by decide +kernel
theorem d_R_reach_42 : decode b_R_reach 42 = .ok (.iadd, 1) := by decide +kernel
theorem d_R_reach_43 : decode b_R_reach 43 = .ok (.putfield 53, 3) := by decide +kernel
theorem d_R_reach_46 : decode b_R_reach 46 = .ok (.return_, 1) := by decide +kernel
theorem d_R_goOver_0 : decode b_R_goOver 0 = .ok (.aload_n 0, 1) := by decide +kernel
theorem d_R_goOver_1 : decode b_R_goOver 1 = .ok (.iconst 0, 1) := by decide +kernel
theorem d_R_goOver_2 : decode b_R_goOver 2 = .ok (.putfield 53, 3) := by decide +kernel
theorem d_R_goOver_5 : decode b_R_goOver 5 = .ok (.iconst 0, 1) := by decide +kernel
theorem d_R_goOver_6 : decode b_R_goOver 6 = .ok (.istore_n 1, 1) := by decide +kernel
theorem d_R_goOver_7 : decode b_R_goOver 7 = .ok (.iload_n 1, 1) := by decide +kernel
theorem d_R_goOver_8 : decode b_R_goOver 8 = .ok (.bipush 8, 2) := by decide +kernel
theorem d_R_goOver_10 : decode b_R_goOver 10 = .ok (.if_icmp .ge 19, 3) := by decide +kernel
theorem d_R_goOver_13 : decode b_R_goOver 13 = .ok (.aload_n 0, 1) := by decide +kernel
theorem d_R_goOver_14 : decode b_R_goOver 14 = .ok (.aload_n 0, 1) := by decide +kernel
theorem d_R_goOver_15 : decode b_R_goOver 15 = .ok (.getfield 36, 3) := by decide +kernel
theorem d_R_goOver_18 : decode b_R_goOver 18 = .ok (.iload_n 1, 1) := by decide +kernel
theorem d_R_goOver_19 : decode b_R_goOver 19 = .ok (.iaload, 1) := by decide +kernel
theorem d_R_goOver_20 : decode b_R_goOver 20 = .ok (.invokevirtual 56, 3) := by decide +kernel
theorem d_R_goOver_23 : decode b_R_goOver 23 = .ok (.iinc 1 1, 3) := by decide +kernel
theorem d_R_goOver_26 : decode b_R_goOver 26 = .ok (.goto (-19), 3) := by decide +kernel
theorem d_R_goOver_29 : decode b_R_goOver 29 = .ok (.iconst 0, 1) := by decide +kernel
theorem d_R_goOver_30 : decode b_R_goOver 30 = .ok (.istore_n 1, 1) := by decide +kernel
theorem d_R_goOver_31 : decode b_R_goOver 31 = .ok (.iconst 0, 1) := by decide +kernel
theorem d_R_goOver_32 : decode b_R_goOver 32 = .ok (.istore_n 2, 1) := by decide +kernel
theorem d_R_goOver_33 : decode b_R_goOver 33 = .ok (.iload_n 2, 1) := by decide +kernel
theorem d_R_goOver_34 : decode b_R_goOver 34 = .ok (.aload_n 0, 1) := by decide +kernel
theorem d_R_goOver_35 : decode b_R_goOver 35 = .ok (.getfield 53, 3) := by decide +kernel
theorem d_R_goOver_38 : decode b_R_goOver 38 = .ok (.if_icmp .ge 60, 3) := by decide +kernel
theorem d_R_goOver_41 : decode b_R_goOver 41 = .ok (.aload_n 0, 1) := by decide +kernel
theorem d_R_goOver_42 : decode b_R_goOver 42 = .ok (.getfield 42, 3) := by decide +kernel
theorem d_R_goOver_45 : decode b_R_goOver 45 = .ok (.iload_n 2, 1) := by decide +kernel
theorem d_R_goOver_46 : decode b_R_goOver 46 = .ok (.iaload, 1) := by decide +kernel
theorem d_R_goOver_47 : decode b_R_goOver 47 = .ok (.istore_n 3, 1) := by decide +kernel
theorem d_R_goOver_48 : decode b_R_goOver 48 = .ok (.iload_n 1, 1) := by decide +kernel
theorem d_R_goOver_49 : decode b_R_goOver 49 = .ok (.aload_n 0, 1) := by decide +kernel
theorem d_R_goOver_50 : decode b_R_goOver 50 = .ok (.iload_n 3, 1) := by decide +kernel
theorem d_R_goOver_51 : decode b_R_goOver 51 = .ok (.invokevirtual 60, 3) := by decide +kernel
theorem d_R_goOver_54 : decode b_R_goOver 54 = .ok (.iadd, 1) := by decide +kernel
theorem d_R_goOver_55 : decode b_R_goOver 55 = .ok (.istore_n 1, 1) := by decide +kernel
theorem d_R_goOver_56 : decode b_R_goOver 56 = .ok (.iconst 0, 1) := by decide +kernel
theorem d_R_goOver_57 : decode b_R_goOver 57 = .ok (.istore 4, 2) := by decide +kernel
theorem d_R_goOver_59 : decode b_R_goOver 59 = .ok (.iload 4, 2) := by decide +kernel
theorem d_R_goOver_61 : decode b_R_goOver 61 = .ok (.aload_n 0, 1) := by decide +kernel
theorem d_R_goOver_62 : decode b_R_goOver 62 = .ok (.getfield 14, 3) := by decide +kernel
theorem d_R_goOver_65 : decode b_R_goOver 65 = .ok (.iload_n 3, 1) := by decide +kernel
theorem d_R_goOver_66 : decode b_R_goOver 66 = .ok (.baload, 1) := by decide +kernel
theorem d_R_goOver_67 : decode b_R_goOver 67 = .ok (.if_icmp .ge 25, 3) := by decide +kernel
theorem d_R_goOver_70 : decode b_R_goOver 70 = .ok (.aload_n 0, 1) := by decide +kernel
theorem d_R_goOver_71 : decode b_R_goOver 71 = .ok (.aload_n 0, 1) := by decide +kernel
theorem d_R_goOver_72 : decode b_R_goOver 72 = .ok (.getfield 29, 3) := by decide +kernel
theorem d_R_goOver_75 : decode b_R_goOver 75 = .ok (.iload_n 3, 1) := by decide +kernel
theorem d_R_goOver_76 : decode b_R_goOver 76 = .ok (.bipush 16, 2) := by decide +kernel
theorem d_R_goOver_78 : decode b_R_goOver 78 = .ok (.imul, 1) := by decide +kernel
theorem d_R_goOver_79 : decode b_R_goOver 79 = .ok (.iload 4, 2) := by decide +kernel
theorem d_R_goOver_81 : decode b_R_goOver 81 = .ok (.iadd, 1) := by decide +kernel
theorem d_R_goOver_82 : decode b_R_goOver 82 = .ok (.iaload, 1) := by decide +kernel
theorem d_R_goOver_83 : decode b_R_goOver 83 = .ok (.invokevirtual 56, 3) := by decide +kernel
theorem d_R_goOver_86 : decode b_R_goOver 86 = .ok (.iinc 4 1, 3) := by decide +kernel
theorem d_R_goOver_89 : decode b_R_goOver 89 = .ok (.goto (-30), 3) := by decide +kernel
theorem d_R_goOver_92 : decode b_R_goOver 92 = .ok (.iinc 2 1, 3) := by decide +kernel
theorem d_R_goOver_95 : decode b_R_goOver 95 = .ok (.goto (-62), 3) := by decide +kernel
theorem d_R_goOver_98 : decode b_R_goOver 98 = .ok (.iconst 0, 1) := by decide +kernel
theorem d_R_goOver_99 : decode b_R_goOver 99 = .ok (.istore_n 2, 1) := by decide +kernel
theorem d_R_goOver_100 : decode b_R_goOver 100 = .ok (.iload_n 2, 1) := by decide +kernel
theorem d_R_goOver_101 : decode b_R_goOver 101 = .ok (.aload_n 0, 1) := by decide +kernel
theorem d_R_goOver_102 : decode b_R_goOver 102 = .ok (.getfield 64, 3) := by decide +kernel
theorem d_R_goOver_105 : decode b_R_goOver 105 = .ok (.if_icmp .ge 61, 3) := by decide +kernel
theorem d_R_goOver_108 : decode b_R_goOver 108 = .ok (.aload_n 0, 1) := by decide +kernel
theorem d_R_goOver_109 : decode b_R_goOver 109 = .ok (.getfield 39, 3) := by decide +kernel
theorem d_R_goOver_112 : decode b_R_goOver 112 = .ok (.iload_n 2, 1) := by decide +kernel
theorem d_R_goOver_113 : decode b_R_goOver 113 = .ok (.baload, 1) := by decide +kernel
theorem d_R_goOver_114 : decode b_R_goOver 114 = .ok (.ifCond .ne 39, 3) := by decide +kernel
theorem d_R_goOver_117 : decode b_R_goOver 117 = .ok (.aload_n 0, 1) := by decide +kernel
theorem d_R_goOver_118 : decode b_R_goOver 118 = .ok (.getfield 10, 3) := by decide +kernel
theorem d_R_goOver_121 : decode b_R_goOver 121 = .ok (.iload_n 2, 1) := by decide +kernel
theorem d_R_goOver_122 : decode b_R_goOver 122 = .ok (.baload, 1) := by decide +kernel
theorem d_R_goOver_123 : decode b_R_goOver 123 = .ok (.ifCond .eq 30, 3) := by decide +kernel
theorem d_R_goOver_126 : decode b_R_goOver 126 = .ok (.aload_n 0, 1) := by decide +kernel
theorem d_R_goOver_127 : decode b_R_goOver 127 = .ok (.getfield 10, 3) := by decide +kernel
theorem d_R_goOver_130 : decode b_R_goOver 130 = .ok (.iload_n 2, 1) := by decide +kernel
theorem d_R_goOver_131 : decode b_R_goOver 131 = .ok (.iconst 0, 1) := by decide +kernel
theorem d_R_goOver_132 : decode b_R_goOver 132 = .ok (.bastore, 1) := by decide +kernel
theorem d_R_goOver_133 : decode b_R_goOver 133 = .ok (.aload_n 0, 1) := by decide +kernel
theorem d_R_goOver_134 : decode b_R_goOver 134 = .ok (.getfield 33, 3) := by decide +kernel
theorem d_R_goOver_137 : decode b_R_goOver 137 = .ok (.aload_n 0, 1) := by decide +kernel
theorem d_R_goOver_138 : decode b_R_goOver 138 = .ok (.getfield 67, 3) := by decide +kernel
theorem d_R_goOver_141 : decode b_R_goOver 141 = .ok (.iload_n 2, 1) := by decide +kernel
theorem d_R_goOver_142 : decode b_R_goOver 142 = .ok (.iastore, 1) := by decide +kernel
theorem d_R_goOver_143 : decode b_R_goOver 143 = .ok (.aload_n 0, 1) := by decide +kernel
theorem d_R_goOver_144 : decode b_R_goOver 144 = .ok (.dup, 1) := by decide +kernel
theorem d_R_goOver_145 : decode b_R_goOver 145 = .ok (.getfield 67, 3) := by decide +kernel
theorem d_R_goOver_148 : decode b_R_goOver 148 = .ok (.iconst 1, 1) := by decide +kernel
theorem d_R_goOver_149 : decode b_R_goOver 149 = .ok (.iadd, 1) := by decide +kernel
theorem d_R_goOver_150 : decode b_R_goOver 150 = .ok (.putfield 67, 3) := by decide +kernel
theorem d_R_goOver_153 : decode b_R_goOver 153 = .ok (.aload_n 0, 1) := by decide +kernel
theorem d_R_goOver_154 : decode b_R_goOver 154 = .ok (.getfield 39, 3) := by decide +kernel
theorem d_R_goOver_157 : decode b_R_goOver 157 = .ok (.iload_n 2, 1) := by decide +kernel
theorem d_R_goOver_158 : decode b_R_goOver 158 = .ok (.iconst 0, 1) := by decide +kernel
theorem d_R_goOver_159 : decode b_R_goOver 159 = .ok (.bastore, 1) := by decide +kernel
theorem d_R_goOver_160 : decode b_R_goOver 160 = .ok (.iinc 2 1, 3) := by decide +kernel
theorem d_R_goOver_163 : decode b_R_goOver 163 = .ok (.goto (-63), 3) := by decide +kernel
theorem d_R_goOver_166 : decode b_R_goOver 166 = .ok (.iload_n 1, 1) := by decide +kernel
theorem d_R_goOver_167 : decode b_R_goOver 167 = .ok (.ireturn, 1) := by decide +kernel
theorem d_R_isDone_0 : decode b_R_isDone 0 = .ok (.aload_n 0, 1) := by decide +kernel
theorem d_R_isDone_1 : decode b_R_isDone 1 = .ok (.getfield 46, 3) := by decide +kernel
theorem d_R_isDone_4 : decode b_R_isDone 4 = .ok (.i2l, 1) := by decide +kernel
theorem d_R_isDone_5 : decode b_R_isDone 5 = .ok (.aload_n 0, 1) := by decide +kernel
theorem d_R_isDone_6 : decode b_R_isDone 6 = .ok (.getfield 70, 3) := by decide +kernel
theorem d_R_isDone_9 : decode b_R_isDone 9 = .ok (.lmul, 1) := by decide +kernel
theorem d_R_isDone_10 : decode b_R_isDone 10 = .ok (.aload_n 0, 1) := by decide +kernel
theorem d_R_isDone_11 : decode b_R_isDone 11 = .ok (.getfield 74, 3) := by decide +kernel
theorem d_R_isDone_14 : decode b_R_isDone 14 = .ok (.i2l, 1) := by decide +kernel
theorem d_R_isDone_15 : decode b_R_isDone 15 = .ok (.lcmp, 1) := by decide +kernel
theorem d_R_isDone_16 : decode b_R_isDone 16 = .ok (.ifCond .lt 7, 3) := by decide +kernel
theorem d_R_isDone_19 : decode b_R_isDone 19 = .ok (.iconst 1, 1) := by decide +kernel
theorem d_R_isDone_20 : decode b_R_isDone 20 = .ok (.goto 4, 3) := by decide +kernel
theorem d_R_isDone_23 : decode b_R_isDone 23 = .ok (.iconst 0, 1) := by decide +kernel
theorem d_R_isDone_24 : decode b_R_isDone 24 = .ok (.ireturn, 1) := by decide +kernel
theorem d_R_hasRoom_0 : decode b_R_hasRoom 0 = .ok (.aload_n 0, 1) := by decide +kernel
theorem d_R_hasRoom_1 : decode b_R_hasRoom 1 = .ok (.invokevirtual 77, 3) := by decide +kernel
theorem d_R_hasRoom_4 : decode b_R_hasRoom 4 = .ok (.ifCond .eq 61, 3) := by decide +kernel
theorem d_R_hasRoom_7 : decode b_R_hasRoom 7 = .ok (.aload_n 0, 1) := by decide +kernel
theorem d_R_hasRoom_8 : decode b_R_hasRoom 8 = .ok (.getfield 74, 3) := by decide +kernel
theorem d_R_hasRoom_11 : decode b_R_hasRoom 11 = .ok (.aload_n 0, 1) := by decide +kernel
theorem d_R_hasRoom_12 : decode b_R_hasRoom 12 = .ok (.getfield 50, 3) := by decide +kernel
theorem d_R_hasRoom_15 : decode b_R_hasRoom 15 = .ok (.if_icmp .le 5, 3) := by decide +kernel
theorem d_R_hasRoom_18 : decode b_R_hasRoom 18 = .ok (.iconst 0, 1) := by decide +kernel
theorem d_R_hasRoom_19 : decode b_R_hasRoom 19 = .ok (.ireturn, 1) := by decide +kernel
theorem d_R_hasRoom_20 : decode b_R_hasRoom 20 = .ok (.aload_n 0, 1) := by decide +kernel
theorem d_R_hasRoom_21 : decode b_R_hasRoom 21 = .ok (.getfield 74, 3) := by decide +kernel
theorem d_R_hasRoom_24 : decode b_R_hasRoom 24 = .ok (.i2l, 1) := by decide +kernel
theorem d_R_hasRoom_25 : decode b_R_hasRoom 25 = .ok (.aload_n 0, 1) := by decide +kernel
theorem d_R_hasRoom_26 : decode b_R_hasRoom 26 = .ok (.getfield 70, 3) := by decide +kernel
theorem d_R_hasRoom_29 : decode b_R_hasRoom 29 = .ok (.ladd, 1) := by decide +kernel
theorem d_R_hasRoom_30 : decode b_R_hasRoom 30 = .ok (.iload_n 1, 1) := by decide +kernel
theorem d_R_hasRoom_31 : decode b_R_hasRoom 31 = .ok (.i2l, 1) := by decide +kernel
theorem d_R_hasRoom_32 : decode b_R_hasRoom 32 = .ok (.ladd, 1) := by decide +kernel
theorem d_R_hasRoom_33 : decode b_R_hasRoom 33 = .ok (.aload_n 0, 1) := by decide +kernel
theorem d_R_hasRoom_34 : decode b_R_hasRoom 34 = .ok (.getfield 50, 3) := by decide +kernel
theorem d_R_hasRoom_37 : decode b_R_hasRoom 37 = .ok (.i2l, 1) := by decide +kernel
theorem d_R_hasRoom_38 : decode b_R_hasRoom 38 = .ok (.lcmp, 1) := by decide +kernel
theorem d_R_hasRoom_39 : decode b_R_hasRoom 39 = .ok (.ifCond .le 26, 3) := by decide +kernel
theorem d_R_hasRoom_42 : decode b_R_hasRoom 42 = .ok (.aload_n 0, 1) := by decide +kernel
theorem d_R_hasRoom_43 : decode b_R_hasRoom 43 = .ok (.dup, 1) := by decide +kernel
theorem d_R_hasRoom_44 : decode b_R_hasRoom 44 = .ok (.getfield 81, 3) := by decide +kernel
theorem d_R_hasRoom_47 : decode b_R_hasRoom 47 = .ok (.iconst 1, 1) := by decide +kernel
theorem d_R_hasRoom_48 : decode b_R_hasRoom 48 = .ok (.iadd, 1) := by decide +kernel
theorem d_R_hasRoom_49 : decode b_R_hasRoom 49 = .ok (.putfield 81, 3) := by decide +kernel
theorem d_R_hasRoom_52 : decode b_R_hasRoom 52 = .ok (.aload_n 0, 1) := by decide +kernel
theorem d_R_hasRoom_53 : decode b_R_hasRoom 53 = .ok (.aload_n 0, 1) := by decide +kernel
theorem d_R_hasRoom_54 : decode b_R_hasRoom 54 = .ok (.invokevirtual 84, 3) := by decide +kernel
theorem d_R_hasRoom_57 : decode b_R_hasRoom 57 = .ok (.putfield 74, 3) := by decide +kernel
theorem d_R_hasRoom_60 : decode b_R_hasRoom 60 = .ok (.aload_n 0, 1) := by decide +kernel
theorem d_R_hasRoom_61 : decode b_R_hasRoom 61 = .ok (.lconst 0, 1) := by decide +kernel
theorem d_R_hasRoom_62 : decode b_R_hasRoom 62 = .ok (.putfield 70, 3) := by decide +kernel
theorem d_R_hasRoom_65 : decode b_R_hasRoom 65 = .ok (.aload_n 0, 1) := by decide +kernel
theorem d_R_hasRoom_66 : decode b_R_hasRoom 66 = .ok (.dup, 1) := by decide +kernel
theorem d_R_hasRoom_67 : decode b_R_hasRoom 67 = .ok (.getfield 70, 3) := by decide +kernel
theorem d_R_hasRoom_70 : decode b_R_hasRoom 70 = .ok (.iload_n 1, 1) := by decide +kernel
theorem d_R_hasRoom_71 : decode b_R_hasRoom 71 = .ok (.i2l, 1) := by decide +kernel
theorem d_R_hasRoom_72 : decode b_R_hasRoom 72 = .ok (.ladd, 1) := by decide +kernel
theorem d_R_hasRoom_73 : decode b_R_hasRoom 73 = .ok (.putfield 70, 3) := by decide +kernel
theorem d_R_hasRoom_76 : decode b_R_hasRoom 76 = .ok (.iconst 1, 1) := by decide +kernel
theorem d_R_hasRoom_77 : decode b_R_hasRoom 77 = .ok (.ireturn, 1) := by decide +kernel
theorem d_R_add_0 : decode b_R_add 0 = .ok (.aload_n 0, 1) := by decide +kernel
theorem d_R_add_1 : decode b_R_add 1 = .ok (.getfield 64, 3) := by decide +kernel
theorem d_R_add_4 : decode b_R_add 4 = .ok (.istore 4, 2) := by decide +kernel
theorem d_R_add_6 : decode b_R_add 6 = .ok (.aload_n 0, 1) := by decide +kernel
theorem d_R_add_7 : decode b_R_add 7 = .ok (.getfield 67, 3) := by decide +kernel
theorem d_R_add_10 : decode b_R_add 10 = .ok (.ifCond .le 27, 3) := by decide +kernel
theorem d_R_add_13 : decode b_R_add 13 = .ok (.aload_n 0, 1) := by decide +kernel
theorem d_R_add_14 : decode b_R_add 14 = .ok (.dup, 1) := by decide +kernel
theorem d_R_add_15 : decode b_R_add 15 = .ok (.getfield 67, 3) := by decide +kernel
theorem d_R_add_18 : decode b_R_add 18 = .ok (.iconst 1, 1) := by decide +kernel
theorem d_R_add_19 : decode b_R_add 19 = .ok (.isub, 1) := by decide +kernel
theorem d_R_add_20 : decode b_R_add 20 = .ok (.putfield 67, 3) := by decide +kernel
theorem d_R_add_23 : decode b_R_add 23 = .ok (.aload_n 0, 1) := by decide +kernel
theorem d_R_add_24 : decode b_R_add 24 = .ok (.getfield 33, 3) := by decide +kernel
theorem d_R_add_27 : decode b_R_add 27 = .ok (.aload_n 0, 1) := by decide +kernel
theorem d_R_add_28 : decode b_R_add 28 = .ok (.getfield 67, 3) := by decide +kernel
theorem d_R_add_31 : decode b_R_add 31 = .ok (.iaload, 1) := by decide +kernel
theorem d_R_add_32 : decode b_R_add 32 = .ok (.istore 4, 2) := by decide +kernel
theorem d_R_add_34 : decode b_R_add 34 = .ok (.goto 13, 3) := by decide +kernel
theorem d_R_add_37 : decode b_R_add 37 = .ok (.aload_n 0, 1) := by decide +kernel
theorem d_R_add_38 : decode b_R_add 38 = .ok (.dup, 1) := by decide +kernel
theorem d_R_add_39 : decode b_R_add 39 = .ok (.getfield 64, 3) := by decide +kernel
theorem d_R_add_42 : decode b_R_add 42 = .ok (.iconst 1, 1) := by decide +kernel
theorem d_R_add_43 : decode b_R_add 43 = .ok (.iadd, 1) := by decide +kernel
theorem d_R_add_44 : decode b_R_add 44 = .ok (.putfield 64, 3) := by decide +kernel
theorem d_R_add_47 : decode b_R_add 47 = .ok (.aload_n 0, 1) := by decide +kernel
theorem d_R_add_48 : decode b_R_add 48 = .ok (.getfield 10, 3) := by decide +kernel
theorem d_R_add_51 : decode b_R_add 51 = .ok (.iload 4, 2) := by decide +kernel
theorem d_R_add_53 : decode b_R_add 53 = .ok (.iload_n 1, 1) := by decide +kernel
theorem d_R_add_54 : decode b_R_add 54 = .ok (.i2b, 1) := by decide +kernel
theorem d_R_add_55 : decode b_R_add 55 = .ok (.bastore, 1) := by decide +kernel
theorem d_R_add_56 : decode b_R_add 56 = .ok (.aload_n 0, 1) := by decide +kernel
theorem d_R_add_57 : decode b_R_add 57 = .ok (.getfield 14, 3) := by decide +kernel
theorem d_R_add_60 : decode b_R_add 60 = .ok (.iload 4, 2) := by decide +kernel
theorem d_R_add_62 : decode b_R_add 62 = .ok (.iload_n 2, 1) := by decide +kernel
theorem d_R_add_63 : decode b_R_add 63 = .ok (.i2b, 1) := by decide +kernel
theorem d_R_add_64 : decode b_R_add 64 = .ok (.bastore, 1) := by decide +kernel
theorem d_R_add_65 : decode b_R_add 65 = .ok (.aload_n 0, 1) := by decide +kernel
theorem d_R_add_66 : decode b_R_add 66 = .ok (.getfield 17, 3) := by decide +kernel
theorem d_R_add_69 : decode b_R_add 69 = .ok (.iload 4, 2) := by decide +kernel
theorem d_R_add_71 : decode b_R_add 71 = .ok (.iload_n 3, 1) := by decide +kernel
theorem d_R_add_72 : decode b_R_add 72 = .ok (.i2b, 1) := by decide +kernel
theorem d_R_add_73 : decode b_R_add 73 = .ok (.bastore, 1) := by decide +kernel
theorem d_R_add_74 : decode b_R_add 74 = .ok (.iconst 0, 1) := by decide +kernel
theorem d_R_add_75 : decode b_R_add 75 = .ok (.istore 5, 2) := by decide +kernel
theorem d_R_add_77 : decode b_R_add 77 = .ok (.iload 5, 2) := by decide +kernel
theorem d_R_add_79 : decode b_R_add 79 = .ok (.bipush 16, 2) := by decide +kernel
theorem d_R_add_81 : decode b_R_add 81 = .ok (.if_icmp .ge 23, 3) := by decide +kernel
theorem d_R_add_84 : decode b_R_add 84 = .ok (.aload_n 0, 1) := by decide +kernel
theorem d_R_add_85 : decode b_R_add 85 = .ok (.getfield 29, 3) := by decide +kernel
theorem d_R_add_88 : decode b_R_add 88 = .ok (.iload 4, 2) := by decide +kernel
theorem d_R_add_90 : decode b_R_add 90 = .ok (.bipush 16, 2) := by decide +kernel
theorem d_R_add_92 : decode b_R_add 92 = .ok (.imul, 1) := by decide +kernel
theorem d_R_add_93 : decode b_R_add 93 = .ok (.iload 5, 2) := by decide +kernel
theorem d_R_add_95 : decode b_R_add 95 = .ok (.iadd, 1) := by decide +kernel
theorem d_R_add_96 : decode b_R_add 96 = .ok (.iconst 0, 1) := by decide +kernel
theorem d_R_add_97 : decode b_R_add 97 = .ok (.iastore, 1) := by decide +kernel
theorem d_R_add_98 : decode b_R_add 98 = .ok (.iinc 5 1, 3) := by decide +kernel
theorem d_R_add_101 : decode b_R_add 101 = .ok (.goto (-24), 3) := by decide +kernel
theorem d_R_add_104 : decode b_R_add 104 = .ok (.iload 4, 2) := by decide +kernel
theorem d_R_add_106 : decode b_R_add 106 = .ok (.ireturn, 1) := by decide +kernel
theorem d_R_make_0 : decode b_R_make 0 = .ok (.iload_n 1, 1) := by decide +kernel
theorem d_R_make_1 : decode b_R_make 1 = .ok (.invokestatic 88, 3) := by decide +kernel
theorem d_R_make_4 : decode b_R_make 4 = .ok (.ifCond .eq 25, 3) := by decide +kernel
theorem d_R_make_7 : decode b_R_make 7 = .ok (.iload_n 2, 1) := by decide +kernel
theorem d_R_make_8 : decode b_R_make 8 = .ok (.ifCond .lt 21, 3) := by decide +kernel
theorem d_R_make_11 : decode b_R_make 11 = .ok (.iload_n 3, 1) := by decide +kernel
theorem d_R_make_12 : decode b_R_make 12 = .ok (.ifCond .lt 17, 3) := by decide +kernel
theorem d_R_make_15 : decode b_R_make 15 = .ok (.iload_n 2, 1) := by decide +kernel
theorem d_R_make_16 : decode b_R_make 16 = .ok (.bipush 15, 2) := by decide +kernel
theorem d_R_make_18 : decode b_R_make 18 = .ok (.if_icmp .gt 11, 3) := by decide +kernel
theorem d_R_make_21 : decode b_R_make 21 = .ok (.iload_n 3, 1) := by decide +kernel
theorem d_R_make_22 : decode b_R_make 22 = .ok (.bipush 15, 2) := by decide +kernel
theorem d_R_make_24 : decode b_R_make 24 = .ok (.iload_n 2, 1) := by decide +kernel
theorem d_R_make_25 : decode b_R_make 25 = .ok (.isub, 1) := by decide +kernel
theorem d_R_make_26 : decode b_R_make 26 = .ok (.if_icmp .le 5, 3) := by decide +kernel
theorem d_R_make_29 : decode b_R_make 29 = .ok (.iconst (-1), 1) := by decide +kernel
theorem d_R_make_30 : decode b_R_make 30 = .ok (.ireturn, 1) := by decide +kernel
theorem d_R_make_31 : decode b_R_make 31 = .ok (.aload_n 0, 1) := by decide +kernel
theorem d_R_make_32 : decode b_R_make 32 = .ok (.iconst 1, 1) := by decide +kernel
theorem d_R_make_33 : decode b_R_make 33 = .ok (.iload_n 2, 1) := by decide +kernel
theorem d_R_make_34 : decode b_R_make 34 = .ok (.iadd, 1) := by decide +kernel
theorem d_R_make_35 : decode b_R_make 35 = .ok (.iload_n 3, 1) := by decide +kernel
theorem d_R_make_36 : decode b_R_make 36 = .ok (.iadd, 1) := by decide +kernel
theorem d_R_make_37 : decode b_R_make 37 = .ok (.invokevirtual 92, 3) := by decide +kernel
theorem d_R_make_40 : decode b_R_make 40 = .ok (.ifCond .ne 5, 3) := by decide +kernel
theorem d_R_make_43 : decode b_R_make 43 = .ok (.iconst 0, 1) := by decide +kernel
theorem d_R_make_44 : decode b_R_make 44 = .ok (.ireturn, 1) := by decide +kernel
theorem d_R_make_45 : decode b_R_make 45 = .ok (.aload_n 0, 1) := by decide +kernel
theorem d_R_make_46 : decode b_R_make 46 = .ok (.getfield 36, 3) := by decide +kernel
theorem d_R_make_49 : decode b_R_make 49 = .ok (.iload_n 1, 1) := by decide +kernel
theorem d_R_make_50 : decode b_R_make 50 = .ok (.aload_n 0, 1) := by decide +kernel
theorem d_R_make_51 : decode b_R_make 51 = .ok (.iconst 1, 1) := by decide +kernel
theorem d_R_make_52 : decode b_R_make 52 = .ok (.iload_n 2, 1) := by decide +kernel
theorem d_R_make_53 : decode b_R_make 53 = .ok (.iload_n 3, 1) := by decide +kernel
theorem d_R_make_54 : decode b_R_make 54 = .ok (.invokevirtual 95, 3) := by decide +kernel
theorem d_R_make_57 : decode b_R_make 57 = .ok (.iconst 1, 1) := by decide +kernel
theorem d_R_make_58 : decode b_R_make 58 = .ok (.iadd, 1) := by decide +kernel
theorem d_R_make_59 : decode b_R_make 59 = .ok (.iastore, 1) := by decide +kernel
theorem d_R_make_60 : decode b_R_make 60 = .ok (.iconst 1, 1) := by decide +kernel
theorem d_R_make_61 : decode b_R_make 61 = .ok (.ireturn, 1) := by decide +kernel
theorem d_R_levels_0 : decode b_R_levels 0 = .ok (.iload_n 0, 1) := by decide +kernel
theorem d_R_levels_1 : decode b_R_levels 1 = .ok (.bipush 15, 2) := by decide +kernel
theorem d_R_levels_3 : decode b_R_levels 3 = .ok (.if_icmp .gt 7, 3) := by decide +kernel
theorem d_R_levels_6 : decode b_R_levels 6 = .ok (.iconst 1, 1) := by decide +kernel
theorem d_R_levels_7 : decode b_R_levels 7 = .ok (.goto 15, 3) := by decide +kernel
theorem d_R_levels_10 : decode b_R_levels 10 = .ok (.iload_n 0, 1) := by decide +kernel
theorem d_R_levels_11 : decode b_R_levels 11 = .ok (.sipush 225, 3) := by decide +kernel
theorem d_R_levels_14 : decode b_R_levels 14 = .ok (.if_icmp .gt 7, 3) := by decide +kernel
theorem d_R_levels_17 : decode b_R_levels 17 = .ok (.iconst 2, 1) := by decide +kernel
theorem d_R_levels_18 : decode b_R_levels 18 = .ok (.goto 4, 3) := by decide +kernel
theorem d_R_levels_21 : decode b_R_levels 21 = .ok (.iconst 3, 1) := by decide +kernel
theorem d_R_levels_22 : decode b_R_levels 22 = .ok (.ireturn, 1) := by decide +kernel
theorem d_R_array_0 : decode b_R_array 0 = .ok (.iload_n 1, 1) := by decide +kernel
theorem d_R_array_1 : decode b_R_array 1 = .ok (.invokestatic 88, 3) := by decide +kernel
theorem d_R_array_4 : decode b_R_array 4 = .ok (.ifCond .eq 14, 3) := by decide +kernel
theorem d_R_array_7 : decode b_R_array 7 = .ok (.iload_n 2, 1) := by decide +kernel
theorem d_R_array_8 : decode b_R_array 8 = .ok (.ifCond .lt 10, 3) := by decide +kernel
theorem d_R_array_11 : decode b_R_array 11 = .ok (.iload_n 2, 1) := by decide +kernel
theorem d_R_array_12 : decode b_R_array 12 = .ok (.sipush 3375, 3) := by decide +kernel
theorem d_R_array_15 : decode b_R_array 15 = .ok (.if_icmp .le 5, 3) := by decide +kernel
theorem d_R_array_18 : decode b_R_array 18 = .ok (.iconst (-1), 1) := by decide +kernel
theorem d_R_array_19 : decode b_R_array 19 = .ok (.ireturn, 1) := by decide +kernel
theorem d_R_array_20 : decode b_R_array 20 = .ok (.aload_n 0, 1) := by decide +kernel
theorem d_R_array_21 : decode b_R_array 21 = .ok (.bipush 16, 2) := by decide +kernel
theorem d_R_array_23 : decode b_R_array 23 = .ok (.invokevirtual 92, 3) := by decide +kernel
theorem d_R_array_26 : decode b_R_array 26 = .ok (.ifCond .ne 5, 3) := by decide +kernel
theorem d_R_array_29 : decode b_R_array 29 = .ok (.iconst 0, 1) := by decide +kernel
theorem d_R_array_30 : decode b_R_array 30 = .ok (.ireturn, 1) := by decide +kernel
theorem d_R_array_31 : decode b_R_array 31 = .ok (.iload_n 3, 1) := by decide +kernel
theorem d_R_array_32 : decode b_R_array 32 = .ok (.ifCond .ne 11, 3) := by decide +kernel
theorem d_R_array_35 : decode b_R_array 35 = .ok (.iload_n 2, 1) := by decide +kernel
theorem d_R_array_36 : decode b_R_array 36 = .ok (.invokestatic 99, 3) := by decide +kernel
theorem d_R_array_39 : decode b_R_array 39 = .ok (.iconst 1, 1) := by decide +kernel
theorem d_R_array_40 : decode b_R_array 40 = .ok (.if_icmp .le 7, 3) := by decide +kernel
theorem d_R_array_43 : decode b_R_array 43 = .ok (.iconst 1, 1) := by decide +kernel
theorem d_R_array_44 : decode b_R_array 44 = .ok (.goto 4, 3) := by decide +kernel
theorem d_R_array_47 : decode b_R_array 47 = .ok (.iconst 0, 1) := by decide +kernel
theorem d_R_array_48 : decode b_R_array 48 = .ok (.istore 4, 2) := by decide +kernel
theorem d_R_array_50 : decode b_R_array 50 = .ok (.aload_n 0, 1) := by decide +kernel
theorem d_R_array_51 : decode b_R_array 51 = .ok (.iconst 2, 1) := by decide +kernel
theorem d_R_array_52 : decode b_R_array 52 = .ok (.iload 4, 2) := by decide +kernel
theorem d_R_array_54 : decode b_R_array 54 = .ok (.ifCond .eq 8, 3) := by decide +kernel
theorem d_R_array_57 : decode b_R_array 57 = .ok (.bipush 15, 2) := by decide +kernel
theorem d_R_array_59 : decode b_R_array 59 = .ok (.goto 4, 3) := by decide +kernel
theorem d_R_array_62 : decode b_R_array 62 = .ok (.iconst 0, 1) := by decide +kernel
theorem d_R_array_63 : decode b_R_array 63 = .ok (.iload 4, 2) := by decide +kernel
theorem d_R_array_65 : decode b_R_array 65 = .ok (.ifCond .eq 7, 3) := by decide +kernel
theorem d_R_array_68 : decode b_R_array 68 = .ok (.iconst 0, 1) := by decide +kernel
theorem d_R_array_69 : decode b_R_array 69 = .ok (.goto 5, 3) := by decide +kernel
theorem d_R_array_72 : decode b_R_array 72 = .ok (.bipush 15, 2) := by decide +kernel
theorem d_R_array_74 : decode b_R_array 74 = .ok (.invokevirtual 95, 3) := by decide +kernel
theorem d_R_array_77 : decode b_R_array 77 = .ok (.istore 5, 2) := by decide +kernel
theorem d_R_array_79 : decode b_R_array 79 = .ok (.aload_n 0, 1) := by decide +kernel
theorem d_R_array_80 : decode b_R_array 80 = .ok (.getfield 20, 3) := by decide +kernel
theorem d_R_array_83 : decode b_R_array 83 = .ok (.iload 5, 2) := by decide +kernel
theorem d_R_array_85 : decode b_R_array 85 = .ok (.iload_n 2, 1) := by decide +kernel
theorem d_R_array_86 : decode b_R_array 86 = .ok (.i2s, 1) := by decide +kernel
theorem d_R_array_87 : decode b_R_array 87 = .ok (.sastore, 1) := by decide +kernel
theorem d_R_array_88 : decode b_R_array 88 = .ok (.aload_n 0, 1) := by decide +kernel
theorem d_R_array_89 : decode b_R_array 89 = .ok (.getfield 24, 3) := by decide +kernel
theorem d_R_array_92 : decode b_R_array 92 = .ok (.iload 5, 2) := by decide +kernel
theorem d_R_array_94 : decode b_R_array 94 = .ok (.iload_n 3, 1) := by decide +kernel
theorem d_R_array_95 : decode b_R_array 95 = .ok (.bastore, 1) := by decide +kernel
theorem d_R_array_96 : decode b_R_array 96 = .ok (.aload_n 0, 1) := by decide +kernel
theorem d_R_array_97 : decode b_R_array 97 = .ok (.getfield 36, 3) := by decide +kernel
theorem d_R_array_100 : decode b_R_array 100 = .ok (.iload_n 1, 1) := by decide +kernel
theorem d_R_array_101 : decode b_R_array 101 = .ok (.iload 5, 2) := by decide +kernel
theorem d_R_array_103 : decode b_R_array 103 = .ok (.iconst 1, 1) := by decide +kernel
theorem d_R_array_104 : decode b_R_array 104 = .ok (.iadd, 1) := by decide +kernel
theorem d_R_array_105 : decode b_R_array 105 = .ok (.iastore, 1) := by decide +kernel
theorem d_R_array_106 : decode b_R_array 106 = .ok (.iconst 1, 1) := by decide +kernel
theorem d_R_array_107 : decode b_R_array 107 = .ok (.ireturn, 1) := by decide +kernel
theorem d_R_field_0 : decode b_R_field 0 = .ok (.iload_n 1, 1) := by decide +kernel
theorem d_R_field_1 : decode b_R_field 1 = .ok (.invokestatic 88, 3) := by decide +kernel
theorem d_R_field_4 : decode b_R_field 4 = .ok (.ifCond .eq 29, 3) := by decide +kernel
theorem d_R_field_7 : decode b_R_field 7 = .ok (.aload_n 0, 1) := by decide +kernel
theorem d_R_field_8 : decode b_R_field 8 = .ok (.getfield 36, 3) := by decide +kernel
theorem d_R_field_11 : decode b_R_field 11 = .ok (.iload_n 1, 1) := by decide +kernel
theorem d_R_field_12 : decode b_R_field 12 = .ok (.iaload, 1) := by decide +kernel
theorem d_R_field_13 : decode b_R_field 13 = .ok (.ifCond .eq 20, 3) := by decide +kernel
theorem d_R_field_16 : decode b_R_field 16 = .ok (.aload_n 0, 1) := by decide +kernel
theorem d_R_field_17 : decode b_R_field 17 = .ok (.getfield 10, 3) := by decide +kernel
theorem d_R_field_20 : decode b_R_field 20 = .ok (.aload_n 0, 1) := by decide +kernel
theorem d_R_field_21 : decode b_R_field 21 = .ok (.getfield 36, 3) := by decide +kernel
theorem d_R_field_24 : decode b_R_field 24 = .ok (.iload_n 1, 1) := by decide +kernel
theorem d_R_field_25 : decode b_R_field 25 = .ok (.iaload, 1) := by decide +kernel
theorem d_R_field_26 : decode b_R_field 26 = .ok (.iconst 1, 1) := by decide +kernel
theorem d_R_field_27 : decode b_R_field 27 = .ok (.isub, 1) := by decide +kernel
theorem d_R_field_28 : decode b_R_field 28 = .ok (.baload, 1) := by decide +kernel
theorem d_R_field_29 : decode b_R_field 29 = .ok (.iconst 1, 1) := by decide +kernel
theorem d_R_field_30 : decode b_R_field 30 = .ok (.if_icmp .eq 5, 3) := by decide +kernel
theorem d_R_field_33 : decode b_R_field 33 = .ok (.iconst (-1), 1) := by decide +kernel
theorem d_R_field_34 : decode b_R_field 34 = .ok (.ireturn, 1) := by decide +kernel
theorem d_R_field_35 : decode b_R_field 35 = .ok (.aload_n 0, 1) := by decide +kernel
theorem d_R_field_36 : decode b_R_field 36 = .ok (.getfield 36, 3) := by decide +kernel
theorem d_R_field_39 : decode b_R_field 39 = .ok (.iload_n 1, 1) := by decide +kernel
theorem d_R_field_40 : decode b_R_field 40 = .ok (.iaload, 1) := by decide +kernel
theorem d_R_field_41 : decode b_R_field 41 = .ok (.iconst 1, 1) := by decide +kernel
theorem d_R_field_42 : decode b_R_field 42 = .ok (.isub, 1) := by decide +kernel
theorem d_R_field_43 : decode b_R_field 43 = .ok (.istore 4, 2) := by decide +kernel
theorem d_R_field_45 : decode b_R_field 45 = .ok (.iload_n 2, 1) := by decide +kernel
theorem d_R_field_46 : decode b_R_field 46 = .ok (.ifCond .lt 28, 3) := by decide +kernel
theorem d_R_field_49 : decode b_R_field 49 = .ok (.iload_n 2, 1) := by decide +kernel
theorem d_R_field_50 : decode b_R_field 50 = .ok (.iload_n 3, 1) := by decide +kernel
theorem d_R_field_51 : decode b_R_field 51 = .ok (.ifCond .eq 13, 3) := by decide +kernel
theorem d_R_field_54 : decode b_R_field 54 = .ok (.aload_n 0, 1) := by decide +kernel
theorem d_R_field_55 : decode b_R_field 55 = .ok (.getfield 14, 3) := by decide +kernel
theorem d_R_field_58 : decode b_R_field 58 = .ok (.iload 4, 2) := by decide +kernel
theorem d_R_field_60 : decode b_R_field 60 = .ok (.baload, 1) := by decide +kernel
theorem d_R_field_61 : decode b_R_field 61 = .ok (.goto 10, 3) := by decide +kernel
theorem d_R_field_64 : decode b_R_field 64 = .ok (.aload_n 0, 1) := by decide +kernel
theorem d_R_field_65 : decode b_R_field 65 = .ok (.getfield 17, 3) := by decide +kernel
theorem d_R_field_68 : decode b_R_field 68 = .ok (.iload 4, 2) := by decide +kernel
theorem d_R_field_70 : decode b_R_field 70 = .ok (.baload, 1) := by decide +kernel
theorem d_R_field_71 : decode b_R_field 71 = .ok (.if_icmp .lt 5, 3) := by decide +kernel
theorem d_R_field_74 : decode b_R_field 74 = .ok (.iconst (-1), 1) := by decide +kernel
theorem d_R_field_75 : decode b_R_field 75 = .ok (.ireturn, 1) := by decide +kernel
theorem d_R_field_76 : decode b_R_field 76 = .ok (.iload 4, 2) := by decide +kernel
theorem d_R_field_78 : decode b_R_field 78 = .ok (.bipush 16, 2) := by decide +kernel
theorem d_R_field_80 : decode b_R_field 80 = .ok (.imul, 1) := by decide +kernel
theorem d_R_field_81 : decode b_R_field 81 = .ok (.iload_n 3, 1) := by decide +kernel
theorem d_R_field_82 : decode b_R_field 82 = .ok (.ifCond .eq 7, 3) := by decide +kernel
theorem d_R_field_85 : decode b_R_field 85 = .ok (.iload_n 2, 1) := by decide +kernel
theorem d_R_field_86 : decode b_R_field 86 = .ok (.goto 12, 3) := by decide +kernel
theorem d_R_field_89 : decode b_R_field 89 = .ok (.aload_n 0, 1) := by decide +kernel
theorem d_R_field_90 : decode b_R_field 90 = .ok (.getfield 14, 3) := by decide +kernel
theorem d_R_field_93 : decode b_R_field 93 = .ok (.iload 4, 2) := by decide +kernel
theorem d_R_field_95 : decode b_R_field 95 = .ok (.baload, 1) := by decide +kernel
theorem d_R_field_96 : decode b_R_field 96 = .ok (.iload_n 2, 1) := by decide +kernel
theorem d_R_field_97 : decode b_R_field 97 = .ok (.iadd, 1) := by decide +kernel
theorem d_R_field_98 : decode b_R_field 98 = .ok (.iadd, 1) := by decide +kernel
theorem d_R_field_99 : decode b_R_field 99 = .ok (.ireturn, 1) := by decide +kernel
theorem d_R_get_0 : decode b_R_get 0 = .ok (.aload_n 0, 1) := by decide +kernel
theorem d_R_get_1 : decode b_R_get 1 = .ok (.iload_n 2, 1) := by decide +kernel
theorem d_R_get_2 : decode b_R_get 2 = .ok (.iload_n 3, 1) := by decide +kernel
theorem d_R_get_3 : decode b_R_get 3 = .ok (.iconst 1, 1) := by decide +kernel
theorem d_R_get_4 : decode b_R_get 4 = .ok (.invokevirtual 102, 3) := by decide +kernel
theorem d_R_get_7 : decode b_R_get 7 = .ok (.istore 4, 2) := by decide +kernel
theorem d_R_get_9 : decode b_R_get 9 = .ok (.iload_n 1, 1) := by decide +kernel
theorem d_R_get_10 : decode b_R_get 10 = .ok (.invokestatic 88, 3) := by decide +kernel
theorem d_R_get_13 : decode b_R_get 13 = .ok (.ifCond .eq 9, 3) := by decide +kernel
theorem d_R_get_16 : decode b_R_get 16 = .ok (.iload 4, 2) := by decide +kernel
theorem d_R_get_18 : decode b_R_get 18 = .ok (.iconst (-1), 1) := by decide +kernel
theorem d_R_get_19 : decode b_R_get 19 = .ok (.if_icmp .ne 5, 3) := by decide +kernel
theorem d_R_get_22 : decode b_R_get 22 = .ok (.iconst 0, 1) := by decide +kernel
theorem d_R_get_23 : decode b_R_get 23 = .ok (.ireturn, 1) := by decide +kernel
theorem d_R_get_24 : decode b_R_get 24 = .ok (.aload_n 0, 1) := by decide +kernel
theorem d_R_get_25 : decode b_R_get 25 = .ok (.getfield 36, 3) := by decide +kernel
theorem d_R_get_28 : decode b_R_get 28 = .ok (.iload_n 1, 1) := by decide +kernel
theorem d_R_get_29 : decode b_R_get 29 = .ok (.aload_n 0, 1) := by decide +kernel
theorem d_R_get_30 : decode b_R_get 30 = .ok (.getfield 29, 3) := by decide +kernel
theorem d_R_get_33 : decode b_R_get 33 = .ok (.iload 4, 2) := by decide +kernel
theorem d_R_get_35 : decode b_R_get 35 = .ok (.iaload, 1) := by decide +kernel
theorem d_R_get_36 : decode b_R_get 36 = .ok (.iastore, 1) := by decide +kernel
theorem d_R_get_37 : decode b_R_get 37 = .ok (.iconst 1, 1) := by decide +kernel
theorem d_R_get_38 : decode b_R_get 38 = .ok (.ireturn, 1) := by decide +kernel
theorem d_R_put_0 : decode b_R_put 0 = .ok (.aload_n 0, 1) := by decide +kernel
theorem d_R_put_1 : decode b_R_put 1 = .ok (.iload_n 1, 1) := by decide +kernel
theorem d_R_put_2 : decode b_R_put 2 = .ok (.iload_n 2, 1) := by decide +kernel
theorem d_R_put_3 : decode b_R_put 3 = .ok (.iconst 1, 1) := by decide +kernel
theorem d_R_put_4 : decode b_R_put 4 = .ok (.invokevirtual 102, 3) := by decide +kernel
theorem d_R_put_7 : decode b_R_put 7 = .ok (.istore 4, 2) := by decide +kernel
theorem d_R_put_9 : decode b_R_put 9 = .ok (.iload_n 3, 1) := by decide +kernel
theorem d_R_put_10 : decode b_R_put 10 = .ok (.invokestatic 88, 3) := by decide +kernel
theorem d_R_put_13 : decode b_R_put 13 = .ok (.ifCond .eq 9, 3) := by decide +kernel
theorem d_R_put_16 : decode b_R_put 16 = .ok (.iload 4, 2) := by decide +kernel
theorem d_R_put_18 : decode b_R_put 18 = .ok (.iconst (-1), 1) := by decide +kernel
theorem d_R_put_19 : decode b_R_put 19 = .ok (.if_icmp .ne 5, 3) := by decide +kernel
theorem d_R_put_22 : decode b_R_put 22 = .ok (.iconst 0, 1) := by decide +kernel
theorem d_R_put_23 : decode b_R_put 23 = .ok (.ireturn, 1) := by decide +kernel
theorem d_R_put_24 : decode b_R_put 24 = .ok (.aload_n 0, 1) := by decide +kernel
theorem d_R_put_25 : decode b_R_put 25 = .ok (.getfield 29, 3) := by decide +kernel
theorem d_R_put_28 : decode b_R_put 28 = .ok (.iload 4, 2) := by decide +kernel
theorem d_R_put_30 : decode b_R_put 30 = .ok (.aload_n 0, 1) := by decide +kernel
theorem d_R_put_31 : decode b_R_put 31 = .ok (.getfield 36, 3) := by decide +kernel
theorem d_R_put_34 : decode b_R_put 34 = .ok (.iload_n 3, 1) := by decide +kernel
theorem d_R_put_35 : decode b_R_put 35 = .ok (.iaload, 1) := by decide +kernel
theorem d_R_put_36 : decode b_R_put 36 = .ok (.iastore, 1) := by decide +kernel
theorem d_R_put_37 : decode b_R_put 37 = .ok (.iconst 1, 1) := by decide +kernel
theorem d_R_put_38 : decode b_R_put 38 = .ok (.ireturn, 1) := by decide +kernel
theorem d_R_look_0 : decode b_R_look 0 = .ok (.aload_n 0, 1) := by decide +kernel
theorem d_R_look_1 : decode b_R_look 1 = .ok (.iload_n 1, 1) := by decide +kernel
theorem d_R_look_2 : decode b_R_look 2 = .ok (.iload_n 2, 1) := by decide +kernel
theorem d_R_look_3 : decode b_R_look 3 = .ok (.iconst 0, 1) := by decide +kernel
theorem d_R_look_4 : decode b_R_look 4 = .ok (.invokevirtual 102, 3) := by decide +kernel
theorem d_R_look_7 : decode b_R_look 7 = .ok (.istore_n 3, 1) := by decide +kernel
theorem d_R_look_8 : decode b_R_look 8 = .ok (.iload_n 3, 1) := by decide +kernel
theorem d_R_look_9 : decode b_R_look 9 = .ok (.iconst (-1), 1) := by decide +kernel
theorem d_R_look_10 : decode b_R_look 10 = .ok (.if_icmp .ne 9, 3) := by decide +kernel
theorem d_R_look_13 : decode b_R_look 13 = .ok (.ldc2_w 108, 3) := by decide +kernel
theorem d_R_look_16 : decode b_R_look 16 = .ok (.goto 10, 3) := by decide +kernel
theorem d_R_look_19 : decode b_R_look 19 = .ok (.aload_n 0, 1) := by decide +kernel
theorem d_R_look_20 : decode b_R_look 20 = .ok (.getfield 29, 3) := by decide +kernel
theorem d_R_look_23 : decode b_R_look 23 = .ok (.iload_n 3, 1) := by decide +kernel
theorem d_R_look_24 : decode b_R_look 24 = .ok (.iaload, 1) := by decide +kernel
theorem d_R_look_25 : decode b_R_look 25 = .ok (.i2l, 1) := by decide +kernel
theorem d_R_look_26 : decode b_R_look 26 = .ok (.lreturn, 1) := by decide +kernel
theorem d_R_set_0 : decode b_R_set 0 = .ok (.aload_n 0, 1) := by decide +kernel
theorem d_R_set_1 : decode b_R_set 1 = .ok (.iload_n 1, 1) := by decide +kernel
theorem d_R_set_2 : decode b_R_set 2 = .ok (.iload_n 2, 1) := by decide +kernel
theorem d_R_set_3 : decode b_R_set 3 = .ok (.iconst 0, 1) := by decide +kernel
theorem d_R_set_4 : decode b_R_set 4 = .ok (.invokevirtual 102, 3) := by decide +kernel
theorem d_R_set_7 : decode b_R_set 7 = .ok (.istore 4, 2) := by decide +kernel
theorem d_R_set_9 : decode b_R_set 9 = .ok (.iload 4, 2) := by decide +kernel
theorem d_R_set_11 : decode b_R_set 11 = .ok (.iconst (-1), 1) := by decide +kernel
theorem d_R_set_12 : decode b_R_set 12 = .ok (.if_icmp .ne 5, 3) := by decide +kernel
theorem d_R_set_15 : decode b_R_set 15 = .ok (.iconst 0, 1) := by decide +kernel
theorem d_R_set_16 : decode b_R_set 16 = .ok (.ireturn, 1) := by decide +kernel
theorem d_R_set_17 : decode b_R_set 17 = .ok (.aload_n 0, 1) := by decide +kernel
theorem d_R_set_18 : decode b_R_set 18 = .ok (.getfield 29, 3) := by decide +kernel
theorem d_R_set_21 : decode b_R_set 21 = .ok (.iload 4, 2) := by decide +kernel
theorem d_R_set_23 : decode b_R_set 23 = .ok (.iload_n 3, 1) := by decide +kernel
theorem d_R_set_24 : decode b_R_set 24 = .ok (.iastore, 1) := by decide +kernel
theorem d_R_set_25 : decode b_R_set 25 = .ok (.iconst 1, 1) := by decide +kernel
theorem d_R_set_26 : decode b_R_set 26 = .ok (.ireturn, 1) := by decide +kernel
theorem d_R_hasItem_0 : decode b_R_hasItem 0 = .ok (.iload_n 1, 1) := by decide +kernel
theorem d_R_hasItem_1 : decode b_R_hasItem 1 = .ok (.invokestatic 88, 3) := by decide +kernel
theorem d_R_hasItem_4 : decode b_R_hasItem 4 = .ok (.ifCond .eq 12, 3) := by decide +kernel
theorem d_R_hasItem_7 : decode b_R_hasItem 7 = .ok (.aload_n 0, 1) := by decide +kernel
theorem d_R_hasItem_8 : decode b_R_hasItem 8 = .ok (.getfield 36, 3) := by decide +kernel
theorem d_R_hasItem_11 : decode b_R_hasItem 11 = .ok (.iload_n 1, 1) := by decide +kernel
theorem d_R_hasItem_12 : decode b_R_hasItem 12 = .ok (.iaload, 1) := by decide +kernel
theorem d_R_hasItem_13 : decode b_R_hasItem 13 = .ok (.ifCond .ne 5, 3) := by decide +kernel
theorem d_R_hasItem_16 : decode b_R_hasItem 16 = .ok (.iconst 0, 1) := by decide +kernel
theorem d_R_hasItem_17 : decode b_R_hasItem 17 = .ok (.ireturn, 1) := by decide +kernel
theorem d_R_hasItem_18 : decode b_R_hasItem 18 = .ok (.aload_n 0, 1) := by decide +kernel
theorem d_R_hasItem_19 : decode b_R_hasItem 19 = .ok (.getfield 36, 3) := by decide +kernel
theorem d_R_hasItem_22 : decode b_R_hasItem 22 = .ok (.iload_n 1, 1) := by decide +kernel
theorem d_R_hasItem_23 : decode b_R_hasItem 23 = .ok (.iaload, 1) := by decide +kernel
theorem d_R_hasItem_24 : decode b_R_hasItem 24 = .ok (.iconst 1, 1) := by decide +kernel
theorem d_R_hasItem_25 : decode b_R_hasItem 25 = .ok (.isub, 1) := by decide +kernel
theorem d_R_hasItem_26 : decode b_R_hasItem 26 = .ok (.istore 4, 2) := by decide +kernel
theorem d_R_hasItem_28 : decode b_R_hasItem 28 = .ok (.aload_n 0, 1) := by decide +kernel
theorem d_R_hasItem_29 : decode b_R_hasItem 29 = .ok (.getfield 10, 3) := by decide +kernel
theorem d_R_hasItem_32 : decode b_R_hasItem 32 = .ok (.iload 4, 2) := by decide +kernel
theorem d_R_hasItem_34 : decode b_R_hasItem 34 = .ok (.baload, 1) := by decide +kernel
theorem d_R_hasItem_35 : decode b_R_hasItem 35 = .ok (.iconst 2, 1) := by decide +kernel
theorem d_R_hasItem_36 : decode b_R_hasItem 36 = .ok (.if_icmp .ne 33, 3) := by decide +kernel
theorem d_R_hasItem_39 : decode b_R_hasItem 39 = .ok (.aload_n 0, 1) := by decide +kernel
theorem d_R_hasItem_40 : decode b_R_hasItem 40 = .ok (.getfield 24, 3) := by decide +kernel
theorem d_R_hasItem_43 : decode b_R_hasItem 43 = .ok (.iload 4, 2) := by decide +kernel
theorem d_R_hasItem_45 : decode b_R_hasItem 45 = .ok (.baload, 1) := by decide +kernel
theorem d_R_hasItem_46 : decode b_R_hasItem 46 = .ok (.iload_n 3, 1) := by decide +kernel
theorem d_R_hasItem_47 : decode b_R_hasItem 47 = .ok (.if_icmp .ne 22, 3) := by decide +kernel
theorem d_R_hasItem_50 : decode b_R_hasItem 50 = .ok (.iload_n 2, 1) := by decide +kernel
theorem d_R_hasItem_51 : decode b_R_hasItem 51 = .ok (.ifCond .lt 18, 3) := by decide +kernel
theorem d_R_hasItem_54 : decode b_R_hasItem 54 = .ok (.iload_n 2, 1) := by decide +kernel
theorem d_R_hasItem_55 : decode b_R_hasItem 55 = .ok (.aload_n 0, 1) := by decide +kernel
theorem d_R_hasItem_56 : decode b_R_hasItem 56 = .ok (.getfield 20, 3) := by decide +kernel
theorem d_R_hasItem_59 : decode b_R_hasItem 59 = .ok (.iload 4, 2) := by decide +kernel
theorem d_R_hasItem_61 : decode b_R_hasItem 61 = .ok (.saload, 1) := by decide +kernel
theorem d_R_hasItem_62 : decode b_R_hasItem 62 = .ok (.if_icmp .ge 7, 3) := by decide +kernel
theorem d_R_hasItem_65 : decode b_R_hasItem 65 = .ok (.iconst 1, 1) := by decide +kernel
theorem d_R_hasItem_66 : decode b_R_hasItem 66 = .ok (.goto 4, 3) := by decide +kernel
theorem d_R_hasItem_69 : decode b_R_hasItem 69 = .ok (.iconst 0, 1) := by decide +kernel
theorem d_R_hasItem_70 : decode b_R_hasItem 70 = .ok (.ireturn, 1) := by decide +kernel
theorem d_R_item_0 : decode b_R_item 0 = .ok (.aload_n 0, 1) := by decide +kernel
theorem d_R_item_1 : decode b_R_item 1 = .ok (.getfield 36, 3) := by decide +kernel
theorem d_R_item_4 : decode b_R_item 4 = .ok (.iload_n 1, 1) := by decide +kernel
theorem d_R_item_5 : decode b_R_item 5 = .ok (.iaload, 1) := by decide +kernel
theorem d_R_item_6 : decode b_R_item 6 = .ok (.iconst 1, 1) := by decide +kernel
theorem d_R_item_7 : decode b_R_item 7 = .ok (.isub, 1) := by decide +kernel
theorem d_R_item_8 : decode b_R_item 8 = .ok (.istore_n 3, 1) := by decide +kernel
theorem d_R_item_9 : decode b_R_item 9 = .ok (.aload_n 0, 1) := by decide +kernel
theorem d_R_item_10 : decode b_R_item 10 = .ok (.getfield 20, 3) := by decide +kernel
theorem d_R_item_13 : decode b_R_item 13 = .ok (.iload_n 3, 1) := by decide +kernel
theorem d_R_item_14 : decode b_R_item 14 = .ok (.saload, 1) := by decide +kernel
theorem d_R_item_15 : decode b_R_item 15 = .ok (.invokestatic 99, 3) := by decide +kernel
theorem d_R_item_18 : decode b_R_item 18 = .ok (.istore 4, 2) := by decide +kernel
theorem d_R_item_20 : decode b_R_item 20 = .ok (.iload 4, 2) := by decide +kernel
theorem d_R_item_22 : decode b_R_item 22 = .ok (.iconst 3, 1) := by decide +kernel
theorem d_R_item_23 : decode b_R_item 23 = .ok (.if_icmp .ne 9, 3) := by decide +kernel
theorem d_R_item_26 : decode b_R_item 26 = .ok (.sipush 225, 3) := by decide +kernel
theorem d_R_item_29 : decode b_R_item 29 = .ok (.goto 15, 3) := by decide +kernel
theorem d_R_item_32 : decode b_R_item 32 = .ok (.iload 4, 2) := by decide +kernel
theorem d_R_item_34 : decode b_R_item 34 = .ok (.iconst 2, 1) := by decide +kernel
theorem d_R_item_35 : decode b_R_item 35 = .ok (.if_icmp .ne 8, 3) := by decide +kernel
theorem d_R_item_38 : decode b_R_item 38 = .ok (.bipush 15, 2) := by decide +kernel
theorem d_R_item_40 : decode b_R_item 40 = .ok (.goto 4, 3) := by decide +kernel
theorem d_R_item_43 : decode b_R_item 43 = .ok (.iconst 1, 1) := by decide +kernel
theorem d_R_item_44 : decode b_R_item 44 = .ok (.istore 5, 2) := by decide +kernel
theorem d_R_item_46 : decode b_R_item 46 = .ok (.iload_n 2, 1) := by decide +kernel
theorem d_R_item_47 : decode b_R_item 47 = .ok (.istore 6, 2) := by decide +kernel
theorem d_R_item_49 : decode b_R_item 49 = .ok (.iload 5, 2) := by decide +kernel
theorem d_R_item_51 : decode b_R_item 51 = .ok (.iconst 1, 1) := by decide +kernel
theorem d_R_item_52 : decode b_R_item 52 = .ok (.if_icmp .le 75, 3) := by decide +kernel
theorem d_R_item_55 : decode b_R_item 55 = .ok (.iload_n 3, 1) := by decide +kernel
theorem d_R_item_56 : decode b_R_item 56 = .ok (.bipush 16, 2) := by decide +kernel
theorem d_R_item_58 : decode b_R_item 58 = .ok (.imul, 1) := by decide +kernel
theorem d_R_item_59 : decode b_R_item 59 = .ok (.iload 6, 2) := by decide +kernel
theorem d_R_item_61 : decode b_R_item 61 = .ok (.iload 5, 2) := by decide +kernel
theorem d_R_item_63 : decode b_R_item 63 = .ok (.idiv, 1) := by decide +kernel
theorem d_R_item_64 : decode b_R_item 64 = .ok (.iadd, 1) := by decide +kernel
theorem d_R_item_65 : decode b_R_item 65 = .ok (.istore 7, 2) := by decide +kernel
theorem d_R_item_67 : decode b_R_item 67 = .ok (.iload 6, 2) := by decide +kernel
theorem d_R_item_69 : decode b_R_item 69 = .ok (.iload 5, 2) := by decide +kernel
theorem d_R_item_71 : decode b_R_item 71 = .ok (.irem, 1) := by decide +kernel
theorem d_R_item_72 : decode b_R_item 72 = .ok (.istore 6, 2) := by decide +kernel
theorem d_R_item_74 : decode b_R_item 74 = .ok (.iload 5, 2) := by decide +kernel
theorem d_R_item_76 : decode b_R_item 76 = .ok (.bipush 15, 2) := by decide +kernel
theorem d_R_item_78 : decode b_R_item 78 = .ok (.idiv, 1) := by decide +kernel
theorem d_R_item_79 : decode b_R_item 79 = .ok (.istore 5, 2) := by decide +kernel
theorem d_R_item_81 : decode b_R_item 81 = .ok (.aload_n 0, 1) := by decide +kernel
theorem d_R_item_82 : decode b_R_item 82 = .ok (.getfield 29, 3) := by decide +kernel
theorem d_R_item_85 : decode b_R_item 85 = .ok (.iload 7, 2) := by decide +kernel
theorem d_R_item_87 : decode b_R_item 87 = .ok (.iaload, 1) := by decide +kernel
theorem d_R_item_88 : decode b_R_item 88 = .ok (.ifCond .ne 26, 3) := by decide +kernel
theorem d_R_item_91 : decode b_R_item 91 = .ok (.aload_n 0, 1) := by decide +kernel
theorem d_R_item_92 : decode b_R_item 92 = .ok (.iload 7, 2) := by decide +kernel
theorem d_R_item_94 : decode b_R_item 94 = .ok (.putfield 110, 3) := by decide +kernel
theorem d_R_item_97 : decode b_R_item 97 = .ok (.aload_n 0, 1) := by decide +kernel
theorem d_R_item_98 : decode b_R_item 98 = .ok (.iload 5, 2) := by decide +kernel
theorem d_R_item_100 : decode b_R_item 100 = .ok (.iconst 1, 1) := by decide +kernel
theorem d_R_item_101 : decode b_R_item 101 = .ok (.if_icmp .ne 7, 3) := by decide +kernel
theorem d_R_item_104 : decode b_R_item 104 = .ok (.iconst 1, 1) := by decide +kernel
theorem d_R_item_105 : decode b_R_item 105 = .ok (.goto 4, 3) := by decide +kernel
theorem d_R_item_108 : decode b_R_item 108 = .ok (.iconst 0, 1) := by decide +kernel
theorem d_R_item_109 : decode b_R_item 109 = .ok (.putfield 113, 3) := by decide +kernel
theorem d_R_item_112 : decode b_R_item 112 = .ok (.iconst (-1), 1) := by decide +kernel
theorem d_R_item_113 : decode b_R_item 113 = .ok (.ireturn, 1) := by decide +kernel
theorem d_R_item_114 : decode b_R_item 114 = .ok (.aload_n 0, 1) := by decide +kernel
theorem d_R_item_115 : decode b_R_item 115 = .ok (.getfield 29, 3) := by decide +kernel
theorem d_R_item_118 : decode b_R_item 118 = .ok (.iload 7, 2) := by decide +kernel
theorem d_R_item_120 : decode b_R_item 120 = .ok (.iaload, 1) := by decide +kernel
theorem d_R_item_121 : decode b_R_item 121 = .ok (.iconst 1, 1) := by decide +kernel
theorem d_R_item_122 : decode b_R_item 122 = .ok (.isub, 1) := by decide +kernel
theorem d_R_item_123 : decode b_R_item 123 = .ok (.istore_n 3, 1) := by decide +kernel
theorem d_R_item_124 : decode b_R_item 124 = .ok (.goto (-75), 3) := by decide +kernel
theorem d_R_item_127 : decode b_R_item 127 = .ok (.iload_n 3, 1) := by decide +kernel
theorem d_R_item_128 : decode b_R_item 128 = .ok (.bipush 16, 2) := by decide +kernel
theorem d_R_item_130 : decode b_R_item 130 = .ok (.imul, 1) := by decide +kernel
theorem d_R_item_131 : decode b_R_item 131 = .ok (.iload 6, 2) := by decide +kernel
theorem d_R_item_133 : decode b_R_item 133 = .ok (.iadd, 1) := by decide +kernel
theorem d_R_item_134 : decode b_R_item 134 = .ok (.ireturn, 1) := by decide +kernel
theorem d_R_fill_0 : decode b_R_fill 0 = .ok (.aload_n 0, 1) := by decide +kernel
theorem d_R_fill_1 : decode b_R_fill 1 = .ok (.bipush 16, 2) := by decide +kernel
theorem d_R_fill_3 : decode b_R_fill 3 = .ok (.invokevirtual 92, 3) := by decide +kernel
theorem d_R_fill_6 : decode b_R_fill 6 = .ok (.ifCond .ne 5, 3) := by decide +kernel
theorem d_R_fill_9 : decode b_R_fill 9 = .ok (.iconst 0, 1) := by decide +kernel
theorem d_R_fill_10 : decode b_R_fill 10 = .ok (.ireturn, 1) := by decide +kernel
theorem d_R_fill_11 : decode b_R_fill 11 = .ok (.iload_n 1, 1) := by decide +kernel
theorem d_R_fill_12 : decode b_R_fill 12 = .ok (.ifCond .ne 10, 3) := by decide +kernel
theorem d_R_fill_15 : decode b_R_fill 15 = .ok (.aload_n 0, 1) := by decide +kernel
theorem d_R_fill_16 : decode b_R_fill 16 = .ok (.getfield 113, 3) := by decide +kernel
theorem d_R_fill_19 : decode b_R_fill 19 = .ok (.ifCond .ne 7, 3) := by decide +kernel
theorem d_R_fill_22 : decode b_R_fill 22 = .ok (.iconst 1, 1) := by decide +kernel
theorem d_R_fill_23 : decode b_R_fill 23 = .ok (.goto 4, 3) := by decide +kernel
theorem d_R_fill_26 : decode b_R_fill 26 = .ok (.iconst 0, 1) := by decide +kernel
theorem d_R_fill_27 : decode b_R_fill 27 = .ok (.istore_n 2, 1) := by decide +kernel
theorem d_R_fill_28 : decode b_R_fill 28 = .ok (.aload_n 0, 1) := by decide +kernel
theorem d_R_fill_29 : decode b_R_fill 29 = .ok (.getfield 110, 3) := by decide +kernel
theorem d_R_fill_32 : decode b_R_fill 32 = .ok (.istore_n 3, 1) := by decide +kernel
theorem d_R_fill_33 : decode b_R_fill 33 = .ok (.aload_n 0, 1) := by decide +kernel
theorem d_R_fill_34 : decode b_R_fill 34 = .ok (.getfield 29, 3) := by decide +kernel
theorem d_R_fill_37 : decode b_R_fill 37 = .ok (.iload_n 3, 1) := by decide +kernel
theorem d_R_fill_38 : decode b_R_fill 38 = .ok (.aload_n 0, 1) := by decide +kernel
theorem d_R_fill_39 : decode b_R_fill 39 = .ok (.iconst 3, 1) := by decide +kernel
theorem d_R_fill_40 : decode b_R_fill 40 = .ok (.iload_n 2, 1) := by decide +kernel
theorem d_R_fill_41 : decode b_R_fill 41 = .ok (.ifCond .eq 8, 3) := by decide +kernel
theorem d_R_fill_44 : decode b_R_fill 44 = .ok (.bipush 15, 2) := by decide +kernel
theorem d_R_fill_46 : decode b_R_fill 46 = .ok (.goto 4, 3) := by decide +kernel
theorem d_R_fill_49 : decode b_R_fill 49 = .ok (.iconst 0, 1) := by decide +kernel
theorem d_R_fill_50 : decode b_R_fill 50 = .ok (.iload_n 2, 1) := by decide +kernel
theorem d_R_fill_51 : decode b_R_fill 51 = .ok (.ifCond .eq 7, 3) := by decide +kernel
theorem d_R_fill_54 : decode b_R_fill 54 = .ok (.iconst 0, 1) := by decide +kernel
theorem d_R_fill_55 : decode b_R_fill 55 = .ok (.goto 5, 3) := by decide +kernel
theorem d_R_fill_58 : decode b_R_fill 58 = .ok (.bipush 15, 2) := by decide +kernel
theorem d_R_fill_60 : decode b_R_fill 60 = .ok (.invokevirtual 95, 3) := by decide +kernel
theorem d_R_fill_63 : decode b_R_fill 63 = .ok (.iconst 1, 1) := by decide +kernel
theorem d_R_fill_64 : decode b_R_fill 64 = .ok (.iadd, 1) := by decide +kernel
theorem d_R_fill_65 : decode b_R_fill 65 = .ok (.iastore, 1) := by decide +kernel
theorem d_R_fill_66 : decode b_R_fill 66 = .ok (.iconst 2, 1) := by decide +kernel
theorem d_R_fill_67 : decode b_R_fill 67 = .ok (.ireturn, 1) := by decide +kernel
theorem d_R_getItem_0 : decode b_R_getItem 0 = .ok (.iload_n 1, 1) := by decide +kernel
theorem d_R_getItem_1 : decode b_R_getItem 1 = .ok (.invokestatic 88, 3) := by decide +kernel
theorem d_R_getItem_4 : decode b_R_getItem 4 = .ok (.ifCond .eq 13, 3) := by decide +kernel
theorem d_R_getItem_7 : decode b_R_getItem 7 = .ok (.aload_n 0, 1) := by decide +kernel
theorem d_R_getItem_8 : decode b_R_getItem 8 = .ok (.iload_n 2, 1) := by decide +kernel
theorem d_R_getItem_9 : decode b_R_getItem 9 = .ok (.iload_n 3, 1) := by decide +kernel
theorem d_R_getItem_10 : decode b_R_getItem 10 = .ok (.iconst 1, 1) := by decide +kernel
theorem d_R_getItem_11 : decode b_R_getItem 11 = .ok (.invokevirtual 117, 3) := by decide +kernel
theorem d_R_getItem_14 : decode b_R_getItem 14 = .ok (.ifCond .ne 5, 3) := by decide +kernel
theorem d_R_getItem_17 : decode b_R_getItem 17 = .ok (.iconst 0, 1) := by decide +kernel
theorem d_R_getItem_18 : decode b_R_getItem 18 = .ok (.ireturn, 1) := by decide +kernel
theorem d_R_getItem_19 : decode b_R_getItem 19 = .ok (.aload_n 0, 1) := by decide +kernel
theorem d_R_getItem_20 : decode b_R_getItem 20 = .ok (.iload_n 2, 1) := by decide +kernel
theorem d_R_getItem_21 : decode b_R_getItem 21 = .ok (.iload_n 3, 1) := by decide +kernel
theorem d_R_getItem_22 : decode b_R_getItem 22 = .ok (.invokevirtual 121, 3) := by decide +kernel
theorem d_R_getItem_25 : decode b_R_getItem 25 = .ok (.istore 4, 2) := by decide +kernel
theorem d_R_getItem_27 : decode b_R_getItem 27 = .ok (.aload_n 0, 1) := by decide +kernel
theorem d_R_getItem_28 : decode b_R_getItem 28 = .ok (.getfield 36, 3) := by decide +kernel
theorem d_R_getItem_31 : decode b_R_getItem 31 = .ok (.iload_n 1, 1) := by decide +kernel
theorem d_R_getItem_32 : decode b_R_getItem 32 = .ok (.iload 4, 2) := by decide +kernel
theorem d_R_getItem_34 : decode b_R_getItem 34 = .ok (.iconst (-1), 1) := by decide +kernel
theorem d_R_getItem_35 : decode b_R_getItem 35 = .ok (.if_icmp .ne 7, 3) := by decide +kernel
theorem d_R_getItem_38 : decode b_R_getItem 38 = .ok (.iconst 0, 1) := by decide +kernel
theorem d_R_getItem_39 : decode b_R_getItem 39 = .ok (.goto 10, 3) := by decide +kernel
theorem d_R_getItem_42 : decode b_R_getItem 42 = .ok (.aload_n 0, 1) := by decide +kernel
theorem d_R_getItem_43 : decode b_R_getItem 43 = .ok (.getfield 29, 3) := by decide +kernel
theorem d_R_getItem_46 : decode b_R_getItem 46 = .ok (.iload 4, 2) := by decide +kernel
theorem d_R_getItem_48 : decode b_R_getItem 48 = .ok (.iaload, 1) := by decide +kernel
theorem d_R_getItem_49 : decode b_R_getItem 49 = .ok (.iastore, 1) := by decide +kernel
theorem d_R_getItem_50 : decode b_R_getItem 50 = .ok (.iconst 1, 1) := by decide +kernel
theorem d_R_getItem_51 : decode b_R_getItem 51 = .ok (.ireturn, 1) := by decide +kernel
theorem d_R_putItem_0 : decode b_R_putItem 0 = .ok (.iload_n 3, 1) := by decide +kernel
theorem d_R_putItem_1 : decode b_R_putItem 1 = .ok (.invokestatic 88, 3) := by decide +kernel
theorem d_R_putItem_4 : decode b_R_putItem 4 = .ok (.ifCond .eq 13, 3) := by decide +kernel
theorem d_R_putItem_7 : decode b_R_putItem 7 = .ok (.aload_n 0, 1) := by decide +kernel
theorem d_R_putItem_8 : decode b_R_putItem 8 = .ok (.iload_n 1, 1) := by decide +kernel
theorem d_R_putItem_9 : decode b_R_putItem 9 = .ok (.iload_n 2, 1) := by decide +kernel
theorem d_R_putItem_10 : decode b_R_putItem 10 = .ok (.iconst 1, 1) := by decide +kernel
theorem d_R_putItem_11 : decode b_R_putItem 11 = .ok (.invokevirtual 117, 3) := by decide +kernel
theorem d_R_putItem_14 : decode b_R_putItem 14 = .ok (.ifCond .ne 5, 3) := by decide +kernel
theorem d_R_putItem_17 : decode b_R_putItem 17 = .ok (.iconst (-1), 1) := by decide +kernel
theorem d_R_putItem_18 : decode b_R_putItem 18 = .ok (.ireturn, 1) := by decide +kernel
theorem d_R_putItem_19 : decode b_R_putItem 19 = .ok (.aload_n 0, 1) := by decide +kernel
theorem d_R_putItem_20 : decode b_R_putItem 20 = .ok (.iload_n 1, 1) := by decide +kernel
theorem d_R_putItem_21 : decode b_R_putItem 21 = .ok (.iload_n 2, 1) := by decide +kernel
theorem d_R_putItem_22 : decode b_R_putItem 22 = .ok (.invokevirtual 121, 3) := by decide +kernel
theorem d_R_putItem_25 : decode b_R_putItem 25 = .ok (.istore 4, 2) := by decide +kernel
theorem d_R_putItem_27 : decode b_R_putItem 27 = .ok (.iload 4, 2) := by decide +kernel
theorem d_R_putItem_29 : decode b_R_putItem 29 = .ok (.iconst (-1), 1) := by decide +kernel
theorem d_R_putItem_30 : decode b_R_putItem 30 = .ok (.if_icmp .ne 9, 3) := by decide +kernel
theorem d_R_putItem_33 : decode b_R_putItem 33 = .ok (.aload_n 0, 1) := by decide +kernel
theorem d_R_putItem_34 : decode b_R_putItem 34 = .ok (.iconst 1, 1) := by decide +kernel
theorem d_R_putItem_35 : decode b_R_putItem 35 = .ok (.invokevirtual 125, 3) := by decide +kernel
theorem d_R_putItem_38 : decode b_R_putItem 38 = .ok (.ireturn, 1) := by decide +kernel
theorem d_R_putItem_39 : decode b_R_putItem 39 = .ok (.aload_n 0, 1) := by decide +kernel
theorem d_R_putItem_40 : decode b_R_putItem 40 = .ok (.getfield 29, 3) := by decide +kernel
theorem d_R_putItem_43 : decode b_R_putItem 43 = .ok (.iload 4, 2) := by decide +kernel
theorem d_R_putItem_45 : decode b_R_putItem 45 = .ok (.aload_n 0, 1) := by decide +kernel
theorem d_R_putItem_46 : decode b_R_putItem 46 = .ok (.getfield 36, 3) := by decide +kernel
theorem d_R_putItem_49 : decode b_R_putItem 49 = .ok (.iload_n 3, 1) := by decide +kernel
theorem d_R_putItem_50 : decode b_R_putItem 50 = .ok (.iaload, 1) := by decide +kernel
theorem d_R_putItem_51 : decode b_R_putItem 51 = .ok (.iastore, 1) := by decide +kernel
theorem d_R_putItem_52 : decode b_R_putItem 52 = .ok (.iconst 1, 1) := by decide +kernel
theorem d_R_putItem_53 : decode b_R_putItem 53 = .ok (.ireturn, 1) := by decide +kernel
theorem d_R_lookItem_0 : decode b_R_lookItem 0 = .ok (.aload_n 0, 1) := by decide +kernel
theorem d_R_lookItem_1 : decode b_R_lookItem 1 = .ok (.iload_n 1, 1) := by decide +kernel
theorem d_R_lookItem_2 : decode b_R_lookItem 2 = .ok (.iload_n 2, 1) := by decide +kernel
theorem d_R_lookItem_3 : decode b_R_lookItem 3 = .ok (.iconst 0, 1) := by decide +kernel
theorem d_R_lookItem_4 : decode b_R_lookItem 4 = .ok (.invokevirtual 117, 3) := by decide +kernel
theorem d_R_lookItem_7 : decode b_R_lookItem 7 = .ok (.ifCond .ne 7, 3) := by decide +kernel
theorem d_R_lookItem_10 : decode b_R_lookItem 10 = .ok (.ldc2_w 108, 3) := by decide +kernel
theorem d_R_lookItem_13 : decode b_R_lookItem 13 = .ok (.lreturn, 1) := by decide +kernel
theorem d_R_lookItem_14 : decode b_R_lookItem 14 = .ok (.aload_n 0, 1) := by decide +kernel
theorem d_R_lookItem_15 : decode b_R_lookItem 15 = .ok (.iload_n 1, 1) := by decide +kernel
theorem d_R_lookItem_16 : decode b_R_lookItem 16 = .ok (.iload_n 2, 1) := by decide +kernel
theorem d_R_lookItem_17 : decode b_R_lookItem 17 = .ok (.invokevirtual 121, 3) := by decide +kernel
theorem d_R_lookItem_20 : decode b_R_lookItem 20 = .ok (.istore_n 3, 1) := by decide +kernel
theorem d_R_lookItem_21 : decode b_R_lookItem 21 = .ok (.iload_n 3, 1) := by decide +kernel
theorem d_R_lookItem_22 : decode b_R_lookItem 22 = .ok (.iconst (-1), 1) := by decide +kernel
theorem d_R_lookItem_23 : decode b_R_lookItem 23 = .ok (.if_icmp .ne 7, 3) := by decide +kernel
theorem d_R_lookItem_26 : decode b_R_lookItem 26 = .ok (.lconst 0, 1) := by decide +kernel
theorem d_R_lookItem_27 : decode b_R_lookItem 27 = .ok (.goto 10, 3) := by decide +kernel
theorem d_R_lookItem_30 : decode b_R_lookItem 30 = .ok (.aload_n 0, 1) := by decide +kernel
theorem d_R_lookItem_31 : decode b_R_lookItem 31 = .ok (.getfield 29, 3) := by decide +kernel
theorem d_R_lookItem_34 : decode b_R_lookItem 34 = .ok (.iload_n 3, 1) := by decide +kernel
theorem d_R_lookItem_35 : decode b_R_lookItem 35 = .ok (.iaload, 1) := by decide +kernel
theorem d_R_lookItem_36 : decode b_R_lookItem 36 = .ok (.i2l, 1) := by decide +kernel
theorem d_R_lookItem_37 : decode b_R_lookItem 37 = .ok (.lreturn, 1) := by decide +kernel
theorem d_R_setItem_0 : decode b_R_setItem 0 = .ok (.aload_n 0, 1) := by decide +kernel
theorem d_R_setItem_1 : decode b_R_setItem 1 = .ok (.iload_n 1, 1) := by decide +kernel
theorem d_R_setItem_2 : decode b_R_setItem 2 = .ok (.iload_n 2, 1) := by decide +kernel
theorem d_R_setItem_3 : decode b_R_setItem 3 = .ok (.iconst 0, 1) := by decide +kernel
theorem d_R_setItem_4 : decode b_R_setItem 4 = .ok (.invokevirtual 117, 3) := by decide +kernel
theorem d_R_setItem_7 : decode b_R_setItem 7 = .ok (.ifCond .ne 5, 3) := by decide +kernel
theorem d_R_setItem_10 : decode b_R_setItem 10 = .ok (.iconst (-1), 1) := by decide +kernel
theorem d_R_setItem_11 : decode b_R_setItem 11 = .ok (.ireturn, 1) := by decide +kernel
theorem d_R_setItem_12 : decode b_R_setItem 12 = .ok (.aload_n 0, 1) := by decide +kernel
theorem d_R_setItem_13 : decode b_R_setItem 13 = .ok (.iload_n 1, 1) := by decide +kernel
theorem d_R_setItem_14 : decode b_R_setItem 14 = .ok (.iload_n 2, 1) := by decide +kernel
theorem d_R_setItem_15 : decode b_R_setItem 15 = .ok (.invokevirtual 121, 3) := by decide +kernel
theorem d_R_setItem_18 : decode b_R_setItem 18 = .ok (.istore 4, 2) := by decide +kernel
theorem d_R_setItem_20 : decode b_R_setItem 20 = .ok (.iload 4, 2) := by decide +kernel
theorem d_R_setItem_22 : decode b_R_setItem 22 = .ok (.iconst (-1), 1) := by decide +kernel
theorem d_R_setItem_23 : decode b_R_setItem 23 = .ok (.if_icmp .ne 9, 3) := by decide +kernel
theorem d_R_setItem_26 : decode b_R_setItem 26 = .ok (.aload_n 0, 1) := by decide +kernel
theorem d_R_setItem_27 : decode b_R_setItem 27 = .ok (.iconst 0, 1) := by decide +kernel
theorem d_R_setItem_28 : decode b_R_setItem 28 = .ok (.invokevirtual 125, 3) := by decide +kernel
theorem d_R_setItem_31 : decode b_R_setItem 31 = .ok (.ireturn, 1) := by decide +kernel
theorem d_R_setItem_32 : decode b_R_setItem 32 = .ok (.aload_n 0, 1) := by decide +kernel
theorem d_R_setItem_33 : decode b_R_setItem 33 = .ok (.getfield 29, 3) := by decide +kernel
theorem d_R_setItem_36 : decode b_R_setItem 36 = .ok (.iload 4, 2) := by decide +kernel
theorem d_R_setItem_38 : decode b_R_setItem 38 = .ok (.iload_n 3, 1) := by decide +kernel
theorem d_R_setItem_39 : decode b_R_setItem 39 = .ok (.iastore, 1) := by decide +kernel
theorem d_R_setItem_40 : decode b_R_setItem 40 = .ok (.iconst 1, 1) := by decide +kernel
theorem d_R_setItem_41 : decode b_R_setItem 41 = .ok (.ireturn, 1) := by decide +kernel
theorem d_R_copy_0 : decode b_R_copy 0 = .ok (.iload_n 1, 1) := by decide +kernel
theorem d_R_copy_1 : decode b_R_copy 1 = .ok (.invokestatic 88, 3) := by decide +kernel
theorem d_R_copy_4 : decode b_R_copy 4 = .ok (.ifCond .eq 10, 3) := by decide +kernel
theorem d_R_copy_7 : decode b_R_copy 7 = .ok (.iload_n 2, 1) := by decide +kernel
theorem d_R_copy_8 : decode b_R_copy 8 = .ok (.invokestatic 88, 3) := by decide +kernel
theorem d_R_copy_11 : decode b_R_copy 11 = .ok (.ifCond .ne 5, 3) := by decide +kernel
theorem d_R_copy_14 : decode b_R_copy 14 = .ok (.iconst 0, 1) := by decide +kernel
theorem d_R_copy_15 : decode b_R_copy 15 = .ok (.ireturn, 1) := by decide +kernel
theorem d_R_copy_16 : decode b_R_copy 16 = .ok (.aload_n 0, 1) := by decide +kernel
theorem d_R_copy_17 : decode b_R_copy 17 = .ok (.getfield 36, 3) := by decide +kernel
theorem d_R_copy_20 : decode b_R_copy 20 = .ok (.iload_n 1, 1) := by decide +kernel
theorem d_R_copy_21 : decode b_R_copy 21 = .ok (.aload_n 0, 1) := by decide +kernel
theorem d_R_copy_22 : decode b_R_copy 22 = .ok (.getfield 36, 3) := by decide +kernel
theorem d_R_copy_25 : decode b_R_copy 25 = .ok (.iload_n 2, 1) := by decide +kernel
theorem d_R_copy_26 : decode b_R_copy 26 = .ok (.iaload, 1) := by decide +kernel
theorem d_R_copy_27 : decode b_R_copy 27 = .ok (.iastore, 1) := by decide +kernel
theorem d_R_copy_28 : decode b_R_copy 28 = .ok (.iconst 1, 1) := by decide +kernel
theorem d_R_copy_29 : decode b_R_copy 29 = .ok (.ireturn, 1) := by decide +kernel
theorem d_R_drop_0 : decode b_R_drop 0 = .ok (.iload_n 1, 1) := by decide +kernel
theorem d_R_drop_1 : decode b_R_drop 1 = .ok (.invokestatic 88, 3) := by decide +kernel
theorem d_R_drop_4 : decode b_R_drop 4 = .ok (.ifCond .eq 12, 3) := by decide +kernel
theorem d_R_drop_7 : decode b_R_drop 7 = .ok (.aload_n 0, 1) := by decide +kernel
theorem d_R_drop_8 : decode b_R_drop 8 = .ok (.getfield 36, 3) := by decide +kernel
theorem d_R_drop_11 : decode b_R_drop 11 = .ok (.iload_n 1, 1) := by decide +kernel
theorem d_R_drop_12 : decode b_R_drop 12 = .ok (.iaload, 1) := by decide +kernel
theorem d_R_drop_13 : decode b_R_drop 13 = .ok (.ifCond .ne 5, 3) := by decide +kernel
theorem d_R_drop_16 : decode b_R_drop 16 = .ok (.iconst 0, 1) := by decide +kernel
theorem d_R_drop_17 : decode b_R_drop 17 = .ok (.ireturn, 1) := by decide +kernel
theorem d_R_drop_18 : decode b_R_drop 18 = .ok (.aload_n 0, 1) := by decide +kernel
theorem d_R_drop_19 : decode b_R_drop 19 = .ok (.getfield 36, 3) := by decide +kernel
theorem d_R_drop_22 : decode b_R_drop 22 = .ok (.iload_n 1, 1) := by decide +kernel
theorem d_R_drop_23 : decode b_R_drop 23 = .ok (.iconst 0, 1) := by decide +kernel
theorem d_R_drop_24 : decode b_R_drop 24 = .ok (.iastore, 1) := by decide +kernel
theorem d_R_drop_25 : decode b_R_drop 25 = .ok (.iconst 1, 1) := by decide +kernel
theorem d_R_drop_26 : decode b_R_drop 26 = .ok (.ireturn, 1) := by decide +kernel
theorem d_R_same_0 : decode b_R_same 0 = .ok (.iload_n 1, 1) := by decide +kernel
theorem d_R_same_1 : decode b_R_same 1 = .ok (.invokestatic 88, 3) := by decide +kernel
theorem d_R_same_4 : decode b_R_same 4 = .ok (.ifCond .eq 29, 3) := by decide +kernel
theorem d_R_same_7 : decode b_R_same 7 = .ok (.iload_n 2, 1) := by decide +kernel
theorem d_R_same_8 : decode b_R_same 8 = .ok (.invokestatic 88, 3) := by decide +kernel
theorem d_R_same_11 : decode b_R_same 11 = .ok (.ifCond .eq 22, 3) := by decide +kernel
theorem d_R_same_14 : decode b_R_same 14 = .ok (.aload_n 0, 1) := by decide +kernel
theorem d_R_same_15 : decode b_R_same 15 = .ok (.getfield 36, 3) := by decide +kernel
theorem d_R_same_18 : decode b_R_same 18 = .ok (.iload_n 1, 1) := by decide +kernel
theorem d_R_same_19 : decode b_R_same 19 = .ok (.iaload, 1) := by decide +kernel
theorem d_R_same_20 : decode b_R_same 20 = .ok (.aload_n 0, 1) := by decide +kernel
theorem d_R_same_21 : decode b_R_same 21 = .ok (.getfield 36, 3) := by decide +kernel
theorem d_R_same_24 : decode b_R_same 24 = .ok (.iload_n 2, 1) := by decide +kernel
theorem d_R_same_25 : decode b_R_same 25 = .ok (.iaload, 1) := by decide +kernel
theorem d_R_same_26 : decode b_R_same 26 = .ok (.if_icmp .ne 7, 3) := by decide +kernel
theorem d_R_same_29 : decode b_R_same 29 = .ok (.iconst 1, 1) := by decide +kernel
theorem d_R_same_30 : decode b_R_same 30 = .ok (.goto 4, 3) := by decide +kernel
theorem d_R_same_33 : decode b_R_same 33 = .ok (.iconst 0, 1) := by decide +kernel
theorem d_R_same_34 : decode b_R_same 34 = .ok (.ireturn, 1) := by decide +kernel
theorem d_R_size_0 : decode b_R_size 0 = .ok (.iload_n 1, 1) := by decide +kernel
theorem d_R_size_1 : decode b_R_size 1 = .ok (.invokestatic 88, 3) := by decide +kernel
theorem d_R_size_4 : decode b_R_size 4 = .ok (.ifCond .eq 12, 3) := by decide +kernel
theorem d_R_size_7 : decode b_R_size 7 = .ok (.aload_n 0, 1) := by decide +kernel
theorem d_R_size_8 : decode b_R_size 8 = .ok (.getfield 36, 3) := by decide +kernel
theorem d_R_size_11 : decode b_R_size 11 = .ok (.iload_n 1, 1) := by decide +kernel
theorem d_R_size_12 : decode b_R_size 12 = .ok (.iaload, 1) := by decide +kernel
theorem d_R_size_13 : decode b_R_size 13 = .ok (.ifCond .ne 5, 3) := by decide +kernel
theorem d_R_size_16 : decode b_R_size 16 = .ok (.iconst (-1), 1) := by decide +kernel
theorem d_R_size_17 : decode b_R_size 17 = .ok (.ireturn, 1) := by decide +kernel
theorem d_R_size_18 : decode b_R_size 18 = .ok (.aload_n 0, 1) := by decide +kernel
theorem d_R_size_19 : decode b_R_size 19 = .ok (.getfield 36, 3) := by decide +kernel
theorem d_R_size_22 : decode b_R_size 22 = .ok (.iload_n 1, 1) := by decide +kernel
theorem d_R_size_23 : decode b_R_size 23 = .ok (.iaload, 1) := by decide +kernel
theorem d_R_size_24 : decode b_R_size 24 = .ok (.iconst 1, 1) := by decide +kernel
theorem d_R_size_25 : decode b_R_size 25 = .ok (.isub, 1) := by decide +kernel
theorem d_R_size_26 : decode b_R_size 26 = .ok (.istore_n 3, 1) := by decide +kernel
theorem d_R_size_27 : decode b_R_size 27 = .ok (.aload_n 0, 1) := by decide +kernel
theorem d_R_size_28 : decode b_R_size 28 = .ok (.getfield 10, 3) := by decide +kernel
theorem d_R_size_31 : decode b_R_size 31 = .ok (.iload_n 3, 1) := by decide +kernel
theorem d_R_size_32 : decode b_R_size 32 = .ok (.baload, 1) := by decide +kernel
theorem d_R_size_33 : decode b_R_size 33 = .ok (.iconst 1, 1) := by decide +kernel
theorem d_R_size_34 : decode b_R_size 34 = .ok (.if_icmp .ne 7, 3) := by decide +kernel
theorem d_R_size_37 : decode b_R_size 37 = .ok (.iconst 1, 1) := by decide +kernel
theorem d_R_size_38 : decode b_R_size 38 = .ok (.goto 4, 3) := by decide +kernel
theorem d_R_size_41 : decode b_R_size 41 = .ok (.iconst 0, 1) := by decide +kernel
theorem d_R_size_42 : decode b_R_size 42 = .ok (.istore 4, 2) := by decide +kernel
theorem d_R_size_44 : decode b_R_size 44 = .ok (.iload_n 2, 1) := by decide +kernel
theorem d_R_size_45 : decode b_R_size 45 = .ok (.tableswitch 85 0 3 #[31, 47, 63, 79], 31) := by decide +kernel
theorem d_R_size_76 : decode b_R_size 76 = .ok (.iload 4, 2) := by decide +kernel
theorem d_R_size_78 : decode b_R_size 78 = .ok (.ifCond .eq 12, 3) := by decide +kernel
theorem d_R_size_81 : decode b_R_size 81 = .ok (.aload_n 0, 1) := by decide +kernel
theorem d_R_size_82 : decode b_R_size 82 = .ok (.getfield 14, 3) := by decide +kernel
theorem d_R_size_85 : decode b_R_size 85 = .ok (.iload_n 3, 1) := by decide +kernel
theorem d_R_size_86 : decode b_R_size 86 = .ok (.baload, 1) := by decide +kernel
theorem d_R_size_87 : decode b_R_size 87 = .ok (.goto 4, 3) := by decide +kernel
theorem d_R_size_90 : decode b_R_size 90 = .ok (.iconst (-1), 1) := by decide +kernel
theorem d_R_size_91 : decode b_R_size 91 = .ok (.ireturn, 1) := by decide +kernel
theorem d_R_size_92 : decode b_R_size 92 = .ok (.iload 4, 2) := by decide +kernel
theorem d_R_size_94 : decode b_R_size 94 = .ok (.ifCond .eq 12, 3) := by decide +kernel
theorem d_R_size_97 : decode b_R_size 97 = .ok (.aload_n 0, 1) := by decide +kernel
theorem d_R_size_98 : decode b_R_size 98 = .ok (.getfield 17, 3) := by decide +kernel
theorem d_R_size_101 : decode b_R_size 101 = .ok (.iload_n 3, 1) := by decide +kernel
theorem d_R_size_102 : decode b_R_size 102 = .ok (.baload, 1) := by decide +kernel
theorem d_R_size_103 : decode b_R_size 103 = .ok (.goto 4, 3) := by decide +kernel
theorem d_R_size_106 : decode b_R_size 106 = .ok (.iconst (-1), 1) := by decide +kernel
theorem d_R_size_107 : decode b_R_size 107 = .ok (.ireturn, 1) := by decide +kernel
theorem d_R_size_108 : decode b_R_size 108 = .ok (.iload 4, 2) := by decide +kernel
theorem d_R_size_110 : decode b_R_size 110 = .ok (.ifCond .eq 7, 3) := by decide +kernel
theorem d_R_size_113 : decode b_R_size 113 = .ok (.iconst (-1), 1) := by decide +kernel
theorem d_R_size_114 : decode b_R_size 114 = .ok (.goto 9, 3) := by decide +kernel
theorem d_R_size_117 : decode b_R_size 117 = .ok (.aload_n 0, 1) := by decide +kernel
theorem d_R_size_118 : decode b_R_size 118 = .ok (.getfield 20, 3) := by decide +kernel
theorem d_R_size_121 : decode b_R_size 121 = .ok (.iload_n 3, 1) := by decide +kernel
theorem d_R_size_122 : decode b_R_size 122 = .ok (.saload, 1) := by decide +kernel
theorem d_R_size_123 : decode b_R_size 123 = .ok (.ireturn, 1) := by decide +kernel
theorem d_R_size_124 : decode b_R_size 124 = .ok (.aload_n 0, 1) := by decide +kernel
theorem d_R_size_125 : decode b_R_size 125 = .ok (.iload_n 3, 1) := by decide +kernel
theorem d_R_size_126 : decode b_R_size 126 = .ok (.invokevirtual 60, 3) := by decide +kernel
theorem d_R_size_129 : decode b_R_size 129 = .ok (.ireturn, 1) := by decide +kernel
theorem d_R_size_130 : decode b_R_size 130 = .ok (.iconst (-1), 1) := by decide +kernel
theorem d_R_size_131 : decode b_R_size 131 = .ok (.ireturn, 1) := by decide +kernel
theorem d_R_told_0 : decode b_R_told 0 = .ok (.iload_n 1, 1) := by decide +kernel
theorem d_R_told_1 : decode b_R_told 1 = .ok (.tableswitch 97 0 4 #[35, 40, 53, 69, 92], 35) := by decide +kernel
theorem d_R_told_36 : decode b_R_told 36 = .ok (.aload_n 0, 1) := by decide +kernel
theorem d_R_told_37 : decode b_R_told 37 = .ok (.getfield 81, 3) := by decide +kernel
theorem d_R_told_40 : decode b_R_told 40 = .ok (.ireturn, 1) := by decide +kernel
theorem d_R_told_41 : decode b_R_told 41 = .ok (.aload_n 0, 1) := by decide +kernel
theorem d_R_told_42 : decode b_R_told 42 = .ok (.invokevirtual 77, 3) := by decide +kernel
theorem d_R_told_45 : decode b_R_told 45 = .ok (.ifCond .eq 7, 3) := by decide +kernel
theorem d_R_told_48 : decode b_R_told 48 = .ok (.iconst 1, 1) := by decide +kernel
theorem d_R_told_49 : decode b_R_told 49 = .ok (.goto 4, 3) := by decide +kernel
theorem d_R_told_52 : decode b_R_told 52 = .ok (.iconst 0, 1) := by decide +kernel
theorem d_R_told_53 : decode b_R_told 53 = .ok (.ireturn, 1) := by decide +kernel
theorem d_R_told_54 : decode b_R_told 54 = .ok (.aload_n 0, 1) := by decide +kernel
theorem d_R_told_55 : decode b_R_told 55 = .ok (.invokevirtual 77, 3) := by decide +kernel
theorem d_R_told_58 : decode b_R_told 58 = .ok (.ifCond .eq 10, 3) := by decide +kernel
theorem d_R_told_61 : decode b_R_told 61 = .ok (.aload_n 0, 1) := by decide +kernel
theorem d_R_told_62 : decode b_R_told 62 = .ok (.getfield 74, 3) := by decide +kernel
theorem d_R_told_65 : decode b_R_told 65 = .ok (.goto 4, 3) := by decide +kernel
theorem d_R_told_68 : decode b_R_told 68 = .ok (.iconst (-1), 1) := by decide +kernel
theorem d_R_told_69 : decode b_R_told 69 = .ok (.ireturn, 1) := by decide +kernel
theorem d_R_told_70 : decode b_R_told 70 = .ok (.aload_n 0, 1) := by decide +kernel
theorem d_R_told_71 : decode b_R_told 71 = .ok (.getfield 70, 3) := by decide +kernel
theorem d_R_told_74 : decode b_R_told 74 = .ok (.ldc2_w 129, 3) := by decide +kernel
theorem d_R_told_77 : decode b_R_told 77 = .ok (.lcmp, 1) := by decide +kernel
theorem d_R_told_78 : decode b_R_told 78 = .ok (.ifCond .ge 10, 3) := by decide +kernel
theorem d_R_told_81 : decode b_R_told 81 = .ok (.aload_n 0, 1) := by decide +kernel
theorem d_R_told_82 : decode b_R_told 82 = .ok (.getfield 70, 3) := by decide +kernel
theorem d_R_told_85 : decode b_R_told 85 = .ok (.goto 6, 3) := by decide +kernel
theorem d_R_told_88 : decode b_R_told 88 = .ok (.ldc2_w 129, 3) := by decide +kernel
theorem d_R_told_91 : decode b_R_told 91 = .ok (.l2i, 1) := by decide +kernel
theorem d_R_told_92 : decode b_R_told 92 = .ok (.ireturn, 1) := by decide +kernel
theorem d_R_told_93 : decode b_R_told 93 = .ok (.aload_n 0, 1) := by decide +kernel
theorem d_R_told_94 : decode b_R_told 94 = .ok (.getfield 50, 3) := by decide +kernel
theorem d_R_told_97 : decode b_R_told 97 = .ok (.ireturn, 1) := by decide +kernel
theorem d_R_told_98 : decode b_R_told 98 = .ok (.iconst (-1), 1) := by decide +kernel
theorem d_R_told_99 : decode b_R_told 99 = .ok (.ireturn, 1) := by decide +kernel
theorem d_R_steady_0 : decode b_R_steady 0 = .ok (.iconst 1, 1) := by decide +kernel
theorem d_R_steady_1 : decode b_R_steady 1 = .ok (.ireturn, 1) := by decide +kernel
