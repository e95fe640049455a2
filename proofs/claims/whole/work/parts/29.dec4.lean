theorem d_X_init_0 : decode prog_1_method_1_code 0 = .ok (.aload_n 0, 1) := by decide +kernel
theorem d_X_init_1 : decode prog_1_method_1_code 1 = .ok (.invokespecial 3, 3) := by decide +kernel
theorem d_X_init_4 : decode prog_1_method_1_code 4 = .ok (.iload_n 1, 1) := by decide +kernel
theorem d_X_init_5 : decode prog_1_method_1_code 5 = .ok (.iconst 2, 1) := by decide +kernel
theorem d_X_init_6 : decode prog_1_method_1_code 6 = .ok (.if_icmp .lt 13, 3) := by decide +kernel
theorem d_X_init_9 : decode prog_1_method_1_code 9 = .ok (.iload_n 1, 1) := by decide +kernel
theorem d_X_init_10 : decode prog_1_method_1_code 10 = .ok (.bipush 97, 2) := by decide +kernel
theorem d_X_init_12 : decode prog_1_method_1_code 12 = .ok (.if_icmp .gt 7, 3) := by decide +kernel
theorem d_X_init_15 : decode prog_1_method_1_code 15 = .ok (.iload_n 1, 1) := by decide +kernel
theorem d_X_init_16 : decode prog_1_method_1_code 16 = .ok (.goto 5, 3) := by decide +kernel
theorem d_X_init_19 : decode prog_1_method_1_code 19 = .ok (.bipush 7, 2) := by decide +kernel
theorem d_X_init_21 : decode prog_1_method_1_code 21 = .ok (.istore_n 3, 1) := by decide +kernel
theorem d_X_init_22 : decode prog_1_method_1_code 22 = .ok (.iload_n 2, 1) := by decide +kernel
theorem d_X_init_23 : decode prog_1_method_1_code 23 = .ok (.iconst 1, 1) := by decide +kernel
theorem d_X_init_24 : decode prog_1_method_1_code 24 = .ok (.if_icmp .lt 12, 3) := by decide +kernel
theorem d_X_init_27 : decode prog_1_method_1_code 27 = .ok (.iload_n 2, 1) := by decide +kernel
theorem d_X_init_28 : decode prog_1_method_1_code 28 = .ok (.iconst 4, 1) := by decide +kernel
theorem d_X_init_29 : decode prog_1_method_1_code 29 = .ok (.if_icmp .gt 7, 3) := by decide +kernel
theorem d_X_init_32 : decode prog_1_method_1_code 32 = .ok (.iload_n 2, 1) := by decide +kernel
theorem d_X_init_33 : decode prog_1_method_1_code 33 = .ok (.goto 4, 3) := by decide +kernel
theorem d_X_init_36 : decode prog_1_method_1_code 36 = .ok (.iconst 2, 1) := by decide +kernel
theorem d_X_init_37 : decode prog_1_method_1_code 37 = .ok (.istore 4, 2) := by decide +kernel
theorem d_X_init_39 : decode prog_1_method_1_code 39 = .ok (.aload_n 0, 1) := by decide +kernel
theorem d_X_init_40 : decode prog_1_method_1_code 40 = .ok (.new 9, 3) := by decide +kernel
theorem d_X_init_43 : decode prog_1_method_1_code 43 = .ok (.dup, 1) := by decide +kernel
theorem d_X_init_44 : decode prog_1_method_1_code 44 = .ok (.iload_n 3, 1) := by decide +kernel
theorem d_X_init_45 : decode prog_1_method_1_code 45 = .ok (.iload 4, 2) := by decide +kernel
theorem d_X_init_47 : decode prog_1_method_1_code 47 = .ok (.invokespecial 11, 3) := by decide +kernel
theorem d_X_init_50 : decode prog_1_method_1_code 50 = .ok (.putfield 14, 3) := by decide +kernel
theorem d_X_init_53 : decode prog_1_method_1_code 53 = .ok (.aload_n 0, 1) := by decide +kernel
theorem d_X_init_54 : decode prog_1_method_1_code 54 = .ok (.new 18, 3) := by decide +kernel
theorem d_X_init_57 : decode prog_1_method_1_code 57 = .ok (.dup, 1) := by decide +kernel
theorem d_X_init_58 : decode prog_1_method_1_code 58 = .ok (.invokespecial 20, 3) := by decide +kernel
theorem d_X_init_61 : decode prog_1_method_1_code 61 = .ok (.putfield 21, 3) := by decide +kernel
theorem d_X_init_64 : decode prog_1_method_1_code 64 = .ok (.aload_n 0, 1) := by decide +kernel
theorem d_X_init_65 : decode prog_1_method_1_code 65 = .ok (.new 25, 3) := by decide +kernel
theorem d_X_init_68 : decode prog_1_method_1_code 68 = .ok (.dup, 1) := by decide +kernel
theorem d_X_init_69 : decode prog_1_method_1_code 69 = .ok (.invokespecial 27, 3) := by decide +kernel
theorem d_X_init_72 : decode prog_1_method_1_code 72 = .ok (.putfield 28, 3) := by decide +kernel
theorem d_X_init_75 : decode prog_1_method_1_code 75 = .ok (.aload_n 0, 1) := by decide +kernel
theorem d_X_init_76 : decode prog_1_method_1_code 76 = .ok (.new 32, 3) := by decide +kernel
theorem d_X_init_79 : decode prog_1_method_1_code 79 = .ok (.dup, 1) := by decide +kernel
theorem d_X_init_80 : decode prog_1_method_1_code 80 = .ok (.invokespecial 34, 3) := by decide +kernel
theorem d_X_init_83 : decode prog_1_method_1_code 83 = .ok (.putfield 35, 3) := by decide +kernel
theorem d_X_init_86 : decode prog_1_method_1_code 86 = .ok (.aload_n 0, 1) := by decide +kernel
theorem d_X_init_87 : decode prog_1_method_1_code 87 = .ok (.new 39, 3) := by decide +kernel
theorem d_X_init_90 : decode prog_1_method_1_code 90 = .ok (.dup, 1) := by decide +kernel
theorem d_X_init_91 : decode prog_1_method_1_code 91 = .ok (.iload_n 3, 1) := by decide +kernel
theorem d_X_init_92 : decode prog_1_method_1_code 92 = .ok (.invokespecial 41, 3) := by decide +kernel
theorem d_X_init_95 : decode prog_1_method_1_code 95 = .ok (.putfield 44, 3) := by decide +kernel
theorem d_X_init_98 : decode prog_1_method_1_code 98 = .ok (.aload_n 0, 1) := by decide +kernel
theorem d_X_init_99 : decode prog_1_method_1_code 99 = .ok (.iconst 0, 1) := by decide +kernel
theorem d_X_init_100 : decode prog_1_method_1_code 100 = .ok (.putfield 48, 3) := by decide +kernel
theorem d_X_init_103 : decode prog_1_method_1_code 103 = .ok (.aload_n 0, 1) := by decide +kernel
theorem d_X_init_104 : decode prog_1_method_1_code 104 = .ok (.iconst 0, 1) := by decide +kernel
theorem d_X_init_105 : decode prog_1_method_1_code 105 = .ok (.putfield 52, 3) := by decide +kernel
theorem d_X_init_108 : decode prog_1_method_1_code 108 = .ok (.return_, 1) := by decide +kernel
theorem d_N_init_0 : decode prog_8_method_1_code 0 = .ok (.aload_n 0, 1) := by decide +kernel
theorem d_N_init_1 : decode prog_8_method_1_code 1 = .ok (.invokespecial 1, 3) := by decide +kernel
theorem d_N_init_4 : decode prog_8_method_1_code 4 = .ok (.aload_n 0, 1) := by decide +kernel
theorem d_N_init_5 : decode prog_8_method_1_code 5 = .ok (.bipush 24, 2) := by decide +kernel
theorem d_N_init_7 : decode prog_8_method_1_code 7 = .ok (.newarray .int, 2) := by decide +kernel
theorem d_N_init_9 : decode prog_8_method_1_code 9 = .ok (.putfield 7, 3) := by decide +kernel
theorem d_N_init_12 : decode prog_8_method_1_code 12 = .ok (.aload_n 0, 1) := by decide +kernel
theorem d_N_init_13 : decode prog_8_method_1_code 13 = .ok (.sipush 1136, 3) := by decide +kernel
theorem d_N_init_16 : decode prog_8_method_1_code 16 = .ok (.newarray .int, 2) := by decide +kernel
theorem d_N_init_18 : decode prog_8_method_1_code 18 = .ok (.putfield 13, 3) := by decide +kernel
theorem d_N_init_21 : decode prog_8_method_1_code 21 = .ok (.aload_n 0, 1) := by decide +kernel
theorem d_N_init_22 : decode prog_8_method_1_code 22 = .ok (.bipush 16, 2) := by decide +kernel
theorem d_N_init_24 : decode prog_8_method_1_code 24 = .ok (.newarray .int, 2) := by decide +kernel
theorem d_N_init_26 : decode prog_8_method_1_code 26 = .ok (.putfield 16, 3) := by decide +kernel
theorem d_N_init_29 : decode prog_8_method_1_code 29 = .ok (.aload_n 0, 1) := by decide +kernel
theorem d_N_init_30 : decode prog_8_method_1_code 30 = .ok (.bipush 48, 2) := by decide +kernel
theorem d_N_init_32 : decode prog_8_method_1_code 32 = .ok (.newarray .int, 2) := by decide +kernel
theorem d_N_init_34 : decode prog_8_method_1_code 34 = .ok (.putfield 19, 3) := by decide +kernel
theorem d_N_init_37 : decode prog_8_method_1_code 37 = .ok (.aload_n 0, 1) := by decide +kernel
theorem d_N_init_38 : decode prog_8_method_1_code 38 = .ok (.bipush 48, 2) := by decide +kernel
theorem d_N_init_40 : decode prog_8_method_1_code 40 = .ok (.newarray .int, 2) := by decide +kernel
theorem d_N_init_42 : decode prog_8_method_1_code 42 = .ok (.putfield 22, 3) := by decide +kernel
theorem d_N_init_45 : decode prog_8_method_1_code 45 = .ok (.aload_n 0, 1) := by decide +kernel
theorem d_N_init_46 : decode prog_8_method_1_code 46 = .ok (.bipush 48, 2) := by decide +kernel
theorem d_N_init_48 : decode prog_8_method_1_code 48 = .ok (.newarray .int, 2) := by decide +kernel
theorem d_N_init_50 : decode prog_8_method_1_code 50 = .ok (.putfield 25, 3) := by decide +kernel
theorem d_N_init_53 : decode prog_8_method_1_code 53 = .ok (.aload_n 0, 1) := by decide +kernel
theorem d_N_init_54 : decode prog_8_method_1_code 54 = .ok (.bipush 48, 2) := by decide +kernel
theorem d_N_init_56 : decode prog_8_method_1_code 56 = .ok (.newarray .int, 2) := by decide +kernel
theorem d_N_init_58 : decode prog_8_method_1_code 58 = .ok (.putfield 28, 3) := by decide +kernel
theorem d_N_init_61 : decode prog_8_method_1_code 61 = .ok (.aload_n 0, 1) := by decide +kernel
theorem d_N_init_62 : decode prog_8_method_1_code 62 = .ok (.bipush 25, 2) := by decide +kernel
theorem d_N_init_64 : decode prog_8_method_1_code 64 = .ok (.newarray .int, 2) := by decide +kernel
theorem d_N_init_66 : decode prog_8_method_1_code 66 = .ok (.putfield 31, 3) := by decide +kernel
theorem d_N_init_69 : decode prog_8_method_1_code 69 = .ok (.aload_n 0, 1) := by decide +kernel
theorem d_N_init_70 : decode prog_8_method_1_code 70 = .ok (.bipush 48, 2) := by decide +kernel
theorem d_N_init_72 : decode prog_8_method_1_code 72 = .ok (.newarray .int, 2) := by decide +kernel
theorem d_N_init_74 : decode prog_8_method_1_code 74 = .ok (.putfield 34, 3) := by decide +kernel
theorem d_N_init_77 : decode prog_8_method_1_code 77 = .ok (.aload_n 0, 1) := by decide +kernel
theorem d_N_init_78 : decode prog_8_method_1_code 78 = .ok (.bipush 48, 2) := by decide +kernel
theorem d_N_init_80 : decode prog_8_method_1_code 80 = .ok (.newarray .int, 2) := by decide +kernel
theorem d_N_init_82 : decode prog_8_method_1_code 82 = .ok (.putfield 37, 3) := by decide +kernel
theorem d_N_init_85 : decode prog_8_method_1_code 85 = .ok (.aload_n 0, 1) := by decide +kernel
theorem d_N_init_86 : decode prog_8_method_1_code 86 = .ok (.bipush 48, 2) := by decide +kernel
theorem d_N_init_88 : decode prog_8_method_1_code 88 = .ok (.newarray .int, 2) := by decide +kernel
theorem d_N_init_90 : decode prog_8_method_1_code 90 = .ok (.putfield 40, 3) := by decide +kernel
theorem d_N_init_93 : decode prog_8_method_1_code 93 = .ok (.aload_n 0, 1) := by decide +kernel
theorem d_N_init_94 : decode prog_8_method_1_code 94 = .ok (.bipush 48, 2) := by decide +kernel
theorem d_N_init_96 : decode prog_8_method_1_code 96 = .ok (.newarray .int, 2) := by decide +kernel
theorem d_N_init_98 : decode prog_8_method_1_code 98 = .ok (.putfield 43, 3) := by decide +kernel
theorem d_N_init_101 : decode prog_8_method_1_code 101 = .ok (.aload_n 0, 1) := by decide +kernel
theorem d_N_init_102 : decode prog_8_method_1_code 102 = .ok (.bipush 48, 2) := by decide +kernel
theorem d_N_init_104 : decode prog_8_method_1_code 104 = .ok (.newarray .boolean, 2) := by decide +kernel
theorem d_N_init_106 : decode prog_8_method_1_code 106 = .ok (.putfield 46, 3) := by decide +kernel
theorem d_N_init_109 : decode prog_8_method_1_code 109 = .ok (.aload_n 0, 1) := by decide +kernel
theorem d_N_init_110 : decode prog_8_method_1_code 110 = .ok (.bipush 48, 2) := by decide +kernel
theorem d_N_init_112 : decode prog_8_method_1_code 112 = .ok (.newarray .int, 2) := by decide +kernel
theorem d_N_init_114 : decode prog_8_method_1_code 114 = .ok (.putfield 50, 3) := by decide +kernel
theorem d_N_init_117 : decode prog_8_method_1_code 117 = .ok (.aload_n 0, 1) := by decide +kernel
theorem d_N_init_118 : decode prog_8_method_1_code 118 = .ok (.bipush 48, 2) := by decide +kernel
theorem d_N_init_120 : decode prog_8_method_1_code 120 = .ok (.newarray .int, 2) := by decide +kernel
theorem d_N_init_122 : decode prog_8_method_1_code 122 = .ok (.putfield 53, 3) := by decide +kernel
theorem d_N_init_125 : decode prog_8_method_1_code 125 = .ok (.aload_n 0, 1) := by decide +kernel
theorem d_N_init_126 : decode prog_8_method_1_code 126 = .ok (.iload_n 1, 1) := by decide +kernel
theorem d_N_init_127 : decode prog_8_method_1_code 127 = .ok (.iconst 2, 1) := by decide +kernel
theorem d_N_init_128 : decode prog_8_method_1_code 128 = .ok (.if_icmp .lt 13, 3) := by decide +kernel
theorem d_N_init_131 : decode prog_8_method_1_code 131 = .ok (.iload_n 1, 1) := by decide +kernel
theorem d_N_init_132 : decode prog_8_method_1_code 132 = .ok (.bipush 97, 2) := by decide +kernel
theorem d_N_init_134 : decode prog_8_method_1_code 134 = .ok (.if_icmp .gt 7, 3) := by decide +kernel
theorem d_N_init_137 : decode prog_8_method_1_code 137 = .ok (.iload_n 1, 1) := by decide +kernel
theorem d_N_init_138 : decode prog_8_method_1_code 138 = .ok (.goto 5, 3) := by decide +kernel
theorem d_N_init_141 : decode prog_8_method_1_code 141 = .ok (.bipush 7, 2) := by decide +kernel
theorem d_N_init_143 : decode prog_8_method_1_code 143 = .ok (.putfield 56, 3) := by decide +kernel
theorem d_N_init_146 : decode prog_8_method_1_code 146 = .ok (.aload_n 0, 1) := by decide +kernel
theorem d_N_init_147 : decode prog_8_method_1_code 147 = .ok (.iload_n 2, 1) := by decide +kernel
theorem d_N_init_148 : decode prog_8_method_1_code 148 = .ok (.iconst 1, 1) := by decide +kernel
theorem d_N_init_149 : decode prog_8_method_1_code 149 = .ok (.if_icmp .lt 12, 3) := by decide +kernel
theorem d_N_init_152 : decode prog_8_method_1_code 152 = .ok (.iload_n 2, 1) := by decide +kernel
theorem d_N_init_153 : decode prog_8_method_1_code 153 = .ok (.iconst 4, 1) := by decide +kernel
theorem d_N_init_154 : decode prog_8_method_1_code 154 = .ok (.if_icmp .gt 7, 3) := by decide +kernel
theorem d_N_init_157 : decode prog_8_method_1_code 157 = .ok (.iload_n 2, 1) := by decide +kernel
theorem d_N_init_158 : decode prog_8_method_1_code 158 = .ok (.goto 4, 3) := by decide +kernel
theorem d_N_init_161 : decode prog_8_method_1_code 161 = .ok (.iconst 2, 1) := by decide +kernel
theorem d_N_init_162 : decode prog_8_method_1_code 162 = .ok (.putfield 60, 3) := by decide +kernel
theorem d_N_init_165 : decode prog_8_method_1_code 165 = .ok (.return_, 1) := by decide +kernel
theorem d_C_init_0 : decode prog_2_method_1_code 0 = .ok (.aload_n 0, 1) := by decide +kernel
theorem d_C_init_1 : decode prog_2_method_1_code 1 = .ok (.invokespecial 3, 3) := by decide +kernel
theorem d_C_init_4 : decode prog_2_method_1_code 4 = .ok (.aload_n 0, 1) := by decide +kernel
theorem d_C_init_5 : decode prog_2_method_1_code 5 = .ok (.bipush 40, 2) := by decide +kernel
theorem d_C_init_7 : decode prog_2_method_1_code 7 = .ok (.newarray .int, 2) := by decide +kernel
theorem d_C_init_9 : decode prog_2_method_1_code 9 = .ok (.putfield 9, 3) := by decide +kernel
theorem d_C_init_12 : decode prog_2_method_1_code 12 = .ok (.aload_n 0, 1) := by decide +kernel
theorem d_C_init_13 : decode prog_2_method_1_code 13 = .ok (.iconst 0, 1) := by decide +kernel
theorem d_C_init_14 : decode prog_2_method_1_code 14 = .ok (.putfield 15, 3) := by decide +kernel
theorem d_C_init_17 : decode prog_2_method_1_code 17 = .ok (.return_, 1) := by decide +kernel
theorem d_P_init_0 : decode prog_3_method_1_code 0 = .ok (.aload_n 0, 1) := by decide +kernel
theorem d_P_init_1 : decode prog_3_method_1_code 1 = .ok (.invokespecial 3, 3) := by decide +kernel
theorem d_P_init_4 : decode prog_3_method_1_code 4 = .ok (.aload_n 0, 1) := by decide +kernel
theorem d_P_init_5 : decode prog_3_method_1_code 5 = .ok (.bipush 24, 2) := by decide +kernel
theorem d_P_init_7 : decode prog_3_method_1_code 7 = .ok (.newarray .int, 2) := by decide +kernel
theorem d_P_init_9 : decode prog_3_method_1_code 9 = .ok (.putfield 9, 3) := by decide +kernel
theorem d_P_init_12 : decode prog_3_method_1_code 12 = .ok (.return_, 1) := by decide +kernel
theorem d_M_init_0 : decode prog_4_method_1_code 0 = .ok (.aload_n 0, 1) := by decide +kernel
theorem d_M_init_1 : decode prog_4_method_1_code 1 = .ok (.invokespecial 3, 3) := by decide +kernel
theorem d_M_init_4 : decode prog_4_method_1_code 4 = .ok (.aload_n 0, 1) := by decide +kernel
theorem d_M_init_5 : decode prog_4_method_1_code 5 = .ok (.iload_n 1, 1) := by decide +kernel
theorem d_M_init_6 : decode prog_4_method_1_code 6 = .ok (.putfield 9, 3) := by decide +kernel
theorem d_M_init_9 : decode prog_4_method_1_code 9 = .ok (.aload_n 0, 1) := by decide +kernel
theorem d_M_init_10 : decode prog_4_method_1_code 10 = .ok (.iload_n 2, 1) := by decide +kernel
theorem d_M_init_11 : decode prog_4_method_1_code 11 = .ok (.putfield 15, 3) := by decide +kernel
theorem d_M_init_14 : decode prog_4_method_1_code 14 = .ok (.aload_n 0, 1) := by decide +kernel
theorem d_M_init_15 : decode prog_4_method_1_code 15 = .ok (.iload_n 2, 1) := by decide +kernel
theorem d_M_init_16 : decode prog_4_method_1_code 16 = .ok (.iload_n 2, 1) := by decide +kernel
theorem d_M_init_17 : decode prog_4_method_1_code 17 = .ok (.imul, 1) := by decide +kernel
theorem d_M_init_18 : decode prog_4_method_1_code 18 = .ok (.putfield 18, 3) := by decide +kernel
theorem d_M_init_21 : decode prog_4_method_1_code 21 = .ok (.aload_n 0, 1) := by decide +kernel
theorem d_M_init_22 : decode prog_4_method_1_code 22 = .ok (.bipush 70, 2) := by decide +kernel
theorem d_M_init_24 : decode prog_4_method_1_code 24 = .ok (.aload_n 0, 1) := by decide +kernel
theorem d_M_init_25 : decode prog_4_method_1_code 25 = .ok (.getfield 18, 3) := by decide +kernel
theorem d_M_init_28 : decode prog_4_method_1_code 28 = .ok (.imul, 1) := by decide +kernel
theorem d_M_init_29 : decode prog_4_method_1_code 29 = .ok (.newarray .int, 2) := by decide +kernel
theorem d_M_init_31 : decode prog_4_method_1_code 31 = .ok (.putfield 21, 3) := by decide +kernel
theorem d_M_init_34 : decode prog_4_method_1_code 34 = .ok (.aload_n 0, 1) := by decide +kernel
theorem d_M_init_35 : decode prog_4_method_1_code 35 = .ok (.aload_n 0, 1) := by decide +kernel
theorem d_M_init_36 : decode prog_4_method_1_code 36 = .ok (.getfield 18, 3) := by decide +kernel
theorem d_M_init_39 : decode prog_4_method_1_code 39 = .ok (.newarray .int, 2) := by decide +kernel
theorem d_M_init_41 : decode prog_4_method_1_code 41 = .ok (.putfield 25, 3) := by decide +kernel
theorem d_M_init_44 : decode prog_4_method_1_code 44 = .ok (.return_, 1) := by decide +kernel
theorem d_O_init_0 : decode prog_5_method_1_code 0 = .ok (.aload_n 0, 1) := by decide +kernel
theorem d_O_init_1 : decode prog_5_method_1_code 1 = .ok (.invokespecial 3, 3) := by decide +kernel
theorem d_O_init_4 : decode prog_5_method_1_code 4 = .ok (.aload_n 0, 1) := by decide +kernel
theorem d_O_init_5 : decode prog_5_method_1_code 5 = .ok (.iload_n 1, 1) := by decide +kernel
theorem d_O_init_6 : decode prog_5_method_1_code 6 = .ok (.putfield 9, 3) := by decide +kernel
theorem d_O_init_9 : decode prog_5_method_1_code 9 = .ok (.aload_n 0, 1) := by decide +kernel
theorem d_O_init_10 : decode prog_5_method_1_code 10 = .ok (.new 15, 3) := by decide +kernel
theorem d_O_init_13 : decode prog_5_method_1_code 13 = .ok (.dup, 1) := by decide +kernel
theorem d_O_init_14 : decode prog_5_method_1_code 14 = .ok (.invokespecial 17, 3) := by decide +kernel
theorem d_O_init_17 : decode prog_5_method_1_code 17 = .ok (.putfield 18, 3) := by decide +kernel
theorem d_O_init_20 : decode prog_5_method_1_code 20 = .ok (.aload_n 0, 1) := by decide +kernel
theorem d_O_init_21 : decode prog_5_method_1_code 21 = .ok (.bipush 40, 2) := by decide +kernel
theorem d_O_init_23 : decode prog_5_method_1_code 23 = .ok (.newarray .int, 2) := by decide +kernel
theorem d_O_init_25 : decode prog_5_method_1_code 25 = .ok (.putfield 22, 3) := by decide +kernel
theorem d_O_init_28 : decode prog_5_method_1_code 28 = .ok (.aload_n 0, 1) := by decide +kernel
theorem d_O_init_29 : decode prog_5_method_1_code 29 = .ok (.bipush 40, 2) := by decide +kernel
theorem d_O_init_31 : decode prog_5_method_1_code 31 = .ok (.newarray .boolean, 2) := by decide +kernel
theorem d_O_init_33 : decode prog_5_method_1_code 33 = .ok (.putfield 26, 3) := by decide +kernel
theorem d_O_init_36 : decode prog_5_method_1_code 36 = .ok (.aload_n 0, 1) := by decide +kernel
theorem d_O_init_37 : decode prog_5_method_1_code 37 = .ok (.bipush 40, 2) := by decide +kernel
theorem d_O_init_39 : decode prog_5_method_1_code 39 = .ok (.newarray .int, 2) := by decide +kernel
theorem d_O_init_41 : decode prog_5_method_1_code 41 = .ok (.putfield 30, 3) := by decide +kernel
theorem d_O_init_44 : decode prog_5_method_1_code 44 = .ok (.return_, 1) := by decide +kernel
theorem d_R_init_0 : decode prog_6_method_1_code 0 = .ok (.aload_n 0, 1) := by decide +kernel
theorem d_R_init_1 : decode prog_6_method_1_code 1 = .ok (.invokespecial 3, 3) := by decide +kernel
theorem d_R_init_4 : decode prog_6_method_1_code 4 = .ok (.aload_n 0, 1) := by decide +kernel
theorem d_R_init_5 : decode prog_6_method_1_code 5 = .ok (.bipush 24, 2) := by decide +kernel
theorem d_R_init_7 : decode prog_6_method_1_code 7 = .ok (.newarray .int, 2) := by decide +kernel
theorem d_R_init_9 : decode prog_6_method_1_code 9 = .ok (.putfield 9, 3) := by decide +kernel
theorem d_R_init_12 : decode prog_6_method_1_code 12 = .ok (.aload_n 0, 1) := by decide +kernel
theorem d_R_init_13 : decode prog_6_method_1_code 13 = .ok (.iconst 0, 1) := by decide +kernel
theorem d_R_init_14 : decode prog_6_method_1_code 14 = .ok (.putfield 15, 3) := by decide +kernel
theorem d_R_init_17 : decode prog_6_method_1_code 17 = .ok (.return_, 1) := by decide +kernel
theorem kw_16 : Cond.methodLink "SquareCode" 3 objectInit ∈ zW := zin 16 (by decide +kernel) (by decide +kernel)
theorem kw_17 : Cond.instanceMethod objectInit ∈ zW := zin 17 (by decide +kernel) (by decide +kernel)
theorem kw_18 : Cond.code objectInit ⟨#[0xb1]⟩ 1 none ∈ zW := zin 18 (by decide +kernel) (by decide +kernel)
theorem kw_19 : Cond.classLink "SquareCode" 9 "SquareCode$Matrices" ∈ zW := zin 19 (by decide +kernel) (by decide +kernel)
theorem kw_20 : Cond.instantiable "SquareCode$Matrices" 5 ∈ zW := zin 20 (by decide +kernel) (by decide +kernel)
theorem kw_21 : Cond.methodLink "SquareCode" 11 y_M_init ∈ zW := zin 21 (by decide +kernel) (by decide +kernel)
theorem kw_22 : Cond.instanceMethod y_M_init ∈ zW := zin 22 (by decide +kernel) (by decide +kernel)
theorem kw_23 : Cond.code y_M_init prog_4_method_1_code 3 none ∈ zW := zin 23 (by decide +kernel) (by decide +kernel)
theorem kw_24 : Cond.methodLink "SquareCode$Matrices" 3 objectInit ∈ zW := zin 24 (by decide +kernel) (by decide +kernel)
theorem kw_41 : Cond.arrayClass .int ∈ zW := zin 41 (by decide +kernel) (by decide +kernel)
theorem kw_42 : Cond.classLink "SquareCode" 18 "SquareCode$Source" ∈ zW := zin 42 (by decide +kernel) (by decide +kernel)
theorem kw_43 : Cond.instantiable "SquareCode$Source" 2 ∈ zW := zin 43 (by decide +kernel) (by decide +kernel)
theorem kw_44 : Cond.methodLink "SquareCode" 20 y_R_init ∈ zW := zin 44 (by decide +kernel) (by decide +kernel)
theorem kw_45 : Cond.instanceMethod y_R_init ∈ zW := zin 45 (by decide +kernel) (by decide +kernel)
theorem kw_46 : Cond.code y_R_init prog_6_method_1_code 1 none ∈ zW := zin 46 (by decide +kernel) (by decide +kernel)
theorem kw_47 : Cond.methodLink "SquareCode$Source" 3 objectInit ∈ zW := zin 47 (by decide +kernel) (by decide +kernel)
theorem kw_55 : Cond.classLink "SquareCode" 25 "SquareCode$Code" ∈ zW := zin 55 (by decide +kernel) (by decide +kernel)
theorem kw_56 : Cond.instantiable "SquareCode$Code" 2 ∈ zW := zin 56 (by decide +kernel) (by decide +kernel)
theorem kw_57 : Cond.methodLink "SquareCode" 27 y_C_init ∈ zW := zin 57 (by decide +kernel) (by decide +kernel)
theorem kw_58 : Cond.instanceMethod y_C_init ∈ zW := zin 58 (by decide +kernel) (by decide +kernel)
theorem kw_59 : Cond.code y_C_init prog_2_method_1_code 1 none ∈ zW := zin 59 (by decide +kernel) (by decide +kernel)
theorem kw_60 : Cond.methodLink "SquareCode$Code" 3 objectInit ∈ zW := zin 60 (by decide +kernel) (by decide +kernel)
theorem kw_68 : Cond.classLink "SquareCode" 32 "SquareCode$Compiler" ∈ zW := zin 68 (by decide +kernel) (by decide +kernel)
theorem kw_69 : Cond.instantiable "SquareCode$Compiler" 1 ∈ zW := zin 69 (by decide +kernel) (by decide +kernel)
theorem kw_70 : Cond.methodLink "SquareCode" 34 y_P_init ∈ zW := zin 70 (by decide +kernel) (by decide +kernel)
theorem kw_71 : Cond.instanceMethod y_P_init ∈ zW := zin 71 (by decide +kernel) (by decide +kernel)
theorem kw_72 : Cond.code y_P_init prog_3_method_1_code 1 none ∈ zW := zin 72 (by decide +kernel) (by decide +kernel)
theorem kw_73 : Cond.methodLink "SquareCode$Compiler" 3 objectInit ∈ zW := zin 73 (by decide +kernel) (by decide +kernel)
theorem kw_78 : Cond.classLink "SquareCode" 39 "SquareCode$Optimiser" ∈ zW := zin 78 (by decide +kernel) (by decide +kernel)
theorem kw_79 : Cond.instantiable "SquareCode$Optimiser" 5 ∈ zW := zin 79 (by decide +kernel) (by decide +kernel)
theorem kw_80 : Cond.methodLink "SquareCode" 41 y_O_init ∈ zW := zin 80 (by decide +kernel) (by decide +kernel)
theorem kw_81 : Cond.instanceMethod y_O_init ∈ zW := zin 81 (by decide +kernel) (by decide +kernel)
theorem kw_82 : Cond.code y_O_init prog_5_method_1_code 2 none ∈ zW := zin 82 (by decide +kernel) (by decide +kernel)
theorem kw_83 : Cond.methodLink "SquareCode$Optimiser" 3 objectInit ∈ zW := zin 83 (by decide +kernel) (by decide +kernel)
theorem kw_84 : Cond.classLink "SquareCode$Optimiser" 15 "SquareCode$Code" ∈ zW := zin 84 (by decide +kernel) (by decide +kernel)
theorem kw_85 : Cond.methodLink "SquareCode$Optimiser" 17 y_C_init ∈ zW := zin 85 (by decide +kernel) (by decide +kernel)
theorem kw_102 : Cond.arrayClass .boolean ∈ zW := zin 102 (by decide +kernel) (by decide +kernel)
theorem kw_443 : Cond.methodLink "SquareCodeModel" 1 objectInit ∈ zW := zin 443 (by decide +kernel) (by decide +kernel)
theorem mw_C_init : zIW y_C_init prog_2_method_1_code 1 0 := ⟨kw_59, kw_4, kw_58, rfl, ⟨by decide +kernel, by decide +kernel, by decide +kernel⟩⟩
theorem mw_M_init : zIW y_M_init prog_4_method_1_code 3 2 := ⟨kw_23, kw_2, kw_22, rfl, ⟨by decide +kernel, by decide +kernel, by decide +kernel⟩⟩
theorem mw_R_init : zIW y_R_init prog_6_method_1_code 1 0 := ⟨kw_46, kw_3, kw_45, rfl, ⟨by decide +kernel, by decide +kernel, by decide +kernel⟩⟩
theorem mw_P_init : zIW y_P_init prog_3_method_1_code 1 0 := ⟨kw_72, kw_5, kw_71, rfl, ⟨by decide +kernel, by decide +kernel, by decide +kernel⟩⟩
theorem mw_O_init : zIW y_O_init prog_5_method_1_code 2 1 := ⟨kw_82, kw_6, kw_81, rfl, ⟨by decide +kernel, by decide +kernel, by decide +kernel⟩⟩
