theorem d_N_in_0 : decode prog_8_method_2_code 0 = .ok (.iload_n 0, 1) := by decide +kernel
theorem d_N_in_1 : decode prog_8_method_2_code 1 = .ok (.iload_n 1, 1) := by decide +kernel
theorem d_N_in_2 : decode prog_8_method_2_code 2 = .ok (.if_icmp .lt 12, 3) := by decide +kernel
theorem d_N_in_5 : decode prog_8_method_2_code 5 = .ok (.iload_n 0, 1) := by decide +kernel
theorem d_N_in_6 : decode prog_8_method_2_code 6 = .ok (.iload_n 2, 1) := by decide +kernel
theorem d_N_in_7 : decode prog_8_method_2_code 7 = .ok (.if_icmp .gt 7, 3) := by decide +kernel
theorem d_N_in_10 : decode prog_8_method_2_code 10 = .ok (.iconst 1, 1) := by decide +kernel
theorem d_N_in_11 : decode prog_8_method_2_code 11 = .ok (.goto 4, 3) := by decide +kernel
theorem d_N_in_14 : decode prog_8_method_2_code 14 = .ok (.iconst 0, 1) := by decide +kernel
theorem d_N_in_15 : decode prog_8_method_2_code 15 = .ok (.ireturn, 1) := by decide +kernel
theorem d_N_isPlace_0 : decode prog_8_method_3_code 0 = .ok (.iload_n 1, 1) := by decide +kernel
theorem d_N_isPlace_1 : decode prog_8_method_3_code 1 = .ok (.iconst 0, 1) := by decide +kernel
theorem d_N_isPlace_2 : decode prog_8_method_3_code 2 = .ok (.aload_n 0, 1) := by decide +kernel
theorem d_N_isPlace_3 : decode prog_8_method_3_code 3 = .ok (.getfield 60, 3) := by decide +kernel
theorem d_N_isPlace_6 : decode prog_8_method_3_code 6 = .ok (.iconst 1, 1) := by decide +kernel
theorem d_N_isPlace_7 : decode prog_8_method_3_code 7 = .ok (.isub, 1) := by decide +kernel
theorem d_N_isPlace_8 : decode prog_8_method_3_code 8 = .ok (.invokestatic 63, 3) := by decide +kernel
theorem d_N_isPlace_11 : decode prog_8_method_3_code 11 = .ok (.ifCond .eq 21, 3) := by decide +kernel
theorem d_N_isPlace_14 : decode prog_8_method_3_code 14 = .ok (.iload_n 2, 1) := by decide +kernel
theorem d_N_isPlace_15 : decode prog_8_method_3_code 15 = .ok (.iconst 0, 1) := by decide +kernel
theorem d_N_isPlace_16 : decode prog_8_method_3_code 16 = .ok (.aload_n 0, 1) := by decide +kernel
theorem d_N_isPlace_17 : decode prog_8_method_3_code 17 = .ok (.getfield 60, 3) := by decide +kernel
theorem d_N_isPlace_20 : decode prog_8_method_3_code 20 = .ok (.iconst 1, 1) := by decide +kernel
theorem d_N_isPlace_21 : decode prog_8_method_3_code 21 = .ok (.isub, 1) := by decide +kernel
theorem d_N_isPlace_22 : decode prog_8_method_3_code 22 = .ok (.invokestatic 63, 3) := by decide +kernel
theorem d_N_isPlace_25 : decode prog_8_method_3_code 25 = .ok (.ifCond .eq 7, 3) := by decide +kernel
theorem d_N_isPlace_28 : decode prog_8_method_3_code 28 = .ok (.iconst 1, 1) := by decide +kernel
theorem d_N_isPlace_29 : decode prog_8_method_3_code 29 = .ok (.goto 4, 3) := by decide +kernel
theorem d_N_isPlace_32 : decode prog_8_method_3_code 32 = .ok (.iconst 0, 1) := by decide +kernel
theorem d_N_isPlace_33 : decode prog_8_method_3_code 33 = .ok (.ireturn, 1) := by decide +kernel
theorem d_N_get_0 : decode prog_8_method_4_code 0 = .ok (.aload_n 0, 1) := by decide +kernel
theorem d_N_get_1 : decode prog_8_method_4_code 1 = .ok (.getfield 13, 3) := by decide +kernel
theorem d_N_get_4 : decode prog_8_method_4_code 4 = .ok (.bipush 16, 2) := by decide +kernel
theorem d_N_get_6 : decode prog_8_method_4_code 6 = .ok (.iload_n 1, 1) := by decide +kernel
theorem d_N_get_7 : decode prog_8_method_4_code 7 = .ok (.imul, 1) := by decide +kernel
theorem d_N_get_8 : decode prog_8_method_4_code 8 = .ok (.iconst 4, 1) := by decide +kernel
theorem d_N_get_9 : decode prog_8_method_4_code 9 = .ok (.iload_n 2, 1) := by decide +kernel
theorem d_N_get_10 : decode prog_8_method_4_code 10 = .ok (.imul, 1) := by decide +kernel
theorem d_N_get_11 : decode prog_8_method_4_code 11 = .ok (.iadd, 1) := by decide +kernel
theorem d_N_get_12 : decode prog_8_method_4_code 12 = .ok (.iload_n 3, 1) := by decide +kernel
theorem d_N_get_13 : decode prog_8_method_4_code 13 = .ok (.iadd, 1) := by decide +kernel
theorem d_N_get_14 : decode prog_8_method_4_code 14 = .ok (.iaload, 1) := by decide +kernel
theorem d_N_get_15 : decode prog_8_method_4_code 15 = .ok (.ireturn, 1) := by decide +kernel
theorem d_N_put_0 : decode prog_8_method_5_code 0 = .ok (.aload_n 0, 1) := by decide +kernel
theorem d_N_put_1 : decode prog_8_method_5_code 1 = .ok (.getfield 13, 3) := by decide +kernel
theorem d_N_put_4 : decode prog_8_method_5_code 4 = .ok (.bipush 16, 2) := by decide +kernel
theorem d_N_put_6 : decode prog_8_method_5_code 6 = .ok (.iload_n 1, 1) := by decide +kernel
theorem d_N_put_7 : decode prog_8_method_5_code 7 = .ok (.imul, 1) := by decide +kernel
theorem d_N_put_8 : decode prog_8_method_5_code 8 = .ok (.iconst 4, 1) := by decide +kernel
theorem d_N_put_9 : decode prog_8_method_5_code 9 = .ok (.iload_n 2, 1) := by decide +kernel
theorem d_N_put_10 : decode prog_8_method_5_code 10 = .ok (.imul, 1) := by decide +kernel
theorem d_N_put_11 : decode prog_8_method_5_code 11 = .ok (.iadd, 1) := by decide +kernel
theorem d_N_put_12 : decode prog_8_method_5_code 12 = .ok (.iload_n 3, 1) := by decide +kernel
theorem d_N_put_13 : decode prog_8_method_5_code 13 = .ok (.iadd, 1) := by decide +kernel
theorem d_N_put_14 : decode prog_8_method_5_code 14 = .ok (.iload 4, 2) := by decide +kernel
theorem d_N_put_16 : decode prog_8_method_5_code 16 = .ok (.iastore, 1) := by decide +kernel
theorem d_N_put_17 : decode prog_8_method_5_code 17 = .ok (.return_, 1) := by decide +kernel
theorem d_N_mod_0 : decode prog_8_method_6_code 0 = .ok (.iload_n 1, 1) := by decide +kernel
theorem d_N_mod_1 : decode prog_8_method_6_code 1 = .ok (.aload_n 0, 1) := by decide +kernel
theorem d_N_mod_2 : decode prog_8_method_6_code 2 = .ok (.getfield 56, 3) := by decide +kernel
theorem d_N_mod_5 : decode prog_8_method_6_code 5 = .ok (.irem, 1) := by decide +kernel
theorem d_N_mod_6 : decode prog_8_method_6_code 6 = .ok (.istore_n 2, 1) := by decide +kernel
theorem d_N_mod_7 : decode prog_8_method_6_code 7 = .ok (.iload_n 2, 1) := by decide +kernel
theorem d_N_mod_8 : decode prog_8_method_6_code 8 = .ok (.ifCond .ge 12, 3) := by decide +kernel
theorem d_N_mod_11 : decode prog_8_method_6_code 11 = .ok (.iload_n 2, 1) := by decide +kernel
theorem d_N_mod_12 : decode prog_8_method_6_code 12 = .ok (.aload_n 0, 1) := by decide +kernel
theorem d_N_mod_13 : decode prog_8_method_6_code 13 = .ok (.getfield 56, 3) := by decide +kernel
theorem d_N_mod_16 : decode prog_8_method_6_code 16 = .ok (.iadd, 1) := by decide +kernel
theorem d_N_mod_17 : decode prog_8_method_6_code 17 = .ok (.goto 4, 3) := by decide +kernel
theorem d_N_mod_20 : decode prog_8_method_6_code 20 = .ok (.iload_n 2, 1) := by decide +kernel
theorem d_N_mod_21 : decode prog_8_method_6_code 21 = .ok (.ireturn, 1) := by decide +kernel
theorem d_N_copy_0 : decode prog_8_method_7_code 0 = .ok (.iconst 0, 1) := by decide +kernel
theorem d_N_copy_1 : decode prog_8_method_7_code 1 = .ok (.istore_n 3, 1) := by decide +kernel
theorem d_N_copy_2 : decode prog_8_method_7_code 2 = .ok (.iload_n 3, 1) := by decide +kernel
theorem d_N_copy_3 : decode prog_8_method_7_code 3 = .ok (.bipush 16, 2) := by decide +kernel
theorem d_N_copy_5 : decode prog_8_method_7_code 5 = .ok (.if_icmp .ge 31, 3) := by decide +kernel
theorem d_N_copy_8 : decode prog_8_method_7_code 8 = .ok (.aload_n 0, 1) := by decide +kernel
theorem d_N_copy_9 : decode prog_8_method_7_code 9 = .ok (.getfield 13, 3) := by decide +kernel
theorem d_N_copy_12 : decode prog_8_method_7_code 12 = .ok (.bipush 16, 2) := by decide +kernel
theorem d_N_copy_14 : decode prog_8_method_7_code 14 = .ok (.iload_n 2, 1) := by decide +kernel
theorem d_N_copy_15 : decode prog_8_method_7_code 15 = .ok (.imul, 1) := by decide +kernel
theorem d_N_copy_16 : decode prog_8_method_7_code 16 = .ok (.iload_n 3, 1) := by decide +kernel
theorem d_N_copy_17 : decode prog_8_method_7_code 17 = .ok (.iadd, 1) := by decide +kernel
theorem d_N_copy_18 : decode prog_8_method_7_code 18 = .ok (.aload_n 0, 1) := by decide +kernel
theorem d_N_copy_19 : decode prog_8_method_7_code 19 = .ok (.getfield 13, 3) := by decide +kernel
theorem d_N_copy_22 : decode prog_8_method_7_code 22 = .ok (.bipush 16, 2) := by decide +kernel
theorem d_N_copy_24 : decode prog_8_method_7_code 24 = .ok (.iload_n 1, 1) := by decide +kernel
theorem d_N_copy_25 : decode prog_8_method_7_code 25 = .ok (.imul, 1) := by decide +kernel
theorem d_N_copy_26 : decode prog_8_method_7_code 26 = .ok (.iload_n 3, 1) := by decide +kernel
theorem d_N_copy_27 : decode prog_8_method_7_code 27 = .ok (.iadd, 1) := by decide +kernel
theorem d_N_copy_28 : decode prog_8_method_7_code 28 = .ok (.iaload, 1) := by decide +kernel
theorem d_N_copy_29 : decode prog_8_method_7_code 29 = .ok (.iastore, 1) := by decide +kernel
theorem d_N_copy_30 : decode prog_8_method_7_code 30 = .ok (.iinc 3 1, 3) := by decide +kernel
theorem d_N_copy_33 : decode prog_8_method_7_code 33 = .ok (.goto (-31), 3) := by decide +kernel
theorem d_N_copy_36 : decode prog_8_method_7_code 36 = .ok (.return_, 1) := by decide +kernel
theorem d_N_operate_0 : decode prog_8_method_8_code 0 = .ok (.iconst 0, 1) := by decide +kernel
theorem d_N_operate_1 : decode prog_8_method_8_code 1 = .ok (.istore 6, 2) := by decide +kernel
theorem d_N_operate_3 : decode prog_8_method_8_code 3 = .ok (.iload 6, 2) := by decide +kernel
theorem d_N_operate_5 : decode prog_8_method_8_code 5 = .ok (.aload_n 0, 1) := by decide +kernel
theorem d_N_operate_6 : decode prog_8_method_8_code 6 = .ok (.getfield 60, 3) := by decide +kernel
theorem d_N_operate_9 : decode prog_8_method_8_code 9 = .ok (.if_icmp .ge 217, 3) := by decide +kernel
theorem d_N_operate_12 : decode prog_8_method_8_code 12 = .ok (.iconst 0, 1) := by decide +kernel
theorem d_N_operate_13 : decode prog_8_method_8_code 13 = .ok (.istore 7, 2) := by decide +kernel
theorem d_N_operate_15 : decode prog_8_method_8_code 15 = .ok (.iload 7, 2) := by decide +kernel
theorem d_N_operate_17 : decode prog_8_method_8_code 17 = .ok (.aload_n 0, 1) := by decide +kernel
theorem d_N_operate_18 : decode prog_8_method_8_code 18 = .ok (.getfield 60, 3) := by decide +kernel
theorem d_N_operate_21 : decode prog_8_method_8_code 21 = .ok (.if_icmp .ge 199, 3) := by decide +kernel
theorem d_N_operate_24 : decode prog_8_method_8_code 24 = .ok (.iconst 0, 1) := by decide +kernel
theorem d_N_operate_25 : decode prog_8_method_8_code 25 = .ok (.istore 8, 2) := by decide +kernel
theorem d_N_operate_27 : decode prog_8_method_8_code 27 = .ok (.iload_n 1, 1) := by decide +kernel
theorem d_N_operate_28 : decode prog_8_method_8_code 28 = .ok (.ifCond .ne 15, 3) := by decide +kernel
theorem d_N_operate_31 : decode prog_8_method_8_code 31 = .ok (.aload_n 0, 1) := by decide +kernel
theorem d_N_operate_32 : decode prog_8_method_8_code 32 = .ok (.iload 4, 2) := by decide +kernel
theorem d_N_operate_34 : decode prog_8_method_8_code 34 = .ok (.iload 6, 2) := by decide +kernel
theorem d_N_operate_36 : decode prog_8_method_8_code 36 = .ok (.iload 7, 2) := by decide +kernel
theorem d_N_operate_38 : decode prog_8_method_8_code 38 = .ok (.invokevirtual 67, 3) := by decide +kernel
theorem d_N_operate_41 : decode prog_8_method_8_code 41 = .ok (.istore 8, 2) := by decide +kernel
theorem d_N_operate_43 : decode prog_8_method_8_code 43 = .ok (.iload_n 1, 1) := by decide +kernel
theorem d_N_operate_44 : decode prog_8_method_8_code 44 = .ok (.iconst 1, 1) := by decide +kernel
theorem d_N_operate_45 : decode prog_8_method_8_code 45 = .ok (.if_icmp .ne 17, 3) := by decide +kernel
theorem d_N_operate_48 : decode prog_8_method_8_code 48 = .ok (.iload 6, 2) := by decide +kernel
theorem d_N_operate_50 : decode prog_8_method_8_code 50 = .ok (.iload 7, 2) := by decide +kernel
theorem d_N_operate_52 : decode prog_8_method_8_code 52 = .ok (.if_icmp .ne 7, 3) := by decide +kernel
theorem d_N_operate_55 : decode prog_8_method_8_code 55 = .ok (.iconst 1, 1) := by decide +kernel
theorem d_N_operate_56 : decode prog_8_method_8_code 56 = .ok (.goto 4, 3) := by decide +kernel
theorem d_N_operate_59 : decode prog_8_method_8_code 59 = .ok (.iconst 0, 1) := by decide +kernel
theorem d_N_operate_60 : decode prog_8_method_8_code 60 = .ok (.istore 8, 2) := by decide +kernel
theorem d_N_operate_62 : decode prog_8_method_8_code 62 = .ok (.iload_n 1, 1) := by decide +kernel
theorem d_N_operate_63 : decode prog_8_method_8_code 63 = .ok (.iconst 3, 1) := by decide +kernel
theorem d_N_operate_64 : decode prog_8_method_8_code 64 = .ok (.if_icmp .ne 24, 3) := by decide +kernel
theorem d_N_operate_67 : decode prog_8_method_8_code 67 = .ok (.aload_n 0, 1) := by decide +kernel
theorem d_N_operate_68 : decode prog_8_method_8_code 68 = .ok (.iload_n 2, 1) := by decide +kernel
theorem d_N_operate_69 : decode prog_8_method_8_code 69 = .ok (.iload 6, 2) := by decide +kernel
theorem d_N_operate_71 : decode prog_8_method_8_code 71 = .ok (.iload 7, 2) := by decide +kernel
theorem d_N_operate_73 : decode prog_8_method_8_code 73 = .ok (.invokevirtual 67, 3) := by decide +kernel
theorem d_N_operate_76 : decode prog_8_method_8_code 76 = .ok (.aload_n 0, 1) := by decide +kernel
theorem d_N_operate_77 : decode prog_8_method_8_code 77 = .ok (.iload_n 3, 1) := by decide +kernel
theorem d_N_operate_78 : decode prog_8_method_8_code 78 = .ok (.iload 6, 2) := by decide +kernel
theorem d_N_operate_80 : decode prog_8_method_8_code 80 = .ok (.iload 7, 2) := by decide +kernel
theorem d_N_operate_82 : decode prog_8_method_8_code 82 = .ok (.invokevirtual 67, 3) := by decide +kernel
theorem d_N_operate_85 : decode prog_8_method_8_code 85 = .ok (.iadd, 1) := by decide +kernel
theorem d_N_operate_86 : decode prog_8_method_8_code 86 = .ok (.istore 8, 2) := by decide +kernel
theorem d_N_operate_88 : decode prog_8_method_8_code 88 = .ok (.iload_n 1, 1) := by decide +kernel
theorem d_N_operate_89 : decode prog_8_method_8_code 89 = .ok (.iconst 4, 1) := by decide +kernel
theorem d_N_operate_90 : decode prog_8_method_8_code 90 = .ok (.if_icmp .ne 24, 3) := by decide +kernel
theorem d_N_operate_93 : decode prog_8_method_8_code 93 = .ok (.aload_n 0, 1) := by decide +kernel
theorem d_N_operate_94 : decode prog_8_method_8_code 94 = .ok (.iload_n 2, 1) := by decide +kernel
theorem d_N_operate_95 : decode prog_8_method_8_code 95 = .ok (.iload 6, 2) := by decide +kernel
theorem d_N_operate_97 : decode prog_8_method_8_code 97 = .ok (.iload 7, 2) := by decide +kernel
theorem d_N_operate_99 : decode prog_8_method_8_code 99 = .ok (.invokevirtual 67, 3) := by decide +kernel
theorem d_N_operate_102 : decode prog_8_method_8_code 102 = .ok (.aload_n 0, 1) := by decide +kernel
theorem d_N_operate_103 : decode prog_8_method_8_code 103 = .ok (.iload_n 3, 1) := by decide +kernel
theorem d_N_operate_104 : decode prog_8_method_8_code 104 = .ok (.iload 6, 2) := by decide +kernel
theorem d_N_operate_106 : decode prog_8_method_8_code 106 = .ok (.iload 7, 2) := by decide +kernel
theorem d_N_operate_108 : decode prog_8_method_8_code 108 = .ok (.invokevirtual 67, 3) := by decide +kernel
theorem d_N_operate_111 : decode prog_8_method_8_code 111 = .ok (.isub, 1) := by decide +kernel
theorem d_N_operate_112 : decode prog_8_method_8_code 112 = .ok (.istore 8, 2) := by decide +kernel
theorem d_N_operate_114 : decode prog_8_method_8_code 114 = .ok (.iload_n 1, 1) := by decide +kernel
theorem d_N_operate_115 : decode prog_8_method_8_code 115 = .ok (.bipush 6, 2) := by decide +kernel
theorem d_N_operate_117 : decode prog_8_method_8_code 117 = .ok (.if_icmp .ne 14, 3) := by decide +kernel
theorem d_N_operate_120 : decode prog_8_method_8_code 120 = .ok (.aload_n 0, 1) := by decide +kernel
theorem d_N_operate_121 : decode prog_8_method_8_code 121 = .ok (.iload_n 2, 1) := by decide +kernel
theorem d_N_operate_122 : decode prog_8_method_8_code 122 = .ok (.iload 7, 2) := by decide +kernel
theorem d_N_operate_124 : decode prog_8_method_8_code 124 = .ok (.iload 6, 2) := by decide +kernel
theorem d_N_operate_126 : decode prog_8_method_8_code 126 = .ok (.invokevirtual 67, 3) := by decide +kernel
theorem d_N_operate_129 : decode prog_8_method_8_code 129 = .ok (.istore 8, 2) := by decide +kernel
theorem d_N_operate_131 : decode prog_8_method_8_code 131 = .ok (.iload_n 1, 1) := by decide +kernel
theorem d_N_operate_132 : decode prog_8_method_8_code 132 = .ok (.bipush 7, 2) := by decide +kernel
theorem d_N_operate_134 : decode prog_8_method_8_code 134 = .ok (.if_icmp .ne 17, 3) := by decide +kernel
theorem d_N_operate_137 : decode prog_8_method_8_code 137 = .ok (.iload 4, 2) := by decide +kernel
theorem d_N_operate_139 : decode prog_8_method_8_code 139 = .ok (.aload_n 0, 1) := by decide +kernel
theorem d_N_operate_140 : decode prog_8_method_8_code 140 = .ok (.iload_n 2, 1) := by decide +kernel
theorem d_N_operate_141 : decode prog_8_method_8_code 141 = .ok (.iload 6, 2) := by decide +kernel
theorem d_N_operate_143 : decode prog_8_method_8_code 143 = .ok (.iload 7, 2) := by decide +kernel
theorem d_N_operate_145 : decode prog_8_method_8_code 145 = .ok (.invokevirtual 67, 3) := by decide +kernel
theorem d_N_operate_148 : decode prog_8_method_8_code 148 = .ok (.imul, 1) := by decide +kernel
theorem d_N_operate_149 : decode prog_8_method_8_code 149 = .ok (.istore 8, 2) := by decide +kernel
theorem d_N_operate_151 : decode prog_8_method_8_code 151 = .ok (.iconst 0, 1) := by decide +kernel
theorem d_N_operate_152 : decode prog_8_method_8_code 152 = .ok (.istore 9, 2) := by decide +kernel
theorem d_N_operate_154 : decode prog_8_method_8_code 154 = .ok (.iload 9, 2) := by decide +kernel
theorem d_N_operate_156 : decode prog_8_method_8_code 156 = .ok (.aload_n 0, 1) := by decide +kernel
theorem d_N_operate_157 : decode prog_8_method_8_code 157 = .ok (.getfield 60, 3) := by decide +kernel
theorem d_N_operate_160 : decode prog_8_method_8_code 160 = .ok (.if_icmp .ge 38, 3) := by decide +kernel
theorem d_N_operate_163 : decode prog_8_method_8_code 163 = .ok (.iload_n 1, 1) := by decide +kernel
theorem d_N_operate_164 : decode prog_8_method_8_code 164 = .ok (.iconst 5, 1) := by decide +kernel
theorem d_N_operate_165 : decode prog_8_method_8_code 165 = .ok (.if_icmp .ne 33, 3) := by decide +kernel
theorem d_N_operate_168 : decode prog_8_method_8_code 168 = .ok (.iload 8, 2) := by decide +kernel
theorem d_N_operate_170 : decode prog_8_method_8_code 170 = .ok (.aload_n 0, 1) := by decide +kernel
theorem d_N_operate_171 : decode prog_8_method_8_code 171 = .ok (.iload_n 2, 1) := by decide +kernel
theorem d_N_operate_172 : decode prog_8_method_8_code 172 = .ok (.iload 6, 2) := by decide +kernel
theorem d_N_operate_174 : decode prog_8_method_8_code 174 = .ok (.iload 9, 2) := by decide +kernel
theorem d_N_operate_176 : decode prog_8_method_8_code 176 = .ok (.invokevirtual 67, 3) := by decide +kernel
theorem d_N_operate_179 : decode prog_8_method_8_code 179 = .ok (.aload_n 0, 1) := by decide +kernel
theorem d_N_operate_180 : decode prog_8_method_8_code 180 = .ok (.iload_n 3, 1) := by decide +kernel
theorem d_N_operate_181 : decode prog_8_method_8_code 181 = .ok (.iload 9, 2) := by decide +kernel
theorem d_N_operate_183 : decode prog_8_method_8_code 183 = .ok (.iload 7, 2) := by decide +kernel
theorem d_N_operate_185 : decode prog_8_method_8_code 185 = .ok (.invokevirtual 67, 3) := by decide +kernel
theorem d_N_operate_188 : decode prog_8_method_8_code 188 = .ok (.imul, 1) := by decide +kernel
theorem d_N_operate_189 : decode prog_8_method_8_code 189 = .ok (.iadd, 1) := by decide +kernel
theorem d_N_operate_190 : decode prog_8_method_8_code 190 = .ok (.istore 8, 2) := by decide +kernel
theorem d_N_operate_192 : decode prog_8_method_8_code 192 = .ok (.iinc 9 1, 3) := by decide +kernel
theorem d_N_operate_195 : decode prog_8_method_8_code 195 = .ok (.goto (-41), 3) := by decide +kernel
theorem d_N_operate_198 : decode prog_8_method_8_code 198 = .ok (.aload_n 0, 1) := by decide +kernel
theorem d_N_operate_199 : decode prog_8_method_8_code 199 = .ok (.bipush 29, 2) := by decide +kernel
theorem d_N_operate_201 : decode prog_8_method_8_code 201 = .ok (.iload 6, 2) := by decide +kernel
theorem d_N_operate_203 : decode prog_8_method_8_code 203 = .ok (.iload 7, 2) := by decide +kernel
theorem d_N_operate_205 : decode prog_8_method_8_code 205 = .ok (.aload_n 0, 1) := by decide +kernel
theorem d_N_operate_206 : decode prog_8_method_8_code 206 = .ok (.iload 8, 2) := by decide +kernel
theorem d_N_operate_208 : decode prog_8_method_8_code 208 = .ok (.invokevirtual 71, 3) := by decide +kernel
theorem d_N_operate_211 : decode prog_8_method_8_code 211 = .ok (.invokevirtual 75, 3) := by decide +kernel
theorem d_N_operate_214 : decode prog_8_method_8_code 214 = .ok (.iinc 7 1, 3) := by decide +kernel
theorem d_N_operate_217 : decode prog_8_method_8_code 217 = .ok (.goto (-202), 3) := by decide +kernel
theorem d_N_operate_220 : decode prog_8_method_8_code 220 = .ok (.iinc 6 1, 3) := by decide +kernel
theorem d_N_operate_223 : decode prog_8_method_8_code 223 = .ok (.goto (-220), 3) := by decide +kernel
theorem d_N_operate_226 : decode prog_8_method_8_code 226 = .ok (.aload_n 0, 1) := by decide +kernel
theorem d_N_operate_227 : decode prog_8_method_8_code 227 = .ok (.bipush 29, 2) := by decide +kernel
theorem d_N_operate_229 : decode prog_8_method_8_code 229 = .ok (.iload 5, 2) := by decide +kernel
theorem d_N_operate_231 : decode prog_8_method_8_code 231 = .ok (.invokevirtual 79, 3) := by decide +kernel
theorem d_N_operate_234 : decode prog_8_method_8_code 234 = .ok (.return_, 1) := by decide +kernel
theorem d_N_raise_0 : decode prog_8_method_9_code 0 = .ok (.aload_n 0, 1) := by decide +kernel
theorem d_N_raise_1 : decode prog_8_method_9_code 1 = .ok (.iload_n 1, 1) := by decide +kernel
theorem d_N_raise_2 : decode prog_8_method_9_code 2 = .ok (.bipush 30, 2) := by decide +kernel
theorem d_N_raise_4 : decode prog_8_method_9_code 4 = .ok (.invokevirtual 79, 3) := by decide +kernel
theorem d_N_raise_7 : decode prog_8_method_9_code 7 = .ok (.aload_n 0, 1) := by decide +kernel
theorem d_N_raise_8 : decode prog_8_method_9_code 8 = .ok (.iconst 1, 1) := by decide +kernel
theorem d_N_raise_9 : decode prog_8_method_9_code 9 = .ok (.iconst 0, 1) := by decide +kernel
theorem d_N_raise_10 : decode prog_8_method_9_code 10 = .ok (.iconst 0, 1) := by decide +kernel
theorem d_N_raise_11 : decode prog_8_method_9_code 11 = .ok (.iconst 0, 1) := by decide +kernel
theorem d_N_raise_12 : decode prog_8_method_9_code 12 = .ok (.iload_n 1, 1) := by decide +kernel
theorem d_N_raise_13 : decode prog_8_method_9_code 13 = .ok (.invokevirtual 83, 3) := by decide +kernel
theorem d_N_raise_16 : decode prog_8_method_9_code 16 = .ok (.iload_n 2, 1) := by decide +kernel
theorem d_N_raise_17 : decode prog_8_method_9_code 17 = .ok (.istore_n 3, 1) := by decide +kernel
theorem d_N_raise_18 : decode prog_8_method_9_code 18 = .ok (.iload_n 3, 1) := by decide +kernel
theorem d_N_raise_19 : decode prog_8_method_9_code 19 = .ok (.ifCond .le 39, 3) := by decide +kernel
theorem d_N_raise_22 : decode prog_8_method_9_code 22 = .ok (.iload_n 3, 1) := by decide +kernel
theorem d_N_raise_23 : decode prog_8_method_9_code 23 = .ok (.iconst 2, 1) := by decide +kernel
theorem d_N_raise_24 : decode prog_8_method_9_code 24 = .ok (.irem, 1) := by decide +kernel
theorem d_N_raise_25 : decode prog_8_method_9_code 25 = .ok (.iconst 1, 1) := by decide +kernel
theorem d_N_raise_26 : decode prog_8_method_9_code 26 = .ok (.if_icmp .ne 13, 3) := by decide +kernel
theorem d_N_raise_29 : decode prog_8_method_9_code 29 = .ok (.aload_n 0, 1) := by decide +kernel
theorem d_N_raise_30 : decode prog_8_method_9_code 30 = .ok (.iconst 5, 1) := by decide +kernel
theorem d_N_raise_31 : decode prog_8_method_9_code 31 = .ok (.iload_n 1, 1) := by decide +kernel
theorem d_N_raise_32 : decode prog_8_method_9_code 32 = .ok (.bipush 30, 2) := by decide +kernel
theorem d_N_raise_34 : decode prog_8_method_9_code 34 = .ok (.iconst 0, 1) := by decide +kernel
theorem d_N_raise_35 : decode prog_8_method_9_code 35 = .ok (.iload_n 1, 1) := by decide +kernel
theorem d_N_raise_36 : decode prog_8_method_9_code 36 = .ok (.invokevirtual 83, 3) := by decide +kernel
theorem d_N_raise_39 : decode prog_8_method_9_code 39 = .ok (.aload_n 0, 1) := by decide +kernel
theorem d_N_raise_40 : decode prog_8_method_9_code 40 = .ok (.iconst 5, 1) := by decide +kernel
theorem d_N_raise_41 : decode prog_8_method_9_code 41 = .ok (.bipush 30, 2) := by decide +kernel
theorem d_N_raise_43 : decode prog_8_method_9_code 43 = .ok (.bipush 30, 2) := by decide +kernel
theorem d_N_raise_45 : decode prog_8_method_9_code 45 = .ok (.iconst 0, 1) := by decide +kernel
theorem d_N_raise_46 : decode prog_8_method_9_code 46 = .ok (.bipush 30, 2) := by decide +kernel
theorem d_N_raise_48 : decode prog_8_method_9_code 48 = .ok (.invokevirtual 83, 3) := by decide +kernel
theorem d_N_raise_51 : decode prog_8_method_9_code 51 = .ok (.iload_n 3, 1) := by decide +kernel
theorem d_N_raise_52 : decode prog_8_method_9_code 52 = .ok (.iconst 2, 1) := by decide +kernel
theorem d_N_raise_53 : decode prog_8_method_9_code 53 = .ok (.idiv, 1) := by decide +kernel
theorem d_N_raise_54 : decode prog_8_method_9_code 54 = .ok (.istore_n 3, 1) := by decide +kernel
theorem d_N_raise_55 : decode prog_8_method_9_code 55 = .ok (.goto (-37), 3) := by decide +kernel
theorem d_N_raise_58 : decode prog_8_method_9_code 58 = .ok (.return_, 1) := by decide +kernel
theorem d_N_feed_0 : decode prog_8_method_10_code 0 = .ok (.aload_n 0, 1) := by decide +kernel
theorem d_N_feed_1 : decode prog_8_method_10_code 1 = .ok (.getfield 87, 3) := by decide +kernel
theorem d_N_feed_4 : decode prog_8_method_10_code 4 = .ok (.bipush 24, 2) := by decide +kernel
theorem d_N_feed_6 : decode prog_8_method_10_code 6 = .ok (.if_icmp .ge 10, 3) := by decide +kernel
theorem d_N_feed_9 : decode prog_8_method_10_code 9 = .ok (.aload_n 0, 1) := by decide +kernel
theorem d_N_feed_10 : decode prog_8_method_10_code 10 = .ok (.getfield 90, 3) := by decide +kernel
theorem d_N_feed_13 : decode prog_8_method_10_code 13 = .ok (.ifCond .eq 5, 3) := by decide +kernel
theorem d_N_feed_16 : decode prog_8_method_10_code 16 = .ok (.iconst 1, 1) := by decide +kernel
theorem d_N_feed_17 : decode prog_8_method_10_code 17 = .ok (.ireturn, 1) := by decide +kernel
theorem d_N_feed_18 : decode prog_8_method_10_code 18 = .ok (.aload_n 0, 1) := by decide +kernel
theorem d_N_feed_19 : decode prog_8_method_10_code 19 = .ok (.getfield 7, 3) := by decide +kernel
theorem d_N_feed_22 : decode prog_8_method_10_code 22 = .ok (.aload_n 0, 1) := by decide +kernel
theorem d_N_feed_23 : decode prog_8_method_10_code 23 = .ok (.getfield 87, 3) := by decide +kernel
theorem d_N_feed_26 : decode prog_8_method_10_code 26 = .ok (.iload_n 1, 1) := by decide +kernel
theorem d_N_feed_27 : decode prog_8_method_10_code 27 = .ok (.iastore, 1) := by decide +kernel
theorem d_N_feed_28 : decode prog_8_method_10_code 28 = .ok (.aload_n 0, 1) := by decide +kernel
theorem d_N_feed_29 : decode prog_8_method_10_code 29 = .ok (.aload_n 0, 1) := by decide +kernel
theorem d_N_feed_30 : decode prog_8_method_10_code 30 = .ok (.getfield 87, 3) := by decide +kernel
theorem d_N_feed_33 : decode prog_8_method_10_code 33 = .ok (.iconst 1, 1) := by decide +kernel
theorem d_N_feed_34 : decode prog_8_method_10_code 34 = .ok (.iadd, 1) := by decide +kernel
theorem d_N_feed_35 : decode prog_8_method_10_code 35 = .ok (.putfield 87, 3) := by decide +kernel
theorem d_N_feed_38 : decode prog_8_method_10_code 38 = .ok (.iconst 0, 1) := by decide +kernel
theorem d_N_feed_39 : decode prog_8_method_10_code 39 = .ok (.ireturn, 1) := by decide +kernel
theorem d_N_setInput_0 : decode prog_8_method_11_code 0 = .ok (.iload_n 1, 1) := by decide +kernel
theorem d_N_setInput_1 : decode prog_8_method_11_code 1 = .ok (.iconst 0, 1) := by decide +kernel
theorem d_N_setInput_2 : decode prog_8_method_11_code 2 = .ok (.iconst 3, 1) := by decide +kernel
theorem d_N_setInput_3 : decode prog_8_method_11_code 3 = .ok (.invokestatic 63, 3) := by decide +kernel
theorem d_N_setInput_6 : decode prog_8_method_11_code 6 = .ok (.ifCond .eq 12, 3) := by decide +kernel
theorem d_N_setInput_9 : decode prog_8_method_11_code 9 = .ok (.aload_n 0, 1) := by decide +kernel
theorem d_N_setInput_10 : decode prog_8_method_11_code 10 = .ok (.iload_n 2, 1) := by decide +kernel
theorem d_N_setInput_11 : decode prog_8_method_11_code 11 = .ok (.iload_n 3, 1) := by decide +kernel
theorem d_N_setInput_12 : decode prog_8_method_11_code 12 = .ok (.invokevirtual 94, 3) := by decide +kernel
theorem d_N_setInput_15 : decode prog_8_method_11_code 15 = .ok (.ifCond .ne 5, 3) := by decide +kernel
theorem d_N_setInput_18 : decode prog_8_method_11_code 18 = .ok (.iconst 2, 1) := by decide +kernel
theorem d_N_setInput_19 : decode prog_8_method_11_code 19 = .ok (.ireturn, 1) := by decide +kernel
theorem d_N_setInput_20 : decode prog_8_method_11_code 20 = .ok (.aload_n 0, 1) := by decide +kernel
theorem d_N_setInput_21 : decode prog_8_method_11_code 21 = .ok (.iload_n 1, 1) := by decide +kernel
theorem d_N_setInput_22 : decode prog_8_method_11_code 22 = .ok (.iload_n 2, 1) := by decide +kernel
theorem d_N_setInput_23 : decode prog_8_method_11_code 23 = .ok (.iload_n 3, 1) := by decide +kernel
theorem d_N_setInput_24 : decode prog_8_method_11_code 24 = .ok (.aload_n 0, 1) := by decide +kernel
theorem d_N_setInput_25 : decode prog_8_method_11_code 25 = .ok (.iload 4, 2) := by decide +kernel
theorem d_N_setInput_27 : decode prog_8_method_11_code 27 = .ok (.invokevirtual 71, 3) := by decide +kernel
theorem d_N_setInput_30 : decode prog_8_method_11_code 30 = .ok (.invokevirtual 75, 3) := by decide +kernel
theorem d_N_setInput_33 : decode prog_8_method_11_code 33 = .ok (.aload_n 0, 1) := by decide +kernel
theorem d_N_setInput_34 : decode prog_8_method_11_code 34 = .ok (.iconst 0, 1) := by decide +kernel
theorem d_N_setInput_35 : decode prog_8_method_11_code 35 = .ok (.putfield 98, 3) := by decide +kernel
theorem d_N_setInput_38 : decode prog_8_method_11_code 38 = .ok (.iconst 0, 1) := by decide +kernel
theorem d_N_setInput_39 : decode prog_8_method_11_code 39 = .ok (.ireturn, 1) := by decide +kernel
theorem d_N_isTwo_0 : decode prog_8_method_12_code 0 = .ok (.iload_n 0, 1) := by decide +kernel
theorem d_N_isTwo_1 : decode prog_8_method_12_code 1 = .ok (.iconst 3, 1) := by decide +kernel
theorem d_N_isTwo_2 : decode prog_8_method_12_code 2 = .ok (.iconst 5, 1) := by decide +kernel
theorem d_N_isTwo_3 : decode prog_8_method_12_code 3 = .ok (.invokestatic 63, 3) := by decide +kernel
theorem d_N_isTwo_6 : decode prog_8_method_12_code 6 = .ok (.ireturn, 1) := by decide +kernel
theorem d_N_isOne_0 : decode prog_8_method_13_code 0 = .ok (.iload_n 0, 1) := by decide +kernel
theorem d_N_isOne_1 : decode prog_8_method_13_code 1 = .ok (.bipush 6, 2) := by decide +kernel
theorem d_N_isOne_3 : decode prog_8_method_13_code 3 = .ok (.bipush 8, 2) := by decide +kernel
theorem d_N_isOne_5 : decode prog_8_method_13_code 5 = .ok (.invokestatic 63, 3) := by decide +kernel
theorem d_N_isOne_8 : decode prog_8_method_13_code 8 = .ok (.ireturn, 1) := by decide +kernel
theorem d_N_isWord_0 : decode prog_8_method_14_code 0 = .ok (.iload_n 0, 1) := by decide +kernel
theorem d_N_isWord_1 : decode prog_8_method_14_code 1 = .ok (.bipush 100, 2) := by decide +kernel
theorem d_N_isWord_3 : decode prog_8_method_14_code 3 = .ok (.idiv, 1) := by decide +kernel
theorem d_N_isWord_4 : decode prog_8_method_14_code 4 = .ok (.istore_n 1, 1) := by decide +kernel
theorem d_N_isWord_5 : decode prog_8_method_14_code 5 = .ok (.iload_n 0, 1) := by decide +kernel
theorem d_N_isWord_6 : decode prog_8_method_14_code 6 = .ok (.bipush 100, 2) := by decide +kernel
theorem d_N_isWord_8 : decode prog_8_method_14_code 8 = .ok (.irem, 1) := by decide +kernel
theorem d_N_isWord_9 : decode prog_8_method_14_code 9 = .ok (.istore_n 2, 1) := by decide +kernel
theorem d_N_isWord_10 : decode prog_8_method_14_code 10 = .ok (.iload_n 0, 1) := by decide +kernel
theorem d_N_isWord_11 : decode prog_8_method_14_code 11 = .ok (.iconst 0, 1) := by decide +kernel
theorem d_N_isWord_12 : decode prog_8_method_14_code 12 = .ok (.sipush 899, 3) := by decide +kernel
theorem d_N_isWord_15 : decode prog_8_method_14_code 15 = .ok (.invokestatic 63, 3) := by decide +kernel
theorem d_N_isWord_18 : decode prog_8_method_14_code 18 = .ok (.ifCond .eq 35, 3) := by decide +kernel
theorem d_N_isWord_21 : decode prog_8_method_14_code 21 = .ok (.iload_n 1, 1) := by decide +kernel
theorem d_N_isWord_22 : decode prog_8_method_14_code 22 = .ok (.bipush 7, 2) := by decide +kernel
theorem d_N_isWord_24 : decode prog_8_method_14_code 24 = .ok (.if_icmp .eq 25, 3) := by decide +kernel
theorem d_N_isWord_27 : decode prog_8_method_14_code 27 = .ok (.iload_n 1, 1) := by decide +kernel
theorem d_N_isWord_28 : decode prog_8_method_14_code 28 = .ok (.bipush 8, 2) := by decide +kernel
theorem d_N_isWord_30 : decode prog_8_method_14_code 30 = .ok (.if_icmp .eq 19, 3) := by decide +kernel
theorem d_N_isWord_33 : decode prog_8_method_14_code 33 = .ok (.iload_n 1, 1) := by decide +kernel
theorem d_N_isWord_34 : decode prog_8_method_14_code 34 = .ok (.ifCond .ne 11, 3) := by decide +kernel
theorem d_N_isWord_37 : decode prog_8_method_14_code 37 = .ok (.iload_n 2, 1) := by decide +kernel
theorem d_N_isWord_38 : decode prog_8_method_14_code 38 = .ok (.iconst 4, 1) := by decide +kernel
theorem d_N_isWord_39 : decode prog_8_method_14_code 39 = .ok (.if_icmp .ge 14, 3) := by decide +kernel
theorem d_N_isWord_42 : decode prog_8_method_14_code 42 = .ok (.goto 7, 3) := by decide +kernel
theorem d_N_isWord_45 : decode prog_8_method_14_code 45 = .ok (.iload_n 2, 1) := by decide +kernel
theorem d_N_isWord_46 : decode prog_8_method_14_code 46 = .ok (.ifCond .ne 7, 3) := by decide +kernel
theorem d_N_isWord_49 : decode prog_8_method_14_code 49 = .ok (.iconst 1, 1) := by decide +kernel
theorem d_N_isWord_50 : decode prog_8_method_14_code 50 = .ok (.goto 4, 3) := by decide +kernel
theorem d_N_isWord_53 : decode prog_8_method_14_code 53 = .ok (.iconst 0, 1) := by decide +kernel
theorem d_N_isWord_54 : decode prog_8_method_14_code 54 = .ok (.ireturn, 1) := by decide +kernel
theorem d_N_fault_0 : decode prog_8_method_15_code 0 = .ok (.iconst 0, 1) := by decide +kernel
theorem d_N_fault_1 : decode prog_8_method_15_code 1 = .ok (.istore_n 1, 1) := by decide +kernel
theorem d_N_fault_2 : decode prog_8_method_15_code 2 = .ok (.iconst 0, 1) := by decide +kernel
theorem d_N_fault_3 : decode prog_8_method_15_code 3 = .ok (.istore_n 2, 1) := by decide +kernel
theorem d_N_fault_4 : decode prog_8_method_15_code 4 = .ok (.iload_n 2, 1) := by decide +kernel
theorem d_N_fault_5 : decode prog_8_method_15_code 5 = .ok (.aload_n 0, 1) := by decide +kernel
theorem d_N_fault_6 : decode prog_8_method_15_code 6 = .ok (.getfield 87, 3) := by decide +kernel
theorem d_N_fault_9 : decode prog_8_method_15_code 9 = .ok (.if_icmp .ge 73, 3) := by decide +kernel
theorem d_N_fault_12 : decode prog_8_method_15_code 12 = .ok (.aload_n 0, 1) := by decide +kernel
theorem d_N_fault_13 : decode prog_8_method_15_code 13 = .ok (.getfield 7, 3) := by decide +kernel
theorem d_N_fault_16 : decode prog_8_method_15_code 16 = .ok (.iload_n 2, 1) := by decide +kernel
theorem d_N_fault_17 : decode prog_8_method_15_code 17 = .ok (.iaload, 1) := by decide +kernel
theorem d_N_fault_18 : decode prog_8_method_15_code 18 = .ok (.invokestatic 101, 3) := by decide +kernel
theorem d_N_fault_21 : decode prog_8_method_15_code 21 = .ok (.ifCond .ne 5, 3) := by decide +kernel
theorem d_N_fault_24 : decode prog_8_method_15_code 24 = .ok (.iconst 3, 1) := by decide +kernel
theorem d_N_fault_25 : decode prog_8_method_15_code 25 = .ok (.ireturn, 1) := by decide +kernel
theorem d_N_fault_26 : decode prog_8_method_15_code 26 = .ok (.aload_n 0, 1) := by decide +kernel
theorem d_N_fault_27 : decode prog_8_method_15_code 27 = .ok (.getfield 7, 3) := by decide +kernel
theorem d_N_fault_30 : decode prog_8_method_15_code 30 = .ok (.iload_n 2, 1) := by decide +kernel
theorem d_N_fault_31 : decode prog_8_method_15_code 31 = .ok (.iaload, 1) := by decide +kernel
theorem d_N_fault_32 : decode prog_8_method_15_code 32 = .ok (.bipush 100, 2) := by decide +kernel
theorem d_N_fault_34 : decode prog_8_method_15_code 34 = .ok (.idiv, 1) := by decide +kernel
theorem d_N_fault_35 : decode prog_8_method_15_code 35 = .ok (.istore_n 3, 1) := by decide +kernel
theorem d_N_fault_36 : decode prog_8_method_15_code 36 = .ok (.iload_n 3, 1) := by decide +kernel
theorem d_N_fault_37 : decode prog_8_method_15_code 37 = .ok (.invokestatic 105, 3) := by decide +kernel
theorem d_N_fault_40 : decode prog_8_method_15_code 40 = .ok (.ifCond .eq 7, 3) := by decide +kernel
theorem d_N_fault_43 : decode prog_8_method_15_code 43 = .ok (.iconst 2, 1) := by decide +kernel
theorem d_N_fault_44 : decode prog_8_method_15_code 44 = .ok (.goto 15, 3) := by decide +kernel
theorem d_N_fault_47 : decode prog_8_method_15_code 47 = .ok (.iload_n 3, 1) := by decide +kernel
theorem d_N_fault_48 : decode prog_8_method_15_code 48 = .ok (.invokestatic 108, 3) := by decide +kernel
theorem d_N_fault_51 : decode prog_8_method_15_code 51 = .ok (.ifCond .eq 7, 3) := by decide +kernel
theorem d_N_fault_54 : decode prog_8_method_15_code 54 = .ok (.iconst 1, 1) := by decide +kernel
theorem d_N_fault_55 : decode prog_8_method_15_code 55 = .ok (.goto 4, 3) := by decide +kernel
theorem d_N_fault_58 : decode prog_8_method_15_code 58 = .ok (.iconst 0, 1) := by decide +kernel
theorem d_N_fault_59 : decode prog_8_method_15_code 59 = .ok (.istore 4, 2) := by decide +kernel
theorem d_N_fault_61 : decode prog_8_method_15_code 61 = .ok (.iload_n 1, 1) := by decide +kernel
theorem d_N_fault_62 : decode prog_8_method_15_code 62 = .ok (.iload 4, 2) := by decide +kernel
theorem d_N_fault_64 : decode prog_8_method_15_code 64 = .ok (.if_icmp .ge 5, 3) := by decide +kernel
theorem d_N_fault_67 : decode prog_8_method_15_code 67 = .ok (.iconst 4, 1) := by decide +kernel
theorem d_N_fault_68 : decode prog_8_method_15_code 68 = .ok (.ireturn, 1) := by decide +kernel
theorem d_N_fault_69 : decode prog_8_method_15_code 69 = .ok (.iload_n 1, 1) := by decide +kernel
theorem d_N_fault_70 : decode prog_8_method_15_code 70 = .ok (.iload 4, 2) := by decide +kernel
theorem d_N_fault_72 : decode prog_8_method_15_code 72 = .ok (.isub, 1) := by decide +kernel
theorem d_N_fault_73 : decode prog_8_method_15_code 73 = .ok (.iconst 1, 1) := by decide +kernel
theorem d_N_fault_74 : decode prog_8_method_15_code 74 = .ok (.iadd, 1) := by decide +kernel
theorem d_N_fault_75 : decode prog_8_method_15_code 75 = .ok (.istore_n 1, 1) := by decide +kernel
theorem d_N_fault_76 : decode prog_8_method_15_code 76 = .ok (.iinc 2 1, 3) := by decide +kernel
theorem d_N_fault_79 : decode prog_8_method_15_code 79 = .ok (.goto (-75), 3) := by decide +kernel
theorem d_N_fault_82 : decode prog_8_method_15_code 82 = .ok (.iload_n 1, 1) := by decide +kernel
theorem d_N_fault_83 : decode prog_8_method_15_code 83 = .ok (.iconst 1, 1) := by decide +kernel
theorem d_N_fault_84 : decode prog_8_method_15_code 84 = .ok (.if_icmp .ne 7, 3) := by decide +kernel
theorem d_N_fault_87 : decode prog_8_method_15_code 87 = .ok (.iconst 0, 1) := by decide +kernel
theorem d_N_fault_88 : decode prog_8_method_15_code 88 = .ok (.goto 4, 3) := by decide +kernel
theorem d_N_fault_91 : decode prog_8_method_15_code 91 = .ok (.iconst 5, 1) := by decide +kernel
theorem d_N_fault_92 : decode prog_8_method_15_code 92 = .ok (.ireturn, 1) := by decide +kernel
theorem d_N_evalDirect_0 : decode prog_8_method_16_code 0 = .ok (.aload_n 0, 1) := by decide +kernel
theorem d_N_evalDirect_1 : decode prog_8_method_16_code 1 = .ok (.invokevirtual 111, 3) := by decide +kernel
theorem d_N_evalDirect_4 : decode prog_8_method_16_code 4 = .ok (.istore_n 1, 1) := by decide +kernel
theorem d_N_evalDirect_5 : decode prog_8_method_16_code 5 = .ok (.iload_n 1, 1) := by decide +kernel
theorem d_N_evalDirect_6 : decode prog_8_method_16_code 6 = .ok (.ifCond .le 5, 3) := by decide +kernel
theorem d_N_evalDirect_9 : decode prog_8_method_16_code 9 = .ok (.iload_n 1, 1) := by decide +kernel
theorem d_N_evalDirect_10 : decode prog_8_method_16_code 10 = .ok (.ireturn, 1) := by decide +kernel
theorem d_N_evalDirect_11 : decode prog_8_method_16_code 11 = .ok (.iconst 4, 1) := by decide +kernel
theorem d_N_evalDirect_12 : decode prog_8_method_16_code 12 = .ok (.istore_n 2, 1) := by decide +kernel
theorem d_N_evalDirect_13 : decode prog_8_method_16_code 13 = .ok (.iconst 0, 1) := by decide +kernel
theorem d_N_evalDirect_14 : decode prog_8_method_16_code 14 = .ok (.istore_n 3, 1) := by decide +kernel
theorem d_N_evalDirect_15 : decode prog_8_method_16_code 15 = .ok (.iload_n 3, 1) := by decide +kernel
theorem d_N_evalDirect_16 : decode prog_8_method_16_code 16 = .ok (.aload_n 0, 1) := by decide +kernel
theorem d_N_evalDirect_17 : decode prog_8_method_16_code 17 = .ok (.getfield 87, 3) := by decide +kernel
theorem d_N_evalDirect_20 : decode prog_8_method_16_code 20 = .ok (.if_icmp .ge 100, 3) := by decide +kernel
theorem d_N_evalDirect_23 : decode prog_8_method_16_code 23 = .ok (.aload_n 0, 1) := by decide +kernel
theorem d_N_evalDirect_24 : decode prog_8_method_16_code 24 = .ok (.getfield 7, 3) := by decide +kernel
theorem d_N_evalDirect_27 : decode prog_8_method_16_code 27 = .ok (.iload_n 3, 1) := by decide +kernel
theorem d_N_evalDirect_28 : decode prog_8_method_16_code 28 = .ok (.iaload, 1) := by decide +kernel
theorem d_N_evalDirect_29 : decode prog_8_method_16_code 29 = .ok (.bipush 100, 2) := by decide +kernel
theorem d_N_evalDirect_31 : decode prog_8_method_16_code 31 = .ok (.idiv, 1) := by decide +kernel
theorem d_N_evalDirect_32 : decode prog_8_method_16_code 32 = .ok (.istore 4, 2) := by decide +kernel
theorem d_N_evalDirect_34 : decode prog_8_method_16_code 34 = .ok (.iload 4, 2) := by decide +kernel
theorem d_N_evalDirect_36 : decode prog_8_method_16_code 36 = .ok (.invokestatic 105, 3) := by decide +kernel
theorem d_N_evalDirect_39 : decode prog_8_method_16_code 39 = .ok (.ifCond .eq 7, 3) := by decide +kernel
theorem d_N_evalDirect_42 : decode prog_8_method_16_code 42 = .ok (.iconst 2, 1) := by decide +kernel
theorem d_N_evalDirect_43 : decode prog_8_method_16_code 43 = .ok (.goto 16, 3) := by decide +kernel
theorem d_N_evalDirect_46 : decode prog_8_method_16_code 46 = .ok (.iload 4, 2) := by decide +kernel
theorem d_N_evalDirect_48 : decode prog_8_method_16_code 48 = .ok (.invokestatic 108, 3) := by decide +kernel
theorem d_N_evalDirect_51 : decode prog_8_method_16_code 51 = .ok (.ifCond .eq 7, 3) := by decide +kernel
theorem d_N_evalDirect_54 : decode prog_8_method_16_code 54 = .ok (.iconst 1, 1) := by decide +kernel
theorem d_N_evalDirect_55 : decode prog_8_method_16_code 55 = .ok (.goto 4, 3) := by decide +kernel
theorem d_N_evalDirect_58 : decode prog_8_method_16_code 58 = .ok (.iconst 0, 1) := by decide +kernel
theorem d_N_evalDirect_59 : decode prog_8_method_16_code 59 = .ok (.istore 5, 2) := by decide +kernel
theorem d_N_evalDirect_61 : decode prog_8_method_16_code 61 = .ok (.iload_n 2, 1) := by decide +kernel
theorem d_N_evalDirect_62 : decode prog_8_method_16_code 62 = .ok (.iload 5, 2) := by decide +kernel
theorem d_N_evalDirect_64 : decode prog_8_method_16_code 64 = .ok (.isub, 1) := by decide +kernel
theorem d_N_evalDirect_65 : decode prog_8_method_16_code 65 = .ok (.istore_n 2, 1) := by decide +kernel
theorem d_N_evalDirect_66 : decode prog_8_method_16_code 66 = .ok (.iload 4, 2) := by decide +kernel
theorem d_N_evalDirect_68 : decode prog_8_method_16_code 68 = .ok (.bipush 8, 2) := by decide +kernel
theorem d_N_evalDirect_70 : decode prog_8_method_16_code 70 = .ok (.if_icmp .ne 20, 3) := by decide +kernel
theorem d_N_evalDirect_73 : decode prog_8_method_16_code 73 = .ok (.aload_n 0, 1) := by decide +kernel
theorem d_N_evalDirect_74 : decode prog_8_method_16_code 74 = .ok (.iload_n 2, 1) := by decide +kernel
theorem d_N_evalDirect_75 : decode prog_8_method_16_code 75 = .ok (.aload_n 0, 1) := by decide +kernel
theorem d_N_evalDirect_76 : decode prog_8_method_16_code 76 = .ok (.getfield 7, 3) := by decide +kernel
theorem d_N_evalDirect_79 : decode prog_8_method_16_code 79 = .ok (.iload_n 3, 1) := by decide +kernel
theorem d_N_evalDirect_80 : decode prog_8_method_16_code 80 = .ok (.iaload, 1) := by decide +kernel
theorem d_N_evalDirect_81 : decode prog_8_method_16_code 81 = .ok (.bipush 100, 2) := by decide +kernel
theorem d_N_evalDirect_83 : decode prog_8_method_16_code 83 = .ok (.irem, 1) := by decide +kernel
theorem d_N_evalDirect_84 : decode prog_8_method_16_code 84 = .ok (.invokevirtual 115, 3) := by decide +kernel
theorem d_N_evalDirect_87 : decode prog_8_method_16_code 87 = .ok (.goto 23, 3) := by decide +kernel
theorem d_N_evalDirect_90 : decode prog_8_method_16_code 90 = .ok (.aload_n 0, 1) := by decide +kernel
theorem d_N_evalDirect_91 : decode prog_8_method_16_code 91 = .ok (.iload 4, 2) := by decide +kernel
theorem d_N_evalDirect_93 : decode prog_8_method_16_code 93 = .ok (.iload_n 2, 1) := by decide +kernel
theorem d_N_evalDirect_94 : decode prog_8_method_16_code 94 = .ok (.iload_n 2, 1) := by decide +kernel
theorem d_N_evalDirect_95 : decode prog_8_method_16_code 95 = .ok (.iconst 1, 1) := by decide +kernel
theorem d_N_evalDirect_96 : decode prog_8_method_16_code 96 = .ok (.iadd, 1) := by decide +kernel
theorem d_N_evalDirect_97 : decode prog_8_method_16_code 97 = .ok (.aload_n 0, 1) := by decide +kernel
theorem d_N_evalDirect_98 : decode prog_8_method_16_code 98 = .ok (.getfield 7, 3) := by decide +kernel
theorem d_N_evalDirect_101 : decode prog_8_method_16_code 101 = .ok (.iload_n 3, 1) := by decide +kernel
theorem d_N_evalDirect_102 : decode prog_8_method_16_code 102 = .ok (.iaload, 1) := by decide +kernel
theorem d_N_evalDirect_103 : decode prog_8_method_16_code 103 = .ok (.bipush 100, 2) := by decide +kernel
theorem d_N_evalDirect_105 : decode prog_8_method_16_code 105 = .ok (.irem, 1) := by decide +kernel
theorem d_N_evalDirect_106 : decode prog_8_method_16_code 106 = .ok (.iload_n 2, 1) := by decide +kernel
theorem d_N_evalDirect_107 : decode prog_8_method_16_code 107 = .ok (.invokevirtual 83, 3) := by decide +kernel
theorem d_N_evalDirect_110 : decode prog_8_method_16_code 110 = .ok (.iload_n 2, 1) := by decide +kernel
theorem d_N_evalDirect_111 : decode prog_8_method_16_code 111 = .ok (.iconst 1, 1) := by decide +kernel
theorem d_N_evalDirect_112 : decode prog_8_method_16_code 112 = .ok (.iadd, 1) := by decide +kernel
theorem d_N_evalDirect_113 : decode prog_8_method_16_code 113 = .ok (.istore_n 2, 1) := by decide +kernel
theorem d_N_evalDirect_114 : decode prog_8_method_16_code 114 = .ok (.iinc 3 1, 3) := by decide +kernel
theorem d_N_evalDirect_117 : decode prog_8_method_16_code 117 = .ok (.goto (-102), 3) := by decide +kernel
theorem d_N_evalDirect_120 : decode prog_8_method_16_code 120 = .ok (.iconst 0, 1) := by decide +kernel
theorem d_N_evalDirect_121 : decode prog_8_method_16_code 121 = .ok (.istore_n 3, 1) := by decide +kernel
theorem d_N_evalDirect_122 : decode prog_8_method_16_code 122 = .ok (.iload_n 3, 1) := by decide +kernel
theorem d_N_evalDirect_123 : decode prog_8_method_16_code 123 = .ok (.bipush 16, 2) := by decide +kernel
theorem d_N_evalDirect_125 : decode prog_8_method_16_code 125 = .ok (.if_icmp .ge 24, 3) := by decide +kernel
theorem d_N_evalDirect_128 : decode prog_8_method_16_code 128 = .ok (.aload_n 0, 1) := by decide +kernel
theorem d_N_evalDirect_129 : decode prog_8_method_16_code 129 = .ok (.getfield 16, 3) := by decide +kernel
theorem d_N_evalDirect_132 : decode prog_8_method_16_code 132 = .ok (.iload_n 3, 1) := by decide +kernel
theorem d_N_evalDirect_133 : decode prog_8_method_16_code 133 = .ok (.aload_n 0, 1) := by decide +kernel
theorem d_N_evalDirect_134 : decode prog_8_method_16_code 134 = .ok (.getfield 13, 3) := by decide +kernel
theorem d_N_evalDirect_137 : decode prog_8_method_16_code 137 = .ok (.bipush 64, 2) := by decide +kernel
theorem d_N_evalDirect_139 : decode prog_8_method_16_code 139 = .ok (.iload_n 3, 1) := by decide +kernel
theorem d_N_evalDirect_140 : decode prog_8_method_16_code 140 = .ok (.iadd, 1) := by decide +kernel
theorem d_N_evalDirect_141 : decode prog_8_method_16_code 141 = .ok (.iaload, 1) := by decide +kernel
theorem d_N_evalDirect_142 : decode prog_8_method_16_code 142 = .ok (.iastore, 1) := by decide +kernel
theorem d_N_evalDirect_143 : decode prog_8_method_16_code 143 = .ok (.iinc 3 1, 3) := by decide +kernel
theorem d_N_evalDirect_146 : decode prog_8_method_16_code 146 = .ok (.goto (-24), 3) := by decide +kernel
theorem d_N_evalDirect_149 : decode prog_8_method_16_code 149 = .ok (.aload_n 0, 1) := by decide +kernel
theorem d_N_evalDirect_150 : decode prog_8_method_16_code 150 = .ok (.iconst 1, 1) := by decide +kernel
theorem d_N_evalDirect_151 : decode prog_8_method_16_code 151 = .ok (.putfield 118, 3) := by decide +kernel
theorem d_N_evalDirect_154 : decode prog_8_method_16_code 154 = .ok (.iconst 0, 1) := by decide +kernel
theorem d_N_evalDirect_155 : decode prog_8_method_16_code 155 = .ok (.ireturn, 1) := by decide +kernel
theorem d_N_write_0 : decode prog_8_method_17_code 0 = .ok (.aload_n 0, 1) := by decide +kernel
theorem d_N_write_1 : decode prog_8_method_17_code 1 = .ok (.getfield 19, 3) := by decide +kernel
theorem d_N_write_4 : decode prog_8_method_17_code 4 = .ok (.aload_n 0, 1) := by decide +kernel
theorem d_N_write_5 : decode prog_8_method_17_code 5 = .ok (.getfield 121, 3) := by decide +kernel
theorem d_N_write_8 : decode prog_8_method_17_code 8 = .ok (.iload_n 1, 1) := by decide +kernel
theorem d_N_write_9 : decode prog_8_method_17_code 9 = .ok (.iastore, 1) := by decide +kernel
theorem d_N_write_10 : decode prog_8_method_17_code 10 = .ok (.aload_n 0, 1) := by decide +kernel
theorem d_N_write_11 : decode prog_8_method_17_code 11 = .ok (.getfield 22, 3) := by decide +kernel
theorem d_N_write_14 : decode prog_8_method_17_code 14 = .ok (.aload_n 0, 1) := by decide +kernel
theorem d_N_write_15 : decode prog_8_method_17_code 15 = .ok (.getfield 121, 3) := by decide +kernel
theorem d_N_write_18 : decode prog_8_method_17_code 18 = .ok (.iload_n 2, 1) := by decide +kernel
theorem d_N_write_19 : decode prog_8_method_17_code 19 = .ok (.iastore, 1) := by decide +kernel
theorem d_N_write_20 : decode prog_8_method_17_code 20 = .ok (.aload_n 0, 1) := by decide +kernel
theorem d_N_write_21 : decode prog_8_method_17_code 21 = .ok (.getfield 25, 3) := by decide +kernel
theorem d_N_write_24 : decode prog_8_method_17_code 24 = .ok (.aload_n 0, 1) := by decide +kernel
theorem d_N_write_25 : decode prog_8_method_17_code 25 = .ok (.getfield 121, 3) := by decide +kernel
theorem d_N_write_28 : decode prog_8_method_17_code 28 = .ok (.iload_n 3, 1) := by decide +kernel
theorem d_N_write_29 : decode prog_8_method_17_code 29 = .ok (.iastore, 1) := by decide +kernel
theorem d_N_write_30 : decode prog_8_method_17_code 30 = .ok (.aload_n 0, 1) := by decide +kernel
theorem d_N_write_31 : decode prog_8_method_17_code 31 = .ok (.getfield 28, 3) := by decide +kernel
theorem d_N_write_34 : decode prog_8_method_17_code 34 = .ok (.aload_n 0, 1) := by decide +kernel
theorem d_N_write_35 : decode prog_8_method_17_code 35 = .ok (.getfield 121, 3) := by decide +kernel
theorem d_N_write_38 : decode prog_8_method_17_code 38 = .ok (.iload 4, 2) := by decide +kernel
theorem d_N_write_40 : decode prog_8_method_17_code 40 = .ok (.iastore, 1) := by decide +kernel
theorem d_N_write_41 : decode prog_8_method_17_code 41 = .ok (.aload_n 0, 1) := by decide +kernel
theorem d_N_write_42 : decode prog_8_method_17_code 42 = .ok (.aload_n 0, 1) := by decide +kernel
theorem d_N_write_43 : decode prog_8_method_17_code 43 = .ok (.getfield 121, 3) := by decide +kernel
theorem d_N_write_46 : decode prog_8_method_17_code 46 = .ok (.iconst 1, 1) := by decide +kernel
theorem d_N_write_47 : decode prog_8_method_17_code 47 = .ok (.iadd, 1) := by decide +kernel
theorem d_N_write_48 : decode prog_8_method_17_code 48 = .ok (.putfield 121, 3) := by decide +kernel
theorem d_N_write_51 : decode prog_8_method_17_code 51 = .ok (.aload_n 0, 1) := by decide +kernel
theorem d_N_write_52 : decode prog_8_method_17_code 52 = .ok (.getfield 121, 3) := by decide +kernel
theorem d_N_write_55 : decode prog_8_method_17_code 55 = .ok (.iconst 1, 1) := by decide +kernel
theorem d_N_write_56 : decode prog_8_method_17_code 56 = .ok (.isub, 1) := by decide +kernel
theorem d_N_write_57 : decode prog_8_method_17_code 57 = .ok (.ireturn, 1) := by decide +kernel
theorem d_N_highest_0 : decode prog_8_method_18_code 0 = .ok (.iconst 1, 1) := by decide +kernel
theorem d_N_highest_1 : decode prog_8_method_18_code 1 = .ok (.istore_n 1, 1) := by decide +kernel
theorem d_N_highest_2 : decode prog_8_method_18_code 2 = .ok (.iconst 2, 1) := by decide +kernel
theorem d_N_highest_3 : decode prog_8_method_18_code 3 = .ok (.iload_n 1, 1) := by decide +kernel
theorem d_N_highest_4 : decode prog_8_method_18_code 4 = .ok (.imul, 1) := by decide +kernel
theorem d_N_highest_5 : decode prog_8_method_18_code 5 = .ok (.iload_n 0, 1) := by decide +kernel
theorem d_N_highest_6 : decode prog_8_method_18_code 6 = .ok (.if_icmp .gt 10, 3) := by decide +kernel
theorem d_N_highest_9 : decode prog_8_method_18_code 9 = .ok (.iconst 2, 1) := by decide +kernel
theorem d_N_highest_10 : decode prog_8_method_18_code 10 = .ok (.iload_n 1, 1) := by decide +kernel
theorem d_N_highest_11 : decode prog_8_method_18_code 11 = .ok (.imul, 1) := by decide +kernel
theorem d_N_highest_12 : decode prog_8_method_18_code 12 = .ok (.istore_n 1, 1) := by decide +kernel
theorem d_N_highest_13 : decode prog_8_method_18_code 13 = .ok (.goto (-11), 3) := by decide +kernel
theorem d_N_highest_16 : decode prog_8_method_18_code 16 = .ok (.iload_n 1, 1) := by decide +kernel
theorem d_N_highest_17 : decode prog_8_method_18_code 17 = .ok (.ireturn, 1) := by decide +kernel
theorem d_N_steps_0 : decode prog_8_method_19_code 0 = .ok (.iload_n 0, 1) := by decide +kernel
theorem d_N_steps_1 : decode prog_8_method_19_code 1 = .ok (.bipush 100, 2) := by decide +kernel
theorem d_N_steps_3 : decode prog_8_method_19_code 3 = .ok (.irem, 1) := by decide +kernel
theorem d_N_steps_4 : decode prog_8_method_19_code 4 = .ok (.istore_n 1, 1) := by decide +kernel
theorem d_N_steps_5 : decode prog_8_method_19_code 5 = .ok (.iload_n 0, 1) := by decide +kernel
theorem d_N_steps_6 : decode prog_8_method_19_code 6 = .ok (.bipush 100, 2) := by decide +kernel
theorem d_N_steps_8 : decode prog_8_method_19_code 8 = .ok (.idiv, 1) := by decide +kernel
theorem d_N_steps_9 : decode prog_8_method_19_code 9 = .ok (.bipush 8, 2) := by decide +kernel
theorem d_N_steps_11 : decode prog_8_method_19_code 11 = .ok (.if_icmp .ne 7, 3) := by decide +kernel
theorem d_N_steps_14 : decode prog_8_method_19_code 14 = .ok (.iload_n 1, 1) := by decide +kernel
theorem d_N_steps_15 : decode prog_8_method_19_code 15 = .ok (.ifCond .ne 5, 3) := by decide +kernel
theorem d_N_steps_18 : decode prog_8_method_19_code 18 = .ok (.iconst 1, 1) := by decide +kernel
theorem d_N_steps_19 : decode prog_8_method_19_code 19 = .ok (.ireturn, 1) := by decide +kernel
theorem d_N_steps_20 : decode prog_8_method_19_code 20 = .ok (.iconst 0, 1) := by decide +kernel
theorem d_N_steps_21 : decode prog_8_method_19_code 21 = .ok (.istore_n 2, 1) := by decide +kernel
theorem d_N_steps_22 : decode prog_8_method_19_code 22 = .ok (.iload_n 1, 1) := by decide +kernel
theorem d_N_steps_23 : decode prog_8_method_19_code 23 = .ok (.invokestatic 124, 3) := by decide +kernel
theorem d_N_steps_26 : decode prog_8_method_19_code 26 = .ok (.iconst 2, 1) := by decide +kernel
theorem d_N_steps_27 : decode prog_8_method_19_code 27 = .ok (.idiv, 1) := by decide +kernel
theorem d_N_steps_28 : decode prog_8_method_19_code 28 = .ok (.istore_n 3, 1) := by decide +kernel
theorem d_N_steps_29 : decode prog_8_method_19_code 29 = .ok (.iload_n 3, 1) := by decide +kernel
theorem d_N_steps_30 : decode prog_8_method_19_code 30 = .ok (.ifCond .le 24, 3) := by decide +kernel
theorem d_N_steps_33 : decode prog_8_method_19_code 33 = .ok (.iload_n 2, 1) := by decide +kernel
theorem d_N_steps_34 : decode prog_8_method_19_code 34 = .ok (.iload_n 1, 1) := by decide +kernel
theorem d_N_steps_35 : decode prog_8_method_19_code 35 = .ok (.iload_n 3, 1) := by decide +kernel
theorem d_N_steps_36 : decode prog_8_method_19_code 36 = .ok (.iand, 1) := by decide +kernel
theorem d_N_steps_37 : decode prog_8_method_19_code 37 = .ok (.ifCond .eq 7, 3) := by decide +kernel
theorem d_N_steps_40 : decode prog_8_method_19_code 40 = .ok (.iconst 2, 1) := by decide +kernel
theorem d_N_steps_41 : decode prog_8_method_19_code 41 = .ok (.goto 4, 3) := by decide +kernel
theorem d_N_steps_44 : decode prog_8_method_19_code 44 = .ok (.iconst 1, 1) := by decide +kernel
theorem d_N_steps_45 : decode prog_8_method_19_code 45 = .ok (.iadd, 1) := by decide +kernel
theorem d_N_steps_46 : decode prog_8_method_19_code 46 = .ok (.istore_n 2, 1) := by decide +kernel
theorem d_N_steps_47 : decode prog_8_method_19_code 47 = .ok (.iload_n 3, 1) := by decide +kernel
theorem d_N_steps_48 : decode prog_8_method_19_code 48 = .ok (.iconst 2, 1) := by decide +kernel
theorem d_N_steps_49 : decode prog_8_method_19_code 49 = .ok (.idiv, 1) := by decide +kernel
theorem d_N_steps_50 : decode prog_8_method_19_code 50 = .ok (.istore_n 3, 1) := by decide +kernel
theorem d_N_steps_51 : decode prog_8_method_19_code 51 = .ok (.goto (-22), 3) := by decide +kernel
theorem d_N_steps_54 : decode prog_8_method_19_code 54 = .ok (.iload_n 2, 1) := by decide +kernel
theorem d_N_steps_55 : decode prog_8_method_19_code 55 = .ok (.ireturn, 1) := by decide +kernel
theorem d_N_writePower_0 : decode prog_8_method_20_code 0 = .ok (.iload_n 2, 1) := by decide +kernel
theorem d_N_writePower_1 : decode prog_8_method_20_code 1 = .ok (.ifCond .ne 12, 3) := by decide +kernel
theorem d_N_writePower_4 : decode prog_8_method_20_code 4 = .ok (.aload_n 0, 1) := by decide +kernel
theorem d_N_writePower_5 : decode prog_8_method_20_code 5 = .ok (.iconst 1, 1) := by decide +kernel
theorem d_N_writePower_6 : decode prog_8_method_20_code 6 = .ok (.iconst 0, 1) := by decide +kernel
theorem d_N_writePower_7 : decode prog_8_method_20_code 7 = .ok (.iconst 0, 1) := by decide +kernel
theorem d_N_writePower_8 : decode prog_8_method_20_code 8 = .ok (.iconst 0, 1) := by decide +kernel
theorem d_N_writePower_9 : decode prog_8_method_20_code 9 = .ok (.invokevirtual 127, 3) := by decide +kernel
theorem d_N_writePower_12 : decode prog_8_method_20_code 12 = .ok (.ireturn, 1) := by decide +kernel
theorem d_N_writePower_13 : decode prog_8_method_20_code 13 = .ok (.iload_n 1, 1) := by decide +kernel
theorem d_N_writePower_14 : decode prog_8_method_20_code 14 = .ok (.istore_n 3, 1) := by decide +kernel
theorem d_N_writePower_15 : decode prog_8_method_20_code 15 = .ok (.iload_n 2, 1) := by decide +kernel
theorem d_N_writePower_16 : decode prog_8_method_20_code 16 = .ok (.invokestatic 124, 3) := by decide +kernel
theorem d_N_writePower_19 : decode prog_8_method_20_code 19 = .ok (.iconst 2, 1) := by decide +kernel
theorem d_N_writePower_20 : decode prog_8_method_20_code 20 = .ok (.idiv, 1) := by decide +kernel
theorem d_N_writePower_21 : decode prog_8_method_20_code 21 = .ok (.istore 4, 2) := by decide +kernel
theorem d_N_writePower_23 : decode prog_8_method_20_code 23 = .ok (.iload 4, 2) := by decide +kernel
theorem d_N_writePower_25 : decode prog_8_method_20_code 25 = .ok (.ifCond .le 37, 3) := by decide +kernel
theorem d_N_writePower_28 : decode prog_8_method_20_code 28 = .ok (.aload_n 0, 1) := by decide +kernel
theorem d_N_writePower_29 : decode prog_8_method_20_code 29 = .ok (.iconst 5, 1) := by decide +kernel
theorem d_N_writePower_30 : decode prog_8_method_20_code 30 = .ok (.iload_n 3, 1) := by decide +kernel
theorem d_N_writePower_31 : decode prog_8_method_20_code 31 = .ok (.iload_n 3, 1) := by decide +kernel
theorem d_N_writePower_32 : decode prog_8_method_20_code 32 = .ok (.iconst 0, 1) := by decide +kernel
theorem d_N_writePower_33 : decode prog_8_method_20_code 33 = .ok (.invokevirtual 127, 3) := by decide +kernel
theorem d_N_writePower_36 : decode prog_8_method_20_code 36 = .ok (.istore_n 3, 1) := by decide +kernel
theorem d_N_writePower_37 : decode prog_8_method_20_code 37 = .ok (.iload_n 2, 1) := by decide +kernel
theorem d_N_writePower_38 : decode prog_8_method_20_code 38 = .ok (.iload 4, 2) := by decide +kernel
theorem d_N_writePower_40 : decode prog_8_method_20_code 40 = .ok (.iand, 1) := by decide +kernel
theorem d_N_writePower_41 : decode prog_8_method_20_code 41 = .ok (.ifCond .eq 12, 3) := by decide +kernel
theorem d_N_writePower_44 : decode prog_8_method_20_code 44 = .ok (.aload_n 0, 1) := by decide +kernel
theorem d_N_writePower_45 : decode prog_8_method_20_code 45 = .ok (.iconst 5, 1) := by decide +kernel
theorem d_N_writePower_46 : decode prog_8_method_20_code 46 = .ok (.iload_n 3, 1) := by decide +kernel
theorem d_N_writePower_47 : decode prog_8_method_20_code 47 = .ok (.iload_n 1, 1) := by decide +kernel
theorem d_N_writePower_48 : decode prog_8_method_20_code 48 = .ok (.iconst 0, 1) := by decide +kernel
theorem d_N_writePower_49 : decode prog_8_method_20_code 49 = .ok (.invokevirtual 127, 3) := by decide +kernel
theorem d_N_writePower_52 : decode prog_8_method_20_code 52 = .ok (.istore_n 3, 1) := by decide +kernel
theorem d_N_writePower_53 : decode prog_8_method_20_code 53 = .ok (.iload 4, 2) := by decide +kernel
theorem d_N_writePower_55 : decode prog_8_method_20_code 55 = .ok (.iconst 2, 1) := by decide +kernel
theorem d_N_writePower_56 : decode prog_8_method_20_code 56 = .ok (.idiv, 1) := by decide +kernel
theorem d_N_writePower_57 : decode prog_8_method_20_code 57 = .ok (.istore 4, 2) := by decide +kernel
theorem d_N_writePower_59 : decode prog_8_method_20_code 59 = .ok (.goto (-36), 3) := by decide +kernel
theorem d_N_writePower_62 : decode prog_8_method_20_code 62 = .ok (.iload_n 3, 1) := by decide +kernel
theorem d_N_writePower_63 : decode prog_8_method_20_code 63 = .ok (.ireturn, 1) := by decide +kernel
theorem d_N_compile_0 : decode prog_8_method_21_code 0 = .ok (.aload_n 0, 1) := by decide +kernel
theorem d_N_compile_1 : decode prog_8_method_21_code 1 = .ok (.invokevirtual 111, 3) := by decide +kernel
theorem d_N_compile_4 : decode prog_8_method_21_code 4 = .ok (.istore_n 1, 1) := by decide +kernel
theorem d_N_compile_5 : decode prog_8_method_21_code 5 = .ok (.iconst 0, 1) := by decide +kernel
theorem d_N_compile_6 : decode prog_8_method_21_code 6 = .ok (.istore_n 2, 1) := by decide +kernel
theorem d_N_compile_7 : decode prog_8_method_21_code 7 = .ok (.iconst 0, 1) := by decide +kernel
theorem d_N_compile_8 : decode prog_8_method_21_code 8 = .ok (.istore_n 3, 1) := by decide +kernel
theorem d_N_compile_9 : decode prog_8_method_21_code 9 = .ok (.iload_n 3, 1) := by decide +kernel
theorem d_N_compile_10 : decode prog_8_method_21_code 10 = .ok (.aload_n 0, 1) := by decide +kernel
theorem d_N_compile_11 : decode prog_8_method_21_code 11 = .ok (.getfield 87, 3) := by decide +kernel
theorem d_N_compile_14 : decode prog_8_method_21_code 14 = .ok (.if_icmp .ge 25, 3) := by decide +kernel
theorem d_N_compile_17 : decode prog_8_method_21_code 17 = .ok (.iload_n 1, 1) := by decide +kernel
theorem d_N_compile_18 : decode prog_8_method_21_code 18 = .ok (.ifCond .ne 21, 3) := by decide +kernel
theorem d_N_compile_21 : decode prog_8_method_21_code 21 = .ok (.iload_n 2, 1) := by decide +kernel
theorem d_N_compile_22 : decode prog_8_method_21_code 22 = .ok (.aload_n 0, 1) := by decide +kernel
theorem d_N_compile_23 : decode prog_8_method_21_code 23 = .ok (.getfield 7, 3) := by decide +kernel
theorem d_N_compile_26 : decode prog_8_method_21_code 26 = .ok (.iload_n 3, 1) := by decide +kernel
theorem d_N_compile_27 : decode prog_8_method_21_code 27 = .ok (.iaload, 1) := by decide +kernel
theorem d_N_compile_28 : decode prog_8_method_21_code 28 = .ok (.invokestatic 131, 3) := by decide +kernel
theorem d_N_compile_31 : decode prog_8_method_21_code 31 = .ok (.iadd, 1) := by decide +kernel
theorem d_N_compile_32 : decode prog_8_method_21_code 32 = .ok (.istore_n 2, 1) := by decide +kernel
theorem d_N_compile_33 : decode prog_8_method_21_code 33 = .ok (.iinc 3 1, 3) := by decide +kernel
theorem d_N_compile_36 : decode prog_8_method_21_code 36 = .ok (.goto (-27), 3) := by decide +kernel
theorem d_N_compile_39 : decode prog_8_method_21_code 39 = .ok (.iload_n 1, 1) := by decide +kernel
theorem d_N_compile_40 : decode prog_8_method_21_code 40 = .ok (.ifCond .gt 9, 3) := by decide +kernel
theorem d_N_compile_43 : decode prog_8_method_21_code 43 = .ok (.iload_n 2, 1) := by decide +kernel
theorem d_N_compile_44 : decode prog_8_method_21_code 44 = .ok (.bipush 40, 2) := by decide +kernel
theorem d_N_compile_46 : decode prog_8_method_21_code 46 = .ok (.if_icmp .le 14, 3) := by decide +kernel
theorem d_N_compile_49 : decode prog_8_method_21_code 49 = .ok (.iload_n 1, 1) := by decide +kernel
theorem d_N_compile_50 : decode prog_8_method_21_code 50 = .ok (.ifCond .le 7, 3) := by decide +kernel
theorem d_N_compile_53 : decode prog_8_method_21_code 53 = .ok (.iload_n 1, 1) := by decide +kernel
theorem d_N_compile_54 : decode prog_8_method_21_code 54 = .ok (.goto 5, 3) := by decide +kernel
theorem d_N_compile_57 : decode prog_8_method_21_code 57 = .ok (.bipush 6, 2) := by decide +kernel
theorem d_N_compile_59 : decode prog_8_method_21_code 59 = .ok (.ireturn, 1) := by decide +kernel
theorem d_N_compile_60 : decode prog_8_method_21_code 60 = .ok (.aload_n 0, 1) := by decide +kernel
theorem d_N_compile_61 : decode prog_8_method_21_code 61 = .ok (.iconst 0, 1) := by decide +kernel
theorem d_N_compile_62 : decode prog_8_method_21_code 62 = .ok (.putfield 121, 3) := by decide +kernel
theorem d_N_compile_65 : decode prog_8_method_21_code 65 = .ok (.iconst 0, 1) := by decide +kernel
theorem d_N_compile_66 : decode prog_8_method_21_code 66 = .ok (.istore_n 3, 1) := by decide +kernel
theorem d_N_compile_67 : decode prog_8_method_21_code 67 = .ok (.iconst 0, 1) := by decide +kernel
theorem d_N_compile_68 : decode prog_8_method_21_code 68 = .ok (.istore 4, 2) := by decide +kernel
theorem d_N_compile_70 : decode prog_8_method_21_code 70 = .ok (.iload 4, 2) := by decide +kernel
theorem d_N_compile_72 : decode prog_8_method_21_code 72 = .ok (.aload_n 0, 1) := by decide +kernel
theorem d_N_compile_73 : decode prog_8_method_21_code 73 = .ok (.getfield 87, 3) := by decide +kernel
theorem d_N_compile_76 : decode prog_8_method_21_code 76 = .ok (.if_icmp .ge 161, 3) := by decide +kernel
theorem d_N_compile_79 : decode prog_8_method_21_code 79 = .ok (.aload_n 0, 1) := by decide +kernel
theorem d_N_compile_80 : decode prog_8_method_21_code 80 = .ok (.getfield 7, 3) := by decide +kernel
theorem d_N_compile_83 : decode prog_8_method_21_code 83 = .ok (.iload 4, 2) := by decide +kernel
theorem d_N_compile_85 : decode prog_8_method_21_code 85 = .ok (.iaload, 1) := by decide +kernel
theorem d_N_compile_86 : decode prog_8_method_21_code 86 = .ok (.bipush 100, 2) := by decide +kernel
theorem d_N_compile_88 : decode prog_8_method_21_code 88 = .ok (.idiv, 1) := by decide +kernel
theorem d_N_compile_89 : decode prog_8_method_21_code 89 = .ok (.istore 5, 2) := by decide +kernel
theorem d_N_compile_91 : decode prog_8_method_21_code 91 = .ok (.aload_n 0, 1) := by decide +kernel
theorem d_N_compile_92 : decode prog_8_method_21_code 92 = .ok (.getfield 7, 3) := by decide +kernel
theorem d_N_compile_95 : decode prog_8_method_21_code 95 = .ok (.iload 4, 2) := by decide +kernel
theorem d_N_compile_97 : decode prog_8_method_21_code 97 = .ok (.iaload, 1) := by decide +kernel
theorem d_N_compile_98 : decode prog_8_method_21_code 98 = .ok (.bipush 100, 2) := by decide +kernel
theorem d_N_compile_100 : decode prog_8_method_21_code 100 = .ok (.irem, 1) := by decide +kernel
theorem d_N_compile_101 : decode prog_8_method_21_code 101 = .ok (.istore 6, 2) := by decide +kernel
theorem d_N_compile_103 : decode prog_8_method_21_code 103 = .ok (.iload_n 3, 1) := by decide +kernel
theorem d_N_compile_104 : decode prog_8_method_21_code 104 = .ok (.iload 5, 2) := by decide +kernel
theorem d_N_compile_106 : decode prog_8_method_21_code 106 = .ok (.invokestatic 105, 3) := by decide +kernel
theorem d_N_compile_109 : decode prog_8_method_21_code 109 = .ok (.ifCond .eq 7, 3) := by decide +kernel
theorem d_N_compile_112 : decode prog_8_method_21_code 112 = .ok (.iconst 2, 1) := by decide +kernel
theorem d_N_compile_113 : decode prog_8_method_21_code 113 = .ok (.goto 16, 3) := by decide +kernel
theorem d_N_compile_116 : decode prog_8_method_21_code 116 = .ok (.iload 5, 2) := by decide +kernel
theorem d_N_compile_118 : decode prog_8_method_21_code 118 = .ok (.invokestatic 108, 3) := by decide +kernel
theorem d_N_compile_121 : decode prog_8_method_21_code 121 = .ok (.ifCond .eq 7, 3) := by decide +kernel
theorem d_N_compile_124 : decode prog_8_method_21_code 124 = .ok (.iconst 1, 1) := by decide +kernel
theorem d_N_compile_125 : decode prog_8_method_21_code 125 = .ok (.goto 4, 3) := by decide +kernel
theorem d_N_compile_128 : decode prog_8_method_21_code 128 = .ok (.iconst 0, 1) := by decide +kernel
theorem d_N_compile_129 : decode prog_8_method_21_code 129 = .ok (.isub, 1) := by decide +kernel
theorem d_N_compile_130 : decode prog_8_method_21_code 130 = .ok (.istore_n 3, 1) := by decide +kernel
theorem d_N_compile_131 : decode prog_8_method_21_code 131 = .ok (.aload_n 0, 1) := by decide +kernel
theorem d_N_compile_132 : decode prog_8_method_21_code 132 = .ok (.getfield 31, 3) := by decide +kernel
theorem d_N_compile_135 : decode prog_8_method_21_code 135 = .ok (.iload_n 3, 1) := by decide +kernel
theorem d_N_compile_136 : decode prog_8_method_21_code 136 = .ok (.iload 5, 2) := by decide +kernel
theorem d_N_compile_138 : decode prog_8_method_21_code 138 = .ok (.bipush 8, 2) := by decide +kernel
theorem d_N_compile_140 : decode prog_8_method_21_code 140 = .ok (.if_icmp .ne 18, 3) := by decide +kernel
theorem d_N_compile_143 : decode prog_8_method_21_code 143 = .ok (.aload_n 0, 1) := by decide +kernel
theorem d_N_compile_144 : decode prog_8_method_21_code 144 = .ok (.aload_n 0, 1) := by decide +kernel
theorem d_N_compile_145 : decode prog_8_method_21_code 145 = .ok (.getfield 31, 3) := by decide +kernel
theorem d_N_compile_148 : decode prog_8_method_21_code 148 = .ok (.iload_n 3, 1) := by decide +kernel
theorem d_N_compile_149 : decode prog_8_method_21_code 149 = .ok (.iaload, 1) := by decide +kernel
theorem d_N_compile_150 : decode prog_8_method_21_code 150 = .ok (.iload 6, 2) := by decide +kernel
theorem d_N_compile_152 : decode prog_8_method_21_code 152 = .ok (.invokevirtual 134, 3) := by decide +kernel
theorem d_N_compile_155 : decode prog_8_method_21_code 155 = .ok (.goto 71, 3) := by decide +kernel
theorem d_N_compile_158 : decode prog_8_method_21_code 158 = .ok (.iload 5, 2) := by decide +kernel
theorem d_N_compile_160 : decode prog_8_method_21_code 160 = .ok (.invokestatic 105, 3) := by decide +kernel
theorem d_N_compile_163 : decode prog_8_method_21_code 163 = .ok (.ifCond .eq 27, 3) := by decide +kernel
theorem d_N_compile_166 : decode prog_8_method_21_code 166 = .ok (.aload_n 0, 1) := by decide +kernel
theorem d_N_compile_167 : decode prog_8_method_21_code 167 = .ok (.iload 5, 2) := by decide +kernel
theorem d_N_compile_169 : decode prog_8_method_21_code 169 = .ok (.aload_n 0, 1) := by decide +kernel
theorem d_N_compile_170 : decode prog_8_method_21_code 170 = .ok (.getfield 31, 3) := by decide +kernel
theorem d_N_compile_173 : decode prog_8_method_21_code 173 = .ok (.iload_n 3, 1) := by decide +kernel
theorem d_N_compile_174 : decode prog_8_method_21_code 174 = .ok (.iaload, 1) := by decide +kernel
theorem d_N_compile_175 : decode prog_8_method_21_code 175 = .ok (.aload_n 0, 1) := by decide +kernel
theorem d_N_compile_176 : decode prog_8_method_21_code 176 = .ok (.getfield 31, 3) := by decide +kernel
theorem d_N_compile_179 : decode prog_8_method_21_code 179 = .ok (.iload_n 3, 1) := by decide +kernel
theorem d_N_compile_180 : decode prog_8_method_21_code 180 = .ok (.iconst 1, 1) := by decide +kernel
theorem d_N_compile_181 : decode prog_8_method_21_code 181 = .ok (.iadd, 1) := by decide +kernel
theorem d_N_compile_182 : decode prog_8_method_21_code 182 = .ok (.iaload, 1) := by decide +kernel
theorem d_N_compile_183 : decode prog_8_method_21_code 183 = .ok (.iconst 0, 1) := by decide +kernel
theorem d_N_compile_184 : decode prog_8_method_21_code 184 = .ok (.invokevirtual 127, 3) := by decide +kernel
theorem d_N_compile_187 : decode prog_8_method_21_code 187 = .ok (.goto 39, 3) := by decide +kernel
theorem d_N_compile_190 : decode prog_8_method_21_code 190 = .ok (.iload 5, 2) := by decide +kernel
theorem d_N_compile_192 : decode prog_8_method_21_code 192 = .ok (.invokestatic 108, 3) := by decide +kernel
theorem d_N_compile_195 : decode prog_8_method_21_code 195 = .ok (.ifCond .eq 21, 3) := by decide +kernel
theorem d_N_compile_198 : decode prog_8_method_21_code 198 = .ok (.aload_n 0, 1) := by decide +kernel
theorem d_N_compile_199 : decode prog_8_method_21_code 199 = .ok (.iload 5, 2) := by decide +kernel
theorem d_N_compile_201 : decode prog_8_method_21_code 201 = .ok (.aload_n 0, 1) := by decide +kernel
theorem d_N_compile_202 : decode prog_8_method_21_code 202 = .ok (.getfield 31, 3) := by decide +kernel
theorem d_N_compile_205 : decode prog_8_method_21_code 205 = .ok (.iload_n 3, 1) := by decide +kernel
theorem d_N_compile_206 : decode prog_8_method_21_code 206 = .ok (.iaload, 1) := by decide +kernel
theorem d_N_compile_207 : decode prog_8_method_21_code 207 = .ok (.iconst 0, 1) := by decide +kernel
theorem d_N_compile_208 : decode prog_8_method_21_code 208 = .ok (.iload 6, 2) := by decide +kernel
theorem d_N_compile_210 : decode prog_8_method_21_code 210 = .ok (.invokevirtual 127, 3) := by decide +kernel
theorem d_N_compile_213 : decode prog_8_method_21_code 213 = .ok (.goto 13, 3) := by decide +kernel
theorem d_N_compile_216 : decode prog_8_method_21_code 216 = .ok (.aload_n 0, 1) := by decide +kernel
theorem d_N_compile_217 : decode prog_8_method_21_code 217 = .ok (.iload 5, 2) := by decide +kernel
theorem d_N_compile_219 : decode prog_8_method_21_code 219 = .ok (.iconst 0, 1) := by decide +kernel
theorem d_N_compile_220 : decode prog_8_method_21_code 220 = .ok (.iconst 0, 1) := by decide +kernel
theorem d_N_compile_221 : decode prog_8_method_21_code 221 = .ok (.iload 6, 2) := by decide +kernel
theorem d_N_compile_223 : decode prog_8_method_21_code 223 = .ok (.invokevirtual 127, 3) := by decide +kernel
theorem d_N_compile_226 : decode prog_8_method_21_code 226 = .ok (.iastore, 1) := by decide +kernel
theorem d_N_compile_227 : decode prog_8_method_21_code 227 = .ok (.iload_n 3, 1) := by decide +kernel
theorem d_N_compile_228 : decode prog_8_method_21_code 228 = .ok (.iconst 1, 1) := by decide +kernel
theorem d_N_compile_229 : decode prog_8_method_21_code 229 = .ok (.iadd, 1) := by decide +kernel
theorem d_N_compile_230 : decode prog_8_method_21_code 230 = .ok (.istore_n 3, 1) := by decide +kernel
theorem d_N_compile_231 : decode prog_8_method_21_code 231 = .ok (.iinc 4 1, 3) := by decide +kernel
theorem d_N_compile_234 : decode prog_8_method_21_code 234 = .ok (.goto (-164), 3) := by decide +kernel
theorem d_N_compile_237 : decode prog_8_method_21_code 237 = .ok (.aload_n 0, 1) := by decide +kernel
theorem d_N_compile_238 : decode prog_8_method_21_code 238 = .ok (.aload_n 0, 1) := by decide +kernel
theorem d_N_compile_239 : decode prog_8_method_21_code 239 = .ok (.getfield 31, 3) := by decide +kernel
theorem d_N_compile_242 : decode prog_8_method_21_code 242 = .ok (.iconst 0, 1) := by decide +kernel
theorem d_N_compile_243 : decode prog_8_method_21_code 243 = .ok (.iaload, 1) := by decide +kernel
theorem d_N_compile_244 : decode prog_8_method_21_code 244 = .ok (.putfield 138, 3) := by decide +kernel
theorem d_N_compile_247 : decode prog_8_method_21_code 247 = .ok (.aload_n 0, 1) := by decide +kernel
theorem d_N_compile_248 : decode prog_8_method_21_code 248 = .ok (.iconst 1, 1) := by decide +kernel
theorem d_N_compile_249 : decode prog_8_method_21_code 249 = .ok (.putfield 90, 3) := by decide +kernel
theorem d_N_compile_252 : decode prog_8_method_21_code 252 = .ok (.aload_n 0, 1) := by decide +kernel
theorem d_N_compile_253 : decode prog_8_method_21_code 253 = .ok (.iconst 0, 1) := by decide +kernel
theorem d_N_compile_254 : decode prog_8_method_21_code 254 = .ok (.putfield 98, 3) := by decide +kernel
theorem d_N_compile_257 : decode prog_8_method_21_code 257 = .ok (.iconst 0, 1) := by decide +kernel
theorem d_N_compile_258 : decode prog_8_method_21_code 258 = .ok (.ireturn, 1) := by decide +kernel
theorem d_N_value_0 : decode prog_8_method_22_code 0 = .ok (.iconst 0, 1) := by decide +kernel
theorem d_N_value_1 : decode prog_8_method_22_code 1 = .ok (.istore 5, 2) := by decide +kernel
theorem d_N_value_3 : decode prog_8_method_22_code 3 = .ok (.iload 5, 2) := by decide +kernel
theorem d_N_value_5 : decode prog_8_method_22_code 5 = .ok (.aload_n 0, 1) := by decide +kernel
theorem d_N_value_6 : decode prog_8_method_22_code 6 = .ok (.getfield 141, 3) := by decide +kernel
theorem d_N_value_9 : decode prog_8_method_22_code 9 = .ok (.if_icmp .ge 57, 3) := by decide +kernel
theorem d_N_value_12 : decode prog_8_method_22_code 12 = .ok (.aload_n 0, 1) := by decide +kernel
theorem d_N_value_13 : decode prog_8_method_22_code 13 = .ok (.getfield 34, 3) := by decide +kernel
theorem d_N_value_16 : decode prog_8_method_22_code 16 = .ok (.iload 5, 2) := by decide +kernel
theorem d_N_value_18 : decode prog_8_method_22_code 18 = .ok (.iaload, 1) := by decide +kernel
theorem d_N_value_19 : decode prog_8_method_22_code 19 = .ok (.iload_n 1, 1) := by decide +kernel
theorem d_N_value_20 : decode prog_8_method_22_code 20 = .ok (.if_icmp .ne 40, 3) := by decide +kernel
theorem d_N_value_23 : decode prog_8_method_22_code 23 = .ok (.aload_n 0, 1) := by decide +kernel
theorem d_N_value_24 : decode prog_8_method_22_code 24 = .ok (.getfield 37, 3) := by decide +kernel
theorem d_N_value_27 : decode prog_8_method_22_code 27 = .ok (.iload 5, 2) := by decide +kernel
theorem d_N_value_29 : decode prog_8_method_22_code 29 = .ok (.iaload, 1) := by decide +kernel
theorem d_N_value_30 : decode prog_8_method_22_code 30 = .ok (.iload_n 2, 1) := by decide +kernel
theorem d_N_value_31 : decode prog_8_method_22_code 31 = .ok (.if_icmp .ne 29, 3) := by decide +kernel
theorem d_N_value_34 : decode prog_8_method_22_code 34 = .ok (.aload_n 0, 1) := by decide +kernel
theorem d_N_value_35 : decode prog_8_method_22_code 35 = .ok (.getfield 40, 3) := by decide +kernel
theorem d_N_value_38 : decode prog_8_method_22_code 38 = .ok (.iload 5, 2) := by decide +kernel
theorem d_N_value_40 : decode prog_8_method_22_code 40 = .ok (.iaload, 1) := by decide +kernel
theorem d_N_value_41 : decode prog_8_method_22_code 41 = .ok (.iload_n 3, 1) := by decide +kernel
theorem d_N_value_42 : decode prog_8_method_22_code 42 = .ok (.if_icmp .ne 18, 3) := by decide +kernel
theorem d_N_value_45 : decode prog_8_method_22_code 45 = .ok (.aload_n 0, 1) := by decide +kernel
theorem d_N_value_46 : decode prog_8_method_22_code 46 = .ok (.getfield 43, 3) := by decide +kernel
theorem d_N_value_49 : decode prog_8_method_22_code 49 = .ok (.iload 5, 2) := by decide +kernel
theorem d_N_value_51 : decode prog_8_method_22_code 51 = .ok (.iaload, 1) := by decide +kernel
theorem d_N_value_52 : decode prog_8_method_22_code 52 = .ok (.iload 4, 2) := by decide +kernel
theorem d_N_value_54 : decode prog_8_method_22_code 54 = .ok (.if_icmp .ne 6, 3) := by decide +kernel
theorem d_N_value_57 : decode prog_8_method_22_code 57 = .ok (.iload 5, 2) := by decide +kernel
theorem d_N_value_59 : decode prog_8_method_22_code 59 = .ok (.ireturn, 1) := by decide +kernel
theorem d_N_value_60 : decode prog_8_method_22_code 60 = .ok (.iinc 5 1, 3) := by decide +kernel
theorem d_N_value_63 : decode prog_8_method_22_code 63 = .ok (.goto (-60), 3) := by decide +kernel
theorem d_N_value_66 : decode prog_8_method_22_code 66 = .ok (.aload_n 0, 1) := by decide +kernel
theorem d_N_value_67 : decode prog_8_method_22_code 67 = .ok (.getfield 34, 3) := by decide +kernel
theorem d_N_value_70 : decode prog_8_method_22_code 70 = .ok (.aload_n 0, 1) := by decide +kernel
theorem d_N_value_71 : decode prog_8_method_22_code 71 = .ok (.getfield 141, 3) := by decide +kernel
theorem d_N_value_74 : decode prog_8_method_22_code 74 = .ok (.iload_n 1, 1) := by decide +kernel
theorem d_N_value_75 : decode prog_8_method_22_code 75 = .ok (.iastore, 1) := by decide +kernel
theorem d_N_value_76 : decode prog_8_method_22_code 76 = .ok (.aload_n 0, 1) := by decide +kernel
theorem d_N_value_77 : decode prog_8_method_22_code 77 = .ok (.getfield 37, 3) := by decide +kernel
theorem d_N_value_80 : decode prog_8_method_22_code 80 = .ok (.aload_n 0, 1) := by decide +kernel
theorem d_N_value_81 : decode prog_8_method_22_code 81 = .ok (.getfield 141, 3) := by decide +kernel
theorem d_N_value_84 : decode prog_8_method_22_code 84 = .ok (.iload_n 2, 1) := by decide +kernel
theorem d_N_value_85 : decode prog_8_method_22_code 85 = .ok (.iastore, 1) := by decide +kernel
theorem d_N_value_86 : decode prog_8_method_22_code 86 = .ok (.aload_n 0, 1) := by decide +kernel
theorem d_N_value_87 : decode prog_8_method_22_code 87 = .ok (.getfield 40, 3) := by decide +kernel
theorem d_N_value_90 : decode prog_8_method_22_code 90 = .ok (.aload_n 0, 1) := by decide +kernel
theorem d_N_value_91 : decode prog_8_method_22_code 91 = .ok (.getfield 141, 3) := by decide +kernel
theorem d_N_value_94 : decode prog_8_method_22_code 94 = .ok (.iload_n 3, 1) := by decide +kernel
theorem d_N_value_95 : decode prog_8_method_22_code 95 = .ok (.iastore, 1) := by decide +kernel
theorem d_N_value_96 : decode prog_8_method_22_code 96 = .ok (.aload_n 0, 1) := by decide +kernel
theorem d_N_value_97 : decode prog_8_method_22_code 97 = .ok (.getfield 43, 3) := by decide +kernel
theorem d_N_value_100 : decode prog_8_method_22_code 100 = .ok (.aload_n 0, 1) := by decide +kernel
theorem d_N_value_101 : decode prog_8_method_22_code 101 = .ok (.getfield 141, 3) := by decide +kernel
theorem d_N_value_104 : decode prog_8_method_22_code 104 = .ok (.iload 4, 2) := by decide +kernel
theorem d_N_value_106 : decode prog_8_method_22_code 106 = .ok (.iastore, 1) := by decide +kernel
theorem d_N_value_107 : decode prog_8_method_22_code 107 = .ok (.aload_n 0, 1) := by decide +kernel
theorem d_N_value_108 : decode prog_8_method_22_code 108 = .ok (.getfield 46, 3) := by decide +kernel
theorem d_N_value_111 : decode prog_8_method_22_code 111 = .ok (.aload_n 0, 1) := by decide +kernel
theorem d_N_value_112 : decode prog_8_method_22_code 112 = .ok (.getfield 141, 3) := by decide +kernel
theorem d_N_value_115 : decode prog_8_method_22_code 115 = .ok (.iconst 0, 1) := by decide +kernel
theorem d_N_value_116 : decode prog_8_method_22_code 116 = .ok (.bastore, 1) := by decide +kernel
theorem d_N_value_117 : decode prog_8_method_22_code 117 = .ok (.aload_n 0, 1) := by decide +kernel
theorem d_N_value_118 : decode prog_8_method_22_code 118 = .ok (.aload_n 0, 1) := by decide +kernel
theorem d_N_value_119 : decode prog_8_method_22_code 119 = .ok (.getfield 141, 3) := by decide +kernel
theorem d_N_value_122 : decode prog_8_method_22_code 122 = .ok (.iconst 1, 1) := by decide +kernel
theorem d_N_value_123 : decode prog_8_method_22_code 123 = .ok (.iadd, 1) := by decide +kernel
theorem d_N_value_124 : decode prog_8_method_22_code 124 = .ok (.putfield 141, 3) := by decide +kernel
theorem d_N_value_127 : decode prog_8_method_22_code 127 = .ok (.aload_n 0, 1) := by decide +kernel
theorem d_N_value_128 : decode prog_8_method_22_code 128 = .ok (.getfield 141, 3) := by decide +kernel
theorem d_N_value_131 : decode prog_8_method_22_code 131 = .ok (.iconst 1, 1) := by decide +kernel
theorem d_N_value_132 : decode prog_8_method_22_code 132 = .ok (.isub, 1) := by decide +kernel
theorem d_N_value_133 : decode prog_8_method_22_code 133 = .ok (.ireturn, 1) := by decide +kernel
theorem d_N_noughts_0 : decode prog_8_method_23_code 0 = .ok (.aload_n 0, 1) := by decide +kernel
theorem d_N_noughts_1 : decode prog_8_method_23_code 1 = .ok (.iconst 2, 1) := by decide +kernel
theorem d_N_noughts_2 : decode prog_8_method_23_code 2 = .ok (.iconst (-1), 1) := by decide +kernel
theorem d_N_noughts_3 : decode prog_8_method_23_code 3 = .ok (.iconst (-1), 1) := by decide +kernel
theorem d_N_noughts_4 : decode prog_8_method_23_code 4 = .ok (.iconst 0, 1) := by decide +kernel
theorem d_N_noughts_5 : decode prog_8_method_23_code 5 = .ok (.invokevirtual 144, 3) := by decide +kernel
theorem d_N_noughts_8 : decode prog_8_method_23_code 8 = .ok (.ireturn, 1) := by decide +kernel
theorem d_N_added_0 : decode prog_8_method_24_code 0 = .ok (.aload_n 0, 1) := by decide +kernel
theorem d_N_added_1 : decode prog_8_method_24_code 1 = .ok (.getfield 34, 3) := by decide +kernel
theorem d_N_added_4 : decode prog_8_method_24_code 4 = .ok (.iload_n 2, 1) := by decide +kernel
theorem d_N_added_5 : decode prog_8_method_24_code 5 = .ok (.iaload, 1) := by decide +kernel
theorem d_N_added_6 : decode prog_8_method_24_code 6 = .ok (.iconst 2, 1) := by decide +kernel
theorem d_N_added_7 : decode prog_8_method_24_code 7 = .ok (.if_icmp .ne 5, 3) := by decide +kernel
theorem d_N_added_10 : decode prog_8_method_24_code 10 = .ok (.iload_n 1, 1) := by decide +kernel
theorem d_N_added_11 : decode prog_8_method_24_code 11 = .ok (.ireturn, 1) := by decide +kernel
theorem d_N_added_12 : decode prog_8_method_24_code 12 = .ok (.aload_n 0, 1) := by decide +kernel
theorem d_N_added_13 : decode prog_8_method_24_code 13 = .ok (.getfield 34, 3) := by decide +kernel
theorem d_N_added_16 : decode prog_8_method_24_code 16 = .ok (.iload_n 1, 1) := by decide +kernel
theorem d_N_added_17 : decode prog_8_method_24_code 17 = .ok (.iaload, 1) := by decide +kernel
theorem d_N_added_18 : decode prog_8_method_24_code 18 = .ok (.iconst 2, 1) := by decide +kernel
theorem d_N_added_19 : decode prog_8_method_24_code 19 = .ok (.if_icmp .ne 5, 3) := by decide +kernel
theorem d_N_added_22 : decode prog_8_method_24_code 22 = .ok (.iload_n 2, 1) := by decide +kernel
theorem d_N_added_23 : decode prog_8_method_24_code 23 = .ok (.ireturn, 1) := by decide +kernel
theorem d_N_added_24 : decode prog_8_method_24_code 24 = .ok (.iload_n 1, 1) := by decide +kernel
theorem d_N_added_25 : decode prog_8_method_24_code 25 = .ok (.iload_n 2, 1) := by decide +kernel
theorem d_N_added_26 : decode prog_8_method_24_code 26 = .ok (.if_icmp .ge 14, 3) := by decide +kernel
theorem d_N_added_29 : decode prog_8_method_24_code 29 = .ok (.aload_n 0, 1) := by decide +kernel
theorem d_N_added_30 : decode prog_8_method_24_code 30 = .ok (.iconst 3, 1) := by decide +kernel
theorem d_N_added_31 : decode prog_8_method_24_code 31 = .ok (.iload_n 1, 1) := by decide +kernel
theorem d_N_added_32 : decode prog_8_method_24_code 32 = .ok (.iload_n 2, 1) := by decide +kernel
theorem d_N_added_33 : decode prog_8_method_24_code 33 = .ok (.iconst 0, 1) := by decide +kernel
theorem d_N_added_34 : decode prog_8_method_24_code 34 = .ok (.invokevirtual 144, 3) := by decide +kernel
theorem d_N_added_37 : decode prog_8_method_24_code 37 = .ok (.goto 11, 3) := by decide +kernel
theorem d_N_added_40 : decode prog_8_method_24_code 40 = .ok (.aload_n 0, 1) := by decide +kernel
theorem d_N_added_41 : decode prog_8_method_24_code 41 = .ok (.iconst 3, 1) := by decide +kernel
theorem d_N_added_42 : decode prog_8_method_24_code 42 = .ok (.iload_n 2, 1) := by decide +kernel
theorem d_N_added_43 : decode prog_8_method_24_code 43 = .ok (.iload_n 1, 1) := by decide +kernel
theorem d_N_added_44 : decode prog_8_method_24_code 44 = .ok (.iconst 0, 1) := by decide +kernel
theorem d_N_added_45 : decode prog_8_method_24_code 45 = .ok (.invokevirtual 144, 3) := by decide +kernel
theorem d_N_added_48 : decode prog_8_method_24_code 48 = .ok (.ireturn, 1) := by decide +kernel
theorem d_N_less_0 : decode prog_8_method_25_code 0 = .ok (.aload_n 0, 1) := by decide +kernel
theorem d_N_less_1 : decode prog_8_method_25_code 1 = .ok (.getfield 34, 3) := by decide +kernel
theorem d_N_less_4 : decode prog_8_method_25_code 4 = .ok (.iload_n 2, 1) := by decide +kernel
theorem d_N_less_5 : decode prog_8_method_25_code 5 = .ok (.iaload, 1) := by decide +kernel
theorem d_N_less_6 : decode prog_8_method_25_code 6 = .ok (.iconst 2, 1) := by decide +kernel
theorem d_N_less_7 : decode prog_8_method_25_code 7 = .ok (.if_icmp .ne 5, 3) := by decide +kernel
theorem d_N_less_10 : decode prog_8_method_25_code 10 = .ok (.iload_n 1, 1) := by decide +kernel
theorem d_N_less_11 : decode prog_8_method_25_code 11 = .ok (.ireturn, 1) := by decide +kernel
theorem d_N_less_12 : decode prog_8_method_25_code 12 = .ok (.iload_n 1, 1) := by decide +kernel
theorem d_N_less_13 : decode prog_8_method_25_code 13 = .ok (.iload_n 2, 1) := by decide +kernel
theorem d_N_less_14 : decode prog_8_method_25_code 14 = .ok (.if_icmp .ne 10, 3) := by decide +kernel
theorem d_N_less_17 : decode prog_8_method_25_code 17 = .ok (.aload_n 0, 1) := by decide +kernel
theorem d_N_less_18 : decode prog_8_method_25_code 18 = .ok (.invokevirtual 147, 3) := by decide +kernel
theorem d_N_less_21 : decode prog_8_method_25_code 21 = .ok (.goto 11, 3) := by decide +kernel
theorem d_N_less_24 : decode prog_8_method_25_code 24 = .ok (.aload_n 0, 1) := by decide +kernel
theorem d_N_less_25 : decode prog_8_method_25_code 25 = .ok (.iconst 4, 1) := by decide +kernel
theorem d_N_less_26 : decode prog_8_method_25_code 26 = .ok (.iload_n 1, 1) := by decide +kernel
theorem d_N_less_27 : decode prog_8_method_25_code 27 = .ok (.iload_n 2, 1) := by decide +kernel
theorem d_N_less_28 : decode prog_8_method_25_code 28 = .ok (.iconst 0, 1) := by decide +kernel
theorem d_N_less_29 : decode prog_8_method_25_code 29 = .ok (.invokevirtual 144, 3) := by decide +kernel
theorem d_N_less_32 : decode prog_8_method_25_code 32 = .ok (.ireturn, 1) := by decide +kernel
theorem d_N_times_0 : decode prog_8_method_26_code 0 = .ok (.aload_n 0, 1) := by decide +kernel
theorem d_N_times_1 : decode prog_8_method_26_code 1 = .ok (.getfield 34, 3) := by decide +kernel
theorem d_N_times_4 : decode prog_8_method_26_code 4 = .ok (.iload_n 1, 1) := by decide +kernel
theorem d_N_times_5 : decode prog_8_method_26_code 5 = .ok (.iaload, 1) := by decide +kernel
theorem d_N_times_6 : decode prog_8_method_26_code 6 = .ok (.iconst 2, 1) := by decide +kernel
theorem d_N_times_7 : decode prog_8_method_26_code 7 = .ok (.if_icmp .eq 13, 3) := by decide +kernel
theorem d_N_times_10 : decode prog_8_method_26_code 10 = .ok (.aload_n 0, 1) := by decide +kernel
theorem d_N_times_11 : decode prog_8_method_26_code 11 = .ok (.getfield 34, 3) := by decide +kernel
theorem d_N_times_14 : decode prog_8_method_26_code 14 = .ok (.iload_n 2, 1) := by decide +kernel
theorem d_N_times_15 : decode prog_8_method_26_code 15 = .ok (.iaload, 1) := by decide +kernel
theorem d_N_times_16 : decode prog_8_method_26_code 16 = .ok (.iconst 2, 1) := by decide +kernel
theorem d_N_times_17 : decode prog_8_method_26_code 17 = .ok (.if_icmp .ne 8, 3) := by decide +kernel
theorem d_N_times_20 : decode prog_8_method_26_code 20 = .ok (.aload_n 0, 1) := by decide +kernel
theorem d_N_times_21 : decode prog_8_method_26_code 21 = .ok (.invokevirtual 147, 3) := by decide +kernel
theorem d_N_times_24 : decode prog_8_method_26_code 24 = .ok (.ireturn, 1) := by decide +kernel
theorem d_N_times_25 : decode prog_8_method_26_code 25 = .ok (.aload_n 0, 1) := by decide +kernel
theorem d_N_times_26 : decode prog_8_method_26_code 26 = .ok (.getfield 34, 3) := by decide +kernel
theorem d_N_times_29 : decode prog_8_method_26_code 29 = .ok (.iload_n 2, 1) := by decide +kernel
theorem d_N_times_30 : decode prog_8_method_26_code 30 = .ok (.iaload, 1) := by decide +kernel
theorem d_N_times_31 : decode prog_8_method_26_code 31 = .ok (.iconst 1, 1) := by decide +kernel
theorem d_N_times_32 : decode prog_8_method_26_code 32 = .ok (.if_icmp .ne 5, 3) := by decide +kernel
theorem d_N_times_35 : decode prog_8_method_26_code 35 = .ok (.iload_n 1, 1) := by decide +kernel
theorem d_N_times_36 : decode prog_8_method_26_code 36 = .ok (.ireturn, 1) := by decide +kernel
theorem d_N_times_37 : decode prog_8_method_26_code 37 = .ok (.aload_n 0, 1) := by decide +kernel
theorem d_N_times_38 : decode prog_8_method_26_code 38 = .ok (.getfield 34, 3) := by decide +kernel
theorem d_N_times_41 : decode prog_8_method_26_code 41 = .ok (.iload_n 1, 1) := by decide +kernel
theorem d_N_times_42 : decode prog_8_method_26_code 42 = .ok (.iaload, 1) := by decide +kernel
theorem d_N_times_43 : decode prog_8_method_26_code 43 = .ok (.iconst 1, 1) := by decide +kernel
theorem d_N_times_44 : decode prog_8_method_26_code 44 = .ok (.if_icmp .ne 7, 3) := by decide +kernel
theorem d_N_times_47 : decode prog_8_method_26_code 47 = .ok (.iload_n 2, 1) := by decide +kernel
theorem d_N_times_48 : decode prog_8_method_26_code 48 = .ok (.goto 11, 3) := by decide +kernel
theorem d_N_times_51 : decode prog_8_method_26_code 51 = .ok (.aload_n 0, 1) := by decide +kernel
theorem d_N_times_52 : decode prog_8_method_26_code 52 = .ok (.iconst 5, 1) := by decide +kernel
theorem d_N_times_53 : decode prog_8_method_26_code 53 = .ok (.iload_n 1, 1) := by decide +kernel
theorem d_N_times_54 : decode prog_8_method_26_code 54 = .ok (.iload_n 2, 1) := by decide +kernel
theorem d_N_times_55 : decode prog_8_method_26_code 55 = .ok (.iconst 0, 1) := by decide +kernel
theorem d_N_times_56 : decode prog_8_method_26_code 56 = .ok (.invokevirtual 144, 3) := by decide +kernel
theorem d_N_times_59 : decode prog_8_method_26_code 59 = .ok (.ireturn, 1) := by decide +kernel
theorem d_N_turned_0 : decode prog_8_method_27_code 0 = .ok (.aload_n 0, 1) := by decide +kernel
theorem d_N_turned_1 : decode prog_8_method_27_code 1 = .ok (.getfield 34, 3) := by decide +kernel
theorem d_N_turned_4 : decode prog_8_method_27_code 4 = .ok (.iload_n 1, 1) := by decide +kernel
theorem d_N_turned_5 : decode prog_8_method_27_code 5 = .ok (.iaload, 1) := by decide +kernel
theorem d_N_turned_6 : decode prog_8_method_27_code 6 = .ok (.iconst 1, 1) := by decide +kernel
theorem d_N_turned_7 : decode prog_8_method_27_code 7 = .ok (.if_icmp .eq 13, 3) := by decide +kernel
theorem d_N_turned_10 : decode prog_8_method_27_code 10 = .ok (.aload_n 0, 1) := by decide +kernel
theorem d_N_turned_11 : decode prog_8_method_27_code 11 = .ok (.getfield 34, 3) := by decide +kernel
theorem d_N_turned_14 : decode prog_8_method_27_code 14 = .ok (.iload_n 1, 1) := by decide +kernel
theorem d_N_turned_15 : decode prog_8_method_27_code 15 = .ok (.iaload, 1) := by decide +kernel
theorem d_N_turned_16 : decode prog_8_method_27_code 16 = .ok (.iconst 2, 1) := by decide +kernel
theorem d_N_turned_17 : decode prog_8_method_27_code 17 = .ok (.if_icmp .ne 5, 3) := by decide +kernel
theorem d_N_turned_20 : decode prog_8_method_27_code 20 = .ok (.iload_n 1, 1) := by decide +kernel
theorem d_N_turned_21 : decode prog_8_method_27_code 21 = .ok (.ireturn, 1) := by decide +kernel
theorem d_N_turned_22 : decode prog_8_method_27_code 22 = .ok (.aload_n 0, 1) := by decide +kernel
theorem d_N_turned_23 : decode prog_8_method_27_code 23 = .ok (.getfield 34, 3) := by decide +kernel
theorem d_N_turned_26 : decode prog_8_method_27_code 26 = .ok (.iload_n 1, 1) := by decide +kernel
theorem d_N_turned_27 : decode prog_8_method_27_code 27 = .ok (.iaload, 1) := by decide +kernel
theorem d_N_turned_28 : decode prog_8_method_27_code 28 = .ok (.bipush 6, 2) := by decide +kernel
theorem d_N_turned_30 : decode prog_8_method_27_code 30 = .ok (.if_icmp .ne 12, 3) := by decide +kernel
theorem d_N_turned_33 : decode prog_8_method_27_code 33 = .ok (.aload_n 0, 1) := by decide +kernel
theorem d_N_turned_34 : decode prog_8_method_27_code 34 = .ok (.getfield 37, 3) := by decide +kernel
theorem d_N_turned_37 : decode prog_8_method_27_code 37 = .ok (.iload_n 1, 1) := by decide +kernel
theorem d_N_turned_38 : decode prog_8_method_27_code 38 = .ok (.iaload, 1) := by decide +kernel
theorem d_N_turned_39 : decode prog_8_method_27_code 39 = .ok (.goto 12, 3) := by decide +kernel
theorem d_N_turned_42 : decode prog_8_method_27_code 42 = .ok (.aload_n 0, 1) := by decide +kernel
theorem d_N_turned_43 : decode prog_8_method_27_code 43 = .ok (.bipush 6, 2) := by decide +kernel
theorem d_N_turned_45 : decode prog_8_method_27_code 45 = .ok (.iload_n 1, 1) := by decide +kernel
theorem d_N_turned_46 : decode prog_8_method_27_code 46 = .ok (.iconst (-1), 1) := by decide +kernel
theorem d_N_turned_47 : decode prog_8_method_27_code 47 = .ok (.iconst 0, 1) := by decide +kernel
theorem d_N_turned_48 : decode prog_8_method_27_code 48 = .ok (.invokevirtual 144, 3) := by decide +kernel
theorem d_N_turned_51 : decode prog_8_method_27_code 51 = .ok (.ireturn, 1) := by decide +kernel
theorem d_N_scaled_0 : decode prog_8_method_28_code 0 = .ok (.iload_n 2, 1) := by decide +kernel
theorem d_N_scaled_1 : decode prog_8_method_28_code 1 = .ok (.aload_n 0, 1) := by decide +kernel
theorem d_N_scaled_2 : decode prog_8_method_28_code 2 = .ok (.getfield 56, 3) := by decide +kernel
theorem d_N_scaled_5 : decode prog_8_method_28_code 5 = .ok (.irem, 1) := by decide +kernel
theorem d_N_scaled_6 : decode prog_8_method_28_code 6 = .ok (.istore_n 3, 1) := by decide +kernel
theorem d_N_scaled_7 : decode prog_8_method_28_code 7 = .ok (.iload_n 3, 1) := by decide +kernel
theorem d_N_scaled_8 : decode prog_8_method_28_code 8 = .ok (.ifCond .eq 13, 3) := by decide +kernel
theorem d_N_scaled_11 : decode prog_8_method_28_code 11 = .ok (.aload_n 0, 1) := by decide +kernel
theorem d_N_scaled_12 : decode prog_8_method_28_code 12 = .ok (.getfield 34, 3) := by decide +kernel
theorem d_N_scaled_15 : decode prog_8_method_28_code 15 = .ok (.iload_n 1, 1) := by decide +kernel
theorem d_N_scaled_16 : decode prog_8_method_28_code 16 = .ok (.iaload, 1) := by decide +kernel
theorem d_N_scaled_17 : decode prog_8_method_28_code 17 = .ok (.iconst 2, 1) := by decide +kernel
theorem d_N_scaled_18 : decode prog_8_method_28_code 18 = .ok (.if_icmp .ne 8, 3) := by decide +kernel
theorem d_N_scaled_21 : decode prog_8_method_28_code 21 = .ok (.aload_n 0, 1) := by decide +kernel
theorem d_N_scaled_22 : decode prog_8_method_28_code 22 = .ok (.invokevirtual 147, 3) := by decide +kernel
theorem d_N_scaled_25 : decode prog_8_method_28_code 25 = .ok (.ireturn, 1) := by decide +kernel
theorem d_N_scaled_26 : decode prog_8_method_28_code 26 = .ok (.iload_n 3, 1) := by decide +kernel
theorem d_N_scaled_27 : decode prog_8_method_28_code 27 = .ok (.iconst 1, 1) := by decide +kernel
theorem d_N_scaled_28 : decode prog_8_method_28_code 28 = .ok (.if_icmp .ne 5, 3) := by decide +kernel
theorem d_N_scaled_31 : decode prog_8_method_28_code 31 = .ok (.iload_n 1, 1) := by decide +kernel
theorem d_N_scaled_32 : decode prog_8_method_28_code 32 = .ok (.ireturn, 1) := by decide +kernel
theorem d_N_scaled_33 : decode prog_8_method_28_code 33 = .ok (.aload_n 0, 1) := by decide +kernel
theorem d_N_scaled_34 : decode prog_8_method_28_code 34 = .ok (.getfield 34, 3) := by decide +kernel
theorem d_N_scaled_37 : decode prog_8_method_28_code 37 = .ok (.iload_n 1, 1) := by decide +kernel
theorem d_N_scaled_38 : decode prog_8_method_28_code 38 = .ok (.iaload, 1) := by decide +kernel
theorem d_N_scaled_39 : decode prog_8_method_28_code 39 = .ok (.bipush 7, 2) := by decide +kernel
theorem d_N_scaled_41 : decode prog_8_method_28_code 41 = .ok (.if_icmp .eq 13, 3) := by decide +kernel
theorem d_N_scaled_44 : decode prog_8_method_28_code 44 = .ok (.aload_n 0, 1) := by decide +kernel
theorem d_N_scaled_45 : decode prog_8_method_28_code 45 = .ok (.bipush 7, 2) := by decide +kernel
theorem d_N_scaled_47 : decode prog_8_method_28_code 47 = .ok (.iload_n 1, 1) := by decide +kernel
theorem d_N_scaled_48 : decode prog_8_method_28_code 48 = .ok (.iconst (-1), 1) := by decide +kernel
theorem d_N_scaled_49 : decode prog_8_method_28_code 49 = .ok (.iload_n 3, 1) := by decide +kernel
theorem d_N_scaled_50 : decode prog_8_method_28_code 50 = .ok (.invokevirtual 144, 3) := by decide +kernel
theorem d_N_scaled_53 : decode prog_8_method_28_code 53 = .ok (.ireturn, 1) := by decide +kernel
theorem d_N_scaled_54 : decode prog_8_method_28_code 54 = .ok (.aload_n 0, 1) := by decide +kernel
theorem d_N_scaled_55 : decode prog_8_method_28_code 55 = .ok (.getfield 43, 3) := by decide +kernel
theorem d_N_scaled_58 : decode prog_8_method_28_code 58 = .ok (.iload_n 1, 1) := by decide +kernel
theorem d_N_scaled_59 : decode prog_8_method_28_code 59 = .ok (.iaload, 1) := by decide +kernel
theorem d_N_scaled_60 : decode prog_8_method_28_code 60 = .ok (.iload_n 3, 1) := by decide +kernel
theorem d_N_scaled_61 : decode prog_8_method_28_code 61 = .ok (.imul, 1) := by decide +kernel
theorem d_N_scaled_62 : decode prog_8_method_28_code 62 = .ok (.aload_n 0, 1) := by decide +kernel
theorem d_N_scaled_63 : decode prog_8_method_28_code 63 = .ok (.getfield 56, 3) := by decide +kernel
theorem d_N_scaled_66 : decode prog_8_method_28_code 66 = .ok (.irem, 1) := by decide +kernel
theorem d_N_scaled_67 : decode prog_8_method_28_code 67 = .ok (.istore 4, 2) := by decide +kernel
theorem d_N_scaled_69 : decode prog_8_method_28_code 69 = .ok (.iload 4, 2) := by decide +kernel
theorem d_N_scaled_71 : decode prog_8_method_28_code 71 = .ok (.ifCond .ne 10, 3) := by decide +kernel
theorem d_N_scaled_74 : decode prog_8_method_28_code 74 = .ok (.aload_n 0, 1) := by decide +kernel
theorem d_N_scaled_75 : decode prog_8_method_28_code 75 = .ok (.invokevirtual 147, 3) := by decide +kernel
theorem d_N_scaled_78 : decode prog_8_method_28_code 78 = .ok (.goto 33, 3) := by decide +kernel
theorem d_N_scaled_81 : decode prog_8_method_28_code 81 = .ok (.iload 4, 2) := by decide +kernel
theorem d_N_scaled_83 : decode prog_8_method_28_code 83 = .ok (.iconst 1, 1) := by decide +kernel
theorem d_N_scaled_84 : decode prog_8_method_28_code 84 = .ok (.if_icmp .ne 12, 3) := by decide +kernel
theorem d_N_scaled_87 : decode prog_8_method_28_code 87 = .ok (.aload_n 0, 1) := by decide +kernel
theorem d_N_scaled_88 : decode prog_8_method_28_code 88 = .ok (.getfield 37, 3) := by decide +kernel
theorem d_N_scaled_91 : decode prog_8_method_28_code 91 = .ok (.iload_n 1, 1) := by decide +kernel
theorem d_N_scaled_92 : decode prog_8_method_28_code 92 = .ok (.iaload, 1) := by decide +kernel
theorem d_N_scaled_93 : decode prog_8_method_28_code 93 = .ok (.goto 18, 3) := by decide +kernel
theorem d_N_scaled_96 : decode prog_8_method_28_code 96 = .ok (.aload_n 0, 1) := by decide +kernel
theorem d_N_scaled_97 : decode prog_8_method_28_code 97 = .ok (.bipush 7, 2) := by decide +kernel
theorem d_N_scaled_99 : decode prog_8_method_28_code 99 = .ok (.aload_n 0, 1) := by decide +kernel
theorem d_N_scaled_100 : decode prog_8_method_28_code 100 = .ok (.getfield 37, 3) := by decide +kernel
theorem d_N_scaled_103 : decode prog_8_method_28_code 103 = .ok (.iload_n 1, 1) := by decide +kernel
theorem d_N_scaled_104 : decode prog_8_method_28_code 104 = .ok (.iaload, 1) := by decide +kernel
theorem d_N_scaled_105 : decode prog_8_method_28_code 105 = .ok (.iconst (-1), 1) := by decide +kernel
theorem d_N_scaled_106 : decode prog_8_method_28_code 106 = .ok (.iload 4, 2) := by decide +kernel
theorem d_N_scaled_108 : decode prog_8_method_28_code 108 = .ok (.invokevirtual 144, 3) := by decide +kernel
theorem d_N_scaled_111 : decode prog_8_method_28_code 111 = .ok (.ireturn, 1) := by decide +kernel
theorem d_N_valueOfInstruction_0 : decode prog_8_method_29_code 0 = .ok (.aload_n 0, 1) := by decide +kernel
theorem d_N_valueOfInstruction_1 : decode prog_8_method_29_code 1 = .ok (.getfield 50, 3) := by decide +kernel
theorem d_N_valueOfInstruction_4 : decode prog_8_method_29_code 4 = .ok (.aload_n 0, 1) := by decide +kernel
theorem d_N_valueOfInstruction_5 : decode prog_8_method_29_code 5 = .ok (.getfield 22, 3) := by decide +kernel
theorem d_N_valueOfInstruction_8 : decode prog_8_method_29_code 8 = .ok (.iload_n 1, 1) := by decide +kernel
theorem d_N_valueOfInstruction_9 : decode prog_8_method_29_code 9 = .ok (.iaload, 1) := by decide +kernel
theorem d_N_valueOfInstruction_10 : decode prog_8_method_29_code 10 = .ok (.iaload, 1) := by decide +kernel
theorem d_N_valueOfInstruction_11 : decode prog_8_method_29_code 11 = .ok (.istore_n 2, 1) := by decide +kernel
theorem d_N_valueOfInstruction_12 : decode prog_8_method_29_code 12 = .ok (.aload_n 0, 1) := by decide +kernel
theorem d_N_valueOfInstruction_13 : decode prog_8_method_29_code 13 = .ok (.getfield 50, 3) := by decide +kernel
theorem d_N_valueOfInstruction_16 : decode prog_8_method_29_code 16 = .ok (.aload_n 0, 1) := by decide +kernel
theorem d_N_valueOfInstruction_17 : decode prog_8_method_29_code 17 = .ok (.getfield 25, 3) := by decide +kernel
theorem d_N_valueOfInstruction_20 : decode prog_8_method_29_code 20 = .ok (.iload_n 1, 1) := by decide +kernel
theorem d_N_valueOfInstruction_21 : decode prog_8_method_29_code 21 = .ok (.iaload, 1) := by decide +kernel
theorem d_N_valueOfInstruction_22 : decode prog_8_method_29_code 22 = .ok (.iaload, 1) := by decide +kernel
theorem d_N_valueOfInstruction_23 : decode prog_8_method_29_code 23 = .ok (.istore_n 3, 1) := by decide +kernel
theorem d_N_valueOfInstruction_24 : decode prog_8_method_29_code 24 = .ok (.aload_n 0, 1) := by decide +kernel
theorem d_N_valueOfInstruction_25 : decode prog_8_method_29_code 25 = .ok (.getfield 19, 3) := by decide +kernel
theorem d_N_valueOfInstruction_28 : decode prog_8_method_29_code 28 = .ok (.iload_n 1, 1) := by decide +kernel
theorem d_N_valueOfInstruction_29 : decode prog_8_method_29_code 29 = .ok (.iaload, 1) := by decide +kernel
theorem d_N_valueOfInstruction_30 : decode prog_8_method_29_code 30 = .ok (.iconst 3, 1) := by decide +kernel
theorem d_N_valueOfInstruction_31 : decode prog_8_method_29_code 31 = .ok (.if_icmp .ne 10, 3) := by decide +kernel
theorem d_N_valueOfInstruction_34 : decode prog_8_method_29_code 34 = .ok (.aload_n 0, 1) := by decide +kernel
theorem d_N_valueOfInstruction_35 : decode prog_8_method_29_code 35 = .ok (.iload_n 2, 1) := by decide +kernel
theorem d_N_valueOfInstruction_36 : decode prog_8_method_29_code 36 = .ok (.iload_n 3, 1) := by decide +kernel
theorem d_N_valueOfInstruction_37 : decode prog_8_method_29_code 37 = .ok (.invokevirtual 150, 3) := by decide +kernel
theorem d_N_valueOfInstruction_40 : decode prog_8_method_29_code 40 = .ok (.ireturn, 1) := by decide +kernel
theorem d_N_valueOfInstruction_41 : decode prog_8_method_29_code 41 = .ok (.aload_n 0, 1) := by decide +kernel
theorem d_N_valueOfInstruction_42 : decode prog_8_method_29_code 42 = .ok (.getfield 19, 3) := by decide +kernel
theorem d_N_valueOfInstruction_45 : decode prog_8_method_29_code 45 = .ok (.iload_n 1, 1) := by decide +kernel
theorem d_N_valueOfInstruction_46 : decode prog_8_method_29_code 46 = .ok (.iaload, 1) := by decide +kernel
theorem d_N_valueOfInstruction_47 : decode prog_8_method_29_code 47 = .ok (.iconst 4, 1) := by decide +kernel
theorem d_N_valueOfInstruction_48 : decode prog_8_method_29_code 48 = .ok (.if_icmp .ne 10, 3) := by decide +kernel
theorem d_N_valueOfInstruction_51 : decode prog_8_method_29_code 51 = .ok (.aload_n 0, 1) := by decide +kernel
theorem d_N_valueOfInstruction_52 : decode prog_8_method_29_code 52 = .ok (.iload_n 2, 1) := by decide +kernel
theorem d_N_valueOfInstruction_53 : decode prog_8_method_29_code 53 = .ok (.iload_n 3, 1) := by decide +kernel
theorem d_N_valueOfInstruction_54 : decode prog_8_method_29_code 54 = .ok (.invokevirtual 153, 3) := by decide +kernel
theorem d_N_valueOfInstruction_57 : decode prog_8_method_29_code 57 = .ok (.ireturn, 1) := by decide +kernel
theorem d_N_valueOfInstruction_58 : decode prog_8_method_29_code 58 = .ok (.aload_n 0, 1) := by decide +kernel
theorem d_N_valueOfInstruction_59 : decode prog_8_method_29_code 59 = .ok (.getfield 19, 3) := by decide +kernel
theorem d_N_valueOfInstruction_62 : decode prog_8_method_29_code 62 = .ok (.iload_n 1, 1) := by decide +kernel
theorem d_N_valueOfInstruction_63 : decode prog_8_method_29_code 63 = .ok (.iaload, 1) := by decide +kernel
theorem d_N_valueOfInstruction_64 : decode prog_8_method_29_code 64 = .ok (.iconst 5, 1) := by decide +kernel
theorem d_N_valueOfInstruction_65 : decode prog_8_method_29_code 65 = .ok (.if_icmp .ne 10, 3) := by decide +kernel
theorem d_N_valueOfInstruction_68 : decode prog_8_method_29_code 68 = .ok (.aload_n 0, 1) := by decide +kernel
theorem d_N_valueOfInstruction_69 : decode prog_8_method_29_code 69 = .ok (.iload_n 2, 1) := by decide +kernel
theorem d_N_valueOfInstruction_70 : decode prog_8_method_29_code 70 = .ok (.iload_n 3, 1) := by decide +kernel
theorem d_N_valueOfInstruction_71 : decode prog_8_method_29_code 71 = .ok (.invokevirtual 156, 3) := by decide +kernel
theorem d_N_valueOfInstruction_74 : decode prog_8_method_29_code 74 = .ok (.ireturn, 1) := by decide +kernel
theorem d_N_valueOfInstruction_75 : decode prog_8_method_29_code 75 = .ok (.aload_n 0, 1) := by decide +kernel
theorem d_N_valueOfInstruction_76 : decode prog_8_method_29_code 76 = .ok (.getfield 19, 3) := by decide +kernel
theorem d_N_valueOfInstruction_79 : decode prog_8_method_29_code 79 = .ok (.iload_n 1, 1) := by decide +kernel
theorem d_N_valueOfInstruction_80 : decode prog_8_method_29_code 80 = .ok (.iaload, 1) := by decide +kernel
theorem d_N_valueOfInstruction_81 : decode prog_8_method_29_code 81 = .ok (.bipush 6, 2) := by decide +kernel
theorem d_N_valueOfInstruction_83 : decode prog_8_method_29_code 83 = .ok (.if_icmp .ne 9, 3) := by decide +kernel
theorem d_N_valueOfInstruction_86 : decode prog_8_method_29_code 86 = .ok (.aload_n 0, 1) := by decide +kernel
theorem d_N_valueOfInstruction_87 : decode prog_8_method_29_code 87 = .ok (.iload_n 2, 1) := by decide +kernel
theorem d_N_valueOfInstruction_88 : decode prog_8_method_29_code 88 = .ok (.invokevirtual 159, 3) := by decide +kernel
theorem d_N_valueOfInstruction_91 : decode prog_8_method_29_code 91 = .ok (.ireturn, 1) := by decide +kernel
theorem d_N_valueOfInstruction_92 : decode prog_8_method_29_code 92 = .ok (.aload_n 0, 1) := by decide +kernel
theorem d_N_valueOfInstruction_93 : decode prog_8_method_29_code 93 = .ok (.getfield 19, 3) := by decide +kernel
theorem d_N_valueOfInstruction_96 : decode prog_8_method_29_code 96 = .ok (.iload_n 1, 1) := by decide +kernel
theorem d_N_valueOfInstruction_97 : decode prog_8_method_29_code 97 = .ok (.iaload, 1) := by decide +kernel
theorem d_N_valueOfInstruction_98 : decode prog_8_method_29_code 98 = .ok (.bipush 7, 2) := by decide +kernel
theorem d_N_valueOfInstruction_100 : decode prog_8_method_29_code 100 = .ok (.if_icmp .ne 17, 3) := by decide +kernel
theorem d_N_valueOfInstruction_103 : decode prog_8_method_29_code 103 = .ok (.aload_n 0, 1) := by decide +kernel
theorem d_N_valueOfInstruction_104 : decode prog_8_method_29_code 104 = .ok (.iload_n 2, 1) := by decide +kernel
theorem d_N_valueOfInstruction_105 : decode prog_8_method_29_code 105 = .ok (.aload_n 0, 1) := by decide +kernel
theorem d_N_valueOfInstruction_106 : decode prog_8_method_29_code 106 = .ok (.getfield 28, 3) := by decide +kernel
theorem d_N_valueOfInstruction_109 : decode prog_8_method_29_code 109 = .ok (.iload_n 1, 1) := by decide +kernel
theorem d_N_valueOfInstruction_110 : decode prog_8_method_29_code 110 = .ok (.iaload, 1) := by decide +kernel
theorem d_N_valueOfInstruction_111 : decode prog_8_method_29_code 111 = .ok (.invokevirtual 162, 3) := by decide +kernel
theorem d_N_valueOfInstruction_114 : decode prog_8_method_29_code 114 = .ok (.goto 21, 3) := by decide +kernel
theorem d_N_valueOfInstruction_117 : decode prog_8_method_29_code 117 = .ok (.aload_n 0, 1) := by decide +kernel
theorem d_N_valueOfInstruction_118 : decode prog_8_method_29_code 118 = .ok (.aload_n 0, 1) := by decide +kernel
theorem d_N_valueOfInstruction_119 : decode prog_8_method_29_code 119 = .ok (.getfield 19, 3) := by decide +kernel
theorem d_N_valueOfInstruction_122 : decode prog_8_method_29_code 122 = .ok (.iload_n 1, 1) := by decide +kernel
theorem d_N_valueOfInstruction_123 : decode prog_8_method_29_code 123 = .ok (.iaload, 1) := by decide +kernel
theorem d_N_valueOfInstruction_124 : decode prog_8_method_29_code 124 = .ok (.iconst (-1), 1) := by decide +kernel
theorem d_N_valueOfInstruction_125 : decode prog_8_method_29_code 125 = .ok (.iconst (-1), 1) := by decide +kernel
theorem d_N_valueOfInstruction_126 : decode prog_8_method_29_code 126 = .ok (.aload_n 0, 1) := by decide +kernel
theorem d_N_valueOfInstruction_127 : decode prog_8_method_29_code 127 = .ok (.getfield 28, 3) := by decide +kernel
theorem d_N_valueOfInstruction_130 : decode prog_8_method_29_code 130 = .ok (.iload_n 1, 1) := by decide +kernel
theorem d_N_valueOfInstruction_131 : decode prog_8_method_29_code 131 = .ok (.iaload, 1) := by decide +kernel
theorem d_N_valueOfInstruction_132 : decode prog_8_method_29_code 132 = .ok (.invokevirtual 144, 3) := by decide +kernel
theorem d_N_valueOfInstruction_135 : decode prog_8_method_29_code 135 = .ok (.ireturn, 1) := by decide +kernel
theorem d_N_optimise_0 : decode prog_8_method_30_code 0 = .ok (.aload_n 0, 1) := by decide +kernel
theorem d_N_optimise_1 : decode prog_8_method_30_code 1 = .ok (.getfield 90, 3) := by decide +kernel
theorem d_N_optimise_4 : decode prog_8_method_30_code 4 = .ok (.ifCond .ne 6, 3) := by decide +kernel
theorem d_N_optimise_7 : decode prog_8_method_30_code 7 = .ok (.bipush 7, 2) := by decide +kernel
theorem d_N_optimise_9 : decode prog_8_method_30_code 9 = .ok (.ireturn, 1) := by decide +kernel
theorem d_N_optimise_10 : decode prog_8_method_30_code 10 = .ok (.aload_n 0, 1) := by decide +kernel
theorem d_N_optimise_11 : decode prog_8_method_30_code 11 = .ok (.iconst 0, 1) := by decide +kernel
theorem d_N_optimise_12 : decode prog_8_method_30_code 12 = .ok (.putfield 141, 3) := by decide +kernel
theorem d_N_optimise_15 : decode prog_8_method_30_code 15 = .ok (.iconst 0, 1) := by decide +kernel
theorem d_N_optimise_16 : decode prog_8_method_30_code 16 = .ok (.istore_n 1, 1) := by decide +kernel
theorem d_N_optimise_17 : decode prog_8_method_30_code 17 = .ok (.iload_n 1, 1) := by decide +kernel
theorem d_N_optimise_18 : decode prog_8_method_30_code 18 = .ok (.aload_n 0, 1) := by decide +kernel
theorem d_N_optimise_19 : decode prog_8_method_30_code 19 = .ok (.getfield 121, 3) := by decide +kernel
theorem d_N_optimise_22 : decode prog_8_method_30_code 22 = .ok (.if_icmp .ge 20, 3) := by decide +kernel
theorem d_N_optimise_25 : decode prog_8_method_30_code 25 = .ok (.aload_n 0, 1) := by decide +kernel
theorem d_N_optimise_26 : decode prog_8_method_30_code 26 = .ok (.getfield 50, 3) := by decide +kernel
theorem d_N_optimise_29 : decode prog_8_method_30_code 29 = .ok (.iload_n 1, 1) := by decide +kernel
theorem d_N_optimise_30 : decode prog_8_method_30_code 30 = .ok (.aload_n 0, 1) := by decide +kernel
theorem d_N_optimise_31 : decode prog_8_method_30_code 31 = .ok (.iload_n 1, 1) := by decide +kernel
theorem d_N_optimise_32 : decode prog_8_method_30_code 32 = .ok (.invokevirtual 165, 3) := by decide +kernel
theorem d_N_optimise_35 : decode prog_8_method_30_code 35 = .ok (.iastore, 1) := by decide +kernel
theorem d_N_optimise_36 : decode prog_8_method_30_code 36 = .ok (.iinc 1 1, 3) := by decide +kernel
theorem d_N_optimise_39 : decode prog_8_method_30_code 39 = .ok (.goto (-22), 3) := by decide +kernel
theorem d_N_optimise_42 : decode prog_8_method_30_code 42 = .ok (.aload_n 0, 1) := by decide +kernel
theorem d_N_optimise_43 : decode prog_8_method_30_code 43 = .ok (.getfield 46, 3) := by decide +kernel
theorem d_N_optimise_46 : decode prog_8_method_30_code 46 = .ok (.aload_n 0, 1) := by decide +kernel
theorem d_N_optimise_47 : decode prog_8_method_30_code 47 = .ok (.getfield 50, 3) := by decide +kernel
theorem d_N_optimise_50 : decode prog_8_method_30_code 50 = .ok (.aload_n 0, 1) := by decide +kernel
theorem d_N_optimise_51 : decode prog_8_method_30_code 51 = .ok (.getfield 138, 3) := by decide +kernel
theorem d_N_optimise_54 : decode prog_8_method_30_code 54 = .ok (.iaload, 1) := by decide +kernel
theorem d_N_optimise_55 : decode prog_8_method_30_code 55 = .ok (.iconst 1, 1) := by decide +kernel
theorem d_N_optimise_56 : decode prog_8_method_30_code 56 = .ok (.bastore, 1) := by decide +kernel
theorem d_N_optimise_57 : decode prog_8_method_30_code 57 = .ok (.aload_n 0, 1) := by decide +kernel
theorem d_N_optimise_58 : decode prog_8_method_30_code 58 = .ok (.getfield 141, 3) := by decide +kernel
theorem d_N_optimise_61 : decode prog_8_method_30_code 61 = .ok (.iconst 1, 1) := by decide +kernel
theorem d_N_optimise_62 : decode prog_8_method_30_code 62 = .ok (.isub, 1) := by decide +kernel
theorem d_N_optimise_63 : decode prog_8_method_30_code 63 = .ok (.istore_n 1, 1) := by decide +kernel
theorem d_N_optimise_64 : decode prog_8_method_30_code 64 = .ok (.iload_n 1, 1) := by decide +kernel
theorem d_N_optimise_65 : decode prog_8_method_30_code 65 = .ok (.ifCond .lt 69, 3) := by decide +kernel
theorem d_N_optimise_68 : decode prog_8_method_30_code 68 = .ok (.aload_n 0, 1) := by decide +kernel
theorem d_N_optimise_69 : decode prog_8_method_30_code 69 = .ok (.getfield 46, 3) := by decide +kernel
theorem d_N_optimise_72 : decode prog_8_method_30_code 72 = .ok (.iload_n 1, 1) := by decide +kernel
theorem d_N_optimise_73 : decode prog_8_method_30_code 73 = .ok (.baload, 1) := by decide +kernel
theorem d_N_optimise_74 : decode prog_8_method_30_code 74 = .ok (.ifCond .eq 24, 3) := by decide +kernel
theorem d_N_optimise_77 : decode prog_8_method_30_code 77 = .ok (.aload_n 0, 1) := by decide +kernel
theorem d_N_optimise_78 : decode prog_8_method_30_code 78 = .ok (.getfield 37, 3) := by decide +kernel
theorem d_N_optimise_81 : decode prog_8_method_30_code 81 = .ok (.iload_n 1, 1) := by decide +kernel
theorem d_N_optimise_82 : decode prog_8_method_30_code 82 = .ok (.iaload, 1) := by decide +kernel
theorem d_N_optimise_83 : decode prog_8_method_30_code 83 = .ok (.ifCond .lt 15, 3) := by decide +kernel
theorem d_N_optimise_86 : decode prog_8_method_30_code 86 = .ok (.aload_n 0, 1) := by decide +kernel
theorem d_N_optimise_87 : decode prog_8_method_30_code 87 = .ok (.getfield 46, 3) := by decide +kernel
theorem d_N_optimise_90 : decode prog_8_method_30_code 90 = .ok (.aload_n 0, 1) := by decide +kernel
theorem d_N_optimise_91 : decode prog_8_method_30_code 91 = .ok (.getfield 37, 3) := by decide +kernel
theorem d_N_optimise_94 : decode prog_8_method_30_code 94 = .ok (.iload_n 1, 1) := by decide +kernel
theorem d_N_optimise_95 : decode prog_8_method_30_code 95 = .ok (.iaload, 1) := by decide +kernel
theorem d_N_optimise_96 : decode prog_8_method_30_code 96 = .ok (.iconst 1, 1) := by decide +kernel
theorem d_N_optimise_97 : decode prog_8_method_30_code 97 = .ok (.bastore, 1) := by decide +kernel
theorem d_N_optimise_98 : decode prog_8_method_30_code 98 = .ok (.aload_n 0, 1) := by decide +kernel
theorem d_N_optimise_99 : decode prog_8_method_30_code 99 = .ok (.getfield 46, 3) := by decide +kernel
theorem d_N_optimise_102 : decode prog_8_method_30_code 102 = .ok (.iload_n 1, 1) := by decide +kernel
theorem d_N_optimise_103 : decode prog_8_method_30_code 103 = .ok (.baload, 1) := by decide +kernel
theorem d_N_optimise_104 : decode prog_8_method_30_code 104 = .ok (.ifCond .eq 24, 3) := by decide +kernel
theorem d_N_optimise_107 : decode prog_8_method_30_code 107 = .ok (.aload_n 0, 1) := by decide +kernel
theorem d_N_optimise_108 : decode prog_8_method_30_code 108 = .ok (.getfield 40, 3) := by decide +kernel
theorem d_N_optimise_111 : decode prog_8_method_30_code 111 = .ok (.iload_n 1, 1) := by decide +kernel
theorem d_N_optimise_112 : decode prog_8_method_30_code 112 = .ok (.iaload, 1) := by decide +kernel
theorem d_N_optimise_113 : decode prog_8_method_30_code 113 = .ok (.ifCond .lt 15, 3) := by decide +kernel
theorem d_N_optimise_116 : decode prog_8_method_30_code 116 = .ok (.aload_n 0, 1) := by decide +kernel
theorem d_N_optimise_117 : decode prog_8_method_30_code 117 = .ok (.getfield 46, 3) := by decide +kernel
theorem d_N_optimise_120 : decode prog_8_method_30_code 120 = .ok (.aload_n 0, 1) := by decide +kernel
theorem d_N_optimise_121 : decode prog_8_method_30_code 121 = .ok (.getfield 40, 3) := by decide +kernel
theorem d_N_optimise_124 : decode prog_8_method_30_code 124 = .ok (.iload_n 1, 1) := by decide +kernel
theorem d_N_optimise_125 : decode prog_8_method_30_code 125 = .ok (.iaload, 1) := by decide +kernel
theorem d_N_optimise_126 : decode prog_8_method_30_code 126 = .ok (.iconst 1, 1) := by decide +kernel
theorem d_N_optimise_127 : decode prog_8_method_30_code 127 = .ok (.bastore, 1) := by decide +kernel
theorem d_N_optimise_128 : decode prog_8_method_30_code 128 = .ok (.iinc 1 (-1), 3) := by decide +kernel
theorem d_N_optimise_131 : decode prog_8_method_30_code 131 = .ok (.goto (-67), 3) := by decide +kernel
theorem d_N_optimise_134 : decode prog_8_method_30_code 134 = .ok (.aload_n 0, 1) := by decide +kernel
theorem d_N_optimise_135 : decode prog_8_method_30_code 135 = .ok (.iconst 0, 1) := by decide +kernel
theorem d_N_optimise_136 : decode prog_8_method_30_code 136 = .ok (.putfield 121, 3) := by decide +kernel
theorem d_N_optimise_139 : decode prog_8_method_30_code 139 = .ok (.iconst 0, 1) := by decide +kernel
theorem d_N_optimise_140 : decode prog_8_method_30_code 140 = .ok (.istore_n 1, 1) := by decide +kernel
theorem d_N_optimise_141 : decode prog_8_method_30_code 141 = .ok (.iload_n 1, 1) := by decide +kernel
theorem d_N_optimise_142 : decode prog_8_method_30_code 142 = .ok (.aload_n 0, 1) := by decide +kernel
theorem d_N_optimise_143 : decode prog_8_method_30_code 143 = .ok (.getfield 141, 3) := by decide +kernel
theorem d_N_optimise_146 : decode prog_8_method_30_code 146 = .ok (.if_icmp .ge 88, 3) := by decide +kernel
theorem d_N_optimise_149 : decode prog_8_method_30_code 149 = .ok (.aload_n 0, 1) := by decide +kernel
theorem d_N_optimise_150 : decode prog_8_method_30_code 150 = .ok (.getfield 46, 3) := by decide +kernel
theorem d_N_optimise_153 : decode prog_8_method_30_code 153 = .ok (.iload_n 1, 1) := by decide +kernel
theorem d_N_optimise_154 : decode prog_8_method_30_code 154 = .ok (.baload, 1) := by decide +kernel
theorem d_N_optimise_155 : decode prog_8_method_30_code 155 = .ok (.ifCond .eq 73, 3) := by decide +kernel
theorem d_N_optimise_158 : decode prog_8_method_30_code 158 = .ok (.aload_n 0, 1) := by decide +kernel
theorem d_N_optimise_159 : decode prog_8_method_30_code 159 = .ok (.getfield 53, 3) := by decide +kernel
theorem d_N_optimise_162 : decode prog_8_method_30_code 162 = .ok (.iload_n 1, 1) := by decide +kernel
theorem d_N_optimise_163 : decode prog_8_method_30_code 163 = .ok (.aload_n 0, 1) := by decide +kernel
theorem d_N_optimise_164 : decode prog_8_method_30_code 164 = .ok (.aload_n 0, 1) := by decide +kernel
theorem d_N_optimise_165 : decode prog_8_method_30_code 165 = .ok (.getfield 34, 3) := by decide +kernel
theorem d_N_optimise_168 : decode prog_8_method_30_code 168 = .ok (.iload_n 1, 1) := by decide +kernel
theorem d_N_optimise_169 : decode prog_8_method_30_code 169 = .ok (.iaload, 1) := by decide +kernel
theorem d_N_optimise_170 : decode prog_8_method_30_code 170 = .ok (.aload_n 0, 1) := by decide +kernel
theorem d_N_optimise_171 : decode prog_8_method_30_code 171 = .ok (.getfield 37, 3) := by decide +kernel
theorem d_N_optimise_174 : decode prog_8_method_30_code 174 = .ok (.iload_n 1, 1) := by decide +kernel
theorem d_N_optimise_175 : decode prog_8_method_30_code 175 = .ok (.iaload, 1) := by decide +kernel
theorem d_N_optimise_176 : decode prog_8_method_30_code 176 = .ok (.ifCond .ge 7, 3) := by decide +kernel
theorem d_N_optimise_179 : decode prog_8_method_30_code 179 = .ok (.iconst 0, 1) := by decide +kernel
theorem d_N_optimise_180 : decode prog_8_method_30_code 180 = .ok (.goto 14, 3) := by decide +kernel
theorem d_N_optimise_183 : decode prog_8_method_30_code 183 = .ok (.aload_n 0, 1) := by decide +kernel
theorem d_N_optimise_184 : decode prog_8_method_30_code 184 = .ok (.getfield 53, 3) := by decide +kernel
theorem d_N_optimise_187 : decode prog_8_method_30_code 187 = .ok (.aload_n 0, 1) := by decide +kernel
theorem d_N_optimise_188 : decode prog_8_method_30_code 188 = .ok (.getfield 37, 3) := by decide +kernel
theorem d_N_optimise_191 : decode prog_8_method_30_code 191 = .ok (.iload_n 1, 1) := by decide +kernel
theorem d_N_optimise_192 : decode prog_8_method_30_code 192 = .ok (.iaload, 1) := by decide +kernel
theorem d_N_optimise_193 : decode prog_8_method_30_code 193 = .ok (.iaload, 1) := by decide +kernel
theorem d_N_optimise_194 : decode prog_8_method_30_code 194 = .ok (.aload_n 0, 1) := by decide +kernel
theorem d_N_optimise_195 : decode prog_8_method_30_code 195 = .ok (.getfield 40, 3) := by decide +kernel
theorem d_N_optimise_198 : decode prog_8_method_30_code 198 = .ok (.iload_n 1, 1) := by decide +kernel
theorem d_N_optimise_199 : decode prog_8_method_30_code 199 = .ok (.iaload, 1) := by decide +kernel
theorem d_N_optimise_200 : decode prog_8_method_30_code 200 = .ok (.ifCond .ge 7, 3) := by decide +kernel
theorem d_N_optimise_203 : decode prog_8_method_30_code 203 = .ok (.iconst 0, 1) := by decide +kernel
theorem d_N_optimise_204 : decode prog_8_method_30_code 204 = .ok (.goto 14, 3) := by decide +kernel
theorem d_N_optimise_207 : decode prog_8_method_30_code 207 = .ok (.aload_n 0, 1) := by decide +kernel
theorem d_N_optimise_208 : decode prog_8_method_30_code 208 = .ok (.getfield 53, 3) := by decide +kernel
theorem d_N_optimise_211 : decode prog_8_method_30_code 211 = .ok (.aload_n 0, 1) := by decide +kernel
theorem d_N_optimise_212 : decode prog_8_method_30_code 212 = .ok (.getfield 40, 3) := by decide +kernel
theorem d_N_optimise_215 : decode prog_8_method_30_code 215 = .ok (.iload_n 1, 1) := by decide +kernel
theorem d_N_optimise_216 : decode prog_8_method_30_code 216 = .ok (.iaload, 1) := by decide +kernel
theorem d_N_optimise_217 : decode prog_8_method_30_code 217 = .ok (.iaload, 1) := by decide +kernel
theorem d_N_optimise_218 : decode prog_8_method_30_code 218 = .ok (.aload_n 0, 1) := by decide +kernel
theorem d_N_optimise_219 : decode prog_8_method_30_code 219 = .ok (.getfield 43, 3) := by decide +kernel
theorem d_N_optimise_222 : decode prog_8_method_30_code 222 = .ok (.iload_n 1, 1) := by decide +kernel
theorem d_N_optimise_223 : decode prog_8_method_30_code 223 = .ok (.iaload, 1) := by decide +kernel
theorem d_N_optimise_224 : decode prog_8_method_30_code 224 = .ok (.invokevirtual 127, 3) := by decide +kernel
theorem d_N_optimise_227 : decode prog_8_method_30_code 227 = .ok (.iastore, 1) := by decide +kernel
theorem d_N_optimise_228 : decode prog_8_method_30_code 228 = .ok (.iinc 1 1, 3) := by decide +kernel
theorem d_N_optimise_231 : decode prog_8_method_30_code 231 = .ok (.goto (-90), 3) := by decide +kernel
theorem d_N_optimise_234 : decode prog_8_method_30_code 234 = .ok (.aload_n 0, 1) := by decide +kernel
theorem d_N_optimise_235 : decode prog_8_method_30_code 235 = .ok (.aload_n 0, 1) := by decide +kernel
theorem d_N_optimise_236 : decode prog_8_method_30_code 236 = .ok (.getfield 121, 3) := by decide +kernel
theorem d_N_optimise_239 : decode prog_8_method_30_code 239 = .ok (.iconst 1, 1) := by decide +kernel
theorem d_N_optimise_240 : decode prog_8_method_30_code 240 = .ok (.isub, 1) := by decide +kernel
theorem d_N_optimise_241 : decode prog_8_method_30_code 241 = .ok (.putfield 138, 3) := by decide +kernel
theorem d_N_optimise_244 : decode prog_8_method_30_code 244 = .ok (.aload_n 0, 1) := by decide +kernel
theorem d_N_optimise_245 : decode prog_8_method_30_code 245 = .ok (.iconst 0, 1) := by decide +kernel
theorem d_N_optimise_246 : decode prog_8_method_30_code 246 = .ok (.putfield 98, 3) := by decide +kernel
theorem d_N_optimise_249 : decode prog_8_method_30_code 249 = .ok (.iconst 0, 1) := by decide +kernel
theorem d_N_optimise_250 : decode prog_8_method_30_code 250 = .ok (.ireturn, 1) := by decide +kernel
theorem d_N_run_0 : decode prog_8_method_31_code 0 = .ok (.aload_n 0, 1) := by decide +kernel
theorem d_N_run_1 : decode prog_8_method_31_code 1 = .ok (.getfield 90, 3) := by decide +kernel
theorem d_N_run_4 : decode prog_8_method_31_code 4 = .ok (.ifCond .ne 6, 3) := by decide +kernel
theorem d_N_run_7 : decode prog_8_method_31_code 7 = .ok (.bipush 7, 2) := by decide +kernel
theorem d_N_run_9 : decode prog_8_method_31_code 9 = .ok (.ireturn, 1) := by decide +kernel
theorem d_N_run_10 : decode prog_8_method_31_code 10 = .ok (.iconst 0, 1) := by decide +kernel
theorem d_N_run_11 : decode prog_8_method_31_code 11 = .ok (.istore_n 2, 1) := by decide +kernel
theorem d_N_run_12 : decode prog_8_method_31_code 12 = .ok (.iload_n 2, 1) := by decide +kernel
theorem d_N_run_13 : decode prog_8_method_31_code 13 = .ok (.iload_n 1, 1) := by decide +kernel
theorem d_N_run_14 : decode prog_8_method_31_code 14 = .ok (.if_icmp .ge 83, 3) := by decide +kernel
theorem d_N_run_17 : decode prog_8_method_31_code 17 = .ok (.aload_n 0, 1) := by decide +kernel
theorem d_N_run_18 : decode prog_8_method_31_code 18 = .ok (.getfield 98, 3) := by decide +kernel
theorem d_N_run_21 : decode prog_8_method_31_code 21 = .ok (.aload_n 0, 1) := by decide +kernel
theorem d_N_run_22 : decode prog_8_method_31_code 22 = .ok (.getfield 121, 3) := by decide +kernel
theorem d_N_run_25 : decode prog_8_method_31_code 25 = .ok (.if_icmp .ge 72, 3) := by decide +kernel
theorem d_N_run_28 : decode prog_8_method_31_code 28 = .ok (.aload_n 0, 1) := by decide +kernel
theorem d_N_run_29 : decode prog_8_method_31_code 29 = .ok (.aload_n 0, 1) := by decide +kernel
theorem d_N_run_30 : decode prog_8_method_31_code 30 = .ok (.getfield 19, 3) := by decide +kernel
theorem d_N_run_33 : decode prog_8_method_31_code 33 = .ok (.aload_n 0, 1) := by decide +kernel
theorem d_N_run_34 : decode prog_8_method_31_code 34 = .ok (.getfield 98, 3) := by decide +kernel
theorem d_N_run_37 : decode prog_8_method_31_code 37 = .ok (.iaload, 1) := by decide +kernel
theorem d_N_run_38 : decode prog_8_method_31_code 38 = .ok (.bipush 31, 2) := by decide +kernel
theorem d_N_run_40 : decode prog_8_method_31_code 40 = .ok (.aload_n 0, 1) := by decide +kernel
theorem d_N_run_41 : decode prog_8_method_31_code 41 = .ok (.getfield 22, 3) := by decide +kernel
theorem d_N_run_44 : decode prog_8_method_31_code 44 = .ok (.aload_n 0, 1) := by decide +kernel
theorem d_N_run_45 : decode prog_8_method_31_code 45 = .ok (.getfield 98, 3) := by decide +kernel
theorem d_N_run_48 : decode prog_8_method_31_code 48 = .ok (.iaload, 1) := by decide +kernel
theorem d_N_run_49 : decode prog_8_method_31_code 49 = .ok (.iadd, 1) := by decide +kernel
theorem d_N_run_50 : decode prog_8_method_31_code 50 = .ok (.bipush 31, 2) := by decide +kernel
theorem d_N_run_52 : decode prog_8_method_31_code 52 = .ok (.aload_n 0, 1) := by decide +kernel
theorem d_N_run_53 : decode prog_8_method_31_code 53 = .ok (.getfield 25, 3) := by decide +kernel
theorem d_N_run_56 : decode prog_8_method_31_code 56 = .ok (.aload_n 0, 1) := by decide +kernel
theorem d_N_run_57 : decode prog_8_method_31_code 57 = .ok (.getfield 98, 3) := by decide +kernel
theorem d_N_run_60 : decode prog_8_method_31_code 60 = .ok (.iaload, 1) := by decide +kernel
theorem d_N_run_61 : decode prog_8_method_31_code 61 = .ok (.iadd, 1) := by decide +kernel
theorem d_N_run_62 : decode prog_8_method_31_code 62 = .ok (.aload_n 0, 1) := by decide +kernel
theorem d_N_run_63 : decode prog_8_method_31_code 63 = .ok (.getfield 28, 3) := by decide +kernel
theorem d_N_run_66 : decode prog_8_method_31_code 66 = .ok (.aload_n 0, 1) := by decide +kernel
theorem d_N_run_67 : decode prog_8_method_31_code 67 = .ok (.getfield 98, 3) := by decide +kernel
theorem d_N_run_70 : decode prog_8_method_31_code 70 = .ok (.iaload, 1) := by decide +kernel
theorem d_N_run_71 : decode prog_8_method_31_code 71 = .ok (.bipush 31, 2) := by decide +kernel
theorem d_N_run_73 : decode prog_8_method_31_code 73 = .ok (.aload_n 0, 1) := by decide +kernel
theorem d_N_run_74 : decode prog_8_method_31_code 74 = .ok (.getfield 98, 3) := by decide +kernel
theorem d_N_run_77 : decode prog_8_method_31_code 77 = .ok (.iadd, 1) := by decide +kernel
theorem d_N_run_78 : decode prog_8_method_31_code 78 = .ok (.invokevirtual 83, 3) := by decide +kernel
theorem d_N_run_81 : decode prog_8_method_31_code 81 = .ok (.aload_n 0, 1) := by decide +kernel
theorem d_N_run_82 : decode prog_8_method_31_code 82 = .ok (.aload_n 0, 1) := by decide +kernel
theorem d_N_run_83 : decode prog_8_method_31_code 83 = .ok (.getfield 98, 3) := by decide +kernel
theorem d_N_run_86 : decode prog_8_method_31_code 86 = .ok (.iconst 1, 1) := by decide +kernel
theorem d_N_run_87 : decode prog_8_method_31_code 87 = .ok (.iadd, 1) := by decide +kernel
theorem d_N_run_88 : decode prog_8_method_31_code 88 = .ok (.putfield 98, 3) := by decide +kernel
theorem d_N_run_91 : decode prog_8_method_31_code 91 = .ok (.iinc 2 1, 3) := by decide +kernel
theorem d_N_run_94 : decode prog_8_method_31_code 94 = .ok (.goto (-82), 3) := by decide +kernel
theorem d_N_run_97 : decode prog_8_method_31_code 97 = .ok (.aload_n 0, 1) := by decide +kernel
theorem d_N_run_98 : decode prog_8_method_31_code 98 = .ok (.getfield 98, 3) := by decide +kernel
theorem d_N_run_101 : decode prog_8_method_31_code 101 = .ok (.aload_n 0, 1) := by decide +kernel
theorem d_N_run_102 : decode prog_8_method_31_code 102 = .ok (.getfield 121, 3) := by decide +kernel
theorem d_N_run_105 : decode prog_8_method_31_code 105 = .ok (.if_icmp .ne 7, 3) := by decide +kernel
theorem d_N_run_108 : decode prog_8_method_31_code 108 = .ok (.iconst 0, 1) := by decide +kernel
theorem d_N_run_109 : decode prog_8_method_31_code 109 = .ok (.goto 5, 3) := by decide +kernel
theorem d_N_run_112 : decode prog_8_method_31_code 112 = .ok (.bipush 8, 2) := by decide +kernel
theorem d_N_run_114 : decode prog_8_method_31_code 114 = .ok (.ireturn, 1) := by decide +kernel
theorem d_N_out_0 : decode prog_8_method_32_code 0 = .ok (.aload_n 0, 1) := by decide +kernel
theorem d_N_out_1 : decode prog_8_method_32_code 1 = .ok (.getfield 90, 3) := by decide +kernel
theorem d_N_out_4 : decode prog_8_method_32_code 4 = .ok (.ifCond .eq 39, 3) := by decide +kernel
theorem d_N_out_7 : decode prog_8_method_32_code 7 = .ok (.aload_n 0, 1) := by decide +kernel
theorem d_N_out_8 : decode prog_8_method_32_code 8 = .ok (.getfield 98, 3) := by decide +kernel
theorem d_N_out_11 : decode prog_8_method_32_code 11 = .ok (.aload_n 0, 1) := by decide +kernel
theorem d_N_out_12 : decode prog_8_method_32_code 12 = .ok (.getfield 121, 3) := by decide +kernel
theorem d_N_out_15 : decode prog_8_method_32_code 15 = .ok (.if_icmp .ne 28, 3) := by decide +kernel
theorem d_N_out_18 : decode prog_8_method_32_code 18 = .ok (.aload_n 0, 1) := by decide +kernel
theorem d_N_out_19 : decode prog_8_method_32_code 19 = .ok (.iload_n 1, 1) := by decide +kernel
theorem d_N_out_20 : decode prog_8_method_32_code 20 = .ok (.iload_n 2, 1) := by decide +kernel
theorem d_N_out_21 : decode prog_8_method_32_code 21 = .ok (.invokevirtual 94, 3) := by decide +kernel
theorem d_N_out_24 : decode prog_8_method_32_code 24 = .ok (.ifCond .eq 19, 3) := by decide +kernel
theorem d_N_out_27 : decode prog_8_method_32_code 27 = .ok (.aload_n 0, 1) := by decide +kernel
theorem d_N_out_28 : decode prog_8_method_32_code 28 = .ok (.bipush 31, 2) := by decide +kernel
theorem d_N_out_30 : decode prog_8_method_32_code 30 = .ok (.aload_n 0, 1) := by decide +kernel
theorem d_N_out_31 : decode prog_8_method_32_code 31 = .ok (.getfield 138, 3) := by decide +kernel
theorem d_N_out_34 : decode prog_8_method_32_code 34 = .ok (.iadd, 1) := by decide +kernel
theorem d_N_out_35 : decode prog_8_method_32_code 35 = .ok (.iload_n 1, 1) := by decide +kernel
theorem d_N_out_36 : decode prog_8_method_32_code 36 = .ok (.iload_n 2, 1) := by decide +kernel
theorem d_N_out_37 : decode prog_8_method_32_code 37 = .ok (.invokevirtual 67, 3) := by decide +kernel
theorem d_N_out_40 : decode prog_8_method_32_code 40 = .ok (.goto 4, 3) := by decide +kernel
theorem d_N_out_43 : decode prog_8_method_32_code 43 = .ok (.iconst (-1), 1) := by decide +kernel
theorem d_N_out_44 : decode prog_8_method_32_code 44 = .ok (.ireturn, 1) := by decide +kernel
theorem d_N_outDirect_0 : decode prog_8_method_33_code 0 = .ok (.aload_n 0, 1) := by decide +kernel
theorem d_N_outDirect_1 : decode prog_8_method_33_code 1 = .ok (.getfield 118, 3) := by decide +kernel
theorem d_N_outDirect_4 : decode prog_8_method_33_code 4 = .ok (.ifCond .eq 25, 3) := by decide +kernel
theorem d_N_outDirect_7 : decode prog_8_method_33_code 7 = .ok (.aload_n 0, 1) := by decide +kernel
theorem d_N_outDirect_8 : decode prog_8_method_33_code 8 = .ok (.iload_n 1, 1) := by decide +kernel
theorem d_N_outDirect_9 : decode prog_8_method_33_code 9 = .ok (.iload_n 2, 1) := by decide +kernel
theorem d_N_outDirect_10 : decode prog_8_method_33_code 10 = .ok (.invokevirtual 94, 3) := by decide +kernel
theorem d_N_outDirect_13 : decode prog_8_method_33_code 13 = .ok (.ifCond .eq 16, 3) := by decide +kernel
theorem d_N_outDirect_16 : decode prog_8_method_33_code 16 = .ok (.aload_n 0, 1) := by decide +kernel
theorem d_N_outDirect_17 : decode prog_8_method_33_code 17 = .ok (.getfield 16, 3) := by decide +kernel
theorem d_N_outDirect_20 : decode prog_8_method_33_code 20 = .ok (.iconst 4, 1) := by decide +kernel
theorem d_N_outDirect_21 : decode prog_8_method_33_code 21 = .ok (.iload_n 1, 1) := by decide +kernel
theorem d_N_outDirect_22 : decode prog_8_method_33_code 22 = .ok (.imul, 1) := by decide +kernel
theorem d_N_outDirect_23 : decode prog_8_method_33_code 23 = .ok (.iload_n 2, 1) := by decide +kernel
theorem d_N_outDirect_24 : decode prog_8_method_33_code 24 = .ok (.iadd, 1) := by decide +kernel
theorem d_N_outDirect_25 : decode prog_8_method_33_code 25 = .ok (.iaload, 1) := by decide +kernel
theorem d_N_outDirect_26 : decode prog_8_method_33_code 26 = .ok (.goto 4, 3) := by decide +kernel
theorem d_N_outDirect_29 : decode prog_8_method_33_code 29 = .ok (.iconst (-1), 1) := by decide +kernel
theorem d_N_outDirect_30 : decode prog_8_method_33_code 30 = .ok (.ireturn, 1) := by decide +kernel
theorem d_N_codeAt_0 : decode prog_8_method_34_code 0 = .ok (.aload_n 0, 1) := by decide +kernel
theorem d_N_codeAt_1 : decode prog_8_method_34_code 1 = .ok (.getfield 90, 3) := by decide +kernel
theorem d_N_codeAt_4 : decode prog_8_method_34_code 4 = .ok (.ifCond .eq 17, 3) := by decide +kernel
theorem d_N_codeAt_7 : decode prog_8_method_34_code 7 = .ok (.iload_n 1, 1) := by decide +kernel
theorem d_N_codeAt_8 : decode prog_8_method_34_code 8 = .ok (.iconst 0, 1) := by decide +kernel
theorem d_N_codeAt_9 : decode prog_8_method_34_code 9 = .ok (.aload_n 0, 1) := by decide +kernel
theorem d_N_codeAt_10 : decode prog_8_method_34_code 10 = .ok (.getfield 121, 3) := by decide +kernel
theorem d_N_codeAt_13 : decode prog_8_method_34_code 13 = .ok (.iconst 1, 1) := by decide +kernel
theorem d_N_codeAt_14 : decode prog_8_method_34_code 14 = .ok (.isub, 1) := by decide +kernel
theorem d_N_codeAt_15 : decode prog_8_method_34_code 15 = .ok (.invokestatic 63, 3) := by decide +kernel
theorem d_N_codeAt_18 : decode prog_8_method_34_code 18 = .ok (.ifCond .ne 5, 3) := by decide +kernel
theorem d_N_codeAt_21 : decode prog_8_method_34_code 21 = .ok (.iconst (-1), 1) := by decide +kernel
theorem d_N_codeAt_22 : decode prog_8_method_34_code 22 = .ok (.ireturn, 1) := by decide +kernel
theorem d_N_codeAt_23 : decode prog_8_method_34_code 23 = .ok (.aload_n 0, 1) := by decide +kernel
theorem d_N_codeAt_24 : decode prog_8_method_34_code 24 = .ok (.getfield 19, 3) := by decide +kernel
theorem d_N_codeAt_27 : decode prog_8_method_34_code 27 = .ok (.iload_n 1, 1) := by decide +kernel
theorem d_N_codeAt_28 : decode prog_8_method_34_code 28 = .ok (.iaload, 1) := by decide +kernel
theorem d_N_codeAt_29 : decode prog_8_method_34_code 29 = .ok (.ifCond .ne 12, 3) := by decide +kernel
theorem d_N_codeAt_32 : decode prog_8_method_34_code 32 = .ok (.aload_n 0, 1) := by decide +kernel
theorem d_N_codeAt_33 : decode prog_8_method_34_code 33 = .ok (.getfield 28, 3) := by decide +kernel
theorem d_N_codeAt_36 : decode prog_8_method_34_code 36 = .ok (.iload_n 1, 1) := by decide +kernel
theorem d_N_codeAt_37 : decode prog_8_method_34_code 37 = .ok (.iaload, 1) := by decide +kernel
theorem d_N_codeAt_38 : decode prog_8_method_34_code 38 = .ok (.goto 88, 3) := by decide +kernel
theorem d_N_codeAt_41 : decode prog_8_method_34_code 41 = .ok (.aload_n 0, 1) := by decide +kernel
theorem d_N_codeAt_42 : decode prog_8_method_34_code 42 = .ok (.getfield 19, 3) := by decide +kernel
theorem d_N_codeAt_45 : decode prog_8_method_34_code 45 = .ok (.iload_n 1, 1) := by decide +kernel
theorem d_N_codeAt_46 : decode prog_8_method_34_code 46 = .ok (.iaload, 1) := by decide +kernel
theorem d_N_codeAt_47 : decode prog_8_method_34_code 47 = .ok (.bipush 7, 2) := by decide +kernel
theorem d_N_codeAt_49 : decode prog_8_method_34_code 49 = .ok (.if_icmp .ne 22, 3) := by decide +kernel
theorem d_N_codeAt_52 : decode prog_8_method_34_code 52 = .ok (.bipush 100, 2) := by decide +kernel
theorem d_N_codeAt_54 : decode prog_8_method_34_code 54 = .ok (.aload_n 0, 1) := by decide +kernel
theorem d_N_codeAt_55 : decode prog_8_method_34_code 55 = .ok (.getfield 22, 3) := by decide +kernel
theorem d_N_codeAt_58 : decode prog_8_method_34_code 58 = .ok (.iload_n 1, 1) := by decide +kernel
theorem d_N_codeAt_59 : decode prog_8_method_34_code 59 = .ok (.iaload, 1) := by decide +kernel
theorem d_N_codeAt_60 : decode prog_8_method_34_code 60 = .ok (.imul, 1) := by decide +kernel
theorem d_N_codeAt_61 : decode prog_8_method_34_code 61 = .ok (.aload_n 0, 1) := by decide +kernel
theorem d_N_codeAt_62 : decode prog_8_method_34_code 62 = .ok (.getfield 28, 3) := by decide +kernel
theorem d_N_codeAt_65 : decode prog_8_method_34_code 65 = .ok (.iload_n 1, 1) := by decide +kernel
theorem d_N_codeAt_66 : decode prog_8_method_34_code 66 = .ok (.iaload, 1) := by decide +kernel
theorem d_N_codeAt_67 : decode prog_8_method_34_code 67 = .ok (.iadd, 1) := by decide +kernel
theorem d_N_codeAt_68 : decode prog_8_method_34_code 68 = .ok (.goto 58, 3) := by decide +kernel
theorem d_N_codeAt_71 : decode prog_8_method_34_code 71 = .ok (.aload_n 0, 1) := by decide +kernel
theorem d_N_codeAt_72 : decode prog_8_method_34_code 72 = .ok (.getfield 19, 3) := by decide +kernel
theorem d_N_codeAt_75 : decode prog_8_method_34_code 75 = .ok (.iload_n 1, 1) := by decide +kernel
theorem d_N_codeAt_76 : decode prog_8_method_34_code 76 = .ok (.iaload, 1) := by decide +kernel
theorem d_N_codeAt_77 : decode prog_8_method_34_code 77 = .ok (.invokestatic 105, 3) := by decide +kernel
theorem d_N_codeAt_80 : decode prog_8_method_34_code 80 = .ok (.ifCond .eq 22, 3) := by decide +kernel
theorem d_N_codeAt_83 : decode prog_8_method_34_code 83 = .ok (.bipush 100, 2) := by decide +kernel
theorem d_N_codeAt_85 : decode prog_8_method_34_code 85 = .ok (.aload_n 0, 1) := by decide +kernel
theorem d_N_codeAt_86 : decode prog_8_method_34_code 86 = .ok (.getfield 22, 3) := by decide +kernel
theorem d_N_codeAt_89 : decode prog_8_method_34_code 89 = .ok (.iload_n 1, 1) := by decide +kernel
theorem d_N_codeAt_90 : decode prog_8_method_34_code 90 = .ok (.iaload, 1) := by decide +kernel
theorem d_N_codeAt_91 : decode prog_8_method_34_code 91 = .ok (.imul, 1) := by decide +kernel
theorem d_N_codeAt_92 : decode prog_8_method_34_code 92 = .ok (.aload_n 0, 1) := by decide +kernel
theorem d_N_codeAt_93 : decode prog_8_method_34_code 93 = .ok (.getfield 25, 3) := by decide +kernel
theorem d_N_codeAt_96 : decode prog_8_method_34_code 96 = .ok (.iload_n 1, 1) := by decide +kernel
theorem d_N_codeAt_97 : decode prog_8_method_34_code 97 = .ok (.iaload, 1) := by decide +kernel
theorem d_N_codeAt_98 : decode prog_8_method_34_code 98 = .ok (.iadd, 1) := by decide +kernel
theorem d_N_codeAt_99 : decode prog_8_method_34_code 99 = .ok (.goto 27, 3) := by decide +kernel
theorem d_N_codeAt_102 : decode prog_8_method_34_code 102 = .ok (.aload_n 0, 1) := by decide +kernel
theorem d_N_codeAt_103 : decode prog_8_method_34_code 103 = .ok (.getfield 19, 3) := by decide +kernel
theorem d_N_codeAt_106 : decode prog_8_method_34_code 106 = .ok (.iload_n 1, 1) := by decide +kernel
theorem d_N_codeAt_107 : decode prog_8_method_34_code 107 = .ok (.iaload, 1) := by decide +kernel
theorem d_N_codeAt_108 : decode prog_8_method_34_code 108 = .ok (.bipush 6, 2) := by decide +kernel
theorem d_N_codeAt_110 : decode prog_8_method_34_code 110 = .ok (.if_icmp .ne 15, 3) := by decide +kernel
theorem d_N_codeAt_113 : decode prog_8_method_34_code 113 = .ok (.bipush 100, 2) := by decide +kernel
theorem d_N_codeAt_115 : decode prog_8_method_34_code 115 = .ok (.aload_n 0, 1) := by decide +kernel
theorem d_N_codeAt_116 : decode prog_8_method_34_code 116 = .ok (.getfield 22, 3) := by decide +kernel
theorem d_N_codeAt_119 : decode prog_8_method_34_code 119 = .ok (.iload_n 1, 1) := by decide +kernel
theorem d_N_codeAt_120 : decode prog_8_method_34_code 120 = .ok (.iaload, 1) := by decide +kernel
theorem d_N_codeAt_121 : decode prog_8_method_34_code 121 = .ok (.imul, 1) := by decide +kernel
theorem d_N_codeAt_122 : decode prog_8_method_34_code 122 = .ok (.goto 4, 3) := by decide +kernel
theorem d_N_codeAt_125 : decode prog_8_method_34_code 125 = .ok (.iconst 0, 1) := by decide +kernel
theorem d_N_codeAt_126 : decode prog_8_method_34_code 126 = .ok (.istore_n 2, 1) := by decide +kernel
theorem d_N_codeAt_127 : decode prog_8_method_34_code 127 = .ok (.sipush 10000, 3) := by decide +kernel
theorem d_N_codeAt_130 : decode prog_8_method_34_code 130 = .ok (.aload_n 0, 1) := by decide +kernel
theorem d_N_codeAt_131 : decode prog_8_method_34_code 131 = .ok (.getfield 19, 3) := by decide +kernel
theorem d_N_codeAt_134 : decode prog_8_method_34_code 134 = .ok (.iload_n 1, 1) := by decide +kernel
theorem d_N_codeAt_135 : decode prog_8_method_34_code 135 = .ok (.iaload, 1) := by decide +kernel
theorem d_N_codeAt_136 : decode prog_8_method_34_code 136 = .ok (.imul, 1) := by decide +kernel
theorem d_N_codeAt_137 : decode prog_8_method_34_code 137 = .ok (.iload_n 2, 1) := by decide +kernel
theorem d_N_codeAt_138 : decode prog_8_method_34_code 138 = .ok (.iadd, 1) := by decide +kernel
theorem d_N_codeAt_139 : decode prog_8_method_34_code 139 = .ok (.ireturn, 1) := by decide +kernel
theorem d_N_codeSize_0 : decode prog_8_method_35_code 0 = .ok (.aload_n 0, 1) := by decide +kernel
theorem d_N_codeSize_1 : decode prog_8_method_35_code 1 = .ok (.getfield 90, 3) := by decide +kernel
theorem d_N_codeSize_4 : decode prog_8_method_35_code 4 = .ok (.ifCond .eq 10, 3) := by decide +kernel
theorem d_N_codeSize_7 : decode prog_8_method_35_code 7 = .ok (.aload_n 0, 1) := by decide +kernel
theorem d_N_codeSize_8 : decode prog_8_method_35_code 8 = .ok (.getfield 121, 3) := by decide +kernel
theorem d_N_codeSize_11 : decode prog_8_method_35_code 11 = .ok (.goto 4, 3) := by decide +kernel
theorem d_N_codeSize_14 : decode prog_8_method_35_code 14 = .ok (.iconst (-1), 1) := by decide +kernel
theorem d_N_codeSize_15 : decode prog_8_method_35_code 15 = .ok (.ireturn, 1) := by decide +kernel
theorem d_N_products_0 : decode prog_8_method_36_code 0 = .ok (.iconst 0, 1) := by decide +kernel
theorem d_N_products_1 : decode prog_8_method_36_code 1 = .ok (.istore_n 1, 1) := by decide +kernel
theorem d_N_products_2 : decode prog_8_method_36_code 2 = .ok (.iconst 0, 1) := by decide +kernel
theorem d_N_products_3 : decode prog_8_method_36_code 3 = .ok (.istore_n 2, 1) := by decide +kernel
theorem d_N_products_4 : decode prog_8_method_36_code 4 = .ok (.iload_n 2, 1) := by decide +kernel
theorem d_N_products_5 : decode prog_8_method_36_code 5 = .ok (.aload_n 0, 1) := by decide +kernel
theorem d_N_products_6 : decode prog_8_method_36_code 6 = .ok (.getfield 121, 3) := by decide +kernel
theorem d_N_products_9 : decode prog_8_method_36_code 9 = .ok (.if_icmp .ge 27, 3) := by decide +kernel
theorem d_N_products_12 : decode prog_8_method_36_code 12 = .ok (.aload_n 0, 1) := by decide +kernel
theorem d_N_products_13 : decode prog_8_method_36_code 13 = .ok (.getfield 19, 3) := by decide +kernel
theorem d_N_products_16 : decode prog_8_method_36_code 16 = .ok (.iload_n 2, 1) := by decide +kernel
theorem d_N_products_17 : decode prog_8_method_36_code 17 = .ok (.iaload, 1) := by decide +kernel
theorem d_N_products_18 : decode prog_8_method_36_code 18 = .ok (.iconst 5, 1) := by decide +kernel
theorem d_N_products_19 : decode prog_8_method_36_code 19 = .ok (.if_icmp .ne 9, 3) := by decide +kernel
theorem d_N_products_22 : decode prog_8_method_36_code 22 = .ok (.iload_n 1, 1) := by decide +kernel
theorem d_N_products_23 : decode prog_8_method_36_code 23 = .ok (.iconst 1, 1) := by decide +kernel
theorem d_N_products_24 : decode prog_8_method_36_code 24 = .ok (.iadd, 1) := by decide +kernel
theorem d_N_products_25 : decode prog_8_method_36_code 25 = .ok (.goto 4, 3) := by decide +kernel
theorem d_N_products_28 : decode prog_8_method_36_code 28 = .ok (.iload_n 1, 1) := by decide +kernel
theorem d_N_products_29 : decode prog_8_method_36_code 29 = .ok (.istore_n 1, 1) := by decide +kernel
theorem d_N_products_30 : decode prog_8_method_36_code 30 = .ok (.iinc 2 1, 3) := by decide +kernel
theorem d_N_products_33 : decode prog_8_method_36_code 33 = .ok (.goto (-29), 3) := by decide +kernel
theorem d_N_products_36 : decode prog_8_method_36_code 36 = .ok (.aload_n 0, 1) := by decide +kernel
theorem d_N_products_37 : decode prog_8_method_36_code 37 = .ok (.getfield 90, 3) := by decide +kernel
theorem d_N_products_40 : decode prog_8_method_36_code 40 = .ok (.ifCond .eq 7, 3) := by decide +kernel
theorem d_N_products_43 : decode prog_8_method_36_code 43 = .ok (.iload_n 1, 1) := by decide +kernel
theorem d_N_products_44 : decode prog_8_method_36_code 44 = .ok (.goto 4, 3) := by decide +kernel
theorem d_N_products_47 : decode prog_8_method_36_code 47 = .ok (.iconst (-1), 1) := by decide +kernel
theorem d_N_products_48 : decode prog_8_method_36_code 48 = .ok (.ireturn, 1) := by decide +kernel
theorem d_N_reset_0 : decode prog_8_method_37_code 0 = .ok (.aload_n 0, 1) := by decide +kernel
theorem d_N_reset_1 : decode prog_8_method_37_code 1 = .ok (.iconst 0, 1) := by decide +kernel
theorem d_N_reset_2 : decode prog_8_method_37_code 2 = .ok (.putfield 87, 3) := by decide +kernel
theorem d_N_reset_5 : decode prog_8_method_37_code 5 = .ok (.aload_n 0, 1) := by decide +kernel
theorem d_N_reset_6 : decode prog_8_method_37_code 6 = .ok (.iconst 0, 1) := by decide +kernel
theorem d_N_reset_7 : decode prog_8_method_37_code 7 = .ok (.putfield 90, 3) := by decide +kernel
theorem d_N_reset_10 : decode prog_8_method_37_code 10 = .ok (.aload_n 0, 1) := by decide +kernel
theorem d_N_reset_11 : decode prog_8_method_37_code 11 = .ok (.iconst 0, 1) := by decide +kernel
theorem d_N_reset_12 : decode prog_8_method_37_code 12 = .ok (.putfield 118, 3) := by decide +kernel
theorem d_N_reset_15 : decode prog_8_method_37_code 15 = .ok (.aload_n 0, 1) := by decide +kernel
theorem d_N_reset_16 : decode prog_8_method_37_code 16 = .ok (.iconst 0, 1) := by decide +kernel
theorem d_N_reset_17 : decode prog_8_method_37_code 17 = .ok (.putfield 121, 3) := by decide +kernel
theorem d_N_reset_20 : decode prog_8_method_37_code 20 = .ok (.aload_n 0, 1) := by decide +kernel
theorem d_N_reset_21 : decode prog_8_method_37_code 21 = .ok (.iconst 0, 1) := by decide +kernel
theorem d_N_reset_22 : decode prog_8_method_37_code 22 = .ok (.putfield 98, 3) := by decide +kernel
theorem d_N_reset_25 : decode prog_8_method_37_code 25 = .ok (.iconst 0, 1) := by decide +kernel
theorem d_N_reset_26 : decode prog_8_method_37_code 26 = .ok (.istore_n 1, 1) := by decide +kernel
theorem d_N_reset_27 : decode prog_8_method_37_code 27 = .ok (.iload_n 1, 1) := by decide +kernel
theorem d_N_reset_28 : decode prog_8_method_37_code 28 = .ok (.bipush 64, 2) := by decide +kernel
theorem d_N_reset_30 : decode prog_8_method_37_code 30 = .ok (.if_icmp .ge 16, 3) := by decide +kernel
theorem d_N_reset_33 : decode prog_8_method_37_code 33 = .ok (.aload_n 0, 1) := by decide +kernel
theorem d_N_reset_34 : decode prog_8_method_37_code 34 = .ok (.getfield 13, 3) := by decide +kernel
theorem d_N_reset_37 : decode prog_8_method_37_code 37 = .ok (.iload_n 1, 1) := by decide +kernel
theorem d_N_reset_38 : decode prog_8_method_37_code 38 = .ok (.iconst 0, 1) := by decide +kernel
theorem d_N_reset_39 : decode prog_8_method_37_code 39 = .ok (.iastore, 1) := by decide +kernel
theorem d_N_reset_40 : decode prog_8_method_37_code 40 = .ok (.iinc 1 1, 3) := by decide +kernel
theorem d_N_reset_43 : decode prog_8_method_37_code 43 = .ok (.goto (-16), 3) := by decide +kernel
theorem d_N_reset_46 : decode prog_8_method_37_code 46 = .ok (.return_, 1) := by decide +kernel
