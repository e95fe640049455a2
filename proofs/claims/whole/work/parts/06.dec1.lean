theorem d_JM_floorMod_0 : decode prog_10_method_50_code 0 = .ok (.iload_n 0, 1) := by decide +kernel
theorem d_JM_floorMod_1 : decode prog_10_method_50_code 1 = .ok (.iload_n 1, 1) := by decide +kernel
theorem d_JM_floorMod_2 : decode prog_10_method_50_code 2 = .ok (.irem, 1) := by decide +kernel
theorem d_JM_floorMod_3 : decode prog_10_method_50_code 3 = .ok (.istore_n 2, 1) := by decide +kernel
theorem d_JM_floorMod_4 : decode prog_10_method_50_code 4 = .ok (.iload_n 0, 1) := by decide +kernel
theorem d_JM_floorMod_5 : decode prog_10_method_50_code 5 = .ok (.iload_n 1, 1) := by decide +kernel
theorem d_JM_floorMod_6 : decode prog_10_method_50_code 6 = .ok (.ixor, 1) := by decide +kernel
theorem d_JM_floorMod_7 : decode prog_10_method_50_code 7 = .ok (.ifCond .ge 11, 3) := by decide +kernel
theorem d_JM_floorMod_10 : decode prog_10_method_50_code 10 = .ok (.iload_n 2, 1) := by decide +kernel
theorem d_JM_floorMod_11 : decode prog_10_method_50_code 11 = .ok (.ifCond .eq 7, 3) := by decide +kernel
theorem d_JM_floorMod_14 : decode prog_10_method_50_code 14 = .ok (.iload_n 2, 1) := by decide +kernel
theorem d_JM_floorMod_15 : decode prog_10_method_50_code 15 = .ok (.iload_n 1, 1) := by decide +kernel
theorem d_JM_floorMod_16 : decode prog_10_method_50_code 16 = .ok (.iadd, 1) := by decide +kernel
theorem d_JM_floorMod_17 : decode prog_10_method_50_code 17 = .ok (.ireturn, 1) := by decide +kernel
theorem d_JM_floorMod_18 : decode prog_10_method_50_code 18 = .ok (.iload_n 2, 1) := by decide +kernel
theorem d_JM_floorMod_19 : decode prog_10_method_50_code 19 = .ok (.ireturn, 1) := by decide +kernel
theorem d_JI_bitCount_0 : decode prog_9_method_49_code 0 = .ok (.iload_n 0, 1) := by decide +kernel
theorem d_JI_bitCount_1 : decode prog_9_method_49_code 1 = .ok (.iload_n 0, 1) := by decide +kernel
theorem d_JI_bitCount_2 : decode prog_9_method_49_code 2 = .ok (.iconst 1, 1) := by decide +kernel
theorem d_JI_bitCount_3 : decode prog_9_method_49_code 3 = .ok (.iushr, 1) := by decide +kernel
theorem d_JI_bitCount_4 : decode prog_9_method_49_code 4 = .ok (.ldc_w 265, 3) := by decide +kernel
theorem d_JI_bitCount_7 : decode prog_9_method_49_code 7 = .ok (.iand, 1) := by decide +kernel
theorem d_JI_bitCount_8 : decode prog_9_method_49_code 8 = .ok (.isub, 1) := by decide +kernel
theorem d_JI_bitCount_9 : decode prog_9_method_49_code 9 = .ok (.istore_n 0, 1) := by decide +kernel
theorem d_JI_bitCount_10 : decode prog_9_method_49_code 10 = .ok (.iload_n 0, 1) := by decide +kernel
theorem d_JI_bitCount_11 : decode prog_9_method_49_code 11 = .ok (.ldc_w 266, 3) := by decide +kernel
theorem d_JI_bitCount_14 : decode prog_9_method_49_code 14 = .ok (.iand, 1) := by decide +kernel
theorem d_JI_bitCount_15 : decode prog_9_method_49_code 15 = .ok (.iload_n 0, 1) := by decide +kernel
theorem d_JI_bitCount_16 : decode prog_9_method_49_code 16 = .ok (.iconst 2, 1) := by decide +kernel
theorem d_JI_bitCount_17 : decode prog_9_method_49_code 17 = .ok (.iushr, 1) := by decide +kernel
theorem d_JI_bitCount_18 : decode prog_9_method_49_code 18 = .ok (.ldc_w 266, 3) := by decide +kernel
theorem d_JI_bitCount_21 : decode prog_9_method_49_code 21 = .ok (.iand, 1) := by decide +kernel
theorem d_JI_bitCount_22 : decode prog_9_method_49_code 22 = .ok (.iadd, 1) := by decide +kernel
theorem d_JI_bitCount_23 : decode prog_9_method_49_code 23 = .ok (.istore_n 0, 1) := by decide +kernel
theorem d_JI_bitCount_24 : decode prog_9_method_49_code 24 = .ok (.iload_n 0, 1) := by decide +kernel
theorem d_JI_bitCount_25 : decode prog_9_method_49_code 25 = .ok (.iload_n 0, 1) := by decide +kernel
theorem d_JI_bitCount_26 : decode prog_9_method_49_code 26 = .ok (.iconst 4, 1) := by decide +kernel
theorem d_JI_bitCount_27 : decode prog_9_method_49_code 27 = .ok (.iushr, 1) := by decide +kernel
theorem d_JI_bitCount_28 : decode prog_9_method_49_code 28 = .ok (.iadd, 1) := by decide +kernel
theorem d_JI_bitCount_29 : decode prog_9_method_49_code 29 = .ok (.ldc_w 267, 3) := by decide +kernel
theorem d_JI_bitCount_32 : decode prog_9_method_49_code 32 = .ok (.iand, 1) := by decide +kernel
theorem d_JI_bitCount_33 : decode prog_9_method_49_code 33 = .ok (.istore_n 0, 1) := by decide +kernel
theorem d_JI_bitCount_34 : decode prog_9_method_49_code 34 = .ok (.iload_n 0, 1) := by decide +kernel
theorem d_JI_bitCount_35 : decode prog_9_method_49_code 35 = .ok (.iload_n 0, 1) := by decide +kernel
theorem d_JI_bitCount_36 : decode prog_9_method_49_code 36 = .ok (.bipush 8, 2) := by decide +kernel
theorem d_JI_bitCount_38 : decode prog_9_method_49_code 38 = .ok (.iushr, 1) := by decide +kernel
theorem d_JI_bitCount_39 : decode prog_9_method_49_code 39 = .ok (.iadd, 1) := by decide +kernel
theorem d_JI_bitCount_40 : decode prog_9_method_49_code 40 = .ok (.istore_n 0, 1) := by decide +kernel
theorem d_JI_bitCount_41 : decode prog_9_method_49_code 41 = .ok (.iload_n 0, 1) := by decide +kernel
theorem d_JI_bitCount_42 : decode prog_9_method_49_code 42 = .ok (.iload_n 0, 1) := by decide +kernel
theorem d_JI_bitCount_43 : decode prog_9_method_49_code 43 = .ok (.bipush 16, 2) := by decide +kernel
theorem d_JI_bitCount_45 : decode prog_9_method_49_code 45 = .ok (.iushr, 1) := by decide +kernel
theorem d_JI_bitCount_46 : decode prog_9_method_49_code 46 = .ok (.iadd, 1) := by decide +kernel
theorem d_JI_bitCount_47 : decode prog_9_method_49_code 47 = .ok (.istore_n 0, 1) := by decide +kernel
theorem d_JI_bitCount_48 : decode prog_9_method_49_code 48 = .ok (.iload_n 0, 1) := by decide +kernel
theorem d_JI_bitCount_49 : decode prog_9_method_49_code 49 = .ok (.bipush 63, 2) := by decide +kernel
theorem d_JI_bitCount_51 : decode prog_9_method_49_code 51 = .ok (.iand, 1) := by decide +kernel
theorem d_JI_bitCount_52 : decode prog_9_method_49_code 52 = .ok (.ireturn, 1) := by decide +kernel
theorem d_C_length_0 : decode prog_2_method_2_code 0 = .ok (.aload_n 0, 1) := by decide +kernel
theorem d_C_length_1 : decode prog_2_method_2_code 1 = .ok (.getfield 15, 3) := by decide +kernel
theorem d_C_length_4 : decode prog_2_method_2_code 4 = .ok (.ireturn, 1) := by decide +kernel
theorem d_C_clear_0 : decode prog_2_method_3_code 0 = .ok (.aload_n 0, 1) := by decide +kernel
theorem d_C_clear_1 : decode prog_2_method_3_code 1 = .ok (.iconst 0, 1) := by decide +kernel
theorem d_C_clear_2 : decode prog_2_method_3_code 2 = .ok (.putfield 15, 3) := by decide +kernel
theorem d_C_clear_5 : decode prog_2_method_3_code 5 = .ok (.return_, 1) := by decide +kernel
theorem d_C_packed_0 : decode prog_2_method_12_code 0 = .ok (.iload_n 0, 1) := by decide +kernel
theorem d_C_packed_1 : decode prog_2_method_12_code 1 = .ok (.bipush 100, 2) := by decide +kernel
theorem d_C_packed_3 : decode prog_2_method_12_code 3 = .ok (.imul, 1) := by decide +kernel
theorem d_C_packed_4 : decode prog_2_method_12_code 4 = .ok (.iload_n 1, 1) := by decide +kernel
theorem d_C_packed_5 : decode prog_2_method_12_code 5 = .ok (.iadd, 1) := by decide +kernel
theorem d_C_packed_6 : decode prog_2_method_12_code 6 = .ok (.bipush 100, 2) := by decide +kernel
theorem d_C_packed_8 : decode prog_2_method_12_code 8 = .ok (.imul, 1) := by decide +kernel
theorem d_C_packed_9 : decode prog_2_method_12_code 9 = .ok (.iload_n 2, 1) := by decide +kernel
theorem d_C_packed_10 : decode prog_2_method_12_code 10 = .ok (.iadd, 1) := by decide +kernel
theorem d_C_packed_11 : decode prog_2_method_12_code 11 = .ok (.ireturn, 1) := by decide +kernel
theorem d_C_append_0 : decode prog_2_method_10_code 0 = .ok (.aload_n 0, 1) := by decide +kernel
theorem d_C_append_1 : decode prog_2_method_10_code 1 = .ok (.getfield 9, 3) := by decide +kernel
theorem d_C_append_4 : decode prog_2_method_10_code 4 = .ok (.aload_n 0, 1) := by decide +kernel
theorem d_C_append_5 : decode prog_2_method_10_code 5 = .ok (.getfield 15, 3) := by decide +kernel
theorem d_C_append_8 : decode prog_2_method_10_code 8 = .ok (.iload_n 1, 1) := by decide +kernel
theorem d_C_append_9 : decode prog_2_method_10_code 9 = .ok (.iload_n 2, 1) := by decide +kernel
theorem d_C_append_10 : decode prog_2_method_10_code 10 = .ok (.iload_n 3, 1) := by decide +kernel
theorem d_C_append_11 : decode prog_2_method_10_code 11 = .ok (.invokestatic 23, 3) := by decide +kernel
theorem d_C_append_14 : decode prog_2_method_10_code 14 = .ok (.iastore, 1) := by decide +kernel
theorem d_C_append_15 : decode prog_2_method_10_code 15 = .ok (.aload_n 0, 1) := by decide +kernel
theorem d_C_append_16 : decode prog_2_method_10_code 16 = .ok (.dup, 1) := by decide +kernel
theorem d_C_append_17 : decode prog_2_method_10_code 17 = .ok (.getfield 15, 3) := by decide +kernel
theorem d_C_append_20 : decode prog_2_method_10_code 20 = .ok (.iconst 1, 1) := by decide +kernel
theorem d_C_append_21 : decode prog_2_method_10_code 21 = .ok (.iadd, 1) := by decide +kernel
theorem d_C_append_22 : decode prog_2_method_10_code 22 = .ok (.putfield 15, 3) := by decide +kernel
theorem d_C_append_25 : decode prog_2_method_10_code 25 = .ok (.aload_n 0, 1) := by decide +kernel
theorem d_C_append_26 : decode prog_2_method_10_code 26 = .ok (.getfield 15, 3) := by decide +kernel
theorem d_C_append_29 : decode prog_2_method_10_code 29 = .ok (.iconst 1, 1) := by decide +kernel
theorem d_C_append_30 : decode prog_2_method_10_code 30 = .ok (.isub, 1) := by decide +kernel
theorem d_C_append_31 : decode prog_2_method_10_code 31 = .ok (.ireturn, 1) := by decide +kernel
theorem d_C_operation_0 : decode prog_2_method_5_code 0 = .ok (.aload_n 0, 1) := by decide +kernel
theorem d_C_operation_1 : decode prog_2_method_5_code 1 = .ok (.getfield 9, 3) := by decide +kernel
theorem d_C_operation_4 : decode prog_2_method_5_code 4 = .ok (.iload_n 1, 1) := by decide +kernel
theorem d_C_operation_5 : decode prog_2_method_5_code 5 = .ok (.iaload, 1) := by decide +kernel
theorem d_C_operation_6 : decode prog_2_method_5_code 6 = .ok (.sipush 10000, 3) := by decide +kernel
theorem d_C_operation_9 : decode prog_2_method_5_code 9 = .ok (.idiv, 1) := by decide +kernel
theorem d_C_operation_10 : decode prog_2_method_5_code 10 = .ok (.ireturn, 1) := by decide +kernel
theorem d_C_first_0 : decode prog_2_method_6_code 0 = .ok (.aload_n 0, 1) := by decide +kernel
theorem d_C_first_1 : decode prog_2_method_6_code 1 = .ok (.getfield 9, 3) := by decide +kernel
theorem d_C_first_4 : decode prog_2_method_6_code 4 = .ok (.iload_n 1, 1) := by decide +kernel
theorem d_C_first_5 : decode prog_2_method_6_code 5 = .ok (.iaload, 1) := by decide +kernel
theorem d_C_first_6 : decode prog_2_method_6_code 6 = .ok (.bipush 100, 2) := by decide +kernel
theorem d_C_first_8 : decode prog_2_method_6_code 8 = .ok (.idiv, 1) := by decide +kernel
theorem d_C_first_9 : decode prog_2_method_6_code 9 = .ok (.bipush 100, 2) := by decide +kernel
theorem d_C_first_11 : decode prog_2_method_6_code 11 = .ok (.irem, 1) := by decide +kernel
theorem d_C_first_12 : decode prog_2_method_6_code 12 = .ok (.ireturn, 1) := by decide +kernel
theorem d_C_second_0 : decode prog_2_method_7_code 0 = .ok (.aload_n 0, 1) := by decide +kernel
theorem d_C_second_1 : decode prog_2_method_7_code 1 = .ok (.getfield 9, 3) := by decide +kernel
theorem d_C_second_4 : decode prog_2_method_7_code 4 = .ok (.iload_n 1, 1) := by decide +kernel
theorem d_C_second_5 : decode prog_2_method_7_code 5 = .ok (.iaload, 1) := by decide +kernel
theorem d_C_second_6 : decode prog_2_method_7_code 6 = .ok (.bipush 100, 2) := by decide +kernel
theorem d_C_second_8 : decode prog_2_method_7_code 8 = .ok (.irem, 1) := by decide +kernel
theorem d_C_second_9 : decode prog_2_method_7_code 9 = .ok (.ireturn, 1) := by decide +kernel
theorem d_C_findOrAppend_0 : decode prog_2_method_11_code 0 = .ok (.iload_n 1, 1) := by decide +kernel
theorem d_C_findOrAppend_1 : decode prog_2_method_11_code 1 = .ok (.iload_n 2, 1) := by decide +kernel
theorem d_C_findOrAppend_2 : decode prog_2_method_11_code 2 = .ok (.iload_n 3, 1) := by decide +kernel
theorem d_C_findOrAppend_3 : decode prog_2_method_11_code 3 = .ok (.invokestatic 23, 3) := by decide +kernel
theorem d_C_findOrAppend_6 : decode prog_2_method_11_code 6 = .ok (.istore 4, 2) := by decide +kernel
theorem d_C_findOrAppend_8 : decode prog_2_method_11_code 8 = .ok (.iconst 0, 1) := by decide +kernel
theorem d_C_findOrAppend_9 : decode prog_2_method_11_code 9 = .ok (.istore 5, 2) := by decide +kernel
theorem d_C_findOrAppend_11 : decode prog_2_method_11_code 11 = .ok (.iload 5, 2) := by decide +kernel
theorem d_C_findOrAppend_13 : decode prog_2_method_11_code 13 = .ok (.aload_n 0, 1) := by decide +kernel
theorem d_C_findOrAppend_14 : decode prog_2_method_11_code 14 = .ok (.getfield 15, 3) := by decide +kernel
theorem d_C_findOrAppend_17 : decode prog_2_method_11_code 17 = .ok (.if_icmp .ge 24, 3) := by decide +kernel
theorem d_C_findOrAppend_20 : decode prog_2_method_11_code 20 = .ok (.aload_n 0, 1) := by decide +kernel
theorem d_C_findOrAppend_21 : decode prog_2_method_11_code 21 = .ok (.getfield 9, 3) := by decide +kernel
theorem d_C_findOrAppend_24 : decode prog_2_method_11_code 24 = .ok (.iload 5, 2) := by decide +kernel
theorem d_C_findOrAppend_26 : decode prog_2_method_11_code 26 = .ok (.iaload, 1) := by decide +kernel
theorem d_C_findOrAppend_27 : decode prog_2_method_11_code 27 = .ok (.iload 4, 2) := by decide +kernel
theorem d_C_findOrAppend_29 : decode prog_2_method_11_code 29 = .ok (.if_icmp .ne 6, 3) := by decide +kernel
theorem d_C_findOrAppend_32 : decode prog_2_method_11_code 32 = .ok (.iload 5, 2) := by decide +kernel
theorem d_C_findOrAppend_34 : decode prog_2_method_11_code 34 = .ok (.ireturn, 1) := by decide +kernel
theorem d_C_findOrAppend_35 : decode prog_2_method_11_code 35 = .ok (.iinc 5 1, 3) := by decide +kernel
theorem d_C_findOrAppend_38 : decode prog_2_method_11_code 38 = .ok (.goto (-27), 3) := by decide +kernel
theorem d_C_findOrAppend_41 : decode prog_2_method_11_code 41 = .ok (.aload_n 0, 1) := by decide +kernel
theorem d_C_findOrAppend_42 : decode prog_2_method_11_code 42 = .ok (.iload_n 1, 1) := by decide +kernel
theorem d_C_findOrAppend_43 : decode prog_2_method_11_code 43 = .ok (.iload_n 2, 1) := by decide +kernel
theorem d_C_findOrAppend_44 : decode prog_2_method_11_code 44 = .ok (.iload_n 3, 1) := by decide +kernel
theorem d_C_findOrAppend_45 : decode prog_2_method_11_code 45 = .ok (.invokevirtual 27, 3) := by decide +kernel
theorem d_C_findOrAppend_48 : decode prog_2_method_11_code 48 = .ok (.ireturn, 1) := by decide +kernel
theorem d_C_result_0 : decode prog_2_method_8_code 0 = .ok (.aload_n 0, 1) := by decide +kernel
theorem d_C_result_1 : decode prog_2_method_8_code 1 = .ok (.getfield 15, 3) := by decide +kernel
theorem d_C_result_4 : decode prog_2_method_8_code 4 = .ok (.iconst 1, 1) := by decide +kernel
theorem d_C_result_5 : decode prog_2_method_8_code 5 = .ok (.isub, 1) := by decide +kernel
theorem d_C_result_6 : decode prog_2_method_8_code 6 = .ok (.ireturn, 1) := by decide +kernel
theorem d_C_instruction_0 : decode prog_2_method_4_code 0 = .ok (.aload_n 0, 1) := by decide +kernel
theorem d_C_instruction_1 : decode prog_2_method_4_code 1 = .ok (.getfield 9, 3) := by decide +kernel
theorem d_C_instruction_4 : decode prog_2_method_4_code 4 = .ok (.iload_n 1, 1) := by decide +kernel
theorem d_C_instruction_5 : decode prog_2_method_4_code 5 = .ok (.iaload, 1) := by decide +kernel
theorem d_C_instruction_6 : decode prog_2_method_4_code 6 = .ok (.ireturn, 1) := by decide +kernel
theorem d_C_count_0 : decode prog_2_method_9_code 0 = .ok (.iconst 0, 1) := by decide +kernel
theorem d_C_count_1 : decode prog_2_method_9_code 1 = .ok (.istore_n 2, 1) := by decide +kernel
theorem d_C_count_2 : decode prog_2_method_9_code 2 = .ok (.iconst 0, 1) := by decide +kernel
theorem d_C_count_3 : decode prog_2_method_9_code 3 = .ok (.istore_n 3, 1) := by decide +kernel
theorem d_C_count_4 : decode prog_2_method_9_code 4 = .ok (.iload_n 3, 1) := by decide +kernel
theorem d_C_count_5 : decode prog_2_method_9_code 5 = .ok (.aload_n 0, 1) := by decide +kernel
theorem d_C_count_6 : decode prog_2_method_9_code 6 = .ok (.getfield 15, 3) := by decide +kernel
theorem d_C_count_9 : decode prog_2_method_9_code 9 = .ok (.if_icmp .ge 21, 3) := by decide +kernel
theorem d_C_count_12 : decode prog_2_method_9_code 12 = .ok (.aload_n 0, 1) := by decide +kernel
theorem d_C_count_13 : decode prog_2_method_9_code 13 = .ok (.iload_n 3, 1) := by decide +kernel
theorem d_C_count_14 : decode prog_2_method_9_code 14 = .ok (.invokevirtual 19, 3) := by decide +kernel
theorem d_C_count_17 : decode prog_2_method_9_code 17 = .ok (.iload_n 1, 1) := by decide +kernel
theorem d_C_count_18 : decode prog_2_method_9_code 18 = .ok (.if_icmp .ne 6, 3) := by decide +kernel
theorem d_C_count_21 : decode prog_2_method_9_code 21 = .ok (.iinc 2 1, 3) := by decide +kernel
theorem d_C_count_24 : decode prog_2_method_9_code 24 = .ok (.iinc 3 1, 3) := by decide +kernel
theorem d_C_count_27 : decode prog_2_method_9_code 27 = .ok (.goto (-23), 3) := by decide +kernel
theorem d_C_count_30 : decode prog_2_method_9_code 30 = .ok (.iload_n 2, 1) := by decide +kernel
theorem d_C_count_31 : decode prog_2_method_9_code 31 = .ok (.ireturn, 1) := by decide +kernel
theorem d_R_isFull_0 : decode prog_6_method_3_code 0 = .ok (.aload_n 0, 1) := by decide +kernel
theorem d_R_isFull_1 : decode prog_6_method_3_code 1 = .ok (.getfield 15, 3) := by decide +kernel
theorem d_R_isFull_4 : decode prog_6_method_3_code 4 = .ok (.bipush 24, 2) := by decide +kernel
theorem d_R_isFull_6 : decode prog_6_method_3_code 6 = .ok (.if_icmp .lt 7, 3) := by decide +kernel
theorem d_R_isFull_9 : decode prog_6_method_3_code 9 = .ok (.iconst 1, 1) := by decide +kernel
theorem d_R_isFull_10 : decode prog_6_method_3_code 10 = .ok (.goto 4, 3) := by decide +kernel
theorem d_R_isFull_13 : decode prog_6_method_3_code 13 = .ok (.iconst 0, 1) := by decide +kernel
theorem d_R_isFull_14 : decode prog_6_method_3_code 14 = .ok (.ireturn, 1) := by decide +kernel
theorem d_R_append_0 : decode prog_6_method_4_code 0 = .ok (.aload_n 0, 1) := by decide +kernel
theorem d_R_append_1 : decode prog_6_method_4_code 1 = .ok (.getfield 9, 3) := by decide +kernel
theorem d_R_append_4 : decode prog_6_method_4_code 4 = .ok (.aload_n 0, 1) := by decide +kernel
theorem d_R_append_5 : decode prog_6_method_4_code 5 = .ok (.getfield 15, 3) := by decide +kernel
theorem d_R_append_8 : decode prog_6_method_4_code 8 = .ok (.iload_n 1, 1) := by decide +kernel
theorem d_R_append_9 : decode prog_6_method_4_code 9 = .ok (.iastore, 1) := by decide +kernel
theorem d_R_append_10 : decode prog_6_method_4_code 10 = .ok (.aload_n 0, 1) := by decide +kernel
theorem d_R_append_11 : decode prog_6_method_4_code 11 = .ok (.dup, 1) := by decide +kernel
theorem d_R_append_12 : decode prog_6_method_4_code 12 = .ok (.getfield 15, 3) := by decide +kernel
theorem d_R_append_15 : decode prog_6_method_4_code 15 = .ok (.iconst 1, 1) := by decide +kernel
theorem d_R_append_16 : decode prog_6_method_4_code 16 = .ok (.iadd, 1) := by decide +kernel
theorem d_R_append_17 : decode prog_6_method_4_code 17 = .ok (.putfield 15, 3) := by decide +kernel
theorem d_R_append_20 : decode prog_6_method_4_code 20 = .ok (.return_, 1) := by decide +kernel
theorem d_R_isWord_0 : decode prog_6_method_11_code 0 = .ok (.iload_n 0, 1) := by decide +kernel
theorem d_R_isWord_1 : decode prog_6_method_11_code 1 = .ok (.ifCond .ge 5, 3) := by decide +kernel
theorem d_R_isWord_4 : decode prog_6_method_11_code 4 = .ok (.iconst 0, 1) := by decide +kernel
theorem d_R_isWord_5 : decode prog_6_method_11_code 5 = .ok (.ireturn, 1) := by decide +kernel
theorem d_R_isWord_6 : decode prog_6_method_11_code 6 = .ok (.iload_n 0, 1) := by decide +kernel
theorem d_R_isWord_7 : decode prog_6_method_11_code 7 = .ok (.bipush 100, 2) := by decide +kernel
theorem d_R_isWord_9 : decode prog_6_method_11_code 9 = .ok (.irem, 1) := by decide +kernel
theorem d_R_isWord_10 : decode prog_6_method_11_code 10 = .ok (.istore_n 1, 1) := by decide +kernel
theorem d_R_isWord_11 : decode prog_6_method_11_code 11 = .ok (.iload_n 0, 1) := by decide +kernel
theorem d_R_isWord_12 : decode prog_6_method_11_code 12 = .ok (.bipush 100, 2) := by decide +kernel
theorem d_R_isWord_14 : decode prog_6_method_11_code 14 = .ok (.idiv, 1) := by decide +kernel
theorem d_R_isWord_15 : decode prog_6_method_11_code 15 = .ok (.tableswitch 72 0 8 #[49, 60, 60, 60, 60, 60, 60, 70, 70], 49) := by decide +kernel
theorem d_R_isWord_64 : decode prog_6_method_11_code 64 = .ok (.iload_n 1, 1) := by decide +kernel
theorem d_R_isWord_65 : decode prog_6_method_11_code 65 = .ok (.iconst 4, 1) := by decide +kernel
theorem d_R_isWord_66 : decode prog_6_method_11_code 66 = .ok (.if_icmp .ge 7, 3) := by decide +kernel
theorem d_R_isWord_69 : decode prog_6_method_11_code 69 = .ok (.iconst 1, 1) := by decide +kernel
theorem d_R_isWord_70 : decode prog_6_method_11_code 70 = .ok (.goto 4, 3) := by decide +kernel
theorem d_R_isWord_73 : decode prog_6_method_11_code 73 = .ok (.iconst 0, 1) := by decide +kernel
theorem d_R_isWord_74 : decode prog_6_method_11_code 74 = .ok (.ireturn, 1) := by decide +kernel
theorem d_R_isWord_75 : decode prog_6_method_11_code 75 = .ok (.iload_n 1, 1) := by decide +kernel
theorem d_R_isWord_76 : decode prog_6_method_11_code 76 = .ok (.ifCond .ne 7, 3) := by decide +kernel
theorem d_R_isWord_79 : decode prog_6_method_11_code 79 = .ok (.iconst 1, 1) := by decide +kernel
theorem d_R_isWord_80 : decode prog_6_method_11_code 80 = .ok (.goto 4, 3) := by decide +kernel
theorem d_R_isWord_83 : decode prog_6_method_11_code 83 = .ok (.iconst 0, 1) := by decide +kernel
theorem d_R_isWord_84 : decode prog_6_method_11_code 84 = .ok (.ireturn, 1) := by decide +kernel
theorem d_R_isWord_85 : decode prog_6_method_11_code 85 = .ok (.iconst 1, 1) := by decide +kernel
theorem d_R_isWord_86 : decode prog_6_method_11_code 86 = .ok (.ireturn, 1) := by decide +kernel
theorem d_R_isWord_87 : decode prog_6_method_11_code 87 = .ok (.iconst 0, 1) := by decide +kernel
theorem d_R_isWord_88 : decode prog_6_method_11_code 88 = .ok (.ireturn, 1) := by decide +kernel
theorem d_R_operation_0 : decode prog_6_method_6_code 0 = .ok (.aload_n 0, 1) := by decide +kernel
theorem d_R_operation_1 : decode prog_6_method_6_code 1 = .ok (.getfield 9, 3) := by decide +kernel
theorem d_R_operation_4 : decode prog_6_method_6_code 4 = .ok (.iload_n 1, 1) := by decide +kernel
theorem d_R_operation_5 : decode prog_6_method_6_code 5 = .ok (.iaload, 1) := by decide +kernel
theorem d_R_operation_6 : decode prog_6_method_6_code 6 = .ok (.bipush 100, 2) := by decide +kernel
theorem d_R_operation_8 : decode prog_6_method_6_code 8 = .ok (.idiv, 1) := by decide +kernel
theorem d_R_operation_9 : decode prog_6_method_6_code 9 = .ok (.ireturn, 1) := by decide +kernel
theorem d_R_fault_0 : decode prog_6_method_8_code 0 = .ok (.iconst 0, 1) := by decide +kernel
theorem d_R_fault_1 : decode prog_6_method_8_code 1 = .ok (.istore_n 1, 1) := by decide +kernel
theorem d_R_fault_2 : decode prog_6_method_8_code 2 = .ok (.iconst 0, 1) := by decide +kernel
theorem d_R_fault_3 : decode prog_6_method_8_code 3 = .ok (.istore_n 2, 1) := by decide +kernel
theorem d_R_fault_4 : decode prog_6_method_8_code 4 = .ok (.iload_n 2, 1) := by decide +kernel
theorem d_R_fault_5 : decode prog_6_method_8_code 5 = .ok (.aload_n 0, 1) := by decide +kernel
theorem d_R_fault_6 : decode prog_6_method_8_code 6 = .ok (.getfield 15, 3) := by decide +kernel
theorem d_R_fault_9 : decode prog_6_method_8_code 9 = .ok (.if_icmp .ge 45, 3) := by decide +kernel
theorem d_R_fault_12 : decode prog_6_method_8_code 12 = .ok (.aload_n 0, 1) := by decide +kernel
theorem d_R_fault_13 : decode prog_6_method_8_code 13 = .ok (.getfield 9, 3) := by decide +kernel
theorem d_R_fault_16 : decode prog_6_method_8_code 16 = .ok (.iload_n 2, 1) := by decide +kernel
theorem d_R_fault_17 : decode prog_6_method_8_code 17 = .ok (.iaload, 1) := by decide +kernel
theorem d_R_fault_18 : decode prog_6_method_8_code 18 = .ok (.invokestatic 19, 3) := by decide +kernel
theorem d_R_fault_21 : decode prog_6_method_8_code 21 = .ok (.ifCond .ne 5, 3) := by decide +kernel
theorem d_R_fault_24 : decode prog_6_method_8_code 24 = .ok (.iconst 3, 1) := by decide +kernel
theorem d_R_fault_25 : decode prog_6_method_8_code 25 = .ok (.ireturn, 1) := by decide +kernel
theorem d_R_fault_26 : decode prog_6_method_8_code 26 = .ok (.aload_n 0, 1) := by decide +kernel
theorem d_R_fault_27 : decode prog_6_method_8_code 27 = .ok (.iload_n 2, 1) := by decide +kernel
theorem d_R_fault_28 : decode prog_6_method_8_code 28 = .ok (.invokevirtual 23, 3) := by decide +kernel
theorem d_R_fault_31 : decode prog_6_method_8_code 31 = .ok (.invokestatic 27, 3) := by decide +kernel
theorem d_R_fault_34 : decode prog_6_method_8_code 34 = .ok (.istore_n 3, 1) := by decide +kernel
theorem d_R_fault_35 : decode prog_6_method_8_code 35 = .ok (.iload_n 1, 1) := by decide +kernel
theorem d_R_fault_36 : decode prog_6_method_8_code 36 = .ok (.iload_n 3, 1) := by decide +kernel
theorem d_R_fault_37 : decode prog_6_method_8_code 37 = .ok (.if_icmp .ge 5, 3) := by decide +kernel
theorem d_R_fault_40 : decode prog_6_method_8_code 40 = .ok (.iconst 4, 1) := by decide +kernel
theorem d_R_fault_41 : decode prog_6_method_8_code 41 = .ok (.ireturn, 1) := by decide +kernel
theorem d_R_fault_42 : decode prog_6_method_8_code 42 = .ok (.iload_n 1, 1) := by decide +kernel
theorem d_R_fault_43 : decode prog_6_method_8_code 43 = .ok (.iconst 1, 1) := by decide +kernel
theorem d_R_fault_44 : decode prog_6_method_8_code 44 = .ok (.iload_n 3, 1) := by decide +kernel
theorem d_R_fault_45 : decode prog_6_method_8_code 45 = .ok (.isub, 1) := by decide +kernel
theorem d_R_fault_46 : decode prog_6_method_8_code 46 = .ok (.iadd, 1) := by decide +kernel
theorem d_R_fault_47 : decode prog_6_method_8_code 47 = .ok (.istore_n 1, 1) := by decide +kernel
theorem d_R_fault_48 : decode prog_6_method_8_code 48 = .ok (.iinc 2 1, 3) := by decide +kernel
theorem d_R_fault_51 : decode prog_6_method_8_code 51 = .ok (.goto (-47), 3) := by decide +kernel
theorem d_R_fault_54 : decode prog_6_method_8_code 54 = .ok (.iload_n 1, 1) := by decide +kernel
theorem d_R_fault_55 : decode prog_6_method_8_code 55 = .ok (.iconst 1, 1) := by decide +kernel
theorem d_R_fault_56 : decode prog_6_method_8_code 56 = .ok (.if_icmp .ne 7, 3) := by decide +kernel
theorem d_R_fault_59 : decode prog_6_method_8_code 59 = .ok (.iconst 0, 1) := by decide +kernel
theorem d_R_fault_60 : decode prog_6_method_8_code 60 = .ok (.goto 4, 3) := by decide +kernel
theorem d_R_fault_63 : decode prog_6_method_8_code 63 = .ok (.iconst 5, 1) := by decide +kernel
theorem d_R_fault_64 : decode prog_6_method_8_code 64 = .ok (.ireturn, 1) := by decide +kernel
theorem d_R_number_0 : decode prog_6_method_7_code 0 = .ok (.aload_n 0, 1) := by decide +kernel
theorem d_R_number_1 : decode prog_6_method_7_code 1 = .ok (.getfield 9, 3) := by decide +kernel
theorem d_R_number_4 : decode prog_6_method_7_code 4 = .ok (.iload_n 1, 1) := by decide +kernel
theorem d_R_number_5 : decode prog_6_method_7_code 5 = .ok (.iaload, 1) := by decide +kernel
theorem d_R_number_6 : decode prog_6_method_7_code 6 = .ok (.bipush 100, 2) := by decide +kernel
theorem d_R_number_8 : decode prog_6_method_7_code 8 = .ok (.irem, 1) := by decide +kernel
theorem d_R_number_9 : decode prog_6_method_7_code 9 = .ok (.ireturn, 1) := by decide +kernel
theorem d_R_powerInstructions_0 : decode prog_6_method_10_code 0 = .ok (.iload_n 0, 1) := by decide +kernel
theorem d_R_powerInstructions_1 : decode prog_6_method_10_code 1 = .ok (.ifCond .ne 5, 3) := by decide +kernel
theorem d_R_powerInstructions_4 : decode prog_6_method_10_code 4 = .ok (.iconst 1, 1) := by decide +kernel
theorem d_R_powerInstructions_5 : decode prog_6_method_10_code 5 = .ok (.ireturn, 1) := by decide +kernel
theorem d_R_powerInstructions_6 : decode prog_6_method_10_code 6 = .ok (.iload_n 0, 1) := by decide +kernel
theorem d_R_powerInstructions_7 : decode prog_6_method_10_code 7 = .ok (.invokestatic 36, 3) := by decide +kernel
theorem d_R_powerInstructions_10 : decode prog_6_method_10_code 10 = .ok (.iload_n 0, 1) := by decide +kernel
theorem d_R_powerInstructions_11 : decode prog_6_method_10_code 11 = .ok (.invokestatic 39, 3) := by decide +kernel
theorem d_R_powerInstructions_14 : decode prog_6_method_10_code 14 = .ok (.iadd, 1) := by decide +kernel
theorem d_R_powerInstructions_15 : decode prog_6_method_10_code 15 = .ok (.iconst 1, 1) := by decide +kernel
theorem d_R_powerInstructions_16 : decode prog_6_method_10_code 16 = .ok (.isub, 1) := by decide +kernel
theorem d_R_powerInstructions_17 : decode prog_6_method_10_code 17 = .ok (.ireturn, 1) := by decide +kernel
theorem d_R_instructionsNeeded_0 : decode prog_6_method_9_code 0 = .ok (.iconst 0, 1) := by decide +kernel
theorem d_R_instructionsNeeded_1 : decode prog_6_method_9_code 1 = .ok (.istore_n 1, 1) := by decide +kernel
theorem d_R_instructionsNeeded_2 : decode prog_6_method_9_code 2 = .ok (.iconst 0, 1) := by decide +kernel
theorem d_R_instructionsNeeded_3 : decode prog_6_method_9_code 3 = .ok (.istore_n 2, 1) := by decide +kernel
theorem d_R_instructionsNeeded_4 : decode prog_6_method_9_code 4 = .ok (.iload_n 2, 1) := by decide +kernel
theorem d_R_instructionsNeeded_5 : decode prog_6_method_9_code 5 = .ok (.aload_n 0, 1) := by decide +kernel
theorem d_R_instructionsNeeded_6 : decode prog_6_method_9_code 6 = .ok (.getfield 15, 3) := by decide +kernel
theorem d_R_instructionsNeeded_9 : decode prog_6_method_9_code 9 = .ok (.if_icmp .ge 34, 3) := by decide +kernel
theorem d_R_instructionsNeeded_12 : decode prog_6_method_9_code 12 = .ok (.iload_n 1, 1) := by decide +kernel
theorem d_R_instructionsNeeded_13 : decode prog_6_method_9_code 13 = .ok (.aload_n 0, 1) := by decide +kernel
theorem d_R_instructionsNeeded_14 : decode prog_6_method_9_code 14 = .ok (.iload_n 2, 1) := by decide +kernel
theorem d_R_instructionsNeeded_15 : decode prog_6_method_9_code 15 = .ok (.invokevirtual 23, 3) := by decide +kernel
theorem d_R_instructionsNeeded_18 : decode prog_6_method_9_code 18 = .ok (.bipush 8, 2) := by decide +kernel
theorem d_R_instructionsNeeded_20 : decode prog_6_method_9_code 20 = .ok (.if_icmp .ne 14, 3) := by decide +kernel
theorem d_R_instructionsNeeded_23 : decode prog_6_method_9_code 23 = .ok (.aload_n 0, 1) := by decide +kernel
theorem d_R_instructionsNeeded_24 : decode prog_6_method_9_code 24 = .ok (.iload_n 2, 1) := by decide +kernel
theorem d_R_instructionsNeeded_25 : decode prog_6_method_9_code 25 = .ok (.invokevirtual 30, 3) := by decide +kernel
theorem d_R_instructionsNeeded_28 : decode prog_6_method_9_code 28 = .ok (.invokestatic 33, 3) := by decide +kernel
theorem d_R_instructionsNeeded_31 : decode prog_6_method_9_code 31 = .ok (.goto 4, 3) := by decide +kernel
theorem d_R_instructionsNeeded_34 : decode prog_6_method_9_code 34 = .ok (.iconst 1, 1) := by decide +kernel
theorem d_R_instructionsNeeded_35 : decode prog_6_method_9_code 35 = .ok (.iadd, 1) := by decide +kernel
theorem d_R_instructionsNeeded_36 : decode prog_6_method_9_code 36 = .ok (.istore_n 1, 1) := by decide +kernel
theorem d_R_instructionsNeeded_37 : decode prog_6_method_9_code 37 = .ok (.iinc 2 1, 3) := by decide +kernel
theorem d_R_instructionsNeeded_40 : decode prog_6_method_9_code 40 = .ok (.goto (-36), 3) := by decide +kernel
theorem d_R_instructionsNeeded_43 : decode prog_6_method_9_code 43 = .ok (.iload_n 1, 1) := by decide +kernel
theorem d_R_instructionsNeeded_44 : decode prog_6_method_9_code 44 = .ok (.ireturn, 1) := by decide +kernel
theorem d_R_length_0 : decode prog_6_method_2_code 0 = .ok (.aload_n 0, 1) := by decide +kernel
theorem d_R_length_1 : decode prog_6_method_2_code 1 = .ok (.getfield 15, 3) := by decide +kernel
theorem d_R_length_4 : decode prog_6_method_2_code 4 = .ok (.ireturn, 1) := by decide +kernel
theorem d_R_clear_0 : decode prog_6_method_5_code 0 = .ok (.aload_n 0, 1) := by decide +kernel
theorem d_R_clear_1 : decode prog_6_method_5_code 1 = .ok (.iconst 0, 1) := by decide +kernel
theorem d_R_clear_2 : decode prog_6_method_5_code 2 = .ok (.putfield 15, 3) := by decide +kernel
theorem d_R_clear_5 : decode prog_6_method_5_code 5 = .ok (.return_, 1) := by decide +kernel
theorem d_M_hasCell_0 : decode prog_4_method_2_code 0 = .ok (.iload_n 1, 1) := by decide +kernel
theorem d_M_hasCell_1 : decode prog_4_method_2_code 1 = .ok (.ifCond .lt 27, 3) := by decide +kernel
theorem d_M_hasCell_4 : decode prog_4_method_2_code 4 = .ok (.iload_n 1, 1) := by decide +kernel
theorem d_M_hasCell_5 : decode prog_4_method_2_code 5 = .ok (.aload_n 0, 1) := by decide +kernel
theorem d_M_hasCell_6 : decode prog_4_method_2_code 6 = .ok (.getfield 15, 3) := by decide +kernel
theorem d_M_hasCell_9 : decode prog_4_method_2_code 9 = .ok (.if_icmp .ge 19, 3) := by decide +kernel
theorem d_M_hasCell_12 : decode prog_4_method_2_code 12 = .ok (.iload_n 2, 1) := by decide +kernel
theorem d_M_hasCell_13 : decode prog_4_method_2_code 13 = .ok (.ifCond .lt 15, 3) := by decide +kernel
theorem d_M_hasCell_16 : decode prog_4_method_2_code 16 = .ok (.iload_n 2, 1) := by decide +kernel
theorem d_M_hasCell_17 : decode prog_4_method_2_code 17 = .ok (.aload_n 0, 1) := by decide +kernel
theorem d_M_hasCell_18 : decode prog_4_method_2_code 18 = .ok (.getfield 15, 3) := by decide +kernel
theorem d_M_hasCell_21 : decode prog_4_method_2_code 21 = .ok (.if_icmp .ge 7, 3) := by decide +kernel
theorem d_M_hasCell_24 : decode prog_4_method_2_code 24 = .ok (.iconst 1, 1) := by decide +kernel
theorem d_M_hasCell_25 : decode prog_4_method_2_code 25 = .ok (.goto 4, 3) := by decide +kernel
theorem d_M_hasCell_28 : decode prog_4_method_2_code 28 = .ok (.iconst 0, 1) := by decide +kernel
theorem d_M_hasCell_29 : decode prog_4_method_2_code 29 = .ok (.ireturn, 1) := by decide +kernel
theorem d_M_put_0 : decode prog_4_method_4_code 0 = .ok (.aload_n 0, 1) := by decide +kernel
theorem d_M_put_1 : decode prog_4_method_4_code 1 = .ok (.getfield 21, 3) := by decide +kernel
theorem d_M_put_4 : decode prog_4_method_4_code 4 = .ok (.iload_n 1, 1) := by decide +kernel
theorem d_M_put_5 : decode prog_4_method_4_code 5 = .ok (.aload_n 0, 1) := by decide +kernel
theorem d_M_put_6 : decode prog_4_method_4_code 6 = .ok (.getfield 18, 3) := by decide +kernel
theorem d_M_put_9 : decode prog_4_method_4_code 9 = .ok (.imul, 1) := by decide +kernel
theorem d_M_put_10 : decode prog_4_method_4_code 10 = .ok (.iload_n 2, 1) := by decide +kernel
theorem d_M_put_11 : decode prog_4_method_4_code 11 = .ok (.aload_n 0, 1) := by decide +kernel
theorem d_M_put_12 : decode prog_4_method_4_code 12 = .ok (.getfield 15, 3) := by decide +kernel
theorem d_M_put_15 : decode prog_4_method_4_code 15 = .ok (.imul, 1) := by decide +kernel
theorem d_M_put_16 : decode prog_4_method_4_code 16 = .ok (.iadd, 1) := by decide +kernel
theorem d_M_put_17 : decode prog_4_method_4_code 17 = .ok (.iload_n 3, 1) := by decide +kernel
theorem d_M_put_18 : decode prog_4_method_4_code 18 = .ok (.iadd, 1) := by decide +kernel
theorem d_M_put_19 : decode prog_4_method_4_code 19 = .ok (.iload 4, 2) := by decide +kernel
theorem d_M_put_21 : decode prog_4_method_4_code 21 = .ok (.aload_n 0, 1) := by decide +kernel
theorem d_M_put_22 : decode prog_4_method_4_code 22 = .ok (.getfield 9, 3) := by decide +kernel
theorem d_M_put_25 : decode prog_4_method_4_code 25 = .ok (.invokestatic 28, 3) := by decide +kernel
theorem d_M_put_28 : decode prog_4_method_4_code 28 = .ok (.iastore, 1) := by decide +kernel
theorem d_M_put_29 : decode prog_4_method_4_code 29 = .ok (.return_, 1) := by decide +kernel
theorem d_M_copy_0 : decode prog_4_method_6_code 0 = .ok (.aload_n 0, 1) := by decide +kernel
theorem d_M_copy_1 : decode prog_4_method_6_code 1 = .ok (.getfield 21, 3) := by decide +kernel
theorem d_M_copy_4 : decode prog_4_method_6_code 4 = .ok (.iload_n 2, 1) := by decide +kernel
theorem d_M_copy_5 : decode prog_4_method_6_code 5 = .ok (.aload_n 0, 1) := by decide +kernel
theorem d_M_copy_6 : decode prog_4_method_6_code 6 = .ok (.getfield 18, 3) := by decide +kernel
theorem d_M_copy_9 : decode prog_4_method_6_code 9 = .ok (.imul, 1) := by decide +kernel
theorem d_M_copy_10 : decode prog_4_method_6_code 10 = .ok (.aload_n 0, 1) := by decide +kernel
theorem d_M_copy_11 : decode prog_4_method_6_code 11 = .ok (.getfield 21, 3) := by decide +kernel
theorem d_M_copy_14 : decode prog_4_method_6_code 14 = .ok (.iload_n 1, 1) := by decide +kernel
theorem d_M_copy_15 : decode prog_4_method_6_code 15 = .ok (.aload_n 0, 1) := by decide +kernel
theorem d_M_copy_16 : decode prog_4_method_6_code 16 = .ok (.getfield 18, 3) := by decide +kernel
theorem d_M_copy_19 : decode prog_4_method_6_code 19 = .ok (.imul, 1) := by decide +kernel
theorem d_M_copy_20 : decode prog_4_method_6_code 20 = .ok (.aload_n 0, 1) := by decide +kernel
theorem d_M_copy_21 : decode prog_4_method_6_code 21 = .ok (.getfield 18, 3) := by decide +kernel
theorem d_M_copy_24 : decode prog_4_method_6_code 24 = .ok (.invokestatic 59, 3) := by decide +kernel
theorem d_M_copy_27 : decode prog_4_method_6_code 27 = .ok (.return_, 1) := by decide +kernel
theorem d_M_makeNought_0 : decode prog_4_method_7_code 0 = .ok (.iconst 0, 1) := by decide +kernel
theorem d_M_makeNought_1 : decode prog_4_method_7_code 1 = .ok (.istore_n 2, 1) := by decide +kernel
theorem d_M_makeNought_2 : decode prog_4_method_7_code 2 = .ok (.iload_n 2, 1) := by decide +kernel
theorem d_M_makeNought_3 : decode prog_4_method_7_code 3 = .ok (.aload_n 0, 1) := by decide +kernel
theorem d_M_makeNought_4 : decode prog_4_method_7_code 4 = .ok (.getfield 18, 3) := by decide +kernel
theorem d_M_makeNought_7 : decode prog_4_method_7_code 7 = .ok (.if_icmp .ge 23, 3) := by decide +kernel
theorem d_M_makeNought_10 : decode prog_4_method_7_code 10 = .ok (.aload_n 0, 1) := by decide +kernel
theorem d_M_makeNought_11 : decode prog_4_method_7_code 11 = .ok (.getfield 21, 3) := by decide +kernel
theorem d_M_makeNought_14 : decode prog_4_method_7_code 14 = .ok (.iload_n 1, 1) := by decide +kernel
theorem d_M_makeNought_15 : decode prog_4_method_7_code 15 = .ok (.aload_n 0, 1) := by decide +kernel
theorem d_M_makeNought_16 : decode prog_4_method_7_code 16 = .ok (.getfield 18, 3) := by decide +kernel
theorem d_M_makeNought_19 : decode prog_4_method_7_code 19 = .ok (.imul, 1) := by decide +kernel
theorem d_M_makeNought_20 : decode prog_4_method_7_code 20 = .ok (.iload_n 2, 1) := by decide +kernel
theorem d_M_makeNought_21 : decode prog_4_method_7_code 21 = .ok (.iadd, 1) := by decide +kernel
theorem d_M_makeNought_22 : decode prog_4_method_7_code 22 = .ok (.iconst 0, 1) := by decide +kernel
theorem d_M_makeNought_23 : decode prog_4_method_7_code 23 = .ok (.iastore, 1) := by decide +kernel
theorem d_M_makeNought_24 : decode prog_4_method_7_code 24 = .ok (.iinc 2 1, 3) := by decide +kernel
theorem d_M_makeNought_27 : decode prog_4_method_7_code 27 = .ok (.goto (-25), 3) := by decide +kernel
theorem d_M_makeNought_30 : decode prog_4_method_7_code 30 = .ok (.return_, 1) := by decide +kernel
theorem d_M_makeOne_0 : decode prog_4_method_8_code 0 = .ok (.aload_n 0, 1) := by decide +kernel
theorem d_M_makeOne_1 : decode prog_4_method_8_code 1 = .ok (.iload_n 1, 1) := by decide +kernel
theorem d_M_makeOne_2 : decode prog_4_method_8_code 2 = .ok (.invokevirtual 42, 3) := by decide +kernel
theorem d_M_makeOne_5 : decode prog_4_method_8_code 5 = .ok (.iconst 0, 1) := by decide +kernel
theorem d_M_makeOne_6 : decode prog_4_method_8_code 6 = .ok (.istore_n 2, 1) := by decide +kernel
theorem d_M_makeOne_7 : decode prog_4_method_8_code 7 = .ok (.iload_n 2, 1) := by decide +kernel
theorem d_M_makeOne_8 : decode prog_4_method_8_code 8 = .ok (.aload_n 0, 1) := by decide +kernel
theorem d_M_makeOne_9 : decode prog_4_method_8_code 9 = .ok (.getfield 15, 3) := by decide +kernel
theorem d_M_makeOne_12 : decode prog_4_method_8_code 12 = .ok (.if_icmp .ge 17, 3) := by decide +kernel
theorem d_M_makeOne_15 : decode prog_4_method_8_code 15 = .ok (.aload_n 0, 1) := by decide +kernel
theorem d_M_makeOne_16 : decode prog_4_method_8_code 16 = .ok (.iload_n 1, 1) := by decide +kernel
theorem d_M_makeOne_17 : decode prog_4_method_8_code 17 = .ok (.iload_n 2, 1) := by decide +kernel
theorem d_M_makeOne_18 : decode prog_4_method_8_code 18 = .ok (.iload_n 2, 1) := by decide +kernel
theorem d_M_makeOne_19 : decode prog_4_method_8_code 19 = .ok (.iconst 1, 1) := by decide +kernel
theorem d_M_makeOne_20 : decode prog_4_method_8_code 20 = .ok (.invokevirtual 65, 3) := by decide +kernel
theorem d_M_makeOne_23 : decode prog_4_method_8_code 23 = .ok (.iinc 2 1, 3) := by decide +kernel
theorem d_M_makeOne_26 : decode prog_4_method_8_code 26 = .ok (.goto (-19), 3) := by decide +kernel
theorem d_M_makeOne_29 : decode prog_4_method_8_code 29 = .ok (.return_, 1) := by decide +kernel
theorem d_M_combine_0 : decode prog_4_method_9_code 0 = .ok (.iconst 0, 1) := by decide +kernel
theorem d_M_combine_1 : decode prog_4_method_9_code 1 = .ok (.istore 5, 2) := by decide +kernel
theorem d_M_combine_3 : decode prog_4_method_9_code 3 = .ok (.iload 5, 2) := by decide +kernel
theorem d_M_combine_5 : decode prog_4_method_9_code 5 = .ok (.aload_n 0, 1) := by decide +kernel
theorem d_M_combine_6 : decode prog_4_method_9_code 6 = .ok (.getfield 18, 3) := by decide +kernel
theorem d_M_combine_9 : decode prog_4_method_9_code 9 = .ok (.if_icmp .ge 64, 3) := by decide +kernel
theorem d_M_combine_12 : decode prog_4_method_9_code 12 = .ok (.aload_n 0, 1) := by decide +kernel
theorem d_M_combine_13 : decode prog_4_method_9_code 13 = .ok (.getfield 21, 3) := by decide +kernel
theorem d_M_combine_16 : decode prog_4_method_9_code 16 = .ok (.iload_n 2, 1) := by decide +kernel
theorem d_M_combine_17 : decode prog_4_method_9_code 17 = .ok (.aload_n 0, 1) := by decide +kernel
theorem d_M_combine_18 : decode prog_4_method_9_code 18 = .ok (.getfield 18, 3) := by decide +kernel
theorem d_M_combine_21 : decode prog_4_method_9_code 21 = .ok (.imul, 1) := by decide +kernel
theorem d_M_combine_22 : decode prog_4_method_9_code 22 = .ok (.iload 5, 2) := by decide +kernel
theorem d_M_combine_24 : decode prog_4_method_9_code 24 = .ok (.iadd, 1) := by decide +kernel
theorem d_M_combine_25 : decode prog_4_method_9_code 25 = .ok (.iaload, 1) := by decide +kernel
theorem d_M_combine_26 : decode prog_4_method_9_code 26 = .ok (.iload 4, 2) := by decide +kernel
theorem d_M_combine_28 : decode prog_4_method_9_code 28 = .ok (.aload_n 0, 1) := by decide +kernel
theorem d_M_combine_29 : decode prog_4_method_9_code 29 = .ok (.getfield 21, 3) := by decide +kernel
theorem d_M_combine_32 : decode prog_4_method_9_code 32 = .ok (.iload_n 3, 1) := by decide +kernel
theorem d_M_combine_33 : decode prog_4_method_9_code 33 = .ok (.aload_n 0, 1) := by decide +kernel
theorem d_M_combine_34 : decode prog_4_method_9_code 34 = .ok (.getfield 18, 3) := by decide +kernel
theorem d_M_combine_37 : decode prog_4_method_9_code 37 = .ok (.imul, 1) := by decide +kernel
theorem d_M_combine_38 : decode prog_4_method_9_code 38 = .ok (.iload 5, 2) := by decide +kernel
theorem d_M_combine_40 : decode prog_4_method_9_code 40 = .ok (.iadd, 1) := by decide +kernel
theorem d_M_combine_41 : decode prog_4_method_9_code 41 = .ok (.iaload, 1) := by decide +kernel
theorem d_M_combine_42 : decode prog_4_method_9_code 42 = .ok (.imul, 1) := by decide +kernel
theorem d_M_combine_43 : decode prog_4_method_9_code 43 = .ok (.iadd, 1) := by decide +kernel
theorem d_M_combine_44 : decode prog_4_method_9_code 44 = .ok (.istore 6, 2) := by decide +kernel
theorem d_M_combine_46 : decode prog_4_method_9_code 46 = .ok (.aload_n 0, 1) := by decide +kernel
theorem d_M_combine_47 : decode prog_4_method_9_code 47 = .ok (.getfield 21, 3) := by decide +kernel
theorem d_M_combine_50 : decode prog_4_method_9_code 50 = .ok (.iload_n 1, 1) := by decide +kernel
theorem d_M_combine_51 : decode prog_4_method_9_code 51 = .ok (.aload_n 0, 1) := by decide +kernel
theorem d_M_combine_52 : decode prog_4_method_9_code 52 = .ok (.getfield 18, 3) := by decide +kernel
theorem d_M_combine_55 : decode prog_4_method_9_code 55 = .ok (.imul, 1) := by decide +kernel
theorem d_M_combine_56 : decode prog_4_method_9_code 56 = .ok (.iload 5, 2) := by decide +kernel
theorem d_M_combine_58 : decode prog_4_method_9_code 58 = .ok (.iadd, 1) := by decide +kernel
theorem d_M_combine_59 : decode prog_4_method_9_code 59 = .ok (.iload 6, 2) := by decide +kernel
theorem d_M_combine_61 : decode prog_4_method_9_code 61 = .ok (.aload_n 0, 1) := by decide +kernel
theorem d_M_combine_62 : decode prog_4_method_9_code 62 = .ok (.getfield 9, 3) := by decide +kernel
theorem d_M_combine_65 : decode prog_4_method_9_code 65 = .ok (.irem, 1) := by decide +kernel
theorem d_M_combine_66 : decode prog_4_method_9_code 66 = .ok (.iastore, 1) := by decide +kernel
theorem d_M_combine_67 : decode prog_4_method_9_code 67 = .ok (.iinc 5 1, 3) := by decide +kernel
theorem d_M_combine_70 : decode prog_4_method_9_code 70 = .ok (.goto (-67), 3) := by decide +kernel
theorem d_M_combine_73 : decode prog_4_method_9_code 73 = .ok (.return_, 1) := by decide +kernel
theorem d_M_get_0 : decode prog_4_method_3_code 0 = .ok (.aload_n 0, 1) := by decide +kernel
theorem d_M_get_1 : decode prog_4_method_3_code 1 = .ok (.getfield 21, 3) := by decide +kernel
theorem d_M_get_4 : decode prog_4_method_3_code 4 = .ok (.iload_n 1, 1) := by decide +kernel
theorem d_M_get_5 : decode prog_4_method_3_code 5 = .ok (.aload_n 0, 1) := by decide +kernel
theorem d_M_get_6 : decode prog_4_method_3_code 6 = .ok (.getfield 18, 3) := by decide +kernel
theorem d_M_get_9 : decode prog_4_method_3_code 9 = .ok (.imul, 1) := by decide +kernel
theorem d_M_get_10 : decode prog_4_method_3_code 10 = .ok (.iload_n 2, 1) := by decide +kernel
theorem d_M_get_11 : decode prog_4_method_3_code 11 = .ok (.aload_n 0, 1) := by decide +kernel
theorem d_M_get_12 : decode prog_4_method_3_code 12 = .ok (.getfield 15, 3) := by decide +kernel
theorem d_M_get_15 : decode prog_4_method_3_code 15 = .ok (.imul, 1) := by decide +kernel
theorem d_M_get_16 : decode prog_4_method_3_code 16 = .ok (.iadd, 1) := by decide +kernel
theorem d_M_get_17 : decode prog_4_method_3_code 17 = .ok (.iload_n 3, 1) := by decide +kernel
theorem d_M_get_18 : decode prog_4_method_3_code 18 = .ok (.iadd, 1) := by decide +kernel
theorem d_M_get_19 : decode prog_4_method_3_code 19 = .ok (.iaload, 1) := by decide +kernel
theorem d_M_get_20 : decode prog_4_method_3_code 20 = .ok (.ireturn, 1) := by decide +kernel
theorem d_M_keepFresh_0 : decode prog_4_method_12_code 0 = .ok (.aload_n 0, 1) := by decide +kernel
theorem d_M_keepFresh_1 : decode prog_4_method_12_code 1 = .ok (.getfield 25, 3) := by decide +kernel
theorem d_M_keepFresh_4 : decode prog_4_method_12_code 4 = .ok (.iconst 0, 1) := by decide +kernel
theorem d_M_keepFresh_5 : decode prog_4_method_12_code 5 = .ok (.aload_n 0, 1) := by decide +kernel
theorem d_M_keepFresh_6 : decode prog_4_method_12_code 6 = .ok (.getfield 21, 3) := by decide +kernel
theorem d_M_keepFresh_9 : decode prog_4_method_12_code 9 = .ok (.iload_n 1, 1) := by decide +kernel
theorem d_M_keepFresh_10 : decode prog_4_method_12_code 10 = .ok (.aload_n 0, 1) := by decide +kernel
theorem d_M_keepFresh_11 : decode prog_4_method_12_code 11 = .ok (.getfield 18, 3) := by decide +kernel
theorem d_M_keepFresh_14 : decode prog_4_method_12_code 14 = .ok (.imul, 1) := by decide +kernel
theorem d_M_keepFresh_15 : decode prog_4_method_12_code 15 = .ok (.aload_n 0, 1) := by decide +kernel
theorem d_M_keepFresh_16 : decode prog_4_method_12_code 16 = .ok (.getfield 18, 3) := by decide +kernel
theorem d_M_keepFresh_19 : decode prog_4_method_12_code 19 = .ok (.invokestatic 59, 3) := by decide +kernel
theorem d_M_keepFresh_22 : decode prog_4_method_12_code 22 = .ok (.return_, 1) := by decide +kernel
theorem d_M_multiply_0 : decode prog_4_method_10_code 0 = .ok (.iconst 0, 1) := by decide +kernel
theorem d_M_multiply_1 : decode prog_4_method_10_code 1 = .ok (.istore 4, 2) := by decide +kernel
theorem d_M_multiply_3 : decode prog_4_method_10_code 3 = .ok (.iload 4, 2) := by decide +kernel
theorem d_M_multiply_5 : decode prog_4_method_10_code 5 = .ok (.aload_n 0, 1) := by decide +kernel
theorem d_M_multiply_6 : decode prog_4_method_10_code 6 = .ok (.getfield 15, 3) := by decide +kernel
theorem d_M_multiply_9 : decode prog_4_method_10_code 9 = .ok (.if_icmp .ge 94, 3) := by decide +kernel
theorem d_M_multiply_12 : decode prog_4_method_10_code 12 = .ok (.iconst 0, 1) := by decide +kernel
theorem d_M_multiply_13 : decode prog_4_method_10_code 13 = .ok (.istore 5, 2) := by decide +kernel
theorem d_M_multiply_15 : decode prog_4_method_10_code 15 = .ok (.iload 5, 2) := by decide +kernel
theorem d_M_multiply_17 : decode prog_4_method_10_code 17 = .ok (.aload_n 0, 1) := by decide +kernel
theorem d_M_multiply_18 : decode prog_4_method_10_code 18 = .ok (.getfield 15, 3) := by decide +kernel
theorem d_M_multiply_21 : decode prog_4_method_10_code 21 = .ok (.if_icmp .ge 76, 3) := by decide +kernel
theorem d_M_multiply_24 : decode prog_4_method_10_code 24 = .ok (.iconst 0, 1) := by decide +kernel
theorem d_M_multiply_25 : decode prog_4_method_10_code 25 = .ok (.istore 6, 2) := by decide +kernel
theorem d_M_multiply_27 : decode prog_4_method_10_code 27 = .ok (.iconst 0, 1) := by decide +kernel
theorem d_M_multiply_28 : decode prog_4_method_10_code 28 = .ok (.istore 7, 2) := by decide +kernel
theorem d_M_multiply_30 : decode prog_4_method_10_code 30 = .ok (.iload 7, 2) := by decide +kernel
theorem d_M_multiply_32 : decode prog_4_method_10_code 32 = .ok (.aload_n 0, 1) := by decide +kernel
theorem d_M_multiply_33 : decode prog_4_method_10_code 33 = .ok (.getfield 15, 3) := by decide +kernel
theorem d_M_multiply_36 : decode prog_4_method_10_code 36 = .ok (.if_icmp .ge 33, 3) := by decide +kernel
theorem d_M_multiply_39 : decode prog_4_method_10_code 39 = .ok (.iload 6, 2) := by decide +kernel
theorem d_M_multiply_41 : decode prog_4_method_10_code 41 = .ok (.aload_n 0, 1) := by decide +kernel
theorem d_M_multiply_42 : decode prog_4_method_10_code 42 = .ok (.iload_n 2, 1) := by decide +kernel
theorem d_M_multiply_43 : decode prog_4_method_10_code 43 = .ok (.iload 4, 2) := by decide +kernel
theorem d_M_multiply_45 : decode prog_4_method_10_code 45 = .ok (.iload 7, 2) := by decide +kernel
theorem d_M_multiply_47 : decode prog_4_method_10_code 47 = .ok (.invokevirtual 68, 3) := by decide +kernel
theorem d_M_multiply_50 : decode prog_4_method_10_code 50 = .ok (.aload_n 0, 1) := by decide +kernel
theorem d_M_multiply_51 : decode prog_4_method_10_code 51 = .ok (.iload_n 3, 1) := by decide +kernel
theorem d_M_multiply_52 : decode prog_4_method_10_code 52 = .ok (.iload 7, 2) := by decide +kernel
theorem d_M_multiply_54 : decode prog_4_method_10_code 54 = .ok (.iload 5, 2) := by decide +kernel
theorem d_M_multiply_56 : decode prog_4_method_10_code 56 = .ok (.invokevirtual 68, 3) := by decide +kernel
theorem d_M_multiply_59 : decode prog_4_method_10_code 59 = .ok (.imul, 1) := by decide +kernel
theorem d_M_multiply_60 : decode prog_4_method_10_code 60 = .ok (.iadd, 1) := by decide +kernel
theorem d_M_multiply_61 : decode prog_4_method_10_code 61 = .ok (.istore 6, 2) := by decide +kernel
theorem d_M_multiply_63 : decode prog_4_method_10_code 63 = .ok (.iinc 7 1, 3) := by decide +kernel
theorem d_M_multiply_66 : decode prog_4_method_10_code 66 = .ok (.goto (-36), 3) := by decide +kernel
theorem d_M_multiply_69 : decode prog_4_method_10_code 69 = .ok (.aload_n 0, 1) := by decide +kernel
theorem d_M_multiply_70 : decode prog_4_method_10_code 70 = .ok (.getfield 25, 3) := by decide +kernel
theorem d_M_multiply_73 : decode prog_4_method_10_code 73 = .ok (.iload 4, 2) := by decide +kernel
theorem d_M_multiply_75 : decode prog_4_method_10_code 75 = .ok (.aload_n 0, 1) := by decide +kernel
theorem d_M_multiply_76 : decode prog_4_method_10_code 76 = .ok (.getfield 15, 3) := by decide +kernel
theorem d_M_multiply_79 : decode prog_4_method_10_code 79 = .ok (.imul, 1) := by decide +kernel
theorem d_M_multiply_80 : decode prog_4_method_10_code 80 = .ok (.iload 5, 2) := by decide +kernel
theorem d_M_multiply_82 : decode prog_4_method_10_code 82 = .ok (.iadd, 1) := by decide +kernel
theorem d_M_multiply_83 : decode prog_4_method_10_code 83 = .ok (.iload 6, 2) := by decide +kernel
theorem d_M_multiply_85 : decode prog_4_method_10_code 85 = .ok (.aload_n 0, 1) := by decide +kernel
theorem d_M_multiply_86 : decode prog_4_method_10_code 86 = .ok (.getfield 9, 3) := by decide +kernel
theorem d_M_multiply_89 : decode prog_4_method_10_code 89 = .ok (.irem, 1) := by decide +kernel
theorem d_M_multiply_90 : decode prog_4_method_10_code 90 = .ok (.iastore, 1) := by decide +kernel
theorem d_M_multiply_91 : decode prog_4_method_10_code 91 = .ok (.iinc 5 1, 3) := by decide +kernel
theorem d_M_multiply_94 : decode prog_4_method_10_code 94 = .ok (.goto (-79), 3) := by decide +kernel
theorem d_M_multiply_97 : decode prog_4_method_10_code 97 = .ok (.iinc 4 1, 3) := by decide +kernel
theorem d_M_multiply_100 : decode prog_4_method_10_code 100 = .ok (.goto (-97), 3) := by decide +kernel
theorem d_M_multiply_103 : decode prog_4_method_10_code 103 = .ok (.aload_n 0, 1) := by decide +kernel
theorem d_M_multiply_104 : decode prog_4_method_10_code 104 = .ok (.iload_n 1, 1) := by decide +kernel
theorem d_M_multiply_105 : decode prog_4_method_10_code 105 = .ok (.invokevirtual 72, 3) := by decide +kernel
theorem d_M_multiply_108 : decode prog_4_method_10_code 108 = .ok (.return_, 1) := by decide +kernel
theorem d_M_turn_0 : decode prog_4_method_11_code 0 = .ok (.iconst 0, 1) := by decide +kernel
theorem d_M_turn_1 : decode prog_4_method_11_code 1 = .ok (.istore_n 3, 1) := by decide +kernel
theorem d_M_turn_2 : decode prog_4_method_11_code 2 = .ok (.iload_n 3, 1) := by decide +kernel
theorem d_M_turn_3 : decode prog_4_method_11_code 3 = .ok (.aload_n 0, 1) := by decide +kernel
theorem d_M_turn_4 : decode prog_4_method_11_code 4 = .ok (.getfield 15, 3) := by decide +kernel
theorem d_M_turn_7 : decode prog_4_method_11_code 7 = .ok (.if_icmp .ge 49, 3) := by decide +kernel
theorem d_M_turn_10 : decode prog_4_method_11_code 10 = .ok (.iconst 0, 1) := by decide +kernel
theorem d_M_turn_11 : decode prog_4_method_11_code 11 = .ok (.istore 4, 2) := by decide +kernel
theorem d_M_turn_13 : decode prog_4_method_11_code 13 = .ok (.iload 4, 2) := by decide +kernel
theorem d_M_turn_15 : decode prog_4_method_11_code 15 = .ok (.aload_n 0, 1) := by decide +kernel
theorem d_M_turn_16 : decode prog_4_method_11_code 16 = .ok (.getfield 15, 3) := by decide +kernel
theorem d_M_turn_19 : decode prog_4_method_11_code 19 = .ok (.if_icmp .ge 31, 3) := by decide +kernel
theorem d_M_turn_22 : decode prog_4_method_11_code 22 = .ok (.aload_n 0, 1) := by decide +kernel
theorem d_M_turn_23 : decode prog_4_method_11_code 23 = .ok (.getfield 25, 3) := by decide +kernel
theorem d_M_turn_26 : decode prog_4_method_11_code 26 = .ok (.iload_n 3, 1) := by decide +kernel
theorem d_M_turn_27 : decode prog_4_method_11_code 27 = .ok (.aload_n 0, 1) := by decide +kernel
theorem d_M_turn_28 : decode prog_4_method_11_code 28 = .ok (.getfield 15, 3) := by decide +kernel
theorem d_M_turn_31 : decode prog_4_method_11_code 31 = .ok (.imul, 1) := by decide +kernel
theorem d_M_turn_32 : decode prog_4_method_11_code 32 = .ok (.iload 4, 2) := by decide +kernel
theorem d_M_turn_34 : decode prog_4_method_11_code 34 = .ok (.iadd, 1) := by decide +kernel
theorem d_M_turn_35 : decode prog_4_method_11_code 35 = .ok (.aload_n 0, 1) := by decide +kernel
theorem d_M_turn_36 : decode prog_4_method_11_code 36 = .ok (.iload_n 2, 1) := by decide +kernel
theorem d_M_turn_37 : decode prog_4_method_11_code 37 = .ok (.iload 4, 2) := by decide +kernel
theorem d_M_turn_39 : decode prog_4_method_11_code 39 = .ok (.iload_n 3, 1) := by decide +kernel
theorem d_M_turn_40 : decode prog_4_method_11_code 40 = .ok (.invokevirtual 68, 3) := by decide +kernel
theorem d_M_turn_43 : decode prog_4_method_11_code 43 = .ok (.iastore, 1) := by decide +kernel
theorem d_M_turn_44 : decode prog_4_method_11_code 44 = .ok (.iinc 4 1, 3) := by decide +kernel
theorem d_M_turn_47 : decode prog_4_method_11_code 47 = .ok (.goto (-34), 3) := by decide +kernel
theorem d_M_turn_50 : decode prog_4_method_11_code 50 = .ok (.iinc 3 1, 3) := by decide +kernel
theorem d_M_turn_53 : decode prog_4_method_11_code 53 = .ok (.goto (-51), 3) := by decide +kernel
theorem d_M_turn_56 : decode prog_4_method_11_code 56 = .ok (.aload_n 0, 1) := by decide +kernel
theorem d_M_turn_57 : decode prog_4_method_11_code 57 = .ok (.iload_n 1, 1) := by decide +kernel
theorem d_M_turn_58 : decode prog_4_method_11_code 58 = .ok (.invokevirtual 72, 3) := by decide +kernel
theorem d_M_turn_61 : decode prog_4_method_11_code 61 = .ok (.return_, 1) := by decide +kernel
theorem d_M_scale_0 : decode prog_4_method_13_code 0 = .ok (.iconst 0, 1) := by decide +kernel
theorem d_M_scale_1 : decode prog_4_method_13_code 1 = .ok (.istore 4, 2) := by decide +kernel
theorem d_M_scale_3 : decode prog_4_method_13_code 3 = .ok (.iload 4, 2) := by decide +kernel
theorem d_M_scale_5 : decode prog_4_method_13_code 5 = .ok (.aload_n 0, 1) := by decide +kernel
theorem d_M_scale_6 : decode prog_4_method_13_code 6 = .ok (.getfield 18, 3) := by decide +kernel
theorem d_M_scale_9 : decode prog_4_method_13_code 9 = .ok (.if_icmp .ge 44, 3) := by decide +kernel
theorem d_M_scale_12 : decode prog_4_method_13_code 12 = .ok (.aload_n 0, 1) := by decide +kernel
theorem d_M_scale_13 : decode prog_4_method_13_code 13 = .ok (.getfield 21, 3) := by decide +kernel
theorem d_M_scale_16 : decode prog_4_method_13_code 16 = .ok (.iload_n 1, 1) := by decide +kernel
theorem d_M_scale_17 : decode prog_4_method_13_code 17 = .ok (.aload_n 0, 1) := by decide +kernel
theorem d_M_scale_18 : decode prog_4_method_13_code 18 = .ok (.getfield 18, 3) := by decide +kernel
theorem d_M_scale_21 : decode prog_4_method_13_code 21 = .ok (.imul, 1) := by decide +kernel
theorem d_M_scale_22 : decode prog_4_method_13_code 22 = .ok (.iload 4, 2) := by decide +kernel
theorem d_M_scale_24 : decode prog_4_method_13_code 24 = .ok (.iadd, 1) := by decide +kernel
theorem d_M_scale_25 : decode prog_4_method_13_code 25 = .ok (.aload_n 0, 1) := by decide +kernel
theorem d_M_scale_26 : decode prog_4_method_13_code 26 = .ok (.getfield 21, 3) := by decide +kernel
theorem d_M_scale_29 : decode prog_4_method_13_code 29 = .ok (.iload_n 2, 1) := by decide +kernel
theorem d_M_scale_30 : decode prog_4_method_13_code 30 = .ok (.aload_n 0, 1) := by decide +kernel
theorem d_M_scale_31 : decode prog_4_method_13_code 31 = .ok (.getfield 18, 3) := by decide +kernel
theorem d_M_scale_34 : decode prog_4_method_13_code 34 = .ok (.imul, 1) := by decide +kernel
theorem d_M_scale_35 : decode prog_4_method_13_code 35 = .ok (.iload 4, 2) := by decide +kernel
theorem d_M_scale_37 : decode prog_4_method_13_code 37 = .ok (.iadd, 1) := by decide +kernel
theorem d_M_scale_38 : decode prog_4_method_13_code 38 = .ok (.iaload, 1) := by decide +kernel
theorem d_M_scale_39 : decode prog_4_method_13_code 39 = .ok (.iload_n 3, 1) := by decide +kernel
theorem d_M_scale_40 : decode prog_4_method_13_code 40 = .ok (.imul, 1) := by decide +kernel
theorem d_M_scale_41 : decode prog_4_method_13_code 41 = .ok (.aload_n 0, 1) := by decide +kernel
theorem d_M_scale_42 : decode prog_4_method_13_code 42 = .ok (.getfield 9, 3) := by decide +kernel
theorem d_M_scale_45 : decode prog_4_method_13_code 45 = .ok (.irem, 1) := by decide +kernel
theorem d_M_scale_46 : decode prog_4_method_13_code 46 = .ok (.iastore, 1) := by decide +kernel
theorem d_M_scale_47 : decode prog_4_method_13_code 47 = .ok (.iinc 4 1, 3) := by decide +kernel
theorem d_M_scale_50 : decode prog_4_method_13_code 50 = .ok (.goto (-47), 3) := by decide +kernel
theorem d_M_scale_53 : decode prog_4_method_13_code 53 = .ok (.return_, 1) := by decide +kernel
theorem d_M_apply_0 : decode prog_4_method_5_code 0 = .ok (.iload_n 1, 1) := by decide +kernel
theorem d_M_apply_1 : decode prog_4_method_5_code 1 = .ok (.tableswitch 121 0 6 #[43, 56, 64, 72, 84, 101, 112], 43) := by decide +kernel
theorem d_M_apply_44 : decode prog_4_method_5_code 44 = .ok (.aload_n 0, 1) := by decide +kernel
theorem d_M_apply_45 : decode prog_4_method_5_code 45 = .ok (.iload_n 2, 1) := by decide +kernel
theorem d_M_apply_46 : decode prog_4_method_5_code 46 = .ok (.bipush 40, 2) := by decide +kernel
theorem d_M_apply_48 : decode prog_4_method_5_code 48 = .ok (.iload 4, 2) := by decide +kernel
theorem d_M_apply_50 : decode prog_4_method_5_code 50 = .ok (.iadd, 1) := by decide +kernel
theorem d_M_apply_51 : decode prog_4_method_5_code 51 = .ok (.invokevirtual 34, 3) := by decide +kernel
theorem d_M_apply_54 : decode prog_4_method_5_code 54 = .ok (.goto 76, 3) := by decide +kernel
theorem d_M_apply_57 : decode prog_4_method_5_code 57 = .ok (.aload_n 0, 1) := by decide +kernel
theorem d_M_apply_58 : decode prog_4_method_5_code 58 = .ok (.iload_n 2, 1) := by decide +kernel
theorem d_M_apply_59 : decode prog_4_method_5_code 59 = .ok (.invokevirtual 38, 3) := by decide +kernel
theorem d_M_apply_62 : decode prog_4_method_5_code 62 = .ok (.goto 68, 3) := by decide +kernel
theorem d_M_apply_65 : decode prog_4_method_5_code 65 = .ok (.aload_n 0, 1) := by decide +kernel
theorem d_M_apply_66 : decode prog_4_method_5_code 66 = .ok (.iload_n 2, 1) := by decide +kernel
theorem d_M_apply_67 : decode prog_4_method_5_code 67 = .ok (.invokevirtual 42, 3) := by decide +kernel
theorem d_M_apply_70 : decode prog_4_method_5_code 70 = .ok (.goto 60, 3) := by decide +kernel
theorem d_M_apply_73 : decode prog_4_method_5_code 73 = .ok (.aload_n 0, 1) := by decide +kernel
theorem d_M_apply_74 : decode prog_4_method_5_code 74 = .ok (.iload_n 2, 1) := by decide +kernel
theorem d_M_apply_75 : decode prog_4_method_5_code 75 = .ok (.iload_n 3, 1) := by decide +kernel
theorem d_M_apply_76 : decode prog_4_method_5_code 76 = .ok (.iload 4, 2) := by decide +kernel
theorem d_M_apply_78 : decode prog_4_method_5_code 78 = .ok (.iconst 1, 1) := by decide +kernel
theorem d_M_apply_79 : decode prog_4_method_5_code 79 = .ok (.invokevirtual 45, 3) := by decide +kernel
theorem d_M_apply_82 : decode prog_4_method_5_code 82 = .ok (.goto 48, 3) := by decide +kernel
theorem d_M_apply_85 : decode prog_4_method_5_code 85 = .ok (.aload_n 0, 1) := by decide +kernel
theorem d_M_apply_86 : decode prog_4_method_5_code 86 = .ok (.iload_n 2, 1) := by decide +kernel
theorem d_M_apply_87 : decode prog_4_method_5_code 87 = .ok (.iload_n 3, 1) := by decide +kernel
theorem d_M_apply_88 : decode prog_4_method_5_code 88 = .ok (.iload 4, 2) := by decide +kernel
theorem d_M_apply_90 : decode prog_4_method_5_code 90 = .ok (.aload_n 0, 1) := by decide +kernel
theorem d_M_apply_91 : decode prog_4_method_5_code 91 = .ok (.getfield 9, 3) := by decide +kernel
theorem d_M_apply_94 : decode prog_4_method_5_code 94 = .ok (.iconst 1, 1) := by decide +kernel
theorem d_M_apply_95 : decode prog_4_method_5_code 95 = .ok (.isub, 1) := by decide +kernel
theorem d_M_apply_96 : decode prog_4_method_5_code 96 = .ok (.invokevirtual 45, 3) := by decide +kernel
theorem d_M_apply_99 : decode prog_4_method_5_code 99 = .ok (.goto 31, 3) := by decide +kernel
theorem d_M_apply_102 : decode prog_4_method_5_code 102 = .ok (.aload_n 0, 1) := by decide +kernel
theorem d_M_apply_103 : decode prog_4_method_5_code 103 = .ok (.iload_n 2, 1) := by decide +kernel
theorem d_M_apply_104 : decode prog_4_method_5_code 104 = .ok (.iload_n 3, 1) := by decide +kernel
theorem d_M_apply_105 : decode prog_4_method_5_code 105 = .ok (.iload 4, 2) := by decide +kernel
theorem d_M_apply_107 : decode prog_4_method_5_code 107 = .ok (.invokevirtual 49, 3) := by decide +kernel
theorem d_M_apply_110 : decode prog_4_method_5_code 110 = .ok (.goto 20, 3) := by decide +kernel
theorem d_M_apply_113 : decode prog_4_method_5_code 113 = .ok (.aload_n 0, 1) := by decide +kernel
theorem d_M_apply_114 : decode prog_4_method_5_code 114 = .ok (.iload_n 2, 1) := by decide +kernel
theorem d_M_apply_115 : decode prog_4_method_5_code 115 = .ok (.iload_n 3, 1) := by decide +kernel
theorem d_M_apply_116 : decode prog_4_method_5_code 116 = .ok (.invokevirtual 53, 3) := by decide +kernel
theorem d_M_apply_119 : decode prog_4_method_5_code 119 = .ok (.goto 11, 3) := by decide +kernel
theorem d_M_apply_122 : decode prog_4_method_5_code 122 = .ok (.aload_n 0, 1) := by decide +kernel
theorem d_M_apply_123 : decode prog_4_method_5_code 123 = .ok (.iload_n 2, 1) := by decide +kernel
theorem d_M_apply_124 : decode prog_4_method_5_code 124 = .ok (.iload_n 3, 1) := by decide +kernel
theorem d_M_apply_125 : decode prog_4_method_5_code 125 = .ok (.iload 4, 2) := by decide +kernel
theorem d_M_apply_127 : decode prog_4_method_5_code 127 = .ok (.invokevirtual 56, 3) := by decide +kernel
theorem d_M_apply_130 : decode prog_4_method_5_code 130 = .ok (.return_, 1) := by decide +kernel
theorem d_M_raise_0 : decode prog_4_method_14_code 0 = .ok (.iload_n 2, 1) := by decide +kernel
theorem d_M_raise_1 : decode prog_4_method_14_code 1 = .ok (.ifCond .ne 9, 3) := by decide +kernel
theorem d_M_raise_4 : decode prog_4_method_14_code 4 = .ok (.aload_n 0, 1) := by decide +kernel
theorem d_M_raise_5 : decode prog_4_method_14_code 5 = .ok (.iload_n 1, 1) := by decide +kernel
theorem d_M_raise_6 : decode prog_4_method_14_code 6 = .ok (.invokevirtual 38, 3) := by decide +kernel
theorem d_M_raise_9 : decode prog_4_method_14_code 9 = .ok (.return_, 1) := by decide +kernel
theorem d_M_raise_10 : decode prog_4_method_14_code 10 = .ok (.aload_n 0, 1) := by decide +kernel
theorem d_M_raise_11 : decode prog_4_method_14_code 11 = .ok (.bipush 68, 2) := by decide +kernel
theorem d_M_raise_13 : decode prog_4_method_14_code 13 = .ok (.iload_n 1, 1) := by decide +kernel
theorem d_M_raise_14 : decode prog_4_method_14_code 14 = .ok (.invokevirtual 34, 3) := by decide +kernel
theorem d_M_raise_17 : decode prog_4_method_14_code 17 = .ok (.iload_n 2, 1) := by decide +kernel
theorem d_M_raise_18 : decode prog_4_method_14_code 18 = .ok (.invokestatic 75, 3) := by decide +kernel
theorem d_M_raise_21 : decode prog_4_method_14_code 21 = .ok (.iconst 1, 1) := by decide +kernel
theorem d_M_raise_22 : decode prog_4_method_14_code 22 = .ok (.isub, 1) := by decide +kernel
theorem d_M_raise_23 : decode prog_4_method_14_code 23 = .ok (.istore_n 3, 1) := by decide +kernel
theorem d_M_raise_24 : decode prog_4_method_14_code 24 = .ok (.iload_n 3, 1) := by decide +kernel
theorem d_M_raise_25 : decode prog_4_method_14_code 25 = .ok (.ifCond .lt 32, 3) := by decide +kernel
theorem d_M_raise_28 : decode prog_4_method_14_code 28 = .ok (.aload_n 0, 1) := by decide +kernel
theorem d_M_raise_29 : decode prog_4_method_14_code 29 = .ok (.iload_n 1, 1) := by decide +kernel
theorem d_M_raise_30 : decode prog_4_method_14_code 30 = .ok (.iload_n 1, 1) := by decide +kernel
theorem d_M_raise_31 : decode prog_4_method_14_code 31 = .ok (.iload_n 1, 1) := by decide +kernel
theorem d_M_raise_32 : decode prog_4_method_14_code 32 = .ok (.invokevirtual 49, 3) := by decide +kernel
theorem d_M_raise_35 : decode prog_4_method_14_code 35 = .ok (.iload_n 2, 1) := by decide +kernel
theorem d_M_raise_36 : decode prog_4_method_14_code 36 = .ok (.iload_n 3, 1) := by decide +kernel
theorem d_M_raise_37 : decode prog_4_method_14_code 37 = .ok (.invokestatic 79, 3) := by decide +kernel
theorem d_M_raise_40 : decode prog_4_method_14_code 40 = .ok (.ifCond .eq 11, 3) := by decide +kernel
theorem d_M_raise_43 : decode prog_4_method_14_code 43 = .ok (.aload_n 0, 1) := by decide +kernel
theorem d_M_raise_44 : decode prog_4_method_14_code 44 = .ok (.iload_n 1, 1) := by decide +kernel
theorem d_M_raise_45 : decode prog_4_method_14_code 45 = .ok (.iload_n 1, 1) := by decide +kernel
theorem d_M_raise_46 : decode prog_4_method_14_code 46 = .ok (.bipush 68, 2) := by decide +kernel
theorem d_M_raise_48 : decode prog_4_method_14_code 48 = .ok (.invokevirtual 49, 3) := by decide +kernel
theorem d_M_raise_51 : decode prog_4_method_14_code 51 = .ok (.iinc 3 (-1), 3) := by decide +kernel
theorem d_M_raise_54 : decode prog_4_method_14_code 54 = .ok (.goto (-30), 3) := by decide +kernel
theorem d_M_raise_57 : decode prog_4_method_14_code 57 = .ok (.return_, 1) := by decide +kernel
