theorem d_P_powerOf_0 : decode prog_3_method_4_code 0 = .ok (.iload_n 1, 1) := by decide +kernel
theorem d_P_powerOf_1 : decode prog_3_method_4_code 1 = .ok (.ifCond .ne 11, 3) := by decide +kernel
theorem d_P_powerOf_4 : decode prog_3_method_4_code 4 = .ok (.aload_n 2, 1) := by decide +kernel
theorem d_P_powerOf_5 : decode prog_3_method_4_code 5 = .ok (.iconst 1, 1) := by decide +kernel
theorem d_P_powerOf_6 : decode prog_3_method_4_code 6 = .ok (.iconst 0, 1) := by decide +kernel
theorem d_P_powerOf_7 : decode prog_3_method_4_code 7 = .ok (.iconst 0, 1) := by decide +kernel
theorem d_P_powerOf_8 : decode prog_3_method_4_code 8 = .ok (.invokevirtual 40, 3) := by decide +kernel
theorem d_P_powerOf_11 : decode prog_3_method_4_code 11 = .ok (.ireturn, 1) := by decide +kernel
theorem d_P_powerOf_12 : decode prog_3_method_4_code 12 = .ok (.iload_n 0, 1) := by decide +kernel
theorem d_P_powerOf_13 : decode prog_3_method_4_code 13 = .ok (.istore_n 3, 1) := by decide +kernel
theorem d_P_powerOf_14 : decode prog_3_method_4_code 14 = .ok (.iload_n 1, 1) := by decide +kernel
theorem d_P_powerOf_15 : decode prog_3_method_4_code 15 = .ok (.invokestatic 48, 3) := by decide +kernel
theorem d_P_powerOf_18 : decode prog_3_method_4_code 18 = .ok (.iconst 1, 1) := by decide +kernel
theorem d_P_powerOf_19 : decode prog_3_method_4_code 19 = .ok (.isub, 1) := by decide +kernel
theorem d_P_powerOf_20 : decode prog_3_method_4_code 20 = .ok (.istore 4, 2) := by decide +kernel
theorem d_P_powerOf_22 : decode prog_3_method_4_code 22 = .ok (.iload 4, 2) := by decide +kernel
theorem d_P_powerOf_24 : decode prog_3_method_4_code 24 = .ok (.ifCond .lt 34, 3) := by decide +kernel
theorem d_P_powerOf_27 : decode prog_3_method_4_code 27 = .ok (.aload_n 2, 1) := by decide +kernel
theorem d_P_powerOf_28 : decode prog_3_method_4_code 28 = .ok (.iconst 5, 1) := by decide +kernel
theorem d_P_powerOf_29 : decode prog_3_method_4_code 29 = .ok (.iload_n 3, 1) := by decide +kernel
theorem d_P_powerOf_30 : decode prog_3_method_4_code 30 = .ok (.iload_n 3, 1) := by decide +kernel
theorem d_P_powerOf_31 : decode prog_3_method_4_code 31 = .ok (.invokevirtual 40, 3) := by decide +kernel
theorem d_P_powerOf_34 : decode prog_3_method_4_code 34 = .ok (.istore_n 3, 1) := by decide +kernel
theorem d_P_powerOf_35 : decode prog_3_method_4_code 35 = .ok (.iload_n 1, 1) := by decide +kernel
theorem d_P_powerOf_36 : decode prog_3_method_4_code 36 = .ok (.iload 4, 2) := by decide +kernel
theorem d_P_powerOf_38 : decode prog_3_method_4_code 38 = .ok (.invokestatic 51, 3) := by decide +kernel
theorem d_P_powerOf_41 : decode prog_3_method_4_code 41 = .ok (.ifCond .eq 11, 3) := by decide +kernel
theorem d_P_powerOf_44 : decode prog_3_method_4_code 44 = .ok (.aload_n 2, 1) := by decide +kernel
theorem d_P_powerOf_45 : decode prog_3_method_4_code 45 = .ok (.iconst 5, 1) := by decide +kernel
theorem d_P_powerOf_46 : decode prog_3_method_4_code 46 = .ok (.iload_n 3, 1) := by decide +kernel
theorem d_P_powerOf_47 : decode prog_3_method_4_code 47 = .ok (.iload_n 0, 1) := by decide +kernel
theorem d_P_powerOf_48 : decode prog_3_method_4_code 48 = .ok (.invokevirtual 40, 3) := by decide +kernel
theorem d_P_powerOf_51 : decode prog_3_method_4_code 51 = .ok (.istore_n 3, 1) := by decide +kernel
theorem d_P_powerOf_52 : decode prog_3_method_4_code 52 = .ok (.iinc 4 (-1), 3) := by decide +kernel
theorem d_P_powerOf_55 : decode prog_3_method_4_code 55 = .ok (.goto (-33), 3) := by decide +kernel
theorem d_P_powerOf_58 : decode prog_3_method_4_code 58 = .ok (.iload_n 3, 1) := by decide +kernel
theorem d_P_powerOf_59 : decode prog_3_method_4_code 59 = .ok (.ireturn, 1) := by decide +kernel
theorem d_P_instructionsFor_0 : decode prog_3_method_3_code 0 = .ok (.iload_n 1, 1) := by decide +kernel
theorem d_P_instructionsFor_1 : decode prog_3_method_3_code 1 = .ok (.tableswitch 94 0 8 #[51, 51, 51, 60, 60, 60, 94, 94, 81], 51) := by decide +kernel
theorem d_P_instructionsFor_52 : decode prog_3_method_3_code 52 = .ok (.aload 4, 2) := by decide +kernel
theorem d_P_instructionsFor_54 : decode prog_3_method_3_code 54 = .ok (.iload_n 1, 1) := by decide +kernel
theorem d_P_instructionsFor_55 : decode prog_3_method_3_code 55 = .ok (.iconst 0, 1) := by decide +kernel
theorem d_P_instructionsFor_56 : decode prog_3_method_3_code 56 = .ok (.iload_n 2, 1) := by decide +kernel
theorem d_P_instructionsFor_57 : decode prog_3_method_3_code 57 = .ok (.invokevirtual 40, 3) := by decide +kernel
theorem d_P_instructionsFor_60 : decode prog_3_method_3_code 60 = .ok (.ireturn, 1) := by decide +kernel
theorem d_P_instructionsFor_61 : decode prog_3_method_3_code 61 = .ok (.aload 4, 2) := by decide +kernel
theorem d_P_instructionsFor_63 : decode prog_3_method_3_code 63 = .ok (.iload_n 1, 1) := by decide +kernel
theorem d_P_instructionsFor_64 : decode prog_3_method_3_code 64 = .ok (.aload_n 0, 1) := by decide +kernel
theorem d_P_instructionsFor_65 : decode prog_3_method_3_code 65 = .ok (.getfield 9, 3) := by decide +kernel
theorem d_P_instructionsFor_68 : decode prog_3_method_3_code 68 = .ok (.iload_n 3, 1) := by decide +kernel
theorem d_P_instructionsFor_69 : decode prog_3_method_3_code 69 = .ok (.iaload, 1) := by decide +kernel
theorem d_P_instructionsFor_70 : decode prog_3_method_3_code 70 = .ok (.aload_n 0, 1) := by decide +kernel
theorem d_P_instructionsFor_71 : decode prog_3_method_3_code 71 = .ok (.getfield 9, 3) := by decide +kernel
theorem d_P_instructionsFor_74 : decode prog_3_method_3_code 74 = .ok (.iload_n 3, 1) := by decide +kernel
theorem d_P_instructionsFor_75 : decode prog_3_method_3_code 75 = .ok (.iconst 1, 1) := by decide +kernel
theorem d_P_instructionsFor_76 : decode prog_3_method_3_code 76 = .ok (.iadd, 1) := by decide +kernel
theorem d_P_instructionsFor_77 : decode prog_3_method_3_code 77 = .ok (.iaload, 1) := by decide +kernel
theorem d_P_instructionsFor_78 : decode prog_3_method_3_code 78 = .ok (.invokevirtual 40, 3) := by decide +kernel
theorem d_P_instructionsFor_81 : decode prog_3_method_3_code 81 = .ok (.ireturn, 1) := by decide +kernel
theorem d_P_instructionsFor_82 : decode prog_3_method_3_code 82 = .ok (.aload_n 0, 1) := by decide +kernel
theorem d_P_instructionsFor_83 : decode prog_3_method_3_code 83 = .ok (.getfield 9, 3) := by decide +kernel
theorem d_P_instructionsFor_86 : decode prog_3_method_3_code 86 = .ok (.iload_n 3, 1) := by decide +kernel
theorem d_P_instructionsFor_87 : decode prog_3_method_3_code 87 = .ok (.iaload, 1) := by decide +kernel
theorem d_P_instructionsFor_88 : decode prog_3_method_3_code 88 = .ok (.iload_n 2, 1) := by decide +kernel
theorem d_P_instructionsFor_89 : decode prog_3_method_3_code 89 = .ok (.aload 4, 2) := by decide +kernel
theorem d_P_instructionsFor_91 : decode prog_3_method_3_code 91 = .ok (.invokestatic 44, 3) := by decide +kernel
theorem d_P_instructionsFor_94 : decode prog_3_method_3_code 94 = .ok (.ireturn, 1) := by decide +kernel
theorem d_P_instructionsFor_95 : decode prog_3_method_3_code 95 = .ok (.aload 4, 2) := by decide +kernel
theorem d_P_instructionsFor_97 : decode prog_3_method_3_code 97 = .ok (.iload_n 1, 1) := by decide +kernel
theorem d_P_instructionsFor_98 : decode prog_3_method_3_code 98 = .ok (.aload_n 0, 1) := by decide +kernel
theorem d_P_instructionsFor_99 : decode prog_3_method_3_code 99 = .ok (.getfield 9, 3) := by decide +kernel
theorem d_P_instructionsFor_102 : decode prog_3_method_3_code 102 = .ok (.iload_n 3, 1) := by decide +kernel
theorem d_P_instructionsFor_103 : decode prog_3_method_3_code 103 = .ok (.iaload, 1) := by decide +kernel
theorem d_P_instructionsFor_104 : decode prog_3_method_3_code 104 = .ok (.iload_n 2, 1) := by decide +kernel
theorem d_P_instructionsFor_105 : decode prog_3_method_3_code 105 = .ok (.invokevirtual 40, 3) := by decide +kernel
theorem d_P_instructionsFor_108 : decode prog_3_method_3_code 108 = .ok (.ireturn, 1) := by decide +kernel
theorem d_P_translate_0 : decode prog_3_method_2_code 0 = .ok (.aload_n 2, 1) := by decide +kernel
theorem d_P_translate_1 : decode prog_3_method_2_code 1 = .ok (.invokevirtual 15, 3) := by decide +kernel
theorem d_P_translate_4 : decode prog_3_method_2_code 4 = .ok (.iconst 0, 1) := by decide +kernel
theorem d_P_translate_5 : decode prog_3_method_2_code 5 = .ok (.istore_n 3, 1) := by decide +kernel
theorem d_P_translate_6 : decode prog_3_method_2_code 6 = .ok (.iconst 0, 1) := by decide +kernel
theorem d_P_translate_7 : decode prog_3_method_2_code 7 = .ok (.istore 4, 2) := by decide +kernel
theorem d_P_translate_9 : decode prog_3_method_2_code 9 = .ok (.iload 4, 2) := by decide +kernel
theorem d_P_translate_11 : decode prog_3_method_2_code 11 = .ok (.aload_n 1, 1) := by decide +kernel
theorem d_P_translate_12 : decode prog_3_method_2_code 12 = .ok (.invokevirtual 20, 3) := by decide +kernel
theorem d_P_translate_15 : decode prog_3_method_2_code 15 = .ok (.if_icmp .ge 48, 3) := by decide +kernel
theorem d_P_translate_18 : decode prog_3_method_2_code 18 = .ok (.aload_n 1, 1) := by decide +kernel
theorem d_P_translate_19 : decode prog_3_method_2_code 19 = .ok (.iload 4, 2) := by decide +kernel
theorem d_P_translate_21 : decode prog_3_method_2_code 21 = .ok (.invokevirtual 26, 3) := by decide +kernel
theorem d_P_translate_24 : decode prog_3_method_2_code 24 = .ok (.istore 5, 2) := by decide +kernel
theorem d_P_translate_26 : decode prog_3_method_2_code 26 = .ok (.iload_n 3, 1) := by decide +kernel
theorem d_P_translate_27 : decode prog_3_method_2_code 27 = .ok (.iload 5, 2) := by decide +kernel
theorem d_P_translate_29 : decode prog_3_method_2_code 29 = .ok (.invokestatic 30, 3) := by decide +kernel
theorem d_P_translate_32 : decode prog_3_method_2_code 32 = .ok (.isub, 1) := by decide +kernel
theorem d_P_translate_33 : decode prog_3_method_2_code 33 = .ok (.istore_n 3, 1) := by decide +kernel
theorem d_P_translate_34 : decode prog_3_method_2_code 34 = .ok (.aload_n 0, 1) := by decide +kernel
theorem d_P_translate_35 : decode prog_3_method_2_code 35 = .ok (.getfield 9, 3) := by decide +kernel
theorem d_P_translate_38 : decode prog_3_method_2_code 38 = .ok (.iload_n 3, 1) := by decide +kernel
theorem d_P_translate_39 : decode prog_3_method_2_code 39 = .ok (.aload_n 0, 1) := by decide +kernel
theorem d_P_translate_40 : decode prog_3_method_2_code 40 = .ok (.iload 5, 2) := by decide +kernel
theorem d_P_translate_42 : decode prog_3_method_2_code 42 = .ok (.aload_n 1, 1) := by decide +kernel
theorem d_P_translate_43 : decode prog_3_method_2_code 43 = .ok (.iload 4, 2) := by decide +kernel
theorem d_P_translate_45 : decode prog_3_method_2_code 45 = .ok (.invokevirtual 33, 3) := by decide +kernel
theorem d_P_translate_48 : decode prog_3_method_2_code 48 = .ok (.iload_n 3, 1) := by decide +kernel
theorem d_P_translate_49 : decode prog_3_method_2_code 49 = .ok (.aload_n 2, 1) := by decide +kernel
theorem d_P_translate_50 : decode prog_3_method_2_code 50 = .ok (.invokevirtual 36, 3) := by decide +kernel
theorem d_P_translate_53 : decode prog_3_method_2_code 53 = .ok (.iastore, 1) := by decide +kernel
theorem d_P_translate_54 : decode prog_3_method_2_code 54 = .ok (.iinc 3 1, 3) := by decide +kernel
theorem d_P_translate_57 : decode prog_3_method_2_code 57 = .ok (.iinc 4 1, 3) := by decide +kernel
theorem d_P_translate_60 : decode prog_3_method_2_code 60 = .ok (.goto (-51), 3) := by decide +kernel
theorem d_P_translate_63 : decode prog_3_method_2_code 63 = .ok (.return_, 1) := by decide +kernel
theorem d_O_is_0 : decode prog_5_method_4_code 0 = .ok (.aload_n 0, 1) := by decide +kernel
theorem d_O_is_1 : decode prog_5_method_4_code 1 = .ok (.getfield 18, 3) := by decide +kernel
theorem d_O_is_4 : decode prog_5_method_4_code 4 = .ok (.iload_n 2, 1) := by decide +kernel
theorem d_O_is_5 : decode prog_5_method_4_code 5 = .ok (.invokevirtual 40, 3) := by decide +kernel
theorem d_O_is_8 : decode prog_5_method_4_code 8 = .ok (.iload_n 1, 1) := by decide +kernel
theorem d_O_is_9 : decode prog_5_method_4_code 9 = .ok (.if_icmp .ne 7, 3) := by decide +kernel
theorem d_O_is_12 : decode prog_5_method_4_code 12 = .ok (.iconst 1, 1) := by decide +kernel
theorem d_O_is_13 : decode prog_5_method_4_code 13 = .ok (.goto 4, 3) := by decide +kernel
theorem d_O_is_16 : decode prog_5_method_4_code 16 = .ok (.iconst 0, 1) := by decide +kernel
theorem d_O_is_17 : decode prog_5_method_4_code 17 = .ok (.ireturn, 1) := by decide +kernel
theorem d_O_sum_0 : decode prog_5_method_6_code 0 = .ok (.aload_n 0, 1) := by decide +kernel
theorem d_O_sum_1 : decode prog_5_method_6_code 1 = .ok (.iconst 2, 1) := by decide +kernel
theorem d_O_sum_2 : decode prog_5_method_6_code 2 = .ok (.iload_n 2, 1) := by decide +kernel
theorem d_O_sum_3 : decode prog_5_method_6_code 3 = .ok (.invokevirtual 84, 3) := by decide +kernel
theorem d_O_sum_6 : decode prog_5_method_6_code 6 = .ok (.ifCond .eq 5, 3) := by decide +kernel
theorem d_O_sum_9 : decode prog_5_method_6_code 9 = .ok (.iload_n 1, 1) := by decide +kernel
theorem d_O_sum_10 : decode prog_5_method_6_code 10 = .ok (.ireturn, 1) := by decide +kernel
theorem d_O_sum_11 : decode prog_5_method_6_code 11 = .ok (.aload_n 0, 1) := by decide +kernel
theorem d_O_sum_12 : decode prog_5_method_6_code 12 = .ok (.iconst 2, 1) := by decide +kernel
theorem d_O_sum_13 : decode prog_5_method_6_code 13 = .ok (.iload_n 1, 1) := by decide +kernel
theorem d_O_sum_14 : decode prog_5_method_6_code 14 = .ok (.invokevirtual 84, 3) := by decide +kernel
theorem d_O_sum_17 : decode prog_5_method_6_code 17 = .ok (.ifCond .eq 5, 3) := by decide +kernel
theorem d_O_sum_20 : decode prog_5_method_6_code 20 = .ok (.iload_n 2, 1) := by decide +kernel
theorem d_O_sum_21 : decode prog_5_method_6_code 21 = .ok (.ireturn, 1) := by decide +kernel
theorem d_O_sum_22 : decode prog_5_method_6_code 22 = .ok (.aload_n 0, 1) := by decide +kernel
theorem d_O_sum_23 : decode prog_5_method_6_code 23 = .ok (.getfield 18, 3) := by decide +kernel
theorem d_O_sum_26 : decode prog_5_method_6_code 26 = .ok (.iconst 3, 1) := by decide +kernel
theorem d_O_sum_27 : decode prog_5_method_6_code 27 = .ok (.iload_n 1, 1) := by decide +kernel
theorem d_O_sum_28 : decode prog_5_method_6_code 28 = .ok (.iload_n 2, 1) := by decide +kernel
theorem d_O_sum_29 : decode prog_5_method_6_code 29 = .ok (.invokestatic 88, 3) := by decide +kernel
theorem d_O_sum_32 : decode prog_5_method_6_code 32 = .ok (.iload_n 1, 1) := by decide +kernel
theorem d_O_sum_33 : decode prog_5_method_6_code 33 = .ok (.iload_n 2, 1) := by decide +kernel
theorem d_O_sum_34 : decode prog_5_method_6_code 34 = .ok (.invokestatic 93, 3) := by decide +kernel
theorem d_O_sum_37 : decode prog_5_method_6_code 37 = .ok (.invokevirtual 81, 3) := by decide +kernel
theorem d_O_sum_40 : decode prog_5_method_6_code 40 = .ok (.ireturn, 1) := by decide +kernel
theorem d_O_nought_0 : decode prog_5_method_5_code 0 = .ok (.aload_n 0, 1) := by decide +kernel
theorem d_O_nought_1 : decode prog_5_method_5_code 1 = .ok (.getfield 18, 3) := by decide +kernel
theorem d_O_nought_4 : decode prog_5_method_5_code 4 = .ok (.iconst 2, 1) := by decide +kernel
theorem d_O_nought_5 : decode prog_5_method_5_code 5 = .ok (.iconst 0, 1) := by decide +kernel
theorem d_O_nought_6 : decode prog_5_method_5_code 6 = .ok (.iconst 0, 1) := by decide +kernel
theorem d_O_nought_7 : decode prog_5_method_5_code 7 = .ok (.invokevirtual 81, 3) := by decide +kernel
theorem d_O_nought_10 : decode prog_5_method_5_code 10 = .ok (.ireturn, 1) := by decide +kernel
theorem d_O_difference_0 : decode prog_5_method_7_code 0 = .ok (.aload_n 0, 1) := by decide +kernel
theorem d_O_difference_1 : decode prog_5_method_7_code 1 = .ok (.iconst 2, 1) := by decide +kernel
theorem d_O_difference_2 : decode prog_5_method_7_code 2 = .ok (.iload_n 2, 1) := by decide +kernel
theorem d_O_difference_3 : decode prog_5_method_7_code 3 = .ok (.invokevirtual 84, 3) := by decide +kernel
theorem d_O_difference_6 : decode prog_5_method_7_code 6 = .ok (.ifCond .eq 5, 3) := by decide +kernel
theorem d_O_difference_9 : decode prog_5_method_7_code 9 = .ok (.iload_n 1, 1) := by decide +kernel
theorem d_O_difference_10 : decode prog_5_method_7_code 10 = .ok (.ireturn, 1) := by decide +kernel
theorem d_O_difference_11 : decode prog_5_method_7_code 11 = .ok (.iload_n 1, 1) := by decide +kernel
theorem d_O_difference_12 : decode prog_5_method_7_code 12 = .ok (.iload_n 2, 1) := by decide +kernel
theorem d_O_difference_13 : decode prog_5_method_7_code 13 = .ok (.if_icmp .ne 8, 3) := by decide +kernel
theorem d_O_difference_16 : decode prog_5_method_7_code 16 = .ok (.aload_n 0, 1) := by decide +kernel
theorem d_O_difference_17 : decode prog_5_method_7_code 17 = .ok (.invokevirtual 96, 3) := by decide +kernel
theorem d_O_difference_20 : decode prog_5_method_7_code 20 = .ok (.ireturn, 1) := by decide +kernel
theorem d_O_difference_21 : decode prog_5_method_7_code 21 = .ok (.aload_n 0, 1) := by decide +kernel
theorem d_O_difference_22 : decode prog_5_method_7_code 22 = .ok (.getfield 18, 3) := by decide +kernel
theorem d_O_difference_25 : decode prog_5_method_7_code 25 = .ok (.iconst 4, 1) := by decide +kernel
theorem d_O_difference_26 : decode prog_5_method_7_code 26 = .ok (.iload_n 1, 1) := by decide +kernel
theorem d_O_difference_27 : decode prog_5_method_7_code 27 = .ok (.iload_n 2, 1) := by decide +kernel
theorem d_O_difference_28 : decode prog_5_method_7_code 28 = .ok (.invokevirtual 81, 3) := by decide +kernel
theorem d_O_difference_31 : decode prog_5_method_7_code 31 = .ok (.ireturn, 1) := by decide +kernel
theorem d_O_product_0 : decode prog_5_method_8_code 0 = .ok (.aload_n 0, 1) := by decide +kernel
theorem d_O_product_1 : decode prog_5_method_8_code 1 = .ok (.iconst 2, 1) := by decide +kernel
theorem d_O_product_2 : decode prog_5_method_8_code 2 = .ok (.iload_n 1, 1) := by decide +kernel
theorem d_O_product_3 : decode prog_5_method_8_code 3 = .ok (.invokevirtual 84, 3) := by decide +kernel
theorem d_O_product_6 : decode prog_5_method_8_code 6 = .ok (.ifCond .ne 12, 3) := by decide +kernel
theorem d_O_product_9 : decode prog_5_method_8_code 9 = .ok (.aload_n 0, 1) := by decide +kernel
theorem d_O_product_10 : decode prog_5_method_8_code 10 = .ok (.iconst 2, 1) := by decide +kernel
theorem d_O_product_11 : decode prog_5_method_8_code 11 = .ok (.iload_n 2, 1) := by decide +kernel
theorem d_O_product_12 : decode prog_5_method_8_code 12 = .ok (.invokevirtual 84, 3) := by decide +kernel
theorem d_O_product_15 : decode prog_5_method_8_code 15 = .ok (.ifCond .eq 8, 3) := by decide +kernel
theorem d_O_product_18 : decode prog_5_method_8_code 18 = .ok (.aload_n 0, 1) := by decide +kernel
theorem d_O_product_19 : decode prog_5_method_8_code 19 = .ok (.invokevirtual 96, 3) := by decide +kernel
theorem d_O_product_22 : decode prog_5_method_8_code 22 = .ok (.ireturn, 1) := by decide +kernel
theorem d_O_product_23 : decode prog_5_method_8_code 23 = .ok (.aload_n 0, 1) := by decide +kernel
theorem d_O_product_24 : decode prog_5_method_8_code 24 = .ok (.iconst 1, 1) := by decide +kernel
theorem d_O_product_25 : decode prog_5_method_8_code 25 = .ok (.iload_n 2, 1) := by decide +kernel
theorem d_O_product_26 : decode prog_5_method_8_code 26 = .ok (.invokevirtual 84, 3) := by decide +kernel
theorem d_O_product_29 : decode prog_5_method_8_code 29 = .ok (.ifCond .eq 5, 3) := by decide +kernel
theorem d_O_product_32 : decode prog_5_method_8_code 32 = .ok (.iload_n 1, 1) := by decide +kernel
theorem d_O_product_33 : decode prog_5_method_8_code 33 = .ok (.ireturn, 1) := by decide +kernel
theorem d_O_product_34 : decode prog_5_method_8_code 34 = .ok (.aload_n 0, 1) := by decide +kernel
theorem d_O_product_35 : decode prog_5_method_8_code 35 = .ok (.iconst 1, 1) := by decide +kernel
theorem d_O_product_36 : decode prog_5_method_8_code 36 = .ok (.iload_n 1, 1) := by decide +kernel
theorem d_O_product_37 : decode prog_5_method_8_code 37 = .ok (.invokevirtual 84, 3) := by decide +kernel
theorem d_O_product_40 : decode prog_5_method_8_code 40 = .ok (.ifCond .eq 5, 3) := by decide +kernel
theorem d_O_product_43 : decode prog_5_method_8_code 43 = .ok (.iload_n 2, 1) := by decide +kernel
theorem d_O_product_44 : decode prog_5_method_8_code 44 = .ok (.ireturn, 1) := by decide +kernel
theorem d_O_product_45 : decode prog_5_method_8_code 45 = .ok (.aload_n 0, 1) := by decide +kernel
theorem d_O_product_46 : decode prog_5_method_8_code 46 = .ok (.getfield 18, 3) := by decide +kernel
theorem d_O_product_49 : decode prog_5_method_8_code 49 = .ok (.iconst 5, 1) := by decide +kernel
theorem d_O_product_50 : decode prog_5_method_8_code 50 = .ok (.iload_n 1, 1) := by decide +kernel
theorem d_O_product_51 : decode prog_5_method_8_code 51 = .ok (.iload_n 2, 1) := by decide +kernel
theorem d_O_product_52 : decode prog_5_method_8_code 52 = .ok (.invokevirtual 81, 3) := by decide +kernel
theorem d_O_product_55 : decode prog_5_method_8_code 55 = .ok (.ireturn, 1) := by decide +kernel
theorem d_O_turned_0 : decode prog_5_method_9_code 0 = .ok (.aload_n 0, 1) := by decide +kernel
theorem d_O_turned_1 : decode prog_5_method_9_code 1 = .ok (.iconst 1, 1) := by decide +kernel
theorem d_O_turned_2 : decode prog_5_method_9_code 2 = .ok (.iload_n 1, 1) := by decide +kernel
theorem d_O_turned_3 : decode prog_5_method_9_code 3 = .ok (.invokevirtual 84, 3) := by decide +kernel
theorem d_O_turned_6 : decode prog_5_method_9_code 6 = .ok (.ifCond .ne 12, 3) := by decide +kernel
theorem d_O_turned_9 : decode prog_5_method_9_code 9 = .ok (.aload_n 0, 1) := by decide +kernel
theorem d_O_turned_10 : decode prog_5_method_9_code 10 = .ok (.iconst 2, 1) := by decide +kernel
theorem d_O_turned_11 : decode prog_5_method_9_code 11 = .ok (.iload_n 1, 1) := by decide +kernel
theorem d_O_turned_12 : decode prog_5_method_9_code 12 = .ok (.invokevirtual 84, 3) := by decide +kernel
theorem d_O_turned_15 : decode prog_5_method_9_code 15 = .ok (.ifCond .eq 5, 3) := by decide +kernel
theorem d_O_turned_18 : decode prog_5_method_9_code 18 = .ok (.iload_n 1, 1) := by decide +kernel
theorem d_O_turned_19 : decode prog_5_method_9_code 19 = .ok (.ireturn, 1) := by decide +kernel
theorem d_O_turned_20 : decode prog_5_method_9_code 20 = .ok (.aload_n 0, 1) := by decide +kernel
theorem d_O_turned_21 : decode prog_5_method_9_code 21 = .ok (.bipush 6, 2) := by decide +kernel
theorem d_O_turned_23 : decode prog_5_method_9_code 23 = .ok (.iload_n 1, 1) := by decide +kernel
theorem d_O_turned_24 : decode prog_5_method_9_code 24 = .ok (.invokevirtual 84, 3) := by decide +kernel
theorem d_O_turned_27 : decode prog_5_method_9_code 27 = .ok (.ifCond .eq 12, 3) := by decide +kernel
theorem d_O_turned_30 : decode prog_5_method_9_code 30 = .ok (.aload_n 0, 1) := by decide +kernel
theorem d_O_turned_31 : decode prog_5_method_9_code 31 = .ok (.getfield 18, 3) := by decide +kernel
theorem d_O_turned_34 : decode prog_5_method_9_code 34 = .ok (.iload_n 1, 1) := by decide +kernel
theorem d_O_turned_35 : decode prog_5_method_9_code 35 = .ok (.invokevirtual 44, 3) := by decide +kernel
theorem d_O_turned_38 : decode prog_5_method_9_code 38 = .ok (.ireturn, 1) := by decide +kernel
theorem d_O_turned_39 : decode prog_5_method_9_code 39 = .ok (.aload_n 0, 1) := by decide +kernel
theorem d_O_turned_40 : decode prog_5_method_9_code 40 = .ok (.getfield 18, 3) := by decide +kernel
theorem d_O_turned_43 : decode prog_5_method_9_code 43 = .ok (.bipush 6, 2) := by decide +kernel
theorem d_O_turned_45 : decode prog_5_method_9_code 45 = .ok (.iload_n 1, 1) := by decide +kernel
theorem d_O_turned_46 : decode prog_5_method_9_code 46 = .ok (.iconst 0, 1) := by decide +kernel
theorem d_O_turned_47 : decode prog_5_method_9_code 47 = .ok (.invokevirtual 81, 3) := by decide +kernel
theorem d_O_turned_50 : decode prog_5_method_9_code 50 = .ok (.ireturn, 1) := by decide +kernel
theorem d_O_scaled_0 : decode prog_5_method_10_code 0 = .ok (.aload_n 0, 1) := by decide +kernel
theorem d_O_scaled_1 : decode prog_5_method_10_code 1 = .ok (.bipush 7, 2) := by decide +kernel
theorem d_O_scaled_3 : decode prog_5_method_10_code 3 = .ok (.iload_n 1, 1) := by decide +kernel
theorem d_O_scaled_4 : decode prog_5_method_10_code 4 = .ok (.invokevirtual 84, 3) := by decide +kernel
theorem d_O_scaled_7 : decode prog_5_method_10_code 7 = .ok (.istore_n 3, 1) := by decide +kernel
theorem d_O_scaled_8 : decode prog_5_method_10_code 8 = .ok (.iload_n 3, 1) := by decide +kernel
theorem d_O_scaled_9 : decode prog_5_method_10_code 9 = .ok (.ifCond .eq 14, 3) := by decide +kernel
theorem d_O_scaled_12 : decode prog_5_method_10_code 12 = .ok (.aload_n 0, 1) := by decide +kernel
theorem d_O_scaled_13 : decode prog_5_method_10_code 13 = .ok (.getfield 18, 3) := by decide +kernel
theorem d_O_scaled_16 : decode prog_5_method_10_code 16 = .ok (.iload_n 1, 1) := by decide +kernel
theorem d_O_scaled_17 : decode prog_5_method_10_code 17 = .ok (.invokevirtual 44, 3) := by decide +kernel
theorem d_O_scaled_20 : decode prog_5_method_10_code 20 = .ok (.goto 4, 3) := by decide +kernel
theorem d_O_scaled_23 : decode prog_5_method_10_code 23 = .ok (.iload_n 1, 1) := by decide +kernel
theorem d_O_scaled_24 : decode prog_5_method_10_code 24 = .ok (.istore 4, 2) := by decide +kernel
theorem d_O_scaled_26 : decode prog_5_method_10_code 26 = .ok (.iload_n 3, 1) := by decide +kernel
theorem d_O_scaled_27 : decode prog_5_method_10_code 27 = .ok (.ifCond .eq 21, 3) := by decide +kernel
theorem d_O_scaled_30 : decode prog_5_method_10_code 30 = .ok (.aload_n 0, 1) := by decide +kernel
theorem d_O_scaled_31 : decode prog_5_method_10_code 31 = .ok (.getfield 18, 3) := by decide +kernel
theorem d_O_scaled_34 : decode prog_5_method_10_code 34 = .ok (.iload_n 1, 1) := by decide +kernel
theorem d_O_scaled_35 : decode prog_5_method_10_code 35 = .ok (.invokevirtual 47, 3) := by decide +kernel
theorem d_O_scaled_38 : decode prog_5_method_10_code 38 = .ok (.iload_n 2, 1) := by decide +kernel
theorem d_O_scaled_39 : decode prog_5_method_10_code 39 = .ok (.imul, 1) := by decide +kernel
theorem d_O_scaled_40 : decode prog_5_method_10_code 40 = .ok (.aload_n 0, 1) := by decide +kernel
theorem d_O_scaled_41 : decode prog_5_method_10_code 41 = .ok (.getfield 9, 3) := by decide +kernel
theorem d_O_scaled_44 : decode prog_5_method_10_code 44 = .ok (.irem, 1) := by decide +kernel
theorem d_O_scaled_45 : decode prog_5_method_10_code 45 = .ok (.goto 4, 3) := by decide +kernel
theorem d_O_scaled_48 : decode prog_5_method_10_code 48 = .ok (.iload_n 2, 1) := by decide +kernel
theorem d_O_scaled_49 : decode prog_5_method_10_code 49 = .ok (.istore 5, 2) := by decide +kernel
theorem d_O_scaled_51 : decode prog_5_method_10_code 51 = .ok (.iload 5, 2) := by decide +kernel
theorem d_O_scaled_53 : decode prog_5_method_10_code 53 = .ok (.ifCond .eq 13, 3) := by decide +kernel
theorem d_O_scaled_56 : decode prog_5_method_10_code 56 = .ok (.aload_n 0, 1) := by decide +kernel
theorem d_O_scaled_57 : decode prog_5_method_10_code 57 = .ok (.iconst 2, 1) := by decide +kernel
theorem d_O_scaled_58 : decode prog_5_method_10_code 58 = .ok (.iload 4, 2) := by decide +kernel
theorem d_O_scaled_60 : decode prog_5_method_10_code 60 = .ok (.invokevirtual 84, 3) := by decide +kernel
theorem d_O_scaled_63 : decode prog_5_method_10_code 63 = .ok (.ifCond .eq 8, 3) := by decide +kernel
theorem d_O_scaled_66 : decode prog_5_method_10_code 66 = .ok (.aload_n 0, 1) := by decide +kernel
theorem d_O_scaled_67 : decode prog_5_method_10_code 67 = .ok (.invokevirtual 96, 3) := by decide +kernel
theorem d_O_scaled_70 : decode prog_5_method_10_code 70 = .ok (.ireturn, 1) := by decide +kernel
theorem d_O_scaled_71 : decode prog_5_method_10_code 71 = .ok (.iload 5, 2) := by decide +kernel
theorem d_O_scaled_73 : decode prog_5_method_10_code 73 = .ok (.iconst 1, 1) := by decide +kernel
theorem d_O_scaled_74 : decode prog_5_method_10_code 74 = .ok (.if_icmp .ne 6, 3) := by decide +kernel
theorem d_O_scaled_77 : decode prog_5_method_10_code 77 = .ok (.iload 4, 2) := by decide +kernel
theorem d_O_scaled_79 : decode prog_5_method_10_code 79 = .ok (.ireturn, 1) := by decide +kernel
theorem d_O_scaled_80 : decode prog_5_method_10_code 80 = .ok (.aload_n 0, 1) := by decide +kernel
theorem d_O_scaled_81 : decode prog_5_method_10_code 81 = .ok (.getfield 18, 3) := by decide +kernel
theorem d_O_scaled_84 : decode prog_5_method_10_code 84 = .ok (.bipush 7, 2) := by decide +kernel
theorem d_O_scaled_86 : decode prog_5_method_10_code 86 = .ok (.iload 4, 2) := by decide +kernel
theorem d_O_scaled_88 : decode prog_5_method_10_code 88 = .ok (.iload 5, 2) := by decide +kernel
theorem d_O_scaled_90 : decode prog_5_method_10_code 90 = .ok (.invokevirtual 81, 3) := by decide +kernel
theorem d_O_scaled_93 : decode prog_5_method_10_code 93 = .ok (.ireturn, 1) := by decide +kernel
theorem d_O_value_0 : decode prog_5_method_3_code 0 = .ok (.iload_n 1, 1) := by decide +kernel
theorem d_O_value_1 : decode prog_5_method_3_code 1 = .ok (.tableswitch 114 3 7 #[35, 52, 69, 86, 97], 35) := by decide +kernel
theorem d_O_value_36 : decode prog_5_method_3_code 36 = .ok (.aload_n 0, 1) := by decide +kernel
theorem d_O_value_37 : decode prog_5_method_3_code 37 = .ok (.aload_n 0, 1) := by decide +kernel
theorem d_O_value_38 : decode prog_5_method_3_code 38 = .ok (.getfield 22, 3) := by decide +kernel
theorem d_O_value_41 : decode prog_5_method_3_code 41 = .ok (.iload_n 2, 1) := by decide +kernel
theorem d_O_value_42 : decode prog_5_method_3_code 42 = .ok (.iaload, 1) := by decide +kernel
theorem d_O_value_43 : decode prog_5_method_3_code 43 = .ok (.aload_n 0, 1) := by decide +kernel
theorem d_O_value_44 : decode prog_5_method_3_code 44 = .ok (.getfield 22, 3) := by decide +kernel
theorem d_O_value_47 : decode prog_5_method_3_code 47 = .ok (.iload_n 3, 1) := by decide +kernel
theorem d_O_value_48 : decode prog_5_method_3_code 48 = .ok (.iaload, 1) := by decide +kernel
theorem d_O_value_49 : decode prog_5_method_3_code 49 = .ok (.invokevirtual 65, 3) := by decide +kernel
theorem d_O_value_52 : decode prog_5_method_3_code 52 = .ok (.ireturn, 1) := by decide +kernel
theorem d_O_value_53 : decode prog_5_method_3_code 53 = .ok (.aload_n 0, 1) := by decide +kernel
theorem d_O_value_54 : decode prog_5_method_3_code 54 = .ok (.aload_n 0, 1) := by decide +kernel
theorem d_O_value_55 : decode prog_5_method_3_code 55 = .ok (.getfield 22, 3) := by decide +kernel
theorem d_O_value_58 : decode prog_5_method_3_code 58 = .ok (.iload_n 2, 1) := by decide +kernel
theorem d_O_value_59 : decode prog_5_method_3_code 59 = .ok (.iaload, 1) := by decide +kernel
theorem d_O_value_60 : decode prog_5_method_3_code 60 = .ok (.aload_n 0, 1) := by decide +kernel
theorem d_O_value_61 : decode prog_5_method_3_code 61 = .ok (.getfield 22, 3) := by decide +kernel
theorem d_O_value_64 : decode prog_5_method_3_code 64 = .ok (.iload_n 3, 1) := by decide +kernel
theorem d_O_value_65 : decode prog_5_method_3_code 65 = .ok (.iaload, 1) := by decide +kernel
theorem d_O_value_66 : decode prog_5_method_3_code 66 = .ok (.invokevirtual 69, 3) := by decide +kernel
theorem d_O_value_69 : decode prog_5_method_3_code 69 = .ok (.ireturn, 1) := by decide +kernel
theorem d_O_value_70 : decode prog_5_method_3_code 70 = .ok (.aload_n 0, 1) := by decide +kernel
theorem d_O_value_71 : decode prog_5_method_3_code 71 = .ok (.aload_n 0, 1) := by decide +kernel
theorem d_O_value_72 : decode prog_5_method_3_code 72 = .ok (.getfield 22, 3) := by decide +kernel
theorem d_O_value_75 : decode prog_5_method_3_code 75 = .ok (.iload_n 2, 1) := by decide +kernel
theorem d_O_value_76 : decode prog_5_method_3_code 76 = .ok (.iaload, 1) := by decide +kernel
theorem d_O_value_77 : decode prog_5_method_3_code 77 = .ok (.aload_n 0, 1) := by decide +kernel
theorem d_O_value_78 : decode prog_5_method_3_code 78 = .ok (.getfield 22, 3) := by decide +kernel
theorem d_O_value_81 : decode prog_5_method_3_code 81 = .ok (.iload_n 3, 1) := by decide +kernel
theorem d_O_value_82 : decode prog_5_method_3_code 82 = .ok (.iaload, 1) := by decide +kernel
theorem d_O_value_83 : decode prog_5_method_3_code 83 = .ok (.invokevirtual 72, 3) := by decide +kernel
theorem d_O_value_86 : decode prog_5_method_3_code 86 = .ok (.ireturn, 1) := by decide +kernel
theorem d_O_value_87 : decode prog_5_method_3_code 87 = .ok (.aload_n 0, 1) := by decide +kernel
theorem d_O_value_88 : decode prog_5_method_3_code 88 = .ok (.aload_n 0, 1) := by decide +kernel
theorem d_O_value_89 : decode prog_5_method_3_code 89 = .ok (.getfield 22, 3) := by decide +kernel
theorem d_O_value_92 : decode prog_5_method_3_code 92 = .ok (.iload_n 2, 1) := by decide +kernel
theorem d_O_value_93 : decode prog_5_method_3_code 93 = .ok (.iaload, 1) := by decide +kernel
theorem d_O_value_94 : decode prog_5_method_3_code 94 = .ok (.invokevirtual 75, 3) := by decide +kernel
theorem d_O_value_97 : decode prog_5_method_3_code 97 = .ok (.ireturn, 1) := by decide +kernel
theorem d_O_value_98 : decode prog_5_method_3_code 98 = .ok (.aload_n 0, 1) := by decide +kernel
theorem d_O_value_99 : decode prog_5_method_3_code 99 = .ok (.aload_n 0, 1) := by decide +kernel
theorem d_O_value_100 : decode prog_5_method_3_code 100 = .ok (.getfield 22, 3) := by decide +kernel
theorem d_O_value_103 : decode prog_5_method_3_code 103 = .ok (.iload_n 2, 1) := by decide +kernel
theorem d_O_value_104 : decode prog_5_method_3_code 104 = .ok (.iaload, 1) := by decide +kernel
theorem d_O_value_105 : decode prog_5_method_3_code 105 = .ok (.iload_n 3, 1) := by decide +kernel
theorem d_O_value_106 : decode prog_5_method_3_code 106 = .ok (.aload_n 0, 1) := by decide +kernel
theorem d_O_value_107 : decode prog_5_method_3_code 107 = .ok (.getfield 9, 3) := by decide +kernel
theorem d_O_value_110 : decode prog_5_method_3_code 110 = .ok (.irem, 1) := by decide +kernel
theorem d_O_value_111 : decode prog_5_method_3_code 111 = .ok (.invokevirtual 78, 3) := by decide +kernel
theorem d_O_value_114 : decode prog_5_method_3_code 114 = .ok (.ireturn, 1) := by decide +kernel
theorem d_O_value_115 : decode prog_5_method_3_code 115 = .ok (.aload_n 0, 1) := by decide +kernel
theorem d_O_value_116 : decode prog_5_method_3_code 116 = .ok (.getfield 18, 3) := by decide +kernel
theorem d_O_value_119 : decode prog_5_method_3_code 119 = .ok (.iload_n 1, 1) := by decide +kernel
theorem d_O_value_120 : decode prog_5_method_3_code 120 = .ok (.iload_n 2, 1) := by decide +kernel
theorem d_O_value_121 : decode prog_5_method_3_code 121 = .ok (.iload_n 3, 1) := by decide +kernel
theorem d_O_value_122 : decode prog_5_method_3_code 122 = .ok (.invokevirtual 81, 3) := by decide +kernel
theorem d_O_value_125 : decode prog_5_method_3_code 125 = .ok (.ireturn, 1) := by decide +kernel
theorem d_O_markNeeded_0 : decode prog_5_method_11_code 0 = .ok (.iconst 0, 1) := by decide +kernel
theorem d_O_markNeeded_1 : decode prog_5_method_11_code 1 = .ok (.istore_n 2, 1) := by decide +kernel
theorem d_O_markNeeded_2 : decode prog_5_method_11_code 2 = .ok (.iload_n 2, 1) := by decide +kernel
theorem d_O_markNeeded_3 : decode prog_5_method_11_code 3 = .ok (.aload_n 0, 1) := by decide +kernel
theorem d_O_markNeeded_4 : decode prog_5_method_11_code 4 = .ok (.getfield 18, 3) := by decide +kernel
theorem d_O_markNeeded_7 : decode prog_5_method_11_code 7 = .ok (.invokevirtual 36, 3) := by decide +kernel
theorem d_O_markNeeded_10 : decode prog_5_method_11_code 10 = .ok (.if_icmp .ge 25, 3) := by decide +kernel
theorem d_O_markNeeded_13 : decode prog_5_method_11_code 13 = .ok (.aload_n 0, 1) := by decide +kernel
theorem d_O_markNeeded_14 : decode prog_5_method_11_code 14 = .ok (.getfield 26, 3) := by decide +kernel
theorem d_O_markNeeded_17 : decode prog_5_method_11_code 17 = .ok (.iload_n 2, 1) := by decide +kernel
theorem d_O_markNeeded_18 : decode prog_5_method_11_code 18 = .ok (.iload_n 2, 1) := by decide +kernel
theorem d_O_markNeeded_19 : decode prog_5_method_11_code 19 = .ok (.iload_n 1, 1) := by decide +kernel
theorem d_O_markNeeded_20 : decode prog_5_method_11_code 20 = .ok (.if_icmp .ne 7, 3) := by decide +kernel
theorem d_O_markNeeded_23 : decode prog_5_method_11_code 23 = .ok (.iconst 1, 1) := by decide +kernel
theorem d_O_markNeeded_24 : decode prog_5_method_11_code 24 = .ok (.goto 4, 3) := by decide +kernel
theorem d_O_markNeeded_27 : decode prog_5_method_11_code 27 = .ok (.iconst 0, 1) := by decide +kernel
theorem d_O_markNeeded_28 : decode prog_5_method_11_code 28 = .ok (.bastore, 1) := by decide +kernel
theorem d_O_markNeeded_29 : decode prog_5_method_11_code 29 = .ok (.iinc 2 1, 3) := by decide +kernel
theorem d_O_markNeeded_32 : decode prog_5_method_11_code 32 = .ok (.goto (-30), 3) := by decide +kernel
theorem d_O_markNeeded_35 : decode prog_5_method_11_code 35 = .ok (.iload_n 1, 1) := by decide +kernel
theorem d_O_markNeeded_36 : decode prog_5_method_11_code 36 = .ok (.istore_n 2, 1) := by decide +kernel
theorem d_O_markNeeded_37 : decode prog_5_method_11_code 37 = .ok (.iload_n 2, 1) := by decide +kernel
theorem d_O_markNeeded_38 : decode prog_5_method_11_code 38 = .ok (.ifCond .lt 71, 3) := by decide +kernel
theorem d_O_markNeeded_41 : decode prog_5_method_11_code 41 = .ok (.aload_n 0, 1) := by decide +kernel
theorem d_O_markNeeded_42 : decode prog_5_method_11_code 42 = .ok (.getfield 26, 3) := by decide +kernel
theorem d_O_markNeeded_45 : decode prog_5_method_11_code 45 = .ok (.iload_n 2, 1) := by decide +kernel
theorem d_O_markNeeded_46 : decode prog_5_method_11_code 46 = .ok (.baload, 1) := by decide +kernel
theorem d_O_markNeeded_47 : decode prog_5_method_11_code 47 = .ok (.ifCond .ne 6, 3) := by decide +kernel
theorem d_O_markNeeded_50 : decode prog_5_method_11_code 50 = .ok (.goto 53, 3) := by decide +kernel
theorem d_O_markNeeded_53 : decode prog_5_method_11_code 53 = .ok (.aload_n 0, 1) := by decide +kernel
theorem d_O_markNeeded_54 : decode prog_5_method_11_code 54 = .ok (.getfield 18, 3) := by decide +kernel
theorem d_O_markNeeded_57 : decode prog_5_method_11_code 57 = .ok (.iload_n 2, 1) := by decide +kernel
theorem d_O_markNeeded_58 : decode prog_5_method_11_code 58 = .ok (.invokevirtual 40, 3) := by decide +kernel
theorem d_O_markNeeded_61 : decode prog_5_method_11_code 61 = .ok (.invokestatic 99, 3) := by decide +kernel
theorem d_O_markNeeded_64 : decode prog_5_method_11_code 64 = .ok (.istore_n 3, 1) := by decide +kernel
theorem d_O_markNeeded_65 : decode prog_5_method_11_code 65 = .ok (.iload_n 3, 1) := by decide +kernel
theorem d_O_markNeeded_66 : decode prog_5_method_11_code 66 = .ok (.iconst 1, 1) := by decide +kernel
theorem d_O_markNeeded_67 : decode prog_5_method_11_code 67 = .ok (.if_icmp .lt 17, 3) := by decide +kernel
theorem d_O_markNeeded_70 : decode prog_5_method_11_code 70 = .ok (.aload_n 0, 1) := by decide +kernel
theorem d_O_markNeeded_71 : decode prog_5_method_11_code 71 = .ok (.getfield 26, 3) := by decide +kernel
theorem d_O_markNeeded_74 : decode prog_5_method_11_code 74 = .ok (.aload_n 0, 1) := by decide +kernel
theorem d_O_markNeeded_75 : decode prog_5_method_11_code 75 = .ok (.getfield 18, 3) := by decide +kernel
theorem d_O_markNeeded_78 : decode prog_5_method_11_code 78 = .ok (.iload_n 2, 1) := by decide +kernel
theorem d_O_markNeeded_79 : decode prog_5_method_11_code 79 = .ok (.invokevirtual 44, 3) := by decide +kernel
theorem d_O_markNeeded_82 : decode prog_5_method_11_code 82 = .ok (.iconst 1, 1) := by decide +kernel
theorem d_O_markNeeded_83 : decode prog_5_method_11_code 83 = .ok (.bastore, 1) := by decide +kernel
theorem d_O_markNeeded_84 : decode prog_5_method_11_code 84 = .ok (.iload_n 3, 1) := by decide +kernel
theorem d_O_markNeeded_85 : decode prog_5_method_11_code 85 = .ok (.iconst 2, 1) := by decide +kernel
theorem d_O_markNeeded_86 : decode prog_5_method_11_code 86 = .ok (.if_icmp .ne 17, 3) := by decide +kernel
theorem d_O_markNeeded_89 : decode prog_5_method_11_code 89 = .ok (.aload_n 0, 1) := by decide +kernel
theorem d_O_markNeeded_90 : decode prog_5_method_11_code 90 = .ok (.getfield 26, 3) := by decide +kernel
theorem d_O_markNeeded_93 : decode prog_5_method_11_code 93 = .ok (.aload_n 0, 1) := by decide +kernel
theorem d_O_markNeeded_94 : decode prog_5_method_11_code 94 = .ok (.getfield 18, 3) := by decide +kernel
theorem d_O_markNeeded_97 : decode prog_5_method_11_code 97 = .ok (.iload_n 2, 1) := by decide +kernel
theorem d_O_markNeeded_98 : decode prog_5_method_11_code 98 = .ok (.invokevirtual 47, 3) := by decide +kernel
theorem d_O_markNeeded_101 : decode prog_5_method_11_code 101 = .ok (.iconst 1, 1) := by decide +kernel
theorem d_O_markNeeded_102 : decode prog_5_method_11_code 102 = .ok (.bastore, 1) := by decide +kernel
theorem d_O_markNeeded_103 : decode prog_5_method_11_code 103 = .ok (.iinc 2 (-1), 3) := by decide +kernel
theorem d_O_markNeeded_106 : decode prog_5_method_11_code 106 = .ok (.goto (-69), 3) := by decide +kernel
theorem d_O_markNeeded_109 : decode prog_5_method_11_code 109 = .ok (.return_, 1) := by decide +kernel
theorem d_O_rewritten_0 : decode prog_5_method_13_code 0 = .ok (.aload_n 0, 1) := by decide +kernel
theorem d_O_rewritten_1 : decode prog_5_method_13_code 1 = .ok (.getfield 18, 3) := by decide +kernel
theorem d_O_rewritten_4 : decode prog_5_method_13_code 4 = .ok (.iload_n 1, 1) := by decide +kernel
theorem d_O_rewritten_5 : decode prog_5_method_13_code 5 = .ok (.invokevirtual 40, 3) := by decide +kernel
theorem d_O_rewritten_8 : decode prog_5_method_13_code 8 = .ok (.istore_n 3, 1) := by decide +kernel
theorem d_O_rewritten_9 : decode prog_5_method_13_code 9 = .ok (.iload_n 3, 1) := by decide +kernel
theorem d_O_rewritten_10 : decode prog_5_method_13_code 10 = .ok (.invokestatic 99, 3) := by decide +kernel
theorem d_O_rewritten_13 : decode prog_5_method_13_code 13 = .ok (.istore 4, 2) := by decide +kernel
theorem d_O_rewritten_15 : decode prog_5_method_13_code 15 = .ok (.iload 4, 2) := by decide +kernel
theorem d_O_rewritten_17 : decode prog_5_method_13_code 17 = .ok (.iconst 1, 1) := by decide +kernel
theorem d_O_rewritten_18 : decode prog_5_method_13_code 18 = .ok (.if_icmp .lt 19, 3) := by decide +kernel
theorem d_O_rewritten_21 : decode prog_5_method_13_code 21 = .ok (.aload_n 0, 1) := by decide +kernel
theorem d_O_rewritten_22 : decode prog_5_method_13_code 22 = .ok (.getfield 30, 3) := by decide +kernel
theorem d_O_rewritten_25 : decode prog_5_method_13_code 25 = .ok (.aload_n 0, 1) := by decide +kernel
theorem d_O_rewritten_26 : decode prog_5_method_13_code 26 = .ok (.getfield 18, 3) := by decide +kernel
theorem d_O_rewritten_29 : decode prog_5_method_13_code 29 = .ok (.iload_n 1, 1) := by decide +kernel
theorem d_O_rewritten_30 : decode prog_5_method_13_code 30 = .ok (.invokevirtual 44, 3) := by decide +kernel
theorem d_O_rewritten_33 : decode prog_5_method_13_code 33 = .ok (.iaload, 1) := by decide +kernel
theorem d_O_rewritten_34 : decode prog_5_method_13_code 34 = .ok (.goto 4, 3) := by decide +kernel
theorem d_O_rewritten_37 : decode prog_5_method_13_code 37 = .ok (.iconst 0, 1) := by decide +kernel
theorem d_O_rewritten_38 : decode prog_5_method_13_code 38 = .ok (.istore 5, 2) := by decide +kernel
theorem d_O_rewritten_40 : decode prog_5_method_13_code 40 = .ok (.iload 4, 2) := by decide +kernel
theorem d_O_rewritten_42 : decode prog_5_method_13_code 42 = .ok (.iconst 2, 1) := by decide +kernel
theorem d_O_rewritten_43 : decode prog_5_method_13_code 43 = .ok (.if_icmp .ne 19, 3) := by decide +kernel
theorem d_O_rewritten_46 : decode prog_5_method_13_code 46 = .ok (.aload_n 0, 1) := by decide +kernel
theorem d_O_rewritten_47 : decode prog_5_method_13_code 47 = .ok (.getfield 30, 3) := by decide +kernel
theorem d_O_rewritten_50 : decode prog_5_method_13_code 50 = .ok (.aload_n 0, 1) := by decide +kernel
theorem d_O_rewritten_51 : decode prog_5_method_13_code 51 = .ok (.getfield 18, 3) := by decide +kernel
theorem d_O_rewritten_54 : decode prog_5_method_13_code 54 = .ok (.iload_n 1, 1) := by decide +kernel
theorem d_O_rewritten_55 : decode prog_5_method_13_code 55 = .ok (.invokevirtual 47, 3) := by decide +kernel
theorem d_O_rewritten_58 : decode prog_5_method_13_code 58 = .ok (.iaload, 1) := by decide +kernel
theorem d_O_rewritten_59 : decode prog_5_method_13_code 59 = .ok (.goto 11, 3) := by decide +kernel
theorem d_O_rewritten_62 : decode prog_5_method_13_code 62 = .ok (.aload_n 0, 1) := by decide +kernel
theorem d_O_rewritten_63 : decode prog_5_method_13_code 63 = .ok (.getfield 18, 3) := by decide +kernel
theorem d_O_rewritten_66 : decode prog_5_method_13_code 66 = .ok (.iload_n 1, 1) := by decide +kernel
theorem d_O_rewritten_67 : decode prog_5_method_13_code 67 = .ok (.invokevirtual 47, 3) := by decide +kernel
theorem d_O_rewritten_70 : decode prog_5_method_13_code 70 = .ok (.istore 6, 2) := by decide +kernel
theorem d_O_rewritten_72 : decode prog_5_method_13_code 72 = .ok (.aload_n 2, 1) := by decide +kernel
theorem d_O_rewritten_73 : decode prog_5_method_13_code 73 = .ok (.iload_n 3, 1) := by decide +kernel
theorem d_O_rewritten_74 : decode prog_5_method_13_code 74 = .ok (.iload 5, 2) := by decide +kernel
theorem d_O_rewritten_76 : decode prog_5_method_13_code 76 = .ok (.iload 6, 2) := by decide +kernel
theorem d_O_rewritten_78 : decode prog_5_method_13_code 78 = .ok (.invokevirtual 106, 3) := by decide +kernel
theorem d_O_rewritten_81 : decode prog_5_method_13_code 81 = .ok (.ireturn, 1) := by decide +kernel
theorem d_O_rewrite_0 : decode prog_5_method_12_code 0 = .ok (.aload_n 1, 1) := by decide +kernel
theorem d_O_rewrite_1 : decode prog_5_method_12_code 1 = .ok (.invokevirtual 33, 3) := by decide +kernel
theorem d_O_rewrite_4 : decode prog_5_method_12_code 4 = .ok (.iconst 0, 1) := by decide +kernel
theorem d_O_rewrite_5 : decode prog_5_method_12_code 5 = .ok (.istore_n 2, 1) := by decide +kernel
theorem d_O_rewrite_6 : decode prog_5_method_12_code 6 = .ok (.iload_n 2, 1) := by decide +kernel
theorem d_O_rewrite_7 : decode prog_5_method_12_code 7 = .ok (.aload_n 0, 1) := by decide +kernel
theorem d_O_rewrite_8 : decode prog_5_method_12_code 8 = .ok (.getfield 18, 3) := by decide +kernel
theorem d_O_rewrite_11 : decode prog_5_method_12_code 11 = .ok (.invokevirtual 36, 3) := by decide +kernel
theorem d_O_rewrite_14 : decode prog_5_method_12_code 14 = .ok (.if_icmp .ge 30, 3) := by decide +kernel
theorem d_O_rewrite_17 : decode prog_5_method_12_code 17 = .ok (.aload_n 0, 1) := by decide +kernel
theorem d_O_rewrite_18 : decode prog_5_method_12_code 18 = .ok (.getfield 26, 3) := by decide +kernel
theorem d_O_rewrite_21 : decode prog_5_method_12_code 21 = .ok (.iload_n 2, 1) := by decide +kernel
theorem d_O_rewrite_22 : decode prog_5_method_12_code 22 = .ok (.baload, 1) := by decide +kernel
theorem d_O_rewrite_23 : decode prog_5_method_12_code 23 = .ok (.ifCond .eq 15, 3) := by decide +kernel
theorem d_O_rewrite_26 : decode prog_5_method_12_code 26 = .ok (.aload_n 0, 1) := by decide +kernel
theorem d_O_rewrite_27 : decode prog_5_method_12_code 27 = .ok (.getfield 30, 3) := by decide +kernel
theorem d_O_rewrite_30 : decode prog_5_method_12_code 30 = .ok (.iload_n 2, 1) := by decide +kernel
theorem d_O_rewrite_31 : decode prog_5_method_12_code 31 = .ok (.aload_n 0, 1) := by decide +kernel
theorem d_O_rewrite_32 : decode prog_5_method_12_code 32 = .ok (.iload_n 2, 1) := by decide +kernel
theorem d_O_rewrite_33 : decode prog_5_method_12_code 33 = .ok (.aload_n 1, 1) := by decide +kernel
theorem d_O_rewrite_34 : decode prog_5_method_12_code 34 = .ok (.invokevirtual 102, 3) := by decide +kernel
theorem d_O_rewrite_37 : decode prog_5_method_12_code 37 = .ok (.iastore, 1) := by decide +kernel
theorem d_O_rewrite_38 : decode prog_5_method_12_code 38 = .ok (.iinc 2 1, 3) := by decide +kernel
theorem d_O_rewrite_41 : decode prog_5_method_12_code 41 = .ok (.goto (-35), 3) := by decide +kernel
theorem d_O_rewrite_44 : decode prog_5_method_12_code 44 = .ok (.return_, 1) := by decide +kernel
theorem d_O_improve_0 : decode prog_5_method_2_code 0 = .ok (.aload_n 0, 1) := by decide +kernel
theorem d_O_improve_1 : decode prog_5_method_2_code 1 = .ok (.getfield 18, 3) := by decide +kernel
theorem d_O_improve_4 : decode prog_5_method_2_code 4 = .ok (.invokevirtual 33, 3) := by decide +kernel
theorem d_O_improve_7 : decode prog_5_method_2_code 7 = .ok (.iconst 0, 1) := by decide +kernel
theorem d_O_improve_8 : decode prog_5_method_2_code 8 = .ok (.istore_n 2, 1) := by decide +kernel
theorem d_O_improve_9 : decode prog_5_method_2_code 9 = .ok (.iload_n 2, 1) := by decide +kernel
theorem d_O_improve_10 : decode prog_5_method_2_code 10 = .ok (.aload_n 1, 1) := by decide +kernel
theorem d_O_improve_11 : decode prog_5_method_2_code 11 = .ok (.invokevirtual 36, 3) := by decide +kernel
theorem d_O_improve_14 : decode prog_5_method_2_code 14 = .ok (.if_icmp .ge 34, 3) := by decide +kernel
theorem d_O_improve_17 : decode prog_5_method_2_code 17 = .ok (.aload_n 0, 1) := by decide +kernel
theorem d_O_improve_18 : decode prog_5_method_2_code 18 = .ok (.getfield 22, 3) := by decide +kernel
theorem d_O_improve_21 : decode prog_5_method_2_code 21 = .ok (.iload_n 2, 1) := by decide +kernel
theorem d_O_improve_22 : decode prog_5_method_2_code 22 = .ok (.aload_n 0, 1) := by decide +kernel
theorem d_O_improve_23 : decode prog_5_method_2_code 23 = .ok (.aload_n 1, 1) := by decide +kernel
theorem d_O_improve_24 : decode prog_5_method_2_code 24 = .ok (.iload_n 2, 1) := by decide +kernel
theorem d_O_improve_25 : decode prog_5_method_2_code 25 = .ok (.invokevirtual 40, 3) := by decide +kernel
theorem d_O_improve_28 : decode prog_5_method_2_code 28 = .ok (.aload_n 1, 1) := by decide +kernel
theorem d_O_improve_29 : decode prog_5_method_2_code 29 = .ok (.iload_n 2, 1) := by decide +kernel
theorem d_O_improve_30 : decode prog_5_method_2_code 30 = .ok (.invokevirtual 44, 3) := by decide +kernel
theorem d_O_improve_33 : decode prog_5_method_2_code 33 = .ok (.aload_n 1, 1) := by decide +kernel
theorem d_O_improve_34 : decode prog_5_method_2_code 34 = .ok (.iload_n 2, 1) := by decide +kernel
theorem d_O_improve_35 : decode prog_5_method_2_code 35 = .ok (.invokevirtual 47, 3) := by decide +kernel
theorem d_O_improve_38 : decode prog_5_method_2_code 38 = .ok (.invokevirtual 50, 3) := by decide +kernel
theorem d_O_improve_41 : decode prog_5_method_2_code 41 = .ok (.iastore, 1) := by decide +kernel
theorem d_O_improve_42 : decode prog_5_method_2_code 42 = .ok (.iinc 2 1, 3) := by decide +kernel
theorem d_O_improve_45 : decode prog_5_method_2_code 45 = .ok (.goto (-36), 3) := by decide +kernel
theorem d_O_improve_48 : decode prog_5_method_2_code 48 = .ok (.aload_n 0, 1) := by decide +kernel
theorem d_O_improve_49 : decode prog_5_method_2_code 49 = .ok (.aload_n 0, 1) := by decide +kernel
theorem d_O_improve_50 : decode prog_5_method_2_code 50 = .ok (.getfield 22, 3) := by decide +kernel
theorem d_O_improve_53 : decode prog_5_method_2_code 53 = .ok (.aload_n 1, 1) := by decide +kernel
theorem d_O_improve_54 : decode prog_5_method_2_code 54 = .ok (.invokevirtual 54, 3) := by decide +kernel
theorem d_O_improve_57 : decode prog_5_method_2_code 57 = .ok (.iaload, 1) := by decide +kernel
theorem d_O_improve_58 : decode prog_5_method_2_code 58 = .ok (.invokevirtual 57, 3) := by decide +kernel
theorem d_O_improve_61 : decode prog_5_method_2_code 61 = .ok (.aload_n 0, 1) := by decide +kernel
theorem d_O_improve_62 : decode prog_5_method_2_code 62 = .ok (.aload_n 1, 1) := by decide +kernel
theorem d_O_improve_63 : decode prog_5_method_2_code 63 = .ok (.invokevirtual 61, 3) := by decide +kernel
theorem d_O_improve_66 : decode prog_5_method_2_code 66 = .ok (.return_, 1) := by decide +kernel
theorem d_X_hasCode_0 : decode prog_1_method_14_code 0 = .ok (.aload_n 0, 1) := by decide +kernel
theorem d_X_hasCode_1 : decode prog_1_method_14_code 1 = .ok (.getfield 28, 3) := by decide +kernel
theorem d_X_hasCode_4 : decode prog_1_method_14_code 4 = .ok (.invokevirtual 98, 3) := by decide +kernel
theorem d_X_hasCode_7 : decode prog_1_method_14_code 7 = .ok (.ifCond .le 7, 3) := by decide +kernel
theorem d_X_hasCode_10 : decode prog_1_method_14_code 10 = .ok (.iconst 1, 1) := by decide +kernel
theorem d_X_hasCode_11 : decode prog_1_method_14_code 11 = .ok (.goto 4, 3) := by decide +kernel
theorem d_X_hasCode_14 : decode prog_1_method_14_code 14 = .ok (.iconst 0, 1) := by decide +kernel
theorem d_X_hasCode_15 : decode prog_1_method_14_code 15 = .ok (.ireturn, 1) := by decide +kernel
theorem d_X_feed_0 : decode prog_1_method_2_code 0 = .ok (.aload_n 0, 1) := by decide +kernel
theorem d_X_feed_1 : decode prog_1_method_2_code 1 = .ok (.getfield 21, 3) := by decide +kernel
theorem d_X_feed_4 : decode prog_1_method_2_code 4 = .ok (.invokevirtual 56, 3) := by decide +kernel
theorem d_X_feed_7 : decode prog_1_method_2_code 7 = .ok (.ifCond .ne 10, 3) := by decide +kernel
theorem d_X_feed_10 : decode prog_1_method_2_code 10 = .ok (.aload_n 0, 1) := by decide +kernel
theorem d_X_feed_11 : decode prog_1_method_2_code 11 = .ok (.invokevirtual 60, 3) := by decide +kernel
theorem d_X_feed_14 : decode prog_1_method_2_code 14 = .ok (.ifCond .eq 5, 3) := by decide +kernel
theorem d_X_feed_17 : decode prog_1_method_2_code 17 = .ok (.iconst 1, 1) := by decide +kernel
theorem d_X_feed_18 : decode prog_1_method_2_code 18 = .ok (.ireturn, 1) := by decide +kernel
theorem d_X_feed_19 : decode prog_1_method_2_code 19 = .ok (.aload_n 0, 1) := by decide +kernel
theorem d_X_feed_20 : decode prog_1_method_2_code 20 = .ok (.getfield 21, 3) := by decide +kernel
theorem d_X_feed_23 : decode prog_1_method_2_code 23 = .ok (.iload_n 1, 1) := by decide +kernel
theorem d_X_feed_24 : decode prog_1_method_2_code 24 = .ok (.invokevirtual 63, 3) := by decide +kernel
theorem d_X_feed_27 : decode prog_1_method_2_code 27 = .ok (.iconst 0, 1) := by decide +kernel
theorem d_X_feed_28 : decode prog_1_method_2_code 28 = .ok (.ireturn, 1) := by decide +kernel
theorem d_X_rewind_0 : decode prog_1_method_16_code 0 = .ok (.aload_n 0, 1) := by decide +kernel
theorem d_X_rewind_1 : decode prog_1_method_16_code 1 = .ok (.iconst 0, 1) := by decide +kernel
theorem d_X_rewind_2 : decode prog_1_method_16_code 2 = .ok (.putfield 48, 3) := by decide +kernel
theorem d_X_rewind_5 : decode prog_1_method_16_code 5 = .ok (.return_, 1) := by decide +kernel
theorem d_X_setInput_0 : decode prog_1_method_3_code 0 = .ok (.iload_n 1, 1) := by decide +kernel
theorem d_X_setInput_1 : decode prog_1_method_3_code 1 = .ok (.ifCond .lt 20, 3) := by decide +kernel
theorem d_X_setInput_4 : decode prog_1_method_3_code 4 = .ok (.iload_n 1, 1) := by decide +kernel
theorem d_X_setInput_5 : decode prog_1_method_3_code 5 = .ok (.iconst 4, 1) := by decide +kernel
theorem d_X_setInput_6 : decode prog_1_method_3_code 6 = .ok (.if_icmp .ge 15, 3) := by decide +kernel
theorem d_X_setInput_9 : decode prog_1_method_3_code 9 = .ok (.aload_n 0, 1) := by decide +kernel
theorem d_X_setInput_10 : decode prog_1_method_3_code 10 = .ok (.getfield 14, 3) := by decide +kernel
theorem d_X_setInput_13 : decode prog_1_method_3_code 13 = .ok (.iload_n 2, 1) := by decide +kernel
theorem d_X_setInput_14 : decode prog_1_method_3_code 14 = .ok (.iload_n 3, 1) := by decide +kernel
theorem d_X_setInput_15 : decode prog_1_method_3_code 15 = .ok (.invokevirtual 66, 3) := by decide +kernel
theorem d_X_setInput_18 : decode prog_1_method_3_code 18 = .ok (.ifCond .ne 5, 3) := by decide +kernel
theorem d_X_setInput_21 : decode prog_1_method_3_code 21 = .ok (.iconst 2, 1) := by decide +kernel
theorem d_X_setInput_22 : decode prog_1_method_3_code 22 = .ok (.ireturn, 1) := by decide +kernel
theorem d_X_setInput_23 : decode prog_1_method_3_code 23 = .ok (.aload_n 0, 1) := by decide +kernel
theorem d_X_setInput_24 : decode prog_1_method_3_code 24 = .ok (.getfield 14, 3) := by decide +kernel
theorem d_X_setInput_27 : decode prog_1_method_3_code 27 = .ok (.bipush 40, 2) := by decide +kernel
theorem d_X_setInput_29 : decode prog_1_method_3_code 29 = .ok (.iload_n 1, 1) := by decide +kernel
theorem d_X_setInput_30 : decode prog_1_method_3_code 30 = .ok (.iadd, 1) := by decide +kernel
theorem d_X_setInput_31 : decode prog_1_method_3_code 31 = .ok (.iload_n 2, 1) := by decide +kernel
theorem d_X_setInput_32 : decode prog_1_method_3_code 32 = .ok (.iload_n 3, 1) := by decide +kernel
theorem d_X_setInput_33 : decode prog_1_method_3_code 33 = .ok (.iload 4, 2) := by decide +kernel
theorem d_X_setInput_35 : decode prog_1_method_3_code 35 = .ok (.invokevirtual 70, 3) := by decide +kernel
theorem d_X_setInput_38 : decode prog_1_method_3_code 38 = .ok (.aload_n 0, 1) := by decide +kernel
theorem d_X_setInput_39 : decode prog_1_method_3_code 39 = .ok (.invokevirtual 74, 3) := by decide +kernel
theorem d_X_setInput_42 : decode prog_1_method_3_code 42 = .ok (.iconst 0, 1) := by decide +kernel
theorem d_X_setInput_43 : decode prog_1_method_3_code 43 = .ok (.ireturn, 1) := by decide +kernel
theorem d_X_operandsOf_0 : decode prog_1_method_18_code 0 = .ok (.iload_n 0, 1) := by decide +kernel
theorem d_X_operandsOf_1 : decode prog_1_method_18_code 1 = .ok (.tableswitch 43 0 5 #[39, 39, 39, 41, 41, 41], 39) := by decide +kernel
theorem d_X_operandsOf_40 : decode prog_1_method_18_code 40 = .ok (.iconst 0, 1) := by decide +kernel
theorem d_X_operandsOf_41 : decode prog_1_method_18_code 41 = .ok (.ireturn, 1) := by decide +kernel
theorem d_X_operandsOf_42 : decode prog_1_method_18_code 42 = .ok (.iconst 2, 1) := by decide +kernel
theorem d_X_operandsOf_43 : decode prog_1_method_18_code 43 = .ok (.ireturn, 1) := by decide +kernel
theorem d_X_operandsOf_44 : decode prog_1_method_18_code 44 = .ok (.iconst 1, 1) := by decide +kernel
theorem d_X_operandsOf_45 : decode prog_1_method_18_code 45 = .ok (.ireturn, 1) := by decide +kernel
theorem d_X_topDigit_0 : decode prog_1_method_19_code 0 = .ok (.iconst 0, 1) := by decide +kernel
theorem d_X_topDigit_1 : decode prog_1_method_19_code 1 = .ok (.istore_n 1, 1) := by decide +kernel
theorem d_X_topDigit_2 : decode prog_1_method_19_code 2 = .ok (.iload_n 0, 1) := by decide +kernel
theorem d_X_topDigit_3 : decode prog_1_method_19_code 3 = .ok (.iconst 1, 1) := by decide +kernel
theorem d_X_topDigit_4 : decode prog_1_method_19_code 4 = .ok (.ishr, 1) := by decide +kernel
theorem d_X_topDigit_5 : decode prog_1_method_19_code 5 = .ok (.istore_n 2, 1) := by decide +kernel
theorem d_X_topDigit_6 : decode prog_1_method_19_code 6 = .ok (.iload_n 2, 1) := by decide +kernel
theorem d_X_topDigit_7 : decode prog_1_method_19_code 7 = .ok (.ifCond .le 13, 3) := by decide +kernel
theorem d_X_topDigit_10 : decode prog_1_method_19_code 10 = .ok (.iinc 1 1, 3) := by decide +kernel
theorem d_X_topDigit_13 : decode prog_1_method_19_code 13 = .ok (.iload_n 2, 1) := by decide +kernel
theorem d_X_topDigit_14 : decode prog_1_method_19_code 14 = .ok (.iconst 1, 1) := by decide +kernel
theorem d_X_topDigit_15 : decode prog_1_method_19_code 15 = .ok (.ishr, 1) := by decide +kernel
theorem d_X_topDigit_16 : decode prog_1_method_19_code 16 = .ok (.istore_n 2, 1) := by decide +kernel
theorem d_X_topDigit_17 : decode prog_1_method_19_code 17 = .ok (.goto (-11), 3) := by decide +kernel
theorem d_X_topDigit_20 : decode prog_1_method_19_code 20 = .ok (.iload_n 1, 1) := by decide +kernel
theorem d_X_topDigit_21 : decode prog_1_method_19_code 21 = .ok (.ireturn, 1) := by decide +kernel
theorem d_X_isDigitOne_0 : decode prog_1_method_20_code 0 = .ok (.iload_n 0, 1) := by decide +kernel
theorem d_X_isDigitOne_1 : decode prog_1_method_20_code 1 = .ok (.iload_n 1, 1) := by decide +kernel
theorem d_X_isDigitOne_2 : decode prog_1_method_20_code 2 = .ok (.ishr, 1) := by decide +kernel
theorem d_X_isDigitOne_3 : decode prog_1_method_20_code 3 = .ok (.iconst 1, 1) := by decide +kernel
theorem d_X_isDigitOne_4 : decode prog_1_method_20_code 4 = .ok (.iand, 1) := by decide +kernel
theorem d_X_isDigitOne_5 : decode prog_1_method_20_code 5 = .ok (.iconst 1, 1) := by decide +kernel
theorem d_X_isDigitOne_6 : decode prog_1_method_20_code 6 = .ok (.if_icmp .ne 7, 3) := by decide +kernel
theorem d_X_isDigitOne_9 : decode prog_1_method_20_code 9 = .ok (.iconst 1, 1) := by decide +kernel
theorem d_X_isDigitOne_10 : decode prog_1_method_20_code 10 = .ok (.goto 4, 3) := by decide +kernel
theorem d_X_isDigitOne_13 : decode prog_1_method_20_code 13 = .ok (.iconst 0, 1) := by decide +kernel
theorem d_X_isDigitOne_14 : decode prog_1_method_20_code 14 = .ok (.ireturn, 1) := by decide +kernel
theorem d_X_compile_0 : decode prog_1_method_4_code 0 = .ok (.aload_n 0, 1) := by decide +kernel
theorem d_X_compile_1 : decode prog_1_method_4_code 1 = .ok (.getfield 21, 3) := by decide +kernel
theorem d_X_compile_4 : decode prog_1_method_4_code 4 = .ok (.invokevirtual 77, 3) := by decide +kernel
theorem d_X_compile_7 : decode prog_1_method_4_code 7 = .ok (.istore_n 1, 1) := by decide +kernel
theorem d_X_compile_8 : decode prog_1_method_4_code 8 = .ok (.iload_n 1, 1) := by decide +kernel
theorem d_X_compile_9 : decode prog_1_method_4_code 9 = .ok (.ifCond .eq 5, 3) := by decide +kernel
theorem d_X_compile_12 : decode prog_1_method_4_code 12 = .ok (.iload_n 1, 1) := by decide +kernel
theorem d_X_compile_13 : decode prog_1_method_4_code 13 = .ok (.ireturn, 1) := by decide +kernel
theorem d_X_compile_14 : decode prog_1_method_4_code 14 = .ok (.aload_n 0, 1) := by decide +kernel
theorem d_X_compile_15 : decode prog_1_method_4_code 15 = .ok (.getfield 21, 3) := by decide +kernel
theorem d_X_compile_18 : decode prog_1_method_4_code 18 = .ok (.invokevirtual 81, 3) := by decide +kernel
theorem d_X_compile_21 : decode prog_1_method_4_code 21 = .ok (.bipush 40, 2) := by decide +kernel
theorem d_X_compile_23 : decode prog_1_method_4_code 23 = .ok (.if_icmp .le 6, 3) := by decide +kernel
theorem d_X_compile_26 : decode prog_1_method_4_code 26 = .ok (.bipush 6, 2) := by decide +kernel
theorem d_X_compile_28 : decode prog_1_method_4_code 28 = .ok (.ireturn, 1) := by decide +kernel
theorem d_X_compile_29 : decode prog_1_method_4_code 29 = .ok (.aload_n 0, 1) := by decide +kernel
theorem d_X_compile_30 : decode prog_1_method_4_code 30 = .ok (.getfield 35, 3) := by decide +kernel
theorem d_X_compile_33 : decode prog_1_method_4_code 33 = .ok (.aload_n 0, 1) := by decide +kernel
theorem d_X_compile_34 : decode prog_1_method_4_code 34 = .ok (.getfield 21, 3) := by decide +kernel
theorem d_X_compile_37 : decode prog_1_method_4_code 37 = .ok (.aload_n 0, 1) := by decide +kernel
theorem d_X_compile_38 : decode prog_1_method_4_code 38 = .ok (.getfield 28, 3) := by decide +kernel
theorem d_X_compile_41 : decode prog_1_method_4_code 41 = .ok (.invokevirtual 84, 3) := by decide +kernel
theorem d_X_compile_44 : decode prog_1_method_4_code 44 = .ok (.aload_n 0, 1) := by decide +kernel
theorem d_X_compile_45 : decode prog_1_method_4_code 45 = .ok (.invokevirtual 74, 3) := by decide +kernel
theorem d_X_compile_48 : decode prog_1_method_4_code 48 = .ok (.iconst 0, 1) := by decide +kernel
theorem d_X_compile_49 : decode prog_1_method_4_code 49 = .ok (.ireturn, 1) := by decide +kernel
theorem d_X_optimise_0 : decode prog_1_method_5_code 0 = .ok (.aload_n 0, 1) := by decide +kernel
theorem d_X_optimise_1 : decode prog_1_method_5_code 1 = .ok (.invokevirtual 60, 3) := by decide +kernel
theorem d_X_optimise_4 : decode prog_1_method_5_code 4 = .ok (.ifCond .ne 6, 3) := by decide +kernel
theorem d_X_optimise_7 : decode prog_1_method_5_code 7 = .ok (.bipush 7, 2) := by decide +kernel
theorem d_X_optimise_9 : decode prog_1_method_5_code 9 = .ok (.ireturn, 1) := by decide +kernel
theorem d_X_optimise_10 : decode prog_1_method_5_code 10 = .ok (.aload_n 0, 1) := by decide +kernel
theorem d_X_optimise_11 : decode prog_1_method_5_code 11 = .ok (.getfield 44, 3) := by decide +kernel
theorem d_X_optimise_14 : decode prog_1_method_5_code 14 = .ok (.aload_n 0, 1) := by decide +kernel
theorem d_X_optimise_15 : decode prog_1_method_5_code 15 = .ok (.getfield 28, 3) := by decide +kernel
theorem d_X_optimise_18 : decode prog_1_method_5_code 18 = .ok (.invokevirtual 88, 3) := by decide +kernel
theorem d_X_optimise_21 : decode prog_1_method_5_code 21 = .ok (.aload_n 0, 1) := by decide +kernel
theorem d_X_optimise_22 : decode prog_1_method_5_code 22 = .ok (.invokevirtual 74, 3) := by decide +kernel
theorem d_X_optimise_25 : decode prog_1_method_5_code 25 = .ok (.iconst 0, 1) := by decide +kernel
theorem d_X_optimise_26 : decode prog_1_method_5_code 26 = .ok (.ireturn, 1) := by decide +kernel
theorem d_X_isAllDone_0 : decode prog_1_method_15_code 0 = .ok (.aload_n 0, 1) := by decide +kernel
theorem d_X_isAllDone_1 : decode prog_1_method_15_code 1 = .ok (.getfield 48, 3) := by decide +kernel
theorem d_X_isAllDone_4 : decode prog_1_method_15_code 4 = .ok (.aload_n 0, 1) := by decide +kernel
theorem d_X_isAllDone_5 : decode prog_1_method_15_code 5 = .ok (.getfield 28, 3) := by decide +kernel
theorem d_X_isAllDone_8 : decode prog_1_method_15_code 8 = .ok (.invokevirtual 98, 3) := by decide +kernel
theorem d_X_isAllDone_11 : decode prog_1_method_15_code 11 = .ok (.if_icmp .ne 7, 3) := by decide +kernel
theorem d_X_isAllDone_14 : decode prog_1_method_15_code 14 = .ok (.iconst 1, 1) := by decide +kernel
theorem d_X_isAllDone_15 : decode prog_1_method_15_code 15 = .ok (.goto 4, 3) := by decide +kernel
theorem d_X_isAllDone_18 : decode prog_1_method_15_code 18 = .ok (.iconst 0, 1) := by decide +kernel
theorem d_X_isAllDone_19 : decode prog_1_method_15_code 19 = .ok (.ireturn, 1) := by decide +kernel
theorem d_X_run_0 : decode prog_1_method_6_code 0 = .ok (.aload_n 0, 1) := by decide +kernel
theorem d_X_run_1 : decode prog_1_method_6_code 1 = .ok (.invokevirtual 60, 3) := by decide +kernel
theorem d_X_run_4 : decode prog_1_method_6_code 4 = .ok (.ifCond .ne 6, 3) := by decide +kernel
theorem d_X_run_7 : decode prog_1_method_6_code 7 = .ok (.bipush 7, 2) := by decide +kernel
theorem d_X_run_9 : decode prog_1_method_6_code 9 = .ok (.ireturn, 1) := by decide +kernel
theorem d_X_run_10 : decode prog_1_method_6_code 10 = .ok (.iload_n 1, 1) := by decide +kernel
theorem d_X_run_11 : decode prog_1_method_6_code 11 = .ok (.iconst 0, 1) := by decide +kernel
theorem d_X_run_12 : decode prog_1_method_6_code 12 = .ok (.invokestatic 92, 3) := by decide +kernel
theorem d_X_run_15 : decode prog_1_method_6_code 15 = .ok (.aload_n 0, 1) := by decide +kernel
theorem d_X_run_16 : decode prog_1_method_6_code 16 = .ok (.getfield 28, 3) := by decide +kernel
theorem d_X_run_19 : decode prog_1_method_6_code 19 = .ok (.invokevirtual 98, 3) := by decide +kernel
theorem d_X_run_22 : decode prog_1_method_6_code 22 = .ok (.aload_n 0, 1) := by decide +kernel
theorem d_X_run_23 : decode prog_1_method_6_code 23 = .ok (.getfield 48, 3) := by decide +kernel
theorem d_X_run_26 : decode prog_1_method_6_code 26 = .ok (.isub, 1) := by decide +kernel
theorem d_X_run_27 : decode prog_1_method_6_code 27 = .ok (.invokestatic 101, 3) := by decide +kernel
theorem d_X_run_30 : decode prog_1_method_6_code 30 = .ok (.istore_n 2, 1) := by decide +kernel
theorem d_X_run_31 : decode prog_1_method_6_code 31 = .ok (.iconst 0, 1) := by decide +kernel
theorem d_X_run_32 : decode prog_1_method_6_code 32 = .ok (.istore_n 3, 1) := by decide +kernel
theorem d_X_run_33 : decode prog_1_method_6_code 33 = .ok (.iload_n 3, 1) := by decide +kernel
theorem d_X_run_34 : decode prog_1_method_6_code 34 = .ok (.iload_n 2, 1) := by decide +kernel
theorem d_X_run_35 : decode prog_1_method_6_code 35 = .ok (.if_icmp .ge 61, 3) := by decide +kernel
theorem d_X_run_38 : decode prog_1_method_6_code 38 = .ok (.aload_n 0, 1) := by decide +kernel
theorem d_X_run_39 : decode prog_1_method_6_code 39 = .ok (.getfield 48, 3) := by decide +kernel
theorem d_X_run_42 : decode prog_1_method_6_code 42 = .ok (.istore 4, 2) := by decide +kernel
theorem d_X_run_44 : decode prog_1_method_6_code 44 = .ok (.aload_n 0, 1) := by decide +kernel
theorem d_X_run_45 : decode prog_1_method_6_code 45 = .ok (.getfield 14, 3) := by decide +kernel
theorem d_X_run_48 : decode prog_1_method_6_code 48 = .ok (.aload_n 0, 1) := by decide +kernel
theorem d_X_run_49 : decode prog_1_method_6_code 49 = .ok (.getfield 28, 3) := by decide +kernel
theorem d_X_run_52 : decode prog_1_method_6_code 52 = .ok (.iload 4, 2) := by decide +kernel
theorem d_X_run_54 : decode prog_1_method_6_code 54 = .ok (.invokevirtual 104, 3) := by decide +kernel
theorem d_X_run_57 : decode prog_1_method_6_code 57 = .ok (.iload 4, 2) := by decide +kernel
theorem d_X_run_59 : decode prog_1_method_6_code 59 = .ok (.aload_n 0, 1) := by decide +kernel
theorem d_X_run_60 : decode prog_1_method_6_code 60 = .ok (.getfield 28, 3) := by decide +kernel
theorem d_X_run_63 : decode prog_1_method_6_code 63 = .ok (.iload 4, 2) := by decide +kernel
theorem d_X_run_65 : decode prog_1_method_6_code 65 = .ok (.invokevirtual 108, 3) := by decide +kernel
theorem d_X_run_68 : decode prog_1_method_6_code 68 = .ok (.aload_n 0, 1) := by decide +kernel
theorem d_X_run_69 : decode prog_1_method_6_code 69 = .ok (.getfield 28, 3) := by decide +kernel
theorem d_X_run_72 : decode prog_1_method_6_code 72 = .ok (.iload 4, 2) := by decide +kernel
theorem d_X_run_74 : decode prog_1_method_6_code 74 = .ok (.invokevirtual 111, 3) := by decide +kernel
theorem d_X_run_77 : decode prog_1_method_6_code 77 = .ok (.invokevirtual 114, 3) := by decide +kernel
theorem d_X_run_80 : decode prog_1_method_6_code 80 = .ok (.aload_n 0, 1) := by decide +kernel
theorem d_X_run_81 : decode prog_1_method_6_code 81 = .ok (.dup, 1) := by decide +kernel
theorem d_X_run_82 : decode prog_1_method_6_code 82 = .ok (.getfield 48, 3) := by decide +kernel
theorem d_X_run_85 : decode prog_1_method_6_code 85 = .ok (.iconst 1, 1) := by decide +kernel
theorem d_X_run_86 : decode prog_1_method_6_code 86 = .ok (.iadd, 1) := by decide +kernel
theorem d_X_run_87 : decode prog_1_method_6_code 87 = .ok (.putfield 48, 3) := by decide +kernel
theorem d_X_run_90 : decode prog_1_method_6_code 90 = .ok (.iinc 3 1, 3) := by decide +kernel
theorem d_X_run_93 : decode prog_1_method_6_code 93 = .ok (.goto (-60), 3) := by decide +kernel
theorem d_X_run_96 : decode prog_1_method_6_code 96 = .ok (.aload_n 0, 1) := by decide +kernel
theorem d_X_run_97 : decode prog_1_method_6_code 97 = .ok (.invokevirtual 117, 3) := by decide +kernel
theorem d_X_run_100 : decode prog_1_method_6_code 100 = .ok (.ifCond .eq 7, 3) := by decide +kernel
theorem d_X_run_103 : decode prog_1_method_6_code 103 = .ok (.iconst 0, 1) := by decide +kernel
theorem d_X_run_104 : decode prog_1_method_6_code 104 = .ok (.goto 5, 3) := by decide +kernel
theorem d_X_run_107 : decode prog_1_method_6_code 107 = .ok (.bipush 8, 2) := by decide +kernel
theorem d_X_run_109 : decode prog_1_method_6_code 109 = .ok (.ireturn, 1) := by decide +kernel
theorem d_X_workOut_0 : decode prog_1_method_17_code 0 = .ok (.bipush 44, 2) := by decide +kernel
theorem d_X_workOut_2 : decode prog_1_method_17_code 2 = .ok (.istore_n 1, 1) := by decide +kernel
theorem d_X_workOut_3 : decode prog_1_method_17_code 3 = .ok (.iconst 0, 1) := by decide +kernel
theorem d_X_workOut_4 : decode prog_1_method_17_code 4 = .ok (.istore_n 2, 1) := by decide +kernel
theorem d_X_workOut_5 : decode prog_1_method_17_code 5 = .ok (.iload_n 2, 1) := by decide +kernel
theorem d_X_workOut_6 : decode prog_1_method_17_code 6 = .ok (.aload_n 0, 1) := by decide +kernel
theorem d_X_workOut_7 : decode prog_1_method_17_code 7 = .ok (.getfield 21, 3) := by decide +kernel
theorem d_X_workOut_10 : decode prog_1_method_17_code 10 = .ok (.invokevirtual 146, 3) := by decide +kernel
theorem d_X_workOut_13 : decode prog_1_method_17_code 13 = .ok (.if_icmp .ge 85, 3) := by decide +kernel
theorem d_X_workOut_16 : decode prog_1_method_17_code 16 = .ok (.aload_n 0, 1) := by decide +kernel
theorem d_X_workOut_17 : decode prog_1_method_17_code 17 = .ok (.getfield 21, 3) := by decide +kernel
theorem d_X_workOut_20 : decode prog_1_method_17_code 20 = .ok (.iload_n 2, 1) := by decide +kernel
theorem d_X_workOut_21 : decode prog_1_method_17_code 21 = .ok (.invokevirtual 147, 3) := by decide +kernel
theorem d_X_workOut_24 : decode prog_1_method_17_code 24 = .ok (.istore_n 3, 1) := by decide +kernel
theorem d_X_workOut_25 : decode prog_1_method_17_code 25 = .ok (.aload_n 0, 1) := by decide +kernel
theorem d_X_workOut_26 : decode prog_1_method_17_code 26 = .ok (.getfield 21, 3) := by decide +kernel
theorem d_X_workOut_29 : decode prog_1_method_17_code 29 = .ok (.iload_n 2, 1) := by decide +kernel
theorem d_X_workOut_30 : decode prog_1_method_17_code 30 = .ok (.invokevirtual 148, 3) := by decide +kernel
theorem d_X_workOut_33 : decode prog_1_method_17_code 33 = .ok (.istore 4, 2) := by decide +kernel
theorem d_X_workOut_35 : decode prog_1_method_17_code 35 = .ok (.iload_n 3, 1) := by decide +kernel
theorem d_X_workOut_36 : decode prog_1_method_17_code 36 = .ok (.invokestatic 151, 3) := by decide +kernel
theorem d_X_workOut_39 : decode prog_1_method_17_code 39 = .ok (.istore 5, 2) := by decide +kernel
theorem d_X_workOut_41 : decode prog_1_method_17_code 41 = .ok (.iload_n 1, 1) := by decide +kernel
theorem d_X_workOut_42 : decode prog_1_method_17_code 42 = .ok (.iload 5, 2) := by decide +kernel
theorem d_X_workOut_44 : decode prog_1_method_17_code 44 = .ok (.isub, 1) := by decide +kernel
theorem d_X_workOut_45 : decode prog_1_method_17_code 45 = .ok (.istore_n 1, 1) := by decide +kernel
theorem d_X_workOut_46 : decode prog_1_method_17_code 46 = .ok (.iload_n 3, 1) := by decide +kernel
theorem d_X_workOut_47 : decode prog_1_method_17_code 47 = .ok (.bipush 8, 2) := by decide +kernel
theorem d_X_workOut_49 : decode prog_1_method_17_code 49 = .ok (.if_icmp .ne 16, 3) := by decide +kernel
theorem d_X_workOut_52 : decode prog_1_method_17_code 52 = .ok (.aload_n 0, 1) := by decide +kernel
theorem d_X_workOut_53 : decode prog_1_method_17_code 53 = .ok (.getfield 14, 3) := by decide +kernel
theorem d_X_workOut_56 : decode prog_1_method_17_code 56 = .ok (.iload_n 1, 1) := by decide +kernel
theorem d_X_workOut_57 : decode prog_1_method_17_code 57 = .ok (.iload 4, 2) := by decide +kernel
theorem d_X_workOut_59 : decode prog_1_method_17_code 59 = .ok (.invokevirtual 154, 3) := by decide +kernel
theorem d_X_workOut_62 : decode prog_1_method_17_code 62 = .ok (.goto 27, 3) := by decide +kernel
theorem d_X_workOut_65 : decode prog_1_method_17_code 65 = .ok (.aload_n 0, 1) := by decide +kernel
theorem d_X_workOut_66 : decode prog_1_method_17_code 66 = .ok (.getfield 14, 3) := by decide +kernel
theorem d_X_workOut_69 : decode prog_1_method_17_code 69 = .ok (.iload_n 3, 1) := by decide +kernel
theorem d_X_workOut_70 : decode prog_1_method_17_code 70 = .ok (.iload_n 1, 1) := by decide +kernel
theorem d_X_workOut_71 : decode prog_1_method_17_code 71 = .ok (.iload_n 1, 1) := by decide +kernel
theorem d_X_workOut_72 : decode prog_1_method_17_code 72 = .ok (.iload 5, 2) := by decide +kernel
theorem d_X_workOut_74 : decode prog_1_method_17_code 74 = .ok (.iconst 2, 1) := by decide +kernel
theorem d_X_workOut_75 : decode prog_1_method_17_code 75 = .ok (.if_icmp .ne 9, 3) := by decide +kernel
theorem d_X_workOut_78 : decode prog_1_method_17_code 78 = .ok (.iload_n 1, 1) := by decide +kernel
theorem d_X_workOut_79 : decode prog_1_method_17_code 79 = .ok (.iconst 1, 1) := by decide +kernel
theorem d_X_workOut_80 : decode prog_1_method_17_code 80 = .ok (.iadd, 1) := by decide +kernel
theorem d_X_workOut_81 : decode prog_1_method_17_code 81 = .ok (.goto 5, 3) := by decide +kernel
theorem d_X_workOut_84 : decode prog_1_method_17_code 84 = .ok (.iload 4, 2) := by decide +kernel
theorem d_X_workOut_86 : decode prog_1_method_17_code 86 = .ok (.invokevirtual 114, 3) := by decide +kernel
theorem d_X_workOut_89 : decode prog_1_method_17_code 89 = .ok (.iinc 1 1, 3) := by decide +kernel
theorem d_X_workOut_92 : decode prog_1_method_17_code 92 = .ok (.iinc 2 1, 3) := by decide +kernel
theorem d_X_workOut_95 : decode prog_1_method_17_code 95 = .ok (.goto (-90), 3) := by decide +kernel
theorem d_X_workOut_98 : decode prog_1_method_17_code 98 = .ok (.return_, 1) := by decide +kernel
theorem d_X_evalDirect_0 : decode prog_1_method_7_code 0 = .ok (.aload_n 0, 1) := by decide +kernel
theorem d_X_evalDirect_1 : decode prog_1_method_7_code 1 = .ok (.getfield 21, 3) := by decide +kernel
theorem d_X_evalDirect_4 : decode prog_1_method_7_code 4 = .ok (.invokevirtual 77, 3) := by decide +kernel
theorem d_X_evalDirect_7 : decode prog_1_method_7_code 7 = .ok (.istore_n 1, 1) := by decide +kernel
theorem d_X_evalDirect_8 : decode prog_1_method_7_code 8 = .ok (.iload_n 1, 1) := by decide +kernel
theorem d_X_evalDirect_9 : decode prog_1_method_7_code 9 = .ok (.ifCond .eq 5, 3) := by decide +kernel
theorem d_X_evalDirect_12 : decode prog_1_method_7_code 12 = .ok (.iload_n 1, 1) := by decide +kernel
theorem d_X_evalDirect_13 : decode prog_1_method_7_code 13 = .ok (.ireturn, 1) := by decide +kernel
theorem d_X_evalDirect_14 : decode prog_1_method_7_code 14 = .ok (.aload_n 0, 1) := by decide +kernel
theorem d_X_evalDirect_15 : decode prog_1_method_7_code 15 = .ok (.invokevirtual 120, 3) := by decide +kernel
theorem d_X_evalDirect_18 : decode prog_1_method_7_code 18 = .ok (.aload_n 0, 1) := by decide +kernel
theorem d_X_evalDirect_19 : decode prog_1_method_7_code 19 = .ok (.getfield 14, 3) := by decide +kernel
theorem d_X_evalDirect_22 : decode prog_1_method_7_code 22 = .ok (.bipush 69, 2) := by decide +kernel
theorem d_X_evalDirect_24 : decode prog_1_method_7_code 24 = .ok (.bipush 44, 2) := by decide +kernel
theorem d_X_evalDirect_26 : decode prog_1_method_7_code 26 = .ok (.invokevirtual 123, 3) := by decide +kernel
theorem d_X_evalDirect_29 : decode prog_1_method_7_code 29 = .ok (.aload_n 0, 1) := by decide +kernel
theorem d_X_evalDirect_30 : decode prog_1_method_7_code 30 = .ok (.iconst 1, 1) := by decide +kernel
theorem d_X_evalDirect_31 : decode prog_1_method_7_code 31 = .ok (.putfield 52, 3) := by decide +kernel
theorem d_X_evalDirect_34 : decode prog_1_method_7_code 34 = .ok (.iconst 0, 1) := by decide +kernel
theorem d_X_evalDirect_35 : decode prog_1_method_7_code 35 = .ok (.ireturn, 1) := by decide +kernel
theorem d_X_out_0 : decode prog_1_method_8_code 0 = .ok (.aload_n 0, 1) := by decide +kernel
theorem d_X_out_1 : decode prog_1_method_8_code 1 = .ok (.invokevirtual 60, 3) := by decide +kernel
theorem d_X_out_4 : decode prog_1_method_8_code 4 = .ok (.ifCond .eq 22, 3) := by decide +kernel
theorem d_X_out_7 : decode prog_1_method_8_code 7 = .ok (.aload_n 0, 1) := by decide +kernel
theorem d_X_out_8 : decode prog_1_method_8_code 8 = .ok (.invokevirtual 117, 3) := by decide +kernel
theorem d_X_out_11 : decode prog_1_method_8_code 11 = .ok (.ifCond .eq 15, 3) := by decide +kernel
theorem d_X_out_14 : decode prog_1_method_8_code 14 = .ok (.aload_n 0, 1) := by decide +kernel
theorem d_X_out_15 : decode prog_1_method_8_code 15 = .ok (.getfield 14, 3) := by decide +kernel
theorem d_X_out_18 : decode prog_1_method_8_code 18 = .ok (.iload_n 1, 1) := by decide +kernel
theorem d_X_out_19 : decode prog_1_method_8_code 19 = .ok (.iload_n 2, 1) := by decide +kernel
theorem d_X_out_20 : decode prog_1_method_8_code 20 = .ok (.invokevirtual 66, 3) := by decide +kernel
theorem d_X_out_23 : decode prog_1_method_8_code 23 = .ok (.ifCond .ne 5, 3) := by decide +kernel
theorem d_X_out_26 : decode prog_1_method_8_code 26 = .ok (.iconst (-1), 1) := by decide +kernel
theorem d_X_out_27 : decode prog_1_method_8_code 27 = .ok (.ireturn, 1) := by decide +kernel
theorem d_X_out_28 : decode prog_1_method_8_code 28 = .ok (.aload_n 0, 1) := by decide +kernel
theorem d_X_out_29 : decode prog_1_method_8_code 29 = .ok (.getfield 14, 3) := by decide +kernel
theorem d_X_out_32 : decode prog_1_method_8_code 32 = .ok (.aload_n 0, 1) := by decide +kernel
theorem d_X_out_33 : decode prog_1_method_8_code 33 = .ok (.getfield 28, 3) := by decide +kernel
theorem d_X_out_36 : decode prog_1_method_8_code 36 = .ok (.invokevirtual 126, 3) := by decide +kernel
theorem d_X_out_39 : decode prog_1_method_8_code 39 = .ok (.iload_n 1, 1) := by decide +kernel
theorem d_X_out_40 : decode prog_1_method_8_code 40 = .ok (.iload_n 2, 1) := by decide +kernel
theorem d_X_out_41 : decode prog_1_method_8_code 41 = .ok (.invokevirtual 129, 3) := by decide +kernel
theorem d_X_out_44 : decode prog_1_method_8_code 44 = .ok (.ireturn, 1) := by decide +kernel
theorem d_X_outDirect_0 : decode prog_1_method_9_code 0 = .ok (.aload_n 0, 1) := by decide +kernel
theorem d_X_outDirect_1 : decode prog_1_method_9_code 1 = .ok (.getfield 52, 3) := by decide +kernel
theorem d_X_outDirect_4 : decode prog_1_method_9_code 4 = .ok (.ifCond .eq 15, 3) := by decide +kernel
theorem d_X_outDirect_7 : decode prog_1_method_9_code 7 = .ok (.aload_n 0, 1) := by decide +kernel
theorem d_X_outDirect_8 : decode prog_1_method_9_code 8 = .ok (.getfield 14, 3) := by decide +kernel
theorem d_X_outDirect_11 : decode prog_1_method_9_code 11 = .ok (.iload_n 1, 1) := by decide +kernel
theorem d_X_outDirect_12 : decode prog_1_method_9_code 12 = .ok (.iload_n 2, 1) := by decide +kernel
theorem d_X_outDirect_13 : decode prog_1_method_9_code 13 = .ok (.invokevirtual 66, 3) := by decide +kernel
theorem d_X_outDirect_16 : decode prog_1_method_9_code 16 = .ok (.ifCond .ne 5, 3) := by decide +kernel
theorem d_X_outDirect_19 : decode prog_1_method_9_code 19 = .ok (.iconst (-1), 1) := by decide +kernel
theorem d_X_outDirect_20 : decode prog_1_method_9_code 20 = .ok (.ireturn, 1) := by decide +kernel
theorem d_X_outDirect_21 : decode prog_1_method_9_code 21 = .ok (.aload_n 0, 1) := by decide +kernel
theorem d_X_outDirect_22 : decode prog_1_method_9_code 22 = .ok (.getfield 14, 3) := by decide +kernel
theorem d_X_outDirect_25 : decode prog_1_method_9_code 25 = .ok (.bipush 69, 2) := by decide +kernel
theorem d_X_outDirect_27 : decode prog_1_method_9_code 27 = .ok (.iload_n 1, 1) := by decide +kernel
theorem d_X_outDirect_28 : decode prog_1_method_9_code 28 = .ok (.iload_n 2, 1) := by decide +kernel
theorem d_X_outDirect_29 : decode prog_1_method_9_code 29 = .ok (.invokevirtual 129, 3) := by decide +kernel
theorem d_X_outDirect_32 : decode prog_1_method_9_code 32 = .ok (.ireturn, 1) := by decide +kernel
theorem d_X_codeAt_0 : decode prog_1_method_10_code 0 = .ok (.iload_n 1, 1) := by decide +kernel
theorem d_X_codeAt_1 : decode prog_1_method_10_code 1 = .ok (.ifCond .lt 25, 3) := by decide +kernel
theorem d_X_codeAt_4 : decode prog_1_method_10_code 4 = .ok (.iload_n 1, 1) := by decide +kernel
theorem d_X_codeAt_5 : decode prog_1_method_10_code 5 = .ok (.aload_n 0, 1) := by decide +kernel
theorem d_X_codeAt_6 : decode prog_1_method_10_code 6 = .ok (.getfield 28, 3) := by decide +kernel
theorem d_X_codeAt_9 : decode prog_1_method_10_code 9 = .ok (.invokevirtual 98, 3) := by decide +kernel
theorem d_X_codeAt_12 : decode prog_1_method_10_code 12 = .ok (.if_icmp .ge 14, 3) := by decide +kernel
theorem d_X_codeAt_15 : decode prog_1_method_10_code 15 = .ok (.aload_n 0, 1) := by decide +kernel
theorem d_X_codeAt_16 : decode prog_1_method_10_code 16 = .ok (.getfield 28, 3) := by decide +kernel
theorem d_X_codeAt_19 : decode prog_1_method_10_code 19 = .ok (.iload_n 1, 1) := by decide +kernel
theorem d_X_codeAt_20 : decode prog_1_method_10_code 20 = .ok (.invokevirtual 133, 3) := by decide +kernel
theorem d_X_codeAt_23 : decode prog_1_method_10_code 23 = .ok (.goto 4, 3) := by decide +kernel
theorem d_X_codeAt_26 : decode prog_1_method_10_code 26 = .ok (.iconst (-1), 1) := by decide +kernel
theorem d_X_codeAt_27 : decode prog_1_method_10_code 27 = .ok (.ireturn, 1) := by decide +kernel
theorem d_X_codeSize_0 : decode prog_1_method_11_code 0 = .ok (.aload_n 0, 1) := by decide +kernel
theorem d_X_codeSize_1 : decode prog_1_method_11_code 1 = .ok (.invokevirtual 60, 3) := by decide +kernel
theorem d_X_codeSize_4 : decode prog_1_method_11_code 4 = .ok (.ifCond .eq 13, 3) := by decide +kernel
theorem d_X_codeSize_7 : decode prog_1_method_11_code 7 = .ok (.aload_n 0, 1) := by decide +kernel
theorem d_X_codeSize_8 : decode prog_1_method_11_code 8 = .ok (.getfield 28, 3) := by decide +kernel
theorem d_X_codeSize_11 : decode prog_1_method_11_code 11 = .ok (.invokevirtual 98, 3) := by decide +kernel
theorem d_X_codeSize_14 : decode prog_1_method_11_code 14 = .ok (.goto 4, 3) := by decide +kernel
theorem d_X_codeSize_17 : decode prog_1_method_11_code 17 = .ok (.iconst (-1), 1) := by decide +kernel
theorem d_X_codeSize_18 : decode prog_1_method_11_code 18 = .ok (.ireturn, 1) := by decide +kernel
theorem d_X_products_0 : decode prog_1_method_12_code 0 = .ok (.aload_n 0, 1) := by decide +kernel
theorem d_X_products_1 : decode prog_1_method_12_code 1 = .ok (.invokevirtual 60, 3) := by decide +kernel
theorem d_X_products_4 : decode prog_1_method_12_code 4 = .ok (.ifCond .eq 14, 3) := by decide +kernel
theorem d_X_products_7 : decode prog_1_method_12_code 7 = .ok (.aload_n 0, 1) := by decide +kernel
theorem d_X_products_8 : decode prog_1_method_12_code 8 = .ok (.getfield 28, 3) := by decide +kernel
theorem d_X_products_11 : decode prog_1_method_12_code 11 = .ok (.iconst 5, 1) := by decide +kernel
theorem d_X_products_12 : decode prog_1_method_12_code 12 = .ok (.invokevirtual 136, 3) := by decide +kernel
theorem d_X_products_15 : decode prog_1_method_12_code 15 = .ok (.goto 4, 3) := by decide +kernel
theorem d_X_products_18 : decode prog_1_method_12_code 18 = .ok (.iconst (-1), 1) := by decide +kernel
theorem d_X_products_19 : decode prog_1_method_12_code 19 = .ok (.ireturn, 1) := by decide +kernel
theorem d_X_reset_0 : decode prog_1_method_13_code 0 = .ok (.aload_n 0, 1) := by decide +kernel
theorem d_X_reset_1 : decode prog_1_method_13_code 1 = .ok (.getfield 21, 3) := by decide +kernel
theorem d_X_reset_4 : decode prog_1_method_13_code 4 = .ok (.invokevirtual 139, 3) := by decide +kernel
theorem d_X_reset_7 : decode prog_1_method_13_code 7 = .ok (.aload_n 0, 1) := by decide +kernel
theorem d_X_reset_8 : decode prog_1_method_13_code 8 = .ok (.getfield 28, 3) := by decide +kernel
theorem d_X_reset_11 : decode prog_1_method_13_code 11 = .ok (.invokevirtual 142, 3) := by decide +kernel
theorem d_X_reset_14 : decode prog_1_method_13_code 14 = .ok (.aload_n 0, 1) := by decide +kernel
theorem d_X_reset_15 : decode prog_1_method_13_code 15 = .ok (.invokevirtual 74, 3) := by decide +kernel
theorem d_X_reset_18 : decode prog_1_method_13_code 18 = .ok (.aload_n 0, 1) := by decide +kernel
theorem d_X_reset_19 : decode prog_1_method_13_code 19 = .ok (.iconst 0, 1) := by decide +kernel
theorem d_X_reset_20 : decode prog_1_method_13_code 20 = .ok (.putfield 52, 3) := by decide +kernel
theorem d_X_reset_23 : decode prog_1_method_13_code 23 = .ok (.iconst 0, 1) := by decide +kernel
theorem d_X_reset_24 : decode prog_1_method_13_code 24 = .ok (.istore_n 1, 1) := by decide +kernel
theorem d_X_reset_25 : decode prog_1_method_13_code 25 = .ok (.iload_n 1, 1) := by decide +kernel
theorem d_X_reset_26 : decode prog_1_method_13_code 26 = .ok (.iconst 4, 1) := by decide +kernel
theorem d_X_reset_27 : decode prog_1_method_13_code 27 = .ok (.if_icmp .ge 20, 3) := by decide +kernel
theorem d_X_reset_30 : decode prog_1_method_13_code 30 = .ok (.aload_n 0, 1) := by decide +kernel
theorem d_X_reset_31 : decode prog_1_method_13_code 31 = .ok (.getfield 14, 3) := by decide +kernel
theorem d_X_reset_34 : decode prog_1_method_13_code 34 = .ok (.bipush 40, 2) := by decide +kernel
theorem d_X_reset_36 : decode prog_1_method_13_code 36 = .ok (.iload_n 1, 1) := by decide +kernel
theorem d_X_reset_37 : decode prog_1_method_13_code 37 = .ok (.iadd, 1) := by decide +kernel
theorem d_X_reset_38 : decode prog_1_method_13_code 38 = .ok (.invokevirtual 143, 3) := by decide +kernel
theorem d_X_reset_41 : decode prog_1_method_13_code 41 = .ok (.iinc 1 1, 3) := by decide +kernel
theorem d_X_reset_44 : decode prog_1_method_13_code 44 = .ok (.goto (-19), 3) := by decide +kernel
theorem d_X_reset_47 : decode prog_1_method_13_code 47 = .ok (.return_, 1) := by decide +kernel
