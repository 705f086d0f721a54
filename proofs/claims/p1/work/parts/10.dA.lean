theorem d_T_init_0 : decode prog_7_method_1_code 0 = .ok (.aload_n 0, 1) := by decide +kernel
theorem d_T_init_1 : decode prog_7_method_1_code 1 = .ok (.invokespecial 3, 3) := by decide +kernel
theorem d_T_init_4 : decode prog_7_method_1_code 4 = .ok (.aload_n 0, 1) := by decide +kernel
theorem d_T_init_5 : decode prog_7_method_1_code 5 = .ok (.bipush 60, 2) := by decide +kernel
theorem d_T_init_7 : decode prog_7_method_1_code 7 = .ok (.newarray .int, 2) := by decide +kernel
theorem d_T_init_9 : decode prog_7_method_1_code 9 = .ok (.putfield 9, 3) := by decide +kernel
theorem d_T_init_12 : decode prog_7_method_1_code 12 = .ok (.aload_n 0, 1) := by decide +kernel
theorem d_T_init_13 : decode prog_7_method_1_code 13 = .ok (.iconst 0, 1) := by decide +kernel
theorem d_T_init_14 : decode prog_7_method_1_code 14 = .ok (.putfield 15, 3) := by decide +kernel
theorem d_T_init_17 : decode prog_7_method_1_code 17 = .ok (.aload_n 0, 1) := by decide +kernel
theorem d_T_init_18 : decode prog_7_method_1_code 18 = .ok (.iconst (-1), 1) := by decide +kernel
theorem d_T_init_19 : decode prog_7_method_1_code 19 = .ok (.putfield 19, 3) := by decide +kernel
theorem d_T_init_22 : decode prog_7_method_1_code 22 = .ok (.aload_n 0, 1) := by decide +kernel
theorem d_T_init_23 : decode prog_7_method_1_code 23 = .ok (.iconst (-1), 1) := by decide +kernel
theorem d_T_init_24 : decode prog_7_method_1_code 24 = .ok (.putfield 22, 3) := by decide +kernel
theorem d_T_init_27 : decode prog_7_method_1_code 27 = .ok (.return_, 1) := by decide +kernel
theorem d_G_init_0 : decode prog_3_method_1_code 0 = .ok (.aload_n 0, 1) := by decide +kernel
theorem d_G_init_1 : decode prog_3_method_1_code 1 = .ok (.invokespecial 3, 3) := by decide +kernel
theorem d_G_init_4 : decode prog_3_method_1_code 4 = .ok (.aload_n 0, 1) := by decide +kernel
theorem d_G_init_5 : decode prog_3_method_1_code 5 = .ok (.bipush 40, 2) := by decide +kernel
theorem d_G_init_7 : decode prog_3_method_1_code 7 = .ok (.newarray .int, 2) := by decide +kernel
theorem d_G_init_9 : decode prog_3_method_1_code 9 = .ok (.putfield 9, 3) := by decide +kernel
theorem d_G_init_12 : decode prog_3_method_1_code 12 = .ok (.aload_n 0, 1) := by decide +kernel
theorem d_G_init_13 : decode prog_3_method_1_code 13 = .ok (.bipush 40, 2) := by decide +kernel
theorem d_G_init_15 : decode prog_3_method_1_code 15 = .ok (.newarray .int, 2) := by decide +kernel
theorem d_G_init_17 : decode prog_3_method_1_code 17 = .ok (.putfield 15, 3) := by decide +kernel
theorem d_G_init_20 : decode prog_3_method_1_code 20 = .ok (.aload_n 0, 1) := by decide +kernel
theorem d_G_init_21 : decode prog_3_method_1_code 21 = .ok (.bipush 40, 2) := by decide +kernel
theorem d_G_init_23 : decode prog_3_method_1_code 23 = .ok (.newarray .int, 2) := by decide +kernel
theorem d_G_init_25 : decode prog_3_method_1_code 25 = .ok (.putfield 18, 3) := by decide +kernel
theorem d_G_init_28 : decode prog_3_method_1_code 28 = .ok (.aload_n 0, 1) := by decide +kernel
theorem d_G_init_29 : decode prog_3_method_1_code 29 = .ok (.bipush 40, 2) := by decide +kernel
theorem d_G_init_31 : decode prog_3_method_1_code 31 = .ok (.newarray .int, 2) := by decide +kernel
theorem d_G_init_33 : decode prog_3_method_1_code 33 = .ok (.putfield 21, 3) := by decide +kernel
theorem d_G_init_36 : decode prog_3_method_1_code 36 = .ok (.aload_n 0, 1) := by decide +kernel
theorem d_G_init_37 : decode prog_3_method_1_code 37 = .ok (.iconst 0, 1) := by decide +kernel
theorem d_G_init_38 : decode prog_3_method_1_code 38 = .ok (.putfield 24, 3) := by decide +kernel
theorem d_G_init_41 : decode prog_3_method_1_code 41 = .ok (.aload_n 0, 1) := by decide +kernel
theorem d_G_init_42 : decode prog_3_method_1_code 42 = .ok (.iconst 0, 1) := by decide +kernel
theorem d_G_init_43 : decode prog_3_method_1_code 43 = .ok (.putfield 28, 3) := by decide +kernel
theorem d_G_init_46 : decode prog_3_method_1_code 46 = .ok (.aload_n 0, 1) := by decide +kernel
theorem d_G_init_47 : decode prog_3_method_1_code 47 = .ok (.bipush 40, 2) := by decide +kernel
theorem d_G_init_49 : decode prog_3_method_1_code 49 = .ok (.newarray .int, 2) := by decide +kernel
theorem d_G_init_51 : decode prog_3_method_1_code 51 = .ok (.putfield 31, 3) := by decide +kernel
theorem d_G_init_54 : decode prog_3_method_1_code 54 = .ok (.aload_n 0, 1) := by decide +kernel
theorem d_G_init_55 : decode prog_3_method_1_code 55 = .ok (.bipush 40, 2) := by decide +kernel
theorem d_G_init_57 : decode prog_3_method_1_code 57 = .ok (.newarray .int, 2) := by decide +kernel
theorem d_G_init_59 : decode prog_3_method_1_code 59 = .ok (.putfield 34, 3) := by decide +kernel
theorem d_G_init_62 : decode prog_3_method_1_code 62 = .ok (.return_, 1) := by decide +kernel
theorem d_K_init_0 : decode prog_8_method_1_code 0 = .ok (.aload_n 0, 1) := by decide +kernel
theorem d_K_init_1 : decode prog_8_method_1_code 1 = .ok (.invokespecial 3, 3) := by decide +kernel
theorem d_K_init_4 : decode prog_8_method_1_code 4 = .ok (.aload_n 0, 1) := by decide +kernel
theorem d_K_init_5 : decode prog_8_method_1_code 5 = .ok (.iconst 3, 1) := by decide +kernel
theorem d_K_init_6 : decode prog_8_method_1_code 6 = .ok (.newarray .int, 2) := by decide +kernel
theorem d_K_init_8 : decode prog_8_method_1_code 8 = .ok (.putfield 9, 3) := by decide +kernel
theorem d_K_init_11 : decode prog_8_method_1_code 11 = .ok (.aload_n 0, 1) := by decide +kernel
theorem d_K_init_12 : decode prog_8_method_1_code 12 = .ok (.bipush 60, 2) := by decide +kernel
theorem d_K_init_14 : decode prog_8_method_1_code 14 = .ok (.newarray .int, 2) := by decide +kernel
theorem d_K_init_16 : decode prog_8_method_1_code 16 = .ok (.putfield 15, 3) := by decide +kernel
theorem d_K_init_19 : decode prog_8_method_1_code 19 = .ok (.aload_n 0, 1) := by decide +kernel
theorem d_K_init_20 : decode prog_8_method_1_code 20 = .ok (.aload_n 1, 1) := by decide +kernel
theorem d_K_init_21 : decode prog_8_method_1_code 21 = .ok (.putfield 18, 3) := by decide +kernel
theorem d_K_init_24 : decode prog_8_method_1_code 24 = .ok (.return_, 1) := by decide +kernel
theorem d_R_init_0 : decode prog_4_method_1_code 0 = .ok (.aload_n 0, 1) := by decide +kernel
theorem d_R_init_1 : decode prog_4_method_1_code 1 = .ok (.invokespecial 3, 3) := by decide +kernel
theorem d_R_init_4 : decode prog_4_method_1_code 4 = .ok (.aload_n 0, 1) := by decide +kernel
theorem d_R_init_5 : decode prog_4_method_1_code 5 = .ok (.iconst 0, 1) := by decide +kernel
theorem d_R_init_6 : decode prog_4_method_1_code 6 = .ok (.putfield 9, 3) := by decide +kernel
theorem d_R_init_9 : decode prog_4_method_1_code 9 = .ok (.aload_n 0, 1) := by decide +kernel
theorem d_R_init_10 : decode prog_4_method_1_code 10 = .ok (.bipush 7, 2) := by decide +kernel
theorem d_R_init_12 : decode prog_4_method_1_code 12 = .ok (.newarray .int, 2) := by decide +kernel
theorem d_R_init_14 : decode prog_4_method_1_code 14 = .ok (.putfield 15, 3) := by decide +kernel
theorem d_R_init_17 : decode prog_4_method_1_code 17 = .ok (.aload_n 0, 1) := by decide +kernel
theorem d_R_init_18 : decode prog_4_method_1_code 18 = .ok (.bipush 40, 2) := by decide +kernel
theorem d_R_init_20 : decode prog_4_method_1_code 20 = .ok (.newarray .int, 2) := by decide +kernel
theorem d_R_init_22 : decode prog_4_method_1_code 22 = .ok (.putfield 19, 3) := by decide +kernel
theorem d_R_init_25 : decode prog_4_method_1_code 25 = .ok (.aload_n 0, 1) := by decide +kernel
theorem d_R_init_26 : decode prog_4_method_1_code 26 = .ok (.bipush 41, 2) := by decide +kernel
theorem d_R_init_28 : decode prog_4_method_1_code 28 = .ok (.newarray .int, 2) := by decide +kernel
theorem d_R_init_30 : decode prog_4_method_1_code 30 = .ok (.putfield 22, 3) := by decide +kernel
theorem d_R_init_33 : decode prog_4_method_1_code 33 = .ok (.aload_n 0, 1) := by decide +kernel
theorem d_R_init_34 : decode prog_4_method_1_code 34 = .ok (.aload_n 1, 1) := by decide +kernel
theorem d_R_init_35 : decode prog_4_method_1_code 35 = .ok (.putfield 25, 3) := by decide +kernel
theorem d_R_init_38 : decode prog_4_method_1_code 38 = .ok (.aload_n 0, 1) := by decide +kernel
theorem d_R_init_39 : decode prog_4_method_1_code 39 = .ok (.aload_n 2, 1) := by decide +kernel
theorem d_R_init_40 : decode prog_4_method_1_code 40 = .ok (.putfield 29, 3) := by decide +kernel
theorem d_R_init_43 : decode prog_4_method_1_code 43 = .ok (.return_, 1) := by decide +kernel
theorem d_C_init_0 : decode prog_2_method_1_code 0 = .ok (.aload_n 0, 1) := by decide +kernel
theorem d_C_init_1 : decode prog_2_method_1_code 1 = .ok (.invokespecial 3, 3) := by decide +kernel
theorem d_C_init_4 : decode prog_2_method_1_code 4 = .ok (.aload_n 0, 1) := by decide +kernel
theorem d_C_init_5 : decode prog_2_method_1_code 5 = .ok (.bipush 127, 2) := by decide +kernel
theorem d_C_init_7 : decode prog_2_method_1_code 7 = .ok (.newarray .int, 2) := by decide +kernel
theorem d_C_init_9 : decode prog_2_method_1_code 9 = .ok (.putfield 9, 3) := by decide +kernel
theorem d_C_init_12 : decode prog_2_method_1_code 12 = .ok (.aload_n 0, 1) := by decide +kernel
theorem d_C_init_13 : decode prog_2_method_1_code 13 = .ok (.bipush 40, 2) := by decide +kernel
theorem d_C_init_15 : decode prog_2_method_1_code 15 = .ok (.newarray .long, 2) := by decide +kernel
theorem d_C_init_17 : decode prog_2_method_1_code 17 = .ok (.putfield 15, 3) := by decide +kernel
theorem d_C_init_20 : decode prog_2_method_1_code 20 = .ok (.aload_n 0, 1) := by decide +kernel
theorem d_C_init_21 : decode prog_2_method_1_code 21 = .ok (.bipush 40, 2) := by decide +kernel
theorem d_C_init_23 : decode prog_2_method_1_code 23 = .ok (.newarray .long, 2) := by decide +kernel
theorem d_C_init_25 : decode prog_2_method_1_code 25 = .ok (.putfield 19, 3) := by decide +kernel
theorem d_C_init_28 : decode prog_2_method_1_code 28 = .ok (.aload_n 0, 1) := by decide +kernel
theorem d_C_init_29 : decode prog_2_method_1_code 29 = .ok (.bipush 40, 2) := by decide +kernel
theorem d_C_init_31 : decode prog_2_method_1_code 31 = .ok (.bipush 60, 2) := by decide +kernel
theorem d_C_init_33 : decode prog_2_method_1_code 33 = .ok (.multianewarray 22 2, 4) := by decide +kernel
theorem d_C_init_37 : decode prog_2_method_1_code 37 = .ok (.putfield 24, 3) := by decide +kernel
theorem d_C_init_40 : decode prog_2_method_1_code 40 = .ok (.aload_n 0, 1) := by decide +kernel
theorem d_C_init_41 : decode prog_2_method_1_code 41 = .ok (.bipush 60, 2) := by decide +kernel
theorem d_C_init_43 : decode prog_2_method_1_code 43 = .ok (.newarray .int, 2) := by decide +kernel
theorem d_C_init_45 : decode prog_2_method_1_code 45 = .ok (.putfield 27, 3) := by decide +kernel
theorem d_C_init_48 : decode prog_2_method_1_code 48 = .ok (.aload_n 0, 1) := by decide +kernel
theorem d_C_init_49 : decode prog_2_method_1_code 49 = .ok (.aload_n 1, 1) := by decide +kernel
theorem d_C_init_50 : decode prog_2_method_1_code 50 = .ok (.putfield 30, 3) := by decide +kernel
theorem d_C_init_53 : decode prog_2_method_1_code 53 = .ok (.aload_n 0, 1) := by decide +kernel
theorem d_C_init_54 : decode prog_2_method_1_code 54 = .ok (.getfield 9, 3) := by decide +kernel
theorem d_C_init_57 : decode prog_2_method_1_code 57 = .ok (.iconst 1, 1) := by decide +kernel
theorem d_C_init_58 : decode prog_2_method_1_code 58 = .ok (.invokestatic 34, 3) := by decide +kernel
theorem d_C_init_61 : decode prog_2_method_1_code 61 = .ok (.return_, 1) := by decide +kernel
theorem d_A_fill_II_0 : decode prog_20_method_103_code 0 = .ok (.iconst 0, 1) := by decide +kernel
theorem d_A_fill_II_1 : decode prog_20_method_103_code 1 = .ok (.istore_n 2, 1) := by decide +kernel
theorem d_A_fill_II_2 : decode prog_20_method_103_code 2 = .ok (.aload_n 0, 1) := by decide +kernel
theorem d_A_fill_II_3 : decode prog_20_method_103_code 3 = .ok (.arraylength, 1) := by decide +kernel
theorem d_A_fill_II_4 : decode prog_20_method_103_code 4 = .ok (.istore_n 3, 1) := by decide +kernel
theorem d_A_fill_II_5 : decode prog_20_method_103_code 5 = .ok (.iload_n 2, 1) := by decide +kernel
theorem d_A_fill_II_6 : decode prog_20_method_103_code 6 = .ok (.iload_n 3, 1) := by decide +kernel
theorem d_A_fill_II_7 : decode prog_20_method_103_code 7 = .ok (.if_icmp .ge 13, 3) := by decide +kernel
theorem d_A_fill_II_10 : decode prog_20_method_103_code 10 = .ok (.aload_n 0, 1) := by decide +kernel
theorem d_A_fill_II_11 : decode prog_20_method_103_code 11 = .ok (.iload_n 2, 1) := by decide +kernel
theorem d_A_fill_II_12 : decode prog_20_method_103_code 12 = .ok (.iload_n 1, 1) := by decide +kernel
theorem d_A_fill_II_13 : decode prog_20_method_103_code 13 = .ok (.iastore, 1) := by decide +kernel
theorem d_A_fill_II_14 : decode prog_20_method_103_code 14 = .ok (.iinc 2 1, 3) := by decide +kernel
theorem d_A_fill_II_17 : decode prog_20_method_103_code 17 = .ok (.goto (-12), 3) := by decide +kernel
theorem d_A_fill_II_20 : decode prog_20_method_103_code 20 = .ok (.return_, 1) := by decide +kernel
theorem d_T_append_0 : decode prog_7_method_2_code 0 = .ok (.iload_n 3, 1) := by decide +kernel
theorem d_T_append_1 : decode prog_7_method_2_code 1 = .ok (.iconst 1, 1) := by decide +kernel
theorem d_T_append_2 : decode prog_7_method_2_code 2 = .ok (.if_icmp .lt 20, 3) := by decide +kernel
theorem d_T_append_5 : decode prog_7_method_2_code 5 = .ok (.iload_n 3, 1) := by decide +kernel
theorem d_T_append_6 : decode prog_7_method_2_code 6 = .ok (.bipush 8, 2) := by decide +kernel
theorem d_T_append_8 : decode prog_7_method_2_code 8 = .ok (.if_icmp .gt 14, 3) := by decide +kernel
theorem d_T_append_11 : decode prog_7_method_2_code 11 = .ok (.aload_n 0, 1) := by decide +kernel
theorem d_T_append_12 : decode prog_7_method_2_code 12 = .ok (.getfield 15, 3) := by decide +kernel
theorem d_T_append_15 : decode prog_7_method_2_code 15 = .ok (.iload_n 3, 1) := by decide +kernel
theorem d_T_append_16 : decode prog_7_method_2_code 16 = .ok (.iadd, 1) := by decide +kernel
theorem d_T_append_17 : decode prog_7_method_2_code 17 = .ok (.bipush 60, 2) := by decide +kernel
theorem d_T_append_19 : decode prog_7_method_2_code 19 = .ok (.if_icmp .le 5, 3) := by decide +kernel
theorem d_T_append_22 : decode prog_7_method_2_code 22 = .ok (.iconst (-1), 1) := by decide +kernel
theorem d_T_append_23 : decode prog_7_method_2_code 23 = .ok (.ireturn, 1) := by decide +kernel
theorem d_T_append_24 : decode prog_7_method_2_code 24 = .ok (.iconst 0, 1) := by decide +kernel
theorem d_T_append_25 : decode prog_7_method_2_code 25 = .ok (.istore 4, 2) := by decide +kernel
theorem d_T_append_27 : decode prog_7_method_2_code 27 = .ok (.iload 4, 2) := by decide +kernel
theorem d_T_append_29 : decode prog_7_method_2_code 29 = .ok (.iload_n 3, 1) := by decide +kernel
theorem d_T_append_30 : decode prog_7_method_2_code 30 = .ok (.if_icmp .ge 33, 3) := by decide +kernel
theorem d_T_append_33 : decode prog_7_method_2_code 33 = .ok (.lload_n 1, 1) := by decide +kernel
theorem d_T_append_34 : decode prog_7_method_2_code 34 = .ok (.iload 4, 2) := by decide +kernel
theorem d_T_append_36 : decode prog_7_method_2_code 36 = .ok (.invokestatic 25, 3) := by decide +kernel
theorem d_T_append_39 : decode prog_7_method_2_code 39 = .ok (.istore 5, 2) := by decide +kernel
theorem d_T_append_41 : decode prog_7_method_2_code 41 = .ok (.iload 5, 2) := by decide +kernel
theorem d_T_append_43 : decode prog_7_method_2_code 43 = .ok (.bipush 33, 2) := by decide +kernel
theorem d_T_append_45 : decode prog_7_method_2_code 45 = .ok (.if_icmp .lt 10, 3) := by decide +kernel
theorem d_T_append_48 : decode prog_7_method_2_code 48 = .ok (.iload 5, 2) := by decide +kernel
theorem d_T_append_50 : decode prog_7_method_2_code 50 = .ok (.bipush 126, 2) := by decide +kernel
theorem d_T_append_52 : decode prog_7_method_2_code 52 = .ok (.if_icmp .le 5, 3) := by decide +kernel
theorem d_T_append_55 : decode prog_7_method_2_code 55 = .ok (.iconst (-1), 1) := by decide +kernel
theorem d_T_append_56 : decode prog_7_method_2_code 56 = .ok (.ireturn, 1) := by decide +kernel
theorem d_T_append_57 : decode prog_7_method_2_code 57 = .ok (.iinc 4 1, 3) := by decide +kernel
theorem d_T_append_60 : decode prog_7_method_2_code 60 = .ok (.goto (-33), 3) := by decide +kernel
theorem d_T_append_63 : decode prog_7_method_2_code 63 = .ok (.iload_n 3, 1) := by decide +kernel
theorem d_T_append_64 : decode prog_7_method_2_code 64 = .ok (.iconst 1, 1) := by decide +kernel
theorem d_T_append_65 : decode prog_7_method_2_code 65 = .ok (.isub, 1) := by decide +kernel
theorem d_T_append_66 : decode prog_7_method_2_code 66 = .ok (.istore 4, 2) := by decide +kernel
theorem d_T_append_68 : decode prog_7_method_2_code 68 = .ok (.iload 4, 2) := by decide +kernel
theorem d_T_append_70 : decode prog_7_method_2_code 70 = .ok (.ifCond .lt 34, 3) := by decide +kernel
theorem d_T_append_73 : decode prog_7_method_2_code 73 = .ok (.aload_n 0, 1) := by decide +kernel
theorem d_T_append_74 : decode prog_7_method_2_code 74 = .ok (.getfield 9, 3) := by decide +kernel
theorem d_T_append_77 : decode prog_7_method_2_code 77 = .ok (.aload_n 0, 1) := by decide +kernel
theorem d_T_append_78 : decode prog_7_method_2_code 78 = .ok (.getfield 15, 3) := by decide +kernel
theorem d_T_append_81 : decode prog_7_method_2_code 81 = .ok (.lload_n 1, 1) := by decide +kernel
theorem d_T_append_82 : decode prog_7_method_2_code 82 = .ok (.iload 4, 2) := by decide +kernel
theorem d_T_append_84 : decode prog_7_method_2_code 84 = .ok (.invokestatic 25, 3) := by decide +kernel
theorem d_T_append_87 : decode prog_7_method_2_code 87 = .ok (.iastore, 1) := by decide +kernel
theorem d_T_append_88 : decode prog_7_method_2_code 88 = .ok (.aload_n 0, 1) := by decide +kernel
theorem d_T_append_89 : decode prog_7_method_2_code 89 = .ok (.dup, 1) := by decide +kernel
theorem d_T_append_90 : decode prog_7_method_2_code 90 = .ok (.getfield 15, 3) := by decide +kernel
theorem d_T_append_93 : decode prog_7_method_2_code 93 = .ok (.iconst 1, 1) := by decide +kernel
theorem d_T_append_94 : decode prog_7_method_2_code 94 = .ok (.iadd, 1) := by decide +kernel
theorem d_T_append_95 : decode prog_7_method_2_code 95 = .ok (.putfield 15, 3) := by decide +kernel
theorem d_T_append_98 : decode prog_7_method_2_code 98 = .ok (.iinc 4 (-1), 3) := by decide +kernel
theorem d_T_append_101 : decode prog_7_method_2_code 101 = .ok (.goto (-33), 3) := by decide +kernel
theorem d_T_append_104 : decode prog_7_method_2_code 104 = .ok (.aload_n 0, 1) := by decide +kernel
theorem d_T_append_105 : decode prog_7_method_2_code 105 = .ok (.getfield 15, 3) := by decide +kernel
theorem d_T_append_108 : decode prog_7_method_2_code 108 = .ok (.ireturn, 1) := by decide +kernel
theorem d_T_byteAt_0 : decode prog_7_method_3_code 0 = .ok (.lload_n 0, 1) := by decide +kernel
theorem d_T_byteAt_1 : decode prog_7_method_3_code 1 = .ok (.bipush 8, 2) := by decide +kernel
theorem d_T_byteAt_3 : decode prog_7_method_3_code 3 = .ok (.iload_n 2, 1) := by decide +kernel
theorem d_T_byteAt_4 : decode prog_7_method_3_code 4 = .ok (.imul, 1) := by decide +kernel
theorem d_T_byteAt_5 : decode prog_7_method_3_code 5 = .ok (.lushr, 1) := by decide +kernel
theorem d_T_byteAt_6 : decode prog_7_method_3_code 6 = .ok (.ldc2_w 29, 3) := by decide +kernel
theorem d_T_byteAt_9 : decode prog_7_method_3_code 9 = .ok (.land, 1) := by decide +kernel
theorem d_T_byteAt_10 : decode prog_7_method_3_code 10 = .ok (.l2i, 1) := by decide +kernel
theorem d_T_byteAt_11 : decode prog_7_method_3_code 11 = .ok (.ireturn, 1) := by decide +kernel
theorem d_T_clear_0 : decode prog_7_method_4_code 0 = .ok (.aload_n 0, 1) := by decide +kernel
theorem d_T_clear_1 : decode prog_7_method_4_code 1 = .ok (.iconst 0, 1) := by decide +kernel
theorem d_T_clear_2 : decode prog_7_method_4_code 2 = .ok (.putfield 15, 3) := by decide +kernel
theorem d_T_clear_5 : decode prog_7_method_4_code 5 = .ok (.return_, 1) := by decide +kernel
theorem d_T_isRule_0 : decode prog_7_method_8_code 0 = .ok (.aload_n 0, 1) := by decide +kernel
theorem d_T_isRule_1 : decode prog_7_method_8_code 1 = .ok (.aload_n 0, 1) := by decide +kernel
theorem d_T_isRule_2 : decode prog_7_method_8_code 2 = .ok (.iconst 1, 1) := by decide +kernel
theorem d_T_isRule_3 : decode prog_7_method_8_code 3 = .ok (.iconst 1, 1) := by decide +kernel
theorem d_T_isRule_4 : decode prog_7_method_8_code 4 = .ok (.invokevirtual 37, 3) := by decide +kernel
theorem d_T_isRule_7 : decode prog_7_method_8_code 7 = .ok (.invokevirtual 41, 3) := by decide +kernel
theorem d_T_isRule_10 : decode prog_7_method_8_code 10 = .ok (.ireturn, 1) := by decide +kernel
theorem d_T_firstWrong_0 : decode prog_7_method_10_code 0 = .ok (.iconst 1, 1) := by decide +kernel
theorem d_T_firstWrong_1 : decode prog_7_method_10_code 1 = .ok (.istore_n 3, 1) := by decide +kernel
theorem d_T_firstWrong_2 : decode prog_7_method_10_code 2 = .ok (.aload_n 0, 1) := by decide +kernel
theorem d_T_firstWrong_3 : decode prog_7_method_10_code 3 = .ok (.iconst (-1), 1) := by decide +kernel
theorem d_T_firstWrong_4 : decode prog_7_method_10_code 4 = .ok (.putfield 19, 3) := by decide +kernel
theorem d_T_firstWrong_7 : decode prog_7_method_10_code 7 = .ok (.iconst 0, 1) := by decide +kernel
theorem d_T_firstWrong_8 : decode prog_7_method_10_code 8 = .ok (.istore 4, 2) := by decide +kernel
theorem d_T_firstWrong_10 : decode prog_7_method_10_code 10 = .ok (.iload 4, 2) := by decide +kernel
theorem d_T_firstWrong_12 : decode prog_7_method_10_code 12 = .ok (.aload_n 0, 1) := by decide +kernel
theorem d_T_firstWrong_13 : decode prog_7_method_10_code 13 = .ok (.getfield 15, 3) := by decide +kernel
theorem d_T_firstWrong_16 : decode prog_7_method_10_code 16 = .ok (.if_icmp .ge 92, 3) := by decide +kernel
theorem d_T_firstWrong_19 : decode prog_7_method_10_code 19 = .ok (.iload_n 3, 1) := by decide +kernel
theorem d_T_firstWrong_20 : decode prog_7_method_10_code 20 = .ok (.ifCond .ne 41, 3) := by decide +kernel
theorem d_T_firstWrong_23 : decode prog_7_method_10_code 23 = .ok (.iload_n 1, 1) := by decide +kernel
theorem d_T_firstWrong_24 : decode prog_7_method_10_code 24 = .ok (.ifCond .eq 23, 3) := by decide +kernel
theorem d_T_firstWrong_27 : decode prog_7_method_10_code 27 = .ok (.aload_n 0, 1) := by decide +kernel
theorem d_T_firstWrong_28 : decode prog_7_method_10_code 28 = .ok (.getfield 19, 3) := by decide +kernel
theorem d_T_firstWrong_31 : decode prog_7_method_10_code 31 = .ok (.iconst (-1), 1) := by decide +kernel
theorem d_T_firstWrong_32 : decode prog_7_method_10_code 32 = .ok (.if_icmp .ne 15, 3) := by decide +kernel
theorem d_T_firstWrong_35 : decode prog_7_method_10_code 35 = .ok (.aload_n 0, 1) := by decide +kernel
theorem d_T_firstWrong_36 : decode prog_7_method_10_code 36 = .ok (.getfield 9, 3) := by decide +kernel
theorem d_T_firstWrong_39 : decode prog_7_method_10_code 39 = .ok (.iload 4, 2) := by decide +kernel
theorem d_T_firstWrong_41 : decode prog_7_method_10_code 41 = .ok (.iaload, 1) := by decide +kernel
theorem d_T_firstWrong_42 : decode prog_7_method_10_code 42 = .ok (.bipush 61, 2) := by decide +kernel
theorem d_T_firstWrong_44 : decode prog_7_method_10_code 44 = .ok (.if_icmp .eq 6, 3) := by decide +kernel
theorem d_T_firstWrong_47 : decode prog_7_method_10_code 47 = .ok (.iload 4, 2) := by decide +kernel
theorem d_T_firstWrong_49 : decode prog_7_method_10_code 49 = .ok (.ireturn, 1) := by decide +kernel
theorem d_T_firstWrong_50 : decode prog_7_method_10_code 50 = .ok (.aload_n 0, 1) := by decide +kernel
theorem d_T_firstWrong_51 : decode prog_7_method_10_code 51 = .ok (.iload 4, 2) := by decide +kernel
theorem d_T_firstWrong_53 : decode prog_7_method_10_code 53 = .ok (.putfield 19, 3) := by decide +kernel
theorem d_T_firstWrong_56 : decode prog_7_method_10_code 56 = .ok (.iconst 1, 1) := by decide +kernel
theorem d_T_firstWrong_57 : decode prog_7_method_10_code 57 = .ok (.istore_n 3, 1) := by decide +kernel
theorem d_T_firstWrong_58 : decode prog_7_method_10_code 58 = .ok (.goto 44, 3) := by decide +kernel
theorem d_T_firstWrong_61 : decode prog_7_method_10_code 61 = .ok (.iload_n 2, 1) := by decide +kernel
theorem d_T_firstWrong_62 : decode prog_7_method_10_code 62 = .ok (.ifCond .eq 12, 3) := by decide +kernel
theorem d_T_firstWrong_65 : decode prog_7_method_10_code 65 = .ok (.aload_n 0, 1) := by decide +kernel
theorem d_T_firstWrong_66 : decode prog_7_method_10_code 66 = .ok (.iload 4, 2) := by decide +kernel
theorem d_T_firstWrong_68 : decode prog_7_method_10_code 68 = .ok (.invokevirtual 45, 3) := by decide +kernel
theorem d_T_firstWrong_71 : decode prog_7_method_10_code 71 = .ok (.goto 13, 3) := by decide +kernel
theorem d_T_firstWrong_74 : decode prog_7_method_10_code 74 = .ok (.aload_n 0, 1) := by decide +kernel
theorem d_T_firstWrong_75 : decode prog_7_method_10_code 75 = .ok (.getfield 9, 3) := by decide +kernel
theorem d_T_firstWrong_78 : decode prog_7_method_10_code 78 = .ok (.iload 4, 2) := by decide +kernel
theorem d_T_firstWrong_80 : decode prog_7_method_10_code 80 = .ok (.iaload, 1) := by decide +kernel
theorem d_T_firstWrong_81 : decode prog_7_method_10_code 81 = .ok (.invokestatic 49, 3) := by decide +kernel
theorem d_T_firstWrong_84 : decode prog_7_method_10_code 84 = .ok (.istore 5, 2) := by decide +kernel
theorem d_T_firstWrong_86 : decode prog_7_method_10_code 86 = .ok (.iload 5, 2) := by decide +kernel
theorem d_T_firstWrong_88 : decode prog_7_method_10_code 88 = .ok (.iconst (-1), 1) := by decide +kernel
theorem d_T_firstWrong_89 : decode prog_7_method_10_code 89 = .ok (.if_icmp .ne 6, 3) := by decide +kernel
theorem d_T_firstWrong_92 : decode prog_7_method_10_code 92 = .ok (.iload 4, 2) := by decide +kernel
theorem d_T_firstWrong_94 : decode prog_7_method_10_code 94 = .ok (.ireturn, 1) := by decide +kernel
theorem d_T_firstWrong_95 : decode prog_7_method_10_code 95 = .ok (.iload_n 3, 1) := by decide +kernel
theorem d_T_firstWrong_96 : decode prog_7_method_10_code 96 = .ok (.iload 5, 2) := by decide +kernel
theorem d_T_firstWrong_98 : decode prog_7_method_10_code 98 = .ok (.iconst 1, 1) := by decide +kernel
theorem d_T_firstWrong_99 : decode prog_7_method_10_code 99 = .ok (.isub, 1) := by decide +kernel
theorem d_T_firstWrong_100 : decode prog_7_method_10_code 100 = .ok (.iadd, 1) := by decide +kernel
theorem d_T_firstWrong_101 : decode prog_7_method_10_code 101 = .ok (.istore_n 3, 1) := by decide +kernel
theorem d_T_firstWrong_102 : decode prog_7_method_10_code 102 = .ok (.iinc 4 1, 3) := by decide +kernel
theorem d_T_firstWrong_105 : decode prog_7_method_10_code 105 = .ok (.goto (-95), 3) := by decide +kernel
theorem d_T_firstWrong_108 : decode prog_7_method_10_code 108 = .ok (.iload_n 3, 1) := by decide +kernel
theorem d_T_firstWrong_109 : decode prog_7_method_10_code 109 = .ok (.ifCond .ne 19, 3) := by decide +kernel
theorem d_T_firstWrong_112 : decode prog_7_method_10_code 112 = .ok (.iload_n 1, 1) := by decide +kernel
theorem d_T_firstWrong_113 : decode prog_7_method_10_code 113 = .ok (.ifCond .eq 11, 3) := by decide +kernel
theorem d_T_firstWrong_116 : decode prog_7_method_10_code 116 = .ok (.aload_n 0, 1) := by decide +kernel
theorem d_T_firstWrong_117 : decode prog_7_method_10_code 117 = .ok (.getfield 19, 3) := by decide +kernel
theorem d_T_firstWrong_120 : decode prog_7_method_10_code 120 = .ok (.iconst (-1), 1) := by decide +kernel
theorem d_T_firstWrong_121 : decode prog_7_method_10_code 121 = .ok (.if_icmp .eq 7, 3) := by decide +kernel
theorem d_T_firstWrong_124 : decode prog_7_method_10_code 124 = .ok (.iconst 1, 1) := by decide +kernel
theorem d_T_firstWrong_125 : decode prog_7_method_10_code 125 = .ok (.goto 4, 3) := by decide +kernel
theorem d_T_firstWrong_128 : decode prog_7_method_10_code 128 = .ok (.iconst 0, 1) := by decide +kernel
theorem d_T_firstWrong_129 : decode prog_7_method_10_code 129 = .ok (.istore 4, 2) := by decide +kernel
theorem d_T_firstWrong_131 : decode prog_7_method_10_code 131 = .ok (.iload 4, 2) := by decide +kernel
theorem d_T_firstWrong_133 : decode prog_7_method_10_code 133 = .ok (.ifCond .eq 7, 3) := by decide +kernel
theorem d_T_firstWrong_136 : decode prog_7_method_10_code 136 = .ok (.iconst (-1), 1) := by decide +kernel
theorem d_T_firstWrong_137 : decode prog_7_method_10_code 137 = .ok (.goto 7, 3) := by decide +kernel
theorem d_T_firstWrong_140 : decode prog_7_method_10_code 140 = .ok (.aload_n 0, 1) := by decide +kernel
theorem d_T_firstWrong_141 : decode prog_7_method_10_code 141 = .ok (.getfield 15, 3) := by decide +kernel
theorem d_T_firstWrong_144 : decode prog_7_method_10_code 144 = .ok (.ireturn, 1) := by decide +kernel
theorem d_T_partsInRule_0 : decode prog_7_method_11_code 0 = .ok (.aload_n 0, 1) := by decide +kernel
theorem d_T_partsInRule_1 : decode prog_7_method_11_code 1 = .ok (.getfield 19, 3) := by decide +kernel
theorem d_T_partsInRule_4 : decode prog_7_method_11_code 4 = .ok (.iconst (-1), 1) := by decide +kernel
theorem d_T_partsInRule_5 : decode prog_7_method_11_code 5 = .ok (.if_icmp .ne 7, 3) := by decide +kernel
theorem d_T_partsInRule_8 : decode prog_7_method_11_code 8 = .ok (.iconst 0, 1) := by decide +kernel
theorem d_T_partsInRule_9 : decode prog_7_method_11_code 9 = .ok (.goto 9, 3) := by decide +kernel
theorem d_T_partsInRule_12 : decode prog_7_method_11_code 12 = .ok (.aload_n 0, 1) := by decide +kernel
theorem d_T_partsInRule_13 : decode prog_7_method_11_code 13 = .ok (.getfield 19, 3) := by decide +kernel
theorem d_T_partsInRule_16 : decode prog_7_method_11_code 16 = .ok (.iconst 1, 1) := by decide +kernel
theorem d_T_partsInRule_17 : decode prog_7_method_11_code 17 = .ok (.iadd, 1) := by decide +kernel
theorem d_T_partsInRule_18 : decode prog_7_method_11_code 18 = .ok (.istore_n 2, 1) := by decide +kernel
theorem d_T_partsInRule_19 : decode prog_7_method_11_code 19 = .ok (.iload_n 1, 1) := by decide +kernel
theorem d_T_partsInRule_20 : decode prog_7_method_11_code 20 = .ok (.iload_n 2, 1) := by decide +kernel
theorem d_T_partsInRule_21 : decode prog_7_method_11_code 21 = .ok (.isub, 1) := by decide +kernel
theorem d_T_partsInRule_22 : decode prog_7_method_11_code 22 = .ok (.bipush 7, 2) := by decide +kernel
theorem d_T_partsInRule_24 : decode prog_7_method_11_code 24 = .ok (.if_icmp .lt 5, 3) := by decide +kernel
theorem d_T_partsInRule_27 : decode prog_7_method_11_code 27 = .ok (.iconst (-1), 1) := by decide +kernel
theorem d_T_partsInRule_28 : decode prog_7_method_11_code 28 = .ok (.ireturn, 1) := by decide +kernel
theorem d_T_partsInRule_29 : decode prog_7_method_11_code 29 = .ok (.aload_n 0, 1) := by decide +kernel
theorem d_T_partsInRule_30 : decode prog_7_method_11_code 30 = .ok (.getfield 19, 3) := by decide +kernel
theorem d_T_partsInRule_33 : decode prog_7_method_11_code 33 = .ok (.iconst (-1), 1) := by decide +kernel
theorem d_T_partsInRule_34 : decode prog_7_method_11_code 34 = .ok (.if_icmp .eq 30, 3) := by decide +kernel
theorem d_T_partsInRule_37 : decode prog_7_method_11_code 37 = .ok (.aload_n 0, 1) := by decide +kernel
theorem d_T_partsInRule_38 : decode prog_7_method_11_code 38 = .ok (.getfield 9, 3) := by decide +kernel
theorem d_T_partsInRule_41 : decode prog_7_method_11_code 41 = .ok (.iload_n 1, 1) := by decide +kernel
theorem d_T_partsInRule_42 : decode prog_7_method_11_code 42 = .ok (.iaload, 1) := by decide +kernel
theorem d_T_partsInRule_43 : decode prog_7_method_11_code 43 = .ok (.invokestatic 54, 3) := by decide +kernel
theorem d_T_partsInRule_46 : decode prog_7_method_11_code 46 = .ok (.ifCond .eq 18, 3) := by decide +kernel
theorem d_T_partsInRule_49 : decode prog_7_method_11_code 49 = .ok (.aload_n 0, 1) := by decide +kernel
theorem d_T_partsInRule_50 : decode prog_7_method_11_code 50 = .ok (.aload_n 0, 1) := by decide +kernel
theorem d_T_partsInRule_51 : decode prog_7_method_11_code 51 = .ok (.getfield 9, 3) := by decide +kernel
theorem d_T_partsInRule_54 : decode prog_7_method_11_code 54 = .ok (.iload_n 1, 1) := by decide +kernel
theorem d_T_partsInRule_55 : decode prog_7_method_11_code 55 = .ok (.iaload, 1) := by decide +kernel
theorem d_T_partsInRule_56 : decode prog_7_method_11_code 56 = .ok (.invokevirtual 57, 3) := by decide +kernel
theorem d_T_partsInRule_59 : decode prog_7_method_11_code 59 = .ok (.ifCond .ne 5, 3) := by decide +kernel
theorem d_T_partsInRule_62 : decode prog_7_method_11_code 62 = .ok (.iconst (-1), 1) := by decide +kernel
theorem d_T_partsInRule_63 : decode prog_7_method_11_code 63 = .ok (.ireturn, 1) := by decide +kernel
theorem d_T_partsInRule_64 : decode prog_7_method_11_code 64 = .ok (.aload_n 0, 1) := by decide +kernel
theorem d_T_partsInRule_65 : decode prog_7_method_11_code 65 = .ok (.getfield 9, 3) := by decide +kernel
theorem d_T_partsInRule_68 : decode prog_7_method_11_code 68 = .ok (.iload_n 1, 1) := by decide +kernel
theorem d_T_partsInRule_69 : decode prog_7_method_11_code 69 = .ok (.iaload, 1) := by decide +kernel
theorem d_T_partsInRule_70 : decode prog_7_method_11_code 70 = .ok (.invokestatic 60, 3) := by decide +kernel
theorem d_T_partsInRule_73 : decode prog_7_method_11_code 73 = .ok (.ireturn, 1) := by decide +kernel
theorem d_S_isVariable_0 : decode prog_6_method_3_code 0 = .ok (.iload_n 0, 1) := by decide +kernel
theorem d_S_isVariable_1 : decode prog_6_method_3_code 1 = .ok (.bipush 97, 2) := by decide +kernel
theorem d_S_isVariable_3 : decode prog_6_method_3_code 3 = .ok (.if_icmp .lt 13, 3) := by decide +kernel
theorem d_S_isVariable_6 : decode prog_6_method_3_code 6 = .ok (.iload_n 0, 1) := by decide +kernel
theorem d_S_isVariable_7 : decode prog_6_method_3_code 7 = .ok (.bipush 100, 2) := by decide +kernel
theorem d_S_isVariable_9 : decode prog_6_method_3_code 9 = .ok (.if_icmp .ge 7, 3) := by decide +kernel
theorem d_S_isVariable_12 : decode prog_6_method_3_code 12 = .ok (.iconst 1, 1) := by decide +kernel
theorem d_S_isVariable_13 : decode prog_6_method_3_code 13 = .ok (.goto 4, 3) := by decide +kernel
theorem d_S_isVariable_16 : decode prog_6_method_3_code 16 = .ok (.iconst 0, 1) := by decide +kernel
theorem d_S_isVariable_17 : decode prog_6_method_3_code 17 = .ok (.ireturn, 1) := by decide +kernel
theorem d_T_inFirstSide_0 : decode prog_7_method_12_code 0 = .ok (.iconst 0, 1) := by decide +kernel
theorem d_T_inFirstSide_1 : decode prog_7_method_12_code 1 = .ok (.istore_n 2, 1) := by decide +kernel
theorem d_T_inFirstSide_2 : decode prog_7_method_12_code 2 = .ok (.iload_n 2, 1) := by decide +kernel
theorem d_T_inFirstSide_3 : decode prog_7_method_12_code 3 = .ok (.aload_n 0, 1) := by decide +kernel
theorem d_T_inFirstSide_4 : decode prog_7_method_12_code 4 = .ok (.getfield 19, 3) := by decide +kernel
theorem d_T_inFirstSide_7 : decode prog_7_method_12_code 7 = .ok (.if_icmp .ge 21, 3) := by decide +kernel
theorem d_T_inFirstSide_10 : decode prog_7_method_12_code 10 = .ok (.aload_n 0, 1) := by decide +kernel
theorem d_T_inFirstSide_11 : decode prog_7_method_12_code 11 = .ok (.getfield 9, 3) := by decide +kernel
theorem d_T_inFirstSide_14 : decode prog_7_method_12_code 14 = .ok (.iload_n 2, 1) := by decide +kernel
theorem d_T_inFirstSide_15 : decode prog_7_method_12_code 15 = .ok (.iaload, 1) := by decide +kernel
theorem d_T_inFirstSide_16 : decode prog_7_method_12_code 16 = .ok (.iload_n 1, 1) := by decide +kernel
theorem d_T_inFirstSide_17 : decode prog_7_method_12_code 17 = .ok (.if_icmp .ne 5, 3) := by decide +kernel
theorem d_T_inFirstSide_20 : decode prog_7_method_12_code 20 = .ok (.iconst 1, 1) := by decide +kernel
theorem d_T_inFirstSide_21 : decode prog_7_method_12_code 21 = .ok (.ireturn, 1) := by decide +kernel
theorem d_T_inFirstSide_22 : decode prog_7_method_12_code 22 = .ok (.iinc 2 1, 3) := by decide +kernel
theorem d_T_inFirstSide_25 : decode prog_7_method_12_code 25 = .ok (.goto (-23), 3) := by decide +kernel
theorem d_T_inFirstSide_28 : decode prog_7_method_12_code 28 = .ok (.iconst 0, 1) := by decide +kernel
theorem d_T_inFirstSide_29 : decode prog_7_method_12_code 29 = .ok (.ireturn, 1) := by decide +kernel
theorem d_S_partsInPattern_0 : decode prog_6_method_4_code 0 = .ok (.iload_n 0, 1) := by decide +kernel
theorem d_S_partsInPattern_1 : decode prog_6_method_4_code 1 = .ok (.invokestatic 9, 3) := by decide +kernel
theorem d_S_partsInPattern_4 : decode prog_6_method_4_code 4 = .ok (.ifCond .eq 7, 3) := by decide +kernel
theorem d_S_partsInPattern_7 : decode prog_6_method_4_code 7 = .ok (.iconst 0, 1) := by decide +kernel
theorem d_S_partsInPattern_8 : decode prog_6_method_4_code 8 = .ok (.goto 7, 3) := by decide +kernel
theorem d_S_partsInPattern_11 : decode prog_6_method_4_code 11 = .ok (.iload_n 0, 1) := by decide +kernel
theorem d_S_partsInPattern_12 : decode prog_6_method_4_code 12 = .ok (.invokestatic 15, 3) := by decide +kernel
theorem d_S_partsInPattern_15 : decode prog_6_method_4_code 15 = .ok (.ireturn, 1) := by decide +kernel
theorem d_S_parts_0 : decode prog_6_method_2_code 0 = .ok (.iload_n 0, 1) := by decide +kernel
theorem d_S_parts_1 : decode prog_6_method_2_code 1 = .ok (.lookupswitch 81 #[(33, 77), (42, 75), (43, 75), (45, 77), (94, 75), (120, 79), (121, 79), (122, 79)], 75) := by decide +kernel
theorem d_S_parts_76 : decode prog_6_method_2_code 76 = .ok (.iconst 2, 1) := by decide +kernel
theorem d_S_parts_77 : decode prog_6_method_2_code 77 = .ok (.ireturn, 1) := by decide +kernel
theorem d_S_parts_78 : decode prog_6_method_2_code 78 = .ok (.iconst 1, 1) := by decide +kernel
theorem d_S_parts_79 : decode prog_6_method_2_code 79 = .ok (.ireturn, 1) := by decide +kernel
theorem d_S_parts_80 : decode prog_6_method_2_code 80 = .ok (.iconst 0, 1) := by decide +kernel
theorem d_S_parts_81 : decode prog_6_method_2_code 81 = .ok (.ireturn, 1) := by decide +kernel
theorem d_S_parts_82 : decode prog_6_method_2_code 82 = .ok (.iload_n 0, 1) := by decide +kernel
theorem d_S_parts_83 : decode prog_6_method_2_code 83 = .ok (.bipush 48, 2) := by decide +kernel
theorem d_S_parts_85 : decode prog_6_method_2_code 85 = .ok (.if_icmp .lt 13, 3) := by decide +kernel
theorem d_S_parts_88 : decode prog_6_method_2_code 88 = .ok (.iload_n 0, 1) := by decide +kernel
theorem d_S_parts_89 : decode prog_6_method_2_code 89 = .ok (.bipush 57, 2) := by decide +kernel
theorem d_S_parts_91 : decode prog_6_method_2_code 91 = .ok (.if_icmp .gt 7, 3) := by decide +kernel
theorem d_S_parts_94 : decode prog_6_method_2_code 94 = .ok (.iconst 0, 1) := by decide +kernel
theorem d_S_parts_95 : decode prog_6_method_2_code 95 = .ok (.goto 4, 3) := by decide +kernel
theorem d_S_parts_98 : decode prog_6_method_2_code 98 = .ok (.iconst (-1), 1) := by decide +kernel
theorem d_S_parts_99 : decode prog_6_method_2_code 99 = .ok (.ireturn, 1) := by decide +kernel
theorem d_T_noteWrong_0 : decode prog_7_method_9_code 0 = .ok (.iload_n 1, 1) := by decide +kernel
theorem d_T_noteWrong_1 : decode prog_7_method_9_code 1 = .ok (.iconst (-1), 1) := by decide +kernel
theorem d_T_noteWrong_2 : decode prog_7_method_9_code 2 = .ok (.if_icmp .ne 5, 3) := by decide +kernel
theorem d_T_noteWrong_5 : decode prog_7_method_9_code 5 = .ok (.iconst 1, 1) := by decide +kernel
theorem d_T_noteWrong_6 : decode prog_7_method_9_code 6 = .ok (.ireturn, 1) := by decide +kernel
theorem d_T_noteWrong_7 : decode prog_7_method_9_code 7 = .ok (.aload_n 0, 1) := by decide +kernel
theorem d_T_noteWrong_8 : decode prog_7_method_9_code 8 = .ok (.iload_n 1, 1) := by decide +kernel
theorem d_T_noteWrong_9 : decode prog_7_method_9_code 9 = .ok (.putfield 22, 3) := by decide +kernel
theorem d_T_noteWrong_12 : decode prog_7_method_9_code 12 = .ok (.iconst 0, 1) := by decide +kernel
theorem d_T_noteWrong_13 : decode prog_7_method_9_code 13 = .ok (.ireturn, 1) := by decide +kernel
theorem d_T_isTerm_0 : decode prog_7_method_6_code 0 = .ok (.aload_n 0, 1) := by decide +kernel
theorem d_T_isTerm_1 : decode prog_7_method_6_code 1 = .ok (.aload_n 0, 1) := by decide +kernel
theorem d_T_isTerm_2 : decode prog_7_method_6_code 2 = .ok (.iconst 0, 1) := by decide +kernel
theorem d_T_isTerm_3 : decode prog_7_method_6_code 3 = .ok (.iconst 0, 1) := by decide +kernel
theorem d_T_isTerm_4 : decode prog_7_method_6_code 4 = .ok (.invokevirtual 37, 3) := by decide +kernel
theorem d_T_isTerm_7 : decode prog_7_method_6_code 7 = .ok (.invokevirtual 41, 3) := by decide +kernel
theorem d_T_isTerm_10 : decode prog_7_method_6_code 10 = .ok (.ireturn, 1) := by decide +kernel
theorem d_T_isEquation_0 : decode prog_7_method_7_code 0 = .ok (.aload_n 0, 1) := by decide +kernel
theorem d_T_isEquation_1 : decode prog_7_method_7_code 1 = .ok (.aload_n 0, 1) := by decide +kernel
theorem d_T_isEquation_2 : decode prog_7_method_7_code 2 = .ok (.iconst 1, 1) := by decide +kernel
theorem d_T_isEquation_3 : decode prog_7_method_7_code 3 = .ok (.iconst 0, 1) := by decide +kernel
theorem d_T_isEquation_4 : decode prog_7_method_7_code 4 = .ok (.invokevirtual 37, 3) := by decide +kernel
theorem d_T_isEquation_7 : decode prog_7_method_7_code 7 = .ok (.invokevirtual 41, 3) := by decide +kernel
theorem d_T_isEquation_10 : decode prog_7_method_7_code 10 = .ok (.ireturn, 1) := by decide +kernel
theorem d_R_fitAll_0 : decode prog_4_method_2_code 0 = .ok (.aload_n 0, 1) := by decide +kernel
theorem d_R_fitAll_1 : decode prog_4_method_2_code 1 = .ok (.getfield 25, 3) := by decide +kernel
theorem d_R_fitAll_4 : decode prog_4_method_2_code 4 = .ok (.getfield 33, 3) := by decide +kernel
theorem d_R_fitAll_7 : decode prog_4_method_2_code 7 = .ok (.istore_n 3, 1) := by decide +kernel
theorem d_R_fitAll_8 : decode prog_4_method_2_code 8 = .ok (.aload_n 0, 1) := by decide +kernel
theorem d_R_fitAll_9 : decode prog_4_method_2_code 9 = .ok (.getfield 25, 3) := by decide +kernel
theorem d_R_fitAll_12 : decode prog_4_method_2_code 12 = .ok (.getfield 39, 3) := by decide +kernel
theorem d_R_fitAll_15 : decode prog_4_method_2_code 15 = .ok (.istore 4, 2) := by decide +kernel
theorem d_R_fitAll_17 : decode prog_4_method_2_code 17 = .ok (.aload_n 0, 1) := by decide +kernel
theorem d_R_fitAll_18 : decode prog_4_method_2_code 18 = .ok (.invokevirtual 42, 3) := by decide +kernel
theorem d_R_fitAll_21 : decode prog_4_method_2_code 21 = .ok (.aload_n 0, 1) := by decide +kernel
theorem d_R_fitAll_22 : decode prog_4_method_2_code 22 = .ok (.iconst 0, 1) := by decide +kernel
theorem d_R_fitAll_23 : decode prog_4_method_2_code 23 = .ok (.putfield 9, 3) := by decide +kernel
theorem d_R_fitAll_26 : decode prog_4_method_2_code 26 = .ok (.iconst 0, 1) := by decide +kernel
theorem d_R_fitAll_27 : decode prog_4_method_2_code 27 = .ok (.istore 5, 2) := by decide +kernel
theorem d_R_fitAll_29 : decode prog_4_method_2_code 29 = .ok (.iload 5, 2) := by decide +kernel
theorem d_R_fitAll_31 : decode prog_4_method_2_code 31 = .ok (.iload_n 2, 1) := by decide +kernel
theorem d_R_fitAll_32 : decode prog_4_method_2_code 32 = .ok (.if_icmp .ge 57, 3) := by decide +kernel
theorem d_R_fitAll_35 : decode prog_4_method_2_code 35 = .ok (.iconst 0, 1) := by decide +kernel
theorem d_R_fitAll_36 : decode prog_4_method_2_code 36 = .ok (.istore 6, 2) := by decide +kernel
theorem d_R_fitAll_38 : decode prog_4_method_2_code 38 = .ok (.iload 6, 2) := by decide +kernel
theorem d_R_fitAll_40 : decode prog_4_method_2_code 40 = .ok (.iload 4, 2) := by decide +kernel
theorem d_R_fitAll_42 : decode prog_4_method_2_code 42 = .ok (.if_icmp .ge 41, 3) := by decide +kernel
theorem d_R_fitAll_45 : decode prog_4_method_2_code 45 = .ok (.aload_n 0, 1) := by decide +kernel
theorem d_R_fitAll_46 : decode prog_4_method_2_code 46 = .ok (.getfield 15, 3) := by decide +kernel
theorem d_R_fitAll_49 : decode prog_4_method_2_code 49 = .ok (.iconst 0, 1) := by decide +kernel
theorem d_R_fitAll_50 : decode prog_4_method_2_code 50 = .ok (.iload 6, 2) := by decide +kernel
theorem d_R_fitAll_52 : decode prog_4_method_2_code 52 = .ok (.iastore, 1) := by decide +kernel
theorem d_R_fitAll_53 : decode prog_4_method_2_code 53 = .ok (.aload_n 0, 1) := by decide +kernel
theorem d_R_fitAll_54 : decode prog_4_method_2_code 54 = .ok (.aload_n 1, 1) := by decide +kernel
theorem d_R_fitAll_55 : decode prog_4_method_2_code 55 = .ok (.iload 5, 2) := by decide +kernel
theorem d_R_fitAll_57 : decode prog_4_method_2_code 57 = .ok (.aaload, 1) := by decide +kernel
theorem d_R_fitAll_58 : decode prog_4_method_2_code 58 = .ok (.iconst 0, 1) := by decide +kernel
theorem d_R_fitAll_59 : decode prog_4_method_2_code 59 = .ok (.invokevirtual 45, 3) := by decide +kernel
theorem d_R_fitAll_62 : decode prog_4_method_2_code 62 = .ok (.ifCond .ne 15, 3) := by decide +kernel
theorem d_R_fitAll_65 : decode prog_4_method_2_code 65 = .ok (.aload_n 0, 1) := by decide +kernel
theorem d_R_fitAll_66 : decode prog_4_method_2_code 66 = .ok (.getfield 25, 3) := by decide +kernel
theorem d_R_fitAll_69 : decode prog_4_method_2_code 69 = .ok (.iload_n 3, 1) := by decide +kernel
theorem d_R_fitAll_70 : decode prog_4_method_2_code 70 = .ok (.iload 4, 2) := by decide +kernel
theorem d_R_fitAll_72 : decode prog_4_method_2_code 72 = .ok (.invokevirtual 49, 3) := by decide +kernel
theorem d_R_fitAll_75 : decode prog_4_method_2_code 75 = .ok (.iconst 0, 1) := by decide +kernel
theorem d_R_fitAll_76 : decode prog_4_method_2_code 76 = .ok (.ireturn, 1) := by decide +kernel
theorem d_R_fitAll_77 : decode prog_4_method_2_code 77 = .ok (.iinc 6 1, 3) := by decide +kernel
theorem d_R_fitAll_80 : decode prog_4_method_2_code 80 = .ok (.goto (-42), 3) := by decide +kernel
theorem d_R_fitAll_83 : decode prog_4_method_2_code 83 = .ok (.iinc 5 1, 3) := by decide +kernel
theorem d_R_fitAll_86 : decode prog_4_method_2_code 86 = .ok (.goto (-57), 3) := by decide +kernel
theorem d_R_fitAll_89 : decode prog_4_method_2_code 89 = .ok (.aload_n 0, 1) := by decide +kernel
theorem d_R_fitAll_90 : decode prog_4_method_2_code 90 = .ok (.getfield 9, 3) := by decide +kernel
theorem d_R_fitAll_93 : decode prog_4_method_2_code 93 = .ok (.ifCond .eq 10, 3) := by decide +kernel
theorem d_R_fitAll_96 : decode prog_4_method_2_code 96 = .ok (.aload_n 0, 1) := by decide +kernel
theorem d_R_fitAll_97 : decode prog_4_method_2_code 97 = .ok (.getfield 25, 3) := by decide +kernel
theorem d_R_fitAll_100 : decode prog_4_method_2_code 100 = .ok (.invokevirtual 53, 3) := by decide +kernel
theorem d_R_fitAll_103 : decode prog_4_method_2_code 103 = .ok (.iconst 1, 1) := by decide +kernel
theorem d_R_fitAll_104 : decode prog_4_method_2_code 104 = .ok (.ireturn, 1) := by decide +kernel
theorem d_R_listNodes_0 : decode prog_4_method_3_code 0 = .ok (.iconst 0, 1) := by decide +kernel
theorem d_R_listNodes_1 : decode prog_4_method_3_code 1 = .ok (.istore_n 1, 1) := by decide +kernel
theorem d_R_listNodes_2 : decode prog_4_method_3_code 2 = .ok (.iconst 0, 1) := by decide +kernel
theorem d_R_listNodes_3 : decode prog_4_method_3_code 3 = .ok (.istore_n 2, 1) := by decide +kernel
theorem d_R_listNodes_4 : decode prog_4_method_3_code 4 = .ok (.iload_n 2, 1) := by decide +kernel
theorem d_R_listNodes_5 : decode prog_4_method_3_code 5 = .ok (.aload_n 0, 1) := by decide +kernel
theorem d_R_listNodes_6 : decode prog_4_method_3_code 6 = .ok (.getfield 25, 3) := by decide +kernel
theorem d_R_listNodes_9 : decode prog_4_method_3_code 9 = .ok (.getfield 39, 3) := by decide +kernel
theorem d_R_listNodes_12 : decode prog_4_method_3_code 12 = .ok (.if_icmp .ge 58, 3) := by decide +kernel
theorem d_R_listNodes_15 : decode prog_4_method_3_code 15 = .ok (.aload_n 0, 1) := by decide +kernel
theorem d_R_listNodes_16 : decode prog_4_method_3_code 16 = .ok (.getfield 22, 3) := by decide +kernel
theorem d_R_listNodes_19 : decode prog_4_method_3_code 19 = .ok (.iload_n 2, 1) := by decide +kernel
theorem d_R_listNodes_20 : decode prog_4_method_3_code 20 = .ok (.iload_n 1, 1) := by decide +kernel
theorem d_R_listNodes_21 : decode prog_4_method_3_code 21 = .ok (.iastore, 1) := by decide +kernel
theorem d_R_listNodes_22 : decode prog_4_method_3_code 22 = .ok (.iconst 0, 1) := by decide +kernel
theorem d_R_listNodes_23 : decode prog_4_method_3_code 23 = .ok (.istore_n 3, 1) := by decide +kernel
theorem d_R_listNodes_24 : decode prog_4_method_3_code 24 = .ok (.iload_n 3, 1) := by decide +kernel
theorem d_R_listNodes_25 : decode prog_4_method_3_code 25 = .ok (.aload_n 0, 1) := by decide +kernel
theorem d_R_listNodes_26 : decode prog_4_method_3_code 26 = .ok (.getfield 25, 3) := by decide +kernel
theorem d_R_listNodes_29 : decode prog_4_method_3_code 29 = .ok (.getfield 33, 3) := by decide +kernel
theorem d_R_listNodes_32 : decode prog_4_method_3_code 32 = .ok (.if_icmp .ge 32, 3) := by decide +kernel
theorem d_R_listNodes_35 : decode prog_4_method_3_code 35 = .ok (.aload_n 0, 1) := by decide +kernel
theorem d_R_listNodes_36 : decode prog_4_method_3_code 36 = .ok (.getfield 25, 3) := by decide +kernel
theorem d_R_listNodes_39 : decode prog_4_method_3_code 39 = .ok (.getfield 56, 3) := by decide +kernel
theorem d_R_listNodes_42 : decode prog_4_method_3_code 42 = .ok (.iload_n 3, 1) := by decide +kernel
theorem d_R_listNodes_43 : decode prog_4_method_3_code 43 = .ok (.iaload, 1) := by decide +kernel
theorem d_R_listNodes_44 : decode prog_4_method_3_code 44 = .ok (.iload_n 2, 1) := by decide +kernel
theorem d_R_listNodes_45 : decode prog_4_method_3_code 45 = .ok (.if_icmp .ne 13, 3) := by decide +kernel
theorem d_R_listNodes_48 : decode prog_4_method_3_code 48 = .ok (.aload_n 0, 1) := by decide +kernel
theorem d_R_listNodes_49 : decode prog_4_method_3_code 49 = .ok (.getfield 19, 3) := by decide +kernel
theorem d_R_listNodes_52 : decode prog_4_method_3_code 52 = .ok (.iload_n 1, 1) := by decide +kernel
theorem d_R_listNodes_53 : decode prog_4_method_3_code 53 = .ok (.iload_n 3, 1) := by decide +kernel
theorem d_R_listNodes_54 : decode prog_4_method_3_code 54 = .ok (.iastore, 1) := by decide +kernel
theorem d_R_listNodes_55 : decode prog_4_method_3_code 55 = .ok (.iinc 1 1, 3) := by decide +kernel
theorem d_R_listNodes_58 : decode prog_4_method_3_code 58 = .ok (.iinc 3 1, 3) := by decide +kernel
theorem d_R_listNodes_61 : decode prog_4_method_3_code 61 = .ok (.goto (-37), 3) := by decide +kernel
theorem d_R_listNodes_64 : decode prog_4_method_3_code 64 = .ok (.iinc 2 1, 3) := by decide +kernel
theorem d_R_listNodes_67 : decode prog_4_method_3_code 67 = .ok (.goto (-63), 3) := by decide +kernel
theorem d_R_listNodes_70 : decode prog_4_method_3_code 70 = .ok (.aload_n 0, 1) := by decide +kernel
theorem d_R_listNodes_71 : decode prog_4_method_3_code 71 = .ok (.getfield 22, 3) := by decide +kernel
theorem d_R_listNodes_74 : decode prog_4_method_3_code 74 = .ok (.aload_n 0, 1) := by decide +kernel
theorem d_R_listNodes_75 : decode prog_4_method_3_code 75 = .ok (.getfield 25, 3) := by decide +kernel
theorem d_R_listNodes_78 : decode prog_4_method_3_code 78 = .ok (.getfield 39, 3) := by decide +kernel
theorem d_R_listNodes_81 : decode prog_4_method_3_code 81 = .ok (.iload_n 1, 1) := by decide +kernel
theorem d_R_listNodes_82 : decode prog_4_method_3_code 82 = .ok (.iastore, 1) := by decide +kernel
theorem d_R_listNodes_83 : decode prog_4_method_3_code 83 = .ok (.return_, 1) := by decide +kernel
theorem d_T_become_0 : decode prog_7_method_5_code 0 = .ok (.aload_n 1, 1) := by decide +kernel
theorem d_T_become_1 : decode prog_7_method_5_code 1 = .ok (.iconst 0, 1) := by decide +kernel
theorem d_T_become_2 : decode prog_7_method_5_code 2 = .ok (.aload_n 0, 1) := by decide +kernel
theorem d_T_become_3 : decode prog_7_method_5_code 3 = .ok (.getfield 9, 3) := by decide +kernel
theorem d_T_become_6 : decode prog_7_method_5_code 6 = .ok (.iconst 0, 1) := by decide +kernel
theorem d_T_become_7 : decode prog_7_method_5_code 7 = .ok (.iload_n 2, 1) := by decide +kernel
theorem d_T_become_8 : decode prog_7_method_5_code 8 = .ok (.invokestatic 31, 3) := by decide +kernel
theorem d_T_become_11 : decode prog_7_method_5_code 11 = .ok (.aload_n 0, 1) := by decide +kernel
theorem d_T_become_12 : decode prog_7_method_5_code 12 = .ok (.iload_n 2, 1) := by decide +kernel
theorem d_T_become_13 : decode prog_7_method_5_code 13 = .ok (.putfield 15, 3) := by decide +kernel
theorem d_T_become_16 : decode prog_7_method_5_code 16 = .ok (.return_, 1) := by decide +kernel
theorem ml_E_1 : Cond.methodLink "EqualTerms" 1 Lib.objectInit ∈ et_W := et_in 74 (by decide +kernel) (by decide +kernel)
theorem ml_T_3 : Cond.methodLink "EqualTerms$Text" 3 Lib.objectInit ∈ et_W := et_in 82 (by decide +kernel) (by decide +kernel)
theorem ml_G_3 : Cond.methodLink "EqualTerms$Graph" 3 Lib.objectInit ∈ et_W := et_in 109 (by decide +kernel) (by decide +kernel)
theorem ml_K_3 : Cond.methodLink "EqualTerms$Walk" 3 Lib.objectInit ∈ et_W := et_in 154 (by decide +kernel) (by decide +kernel)
theorem ml_R_3 : Cond.methodLink "EqualTerms$Round" 3 Lib.objectInit ∈ et_W := et_in 171 (by decide +kernel) (by decide +kernel)
theorem ml_C_3 : Cond.methodLink "EqualTerms$Cheapest" 3 Lib.objectInit ∈ et_W := et_in 197 (by decide +kernel) (by decide +kernel)
theorem ml_U_3 : Cond.methodLink "EqualTerms$Rule" 3 Lib.objectInit ∈ et_W := et_in 414 (by decide +kernel) (by decide +kernel)
theorem ml_M_1 : Cond.methodLink "EqualTermsModel" 1 Lib.objectInit ∈ et_W := et_in 678 (by decide +kernel) (by decide +kernel)
