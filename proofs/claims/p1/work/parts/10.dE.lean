theorem d_E_init_0 : decode prog_1_method_1_code 0 = .ok (.aload_n 0, 1) := by decide +kernel
theorem d_E_init_1 : decode prog_1_method_1_code 1 = .ok (.invokespecial 1, 3) := by decide +kernel
theorem d_E_init_4 : decode prog_1_method_1_code 4 = .ok (.aload_n 0, 1) := by decide +kernel
theorem d_E_init_5 : decode prog_1_method_1_code 5 = .ok (.new 7, 3) := by decide +kernel
theorem d_E_init_8 : decode prog_1_method_1_code 8 = .ok (.dup, 1) := by decide +kernel
theorem d_E_init_9 : decode prog_1_method_1_code 9 = .ok (.invokespecial 9, 3) := by decide +kernel
theorem d_E_init_12 : decode prog_1_method_1_code 12 = .ok (.putfield 10, 3) := by decide +kernel
theorem d_E_init_15 : decode prog_1_method_1_code 15 = .ok (.aload_n 0, 1) := by decide +kernel
theorem d_E_init_16 : decode prog_1_method_1_code 16 = .ok (.new 16, 3) := by decide +kernel
theorem d_E_init_19 : decode prog_1_method_1_code 19 = .ok (.dup, 1) := by decide +kernel
theorem d_E_init_20 : decode prog_1_method_1_code 20 = .ok (.invokespecial 18, 3) := by decide +kernel
theorem d_E_init_23 : decode prog_1_method_1_code 23 = .ok (.putfield 19, 3) := by decide +kernel
theorem d_E_init_26 : decode prog_1_method_1_code 26 = .ok (.aload_n 0, 1) := by decide +kernel
theorem d_E_init_27 : decode prog_1_method_1_code 27 = .ok (.new 23, 3) := by decide +kernel
theorem d_E_init_30 : decode prog_1_method_1_code 30 = .ok (.dup, 1) := by decide +kernel
theorem d_E_init_31 : decode prog_1_method_1_code 31 = .ok (.aload_n 0, 1) := by decide +kernel
theorem d_E_init_32 : decode prog_1_method_1_code 32 = .ok (.getfield 19, 3) := by decide +kernel
theorem d_E_init_35 : decode prog_1_method_1_code 35 = .ok (.invokespecial 25, 3) := by decide +kernel
theorem d_E_init_38 : decode prog_1_method_1_code 38 = .ok (.putfield 28, 3) := by decide +kernel
theorem d_E_init_41 : decode prog_1_method_1_code 41 = .ok (.aload_n 0, 1) := by decide +kernel
theorem d_E_init_42 : decode prog_1_method_1_code 42 = .ok (.new 32, 3) := by decide +kernel
theorem d_E_init_45 : decode prog_1_method_1_code 45 = .ok (.dup, 1) := by decide +kernel
theorem d_E_init_46 : decode prog_1_method_1_code 46 = .ok (.aload_n 0, 1) := by decide +kernel
theorem d_E_init_47 : decode prog_1_method_1_code 47 = .ok (.getfield 19, 3) := by decide +kernel
theorem d_E_init_50 : decode prog_1_method_1_code 50 = .ok (.aload_n 0, 1) := by decide +kernel
theorem d_E_init_51 : decode prog_1_method_1_code 51 = .ok (.getfield 28, 3) := by decide +kernel
theorem d_E_init_54 : decode prog_1_method_1_code 54 = .ok (.invokespecial 34, 3) := by decide +kernel
theorem d_E_init_57 : decode prog_1_method_1_code 57 = .ok (.putfield 37, 3) := by decide +kernel
theorem d_E_init_60 : decode prog_1_method_1_code 60 = .ok (.aload_n 0, 1) := by decide +kernel
theorem d_E_init_61 : decode prog_1_method_1_code 61 = .ok (.new 41, 3) := by decide +kernel
theorem d_E_init_64 : decode prog_1_method_1_code 64 = .ok (.dup, 1) := by decide +kernel
theorem d_E_init_65 : decode prog_1_method_1_code 65 = .ok (.aload_n 0, 1) := by decide +kernel
theorem d_E_init_66 : decode prog_1_method_1_code 66 = .ok (.getfield 19, 3) := by decide +kernel
theorem d_E_init_69 : decode prog_1_method_1_code 69 = .ok (.invokespecial 43, 3) := by decide +kernel
theorem d_E_init_72 : decode prog_1_method_1_code 72 = .ok (.putfield 44, 3) := by decide +kernel
theorem d_E_init_75 : decode prog_1_method_1_code 75 = .ok (.aload_n 0, 1) := by decide +kernel
theorem d_E_init_76 : decode prog_1_method_1_code 76 = .ok (.bipush 6, 2) := by decide +kernel
theorem d_E_init_78 : decode prog_1_method_1_code 78 = .ok (.anewarray 48, 3) := by decide +kernel
theorem d_E_init_81 : decode prog_1_method_1_code 81 = .ok (.putfield 50, 3) := by decide +kernel
theorem d_E_init_84 : decode prog_1_method_1_code 84 = .ok (.aload_n 0, 1) := by decide +kernel
theorem d_E_init_85 : decode prog_1_method_1_code 85 = .ok (.iconst 0, 1) := by decide +kernel
theorem d_E_init_86 : decode prog_1_method_1_code 86 = .ok (.putfield 54, 3) := by decide +kernel
theorem d_E_init_89 : decode prog_1_method_1_code 89 = .ok (.return_, 1) := by decide +kernel
theorem d_E_type_0 : decode prog_1_method_2_code 0 = .ok (.aload_n 0, 1) := by decide +kernel
theorem d_E_type_1 : decode prog_1_method_2_code 1 = .ok (.getfield 10, 3) := by decide +kernel
theorem d_E_type_4 : decode prog_1_method_2_code 4 = .ok (.lload_n 1, 1) := by decide +kernel
theorem d_E_type_5 : decode prog_1_method_2_code 5 = .ok (.iload_n 3, 1) := by decide +kernel
theorem d_E_type_6 : decode prog_1_method_2_code 6 = .ok (.invokevirtual 58, 3) := by decide +kernel
theorem d_E_type_9 : decode prog_1_method_2_code 9 = .ok (.ireturn, 1) := by decide +kernel
theorem d_E_wipe_0 : decode prog_1_method_3_code 0 = .ok (.aload_n 0, 1) := by decide +kernel
theorem d_E_wipe_1 : decode prog_1_method_3_code 1 = .ok (.getfield 10, 3) := by decide +kernel
theorem d_E_wipe_4 : decode prog_1_method_3_code 4 = .ok (.getfield 62, 3) := by decide +kernel
theorem d_E_wipe_7 : decode prog_1_method_3_code 7 = .ok (.istore_n 1, 1) := by decide +kernel
theorem d_E_wipe_8 : decode prog_1_method_3_code 8 = .ok (.aload_n 0, 1) := by decide +kernel
theorem d_E_wipe_9 : decode prog_1_method_3_code 9 = .ok (.getfield 10, 3) := by decide +kernel
theorem d_E_wipe_12 : decode prog_1_method_3_code 12 = .ok (.invokevirtual 65, 3) := by decide +kernel
theorem d_E_wipe_15 : decode prog_1_method_3_code 15 = .ok (.iload_n 1, 1) := by decide +kernel
theorem d_E_wipe_16 : decode prog_1_method_3_code 16 = .ok (.ireturn, 1) := by decide +kernel
theorem d_E_character_0 : decode prog_1_method_4_code 0 = .ok (.iload_n 1, 1) := by decide +kernel
theorem d_E_character_1 : decode prog_1_method_4_code 1 = .ok (.ifCond .lt 14, 3) := by decide +kernel
theorem d_E_character_4 : decode prog_1_method_4_code 4 = .ok (.iload_n 1, 1) := by decide +kernel
theorem d_E_character_5 : decode prog_1_method_4_code 5 = .ok (.aload_n 0, 1) := by decide +kernel
theorem d_E_character_6 : decode prog_1_method_4_code 6 = .ok (.getfield 10, 3) := by decide +kernel
theorem d_E_character_9 : decode prog_1_method_4_code 9 = .ok (.getfield 62, 3) := by decide +kernel
theorem d_E_character_12 : decode prog_1_method_4_code 12 = .ok (.if_icmp .lt 7, 3) := by decide +kernel
theorem d_E_character_15 : decode prog_1_method_4_code 15 = .ok (.iconst (-1), 1) := by decide +kernel
theorem d_E_character_16 : decode prog_1_method_4_code 16 = .ok (.goto 12, 3) := by decide +kernel
theorem d_E_character_19 : decode prog_1_method_4_code 19 = .ok (.aload_n 0, 1) := by decide +kernel
theorem d_E_character_20 : decode prog_1_method_4_code 20 = .ok (.getfield 10, 3) := by decide +kernel
theorem d_E_character_23 : decode prog_1_method_4_code 23 = .ok (.getfield 68, 3) := by decide +kernel
theorem d_E_character_26 : decode prog_1_method_4_code 26 = .ok (.iload_n 1, 1) := by decide +kernel
theorem d_E_character_27 : decode prog_1_method_4_code 27 = .ok (.iaload, 1) := by decide +kernel
theorem d_E_character_28 : decode prog_1_method_4_code 28 = .ok (.ireturn, 1) := by decide +kernel
theorem d_E_place_0 : decode prog_1_method_5_code 0 = .ok (.aload_n 0, 1) := by decide +kernel
theorem d_E_place_1 : decode prog_1_method_5_code 1 = .ok (.getfield 10, 3) := by decide +kernel
theorem d_E_place_4 : decode prog_1_method_5_code 4 = .ok (.getfield 72, 3) := by decide +kernel
theorem d_E_place_7 : decode prog_1_method_5_code 7 = .ok (.ireturn, 1) := by decide +kernel
theorem d_E_nodes_0 : decode prog_1_method_12_code 0 = .ok (.aload_n 0, 1) := by decide +kernel
theorem d_E_nodes_1 : decode prog_1_method_12_code 1 = .ok (.getfield 19, 3) := by decide +kernel
theorem d_E_nodes_4 : decode prog_1_method_12_code 4 = .ok (.getfield 97, 3) := by decide +kernel
theorem d_E_nodes_7 : decode prog_1_method_12_code 7 = .ok (.ireturn, 1) := by decide +kernel
theorem d_E_classes_0 : decode prog_1_method_13_code 0 = .ok (.aload_n 0, 1) := by decide +kernel
theorem d_E_classes_1 : decode prog_1_method_13_code 1 = .ok (.getfield 19, 3) := by decide +kernel
theorem d_E_classes_4 : decode prog_1_method_13_code 4 = .ok (.getfield 100, 3) := by decide +kernel
theorem d_E_classes_7 : decode prog_1_method_13_code 7 = .ok (.ireturn, 1) := by decide +kernel
theorem d_E_rule_0 : decode prog_1_method_6_code 0 = .ok (.aload_n 0, 1) := by decide +kernel
theorem d_E_rule_1 : decode prog_1_method_6_code 1 = .ok (.getfield 10, 3) := by decide +kernel
theorem d_E_rule_4 : decode prog_1_method_6_code 4 = .ok (.invokevirtual 75, 3) := by decide +kernel
theorem d_E_rule_7 : decode prog_1_method_6_code 7 = .ok (.ifCond .ne 13, 3) := by decide +kernel
theorem d_E_rule_10 : decode prog_1_method_6_code 10 = .ok (.new 79, 3) := by decide +kernel
theorem d_E_rule_13 : decode prog_1_method_6_code 13 = .ok (.dup, 1) := by decide +kernel
theorem d_E_rule_14 : decode prog_1_method_6_code 14 = .ok (.ldc 81, 2) := by decide +kernel
theorem d_E_rule_16 : decode prog_1_method_6_code 16 = .ok (.invokespecial 83, 3) := by decide +kernel
theorem d_E_rule_19 : decode prog_1_method_6_code 19 = .ok (.athrow, 1) := by decide +kernel
theorem d_E_rule_20 : decode prog_1_method_6_code 20 = .ok (.aload_n 0, 1) := by decide +kernel
theorem d_E_rule_21 : decode prog_1_method_6_code 21 = .ok (.getfield 54, 3) := by decide +kernel
theorem d_E_rule_24 : decode prog_1_method_6_code 24 = .ok (.bipush 6, 2) := by decide +kernel
theorem d_E_rule_26 : decode prog_1_method_6_code 26 = .ok (.if_icmp .lt 13, 3) := by decide +kernel
theorem d_E_rule_29 : decode prog_1_method_6_code 29 = .ok (.new 86, 3) := by decide +kernel
theorem d_E_rule_32 : decode prog_1_method_6_code 32 = .ok (.dup, 1) := by decide +kernel
theorem d_E_rule_33 : decode prog_1_method_6_code 33 = .ok (.ldc 88, 2) := by decide +kernel
theorem d_E_rule_35 : decode prog_1_method_6_code 35 = .ok (.invokespecial 90, 3) := by decide +kernel
theorem d_E_rule_38 : decode prog_1_method_6_code 38 = .ok (.athrow, 1) := by decide +kernel
theorem d_E_rule_39 : decode prog_1_method_6_code 39 = .ok (.aload_n 0, 1) := by decide +kernel
theorem d_E_rule_40 : decode prog_1_method_6_code 40 = .ok (.getfield 50, 3) := by decide +kernel
theorem d_E_rule_43 : decode prog_1_method_6_code 43 = .ok (.aload_n 0, 1) := by decide +kernel
theorem d_E_rule_44 : decode prog_1_method_6_code 44 = .ok (.getfield 54, 3) := by decide +kernel
theorem d_E_rule_47 : decode prog_1_method_6_code 47 = .ok (.new 48, 3) := by decide +kernel
theorem d_E_rule_50 : decode prog_1_method_6_code 50 = .ok (.dup, 1) := by decide +kernel
theorem d_E_rule_51 : decode prog_1_method_6_code 51 = .ok (.aload_n 0, 1) := by decide +kernel
theorem d_E_rule_52 : decode prog_1_method_6_code 52 = .ok (.getfield 10, 3) := by decide +kernel
theorem d_E_rule_55 : decode prog_1_method_6_code 55 = .ok (.invokespecial 91, 3) := by decide +kernel
theorem d_E_rule_58 : decode prog_1_method_6_code 58 = .ok (.aastore, 1) := by decide +kernel
theorem d_E_rule_59 : decode prog_1_method_6_code 59 = .ok (.aload_n 0, 1) := by decide +kernel
theorem d_E_rule_60 : decode prog_1_method_6_code 60 = .ok (.dup, 1) := by decide +kernel
theorem d_E_rule_61 : decode prog_1_method_6_code 61 = .ok (.getfield 54, 3) := by decide +kernel
theorem d_E_rule_64 : decode prog_1_method_6_code 64 = .ok (.iconst 1, 1) := by decide +kernel
theorem d_E_rule_65 : decode prog_1_method_6_code 65 = .ok (.iadd, 1) := by decide +kernel
theorem d_E_rule_66 : decode prog_1_method_6_code 66 = .ok (.putfield 54, 3) := by decide +kernel
theorem d_E_rule_69 : decode prog_1_method_6_code 69 = .ok (.aload_n 0, 1) := by decide +kernel
theorem d_E_rule_70 : decode prog_1_method_6_code 70 = .ok (.getfield 10, 3) := by decide +kernel
theorem d_E_rule_73 : decode prog_1_method_6_code 73 = .ok (.invokevirtual 65, 3) := by decide +kernel
theorem d_E_rule_76 : decode prog_1_method_6_code 76 = .ok (.aload_n 0, 1) := by decide +kernel
theorem d_E_rule_77 : decode prog_1_method_6_code 77 = .ok (.getfield 54, 3) := by decide +kernel
theorem d_E_rule_80 : decode prog_1_method_6_code 80 = .ok (.ireturn, 1) := by decide +kernel
theorem d_E_add_0 : decode prog_1_method_7_code 0 = .ok (.aload_n 0, 1) := by decide +kernel
theorem d_E_add_1 : decode prog_1_method_7_code 1 = .ok (.invokevirtual 94, 3) := by decide +kernel
theorem d_E_add_4 : decode prog_1_method_7_code 4 = .ok (.aload_n 0, 1) := by decide +kernel
theorem d_E_add_5 : decode prog_1_method_7_code 5 = .ok (.getfield 19, 3) := by decide +kernel
theorem d_E_add_8 : decode prog_1_method_7_code 8 = .ok (.getfield 97, 3) := by decide +kernel
theorem d_E_add_11 : decode prog_1_method_7_code 11 = .ok (.istore_n 1, 1) := by decide +kernel
theorem d_E_add_12 : decode prog_1_method_7_code 12 = .ok (.aload_n 0, 1) := by decide +kernel
theorem d_E_add_13 : decode prog_1_method_7_code 13 = .ok (.getfield 19, 3) := by decide +kernel
theorem d_E_add_16 : decode prog_1_method_7_code 16 = .ok (.getfield 100, 3) := by decide +kernel
theorem d_E_add_19 : decode prog_1_method_7_code 19 = .ok (.istore_n 2, 1) := by decide +kernel
theorem d_E_add_20 : decode prog_1_method_7_code 20 = .ok (.aload_n 0, 1) := by decide +kernel
theorem d_E_add_21 : decode prog_1_method_7_code 21 = .ok (.getfield 28, 3) := by decide +kernel
theorem d_E_add_24 : decode prog_1_method_7_code 24 = .ok (.aload_n 0, 1) := by decide +kernel
theorem d_E_add_25 : decode prog_1_method_7_code 25 = .ok (.getfield 10, 3) := by decide +kernel
theorem d_E_add_28 : decode prog_1_method_7_code 28 = .ok (.getfield 68, 3) := by decide +kernel
theorem d_E_add_31 : decode prog_1_method_7_code 31 = .ok (.iconst 0, 1) := by decide +kernel
theorem d_E_add_32 : decode prog_1_method_7_code 32 = .ok (.aload_n 0, 1) := by decide +kernel
theorem d_E_add_33 : decode prog_1_method_7_code 33 = .ok (.getfield 10, 3) := by decide +kernel
theorem d_E_add_36 : decode prog_1_method_7_code 36 = .ok (.getfield 62, 3) := by decide +kernel
theorem d_E_add_39 : decode prog_1_method_7_code 39 = .ok (.iconst 1, 1) := by decide +kernel
theorem d_E_add_40 : decode prog_1_method_7_code 40 = .ok (.invokevirtual 103, 3) := by decide +kernel
theorem d_E_add_43 : decode prog_1_method_7_code 43 = .ok (.iconst (-1), 1) := by decide +kernel
theorem d_E_add_44 : decode prog_1_method_7_code 44 = .ok (.if_icmp .ne 22, 3) := by decide +kernel
theorem d_E_add_47 : decode prog_1_method_7_code 47 = .ok (.aload_n 0, 1) := by decide +kernel
theorem d_E_add_48 : decode prog_1_method_7_code 48 = .ok (.getfield 19, 3) := by decide +kernel
theorem d_E_add_51 : decode prog_1_method_7_code 51 = .ok (.iload_n 1, 1) := by decide +kernel
theorem d_E_add_52 : decode prog_1_method_7_code 52 = .ok (.iload_n 2, 1) := by decide +kernel
theorem d_E_add_53 : decode prog_1_method_7_code 53 = .ok (.invokevirtual 107, 3) := by decide +kernel
theorem d_E_add_56 : decode prog_1_method_7_code 56 = .ok (.new 86, 3) := by decide +kernel
theorem d_E_add_59 : decode prog_1_method_7_code 59 = .ok (.dup, 1) := by decide +kernel
theorem d_E_add_60 : decode prog_1_method_7_code 60 = .ok (.ldc 111, 2) := by decide +kernel
theorem d_E_add_62 : decode prog_1_method_7_code 62 = .ok (.invokespecial 90, 3) := by decide +kernel
theorem d_E_add_65 : decode prog_1_method_7_code 65 = .ok (.athrow, 1) := by decide +kernel
theorem d_E_add_66 : decode prog_1_method_7_code 66 = .ok (.aload_n 0, 1) := by decide +kernel
theorem d_E_add_67 : decode prog_1_method_7_code 67 = .ok (.getfield 10, 3) := by decide +kernel
theorem d_E_add_70 : decode prog_1_method_7_code 70 = .ok (.invokevirtual 65, 3) := by decide +kernel
theorem d_E_add_73 : decode prog_1_method_7_code 73 = .ok (.aload_n 0, 1) := by decide +kernel
theorem d_E_add_74 : decode prog_1_method_7_code 74 = .ok (.getfield 19, 3) := by decide +kernel
theorem d_E_add_77 : decode prog_1_method_7_code 77 = .ok (.getfield 97, 3) := by decide +kernel
theorem d_E_add_80 : decode prog_1_method_7_code 80 = .ok (.ireturn, 1) := by decide +kernel
theorem d_E_demandTerm_0 : decode prog_1_method_17_code 0 = .ok (.aload_n 0, 1) := by decide +kernel
theorem d_E_demandTerm_1 : decode prog_1_method_17_code 1 = .ok (.getfield 10, 3) := by decide +kernel
theorem d_E_demandTerm_4 : decode prog_1_method_17_code 4 = .ok (.invokevirtual 189, 3) := by decide +kernel
theorem d_E_demandTerm_7 : decode prog_1_method_17_code 7 = .ok (.ifCond .ne 13, 3) := by decide +kernel
theorem d_E_demandTerm_10 : decode prog_1_method_17_code 10 = .ok (.new 79, 3) := by decide +kernel
theorem d_E_demandTerm_13 : decode prog_1_method_17_code 13 = .ok (.dup, 1) := by decide +kernel
theorem d_E_demandTerm_14 : decode prog_1_method_17_code 14 = .ok (.ldc 192, 2) := by decide +kernel
theorem d_E_demandTerm_16 : decode prog_1_method_17_code 16 = .ok (.invokespecial 83, 3) := by decide +kernel
theorem d_E_demandTerm_19 : decode prog_1_method_17_code 19 = .ok (.athrow, 1) := by decide +kernel
theorem d_E_demandTerm_20 : decode prog_1_method_17_code 20 = .ok (.return_, 1) := by decide +kernel
theorem d_E_unite_0 : decode prog_1_method_8_code 0 = .ok (.aload_n 0, 1) := by decide +kernel
theorem d_E_unite_1 : decode prog_1_method_8_code 1 = .ok (.invokevirtual 113, 3) := by decide +kernel
theorem d_E_unite_4 : decode prog_1_method_8_code 4 = .ok (.aload_n 0, 1) := by decide +kernel
theorem d_E_unite_5 : decode prog_1_method_8_code 5 = .ok (.getfield 19, 3) := by decide +kernel
theorem d_E_unite_8 : decode prog_1_method_8_code 8 = .ok (.getfield 97, 3) := by decide +kernel
theorem d_E_unite_11 : decode prog_1_method_8_code 11 = .ok (.istore_n 1, 1) := by decide +kernel
theorem d_E_unite_12 : decode prog_1_method_8_code 12 = .ok (.aload_n 0, 1) := by decide +kernel
theorem d_E_unite_13 : decode prog_1_method_8_code 13 = .ok (.getfield 19, 3) := by decide +kernel
theorem d_E_unite_16 : decode prog_1_method_8_code 16 = .ok (.getfield 100, 3) := by decide +kernel
theorem d_E_unite_19 : decode prog_1_method_8_code 19 = .ok (.istore_n 2, 1) := by decide +kernel
theorem d_E_unite_20 : decode prog_1_method_8_code 20 = .ok (.aload_n 0, 1) := by decide +kernel
theorem d_E_unite_21 : decode prog_1_method_8_code 21 = .ok (.getfield 28, 3) := by decide +kernel
theorem d_E_unite_24 : decode prog_1_method_8_code 24 = .ok (.aload_n 0, 1) := by decide +kernel
theorem d_E_unite_25 : decode prog_1_method_8_code 25 = .ok (.getfield 10, 3) := by decide +kernel
theorem d_E_unite_28 : decode prog_1_method_8_code 28 = .ok (.getfield 68, 3) := by decide +kernel
theorem d_E_unite_31 : decode prog_1_method_8_code 31 = .ok (.iconst 0, 1) := by decide +kernel
theorem d_E_unite_32 : decode prog_1_method_8_code 32 = .ok (.aload_n 0, 1) := by decide +kernel
theorem d_E_unite_33 : decode prog_1_method_8_code 33 = .ok (.getfield 10, 3) := by decide +kernel
theorem d_E_unite_36 : decode prog_1_method_8_code 36 = .ok (.getfield 116, 3) := by decide +kernel
theorem d_E_unite_39 : decode prog_1_method_8_code 39 = .ok (.iconst 1, 1) := by decide +kernel
theorem d_E_unite_40 : decode prog_1_method_8_code 40 = .ok (.invokevirtual 103, 3) := by decide +kernel
theorem d_E_unite_43 : decode prog_1_method_8_code 43 = .ok (.istore_n 3, 1) := by decide +kernel
theorem d_E_unite_44 : decode prog_1_method_8_code 44 = .ok (.aload_n 0, 1) := by decide +kernel
theorem d_E_unite_45 : decode prog_1_method_8_code 45 = .ok (.getfield 28, 3) := by decide +kernel
theorem d_E_unite_48 : decode prog_1_method_8_code 48 = .ok (.aload_n 0, 1) := by decide +kernel
theorem d_E_unite_49 : decode prog_1_method_8_code 49 = .ok (.getfield 10, 3) := by decide +kernel
theorem d_E_unite_52 : decode prog_1_method_8_code 52 = .ok (.getfield 68, 3) := by decide +kernel
theorem d_E_unite_55 : decode prog_1_method_8_code 55 = .ok (.aload_n 0, 1) := by decide +kernel
theorem d_E_unite_56 : decode prog_1_method_8_code 56 = .ok (.getfield 10, 3) := by decide +kernel
theorem d_E_unite_59 : decode prog_1_method_8_code 59 = .ok (.getfield 116, 3) := by decide +kernel
theorem d_E_unite_62 : decode prog_1_method_8_code 62 = .ok (.iconst 1, 1) := by decide +kernel
theorem d_E_unite_63 : decode prog_1_method_8_code 63 = .ok (.iadd, 1) := by decide +kernel
theorem d_E_unite_64 : decode prog_1_method_8_code 64 = .ok (.aload_n 0, 1) := by decide +kernel
theorem d_E_unite_65 : decode prog_1_method_8_code 65 = .ok (.getfield 10, 3) := by decide +kernel
theorem d_E_unite_68 : decode prog_1_method_8_code 68 = .ok (.getfield 62, 3) := by decide +kernel
theorem d_E_unite_71 : decode prog_1_method_8_code 71 = .ok (.iconst 1, 1) := by decide +kernel
theorem d_E_unite_72 : decode prog_1_method_8_code 72 = .ok (.invokevirtual 103, 3) := by decide +kernel
theorem d_E_unite_75 : decode prog_1_method_8_code 75 = .ok (.istore 4, 2) := by decide +kernel
theorem d_E_unite_77 : decode prog_1_method_8_code 77 = .ok (.iload_n 3, 1) := by decide +kernel
theorem d_E_unite_78 : decode prog_1_method_8_code 78 = .ok (.iconst (-1), 1) := by decide +kernel
theorem d_E_unite_79 : decode prog_1_method_8_code 79 = .ok (.if_icmp .eq 9, 3) := by decide +kernel
theorem d_E_unite_82 : decode prog_1_method_8_code 82 = .ok (.iload 4, 2) := by decide +kernel
theorem d_E_unite_84 : decode prog_1_method_8_code 84 = .ok (.iconst (-1), 1) := by decide +kernel
theorem d_E_unite_85 : decode prog_1_method_8_code 85 = .ok (.if_icmp .ne 22, 3) := by decide +kernel
theorem d_E_unite_88 : decode prog_1_method_8_code 88 = .ok (.aload_n 0, 1) := by decide +kernel
theorem d_E_unite_89 : decode prog_1_method_8_code 89 = .ok (.getfield 19, 3) := by decide +kernel
theorem d_E_unite_92 : decode prog_1_method_8_code 92 = .ok (.iload_n 1, 1) := by decide +kernel
theorem d_E_unite_93 : decode prog_1_method_8_code 93 = .ok (.iload_n 2, 1) := by decide +kernel
theorem d_E_unite_94 : decode prog_1_method_8_code 94 = .ok (.invokevirtual 107, 3) := by decide +kernel
theorem d_E_unite_97 : decode prog_1_method_8_code 97 = .ok (.new 86, 3) := by decide +kernel
theorem d_E_unite_100 : decode prog_1_method_8_code 100 = .ok (.dup, 1) := by decide +kernel
theorem d_E_unite_101 : decode prog_1_method_8_code 101 = .ok (.ldc 119, 2) := by decide +kernel
theorem d_E_unite_103 : decode prog_1_method_8_code 103 = .ok (.invokespecial 90, 3) := by decide +kernel
theorem d_E_unite_106 : decode prog_1_method_8_code 106 = .ok (.athrow, 1) := by decide +kernel
theorem d_E_unite_107 : decode prog_1_method_8_code 107 = .ok (.aload_n 0, 1) := by decide +kernel
theorem d_E_unite_108 : decode prog_1_method_8_code 108 = .ok (.getfield 19, 3) := by decide +kernel
theorem d_E_unite_111 : decode prog_1_method_8_code 111 = .ok (.iload_n 3, 1) := by decide +kernel
theorem d_E_unite_112 : decode prog_1_method_8_code 112 = .ok (.iload 4, 2) := by decide +kernel
theorem d_E_unite_114 : decode prog_1_method_8_code 114 = .ok (.invokevirtual 121, 3) := by decide +kernel
theorem d_E_unite_117 : decode prog_1_method_8_code 117 = .ok (.ifCond .eq 10, 3) := by decide +kernel
theorem d_E_unite_120 : decode prog_1_method_8_code 120 = .ok (.aload_n 0, 1) := by decide +kernel
theorem d_E_unite_121 : decode prog_1_method_8_code 121 = .ok (.getfield 19, 3) := by decide +kernel
theorem d_E_unite_124 : decode prog_1_method_8_code 124 = .ok (.invokevirtual 125, 3) := by decide +kernel
theorem d_E_unite_127 : decode prog_1_method_8_code 127 = .ok (.aload_n 0, 1) := by decide +kernel
theorem d_E_unite_128 : decode prog_1_method_8_code 128 = .ok (.getfield 10, 3) := by decide +kernel
theorem d_E_unite_131 : decode prog_1_method_8_code 131 = .ok (.invokevirtual 65, 3) := by decide +kernel
theorem d_E_unite_134 : decode prog_1_method_8_code 134 = .ok (.aload_n 0, 1) := by decide +kernel
theorem d_E_unite_135 : decode prog_1_method_8_code 135 = .ok (.getfield 19, 3) := by decide +kernel
theorem d_E_unite_138 : decode prog_1_method_8_code 138 = .ok (.getfield 100, 3) := by decide +kernel
theorem d_E_unite_141 : decode prog_1_method_8_code 141 = .ok (.ireturn, 1) := by decide +kernel
theorem d_E_demandEquation_0 : decode prog_1_method_18_code 0 = .ok (.aload_n 0, 1) := by decide +kernel
theorem d_E_demandEquation_1 : decode prog_1_method_18_code 1 = .ok (.getfield 10, 3) := by decide +kernel
theorem d_E_demandEquation_4 : decode prog_1_method_18_code 4 = .ok (.invokevirtual 194, 3) := by decide +kernel
theorem d_E_demandEquation_7 : decode prog_1_method_18_code 7 = .ok (.ifCond .ne 13, 3) := by decide +kernel
theorem d_E_demandEquation_10 : decode prog_1_method_18_code 10 = .ok (.new 79, 3) := by decide +kernel
theorem d_E_demandEquation_13 : decode prog_1_method_18_code 13 = .ok (.dup, 1) := by decide +kernel
theorem d_E_demandEquation_14 : decode prog_1_method_18_code 14 = .ok (.ldc 197, 2) := by decide +kernel
theorem d_E_demandEquation_16 : decode prog_1_method_18_code 16 = .ok (.invokespecial 83, 3) := by decide +kernel
theorem d_E_demandEquation_19 : decode prog_1_method_18_code 19 = .ok (.athrow, 1) := by decide +kernel
theorem d_E_demandEquation_20 : decode prog_1_method_18_code 20 = .ok (.return_, 1) := by decide +kernel
theorem d_E_same_0 : decode prog_1_method_9_code 0 = .ok (.aload_n 0, 1) := by decide +kernel
theorem d_E_same_1 : decode prog_1_method_9_code 1 = .ok (.invokevirtual 113, 3) := by decide +kernel
theorem d_E_same_4 : decode prog_1_method_9_code 4 = .ok (.aload_n 0, 1) := by decide +kernel
theorem d_E_same_5 : decode prog_1_method_9_code 5 = .ok (.getfield 28, 3) := by decide +kernel
theorem d_E_same_8 : decode prog_1_method_9_code 8 = .ok (.aload_n 0, 1) := by decide +kernel
theorem d_E_same_9 : decode prog_1_method_9_code 9 = .ok (.getfield 10, 3) := by decide +kernel
theorem d_E_same_12 : decode prog_1_method_9_code 12 = .ok (.getfield 68, 3) := by decide +kernel
theorem d_E_same_15 : decode prog_1_method_9_code 15 = .ok (.iconst 0, 1) := by decide +kernel
theorem d_E_same_16 : decode prog_1_method_9_code 16 = .ok (.aload_n 0, 1) := by decide +kernel
theorem d_E_same_17 : decode prog_1_method_9_code 17 = .ok (.getfield 10, 3) := by decide +kernel
theorem d_E_same_20 : decode prog_1_method_9_code 20 = .ok (.getfield 116, 3) := by decide +kernel
theorem d_E_same_23 : decode prog_1_method_9_code 23 = .ok (.iconst 0, 1) := by decide +kernel
theorem d_E_same_24 : decode prog_1_method_9_code 24 = .ok (.invokevirtual 103, 3) := by decide +kernel
theorem d_E_same_27 : decode prog_1_method_9_code 27 = .ok (.istore_n 1, 1) := by decide +kernel
theorem d_E_same_28 : decode prog_1_method_9_code 28 = .ok (.aload_n 0, 1) := by decide +kernel
theorem d_E_same_29 : decode prog_1_method_9_code 29 = .ok (.getfield 28, 3) := by decide +kernel
theorem d_E_same_32 : decode prog_1_method_9_code 32 = .ok (.aload_n 0, 1) := by decide +kernel
theorem d_E_same_33 : decode prog_1_method_9_code 33 = .ok (.getfield 10, 3) := by decide +kernel
theorem d_E_same_36 : decode prog_1_method_9_code 36 = .ok (.getfield 68, 3) := by decide +kernel
theorem d_E_same_39 : decode prog_1_method_9_code 39 = .ok (.aload_n 0, 1) := by decide +kernel
theorem d_E_same_40 : decode prog_1_method_9_code 40 = .ok (.getfield 10, 3) := by decide +kernel
theorem d_E_same_43 : decode prog_1_method_9_code 43 = .ok (.getfield 116, 3) := by decide +kernel
theorem d_E_same_46 : decode prog_1_method_9_code 46 = .ok (.iconst 1, 1) := by decide +kernel
theorem d_E_same_47 : decode prog_1_method_9_code 47 = .ok (.iadd, 1) := by decide +kernel
theorem d_E_same_48 : decode prog_1_method_9_code 48 = .ok (.aload_n 0, 1) := by decide +kernel
theorem d_E_same_49 : decode prog_1_method_9_code 49 = .ok (.getfield 10, 3) := by decide +kernel
theorem d_E_same_52 : decode prog_1_method_9_code 52 = .ok (.getfield 62, 3) := by decide +kernel
theorem d_E_same_55 : decode prog_1_method_9_code 55 = .ok (.iconst 0, 1) := by decide +kernel
theorem d_E_same_56 : decode prog_1_method_9_code 56 = .ok (.invokevirtual 103, 3) := by decide +kernel
theorem d_E_same_59 : decode prog_1_method_9_code 59 = .ok (.istore_n 2, 1) := by decide +kernel
theorem d_E_same_60 : decode prog_1_method_9_code 60 = .ok (.aload_n 0, 1) := by decide +kernel
theorem d_E_same_61 : decode prog_1_method_9_code 61 = .ok (.getfield 10, 3) := by decide +kernel
theorem d_E_same_64 : decode prog_1_method_9_code 64 = .ok (.invokevirtual 65, 3) := by decide +kernel
theorem d_E_same_67 : decode prog_1_method_9_code 67 = .ok (.iload_n 1, 1) := by decide +kernel
theorem d_E_same_68 : decode prog_1_method_9_code 68 = .ok (.iconst (-1), 1) := by decide +kernel
theorem d_E_same_69 : decode prog_1_method_9_code 69 = .ok (.if_icmp .eq 8, 3) := by decide +kernel
theorem d_E_same_72 : decode prog_1_method_9_code 72 = .ok (.iload_n 2, 1) := by decide +kernel
theorem d_E_same_73 : decode prog_1_method_9_code 73 = .ok (.iconst (-1), 1) := by decide +kernel
theorem d_E_same_74 : decode prog_1_method_9_code 74 = .ok (.if_icmp .ne 5, 3) := by decide +kernel
theorem d_E_same_77 : decode prog_1_method_9_code 77 = .ok (.iconst (-1), 1) := by decide +kernel
theorem d_E_same_78 : decode prog_1_method_9_code 78 = .ok (.ireturn, 1) := by decide +kernel
theorem d_E_same_79 : decode prog_1_method_9_code 79 = .ok (.iload_n 1, 1) := by decide +kernel
theorem d_E_same_80 : decode prog_1_method_9_code 80 = .ok (.iload_n 2, 1) := by decide +kernel
theorem d_E_same_81 : decode prog_1_method_9_code 81 = .ok (.if_icmp .ne 7, 3) := by decide +kernel
theorem d_E_same_84 : decode prog_1_method_9_code 84 = .ok (.iconst 1, 1) := by decide +kernel
theorem d_E_same_85 : decode prog_1_method_9_code 85 = .ok (.goto 4, 3) := by decide +kernel
theorem d_E_same_88 : decode prog_1_method_9_code 88 = .ok (.iconst 0, 1) := by decide +kernel
theorem d_E_same_89 : decode prog_1_method_9_code 89 = .ok (.ireturn, 1) := by decide +kernel
theorem d_E_price_0 : decode prog_1_method_10_code 0 = .ok (.iload_n 1, 1) := by decide +kernel
theorem d_E_price_1 : decode prog_1_method_10_code 1 = .ok (.invokestatic 128, 3) := by decide +kernel
theorem d_E_price_4 : decode prog_1_method_10_code 4 = .ok (.iconst (-1), 1) := by decide +kernel
theorem d_E_price_5 : decode prog_1_method_10_code 5 = .ok (.if_icmp .ne 13, 3) := by decide +kernel
theorem d_E_price_8 : decode prog_1_method_10_code 8 = .ok (.new 79, 3) := by decide +kernel
theorem d_E_price_11 : decode prog_1_method_10_code 11 = .ok (.dup, 1) := by decide +kernel
theorem d_E_price_12 : decode prog_1_method_10_code 12 = .ok (.ldc 134, 2) := by decide +kernel
theorem d_E_price_14 : decode prog_1_method_10_code 14 = .ok (.invokespecial 83, 3) := by decide +kernel
theorem d_E_price_17 : decode prog_1_method_10_code 17 = .ok (.athrow, 1) := by decide +kernel
theorem d_E_price_18 : decode prog_1_method_10_code 18 = .ok (.iload_n 2, 1) := by decide +kernel
theorem d_E_price_19 : decode prog_1_method_10_code 19 = .ok (.iconst 1, 1) := by decide +kernel
theorem d_E_price_20 : decode prog_1_method_10_code 20 = .ok (.if_icmp .lt 9, 3) := by decide +kernel
theorem d_E_price_23 : decode prog_1_method_10_code 23 = .ok (.iload_n 2, 1) := by decide +kernel
theorem d_E_price_24 : decode prog_1_method_10_code 24 = .ok (.ldc 136, 2) := by decide +kernel
theorem d_E_price_26 : decode prog_1_method_10_code 26 = .ok (.if_icmp .le 13, 3) := by decide +kernel
theorem d_E_price_29 : decode prog_1_method_10_code 29 = .ok (.new 79, 3) := by decide +kernel
theorem d_E_price_32 : decode prog_1_method_10_code 32 = .ok (.dup, 1) := by decide +kernel
theorem d_E_price_33 : decode prog_1_method_10_code 33 = .ok (.ldc 137, 2) := by decide +kernel
theorem d_E_price_35 : decode prog_1_method_10_code 35 = .ok (.invokespecial 83, 3) := by decide +kernel
theorem d_E_price_38 : decode prog_1_method_10_code 38 = .ok (.athrow, 1) := by decide +kernel
theorem d_E_price_39 : decode prog_1_method_10_code 39 = .ok (.aload_n 0, 1) := by decide +kernel
theorem d_E_price_40 : decode prog_1_method_10_code 40 = .ok (.getfield 44, 3) := by decide +kernel
theorem d_E_price_43 : decode prog_1_method_10_code 43 = .ok (.getfield 139, 3) := by decide +kernel
theorem d_E_price_46 : decode prog_1_method_10_code 46 = .ok (.iload_n 1, 1) := by decide +kernel
theorem d_E_price_47 : decode prog_1_method_10_code 47 = .ok (.iload_n 2, 1) := by decide +kernel
theorem d_E_price_48 : decode prog_1_method_10_code 48 = .ok (.iastore, 1) := by decide +kernel
theorem d_E_price_49 : decode prog_1_method_10_code 49 = .ok (.return_, 1) := by decide +kernel
theorem d_E_rounds_0 : decode prog_1_method_11_code 0 = .ok (.iload_n 1, 1) := by decide +kernel
theorem d_E_rounds_1 : decode prog_1_method_11_code 1 = .ok (.ifCond .lt 9, 3) := by decide +kernel
theorem d_E_rounds_4 : decode prog_1_method_11_code 4 = .ok (.iload_n 1, 1) := by decide +kernel
theorem d_E_rounds_5 : decode prog_1_method_11_code 5 = .ok (.bipush 20, 2) := by decide +kernel
theorem d_E_rounds_7 : decode prog_1_method_11_code 7 = .ok (.if_icmp .le 13, 3) := by decide +kernel
theorem d_E_rounds_10 : decode prog_1_method_11_code 10 = .ok (.new 79, 3) := by decide +kernel
theorem d_E_rounds_13 : decode prog_1_method_11_code 13 = .ok (.dup, 1) := by decide +kernel
theorem d_E_rounds_14 : decode prog_1_method_11_code 14 = .ok (.ldc 142, 2) := by decide +kernel
theorem d_E_rounds_16 : decode prog_1_method_11_code 16 = .ok (.invokespecial 83, 3) := by decide +kernel
theorem d_E_rounds_19 : decode prog_1_method_11_code 19 = .ok (.athrow, 1) := by decide +kernel
theorem d_E_rounds_20 : decode prog_1_method_11_code 20 = .ok (.iconst 0, 1) := by decide +kernel
theorem d_E_rounds_21 : decode prog_1_method_11_code 21 = .ok (.istore_n 2, 1) := by decide +kernel
theorem d_E_rounds_22 : decode prog_1_method_11_code 22 = .ok (.iconst 0, 1) := by decide +kernel
theorem d_E_rounds_23 : decode prog_1_method_11_code 23 = .ok (.istore_n 3, 1) := by decide +kernel
theorem d_E_rounds_24 : decode prog_1_method_11_code 24 = .ok (.iload_n 3, 1) := by decide +kernel
theorem d_E_rounds_25 : decode prog_1_method_11_code 25 = .ok (.iload_n 1, 1) := by decide +kernel
theorem d_E_rounds_26 : decode prog_1_method_11_code 26 = .ok (.if_icmp .ge 45, 3) := by decide +kernel
theorem d_E_rounds_29 : decode prog_1_method_11_code 29 = .ok (.aload_n 0, 1) := by decide +kernel
theorem d_E_rounds_30 : decode prog_1_method_11_code 30 = .ok (.getfield 37, 3) := by decide +kernel
theorem d_E_rounds_33 : decode prog_1_method_11_code 33 = .ok (.aload_n 0, 1) := by decide +kernel
theorem d_E_rounds_34 : decode prog_1_method_11_code 34 = .ok (.getfield 50, 3) := by decide +kernel
theorem d_E_rounds_37 : decode prog_1_method_11_code 37 = .ok (.aload_n 0, 1) := by decide +kernel
theorem d_E_rounds_38 : decode prog_1_method_11_code 38 = .ok (.getfield 54, 3) := by decide +kernel
theorem d_E_rounds_41 : decode prog_1_method_11_code 41 = .ok (.invokevirtual 144, 3) := by decide +kernel
theorem d_E_rounds_44 : decode prog_1_method_11_code 44 = .ok (.ifCond .ne 6, 3) := by decide +kernel
theorem d_E_rounds_47 : decode prog_1_method_11_code 47 = .ok (.bipush (-2), 2) := by decide +kernel
theorem d_E_rounds_49 : decode prog_1_method_11_code 49 = .ok (.ireturn, 1) := by decide +kernel
theorem d_E_rounds_50 : decode prog_1_method_11_code 50 = .ok (.aload_n 0, 1) := by decide +kernel
theorem d_E_rounds_51 : decode prog_1_method_11_code 51 = .ok (.getfield 37, 3) := by decide +kernel
theorem d_E_rounds_54 : decode prog_1_method_11_code 54 = .ok (.getfield 148, 3) := by decide +kernel
theorem d_E_rounds_57 : decode prog_1_method_11_code 57 = .ok (.ifCond .ne 5, 3) := by decide +kernel
theorem d_E_rounds_60 : decode prog_1_method_11_code 60 = .ok (.iload_n 2, 1) := by decide +kernel
theorem d_E_rounds_61 : decode prog_1_method_11_code 61 = .ok (.ireturn, 1) := by decide +kernel
theorem d_E_rounds_62 : decode prog_1_method_11_code 62 = .ok (.iinc 2 1, 3) := by decide +kernel
theorem d_E_rounds_65 : decode prog_1_method_11_code 65 = .ok (.iinc 3 1, 3) := by decide +kernel
theorem d_E_rounds_68 : decode prog_1_method_11_code 68 = .ok (.goto (-44), 3) := by decide +kernel
theorem d_E_rounds_71 : decode prog_1_method_11_code 71 = .ok (.iload_n 2, 1) := by decide +kernel
theorem d_E_rounds_72 : decode prog_1_method_11_code 72 = .ok (.ireturn, 1) := by decide +kernel
theorem d_E_members_0 : decode prog_1_method_14_code 0 = .ok (.aload_n 0, 1) := by decide +kernel
theorem d_E_members_1 : decode prog_1_method_14_code 1 = .ok (.invokevirtual 152, 3) := by decide +kernel
theorem d_E_members_4 : decode prog_1_method_14_code 4 = .ok (.istore_n 1, 1) := by decide +kernel
theorem d_E_members_5 : decode prog_1_method_14_code 5 = .ok (.iload_n 1, 1) := by decide +kernel
theorem d_E_members_6 : decode prog_1_method_14_code 6 = .ok (.iconst (-1), 1) := by decide +kernel
theorem d_E_members_7 : decode prog_1_method_14_code 7 = .ok (.if_icmp .ne 7, 3) := by decide +kernel
theorem d_E_members_10 : decode prog_1_method_14_code 10 = .ok (.iconst (-1), 1) := by decide +kernel
theorem d_E_members_11 : decode prog_1_method_14_code 11 = .ok (.goto 11, 3) := by decide +kernel
theorem d_E_members_14 : decode prog_1_method_14_code 14 = .ok (.aload_n 0, 1) := by decide +kernel
theorem d_E_members_15 : decode prog_1_method_14_code 15 = .ok (.getfield 19, 3) := by decide +kernel
theorem d_E_members_18 : decode prog_1_method_14_code 18 = .ok (.iload_n 1, 1) := by decide +kernel
theorem d_E_members_19 : decode prog_1_method_14_code 19 = .ok (.invokevirtual 156, 3) := by decide +kernel
theorem d_E_members_22 : decode prog_1_method_14_code 22 = .ok (.ireturn, 1) := by decide +kernel
theorem d_E_takeTerm_0 : decode prog_1_method_19_code 0 = .ok (.aload_n 0, 1) := by decide +kernel
theorem d_E_takeTerm_1 : decode prog_1_method_19_code 1 = .ok (.invokevirtual 94, 3) := by decide +kernel
theorem d_E_takeTerm_4 : decode prog_1_method_19_code 4 = .ok (.aload_n 0, 1) := by decide +kernel
theorem d_E_takeTerm_5 : decode prog_1_method_19_code 5 = .ok (.getfield 28, 3) := by decide +kernel
theorem d_E_takeTerm_8 : decode prog_1_method_19_code 8 = .ok (.aload_n 0, 1) := by decide +kernel
theorem d_E_takeTerm_9 : decode prog_1_method_19_code 9 = .ok (.getfield 10, 3) := by decide +kernel
theorem d_E_takeTerm_12 : decode prog_1_method_19_code 12 = .ok (.getfield 68, 3) := by decide +kernel
theorem d_E_takeTerm_15 : decode prog_1_method_19_code 15 = .ok (.iconst 0, 1) := by decide +kernel
theorem d_E_takeTerm_16 : decode prog_1_method_19_code 16 = .ok (.aload_n 0, 1) := by decide +kernel
theorem d_E_takeTerm_17 : decode prog_1_method_19_code 17 = .ok (.getfield 10, 3) := by decide +kernel
theorem d_E_takeTerm_20 : decode prog_1_method_19_code 20 = .ok (.getfield 62, 3) := by decide +kernel
theorem d_E_takeTerm_23 : decode prog_1_method_19_code 23 = .ok (.iconst 0, 1) := by decide +kernel
theorem d_E_takeTerm_24 : decode prog_1_method_19_code 24 = .ok (.invokevirtual 103, 3) := by decide +kernel
theorem d_E_takeTerm_27 : decode prog_1_method_19_code 27 = .ok (.istore_n 1, 1) := by decide +kernel
theorem d_E_takeTerm_28 : decode prog_1_method_19_code 28 = .ok (.aload_n 0, 1) := by decide +kernel
theorem d_E_takeTerm_29 : decode prog_1_method_19_code 29 = .ok (.getfield 10, 3) := by decide +kernel
theorem d_E_takeTerm_32 : decode prog_1_method_19_code 32 = .ok (.invokevirtual 65, 3) := by decide +kernel
theorem d_E_takeTerm_35 : decode prog_1_method_19_code 35 = .ok (.iload_n 1, 1) := by decide +kernel
theorem d_E_takeTerm_36 : decode prog_1_method_19_code 36 = .ok (.ireturn, 1) := by decide +kernel
theorem d_E_cost_0 : decode prog_1_method_15_code 0 = .ok (.aload_n 0, 1) := by decide +kernel
theorem d_E_cost_1 : decode prog_1_method_15_code 1 = .ok (.invokevirtual 152, 3) := by decide +kernel
theorem d_E_cost_4 : decode prog_1_method_15_code 4 = .ok (.istore_n 1, 1) := by decide +kernel
theorem d_E_cost_5 : decode prog_1_method_15_code 5 = .ok (.iload_n 1, 1) := by decide +kernel
theorem d_E_cost_6 : decode prog_1_method_15_code 6 = .ok (.iconst (-1), 1) := by decide +kernel
theorem d_E_cost_7 : decode prog_1_method_15_code 7 = .ok (.if_icmp .ne 7, 3) := by decide +kernel
theorem d_E_cost_10 : decode prog_1_method_15_code 10 = .ok (.ldc2_w 159, 3) := by decide +kernel
theorem d_E_cost_13 : decode prog_1_method_15_code 13 = .ok (.lreturn, 1) := by decide +kernel
theorem d_E_cost_14 : decode prog_1_method_15_code 14 = .ok (.aload_n 0, 1) := by decide +kernel
theorem d_E_cost_15 : decode prog_1_method_15_code 15 = .ok (.getfield 44, 3) := by decide +kernel
theorem d_E_cost_18 : decode prog_1_method_15_code 18 = .ok (.invokevirtual 161, 3) := by decide +kernel
theorem d_E_cost_21 : decode prog_1_method_15_code 21 = .ok (.aload_n 0, 1) := by decide +kernel
theorem d_E_cost_22 : decode prog_1_method_15_code 22 = .ok (.getfield 44, 3) := by decide +kernel
theorem d_E_cost_25 : decode prog_1_method_15_code 25 = .ok (.getfield 164, 3) := by decide +kernel
theorem d_E_cost_28 : decode prog_1_method_15_code 28 = .ok (.iload_n 1, 1) := by decide +kernel
theorem d_E_cost_29 : decode prog_1_method_15_code 29 = .ok (.laload, 1) := by decide +kernel
theorem d_E_cost_30 : decode prog_1_method_15_code 30 = .ok (.ldc2_w 168, 3) := by decide +kernel
theorem d_E_cost_33 : decode prog_1_method_15_code 33 = .ok (.lcmp, 1) := by decide +kernel
theorem d_E_cost_34 : decode prog_1_method_15_code 34 = .ok (.ifCond .le 9, 3) := by decide +kernel
theorem d_E_cost_37 : decode prog_1_method_15_code 37 = .ok (.ldc2_w 170, 3) := by decide +kernel
theorem d_E_cost_40 : decode prog_1_method_15_code 40 = .ok (.goto 12, 3) := by decide +kernel
theorem d_E_cost_43 : decode prog_1_method_15_code 43 = .ok (.aload_n 0, 1) := by decide +kernel
theorem d_E_cost_44 : decode prog_1_method_15_code 44 = .ok (.getfield 44, 3) := by decide +kernel
theorem d_E_cost_47 : decode prog_1_method_15_code 47 = .ok (.getfield 164, 3) := by decide +kernel
theorem d_E_cost_50 : decode prog_1_method_15_code 50 = .ok (.iload_n 1, 1) := by decide +kernel
theorem d_E_cost_51 : decode prog_1_method_15_code 51 = .ok (.laload, 1) := by decide +kernel
theorem d_E_cost_52 : decode prog_1_method_15_code 52 = .ok (.lreturn, 1) := by decide +kernel
theorem d_E_best_0 : decode prog_1_method_16_code 0 = .ok (.aload_n 0, 1) := by decide +kernel
theorem d_E_best_1 : decode prog_1_method_16_code 1 = .ok (.invokevirtual 152, 3) := by decide +kernel
theorem d_E_best_4 : decode prog_1_method_16_code 4 = .ok (.istore_n 1, 1) := by decide +kernel
theorem d_E_best_5 : decode prog_1_method_16_code 5 = .ok (.iload_n 1, 1) := by decide +kernel
theorem d_E_best_6 : decode prog_1_method_16_code 6 = .ok (.iconst (-1), 1) := by decide +kernel
theorem d_E_best_7 : decode prog_1_method_16_code 7 = .ok (.if_icmp .ne 5, 3) := by decide +kernel
theorem d_E_best_10 : decode prog_1_method_16_code 10 = .ok (.iconst (-1), 1) := by decide +kernel
theorem d_E_best_11 : decode prog_1_method_16_code 11 = .ok (.ireturn, 1) := by decide +kernel
theorem d_E_best_12 : decode prog_1_method_16_code 12 = .ok (.aload_n 0, 1) := by decide +kernel
theorem d_E_best_13 : decode prog_1_method_16_code 13 = .ok (.getfield 44, 3) := by decide +kernel
theorem d_E_best_16 : decode prog_1_method_16_code 16 = .ok (.invokevirtual 161, 3) := by decide +kernel
theorem d_E_best_19 : decode prog_1_method_16_code 19 = .ok (.aload_n 0, 1) := by decide +kernel
theorem d_E_best_20 : decode prog_1_method_16_code 20 = .ok (.getfield 44, 3) := by decide +kernel
theorem d_E_best_23 : decode prog_1_method_16_code 23 = .ok (.getfield 164, 3) := by decide +kernel
theorem d_E_best_26 : decode prog_1_method_16_code 26 = .ok (.iload_n 1, 1) := by decide +kernel
theorem d_E_best_27 : decode prog_1_method_16_code 27 = .ok (.laload, 1) := by decide +kernel
theorem d_E_best_28 : decode prog_1_method_16_code 28 = .ok (.ldc2_w 168, 3) := by decide +kernel
theorem d_E_best_31 : decode prog_1_method_16_code 31 = .ok (.lcmp, 1) := by decide +kernel
theorem d_E_best_32 : decode prog_1_method_16_code 32 = .ok (.ifCond .le 6, 3) := by decide +kernel
theorem d_E_best_35 : decode prog_1_method_16_code 35 = .ok (.bipush (-3), 2) := by decide +kernel
theorem d_E_best_37 : decode prog_1_method_16_code 37 = .ok (.ireturn, 1) := by decide +kernel
theorem d_E_best_38 : decode prog_1_method_16_code 38 = .ok (.aload_n 0, 1) := by decide +kernel
theorem d_E_best_39 : decode prog_1_method_16_code 39 = .ok (.getfield 44, 3) := by decide +kernel
theorem d_E_best_42 : decode prog_1_method_16_code 42 = .ok (.getfield 172, 3) := by decide +kernel
theorem d_E_best_45 : decode prog_1_method_16_code 45 = .ok (.iload_n 1, 1) := by decide +kernel
theorem d_E_best_46 : decode prog_1_method_16_code 46 = .ok (.laload, 1) := by decide +kernel
theorem d_E_best_47 : decode prog_1_method_16_code 47 = .ok (.ldc2_w 175, 3) := by decide +kernel
theorem d_E_best_50 : decode prog_1_method_16_code 50 = .ok (.lcmp, 1) := by decide +kernel
theorem d_E_best_51 : decode prog_1_method_16_code 51 = .ok (.ifCond .le 6, 3) := by decide +kernel
theorem d_E_best_54 : decode prog_1_method_16_code 54 = .ok (.bipush (-4), 2) := by decide +kernel
theorem d_E_best_56 : decode prog_1_method_16_code 56 = .ok (.ireturn, 1) := by decide +kernel
theorem d_E_best_57 : decode prog_1_method_16_code 57 = .ok (.aload_n 0, 1) := by decide +kernel
theorem d_E_best_58 : decode prog_1_method_16_code 58 = .ok (.getfield 44, 3) := by decide +kernel
theorem d_E_best_61 : decode prog_1_method_16_code 61 = .ok (.getfield 172, 3) := by decide +kernel
theorem d_E_best_64 : decode prog_1_method_16_code 64 = .ok (.iload_n 1, 1) := by decide +kernel
theorem d_E_best_65 : decode prog_1_method_16_code 65 = .ok (.laload, 1) := by decide +kernel
theorem d_E_best_66 : decode prog_1_method_16_code 66 = .ok (.l2i, 1) := by decide +kernel
theorem d_E_best_67 : decode prog_1_method_16_code 67 = .ok (.istore_n 2, 1) := by decide +kernel
theorem d_E_best_68 : decode prog_1_method_16_code 68 = .ok (.aload_n 0, 1) := by decide +kernel
theorem d_E_best_69 : decode prog_1_method_16_code 69 = .ok (.getfield 44, 3) := by decide +kernel
theorem d_E_best_72 : decode prog_1_method_16_code 72 = .ok (.iload_n 2, 1) := by decide +kernel
theorem d_E_best_73 : decode prog_1_method_16_code 73 = .ok (.invokevirtual 177, 3) := by decide +kernel
theorem d_E_best_76 : decode prog_1_method_16_code 76 = .ok (.aload_n 0, 1) := by decide +kernel
theorem d_E_best_77 : decode prog_1_method_16_code 77 = .ok (.getfield 10, 3) := by decide +kernel
theorem d_E_best_80 : decode prog_1_method_16_code 80 = .ok (.aload_n 0, 1) := by decide +kernel
theorem d_E_best_81 : decode prog_1_method_16_code 81 = .ok (.getfield 44, 3) := by decide +kernel
theorem d_E_best_84 : decode prog_1_method_16_code 84 = .ok (.getfield 181, 3) := by decide +kernel
theorem d_E_best_87 : decode prog_1_method_16_code 87 = .ok (.iload_n 1, 1) := by decide +kernel
theorem d_E_best_88 : decode prog_1_method_16_code 88 = .ok (.aaload, 1) := by decide +kernel
theorem d_E_best_89 : decode prog_1_method_16_code 89 = .ok (.iload_n 2, 1) := by decide +kernel
theorem d_E_best_90 : decode prog_1_method_16_code 90 = .ok (.invokevirtual 185, 3) := by decide +kernel
theorem d_E_best_93 : decode prog_1_method_16_code 93 = .ok (.iload_n 2, 1) := by decide +kernel
theorem d_E_best_94 : decode prog_1_method_16_code 94 = .ok (.ireturn, 1) := by decide +kernel
