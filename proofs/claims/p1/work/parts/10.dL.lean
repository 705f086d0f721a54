theorem d_L_rule_0 : decode method_3_code 0 = .ok (.aload_n 1, 1) := by decide +kernel
theorem d_L_rule_1 : decode method_3_code 1 = .ok (.iconst 0, 1) := by decide +kernel
theorem d_L_rule_2 : decode method_3_code 2 = .ok (.aload_n 0, 1) := by decide +kernel
theorem d_L_rule_3 : decode method_3_code 3 = .ok (.invokevirtual 7, 3) := by decide +kernel
theorem d_L_rule_6 : decode method_3_code 6 = .ok (.i2l, 1) := by decide +kernel
theorem d_L_rule_7 : decode method_3_code 7 = .ok (.lastore, 1) := by decide +kernel
theorem d_L_rule_8 : decode method_3_code 8 = .ok (.goto 9, 3) := by decide +kernel
theorem d_L_rule_11 : decode method_3_code 11 = .ok (.astore_n 2, 1) := by decide +kernel
theorem d_L_rule_12 : decode method_3_code 12 = .ok (.iconst 1, 1) := by decide +kernel
theorem d_L_rule_13 : decode method_3_code 13 = .ok (.ireturn, 1) := by decide +kernel
theorem d_L_rule_14 : decode method_3_code 14 = .ok (.astore_n 2, 1) := by decide +kernel
theorem d_L_rule_15 : decode method_3_code 15 = .ok (.iconst 2, 1) := by decide +kernel
theorem d_L_rule_16 : decode method_3_code 16 = .ok (.ireturn, 1) := by decide +kernel
theorem d_L_rule_17 : decode method_3_code 17 = .ok (.iconst 0, 1) := by decide +kernel
theorem d_L_rule_18 : decode method_3_code 18 = .ok (.ireturn, 1) := by decide +kernel
theorem d_L_add_0 : decode method_4_code 0 = .ok (.aload_n 1, 1) := by decide +kernel
theorem d_L_add_1 : decode method_4_code 1 = .ok (.iconst 0, 1) := by decide +kernel
theorem d_L_add_2 : decode method_4_code 2 = .ok (.aload_n 0, 1) := by decide +kernel
theorem d_L_add_3 : decode method_4_code 3 = .ok (.invokevirtual 17, 3) := by decide +kernel
theorem d_L_add_6 : decode method_4_code 6 = .ok (.i2l, 1) := by decide +kernel
theorem d_L_add_7 : decode method_4_code 7 = .ok (.lastore, 1) := by decide +kernel
theorem d_L_add_8 : decode method_4_code 8 = .ok (.goto 9, 3) := by decide +kernel
theorem d_L_add_11 : decode method_4_code 11 = .ok (.astore_n 2, 1) := by decide +kernel
theorem d_L_add_12 : decode method_4_code 12 = .ok (.iconst 1, 1) := by decide +kernel
theorem d_L_add_13 : decode method_4_code 13 = .ok (.ireturn, 1) := by decide +kernel
theorem d_L_add_14 : decode method_4_code 14 = .ok (.astore_n 2, 1) := by decide +kernel
theorem d_L_add_15 : decode method_4_code 15 = .ok (.iconst 2, 1) := by decide +kernel
theorem d_L_add_16 : decode method_4_code 16 = .ok (.ireturn, 1) := by decide +kernel
theorem d_L_add_17 : decode method_4_code 17 = .ok (.iconst 0, 1) := by decide +kernel
theorem d_L_add_18 : decode method_4_code 18 = .ok (.ireturn, 1) := by decide +kernel
theorem d_L_unite_0 : decode method_5_code 0 = .ok (.aload_n 1, 1) := by decide +kernel
theorem d_L_unite_1 : decode method_5_code 1 = .ok (.iconst 0, 1) := by decide +kernel
theorem d_L_unite_2 : decode method_5_code 2 = .ok (.aload_n 0, 1) := by decide +kernel
theorem d_L_unite_3 : decode method_5_code 3 = .ok (.invokevirtual 20, 3) := by decide +kernel
theorem d_L_unite_6 : decode method_5_code 6 = .ok (.i2l, 1) := by decide +kernel
theorem d_L_unite_7 : decode method_5_code 7 = .ok (.lastore, 1) := by decide +kernel
theorem d_L_unite_8 : decode method_5_code 8 = .ok (.goto 9, 3) := by decide +kernel
theorem d_L_unite_11 : decode method_5_code 11 = .ok (.astore_n 2, 1) := by decide +kernel
theorem d_L_unite_12 : decode method_5_code 12 = .ok (.iconst 1, 1) := by decide +kernel
theorem d_L_unite_13 : decode method_5_code 13 = .ok (.ireturn, 1) := by decide +kernel
theorem d_L_unite_14 : decode method_5_code 14 = .ok (.astore_n 2, 1) := by decide +kernel
theorem d_L_unite_15 : decode method_5_code 15 = .ok (.iconst 2, 1) := by decide +kernel
theorem d_L_unite_16 : decode method_5_code 16 = .ok (.ireturn, 1) := by decide +kernel
theorem d_L_unite_17 : decode method_5_code 17 = .ok (.iconst 0, 1) := by decide +kernel
theorem d_L_unite_18 : decode method_5_code 18 = .ok (.ireturn, 1) := by decide +kernel
theorem d_L_same_0 : decode method_6_code 0 = .ok (.aload_n 1, 1) := by decide +kernel
theorem d_L_same_1 : decode method_6_code 1 = .ok (.iconst 0, 1) := by decide +kernel
theorem d_L_same_2 : decode method_6_code 2 = .ok (.aload_n 0, 1) := by decide +kernel
theorem d_L_same_3 : decode method_6_code 3 = .ok (.invokevirtual 23, 3) := by decide +kernel
theorem d_L_same_6 : decode method_6_code 6 = .ok (.i2l, 1) := by decide +kernel
theorem d_L_same_7 : decode method_6_code 7 = .ok (.lastore, 1) := by decide +kernel
theorem d_L_same_8 : decode method_6_code 8 = .ok (.goto 6, 3) := by decide +kernel
theorem d_L_same_11 : decode method_6_code 11 = .ok (.astore_n 2, 1) := by decide +kernel
theorem d_L_same_12 : decode method_6_code 12 = .ok (.iconst 1, 1) := by decide +kernel
theorem d_L_same_13 : decode method_6_code 13 = .ok (.ireturn, 1) := by decide +kernel
theorem d_L_same_14 : decode method_6_code 14 = .ok (.iconst 0, 1) := by decide +kernel
theorem d_L_same_15 : decode method_6_code 15 = .ok (.ireturn, 1) := by decide +kernel
theorem d_L_price_0 : decode method_7_code 0 = .ok (.aload_n 0, 1) := by decide +kernel
theorem d_L_price_1 : decode method_7_code 1 = .ok (.iload_n 1, 1) := by decide +kernel
theorem d_L_price_2 : decode method_7_code 2 = .ok (.iload_n 2, 1) := by decide +kernel
theorem d_L_price_3 : decode method_7_code 3 = .ok (.invokevirtual 26, 3) := by decide +kernel
theorem d_L_price_6 : decode method_7_code 6 = .ok (.goto 6, 3) := by decide +kernel
theorem d_L_price_9 : decode method_7_code 9 = .ok (.astore_n 3, 1) := by decide +kernel
theorem d_L_price_10 : decode method_7_code 10 = .ok (.iconst 1, 1) := by decide +kernel
theorem d_L_price_11 : decode method_7_code 11 = .ok (.ireturn, 1) := by decide +kernel
theorem d_L_price_12 : decode method_7_code 12 = .ok (.iconst 0, 1) := by decide +kernel
theorem d_L_price_13 : decode method_7_code 13 = .ok (.ireturn, 1) := by decide +kernel
theorem d_L_rounds_0 : decode method_8_code 0 = .ok (.aload_n 2, 1) := by decide +kernel
theorem d_L_rounds_1 : decode method_8_code 1 = .ok (.iconst 0, 1) := by decide +kernel
theorem d_L_rounds_2 : decode method_8_code 2 = .ok (.aload_n 0, 1) := by decide +kernel
theorem d_L_rounds_3 : decode method_8_code 3 = .ok (.iload_n 1, 1) := by decide +kernel
theorem d_L_rounds_4 : decode method_8_code 4 = .ok (.invokevirtual 30, 3) := by decide +kernel
theorem d_L_rounds_7 : decode method_8_code 7 = .ok (.i2l, 1) := by decide +kernel
theorem d_L_rounds_8 : decode method_8_code 8 = .ok (.lastore, 1) := by decide +kernel
theorem d_L_rounds_9 : decode method_8_code 9 = .ok (.goto 6, 3) := by decide +kernel
theorem d_L_rounds_12 : decode method_8_code 12 = .ok (.astore_n 3, 1) := by decide +kernel
theorem d_L_rounds_13 : decode method_8_code 13 = .ok (.iconst 1, 1) := by decide +kernel
theorem d_L_rounds_14 : decode method_8_code 14 = .ok (.ireturn, 1) := by decide +kernel
theorem d_L_rounds_15 : decode method_8_code 15 = .ok (.iconst 0, 1) := by decide +kernel
theorem d_L_rounds_16 : decode method_8_code 16 = .ok (.ireturn, 1) := by decide +kernel
theorem d_L_members_0 : decode method_9_code 0 = .ok (.aload_n 1, 1) := by decide +kernel
theorem d_L_members_1 : decode method_9_code 1 = .ok (.iconst 0, 1) := by decide +kernel
theorem d_L_members_2 : decode method_9_code 2 = .ok (.aload_n 0, 1) := by decide +kernel
theorem d_L_members_3 : decode method_9_code 3 = .ok (.invokevirtual 34, 3) := by decide +kernel
theorem d_L_members_6 : decode method_9_code 6 = .ok (.i2l, 1) := by decide +kernel
theorem d_L_members_7 : decode method_9_code 7 = .ok (.lastore, 1) := by decide +kernel
theorem d_L_members_8 : decode method_9_code 8 = .ok (.goto 6, 3) := by decide +kernel
theorem d_L_members_11 : decode method_9_code 11 = .ok (.astore_n 2, 1) := by decide +kernel
theorem d_L_members_12 : decode method_9_code 12 = .ok (.iconst 1, 1) := by decide +kernel
theorem d_L_members_13 : decode method_9_code 13 = .ok (.ireturn, 1) := by decide +kernel
theorem d_L_members_14 : decode method_9_code 14 = .ok (.iconst 0, 1) := by decide +kernel
theorem d_L_members_15 : decode method_9_code 15 = .ok (.ireturn, 1) := by decide +kernel
theorem d_L_cost_0 : decode method_10_code 0 = .ok (.aload_n 1, 1) := by decide +kernel
theorem d_L_cost_1 : decode method_10_code 1 = .ok (.iconst 0, 1) := by decide +kernel
theorem d_L_cost_2 : decode method_10_code 2 = .ok (.aload_n 0, 1) := by decide +kernel
theorem d_L_cost_3 : decode method_10_code 3 = .ok (.invokevirtual 37, 3) := by decide +kernel
theorem d_L_cost_6 : decode method_10_code 6 = .ok (.lastore, 1) := by decide +kernel
theorem d_L_cost_7 : decode method_10_code 7 = .ok (.goto 6, 3) := by decide +kernel
theorem d_L_cost_10 : decode method_10_code 10 = .ok (.astore_n 2, 1) := by decide +kernel
theorem d_L_cost_11 : decode method_10_code 11 = .ok (.iconst 1, 1) := by decide +kernel
theorem d_L_cost_12 : decode method_10_code 12 = .ok (.ireturn, 1) := by decide +kernel
theorem d_L_cost_13 : decode method_10_code 13 = .ok (.iconst 0, 1) := by decide +kernel
theorem d_L_cost_14 : decode method_10_code 14 = .ok (.ireturn, 1) := by decide +kernel
theorem d_L_best_0 : decode method_11_code 0 = .ok (.aload_n 1, 1) := by decide +kernel
theorem d_L_best_1 : decode method_11_code 1 = .ok (.iconst 0, 1) := by decide +kernel
theorem d_L_best_2 : decode method_11_code 2 = .ok (.aload_n 0, 1) := by decide +kernel
theorem d_L_best_3 : decode method_11_code 3 = .ok (.invokevirtual 41, 3) := by decide +kernel
theorem d_L_best_6 : decode method_11_code 6 = .ok (.i2l, 1) := by decide +kernel
theorem d_L_best_7 : decode method_11_code 7 = .ok (.lastore, 1) := by decide +kernel
theorem d_L_best_8 : decode method_11_code 8 = .ok (.goto 6, 3) := by decide +kernel
theorem d_L_best_11 : decode method_11_code 11 = .ok (.astore_n 2, 1) := by decide +kernel
theorem d_L_best_12 : decode method_11_code 12 = .ok (.iconst 1, 1) := by decide +kernel
theorem d_L_best_13 : decode method_11_code 13 = .ok (.ireturn, 1) := by decide +kernel
theorem d_L_best_14 : decode method_11_code 14 = .ok (.iconst 0, 1) := by decide +kernel
theorem d_L_best_15 : decode method_11_code 15 = .ok (.ireturn, 1) := by decide +kernel
