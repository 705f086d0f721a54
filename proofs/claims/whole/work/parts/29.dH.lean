theorem d_C_weigh_0 : decode prog_2_method_2_code 0 = .ok (.aload_n 0, 1) := by decide +kernel
theorem d_C_weigh_1 : decode prog_2_method_2_code 1 = .ok (.getfield 15, 3) := by decide +kernel
theorem d_C_weigh_4 : decode prog_2_method_2_code 4 = .ok (.ldc2_w 40, 3) := by decide +kernel
theorem d_C_weigh_7 : decode prog_2_method_2_code 7 = .ok (.invokestatic 42, 3) := by decide +kernel
theorem d_C_weigh_10 : decode prog_2_method_2_code 10 = .ok (.aload_n 0, 1) := by decide +kernel
theorem d_C_weigh_11 : decode prog_2_method_2_code 11 = .ok (.getfield 19, 3) := by decide +kernel
theorem d_C_weigh_14 : decode prog_2_method_2_code 14 = .ok (.lconst 0, 1) := by decide +kernel
theorem d_C_weigh_15 : decode prog_2_method_2_code 15 = .ok (.invokestatic 42, 3) := by decide +kernel
theorem d_C_weigh_18 : decode prog_2_method_2_code 18 = .ok (.iconst 1, 1) := by decide +kernel
theorem d_C_weigh_19 : decode prog_2_method_2_code 19 = .ok (.istore_n 1, 1) := by decide +kernel
theorem d_C_weigh_20 : decode prog_2_method_2_code 20 = .ok (.iconst 0, 1) := by decide +kernel
theorem d_C_weigh_21 : decode prog_2_method_2_code 21 = .ok (.istore_n 2, 1) := by decide +kernel
theorem d_C_weigh_22 : decode prog_2_method_2_code 22 = .ok (.iload_n 2, 1) := by decide +kernel
theorem d_C_weigh_23 : decode prog_2_method_2_code 23 = .ok (.aload_n 0, 1) := by decide +kernel
theorem d_C_weigh_24 : decode prog_2_method_2_code 24 = .ok (.getfield 30, 3) := by decide +kernel
theorem d_C_weigh_27 : decode prog_2_method_2_code 27 = .ok (.getfield 45, 3) := by decide +kernel
theorem d_C_weigh_30 : decode prog_2_method_2_code 30 = .ok (.if_icmp .ge 44, 3) := by decide +kernel
theorem d_C_weigh_33 : decode prog_2_method_2_code 33 = .ok (.iload_n 1, 1) := by decide +kernel
theorem d_C_weigh_34 : decode prog_2_method_2_code 34 = .ok (.ifCond .eq 40, 3) := by decide +kernel
theorem d_C_weigh_37 : decode prog_2_method_2_code 37 = .ok (.iconst 0, 1) := by decide +kernel
theorem d_C_weigh_38 : decode prog_2_method_2_code 38 = .ok (.istore_n 1, 1) := by decide +kernel
theorem d_C_weigh_39 : decode prog_2_method_2_code 39 = .ok (.iconst 0, 1) := by decide +kernel
theorem d_C_weigh_40 : decode prog_2_method_2_code 40 = .ok (.istore_n 3, 1) := by decide +kernel
theorem d_C_weigh_41 : decode prog_2_method_2_code 41 = .ok (.iload_n 3, 1) := by decide +kernel
theorem d_C_weigh_42 : decode prog_2_method_2_code 42 = .ok (.aload_n 0, 1) := by decide +kernel
theorem d_C_weigh_43 : decode prog_2_method_2_code 43 = .ok (.getfield 30, 3) := by decide +kernel
theorem d_C_weigh_46 : decode prog_2_method_2_code 46 = .ok (.getfield 51, 3) := by decide +kernel
theorem d_C_weigh_49 : decode prog_2_method_2_code 49 = .ok (.if_icmp .ge 19, 3) := by decide +kernel
theorem d_C_weigh_52 : decode prog_2_method_2_code 52 = .ok (.aload_n 0, 1) := by decide +kernel
theorem d_C_weigh_53 : decode prog_2_method_2_code 53 = .ok (.iload_n 3, 1) := by decide +kernel
theorem d_C_weigh_54 : decode prog_2_method_2_code 54 = .ok (.invokevirtual 54, 3) := by decide +kernel
theorem d_C_weigh_57 : decode prog_2_method_2_code 57 = .ok (.ifCond .eq 5, 3) := by decide +kernel
theorem d_C_weigh_60 : decode prog_2_method_2_code 60 = .ok (.iconst 1, 1) := by decide +kernel
theorem d_C_weigh_61 : decode prog_2_method_2_code 61 = .ok (.istore_n 1, 1) := by decide +kernel
theorem d_C_weigh_62 : decode prog_2_method_2_code 62 = .ok (.iinc 3 1, 3) := by decide +kernel
theorem d_C_weigh_65 : decode prog_2_method_2_code 65 = .ok (.goto (-24), 3) := by decide +kernel
theorem d_C_weigh_68 : decode prog_2_method_2_code 68 = .ok (.iinc 2 1, 3) := by decide +kernel
theorem d_C_weigh_71 : decode prog_2_method_2_code 71 = .ok (.goto (-49), 3) := by decide +kernel
theorem d_C_weigh_74 : decode prog_2_method_2_code 74 = .ok (.return_, 1) := by decide +kernel
theorem d_C_weighNode_0 : decode prog_2_method_3_code 0 = .ok (.aload_n 0, 1) := by decide +kernel
theorem d_C_weighNode_1 : decode prog_2_method_3_code 1 = .ok (.getfield 30, 3) := by decide +kernel
theorem d_C_weighNode_4 : decode prog_2_method_3_code 4 = .ok (.getfield 58, 3) := by decide +kernel
theorem d_C_weighNode_7 : decode prog_2_method_3_code 7 = .ok (.iload_n 1, 1) := by decide +kernel
theorem d_C_weighNode_8 : decode prog_2_method_3_code 8 = .ok (.iaload, 1) := by decide +kernel
theorem d_C_weighNode_9 : decode prog_2_method_3_code 9 = .ok (.istore_n 2, 1) := by decide +kernel
theorem d_C_weighNode_10 : decode prog_2_method_3_code 10 = .ok (.aload_n 0, 1) := by decide +kernel
theorem d_C_weighNode_11 : decode prog_2_method_3_code 11 = .ok (.iload_n 1, 1) := by decide +kernel
theorem d_C_weighNode_12 : decode prog_2_method_3_code 12 = .ok (.invokevirtual 61, 3) := by decide +kernel
theorem d_C_weighNode_15 : decode prog_2_method_3_code 15 = .ok (.lstore_n 3, 1) := by decide +kernel
theorem d_C_weighNode_16 : decode prog_2_method_3_code 16 = .ok (.lload_n 3, 1) := by decide +kernel
theorem d_C_weighNode_17 : decode prog_2_method_3_code 17 = .ok (.ldc2_w 65, 3) := by decide +kernel
theorem d_C_weighNode_20 : decode prog_2_method_3_code 20 = .ok (.lcmp, 1) := by decide +kernel
theorem d_C_weighNode_21 : decode prog_2_method_3_code 21 = .ok (.ifCond .gt 14, 3) := by decide +kernel
theorem d_C_weighNode_24 : decode prog_2_method_3_code 24 = .ok (.lload_n 3, 1) := by decide +kernel
theorem d_C_weighNode_25 : decode prog_2_method_3_code 25 = .ok (.aload_n 0, 1) := by decide +kernel
theorem d_C_weighNode_26 : decode prog_2_method_3_code 26 = .ok (.getfield 15, 3) := by decide +kernel
theorem d_C_weighNode_29 : decode prog_2_method_3_code 29 = .ok (.iload_n 2, 1) := by decide +kernel
theorem d_C_weighNode_30 : decode prog_2_method_3_code 30 = .ok (.laload, 1) := by decide +kernel
theorem d_C_weighNode_31 : decode prog_2_method_3_code 31 = .ok (.lcmp, 1) := by decide +kernel
theorem d_C_weighNode_32 : decode prog_2_method_3_code 32 = .ok (.ifCond .le 5, 3) := by decide +kernel
theorem d_C_weighNode_35 : decode prog_2_method_3_code 35 = .ok (.iconst 0, 1) := by decide +kernel
theorem d_C_weighNode_36 : decode prog_2_method_3_code 36 = .ok (.ireturn, 1) := by decide +kernel
theorem d_C_weighNode_37 : decode prog_2_method_3_code 37 = .ok (.aload_n 0, 1) := by decide +kernel
theorem d_C_weighNode_38 : decode prog_2_method_3_code 38 = .ok (.iload_n 1, 1) := by decide +kernel
theorem d_C_weighNode_39 : decode prog_2_method_3_code 39 = .ok (.invokevirtual 67, 3) := by decide +kernel
theorem d_C_weighNode_42 : decode prog_2_method_3_code 42 = .ok (.lstore 5, 2) := by decide +kernel
theorem d_C_weighNode_44 : decode prog_2_method_3_code 44 = .ok (.lload_n 3, 1) := by decide +kernel
theorem d_C_weighNode_45 : decode prog_2_method_3_code 45 = .ok (.aload_n 0, 1) := by decide +kernel
theorem d_C_weighNode_46 : decode prog_2_method_3_code 46 = .ok (.getfield 15, 3) := by decide +kernel
theorem d_C_weighNode_49 : decode prog_2_method_3_code 49 = .ok (.iload_n 2, 1) := by decide +kernel
theorem d_C_weighNode_50 : decode prog_2_method_3_code 50 = .ok (.laload, 1) := by decide +kernel
theorem d_C_weighNode_51 : decode prog_2_method_3_code 51 = .ok (.lcmp, 1) := by decide +kernel
theorem d_C_weighNode_52 : decode prog_2_method_3_code 52 = .ok (.ifCond .ne 17, 3) := by decide +kernel
theorem d_C_weighNode_55 : decode prog_2_method_3_code 55 = .ok (.lload 5, 2) := by decide +kernel
theorem d_C_weighNode_57 : decode prog_2_method_3_code 57 = .ok (.aload_n 0, 1) := by decide +kernel
theorem d_C_weighNode_58 : decode prog_2_method_3_code 58 = .ok (.getfield 19, 3) := by decide +kernel
theorem d_C_weighNode_61 : decode prog_2_method_3_code 61 = .ok (.iload_n 2, 1) := by decide +kernel
theorem d_C_weighNode_62 : decode prog_2_method_3_code 62 = .ok (.laload, 1) := by decide +kernel
theorem d_C_weighNode_63 : decode prog_2_method_3_code 63 = .ok (.lcmp, 1) := by decide +kernel
theorem d_C_weighNode_64 : decode prog_2_method_3_code 64 = .ok (.ifCond .lt 5, 3) := by decide +kernel
theorem d_C_weighNode_67 : decode prog_2_method_3_code 67 = .ok (.iconst 0, 1) := by decide +kernel
theorem d_C_weighNode_68 : decode prog_2_method_3_code 68 = .ok (.ireturn, 1) := by decide +kernel
theorem d_C_weighNode_69 : decode prog_2_method_3_code 69 = .ok (.aload_n 0, 1) := by decide +kernel
theorem d_C_weighNode_70 : decode prog_2_method_3_code 70 = .ok (.getfield 15, 3) := by decide +kernel
theorem d_C_weighNode_73 : decode prog_2_method_3_code 73 = .ok (.iload_n 2, 1) := by decide +kernel
theorem d_C_weighNode_74 : decode prog_2_method_3_code 74 = .ok (.lload_n 3, 1) := by decide +kernel
theorem d_C_weighNode_75 : decode prog_2_method_3_code 75 = .ok (.lastore, 1) := by decide +kernel
theorem d_C_weighNode_76 : decode prog_2_method_3_code 76 = .ok (.aload_n 0, 1) := by decide +kernel
theorem d_C_weighNode_77 : decode prog_2_method_3_code 77 = .ok (.getfield 19, 3) := by decide +kernel
theorem d_C_weighNode_80 : decode prog_2_method_3_code 80 = .ok (.iload_n 2, 1) := by decide +kernel
theorem d_C_weighNode_81 : decode prog_2_method_3_code 81 = .ok (.lload 5, 2) := by decide +kernel
theorem d_C_weighNode_83 : decode prog_2_method_3_code 83 = .ok (.lastore, 1) := by decide +kernel
theorem d_C_weighNode_84 : decode prog_2_method_3_code 84 = .ok (.iconst 1, 1) := by decide +kernel
theorem d_C_weighNode_85 : decode prog_2_method_3_code 85 = .ok (.ireturn, 1) := by decide +kernel
theorem d_C_costThrough_0 : decode prog_2_method_4_code 0 = .ok (.aload_n 0, 1) := by decide +kernel
theorem d_C_costThrough_1 : decode prog_2_method_4_code 1 = .ok (.getfield 9, 3) := by decide +kernel
theorem d_C_costThrough_4 : decode prog_2_method_4_code 4 = .ok (.aload_n 0, 1) := by decide +kernel
theorem d_C_costThrough_5 : decode prog_2_method_4_code 5 = .ok (.getfield 30, 3) := by decide +kernel
theorem d_C_costThrough_8 : decode prog_2_method_4_code 8 = .ok (.getfield 70, 3) := by decide +kernel
theorem d_C_costThrough_11 : decode prog_2_method_4_code 11 = .ok (.iload_n 1, 1) := by decide +kernel
theorem d_C_costThrough_12 : decode prog_2_method_4_code 12 = .ok (.iaload, 1) := by decide +kernel
theorem d_C_costThrough_13 : decode prog_2_method_4_code 13 = .ok (.iaload, 1) := by decide +kernel
theorem d_C_costThrough_14 : decode prog_2_method_4_code 14 = .ok (.i2l, 1) := by decide +kernel
theorem d_C_costThrough_15 : decode prog_2_method_4_code 15 = .ok (.lstore_n 2, 1) := by decide +kernel
theorem d_C_costThrough_16 : decode prog_2_method_4_code 16 = .ok (.aload_n 0, 1) := by decide +kernel
theorem d_C_costThrough_17 : decode prog_2_method_4_code 17 = .ok (.getfield 30, 3) := by decide +kernel
theorem d_C_costThrough_20 : decode prog_2_method_4_code 20 = .ok (.getfield 73, 3) := by decide +kernel
theorem d_C_costThrough_23 : decode prog_2_method_4_code 23 = .ok (.iload_n 1, 1) := by decide +kernel
theorem d_C_costThrough_24 : decode prog_2_method_4_code 24 = .ok (.iaload, 1) := by decide +kernel
theorem d_C_costThrough_25 : decode prog_2_method_4_code 25 = .ok (.iconst (-1), 1) := by decide +kernel
theorem d_C_costThrough_26 : decode prog_2_method_4_code 26 = .ok (.if_icmp .eq 22, 3) := by decide +kernel
theorem d_C_costThrough_29 : decode prog_2_method_4_code 29 = .ok (.lload_n 2, 1) := by decide +kernel
theorem d_C_costThrough_30 : decode prog_2_method_4_code 30 = .ok (.aload_n 0, 1) := by decide +kernel
theorem d_C_costThrough_31 : decode prog_2_method_4_code 31 = .ok (.getfield 15, 3) := by decide +kernel
theorem d_C_costThrough_34 : decode prog_2_method_4_code 34 = .ok (.aload_n 0, 1) := by decide +kernel
theorem d_C_costThrough_35 : decode prog_2_method_4_code 35 = .ok (.getfield 30, 3) := by decide +kernel
theorem d_C_costThrough_38 : decode prog_2_method_4_code 38 = .ok (.getfield 73, 3) := by decide +kernel
theorem d_C_costThrough_41 : decode prog_2_method_4_code 41 = .ok (.iload_n 1, 1) := by decide +kernel
theorem d_C_costThrough_42 : decode prog_2_method_4_code 42 = .ok (.iaload, 1) := by decide +kernel
theorem d_C_costThrough_43 : decode prog_2_method_4_code 43 = .ok (.laload, 1) := by decide +kernel
theorem d_C_costThrough_44 : decode prog_2_method_4_code 44 = .ok (.invokestatic 76, 3) := by decide +kernel
theorem d_C_costThrough_47 : decode prog_2_method_4_code 47 = .ok (.lstore_n 2, 1) := by decide +kernel
theorem d_C_costThrough_48 : decode prog_2_method_4_code 48 = .ok (.aload_n 0, 1) := by decide +kernel
theorem d_C_costThrough_49 : decode prog_2_method_4_code 49 = .ok (.getfield 30, 3) := by decide +kernel
theorem d_C_costThrough_52 : decode prog_2_method_4_code 52 = .ok (.getfield 80, 3) := by decide +kernel
theorem d_C_costThrough_55 : decode prog_2_method_4_code 55 = .ok (.iload_n 1, 1) := by decide +kernel
theorem d_C_costThrough_56 : decode prog_2_method_4_code 56 = .ok (.iaload, 1) := by decide +kernel
theorem d_C_costThrough_57 : decode prog_2_method_4_code 57 = .ok (.iconst (-1), 1) := by decide +kernel
theorem d_C_costThrough_58 : decode prog_2_method_4_code 58 = .ok (.if_icmp .eq 22, 3) := by decide +kernel
theorem d_C_costThrough_61 : decode prog_2_method_4_code 61 = .ok (.lload_n 2, 1) := by decide +kernel
theorem d_C_costThrough_62 : decode prog_2_method_4_code 62 = .ok (.aload_n 0, 1) := by decide +kernel
theorem d_C_costThrough_63 : decode prog_2_method_4_code 63 = .ok (.getfield 15, 3) := by decide +kernel
theorem d_C_costThrough_66 : decode prog_2_method_4_code 66 = .ok (.aload_n 0, 1) := by decide +kernel
theorem d_C_costThrough_67 : decode prog_2_method_4_code 67 = .ok (.getfield 30, 3) := by decide +kernel
theorem d_C_costThrough_70 : decode prog_2_method_4_code 70 = .ok (.getfield 80, 3) := by decide +kernel
theorem d_C_costThrough_73 : decode prog_2_method_4_code 73 = .ok (.iload_n 1, 1) := by decide +kernel
theorem d_C_costThrough_74 : decode prog_2_method_4_code 74 = .ok (.iaload, 1) := by decide +kernel
theorem d_C_costThrough_75 : decode prog_2_method_4_code 75 = .ok (.laload, 1) := by decide +kernel
theorem d_C_costThrough_76 : decode prog_2_method_4_code 76 = .ok (.invokestatic 76, 3) := by decide +kernel
theorem d_C_costThrough_79 : decode prog_2_method_4_code 79 = .ok (.lstore_n 2, 1) := by decide +kernel
theorem d_C_costThrough_80 : decode prog_2_method_4_code 80 = .ok (.lload_n 2, 1) := by decide +kernel
theorem d_C_costThrough_81 : decode prog_2_method_4_code 81 = .ok (.lreturn, 1) := by decide +kernel
theorem d_C_sum_0 : decode prog_2_method_5_code 0 = .ok (.lload_n 0, 1) := by decide +kernel
theorem d_C_sum_1 : decode prog_2_method_5_code 1 = .ok (.ldc2_w 65, 3) := by decide +kernel
theorem d_C_sum_4 : decode prog_2_method_5_code 4 = .ok (.lcmp, 1) := by decide +kernel
theorem d_C_sum_5 : decode prog_2_method_5_code 5 = .ok (.ifCond .gt 13, 3) := by decide +kernel
theorem d_C_sum_8 : decode prog_2_method_5_code 8 = .ok (.lload_n 2, 1) := by decide +kernel
theorem d_C_sum_9 : decode prog_2_method_5_code 9 = .ok (.ldc2_w 65, 3) := by decide +kernel
theorem d_C_sum_12 : decode prog_2_method_5_code 12 = .ok (.lload_n 0, 1) := by decide +kernel
theorem d_C_sum_13 : decode prog_2_method_5_code 13 = .ok (.lsub, 1) := by decide +kernel
theorem d_C_sum_14 : decode prog_2_method_5_code 14 = .ok (.lcmp, 1) := by decide +kernel
theorem d_C_sum_15 : decode prog_2_method_5_code 15 = .ok (.ifCond .le 9, 3) := by decide +kernel
theorem d_C_sum_18 : decode prog_2_method_5_code 18 = .ok (.ldc2_w 40, 3) := by decide +kernel
theorem d_C_sum_21 : decode prog_2_method_5_code 21 = .ok (.goto 6, 3) := by decide +kernel
theorem d_C_sum_24 : decode prog_2_method_5_code 24 = .ok (.lload_n 0, 1) := by decide +kernel
theorem d_C_sum_25 : decode prog_2_method_5_code 25 = .ok (.lload_n 2, 1) := by decide +kernel
theorem d_C_sum_26 : decode prog_2_method_5_code 26 = .ok (.ladd, 1) := by decide +kernel
theorem d_C_sum_27 : decode prog_2_method_5_code 27 = .ok (.lreturn, 1) := by decide +kernel
theorem d_C_lengthThrough_0 : decode prog_2_method_6_code 0 = .ok (.lconst 1, 1) := by decide +kernel
theorem d_C_lengthThrough_1 : decode prog_2_method_6_code 1 = .ok (.lstore_n 2, 1) := by decide +kernel
theorem d_C_lengthThrough_2 : decode prog_2_method_6_code 2 = .ok (.aload_n 0, 1) := by decide +kernel
theorem d_C_lengthThrough_3 : decode prog_2_method_6_code 3 = .ok (.getfield 30, 3) := by decide +kernel
theorem d_C_lengthThrough_6 : decode prog_2_method_6_code 6 = .ok (.getfield 73, 3) := by decide +kernel
theorem d_C_lengthThrough_9 : decode prog_2_method_6_code 9 = .ok (.iload_n 1, 1) := by decide +kernel
theorem d_C_lengthThrough_10 : decode prog_2_method_6_code 10 = .ok (.iaload, 1) := by decide +kernel
theorem d_C_lengthThrough_11 : decode prog_2_method_6_code 11 = .ok (.iconst (-1), 1) := by decide +kernel
theorem d_C_lengthThrough_12 : decode prog_2_method_6_code 12 = .ok (.if_icmp .eq 20, 3) := by decide +kernel
theorem d_C_lengthThrough_15 : decode prog_2_method_6_code 15 = .ok (.lload_n 2, 1) := by decide +kernel
theorem d_C_lengthThrough_16 : decode prog_2_method_6_code 16 = .ok (.aload_n 0, 1) := by decide +kernel
theorem d_C_lengthThrough_17 : decode prog_2_method_6_code 17 = .ok (.getfield 19, 3) := by decide +kernel
theorem d_C_lengthThrough_20 : decode prog_2_method_6_code 20 = .ok (.aload_n 0, 1) := by decide +kernel
theorem d_C_lengthThrough_21 : decode prog_2_method_6_code 21 = .ok (.getfield 30, 3) := by decide +kernel
theorem d_C_lengthThrough_24 : decode prog_2_method_6_code 24 = .ok (.getfield 73, 3) := by decide +kernel
theorem d_C_lengthThrough_27 : decode prog_2_method_6_code 27 = .ok (.iload_n 1, 1) := by decide +kernel
theorem d_C_lengthThrough_28 : decode prog_2_method_6_code 28 = .ok (.iaload, 1) := by decide +kernel
theorem d_C_lengthThrough_29 : decode prog_2_method_6_code 29 = .ok (.laload, 1) := by decide +kernel
theorem d_C_lengthThrough_30 : decode prog_2_method_6_code 30 = .ok (.ladd, 1) := by decide +kernel
theorem d_C_lengthThrough_31 : decode prog_2_method_6_code 31 = .ok (.lstore_n 2, 1) := by decide +kernel
theorem d_C_lengthThrough_32 : decode prog_2_method_6_code 32 = .ok (.aload_n 0, 1) := by decide +kernel
theorem d_C_lengthThrough_33 : decode prog_2_method_6_code 33 = .ok (.getfield 30, 3) := by decide +kernel
theorem d_C_lengthThrough_36 : decode prog_2_method_6_code 36 = .ok (.getfield 80, 3) := by decide +kernel
theorem d_C_lengthThrough_39 : decode prog_2_method_6_code 39 = .ok (.iload_n 1, 1) := by decide +kernel
theorem d_C_lengthThrough_40 : decode prog_2_method_6_code 40 = .ok (.iaload, 1) := by decide +kernel
theorem d_C_lengthThrough_41 : decode prog_2_method_6_code 41 = .ok (.iconst (-1), 1) := by decide +kernel
theorem d_C_lengthThrough_42 : decode prog_2_method_6_code 42 = .ok (.if_icmp .eq 20, 3) := by decide +kernel
theorem d_C_lengthThrough_45 : decode prog_2_method_6_code 45 = .ok (.lload_n 2, 1) := by decide +kernel
theorem d_C_lengthThrough_46 : decode prog_2_method_6_code 46 = .ok (.aload_n 0, 1) := by decide +kernel
theorem d_C_lengthThrough_47 : decode prog_2_method_6_code 47 = .ok (.getfield 19, 3) := by decide +kernel
theorem d_C_lengthThrough_50 : decode prog_2_method_6_code 50 = .ok (.aload_n 0, 1) := by decide +kernel
theorem d_C_lengthThrough_51 : decode prog_2_method_6_code 51 = .ok (.getfield 30, 3) := by decide +kernel
theorem d_C_lengthThrough_54 : decode prog_2_method_6_code 54 = .ok (.getfield 80, 3) := by decide +kernel
theorem d_C_lengthThrough_57 : decode prog_2_method_6_code 57 = .ok (.iload_n 1, 1) := by decide +kernel
theorem d_C_lengthThrough_58 : decode prog_2_method_6_code 58 = .ok (.iaload, 1) := by decide +kernel
theorem d_C_lengthThrough_59 : decode prog_2_method_6_code 59 = .ok (.laload, 1) := by decide +kernel
theorem d_C_lengthThrough_60 : decode prog_2_method_6_code 60 = .ok (.ladd, 1) := by decide +kernel
theorem d_C_lengthThrough_61 : decode prog_2_method_6_code 61 = .ok (.lstore_n 2, 1) := by decide +kernel
theorem d_C_lengthThrough_62 : decode prog_2_method_6_code 62 = .ok (.lload_n 2, 1) := by decide +kernel
theorem d_C_lengthThrough_63 : decode prog_2_method_6_code 63 = .ok (.lreturn, 1) := by decide +kernel
theorem d_C_spell_0 : decode prog_2_method_7_code 0 = .ok (.iconst 0, 1) := by decide +kernel
theorem d_C_spell_1 : decode prog_2_method_7_code 1 = .ok (.istore_n 2, 1) := by decide +kernel
theorem d_C_spell_2 : decode prog_2_method_7_code 2 = .ok (.iload_n 2, 1) := by decide +kernel
theorem d_C_spell_3 : decode prog_2_method_7_code 3 = .ok (.aload_n 0, 1) := by decide +kernel
theorem d_C_spell_4 : decode prog_2_method_7_code 4 = .ok (.getfield 30, 3) := by decide +kernel
theorem d_C_spell_7 : decode prog_2_method_7_code 7 = .ok (.getfield 45, 3) := by decide +kernel
theorem d_C_spell_10 : decode prog_2_method_7_code 10 = .ok (.if_icmp .ge 19, 3) := by decide +kernel
theorem d_C_spell_13 : decode prog_2_method_7_code 13 = .ok (.aload_n 0, 1) := by decide +kernel
theorem d_C_spell_14 : decode prog_2_method_7_code 14 = .ok (.getfield 24, 3) := by decide +kernel
theorem d_C_spell_17 : decode prog_2_method_7_code 17 = .ok (.iload_n 2, 1) := by decide +kernel
theorem d_C_spell_18 : decode prog_2_method_7_code 18 = .ok (.aaload, 1) := by decide +kernel
theorem d_C_spell_19 : decode prog_2_method_7_code 19 = .ok (.iconst 0, 1) := by decide +kernel
theorem d_C_spell_20 : decode prog_2_method_7_code 20 = .ok (.bipush 127, 2) := by decide +kernel
theorem d_C_spell_22 : decode prog_2_method_7_code 22 = .ok (.iastore, 1) := by decide +kernel
theorem d_C_spell_23 : decode prog_2_method_7_code 23 = .ok (.iinc 2 1, 3) := by decide +kernel
theorem d_C_spell_26 : decode prog_2_method_7_code 26 = .ok (.goto (-24), 3) := by decide +kernel
theorem d_C_spell_29 : decode prog_2_method_7_code 29 = .ok (.iconst 1, 1) := by decide +kernel
theorem d_C_spell_30 : decode prog_2_method_7_code 30 = .ok (.istore_n 2, 1) := by decide +kernel
theorem d_C_spell_31 : decode prog_2_method_7_code 31 = .ok (.iload_n 2, 1) := by decide +kernel
theorem d_C_spell_32 : decode prog_2_method_7_code 32 = .ok (.iload_n 1, 1) := by decide +kernel
theorem d_C_spell_33 : decode prog_2_method_7_code 33 = .ok (.if_icmp .gt 68, 3) := by decide +kernel
theorem d_C_spell_36 : decode prog_2_method_7_code 36 = .ok (.iload_n 2, 1) := by decide +kernel
theorem d_C_spell_37 : decode prog_2_method_7_code 37 = .ok (.bipush 60, 2) := by decide +kernel
theorem d_C_spell_39 : decode prog_2_method_7_code 39 = .ok (.if_icmp .gt 62, 3) := by decide +kernel
theorem d_C_spell_42 : decode prog_2_method_7_code 42 = .ok (.iconst 0, 1) := by decide +kernel
theorem d_C_spell_43 : decode prog_2_method_7_code 43 = .ok (.istore_n 3, 1) := by decide +kernel
theorem d_C_spell_44 : decode prog_2_method_7_code 44 = .ok (.iload_n 3, 1) := by decide +kernel
theorem d_C_spell_45 : decode prog_2_method_7_code 45 = .ok (.aload_n 0, 1) := by decide +kernel
theorem d_C_spell_46 : decode prog_2_method_7_code 46 = .ok (.getfield 30, 3) := by decide +kernel
theorem d_C_spell_49 : decode prog_2_method_7_code 49 = .ok (.getfield 51, 3) := by decide +kernel
theorem d_C_spell_52 : decode prog_2_method_7_code 52 = .ok (.if_icmp .ge 43, 3) := by decide +kernel
theorem d_C_spell_55 : decode prog_2_method_7_code 55 = .ok (.aload_n 0, 1) := by decide +kernel
theorem d_C_spell_56 : decode prog_2_method_7_code 56 = .ok (.getfield 19, 3) := by decide +kernel
theorem d_C_spell_59 : decode prog_2_method_7_code 59 = .ok (.aload_n 0, 1) := by decide +kernel
theorem d_C_spell_60 : decode prog_2_method_7_code 60 = .ok (.getfield 30, 3) := by decide +kernel
theorem d_C_spell_63 : decode prog_2_method_7_code 63 = .ok (.getfield 58, 3) := by decide +kernel
theorem d_C_spell_66 : decode prog_2_method_7_code 66 = .ok (.iload_n 3, 1) := by decide +kernel
theorem d_C_spell_67 : decode prog_2_method_7_code 67 = .ok (.iaload, 1) := by decide +kernel
theorem d_C_spell_68 : decode prog_2_method_7_code 68 = .ok (.laload, 1) := by decide +kernel
theorem d_C_spell_69 : decode prog_2_method_7_code 69 = .ok (.iload_n 2, 1) := by decide +kernel
theorem d_C_spell_70 : decode prog_2_method_7_code 70 = .ok (.i2l, 1) := by decide +kernel
theorem d_C_spell_71 : decode prog_2_method_7_code 71 = .ok (.lcmp, 1) := by decide +kernel
theorem d_C_spell_72 : decode prog_2_method_7_code 72 = .ok (.ifCond .ne 17, 3) := by decide +kernel
theorem d_C_spell_75 : decode prog_2_method_7_code 75 = .ok (.aload_n 0, 1) := by decide +kernel
theorem d_C_spell_76 : decode prog_2_method_7_code 76 = .ok (.iload_n 3, 1) := by decide +kernel
theorem d_C_spell_77 : decode prog_2_method_7_code 77 = .ok (.invokevirtual 83, 3) := by decide +kernel
theorem d_C_spell_80 : decode prog_2_method_7_code 80 = .ok (.ifCond .eq 9, 3) := by decide +kernel
theorem d_C_spell_83 : decode prog_2_method_7_code 83 = .ok (.aload_n 0, 1) := by decide +kernel
theorem d_C_spell_84 : decode prog_2_method_7_code 84 = .ok (.iload_n 3, 1) := by decide +kernel
theorem d_C_spell_85 : decode prog_2_method_7_code 85 = .ok (.iload_n 2, 1) := by decide +kernel
theorem d_C_spell_86 : decode prog_2_method_7_code 86 = .ok (.invokevirtual 86, 3) := by decide +kernel
theorem d_C_spell_89 : decode prog_2_method_7_code 89 = .ok (.iinc 3 1, 3) := by decide +kernel
theorem d_C_spell_92 : decode prog_2_method_7_code 92 = .ok (.goto (-48), 3) := by decide +kernel
theorem d_C_spell_95 : decode prog_2_method_7_code 95 = .ok (.iinc 2 1, 3) := by decide +kernel
theorem d_C_spell_98 : decode prog_2_method_7_code 98 = .ok (.goto (-67), 3) := by decide +kernel
theorem d_C_spell_101 : decode prog_2_method_7_code 101 = .ok (.return_, 1) := by decide +kernel
theorem d_C_isBest_0 : decode prog_2_method_8_code 0 = .ok (.aload_n 0, 1) := by decide +kernel
theorem d_C_isBest_1 : decode prog_2_method_8_code 1 = .ok (.getfield 30, 3) := by decide +kernel
theorem d_C_isBest_4 : decode prog_2_method_8_code 4 = .ok (.getfield 58, 3) := by decide +kernel
theorem d_C_isBest_7 : decode prog_2_method_8_code 7 = .ok (.iload_n 1, 1) := by decide +kernel
theorem d_C_isBest_8 : decode prog_2_method_8_code 8 = .ok (.iaload, 1) := by decide +kernel
theorem d_C_isBest_9 : decode prog_2_method_8_code 9 = .ok (.istore_n 2, 1) := by decide +kernel
theorem d_C_isBest_10 : decode prog_2_method_8_code 10 = .ok (.aload_n 0, 1) := by decide +kernel
theorem d_C_isBest_11 : decode prog_2_method_8_code 11 = .ok (.iload_n 1, 1) := by decide +kernel
theorem d_C_isBest_12 : decode prog_2_method_8_code 12 = .ok (.invokevirtual 61, 3) := by decide +kernel
theorem d_C_isBest_15 : decode prog_2_method_8_code 15 = .ok (.aload_n 0, 1) := by decide +kernel
theorem d_C_isBest_16 : decode prog_2_method_8_code 16 = .ok (.getfield 15, 3) := by decide +kernel
theorem d_C_isBest_19 : decode prog_2_method_8_code 19 = .ok (.iload_n 2, 1) := by decide +kernel
theorem d_C_isBest_20 : decode prog_2_method_8_code 20 = .ok (.laload, 1) := by decide +kernel
theorem d_C_isBest_21 : decode prog_2_method_8_code 21 = .ok (.lcmp, 1) := by decide +kernel
theorem d_C_isBest_22 : decode prog_2_method_8_code 22 = .ok (.ifCond .ne 22, 3) := by decide +kernel
theorem d_C_isBest_25 : decode prog_2_method_8_code 25 = .ok (.aload_n 0, 1) := by decide +kernel
theorem d_C_isBest_26 : decode prog_2_method_8_code 26 = .ok (.iload_n 1, 1) := by decide +kernel
theorem d_C_isBest_27 : decode prog_2_method_8_code 27 = .ok (.invokevirtual 67, 3) := by decide +kernel
theorem d_C_isBest_30 : decode prog_2_method_8_code 30 = .ok (.aload_n 0, 1) := by decide +kernel
theorem d_C_isBest_31 : decode prog_2_method_8_code 31 = .ok (.getfield 19, 3) := by decide +kernel
theorem d_C_isBest_34 : decode prog_2_method_8_code 34 = .ok (.iload_n 2, 1) := by decide +kernel
theorem d_C_isBest_35 : decode prog_2_method_8_code 35 = .ok (.laload, 1) := by decide +kernel
theorem d_C_isBest_36 : decode prog_2_method_8_code 36 = .ok (.lcmp, 1) := by decide +kernel
theorem d_C_isBest_37 : decode prog_2_method_8_code 37 = .ok (.ifCond .ne 7, 3) := by decide +kernel
theorem d_C_isBest_40 : decode prog_2_method_8_code 40 = .ok (.iconst 1, 1) := by decide +kernel
theorem d_C_isBest_41 : decode prog_2_method_8_code 41 = .ok (.goto 4, 3) := by decide +kernel
theorem d_C_isBest_44 : decode prog_2_method_8_code 44 = .ok (.iconst 0, 1) := by decide +kernel
theorem d_C_isBest_45 : decode prog_2_method_8_code 45 = .ok (.ireturn, 1) := by decide +kernel
theorem d_C_spellNode_0 : decode prog_2_method_9_code 0 = .ok (.aload_n 0, 1) := by decide +kernel
theorem d_C_spellNode_1 : decode prog_2_method_9_code 1 = .ok (.getfield 27, 3) := by decide +kernel
theorem d_C_spellNode_4 : decode prog_2_method_9_code 4 = .ok (.iconst 0, 1) := by decide +kernel
theorem d_C_spellNode_5 : decode prog_2_method_9_code 5 = .ok (.aload_n 0, 1) := by decide +kernel
theorem d_C_spellNode_6 : decode prog_2_method_9_code 6 = .ok (.getfield 30, 3) := by decide +kernel
theorem d_C_spellNode_9 : decode prog_2_method_9_code 9 = .ok (.getfield 70, 3) := by decide +kernel
theorem d_C_spellNode_12 : decode prog_2_method_9_code 12 = .ok (.iload_n 1, 1) := by decide +kernel
theorem d_C_spellNode_13 : decode prog_2_method_9_code 13 = .ok (.iaload, 1) := by decide +kernel
theorem d_C_spellNode_14 : decode prog_2_method_9_code 14 = .ok (.iastore, 1) := by decide +kernel
theorem d_C_spellNode_15 : decode prog_2_method_9_code 15 = .ok (.aload_n 0, 1) := by decide +kernel
theorem d_C_spellNode_16 : decode prog_2_method_9_code 16 = .ok (.aload_n 0, 1) := by decide +kernel
theorem d_C_spellNode_17 : decode prog_2_method_9_code 17 = .ok (.getfield 30, 3) := by decide +kernel
theorem d_C_spellNode_20 : decode prog_2_method_9_code 20 = .ok (.getfield 73, 3) := by decide +kernel
theorem d_C_spellNode_23 : decode prog_2_method_9_code 23 = .ok (.iload_n 1, 1) := by decide +kernel
theorem d_C_spellNode_24 : decode prog_2_method_9_code 24 = .ok (.iaload, 1) := by decide +kernel
theorem d_C_spellNode_25 : decode prog_2_method_9_code 25 = .ok (.iconst 1, 1) := by decide +kernel
theorem d_C_spellNode_26 : decode prog_2_method_9_code 26 = .ok (.invokevirtual 90, 3) := by decide +kernel
theorem d_C_spellNode_29 : decode prog_2_method_9_code 29 = .ok (.istore_n 3, 1) := by decide +kernel
theorem d_C_spellNode_30 : decode prog_2_method_9_code 30 = .ok (.aload_n 0, 1) := by decide +kernel
theorem d_C_spellNode_31 : decode prog_2_method_9_code 31 = .ok (.aload_n 0, 1) := by decide +kernel
theorem d_C_spellNode_32 : decode prog_2_method_9_code 32 = .ok (.getfield 30, 3) := by decide +kernel
theorem d_C_spellNode_35 : decode prog_2_method_9_code 35 = .ok (.getfield 80, 3) := by decide +kernel
theorem d_C_spellNode_38 : decode prog_2_method_9_code 38 = .ok (.iload_n 1, 1) := by decide +kernel
theorem d_C_spellNode_39 : decode prog_2_method_9_code 39 = .ok (.iaload, 1) := by decide +kernel
theorem d_C_spellNode_40 : decode prog_2_method_9_code 40 = .ok (.iload_n 3, 1) := by decide +kernel
theorem d_C_spellNode_41 : decode prog_2_method_9_code 41 = .ok (.invokevirtual 90, 3) := by decide +kernel
theorem d_C_spellNode_44 : decode prog_2_method_9_code 44 = .ok (.pop, 1) := by decide +kernel
theorem d_C_spellNode_45 : decode prog_2_method_9_code 45 = .ok (.aload_n 0, 1) := by decide +kernel
theorem d_C_spellNode_46 : decode prog_2_method_9_code 46 = .ok (.getfield 24, 3) := by decide +kernel
theorem d_C_spellNode_49 : decode prog_2_method_9_code 49 = .ok (.aload_n 0, 1) := by decide +kernel
theorem d_C_spellNode_50 : decode prog_2_method_9_code 50 = .ok (.getfield 30, 3) := by decide +kernel
theorem d_C_spellNode_53 : decode prog_2_method_9_code 53 = .ok (.getfield 58, 3) := by decide +kernel
theorem d_C_spellNode_56 : decode prog_2_method_9_code 56 = .ok (.iload_n 1, 1) := by decide +kernel
theorem d_C_spellNode_57 : decode prog_2_method_9_code 57 = .ok (.iaload, 1) := by decide +kernel
theorem d_C_spellNode_58 : decode prog_2_method_9_code 58 = .ok (.aaload, 1) := by decide +kernel
theorem d_C_spellNode_59 : decode prog_2_method_9_code 59 = .ok (.astore 4, 2) := by decide +kernel
theorem d_C_spellNode_61 : decode prog_2_method_9_code 61 = .ok (.aload_n 0, 1) := by decide +kernel
theorem d_C_spellNode_62 : decode prog_2_method_9_code 62 = .ok (.aload 4, 2) := by decide +kernel
theorem d_C_spellNode_64 : decode prog_2_method_9_code 64 = .ok (.iload_n 2, 1) := by decide +kernel
theorem d_C_spellNode_65 : decode prog_2_method_9_code 65 = .ok (.invokevirtual 94, 3) := by decide +kernel
theorem d_C_spellNode_68 : decode prog_2_method_9_code 68 = .ok (.ifCond .eq 15, 3) := by decide +kernel
theorem d_C_spellNode_71 : decode prog_2_method_9_code 71 = .ok (.aload_n 0, 1) := by decide +kernel
theorem d_C_spellNode_72 : decode prog_2_method_9_code 72 = .ok (.getfield 27, 3) := by decide +kernel
theorem d_C_spellNode_75 : decode prog_2_method_9_code 75 = .ok (.iconst 0, 1) := by decide +kernel
theorem d_C_spellNode_76 : decode prog_2_method_9_code 76 = .ok (.aload 4, 2) := by decide +kernel
theorem d_C_spellNode_78 : decode prog_2_method_9_code 78 = .ok (.iconst 0, 1) := by decide +kernel
theorem d_C_spellNode_79 : decode prog_2_method_9_code 79 = .ok (.iload_n 2, 1) := by decide +kernel
theorem d_C_spellNode_80 : decode prog_2_method_9_code 80 = .ok (.invokestatic 98, 3) := by decide +kernel
theorem d_C_spellNode_83 : decode prog_2_method_9_code 83 = .ok (.return_, 1) := by decide +kernel
theorem d_C_appendTerm_0 : decode prog_2_method_10_code 0 = .ok (.iload_n 1, 1) := by decide +kernel
theorem d_C_appendTerm_1 : decode prog_2_method_10_code 1 = .ok (.iconst (-1), 1) := by decide +kernel
theorem d_C_appendTerm_2 : decode prog_2_method_10_code 2 = .ok (.if_icmp .ne 5, 3) := by decide +kernel
theorem d_C_appendTerm_5 : decode prog_2_method_10_code 5 = .ok (.iload_n 2, 1) := by decide +kernel
theorem d_C_appendTerm_6 : decode prog_2_method_10_code 6 = .ok (.ireturn, 1) := by decide +kernel
theorem d_C_appendTerm_7 : decode prog_2_method_10_code 7 = .ok (.aload_n 0, 1) := by decide +kernel
theorem d_C_appendTerm_8 : decode prog_2_method_10_code 8 = .ok (.getfield 19, 3) := by decide +kernel
theorem d_C_appendTerm_11 : decode prog_2_method_10_code 11 = .ok (.iload_n 1, 1) := by decide +kernel
theorem d_C_appendTerm_12 : decode prog_2_method_10_code 12 = .ok (.laload, 1) := by decide +kernel
theorem d_C_appendTerm_13 : decode prog_2_method_10_code 13 = .ok (.l2i, 1) := by decide +kernel
theorem d_C_appendTerm_14 : decode prog_2_method_10_code 14 = .ok (.istore_n 3, 1) := by decide +kernel
theorem d_C_appendTerm_15 : decode prog_2_method_10_code 15 = .ok (.aload_n 0, 1) := by decide +kernel
theorem d_C_appendTerm_16 : decode prog_2_method_10_code 16 = .ok (.getfield 24, 3) := by decide +kernel
theorem d_C_appendTerm_19 : decode prog_2_method_10_code 19 = .ok (.iload_n 1, 1) := by decide +kernel
theorem d_C_appendTerm_20 : decode prog_2_method_10_code 20 = .ok (.aaload, 1) := by decide +kernel
theorem d_C_appendTerm_21 : decode prog_2_method_10_code 21 = .ok (.iconst 0, 1) := by decide +kernel
theorem d_C_appendTerm_22 : decode prog_2_method_10_code 22 = .ok (.aload_n 0, 1) := by decide +kernel
theorem d_C_appendTerm_23 : decode prog_2_method_10_code 23 = .ok (.getfield 27, 3) := by decide +kernel
theorem d_C_appendTerm_26 : decode prog_2_method_10_code 26 = .ok (.iload_n 2, 1) := by decide +kernel
theorem d_C_appendTerm_27 : decode prog_2_method_10_code 27 = .ok (.iload_n 3, 1) := by decide +kernel
theorem d_C_appendTerm_28 : decode prog_2_method_10_code 28 = .ok (.invokestatic 98, 3) := by decide +kernel
theorem d_C_appendTerm_31 : decode prog_2_method_10_code 31 = .ok (.iload_n 2, 1) := by decide +kernel
theorem d_C_appendTerm_32 : decode prog_2_method_10_code 32 = .ok (.iload_n 3, 1) := by decide +kernel
theorem d_C_appendTerm_33 : decode prog_2_method_10_code 33 = .ok (.iadd, 1) := by decide +kernel
theorem d_C_appendTerm_34 : decode prog_2_method_10_code 34 = .ok (.ireturn, 1) := by decide +kernel
theorem d_C_trialComesBefore_0 : decode prog_2_method_11_code 0 = .ok (.iconst 0, 1) := by decide +kernel
theorem d_C_trialComesBefore_1 : decode prog_2_method_11_code 1 = .ok (.istore_n 3, 1) := by decide +kernel
theorem d_C_trialComesBefore_2 : decode prog_2_method_11_code 2 = .ok (.iload_n 3, 1) := by decide +kernel
theorem d_C_trialComesBefore_3 : decode prog_2_method_11_code 3 = .ok (.iload_n 2, 1) := by decide +kernel
theorem d_C_trialComesBefore_4 : decode prog_2_method_11_code 4 = .ok (.if_icmp .ge 39, 3) := by decide +kernel
theorem d_C_trialComesBefore_7 : decode prog_2_method_11_code 7 = .ok (.aload_n 0, 1) := by decide +kernel
theorem d_C_trialComesBefore_8 : decode prog_2_method_11_code 8 = .ok (.getfield 27, 3) := by decide +kernel
theorem d_C_trialComesBefore_11 : decode prog_2_method_11_code 11 = .ok (.iload_n 3, 1) := by decide +kernel
theorem d_C_trialComesBefore_12 : decode prog_2_method_11_code 12 = .ok (.iaload, 1) := by decide +kernel
theorem d_C_trialComesBefore_13 : decode prog_2_method_11_code 13 = .ok (.aload_n 1, 1) := by decide +kernel
theorem d_C_trialComesBefore_14 : decode prog_2_method_11_code 14 = .ok (.iload_n 3, 1) := by decide +kernel
theorem d_C_trialComesBefore_15 : decode prog_2_method_11_code 15 = .ok (.iaload, 1) := by decide +kernel
theorem d_C_trialComesBefore_16 : decode prog_2_method_11_code 16 = .ok (.if_icmp .eq 21, 3) := by decide +kernel
theorem d_C_trialComesBefore_19 : decode prog_2_method_11_code 19 = .ok (.aload_n 0, 1) := by decide +kernel
theorem d_C_trialComesBefore_20 : decode prog_2_method_11_code 20 = .ok (.getfield 27, 3) := by decide +kernel
theorem d_C_trialComesBefore_23 : decode prog_2_method_11_code 23 = .ok (.iload_n 3, 1) := by decide +kernel
theorem d_C_trialComesBefore_24 : decode prog_2_method_11_code 24 = .ok (.iaload, 1) := by decide +kernel
theorem d_C_trialComesBefore_25 : decode prog_2_method_11_code 25 = .ok (.aload_n 1, 1) := by decide +kernel
theorem d_C_trialComesBefore_26 : decode prog_2_method_11_code 26 = .ok (.iload_n 3, 1) := by decide +kernel
theorem d_C_trialComesBefore_27 : decode prog_2_method_11_code 27 = .ok (.iaload, 1) := by decide +kernel
theorem d_C_trialComesBefore_28 : decode prog_2_method_11_code 28 = .ok (.if_icmp .ge 7, 3) := by decide +kernel
theorem d_C_trialComesBefore_31 : decode prog_2_method_11_code 31 = .ok (.iconst 1, 1) := by decide +kernel
theorem d_C_trialComesBefore_32 : decode prog_2_method_11_code 32 = .ok (.goto 4, 3) := by decide +kernel
theorem d_C_trialComesBefore_35 : decode prog_2_method_11_code 35 = .ok (.iconst 0, 1) := by decide +kernel
theorem d_C_trialComesBefore_36 : decode prog_2_method_11_code 36 = .ok (.ireturn, 1) := by decide +kernel
theorem d_C_trialComesBefore_37 : decode prog_2_method_11_code 37 = .ok (.iinc 3 1, 3) := by decide +kernel
theorem d_C_trialComesBefore_40 : decode prog_2_method_11_code 40 = .ok (.goto (-38), 3) := by decide +kernel
theorem d_C_trialComesBefore_43 : decode prog_2_method_11_code 43 = .ok (.iconst 0, 1) := by decide +kernel
theorem d_C_trialComesBefore_44 : decode prog_2_method_11_code 44 = .ok (.ireturn, 1) := by decide +kernel
