theorem d_U_init_0 : decode prog_5_method_1_code 0 = .ok (.aload_n 0, 1) := by decide +kernel
theorem d_U_init_1 : decode prog_5_method_1_code 1 = .ok (.invokespecial 3, 3) := by decide +kernel
theorem d_U_init_4 : decode prog_5_method_1_code 4 = .ok (.aload_n 0, 1) := by decide +kernel
theorem d_U_init_5 : decode prog_5_method_1_code 5 = .ok (.bipush 7, 2) := by decide +kernel
theorem d_U_init_7 : decode prog_5_method_1_code 7 = .ok (.newarray .int, 2) := by decide +kernel
theorem d_U_init_9 : decode prog_5_method_1_code 9 = .ok (.putfield 9, 3) := by decide +kernel
theorem d_U_init_12 : decode prog_5_method_1_code 12 = .ok (.aload_n 0, 1) := by decide +kernel
theorem d_U_init_13 : decode prog_5_method_1_code 13 = .ok (.bipush 7, 2) := by decide +kernel
theorem d_U_init_15 : decode prog_5_method_1_code 15 = .ok (.newarray .boolean, 2) := by decide +kernel
theorem d_U_init_17 : decode prog_5_method_1_code 17 = .ok (.putfield 15, 3) := by decide +kernel
theorem d_U_init_20 : decode prog_5_method_1_code 20 = .ok (.aload_n 0, 1) := by decide +kernel
theorem d_U_init_21 : decode prog_5_method_1_code 21 = .ok (.aload_n 1, 1) := by decide +kernel
theorem d_U_init_22 : decode prog_5_method_1_code 22 = .ok (.getfield 19, 3) := by decide +kernel
theorem d_U_init_25 : decode prog_5_method_1_code 25 = .ok (.aload_n 1, 1) := by decide +kernel
theorem d_U_init_26 : decode prog_5_method_1_code 26 = .ok (.getfield 24, 3) := by decide +kernel
theorem d_U_init_29 : decode prog_5_method_1_code 29 = .ok (.invokestatic 28, 3) := by decide +kernel
theorem d_U_init_32 : decode prog_5_method_1_code 32 = .ok (.putfield 34, 3) := by decide +kernel
theorem d_U_init_35 : decode prog_5_method_1_code 35 = .ok (.aload_n 0, 1) := by decide +kernel
theorem d_U_init_36 : decode prog_5_method_1_code 36 = .ok (.aload_n 1, 1) := by decide +kernel
theorem d_U_init_37 : decode prog_5_method_1_code 37 = .ok (.getfield 35, 3) := by decide +kernel
theorem d_U_init_40 : decode prog_5_method_1_code 40 = .ok (.putfield 38, 3) := by decide +kernel
theorem d_U_init_43 : decode prog_5_method_1_code 43 = .ok (.iconst 0, 1) := by decide +kernel
theorem d_U_init_44 : decode prog_5_method_1_code 44 = .ok (.istore_n 2, 1) := by decide +kernel
theorem d_U_init_45 : decode prog_5_method_1_code 45 = .ok (.iconst 0, 1) := by decide +kernel
theorem d_U_init_46 : decode prog_5_method_1_code 46 = .ok (.istore_n 3, 1) := by decide +kernel
theorem d_U_init_47 : decode prog_5_method_1_code 47 = .ok (.iload_n 3, 1) := by decide +kernel
theorem d_U_init_48 : decode prog_5_method_1_code 48 = .ok (.aload_n 0, 1) := by decide +kernel
theorem d_U_init_49 : decode prog_5_method_1_code 49 = .ok (.getfield 38, 3) := by decide +kernel
theorem d_U_init_52 : decode prog_5_method_1_code 52 = .ok (.if_icmp .ge 92, 3) := by decide +kernel
theorem d_U_init_55 : decode prog_5_method_1_code 55 = .ok (.iload_n 3, 1) := by decide +kernel
theorem d_U_init_56 : decode prog_5_method_1_code 56 = .ok (.bipush 7, 2) := by decide +kernel
theorem d_U_init_58 : decode prog_5_method_1_code 58 = .ok (.if_icmp .ge 86, 3) := by decide +kernel
theorem d_U_init_61 : decode prog_5_method_1_code 61 = .ok (.aload_n 0, 1) := by decide +kernel
theorem d_U_init_62 : decode prog_5_method_1_code 62 = .ok (.getfield 34, 3) := by decide +kernel
theorem d_U_init_65 : decode prog_5_method_1_code 65 = .ok (.iload_n 3, 1) := by decide +kernel
theorem d_U_init_66 : decode prog_5_method_1_code 66 = .ok (.iaload, 1) := by decide +kernel
theorem d_U_init_67 : decode prog_5_method_1_code 67 = .ok (.istore 4, 2) := by decide +kernel
theorem d_U_init_69 : decode prog_5_method_1_code 69 = .ok (.iload 4, 2) := by decide +kernel
theorem d_U_init_71 : decode prog_5_method_1_code 71 = .ok (.invokestatic 39, 3) := by decide +kernel
theorem d_U_init_74 : decode prog_5_method_1_code 74 = .ok (.ifCond .eq 35, 3) := by decide +kernel
theorem d_U_init_77 : decode prog_5_method_1_code 77 = .ok (.iconst 1, 1) := by decide +kernel
theorem d_U_init_78 : decode prog_5_method_1_code 78 = .ok (.iload 4, 2) := by decide +kernel
theorem d_U_init_80 : decode prog_5_method_1_code 80 = .ok (.bipush 97, 2) := by decide +kernel
theorem d_U_init_82 : decode prog_5_method_1_code 82 = .ok (.isub, 1) := by decide +kernel
theorem d_U_init_83 : decode prog_5_method_1_code 83 = .ok (.ishl, 1) := by decide +kernel
theorem d_U_init_84 : decode prog_5_method_1_code 84 = .ok (.istore 5, 2) := by decide +kernel
theorem d_U_init_86 : decode prog_5_method_1_code 86 = .ok (.aload_n 0, 1) := by decide +kernel
theorem d_U_init_87 : decode prog_5_method_1_code 87 = .ok (.getfield 15, 3) := by decide +kernel
theorem d_U_init_90 : decode prog_5_method_1_code 90 = .ok (.iload_n 3, 1) := by decide +kernel
theorem d_U_init_91 : decode prog_5_method_1_code 91 = .ok (.iload_n 2, 1) := by decide +kernel
theorem d_U_init_92 : decode prog_5_method_1_code 92 = .ok (.iload 5, 2) := by decide +kernel
theorem d_U_init_94 : decode prog_5_method_1_code 94 = .ok (.iand, 1) := by decide +kernel
theorem d_U_init_95 : decode prog_5_method_1_code 95 = .ok (.ifCond .ne 7, 3) := by decide +kernel
theorem d_U_init_98 : decode prog_5_method_1_code 98 = .ok (.iconst 1, 1) := by decide +kernel
theorem d_U_init_99 : decode prog_5_method_1_code 99 = .ok (.goto 4, 3) := by decide +kernel
theorem d_U_init_102 : decode prog_5_method_1_code 102 = .ok (.iconst 0, 1) := by decide +kernel
theorem d_U_init_103 : decode prog_5_method_1_code 103 = .ok (.bastore, 1) := by decide +kernel
theorem d_U_init_104 : decode prog_5_method_1_code 104 = .ok (.iload_n 2, 1) := by decide +kernel
theorem d_U_init_105 : decode prog_5_method_1_code 105 = .ok (.iload 5, 2) := by decide +kernel
theorem d_U_init_107 : decode prog_5_method_1_code 107 = .ok (.ior, 1) := by decide +kernel
theorem d_U_init_108 : decode prog_5_method_1_code 108 = .ok (.istore_n 2, 1) := by decide +kernel
theorem d_U_init_109 : decode prog_5_method_1_code 109 = .ok (.aload_n 0, 1) := by decide +kernel
theorem d_U_init_110 : decode prog_5_method_1_code 110 = .ok (.getfield 9, 3) := by decide +kernel
theorem d_U_init_113 : decode prog_5_method_1_code 113 = .ok (.iload_n 3, 1) := by decide +kernel
theorem d_U_init_114 : decode prog_5_method_1_code 114 = .ok (.iload 4, 2) := by decide +kernel
theorem d_U_init_116 : decode prog_5_method_1_code 116 = .ok (.invokestatic 45, 3) := by decide +kernel
theorem d_U_init_119 : decode prog_5_method_1_code 119 = .ok (.iconst 2, 1) := by decide +kernel
theorem d_U_init_120 : decode prog_5_method_1_code 120 = .ok (.if_icmp .ne 16, 3) := by decide +kernel
theorem d_U_init_123 : decode prog_5_method_1_code 123 = .ok (.aload_n 0, 1) := by decide +kernel
theorem d_U_init_124 : decode prog_5_method_1_code 124 = .ok (.getfield 34, 3) := by decide +kernel
theorem d_U_init_127 : decode prog_5_method_1_code 127 = .ok (.iload_n 3, 1) := by decide +kernel
theorem d_U_init_128 : decode prog_5_method_1_code 128 = .ok (.iconst 1, 1) := by decide +kernel
theorem d_U_init_129 : decode prog_5_method_1_code 129 = .ok (.iadd, 1) := by decide +kernel
theorem d_U_init_130 : decode prog_5_method_1_code 130 = .ok (.invokestatic 49, 3) := by decide +kernel
theorem d_U_init_133 : decode prog_5_method_1_code 133 = .ok (.goto 4, 3) := by decide +kernel
theorem d_U_init_136 : decode prog_5_method_1_code 136 = .ok (.iconst (-1), 1) := by decide +kernel
theorem d_U_init_137 : decode prog_5_method_1_code 137 = .ok (.iastore, 1) := by decide +kernel
theorem d_U_init_138 : decode prog_5_method_1_code 138 = .ok (.iinc 3 1, 3) := by decide +kernel
theorem d_U_init_141 : decode prog_5_method_1_code 141 = .ok (.goto (-94), 3) := by decide +kernel
theorem d_U_init_144 : decode prog_5_method_1_code 144 = .ok (.return_, 1) := by decide +kernel
theorem d_A_copyOf_0 : decode prog_20_method_123_code 0 = .ok (.iload_n 1, 1) := by decide +kernel
theorem d_A_copyOf_1 : decode prog_20_method_123_code 1 = .ok (.aload_n 0, 1) := by decide +kernel
theorem d_A_copyOf_2 : decode prog_20_method_123_code 2 = .ok (.arraylength, 1) := by decide +kernel
theorem d_A_copyOf_3 : decode prog_20_method_123_code 3 = .ok (.if_icmp .ne 11, 3) := by decide +kernel
theorem d_A_copyOf_6 : decode prog_20_method_123_code 6 = .ok (.aload_n 0, 1) := by decide +kernel
theorem d_A_copyOf_7 : decode prog_20_method_123_code 7 = .ok (.invokevirtual 316, 3) := by decide +kernel
theorem d_A_copyOf_13 : decode prog_20_method_123_code 13 = .ok (.areturn, 1) := by decide +kernel
theorem d_A_copyOf_14 : decode prog_20_method_123_code 14 = .ok (.iload_n 1, 1) := by decide +kernel
theorem d_A_copyOf_15 : decode prog_20_method_123_code 15 = .ok (.newarray .int, 2) := by decide +kernel
theorem d_A_copyOf_17 : decode prog_20_method_123_code 17 = .ok (.astore_n 2, 1) := by decide +kernel
theorem d_A_copyOf_18 : decode prog_20_method_123_code 18 = .ok (.aload_n 0, 1) := by decide +kernel
theorem d_A_copyOf_19 : decode prog_20_method_123_code 19 = .ok (.iconst 0, 1) := by decide +kernel
theorem d_A_copyOf_20 : decode prog_20_method_123_code 20 = .ok (.aload_n 2, 1) := by decide +kernel
theorem d_A_copyOf_21 : decode prog_20_method_123_code 21 = .ok (.iconst 0, 1) := by decide +kernel
theorem d_A_copyOf_22 : decode prog_20_method_123_code 22 = .ok (.aload_n 0, 1) := by decide +kernel
theorem d_A_copyOf_23 : decode prog_20_method_123_code 23 = .ok (.arraylength, 1) := by decide +kernel
theorem d_A_copyOf_24 : decode prog_20_method_123_code 24 = .ok (.iload_n 1, 1) := by decide +kernel
theorem d_A_copyOf_25 : decode prog_20_method_123_code 25 = .ok (.invokestatic 304, 3) := by decide +kernel
theorem d_A_copyOf_28 : decode prog_20_method_123_code 28 = .ok (.invokestatic 150, 3) := by decide +kernel
theorem d_A_copyOf_31 : decode prog_20_method_123_code 31 = .ok (.aload_n 2, 1) := by decide +kernel
theorem d_A_copyOf_32 : decode prog_20_method_123_code 32 = .ok (.areturn, 1) := by decide +kernel
theorem d_H_min_0 : decode prog_15_method_69_code 0 = .ok (.iload_n 0, 1) := by decide +kernel
theorem d_H_min_1 : decode prog_15_method_69_code 1 = .ok (.iload_n 1, 1) := by decide +kernel
theorem d_H_min_2 : decode prog_15_method_69_code 2 = .ok (.if_icmp .gt 7, 3) := by decide +kernel
theorem d_H_min_5 : decode prog_15_method_69_code 5 = .ok (.iload_n 0, 1) := by decide +kernel
theorem d_H_min_6 : decode prog_15_method_69_code 6 = .ok (.goto 4, 3) := by decide +kernel
theorem d_H_min_9 : decode prog_15_method_69_code 9 = .ok (.iload_n 1, 1) := by decide +kernel
theorem d_H_min_10 : decode prog_15_method_69_code 10 = .ok (.ireturn, 1) := by decide +kernel
theorem d_U_endOfPattern_0 : decode prog_5_method_2_code 0 = .ok (.iconst 1, 1) := by decide +kernel
theorem d_U_endOfPattern_1 : decode prog_5_method_2_code 1 = .ok (.istore_n 2, 1) := by decide +kernel
theorem d_U_endOfPattern_2 : decode prog_5_method_2_code 2 = .ok (.iload_n 1, 1) := by decide +kernel
theorem d_U_endOfPattern_3 : decode prog_5_method_2_code 3 = .ok (.istore_n 3, 1) := by decide +kernel
theorem d_U_endOfPattern_4 : decode prog_5_method_2_code 4 = .ok (.iload_n 3, 1) := by decide +kernel
theorem d_U_endOfPattern_5 : decode prog_5_method_2_code 5 = .ok (.aload_n 0, 1) := by decide +kernel
theorem d_U_endOfPattern_6 : decode prog_5_method_2_code 6 = .ok (.arraylength, 1) := by decide +kernel
theorem d_U_endOfPattern_7 : decode prog_5_method_2_code 7 = .ok (.if_icmp .ge 24, 3) := by decide +kernel
theorem d_U_endOfPattern_10 : decode prog_5_method_2_code 10 = .ok (.iload_n 2, 1) := by decide +kernel
theorem d_U_endOfPattern_11 : decode prog_5_method_2_code 11 = .ok (.ifCond .le 20, 3) := by decide +kernel
theorem d_U_endOfPattern_14 : decode prog_5_method_2_code 14 = .ok (.iload_n 2, 1) := by decide +kernel
theorem d_U_endOfPattern_15 : decode prog_5_method_2_code 15 = .ok (.aload_n 0, 1) := by decide +kernel
theorem d_U_endOfPattern_16 : decode prog_5_method_2_code 16 = .ok (.iload_n 3, 1) := by decide +kernel
theorem d_U_endOfPattern_17 : decode prog_5_method_2_code 17 = .ok (.iaload, 1) := by decide +kernel
theorem d_U_endOfPattern_18 : decode prog_5_method_2_code 18 = .ok (.invokestatic 53, 3) := by decide +kernel
theorem d_U_endOfPattern_21 : decode prog_5_method_2_code 21 = .ok (.iconst 1, 1) := by decide +kernel
theorem d_U_endOfPattern_22 : decode prog_5_method_2_code 22 = .ok (.isub, 1) := by decide +kernel
theorem d_U_endOfPattern_23 : decode prog_5_method_2_code 23 = .ok (.iadd, 1) := by decide +kernel
theorem d_U_endOfPattern_24 : decode prog_5_method_2_code 24 = .ok (.istore_n 2, 1) := by decide +kernel
theorem d_U_endOfPattern_25 : decode prog_5_method_2_code 25 = .ok (.iinc 3 1, 3) := by decide +kernel
theorem d_U_endOfPattern_28 : decode prog_5_method_2_code 28 = .ok (.goto (-24), 3) := by decide +kernel
theorem d_U_endOfPattern_31 : decode prog_5_method_2_code 31 = .ok (.iload_n 3, 1) := by decide +kernel
theorem d_U_endOfPattern_32 : decode prog_5_method_2_code 32 = .ok (.ireturn, 1) := by decide +kernel
theorem d_K_classOf_0 : decode prog_8_method_2_code 0 = .ok (.iconst 0, 1) := by decide +kernel
theorem d_K_classOf_1 : decode prog_8_method_2_code 1 = .ok (.istore 5, 2) := by decide +kernel
theorem d_K_classOf_3 : decode prog_8_method_2_code 3 = .ok (.iconst (-1), 1) := by decide +kernel
theorem d_K_classOf_4 : decode prog_8_method_2_code 4 = .ok (.istore 6, 2) := by decide +kernel
theorem d_K_classOf_6 : decode prog_8_method_2_code 6 = .ok (.iload_n 3, 1) := by decide +kernel
theorem d_K_classOf_7 : decode prog_8_method_2_code 7 = .ok (.iconst 1, 1) := by decide +kernel
theorem d_K_classOf_8 : decode prog_8_method_2_code 8 = .ok (.isub, 1) := by decide +kernel
theorem d_K_classOf_9 : decode prog_8_method_2_code 9 = .ok (.istore 7, 2) := by decide +kernel
theorem d_K_classOf_11 : decode prog_8_method_2_code 11 = .ok (.iload 7, 2) := by decide +kernel
theorem d_K_classOf_13 : decode prog_8_method_2_code 13 = .ok (.iload_n 2, 1) := by decide +kernel
theorem d_K_classOf_14 : decode prog_8_method_2_code 14 = .ok (.if_icmp .lt 130, 3) := by decide +kernel
theorem d_K_classOf_17 : decode prog_8_method_2_code 17 = .ok (.aload_n 1, 1) := by decide +kernel
theorem d_K_classOf_18 : decode prog_8_method_2_code 18 = .ok (.iload 7, 2) := by decide +kernel
theorem d_K_classOf_20 : decode prog_8_method_2_code 20 = .ok (.iaload, 1) := by decide +kernel
theorem d_K_classOf_21 : decode prog_8_method_2_code 21 = .ok (.invokestatic 22, 3) := by decide +kernel
theorem d_K_classOf_24 : decode prog_8_method_2_code 24 = .ok (.istore 8, 2) := by decide +kernel
theorem d_K_classOf_26 : decode prog_8_method_2_code 26 = .ok (.iload 8, 2) := by decide +kernel
theorem d_K_classOf_28 : decode prog_8_method_2_code 28 = .ok (.ifCond .le 15, 3) := by decide +kernel
theorem d_K_classOf_31 : decode prog_8_method_2_code 31 = .ok (.aload_n 0, 1) := by decide +kernel
theorem d_K_classOf_32 : decode prog_8_method_2_code 32 = .ok (.getfield 15, 3) := by decide +kernel
theorem d_K_classOf_35 : decode prog_8_method_2_code 35 = .ok (.iload 5, 2) := by decide +kernel
theorem d_K_classOf_37 : decode prog_8_method_2_code 37 = .ok (.iconst 1, 1) := by decide +kernel
theorem d_K_classOf_38 : decode prog_8_method_2_code 38 = .ok (.isub, 1) := by decide +kernel
theorem d_K_classOf_39 : decode prog_8_method_2_code 39 = .ok (.iaload, 1) := by decide +kernel
theorem d_K_classOf_40 : decode prog_8_method_2_code 40 = .ok (.goto 4, 3) := by decide +kernel
theorem d_K_classOf_43 : decode prog_8_method_2_code 43 = .ok (.iconst (-1), 1) := by decide +kernel
theorem d_K_classOf_44 : decode prog_8_method_2_code 44 = .ok (.istore 9, 2) := by decide +kernel
theorem d_K_classOf_46 : decode prog_8_method_2_code 46 = .ok (.iload 8, 2) := by decide +kernel
theorem d_K_classOf_48 : decode prog_8_method_2_code 48 = .ok (.iconst 1, 1) := by decide +kernel
theorem d_K_classOf_49 : decode prog_8_method_2_code 49 = .ok (.if_icmp .le 15, 3) := by decide +kernel
theorem d_K_classOf_52 : decode prog_8_method_2_code 52 = .ok (.aload_n 0, 1) := by decide +kernel
theorem d_K_classOf_53 : decode prog_8_method_2_code 53 = .ok (.getfield 15, 3) := by decide +kernel
theorem d_K_classOf_56 : decode prog_8_method_2_code 56 = .ok (.iload 5, 2) := by decide +kernel
theorem d_K_classOf_58 : decode prog_8_method_2_code 58 = .ok (.iconst 2, 1) := by decide +kernel
theorem d_K_classOf_59 : decode prog_8_method_2_code 59 = .ok (.isub, 1) := by decide +kernel
theorem d_K_classOf_60 : decode prog_8_method_2_code 60 = .ok (.iaload, 1) := by decide +kernel
theorem d_K_classOf_61 : decode prog_8_method_2_code 61 = .ok (.goto 4, 3) := by decide +kernel
theorem d_K_classOf_64 : decode prog_8_method_2_code 64 = .ok (.iconst (-1), 1) := by decide +kernel
theorem d_K_classOf_65 : decode prog_8_method_2_code 65 = .ok (.istore 10, 2) := by decide +kernel
theorem d_K_classOf_67 : decode prog_8_method_2_code 67 = .ok (.aload_n 1, 1) := by decide +kernel
theorem d_K_classOf_68 : decode prog_8_method_2_code 68 = .ok (.iload 7, 2) := by decide +kernel
theorem d_K_classOf_70 : decode prog_8_method_2_code 70 = .ok (.iaload, 1) := by decide +kernel
theorem d_K_classOf_71 : decode prog_8_method_2_code 71 = .ok (.invokestatic 28, 3) := by decide +kernel
theorem d_K_classOf_74 : decode prog_8_method_2_code 74 = .ok (.ifCond .eq 18, 3) := by decide +kernel
theorem d_K_classOf_77 : decode prog_8_method_2_code 77 = .ok (.aload_n 0, 1) := by decide +kernel
theorem d_K_classOf_78 : decode prog_8_method_2_code 78 = .ok (.getfield 9, 3) := by decide +kernel
theorem d_K_classOf_81 : decode prog_8_method_2_code 81 = .ok (.aload_n 1, 1) := by decide +kernel
theorem d_K_classOf_82 : decode prog_8_method_2_code 82 = .ok (.iload 7, 2) := by decide +kernel
theorem d_K_classOf_84 : decode prog_8_method_2_code 84 = .ok (.iaload, 1) := by decide +kernel
theorem d_K_classOf_85 : decode prog_8_method_2_code 85 = .ok (.bipush 97, 2) := by decide +kernel
theorem d_K_classOf_87 : decode prog_8_method_2_code 87 = .ok (.isub, 1) := by decide +kernel
theorem d_K_classOf_88 : decode prog_8_method_2_code 88 = .ok (.iaload, 1) := by decide +kernel
theorem d_K_classOf_89 : decode prog_8_method_2_code 89 = .ok (.goto 20, 3) := by decide +kernel
theorem d_K_classOf_92 : decode prog_8_method_2_code 92 = .ok (.aload_n 0, 1) := by decide +kernel
theorem d_K_classOf_93 : decode prog_8_method_2_code 93 = .ok (.getfield 18, 3) := by decide +kernel
theorem d_K_classOf_96 : decode prog_8_method_2_code 96 = .ok (.aload_n 1, 1) := by decide +kernel
theorem d_K_classOf_97 : decode prog_8_method_2_code 97 = .ok (.iload 7, 2) := by decide +kernel
theorem d_K_classOf_99 : decode prog_8_method_2_code 99 = .ok (.iaload, 1) := by decide +kernel
theorem d_K_classOf_100 : decode prog_8_method_2_code 100 = .ok (.iload 9, 2) := by decide +kernel
theorem d_K_classOf_102 : decode prog_8_method_2_code 102 = .ok (.iload 10, 2) := by decide +kernel
theorem d_K_classOf_104 : decode prog_8_method_2_code 104 = .ok (.iload 4, 2) := by decide +kernel
theorem d_K_classOf_106 : decode prog_8_method_2_code 106 = .ok (.invokevirtual 32, 3) := by decide +kernel
theorem d_K_classOf_109 : decode prog_8_method_2_code 109 = .ok (.istore 6, 2) := by decide +kernel
theorem d_K_classOf_111 : decode prog_8_method_2_code 111 = .ok (.iload 6, 2) := by decide +kernel
theorem d_K_classOf_113 : decode prog_8_method_2_code 113 = .ok (.iconst (-1), 1) := by decide +kernel
theorem d_K_classOf_114 : decode prog_8_method_2_code 114 = .ok (.if_icmp .ne 5, 3) := by decide +kernel
theorem d_K_classOf_117 : decode prog_8_method_2_code 117 = .ok (.iconst (-1), 1) := by decide +kernel
theorem d_K_classOf_118 : decode prog_8_method_2_code 118 = .ok (.ireturn, 1) := by decide +kernel
theorem d_K_classOf_119 : decode prog_8_method_2_code 119 = .ok (.iload 5, 2) := by decide +kernel
theorem d_K_classOf_121 : decode prog_8_method_2_code 121 = .ok (.iload 8, 2) := by decide +kernel
theorem d_K_classOf_123 : decode prog_8_method_2_code 123 = .ok (.isub, 1) := by decide +kernel
theorem d_K_classOf_124 : decode prog_8_method_2_code 124 = .ok (.istore 5, 2) := by decide +kernel
theorem d_K_classOf_126 : decode prog_8_method_2_code 126 = .ok (.aload_n 0, 1) := by decide +kernel
theorem d_K_classOf_127 : decode prog_8_method_2_code 127 = .ok (.getfield 15, 3) := by decide +kernel
theorem d_K_classOf_130 : decode prog_8_method_2_code 130 = .ok (.iload 5, 2) := by decide +kernel
theorem d_K_classOf_132 : decode prog_8_method_2_code 132 = .ok (.iload 6, 2) := by decide +kernel
theorem d_K_classOf_134 : decode prog_8_method_2_code 134 = .ok (.iastore, 1) := by decide +kernel
theorem d_K_classOf_135 : decode prog_8_method_2_code 135 = .ok (.iinc 5 1, 3) := by decide +kernel
theorem d_K_classOf_138 : decode prog_8_method_2_code 138 = .ok (.iinc 7 (-1), 3) := by decide +kernel
theorem d_K_classOf_141 : decode prog_8_method_2_code 141 = .ok (.goto (-130), 3) := by decide +kernel
theorem d_K_classOf_144 : decode prog_8_method_2_code 144 = .ok (.iload 6, 2) := by decide +kernel
theorem d_K_classOf_146 : decode prog_8_method_2_code 146 = .ok (.ireturn, 1) := by decide +kernel
theorem d_G_homeOf_0 : decode prog_3_method_2_code 0 = .ok (.aload_n 0, 1) := by decide +kernel
theorem d_G_homeOf_1 : decode prog_3_method_2_code 1 = .ok (.aload_n 0, 1) := by decide +kernel
theorem d_G_homeOf_2 : decode prog_3_method_2_code 2 = .ok (.getfield 24, 3) := by decide +kernel
theorem d_G_homeOf_5 : decode prog_3_method_2_code 5 = .ok (.iload_n 1, 1) := by decide +kernel
theorem d_G_homeOf_6 : decode prog_3_method_2_code 6 = .ok (.iload_n 2, 1) := by decide +kernel
theorem d_G_homeOf_7 : decode prog_3_method_2_code 7 = .ok (.iload_n 3, 1) := by decide +kernel
theorem d_G_homeOf_8 : decode prog_3_method_2_code 8 = .ok (.invokevirtual 37, 3) := by decide +kernel
theorem d_G_homeOf_11 : decode prog_3_method_2_code 11 = .ok (.istore 5, 2) := by decide +kernel
theorem d_G_homeOf_13 : decode prog_3_method_2_code 13 = .ok (.iload 5, 2) := by decide +kernel
theorem d_G_homeOf_15 : decode prog_3_method_2_code 15 = .ok (.iconst (-1), 1) := by decide +kernel
theorem d_G_homeOf_16 : decode prog_3_method_2_code 16 = .ok (.if_icmp .eq 11, 3) := by decide +kernel
theorem d_G_homeOf_19 : decode prog_3_method_2_code 19 = .ok (.aload_n 0, 1) := by decide +kernel
theorem d_G_homeOf_20 : decode prog_3_method_2_code 20 = .ok (.getfield 21, 3) := by decide +kernel
theorem d_G_homeOf_23 : decode prog_3_method_2_code 23 = .ok (.iload 5, 2) := by decide +kernel
theorem d_G_homeOf_25 : decode prog_3_method_2_code 25 = .ok (.iaload, 1) := by decide +kernel
theorem d_G_homeOf_26 : decode prog_3_method_2_code 26 = .ok (.ireturn, 1) := by decide +kernel
theorem d_G_homeOf_27 : decode prog_3_method_2_code 27 = .ok (.iload 4, 2) := by decide +kernel
theorem d_G_homeOf_29 : decode prog_3_method_2_code 29 = .ok (.ifCond .eq 12, 3) := by decide +kernel
theorem d_G_homeOf_32 : decode prog_3_method_2_code 32 = .ok (.aload_n 0, 1) := by decide +kernel
theorem d_G_homeOf_33 : decode prog_3_method_2_code 33 = .ok (.getfield 24, 3) := by decide +kernel
theorem d_G_homeOf_36 : decode prog_3_method_2_code 36 = .ok (.bipush 40, 2) := by decide +kernel
theorem d_G_homeOf_38 : decode prog_3_method_2_code 38 = .ok (.if_icmp .lt 5, 3) := by decide +kernel
theorem d_G_homeOf_41 : decode prog_3_method_2_code 41 = .ok (.iconst (-1), 1) := by decide +kernel
theorem d_G_homeOf_42 : decode prog_3_method_2_code 42 = .ok (.ireturn, 1) := by decide +kernel
theorem d_G_homeOf_43 : decode prog_3_method_2_code 43 = .ok (.aload_n 0, 1) := by decide +kernel
theorem d_G_homeOf_44 : decode prog_3_method_2_code 44 = .ok (.aload_n 0, 1) := by decide +kernel
theorem d_G_homeOf_45 : decode prog_3_method_2_code 45 = .ok (.getfield 24, 3) := by decide +kernel
theorem d_G_homeOf_48 : decode prog_3_method_2_code 48 = .ok (.iload_n 1, 1) := by decide +kernel
theorem d_G_homeOf_49 : decode prog_3_method_2_code 49 = .ok (.iload_n 2, 1) := by decide +kernel
theorem d_G_homeOf_50 : decode prog_3_method_2_code 50 = .ok (.iload_n 3, 1) := by decide +kernel
theorem d_G_homeOf_51 : decode prog_3_method_2_code 51 = .ok (.aload_n 0, 1) := by decide +kernel
theorem d_G_homeOf_52 : decode prog_3_method_2_code 52 = .ok (.getfield 28, 3) := by decide +kernel
theorem d_G_homeOf_55 : decode prog_3_method_2_code 55 = .ok (.invokevirtual 41, 3) := by decide +kernel
theorem d_G_homeOf_58 : decode prog_3_method_2_code 58 = .ok (.aload_n 0, 1) := by decide +kernel
theorem d_G_homeOf_59 : decode prog_3_method_2_code 59 = .ok (.dup, 1) := by decide +kernel
theorem d_G_homeOf_60 : decode prog_3_method_2_code 60 = .ok (.getfield 24, 3) := by decide +kernel
theorem d_G_homeOf_63 : decode prog_3_method_2_code 63 = .ok (.iconst 1, 1) := by decide +kernel
theorem d_G_homeOf_64 : decode prog_3_method_2_code 64 = .ok (.iadd, 1) := by decide +kernel
theorem d_G_homeOf_65 : decode prog_3_method_2_code 65 = .ok (.putfield 24, 3) := by decide +kernel
theorem d_G_homeOf_68 : decode prog_3_method_2_code 68 = .ok (.aload_n 0, 1) := by decide +kernel
theorem d_G_homeOf_69 : decode prog_3_method_2_code 69 = .ok (.getfield 31, 3) := by decide +kernel
theorem d_G_homeOf_72 : decode prog_3_method_2_code 72 = .ok (.aload_n 0, 1) := by decide +kernel
theorem d_G_homeOf_73 : decode prog_3_method_2_code 73 = .ok (.getfield 28, 3) := by decide +kernel
theorem d_G_homeOf_76 : decode prog_3_method_2_code 76 = .ok (.aload_n 0, 1) := by decide +kernel
theorem d_G_homeOf_77 : decode prog_3_method_2_code 77 = .ok (.getfield 28, 3) := by decide +kernel
theorem d_G_homeOf_80 : decode prog_3_method_2_code 80 = .ok (.iastore, 1) := by decide +kernel
theorem d_G_homeOf_81 : decode prog_3_method_2_code 81 = .ok (.aload_n 0, 1) := by decide +kernel
theorem d_G_homeOf_82 : decode prog_3_method_2_code 82 = .ok (.dup, 1) := by decide +kernel
theorem d_G_homeOf_83 : decode prog_3_method_2_code 83 = .ok (.getfield 28, 3) := by decide +kernel
theorem d_G_homeOf_86 : decode prog_3_method_2_code 86 = .ok (.iconst 1, 1) := by decide +kernel
theorem d_G_homeOf_87 : decode prog_3_method_2_code 87 = .ok (.iadd, 1) := by decide +kernel
theorem d_G_homeOf_88 : decode prog_3_method_2_code 88 = .ok (.putfield 28, 3) := by decide +kernel
theorem d_G_homeOf_91 : decode prog_3_method_2_code 91 = .ok (.aload_n 0, 1) := by decide +kernel
theorem d_G_homeOf_92 : decode prog_3_method_2_code 92 = .ok (.getfield 28, 3) := by decide +kernel
theorem d_G_homeOf_95 : decode prog_3_method_2_code 95 = .ok (.iconst 1, 1) := by decide +kernel
theorem d_G_homeOf_96 : decode prog_3_method_2_code 96 = .ok (.isub, 1) := by decide +kernel
theorem d_G_homeOf_97 : decode prog_3_method_2_code 97 = .ok (.ireturn, 1) := by decide +kernel
theorem d_G_nodeAmong_0 : decode prog_3_method_3_code 0 = .ok (.iconst 0, 1) := by decide +kernel
theorem d_G_nodeAmong_1 : decode prog_3_method_3_code 1 = .ok (.istore 5, 2) := by decide +kernel
theorem d_G_nodeAmong_3 : decode prog_3_method_3_code 3 = .ok (.iload 5, 2) := by decide +kernel
theorem d_G_nodeAmong_5 : decode prog_3_method_3_code 5 = .ok (.iload_n 1, 1) := by decide +kernel
theorem d_G_nodeAmong_6 : decode prog_3_method_3_code 6 = .ok (.if_icmp .ge 46, 3) := by decide +kernel
theorem d_G_nodeAmong_9 : decode prog_3_method_3_code 9 = .ok (.aload_n 0, 1) := by decide +kernel
theorem d_G_nodeAmong_10 : decode prog_3_method_3_code 10 = .ok (.getfield 9, 3) := by decide +kernel
theorem d_G_nodeAmong_13 : decode prog_3_method_3_code 13 = .ok (.iload 5, 2) := by decide +kernel
theorem d_G_nodeAmong_15 : decode prog_3_method_3_code 15 = .ok (.iaload, 1) := by decide +kernel
theorem d_G_nodeAmong_16 : decode prog_3_method_3_code 16 = .ok (.iload_n 2, 1) := by decide +kernel
theorem d_G_nodeAmong_17 : decode prog_3_method_3_code 17 = .ok (.if_icmp .ne 29, 3) := by decide +kernel
theorem d_G_nodeAmong_20 : decode prog_3_method_3_code 20 = .ok (.aload_n 0, 1) := by decide +kernel
theorem d_G_nodeAmong_21 : decode prog_3_method_3_code 21 = .ok (.getfield 15, 3) := by decide +kernel
theorem d_G_nodeAmong_24 : decode prog_3_method_3_code 24 = .ok (.iload 5, 2) := by decide +kernel
theorem d_G_nodeAmong_26 : decode prog_3_method_3_code 26 = .ok (.iaload, 1) := by decide +kernel
theorem d_G_nodeAmong_27 : decode prog_3_method_3_code 27 = .ok (.iload_n 3, 1) := by decide +kernel
theorem d_G_nodeAmong_28 : decode prog_3_method_3_code 28 = .ok (.if_icmp .ne 18, 3) := by decide +kernel
theorem d_G_nodeAmong_31 : decode prog_3_method_3_code 31 = .ok (.aload_n 0, 1) := by decide +kernel
theorem d_G_nodeAmong_32 : decode prog_3_method_3_code 32 = .ok (.getfield 18, 3) := by decide +kernel
theorem d_G_nodeAmong_35 : decode prog_3_method_3_code 35 = .ok (.iload 5, 2) := by decide +kernel
theorem d_G_nodeAmong_37 : decode prog_3_method_3_code 37 = .ok (.iaload, 1) := by decide +kernel
theorem d_G_nodeAmong_38 : decode prog_3_method_3_code 38 = .ok (.iload 4, 2) := by decide +kernel
theorem d_G_nodeAmong_40 : decode prog_3_method_3_code 40 = .ok (.if_icmp .ne 6, 3) := by decide +kernel
theorem d_G_nodeAmong_43 : decode prog_3_method_3_code 43 = .ok (.iload 5, 2) := by decide +kernel
theorem d_G_nodeAmong_45 : decode prog_3_method_3_code 45 = .ok (.ireturn, 1) := by decide +kernel
theorem d_G_nodeAmong_46 : decode prog_3_method_3_code 46 = .ok (.iinc 5 1, 3) := by decide +kernel
theorem d_G_nodeAmong_49 : decode prog_3_method_3_code 49 = .ok (.goto (-46), 3) := by decide +kernel
theorem d_G_nodeAmong_52 : decode prog_3_method_3_code 52 = .ok (.iconst (-1), 1) := by decide +kernel
theorem d_G_nodeAmong_53 : decode prog_3_method_3_code 53 = .ok (.ireturn, 1) := by decide +kernel
theorem d_G_putNode_0 : decode prog_3_method_4_code 0 = .ok (.aload_n 0, 1) := by decide +kernel
theorem d_G_putNode_1 : decode prog_3_method_4_code 1 = .ok (.getfield 9, 3) := by decide +kernel
theorem d_G_putNode_4 : decode prog_3_method_4_code 4 = .ok (.iload_n 1, 1) := by decide +kernel
theorem d_G_putNode_5 : decode prog_3_method_4_code 5 = .ok (.iload_n 2, 1) := by decide +kernel
theorem d_G_putNode_6 : decode prog_3_method_4_code 6 = .ok (.iastore, 1) := by decide +kernel
theorem d_G_putNode_7 : decode prog_3_method_4_code 7 = .ok (.aload_n 0, 1) := by decide +kernel
theorem d_G_putNode_8 : decode prog_3_method_4_code 8 = .ok (.getfield 15, 3) := by decide +kernel
theorem d_G_putNode_11 : decode prog_3_method_4_code 11 = .ok (.iload_n 1, 1) := by decide +kernel
theorem d_G_putNode_12 : decode prog_3_method_4_code 12 = .ok (.iload_n 3, 1) := by decide +kernel
theorem d_G_putNode_13 : decode prog_3_method_4_code 13 = .ok (.iastore, 1) := by decide +kernel
theorem d_G_putNode_14 : decode prog_3_method_4_code 14 = .ok (.aload_n 0, 1) := by decide +kernel
theorem d_G_putNode_15 : decode prog_3_method_4_code 15 = .ok (.getfield 18, 3) := by decide +kernel
theorem d_G_putNode_18 : decode prog_3_method_4_code 18 = .ok (.iload_n 1, 1) := by decide +kernel
theorem d_G_putNode_19 : decode prog_3_method_4_code 19 = .ok (.iload 4, 2) := by decide +kernel
theorem d_G_putNode_21 : decode prog_3_method_4_code 21 = .ok (.iastore, 1) := by decide +kernel
theorem d_G_putNode_22 : decode prog_3_method_4_code 22 = .ok (.aload_n 0, 1) := by decide +kernel
theorem d_G_putNode_23 : decode prog_3_method_4_code 23 = .ok (.getfield 21, 3) := by decide +kernel
theorem d_G_putNode_26 : decode prog_3_method_4_code 26 = .ok (.iload_n 1, 1) := by decide +kernel
theorem d_G_putNode_27 : decode prog_3_method_4_code 27 = .ok (.iload 5, 2) := by decide +kernel
theorem d_G_putNode_29 : decode prog_3_method_4_code 29 = .ok (.iastore, 1) := by decide +kernel
theorem d_G_putNode_30 : decode prog_3_method_4_code 30 = .ok (.return_, 1) := by decide +kernel
theorem d_G_goBack_0 : decode prog_3_method_6_code 0 = .ok (.aload_n 0, 1) := by decide +kernel
theorem d_G_goBack_1 : decode prog_3_method_6_code 1 = .ok (.iload_n 1, 1) := by decide +kernel
theorem d_G_goBack_2 : decode prog_3_method_6_code 2 = .ok (.putfield 24, 3) := by decide +kernel
theorem d_G_goBack_5 : decode prog_3_method_6_code 5 = .ok (.aload_n 0, 1) := by decide +kernel
theorem d_G_goBack_6 : decode prog_3_method_6_code 6 = .ok (.iload_n 2, 1) := by decide +kernel
theorem d_G_goBack_7 : decode prog_3_method_6_code 7 = .ok (.putfield 28, 3) := by decide +kernel
theorem d_G_goBack_10 : decode prog_3_method_6_code 10 = .ok (.aload_n 0, 1) := by decide +kernel
theorem d_G_goBack_11 : decode prog_3_method_6_code 11 = .ok (.invokevirtual 45, 3) := by decide +kernel
theorem d_G_goBack_14 : decode prog_3_method_6_code 14 = .ok (.return_, 1) := by decide +kernel
theorem d_G_nameAllByNumber_0 : decode prog_3_method_7_code 0 = .ok (.iconst 0, 1) := by decide +kernel
theorem d_G_nameAllByNumber_1 : decode prog_3_method_7_code 1 = .ok (.istore_n 1, 1) := by decide +kernel
theorem d_G_nameAllByNumber_2 : decode prog_3_method_7_code 2 = .ok (.iload_n 1, 1) := by decide +kernel
theorem d_G_nameAllByNumber_3 : decode prog_3_method_7_code 3 = .ok (.aload_n 0, 1) := by decide +kernel
theorem d_G_nameAllByNumber_4 : decode prog_3_method_7_code 4 = .ok (.getfield 28, 3) := by decide +kernel
theorem d_G_nameAllByNumber_7 : decode prog_3_method_7_code 7 = .ok (.if_icmp .ge 16, 3) := by decide +kernel
theorem d_G_nameAllByNumber_10 : decode prog_3_method_7_code 10 = .ok (.aload_n 0, 1) := by decide +kernel
theorem d_G_nameAllByNumber_11 : decode prog_3_method_7_code 11 = .ok (.getfield 31, 3) := by decide +kernel
theorem d_G_nameAllByNumber_14 : decode prog_3_method_7_code 14 = .ok (.iload_n 1, 1) := by decide +kernel
theorem d_G_nameAllByNumber_15 : decode prog_3_method_7_code 15 = .ok (.iload_n 1, 1) := by decide +kernel
theorem d_G_nameAllByNumber_16 : decode prog_3_method_7_code 16 = .ok (.iastore, 1) := by decide +kernel
theorem d_G_nameAllByNumber_17 : decode prog_3_method_7_code 17 = .ok (.iinc 1 1, 3) := by decide +kernel
theorem d_G_nameAllByNumber_20 : decode prog_3_method_7_code 20 = .ok (.goto (-18), 3) := by decide +kernel
theorem d_G_nameAllByNumber_23 : decode prog_3_method_7_code 23 = .ok (.return_, 1) := by decide +kernel
theorem d_G_join_0 : decode prog_3_method_8_code 0 = .ok (.aload_n 0, 1) := by decide +kernel
theorem d_G_join_1 : decode prog_3_method_8_code 1 = .ok (.getfield 31, 3) := by decide +kernel
theorem d_G_join_4 : decode prog_3_method_8_code 4 = .ok (.iload_n 1, 1) := by decide +kernel
theorem d_G_join_5 : decode prog_3_method_8_code 5 = .ok (.iaload, 1) := by decide +kernel
theorem d_G_join_6 : decode prog_3_method_8_code 6 = .ok (.istore_n 3, 1) := by decide +kernel
theorem d_G_join_7 : decode prog_3_method_8_code 7 = .ok (.aload_n 0, 1) := by decide +kernel
theorem d_G_join_8 : decode prog_3_method_8_code 8 = .ok (.getfield 31, 3) := by decide +kernel
theorem d_G_join_11 : decode prog_3_method_8_code 11 = .ok (.iload_n 2, 1) := by decide +kernel
theorem d_G_join_12 : decode prog_3_method_8_code 12 = .ok (.iaload, 1) := by decide +kernel
theorem d_G_join_13 : decode prog_3_method_8_code 13 = .ok (.istore 4, 2) := by decide +kernel
theorem d_G_join_15 : decode prog_3_method_8_code 15 = .ok (.iload_n 3, 1) := by decide +kernel
theorem d_G_join_16 : decode prog_3_method_8_code 16 = .ok (.iload 4, 2) := by decide +kernel
theorem d_G_join_18 : decode prog_3_method_8_code 18 = .ok (.if_icmp .ne 5, 3) := by decide +kernel
theorem d_G_join_21 : decode prog_3_method_8_code 21 = .ok (.iconst 0, 1) := by decide +kernel
theorem d_G_join_22 : decode prog_3_method_8_code 22 = .ok (.ireturn, 1) := by decide +kernel
theorem d_G_join_23 : decode prog_3_method_8_code 23 = .ok (.iconst 0, 1) := by decide +kernel
theorem d_G_join_24 : decode prog_3_method_8_code 24 = .ok (.istore 5, 2) := by decide +kernel
theorem d_G_join_26 : decode prog_3_method_8_code 26 = .ok (.iload 5, 2) := by decide +kernel
theorem d_G_join_28 : decode prog_3_method_8_code 28 = .ok (.aload_n 0, 1) := by decide +kernel
theorem d_G_join_29 : decode prog_3_method_8_code 29 = .ok (.getfield 28, 3) := by decide +kernel
theorem d_G_join_32 : decode prog_3_method_8_code 32 = .ok (.if_icmp .ge 29, 3) := by decide +kernel
theorem d_G_join_35 : decode prog_3_method_8_code 35 = .ok (.aload_n 0, 1) := by decide +kernel
theorem d_G_join_36 : decode prog_3_method_8_code 36 = .ok (.getfield 31, 3) := by decide +kernel
theorem d_G_join_39 : decode prog_3_method_8_code 39 = .ok (.iload 5, 2) := by decide +kernel
theorem d_G_join_41 : decode prog_3_method_8_code 41 = .ok (.iaload, 1) := by decide +kernel
theorem d_G_join_42 : decode prog_3_method_8_code 42 = .ok (.iload 4, 2) := by decide +kernel
theorem d_G_join_44 : decode prog_3_method_8_code 44 = .ok (.if_icmp .ne 11, 3) := by decide +kernel
theorem d_G_join_47 : decode prog_3_method_8_code 47 = .ok (.aload_n 0, 1) := by decide +kernel
theorem d_G_join_48 : decode prog_3_method_8_code 48 = .ok (.getfield 31, 3) := by decide +kernel
theorem d_G_join_51 : decode prog_3_method_8_code 51 = .ok (.iload 5, 2) := by decide +kernel
theorem d_G_join_53 : decode prog_3_method_8_code 53 = .ok (.iload_n 3, 1) := by decide +kernel
theorem d_G_join_54 : decode prog_3_method_8_code 54 = .ok (.iastore, 1) := by decide +kernel
theorem d_G_join_55 : decode prog_3_method_8_code 55 = .ok (.iinc 5 1, 3) := by decide +kernel
theorem d_G_join_58 : decode prog_3_method_8_code 58 = .ok (.goto (-32), 3) := by decide +kernel
theorem d_G_join_61 : decode prog_3_method_8_code 61 = .ok (.iconst 1, 1) := by decide +kernel
theorem d_G_join_62 : decode prog_3_method_8_code 62 = .ok (.ireturn, 1) := by decide +kernel
theorem d_G_settle_0 : decode prog_3_method_9_code 0 = .ok (.aload_n 0, 1) := by decide +kernel
theorem d_G_settle_1 : decode prog_3_method_9_code 1 = .ok (.invokevirtual 48, 3) := by decide +kernel
theorem d_G_settle_4 : decode prog_3_method_9_code 4 = .ok (.iconst 0, 1) := by decide +kernel
theorem d_G_settle_5 : decode prog_3_method_9_code 5 = .ok (.istore_n 1, 1) := by decide +kernel
theorem d_G_settle_6 : decode prog_3_method_9_code 6 = .ok (.iload_n 1, 1) := by decide +kernel
theorem d_G_settle_7 : decode prog_3_method_9_code 7 = .ok (.bipush 40, 2) := by decide +kernel
theorem d_G_settle_9 : decode prog_3_method_9_code 9 = .ok (.if_icmp .ge 20, 3) := by decide +kernel
theorem d_G_settle_12 : decode prog_3_method_9_code 12 = .ok (.aload_n 0, 1) := by decide +kernel
theorem d_G_settle_13 : decode prog_3_method_9_code 13 = .ok (.invokevirtual 51, 3) := by decide +kernel
theorem d_G_settle_16 : decode prog_3_method_9_code 16 = .ok (.ifCond .eq 13, 3) := by decide +kernel
theorem d_G_settle_19 : decode prog_3_method_9_code 19 = .ok (.aload_n 0, 1) := by decide +kernel
theorem d_G_settle_20 : decode prog_3_method_9_code 20 = .ok (.invokevirtual 48, 3) := by decide +kernel
theorem d_G_settle_23 : decode prog_3_method_9_code 23 = .ok (.iinc 1 1, 3) := by decide +kernel
theorem d_G_settle_26 : decode prog_3_method_9_code 26 = .ok (.goto (-20), 3) := by decide +kernel
theorem d_G_settle_29 : decode prog_3_method_9_code 29 = .ok (.aload_n 0, 1) := by decide +kernel
theorem d_G_settle_30 : decode prog_3_method_9_code 30 = .ok (.invokevirtual 55, 3) := by decide +kernel
theorem d_G_settle_33 : decode prog_3_method_9_code 33 = .ok (.return_, 1) := by decide +kernel
theorem d_G_rename_0 : decode prog_3_method_10_code 0 = .ok (.iconst 0, 1) := by decide +kernel
theorem d_G_rename_1 : decode prog_3_method_10_code 1 = .ok (.istore_n 1, 1) := by decide +kernel
theorem d_G_rename_2 : decode prog_3_method_10_code 2 = .ok (.iload_n 1, 1) := by decide +kernel
theorem d_G_rename_3 : decode prog_3_method_10_code 3 = .ok (.aload_n 0, 1) := by decide +kernel
theorem d_G_rename_4 : decode prog_3_method_10_code 4 = .ok (.getfield 24, 3) := by decide +kernel
theorem d_G_rename_7 : decode prog_3_method_10_code 7 = .ok (.if_icmp .ge 88, 3) := by decide +kernel
theorem d_G_rename_10 : decode prog_3_method_10_code 10 = .ok (.aload_n 0, 1) := by decide +kernel
theorem d_G_rename_11 : decode prog_3_method_10_code 11 = .ok (.getfield 21, 3) := by decide +kernel
theorem d_G_rename_14 : decode prog_3_method_10_code 14 = .ok (.iload_n 1, 1) := by decide +kernel
theorem d_G_rename_15 : decode prog_3_method_10_code 15 = .ok (.aload_n 0, 1) := by decide +kernel
theorem d_G_rename_16 : decode prog_3_method_10_code 16 = .ok (.getfield 31, 3) := by decide +kernel
theorem d_G_rename_19 : decode prog_3_method_10_code 19 = .ok (.aload_n 0, 1) := by decide +kernel
theorem d_G_rename_20 : decode prog_3_method_10_code 20 = .ok (.getfield 21, 3) := by decide +kernel
theorem d_G_rename_23 : decode prog_3_method_10_code 23 = .ok (.iload_n 1, 1) := by decide +kernel
theorem d_G_rename_24 : decode prog_3_method_10_code 24 = .ok (.iaload, 1) := by decide +kernel
theorem d_G_rename_25 : decode prog_3_method_10_code 25 = .ok (.iaload, 1) := by decide +kernel
theorem d_G_rename_26 : decode prog_3_method_10_code 26 = .ok (.iastore, 1) := by decide +kernel
theorem d_G_rename_27 : decode prog_3_method_10_code 27 = .ok (.aload_n 0, 1) := by decide +kernel
theorem d_G_rename_28 : decode prog_3_method_10_code 28 = .ok (.getfield 15, 3) := by decide +kernel
theorem d_G_rename_31 : decode prog_3_method_10_code 31 = .ok (.iload_n 1, 1) := by decide +kernel
theorem d_G_rename_32 : decode prog_3_method_10_code 32 = .ok (.aload_n 0, 1) := by decide +kernel
theorem d_G_rename_33 : decode prog_3_method_10_code 33 = .ok (.getfield 15, 3) := by decide +kernel
theorem d_G_rename_36 : decode prog_3_method_10_code 36 = .ok (.iload_n 1, 1) := by decide +kernel
theorem d_G_rename_37 : decode prog_3_method_10_code 37 = .ok (.iaload, 1) := by decide +kernel
theorem d_G_rename_38 : decode prog_3_method_10_code 38 = .ok (.iconst (-1), 1) := by decide +kernel
theorem d_G_rename_39 : decode prog_3_method_10_code 39 = .ok (.if_icmp .ne 7, 3) := by decide +kernel
theorem d_G_rename_42 : decode prog_3_method_10_code 42 = .ok (.iconst (-1), 1) := by decide +kernel
theorem d_G_rename_43 : decode prog_3_method_10_code 43 = .ok (.goto 14, 3) := by decide +kernel
theorem d_G_rename_46 : decode prog_3_method_10_code 46 = .ok (.aload_n 0, 1) := by decide +kernel
theorem d_G_rename_47 : decode prog_3_method_10_code 47 = .ok (.getfield 31, 3) := by decide +kernel
theorem d_G_rename_50 : decode prog_3_method_10_code 50 = .ok (.aload_n 0, 1) := by decide +kernel
theorem d_G_rename_51 : decode prog_3_method_10_code 51 = .ok (.getfield 15, 3) := by decide +kernel
theorem d_G_rename_54 : decode prog_3_method_10_code 54 = .ok (.iload_n 1, 1) := by decide +kernel
theorem d_G_rename_55 : decode prog_3_method_10_code 55 = .ok (.iaload, 1) := by decide +kernel
theorem d_G_rename_56 : decode prog_3_method_10_code 56 = .ok (.iaload, 1) := by decide +kernel
theorem d_G_rename_57 : decode prog_3_method_10_code 57 = .ok (.iastore, 1) := by decide +kernel
theorem d_G_rename_58 : decode prog_3_method_10_code 58 = .ok (.aload_n 0, 1) := by decide +kernel
theorem d_G_rename_59 : decode prog_3_method_10_code 59 = .ok (.getfield 18, 3) := by decide +kernel
theorem d_G_rename_62 : decode prog_3_method_10_code 62 = .ok (.iload_n 1, 1) := by decide +kernel
theorem d_G_rename_63 : decode prog_3_method_10_code 63 = .ok (.aload_n 0, 1) := by decide +kernel
theorem d_G_rename_64 : decode prog_3_method_10_code 64 = .ok (.getfield 18, 3) := by decide +kernel
theorem d_G_rename_67 : decode prog_3_method_10_code 67 = .ok (.iload_n 1, 1) := by decide +kernel
theorem d_G_rename_68 : decode prog_3_method_10_code 68 = .ok (.iaload, 1) := by decide +kernel
theorem d_G_rename_69 : decode prog_3_method_10_code 69 = .ok (.iconst (-1), 1) := by decide +kernel
theorem d_G_rename_70 : decode prog_3_method_10_code 70 = .ok (.if_icmp .ne 7, 3) := by decide +kernel
theorem d_G_rename_73 : decode prog_3_method_10_code 73 = .ok (.iconst (-1), 1) := by decide +kernel
theorem d_G_rename_74 : decode prog_3_method_10_code 74 = .ok (.goto 14, 3) := by decide +kernel
theorem d_G_rename_77 : decode prog_3_method_10_code 77 = .ok (.aload_n 0, 1) := by decide +kernel
theorem d_G_rename_78 : decode prog_3_method_10_code 78 = .ok (.getfield 31, 3) := by decide +kernel
theorem d_G_rename_81 : decode prog_3_method_10_code 81 = .ok (.aload_n 0, 1) := by decide +kernel
theorem d_G_rename_82 : decode prog_3_method_10_code 82 = .ok (.getfield 18, 3) := by decide +kernel
theorem d_G_rename_85 : decode prog_3_method_10_code 85 = .ok (.iload_n 1, 1) := by decide +kernel
theorem d_G_rename_86 : decode prog_3_method_10_code 86 = .ok (.iaload, 1) := by decide +kernel
theorem d_G_rename_87 : decode prog_3_method_10_code 87 = .ok (.iaload, 1) := by decide +kernel
theorem d_G_rename_88 : decode prog_3_method_10_code 88 = .ok (.iastore, 1) := by decide +kernel
theorem d_G_rename_89 : decode prog_3_method_10_code 89 = .ok (.iinc 1 1, 3) := by decide +kernel
theorem d_G_rename_92 : decode prog_3_method_10_code 92 = .ok (.goto (-90), 3) := by decide +kernel
theorem d_G_rename_95 : decode prog_3_method_10_code 95 = .ok (.return_, 1) := by decide +kernel
theorem d_G_mergeTwins_0 : decode prog_3_method_11_code 0 = .ok (.iconst 0, 1) := by decide +kernel
theorem d_G_mergeTwins_1 : decode prog_3_method_11_code 1 = .ok (.istore_n 1, 1) := by decide +kernel
theorem d_G_mergeTwins_2 : decode prog_3_method_11_code 2 = .ok (.iconst 0, 1) := by decide +kernel
theorem d_G_mergeTwins_3 : decode prog_3_method_11_code 3 = .ok (.istore_n 2, 1) := by decide +kernel
theorem d_G_mergeTwins_4 : decode prog_3_method_11_code 4 = .ok (.iload_n 2, 1) := by decide +kernel
theorem d_G_mergeTwins_5 : decode prog_3_method_11_code 5 = .ok (.aload_n 0, 1) := by decide +kernel
theorem d_G_mergeTwins_6 : decode prog_3_method_11_code 6 = .ok (.getfield 24, 3) := by decide +kernel
theorem d_G_mergeTwins_9 : decode prog_3_method_11_code 9 = .ok (.if_icmp .ge 90, 3) := by decide +kernel
theorem d_G_mergeTwins_12 : decode prog_3_method_11_code 12 = .ok (.aload_n 0, 1) := by decide +kernel
theorem d_G_mergeTwins_13 : decode prog_3_method_11_code 13 = .ok (.iload_n 1, 1) := by decide +kernel
theorem d_G_mergeTwins_14 : decode prog_3_method_11_code 14 = .ok (.aload_n 0, 1) := by decide +kernel
theorem d_G_mergeTwins_15 : decode prog_3_method_11_code 15 = .ok (.getfield 9, 3) := by decide +kernel
theorem d_G_mergeTwins_18 : decode prog_3_method_11_code 18 = .ok (.iload_n 2, 1) := by decide +kernel
theorem d_G_mergeTwins_19 : decode prog_3_method_11_code 19 = .ok (.iaload, 1) := by decide +kernel
theorem d_G_mergeTwins_20 : decode prog_3_method_11_code 20 = .ok (.aload_n 0, 1) := by decide +kernel
theorem d_G_mergeTwins_21 : decode prog_3_method_11_code 21 = .ok (.getfield 15, 3) := by decide +kernel
theorem d_G_mergeTwins_24 : decode prog_3_method_11_code 24 = .ok (.iload_n 2, 1) := by decide +kernel
theorem d_G_mergeTwins_25 : decode prog_3_method_11_code 25 = .ok (.iaload, 1) := by decide +kernel
theorem d_G_mergeTwins_26 : decode prog_3_method_11_code 26 = .ok (.aload_n 0, 1) := by decide +kernel
theorem d_G_mergeTwins_27 : decode prog_3_method_11_code 27 = .ok (.getfield 18, 3) := by decide +kernel
theorem d_G_mergeTwins_30 : decode prog_3_method_11_code 30 = .ok (.iload_n 2, 1) := by decide +kernel
theorem d_G_mergeTwins_31 : decode prog_3_method_11_code 31 = .ok (.iaload, 1) := by decide +kernel
theorem d_G_mergeTwins_32 : decode prog_3_method_11_code 32 = .ok (.invokevirtual 37, 3) := by decide +kernel
theorem d_G_mergeTwins_35 : decode prog_3_method_11_code 35 = .ok (.istore_n 3, 1) := by decide +kernel
theorem d_G_mergeTwins_36 : decode prog_3_method_11_code 36 = .ok (.iload_n 3, 1) := by decide +kernel
theorem d_G_mergeTwins_37 : decode prog_3_method_11_code 37 = .ok (.iconst (-1), 1) := by decide +kernel
theorem d_G_mergeTwins_38 : decode prog_3_method_11_code 38 = .ok (.if_icmp .ne 38, 3) := by decide +kernel
theorem d_G_mergeTwins_41 : decode prog_3_method_11_code 41 = .ok (.aload_n 0, 1) := by decide +kernel
theorem d_G_mergeTwins_42 : decode prog_3_method_11_code 42 = .ok (.iload_n 1, 1) := by decide +kernel
theorem d_G_mergeTwins_43 : decode prog_3_method_11_code 43 = .ok (.aload_n 0, 1) := by decide +kernel
theorem d_G_mergeTwins_44 : decode prog_3_method_11_code 44 = .ok (.getfield 9, 3) := by decide +kernel
theorem d_G_mergeTwins_47 : decode prog_3_method_11_code 47 = .ok (.iload_n 2, 1) := by decide +kernel
theorem d_G_mergeTwins_48 : decode prog_3_method_11_code 48 = .ok (.iaload, 1) := by decide +kernel
theorem d_G_mergeTwins_49 : decode prog_3_method_11_code 49 = .ok (.aload_n 0, 1) := by decide +kernel
theorem d_G_mergeTwins_50 : decode prog_3_method_11_code 50 = .ok (.getfield 15, 3) := by decide +kernel
theorem d_G_mergeTwins_53 : decode prog_3_method_11_code 53 = .ok (.iload_n 2, 1) := by decide +kernel
theorem d_G_mergeTwins_54 : decode prog_3_method_11_code 54 = .ok (.iaload, 1) := by decide +kernel
theorem d_G_mergeTwins_55 : decode prog_3_method_11_code 55 = .ok (.aload_n 0, 1) := by decide +kernel
theorem d_G_mergeTwins_56 : decode prog_3_method_11_code 56 = .ok (.getfield 18, 3) := by decide +kernel
theorem d_G_mergeTwins_59 : decode prog_3_method_11_code 59 = .ok (.iload_n 2, 1) := by decide +kernel
theorem d_G_mergeTwins_60 : decode prog_3_method_11_code 60 = .ok (.iaload, 1) := by decide +kernel
theorem d_G_mergeTwins_61 : decode prog_3_method_11_code 61 = .ok (.aload_n 0, 1) := by decide +kernel
theorem d_G_mergeTwins_62 : decode prog_3_method_11_code 62 = .ok (.getfield 21, 3) := by decide +kernel
theorem d_G_mergeTwins_65 : decode prog_3_method_11_code 65 = .ok (.iload_n 2, 1) := by decide +kernel
theorem d_G_mergeTwins_66 : decode prog_3_method_11_code 66 = .ok (.iaload, 1) := by decide +kernel
theorem d_G_mergeTwins_67 : decode prog_3_method_11_code 67 = .ok (.invokevirtual 41, 3) := by decide +kernel
theorem d_G_mergeTwins_70 : decode prog_3_method_11_code 70 = .ok (.iinc 1 1, 3) := by decide +kernel
theorem d_G_mergeTwins_73 : decode prog_3_method_11_code 73 = .ok (.goto 20, 3) := by decide +kernel
theorem d_G_mergeTwins_76 : decode prog_3_method_11_code 76 = .ok (.aload_n 0, 1) := by decide +kernel
theorem d_G_mergeTwins_77 : decode prog_3_method_11_code 77 = .ok (.aload_n 0, 1) := by decide +kernel
theorem d_G_mergeTwins_78 : decode prog_3_method_11_code 78 = .ok (.getfield 21, 3) := by decide +kernel
theorem d_G_mergeTwins_81 : decode prog_3_method_11_code 81 = .ok (.iload_n 3, 1) := by decide +kernel
theorem d_G_mergeTwins_82 : decode prog_3_method_11_code 82 = .ok (.iaload, 1) := by decide +kernel
theorem d_G_mergeTwins_83 : decode prog_3_method_11_code 83 = .ok (.aload_n 0, 1) := by decide +kernel
theorem d_G_mergeTwins_84 : decode prog_3_method_11_code 84 = .ok (.getfield 21, 3) := by decide +kernel
theorem d_G_mergeTwins_87 : decode prog_3_method_11_code 87 = .ok (.iload_n 2, 1) := by decide +kernel
theorem d_G_mergeTwins_88 : decode prog_3_method_11_code 88 = .ok (.iaload, 1) := by decide +kernel
theorem d_G_mergeTwins_89 : decode prog_3_method_11_code 89 = .ok (.invokevirtual 58, 3) := by decide +kernel
theorem d_G_mergeTwins_92 : decode prog_3_method_11_code 92 = .ok (.pop, 1) := by decide +kernel
theorem d_G_mergeTwins_93 : decode prog_3_method_11_code 93 = .ok (.iinc 2 1, 3) := by decide +kernel
theorem d_G_mergeTwins_96 : decode prog_3_method_11_code 96 = .ok (.goto (-92), 3) := by decide +kernel
theorem d_G_mergeTwins_99 : decode prog_3_method_11_code 99 = .ok (.iload_n 1, 1) := by decide +kernel
theorem d_G_mergeTwins_100 : decode prog_3_method_11_code 100 = .ok (.aload_n 0, 1) := by decide +kernel
theorem d_G_mergeTwins_101 : decode prog_3_method_11_code 101 = .ok (.getfield 24, 3) := by decide +kernel
theorem d_G_mergeTwins_104 : decode prog_3_method_11_code 104 = .ok (.if_icmp .ge 7, 3) := by decide +kernel
theorem d_G_mergeTwins_107 : decode prog_3_method_11_code 107 = .ok (.iconst 1, 1) := by decide +kernel
theorem d_G_mergeTwins_108 : decode prog_3_method_11_code 108 = .ok (.goto 4, 3) := by decide +kernel
theorem d_G_mergeTwins_111 : decode prog_3_method_11_code 111 = .ok (.iconst 0, 1) := by decide +kernel
theorem d_G_mergeTwins_112 : decode prog_3_method_11_code 112 = .ok (.istore_n 2, 1) := by decide +kernel
theorem d_G_mergeTwins_113 : decode prog_3_method_11_code 113 = .ok (.aload_n 0, 1) := by decide +kernel
theorem d_G_mergeTwins_114 : decode prog_3_method_11_code 114 = .ok (.iload_n 1, 1) := by decide +kernel
theorem d_G_mergeTwins_115 : decode prog_3_method_11_code 115 = .ok (.putfield 24, 3) := by decide +kernel
theorem d_G_mergeTwins_118 : decode prog_3_method_11_code 118 = .ok (.iload_n 2, 1) := by decide +kernel
theorem d_G_mergeTwins_119 : decode prog_3_method_11_code 119 = .ok (.ireturn, 1) := by decide +kernel
theorem d_G_renumber_0 : decode prog_3_method_12_code 0 = .ok (.aload_n 0, 1) := by decide +kernel
theorem d_G_renumber_1 : decode prog_3_method_12_code 1 = .ok (.getfield 34, 3) := by decide +kernel
theorem d_G_renumber_4 : decode prog_3_method_12_code 4 = .ok (.iconst (-1), 1) := by decide +kernel
theorem d_G_renumber_5 : decode prog_3_method_12_code 5 = .ok (.invokestatic 62, 3) := by decide +kernel
theorem d_G_renumber_8 : decode prog_3_method_12_code 8 = .ok (.iconst 0, 1) := by decide +kernel
theorem d_G_renumber_9 : decode prog_3_method_12_code 9 = .ok (.istore_n 1, 1) := by decide +kernel
theorem d_G_renumber_10 : decode prog_3_method_12_code 10 = .ok (.iconst 0, 1) := by decide +kernel
theorem d_G_renumber_11 : decode prog_3_method_12_code 11 = .ok (.istore_n 2, 1) := by decide +kernel
theorem d_G_renumber_12 : decode prog_3_method_12_code 12 = .ok (.iload_n 2, 1) := by decide +kernel
theorem d_G_renumber_13 : decode prog_3_method_12_code 13 = .ok (.aload_n 0, 1) := by decide +kernel
theorem d_G_renumber_14 : decode prog_3_method_12_code 14 = .ok (.getfield 24, 3) := by decide +kernel
theorem d_G_renumber_17 : decode prog_3_method_12_code 17 = .ok (.if_icmp .ge 39, 3) := by decide +kernel
theorem d_G_renumber_20 : decode prog_3_method_12_code 20 = .ok (.aload_n 0, 1) := by decide +kernel
theorem d_G_renumber_21 : decode prog_3_method_12_code 21 = .ok (.getfield 34, 3) := by decide +kernel
theorem d_G_renumber_24 : decode prog_3_method_12_code 24 = .ok (.aload_n 0, 1) := by decide +kernel
theorem d_G_renumber_25 : decode prog_3_method_12_code 25 = .ok (.getfield 21, 3) := by decide +kernel
theorem d_G_renumber_28 : decode prog_3_method_12_code 28 = .ok (.iload_n 2, 1) := by decide +kernel
theorem d_G_renumber_29 : decode prog_3_method_12_code 29 = .ok (.iaload, 1) := by decide +kernel
theorem d_G_renumber_30 : decode prog_3_method_12_code 30 = .ok (.iaload, 1) := by decide +kernel
theorem d_G_renumber_31 : decode prog_3_method_12_code 31 = .ok (.iconst (-1), 1) := by decide +kernel
theorem d_G_renumber_32 : decode prog_3_method_12_code 32 = .ok (.if_icmp .ne 18, 3) := by decide +kernel
theorem d_G_renumber_35 : decode prog_3_method_12_code 35 = .ok (.aload_n 0, 1) := by decide +kernel
theorem d_G_renumber_36 : decode prog_3_method_12_code 36 = .ok (.getfield 34, 3) := by decide +kernel
theorem d_G_renumber_39 : decode prog_3_method_12_code 39 = .ok (.aload_n 0, 1) := by decide +kernel
theorem d_G_renumber_40 : decode prog_3_method_12_code 40 = .ok (.getfield 21, 3) := by decide +kernel
theorem d_G_renumber_43 : decode prog_3_method_12_code 43 = .ok (.iload_n 2, 1) := by decide +kernel
theorem d_G_renumber_44 : decode prog_3_method_12_code 44 = .ok (.iaload, 1) := by decide +kernel
theorem d_G_renumber_45 : decode prog_3_method_12_code 45 = .ok (.iload_n 1, 1) := by decide +kernel
theorem d_G_renumber_46 : decode prog_3_method_12_code 46 = .ok (.iastore, 1) := by decide +kernel
theorem d_G_renumber_47 : decode prog_3_method_12_code 47 = .ok (.iinc 1 1, 3) := by decide +kernel
theorem d_G_renumber_50 : decode prog_3_method_12_code 50 = .ok (.iinc 2 1, 3) := by decide +kernel
theorem d_G_renumber_53 : decode prog_3_method_12_code 53 = .ok (.goto (-41), 3) := by decide +kernel
theorem d_G_renumber_56 : decode prog_3_method_12_code 56 = .ok (.aload_n 0, 1) := by decide +kernel
theorem d_G_renumber_57 : decode prog_3_method_12_code 57 = .ok (.getfield 34, 3) := by decide +kernel
theorem d_G_renumber_60 : decode prog_3_method_12_code 60 = .ok (.iconst 0, 1) := by decide +kernel
theorem d_G_renumber_61 : decode prog_3_method_12_code 61 = .ok (.aload_n 0, 1) := by decide +kernel
theorem d_G_renumber_62 : decode prog_3_method_12_code 62 = .ok (.getfield 31, 3) := by decide +kernel
theorem d_G_renumber_65 : decode prog_3_method_12_code 65 = .ok (.iconst 0, 1) := by decide +kernel
theorem d_G_renumber_66 : decode prog_3_method_12_code 66 = .ok (.bipush 40, 2) := by decide +kernel
theorem d_G_renumber_68 : decode prog_3_method_12_code 68 = .ok (.invokestatic 68, 3) := by decide +kernel
theorem d_G_renumber_71 : decode prog_3_method_12_code 71 = .ok (.aload_n 0, 1) := by decide +kernel
theorem d_G_renumber_72 : decode prog_3_method_12_code 72 = .ok (.invokevirtual 48, 3) := by decide +kernel
theorem d_G_renumber_75 : decode prog_3_method_12_code 75 = .ok (.aload_n 0, 1) := by decide +kernel
theorem d_G_renumber_76 : decode prog_3_method_12_code 76 = .ok (.iload_n 1, 1) := by decide +kernel
theorem d_G_renumber_77 : decode prog_3_method_12_code 77 = .ok (.putfield 28, 3) := by decide +kernel
theorem d_G_renumber_80 : decode prog_3_method_12_code 80 = .ok (.aload_n 0, 1) := by decide +kernel
theorem d_G_renumber_81 : decode prog_3_method_12_code 81 = .ok (.invokevirtual 45, 3) := by decide +kernel
theorem d_G_renumber_84 : decode prog_3_method_12_code 84 = .ok (.return_, 1) := by decide +kernel
theorem d_R_fitFrom_0 : decode prog_4_method_4_code 0 = .ok (.iload_n 2, 1) := by decide +kernel
theorem d_R_fitFrom_1 : decode prog_4_method_4_code 1 = .ok (.aload_n 1, 1) := by decide +kernel
theorem d_R_fitFrom_2 : decode prog_4_method_4_code 2 = .ok (.getfield 59, 3) := by decide +kernel
theorem d_R_fitFrom_5 : decode prog_4_method_4_code 5 = .ok (.if_icmp .ge 9, 3) := by decide +kernel
theorem d_R_fitFrom_8 : decode prog_4_method_4_code 8 = .ok (.iload_n 2, 1) := by decide +kernel
theorem d_R_fitFrom_9 : decode prog_4_method_4_code 9 = .ok (.bipush 7, 2) := by decide +kernel
theorem d_R_fitFrom_11 : decode prog_4_method_4_code 11 = .ok (.if_icmp .lt 9, 3) := by decide +kernel
theorem d_R_fitFrom_14 : decode prog_4_method_4_code 14 = .ok (.aload_n 0, 1) := by decide +kernel
theorem d_R_fitFrom_15 : decode prog_4_method_4_code 15 = .ok (.aload_n 1, 1) := by decide +kernel
theorem d_R_fitFrom_16 : decode prog_4_method_4_code 16 = .ok (.invokevirtual 64, 3) := by decide +kernel
theorem d_R_fitFrom_19 : decode prog_4_method_4_code 19 = .ok (.ireturn, 1) := by decide +kernel
theorem d_R_fitFrom_20 : decode prog_4_method_4_code 20 = .ok (.aload_n 1, 1) := by decide +kernel
theorem d_R_fitFrom_21 : decode prog_4_method_4_code 21 = .ok (.getfield 68, 3) := by decide +kernel
theorem d_R_fitFrom_24 : decode prog_4_method_4_code 24 = .ok (.iload_n 2, 1) := by decide +kernel
theorem d_R_fitFrom_25 : decode prog_4_method_4_code 25 = .ok (.iaload, 1) := by decide +kernel
theorem d_R_fitFrom_26 : decode prog_4_method_4_code 26 = .ok (.istore_n 3, 1) := by decide +kernel
theorem d_R_fitFrom_27 : decode prog_4_method_4_code 27 = .ok (.iload_n 3, 1) := by decide +kernel
theorem d_R_fitFrom_28 : decode prog_4_method_4_code 28 = .ok (.invokestatic 71, 3) := by decide +kernel
theorem d_R_fitFrom_31 : decode prog_4_method_4_code 31 = .ok (.ifCond .eq 68, 3) := by decide +kernel
theorem d_R_fitFrom_34 : decode prog_4_method_4_code 34 = .ok (.aload_n 1, 1) := by decide +kernel
theorem d_R_fitFrom_35 : decode prog_4_method_4_code 35 = .ok (.getfield 77, 3) := by decide +kernel
theorem d_R_fitFrom_38 : decode prog_4_method_4_code 38 = .ok (.iload_n 2, 1) := by decide +kernel
theorem d_R_fitFrom_39 : decode prog_4_method_4_code 39 = .ok (.baload, 1) := by decide +kernel
theorem d_R_fitFrom_40 : decode prog_4_method_4_code 40 = .ok (.ifCond .eq 21, 3) := by decide +kernel
theorem d_R_fitFrom_43 : decode prog_4_method_4_code 43 = .ok (.aload_n 0, 1) := by decide +kernel
theorem d_R_fitFrom_44 : decode prog_4_method_4_code 44 = .ok (.getfield 29, 3) := by decide +kernel
theorem d_R_fitFrom_47 : decode prog_4_method_4_code 47 = .ok (.getfield 81, 3) := by decide +kernel
theorem d_R_fitFrom_50 : decode prog_4_method_4_code 50 = .ok (.iload_n 3, 1) := by decide +kernel
theorem d_R_fitFrom_51 : decode prog_4_method_4_code 51 = .ok (.bipush 97, 2) := by decide +kernel
theorem d_R_fitFrom_53 : decode prog_4_method_4_code 53 = .ok (.isub, 1) := by decide +kernel
theorem d_R_fitFrom_54 : decode prog_4_method_4_code 54 = .ok (.aload_n 0, 1) := by decide +kernel
theorem d_R_fitFrom_55 : decode prog_4_method_4_code 55 = .ok (.getfield 15, 3) := by decide +kernel
theorem d_R_fitFrom_58 : decode prog_4_method_4_code 58 = .ok (.iload_n 2, 1) := by decide +kernel
theorem d_R_fitFrom_59 : decode prog_4_method_4_code 59 = .ok (.iaload, 1) := by decide +kernel
theorem d_R_fitFrom_60 : decode prog_4_method_4_code 60 = .ok (.iastore, 1) := by decide +kernel
theorem d_R_fitFrom_61 : decode prog_4_method_4_code 61 = .ok (.aload_n 0, 1) := by decide +kernel
theorem d_R_fitFrom_62 : decode prog_4_method_4_code 62 = .ok (.getfield 29, 3) := by decide +kernel
theorem d_R_fitFrom_65 : decode prog_4_method_4_code 65 = .ok (.getfield 81, 3) := by decide +kernel
theorem d_R_fitFrom_68 : decode prog_4_method_4_code 68 = .ok (.iload_n 3, 1) := by decide +kernel
theorem d_R_fitFrom_69 : decode prog_4_method_4_code 69 = .ok (.bipush 97, 2) := by decide +kernel
theorem d_R_fitFrom_71 : decode prog_4_method_4_code 71 = .ok (.isub, 1) := by decide +kernel
theorem d_R_fitFrom_72 : decode prog_4_method_4_code 72 = .ok (.iaload, 1) := by decide +kernel
theorem d_R_fitFrom_73 : decode prog_4_method_4_code 73 = .ok (.aload_n 0, 1) := by decide +kernel
theorem d_R_fitFrom_74 : decode prog_4_method_4_code 74 = .ok (.getfield 15, 3) := by decide +kernel
theorem d_R_fitFrom_77 : decode prog_4_method_4_code 77 = .ok (.iload_n 2, 1) := by decide +kernel
theorem d_R_fitFrom_78 : decode prog_4_method_4_code 78 = .ok (.iaload, 1) := by decide +kernel
theorem d_R_fitFrom_79 : decode prog_4_method_4_code 79 = .ok (.if_icmp .ne 14, 3) := by decide +kernel
theorem d_R_fitFrom_82 : decode prog_4_method_4_code 82 = .ok (.aload_n 0, 1) := by decide +kernel
theorem d_R_fitFrom_83 : decode prog_4_method_4_code 83 = .ok (.aload_n 1, 1) := by decide +kernel
theorem d_R_fitFrom_84 : decode prog_4_method_4_code 84 = .ok (.iload_n 2, 1) := by decide +kernel
theorem d_R_fitFrom_85 : decode prog_4_method_4_code 85 = .ok (.iconst 1, 1) := by decide +kernel
theorem d_R_fitFrom_86 : decode prog_4_method_4_code 86 = .ok (.iadd, 1) := by decide +kernel
theorem d_R_fitFrom_87 : decode prog_4_method_4_code 87 = .ok (.invokevirtual 45, 3) := by decide +kernel
theorem d_R_fitFrom_90 : decode prog_4_method_4_code 90 = .ok (.ifCond .eq 7, 3) := by decide +kernel
theorem d_R_fitFrom_93 : decode prog_4_method_4_code 93 = .ok (.iconst 1, 1) := by decide +kernel
theorem d_R_fitFrom_94 : decode prog_4_method_4_code 94 = .ok (.goto 4, 3) := by decide +kernel
theorem d_R_fitFrom_97 : decode prog_4_method_4_code 97 = .ok (.iconst 0, 1) := by decide +kernel
theorem d_R_fitFrom_98 : decode prog_4_method_4_code 98 = .ok (.ireturn, 1) := by decide +kernel
theorem d_R_fitFrom_99 : decode prog_4_method_4_code 99 = .ok (.aload_n 0, 1) := by decide +kernel
theorem d_R_fitFrom_100 : decode prog_4_method_4_code 100 = .ok (.getfield 15, 3) := by decide +kernel
theorem d_R_fitFrom_103 : decode prog_4_method_4_code 103 = .ok (.iload_n 2, 1) := by decide +kernel
theorem d_R_fitFrom_104 : decode prog_4_method_4_code 104 = .ok (.iaload, 1) := by decide +kernel
theorem d_R_fitFrom_105 : decode prog_4_method_4_code 105 = .ok (.istore 4, 2) := by decide +kernel
theorem d_R_fitFrom_107 : decode prog_4_method_4_code 107 = .ok (.aload_n 0, 1) := by decide +kernel
theorem d_R_fitFrom_108 : decode prog_4_method_4_code 108 = .ok (.getfield 22, 3) := by decide +kernel
theorem d_R_fitFrom_111 : decode prog_4_method_4_code 111 = .ok (.iload 4, 2) := by decide +kernel
theorem d_R_fitFrom_113 : decode prog_4_method_4_code 113 = .ok (.iaload, 1) := by decide +kernel
theorem d_R_fitFrom_114 : decode prog_4_method_4_code 114 = .ok (.istore 5, 2) := by decide +kernel
theorem d_R_fitFrom_116 : decode prog_4_method_4_code 116 = .ok (.iload 5, 2) := by decide +kernel
theorem d_R_fitFrom_118 : decode prog_4_method_4_code 118 = .ok (.aload_n 0, 1) := by decide +kernel
theorem d_R_fitFrom_119 : decode prog_4_method_4_code 119 = .ok (.getfield 22, 3) := by decide +kernel
theorem d_R_fitFrom_122 : decode prog_4_method_4_code 122 = .ok (.iload 4, 2) := by decide +kernel
theorem d_R_fitFrom_124 : decode prog_4_method_4_code 124 = .ok (.iconst 1, 1) := by decide +kernel
theorem d_R_fitFrom_125 : decode prog_4_method_4_code 125 = .ok (.iadd, 1) := by decide +kernel
theorem d_R_fitFrom_126 : decode prog_4_method_4_code 126 = .ok (.iaload, 1) := by decide +kernel
theorem d_R_fitFrom_127 : decode prog_4_method_4_code 127 = .ok (.if_icmp .ge 54, 3) := by decide +kernel
theorem d_R_fitFrom_130 : decode prog_4_method_4_code 130 = .ok (.aload_n 0, 1) := by decide +kernel
theorem d_R_fitFrom_131 : decode prog_4_method_4_code 131 = .ok (.getfield 25, 3) := by decide +kernel
theorem d_R_fitFrom_134 : decode prog_4_method_4_code 134 = .ok (.getfield 86, 3) := by decide +kernel
theorem d_R_fitFrom_137 : decode prog_4_method_4_code 137 = .ok (.aload_n 0, 1) := by decide +kernel
theorem d_R_fitFrom_138 : decode prog_4_method_4_code 138 = .ok (.getfield 19, 3) := by decide +kernel
theorem d_R_fitFrom_141 : decode prog_4_method_4_code 141 = .ok (.iload 5, 2) := by decide +kernel
theorem d_R_fitFrom_143 : decode prog_4_method_4_code 143 = .ok (.iaload, 1) := by decide +kernel
theorem d_R_fitFrom_144 : decode prog_4_method_4_code 144 = .ok (.iaload, 1) := by decide +kernel
theorem d_R_fitFrom_145 : decode prog_4_method_4_code 145 = .ok (.iload_n 3, 1) := by decide +kernel
theorem d_R_fitFrom_146 : decode prog_4_method_4_code 146 = .ok (.if_icmp .ne 29, 3) := by decide +kernel
theorem d_R_fitFrom_149 : decode prog_4_method_4_code 149 = .ok (.aload_n 0, 1) := by decide +kernel
theorem d_R_fitFrom_150 : decode prog_4_method_4_code 150 = .ok (.aload_n 1, 1) := by decide +kernel
theorem d_R_fitFrom_151 : decode prog_4_method_4_code 151 = .ok (.iload_n 2, 1) := by decide +kernel
theorem d_R_fitFrom_152 : decode prog_4_method_4_code 152 = .ok (.aload_n 0, 1) := by decide +kernel
theorem d_R_fitFrom_153 : decode prog_4_method_4_code 153 = .ok (.getfield 19, 3) := by decide +kernel
theorem d_R_fitFrom_156 : decode prog_4_method_4_code 156 = .ok (.iload 5, 2) := by decide +kernel
theorem d_R_fitFrom_158 : decode prog_4_method_4_code 158 = .ok (.iaload, 1) := by decide +kernel
theorem d_R_fitFrom_159 : decode prog_4_method_4_code 159 = .ok (.invokevirtual 89, 3) := by decide +kernel
theorem d_R_fitFrom_162 : decode prog_4_method_4_code 162 = .ok (.aload_n 0, 1) := by decide +kernel
theorem d_R_fitFrom_163 : decode prog_4_method_4_code 163 = .ok (.aload_n 1, 1) := by decide +kernel
theorem d_R_fitFrom_164 : decode prog_4_method_4_code 164 = .ok (.iload_n 2, 1) := by decide +kernel
theorem d_R_fitFrom_165 : decode prog_4_method_4_code 165 = .ok (.iconst 1, 1) := by decide +kernel
theorem d_R_fitFrom_166 : decode prog_4_method_4_code 166 = .ok (.iadd, 1) := by decide +kernel
theorem d_R_fitFrom_167 : decode prog_4_method_4_code 167 = .ok (.invokevirtual 45, 3) := by decide +kernel
theorem d_R_fitFrom_170 : decode prog_4_method_4_code 170 = .ok (.ifCond .ne 5, 3) := by decide +kernel
theorem d_R_fitFrom_173 : decode prog_4_method_4_code 173 = .ok (.iconst 0, 1) := by decide +kernel
theorem d_R_fitFrom_174 : decode prog_4_method_4_code 174 = .ok (.ireturn, 1) := by decide +kernel
theorem d_R_fitFrom_175 : decode prog_4_method_4_code 175 = .ok (.iinc 5 1, 3) := by decide +kernel
theorem d_R_fitFrom_178 : decode prog_4_method_4_code 178 = .ok (.goto (-62), 3) := by decide +kernel
theorem d_R_fitFrom_181 : decode prog_4_method_4_code 181 = .ok (.iconst 1, 1) := by decide +kernel
theorem d_R_fitFrom_182 : decode prog_4_method_4_code 182 = .ok (.ireturn, 1) := by decide +kernel
theorem d_R_joinSides_0 : decode prog_4_method_6_code 0 = .ok (.aload_n 0, 1) := by decide +kernel
theorem d_R_joinSides_1 : decode prog_4_method_6_code 1 = .ok (.getfield 29, 3) := by decide +kernel
theorem d_R_joinSides_4 : decode prog_4_method_6_code 4 = .ok (.aload_n 1, 1) := by decide +kernel
theorem d_R_joinSides_5 : decode prog_4_method_6_code 5 = .ok (.getfield 68, 3) := by decide +kernel
theorem d_R_joinSides_8 : decode prog_4_method_6_code 8 = .ok (.aload_n 1, 1) := by decide +kernel
theorem d_R_joinSides_9 : decode prog_4_method_6_code 9 = .ok (.getfield 59, 3) := by decide +kernel
theorem d_R_joinSides_12 : decode prog_4_method_6_code 12 = .ok (.iconst 1, 1) := by decide +kernel
theorem d_R_joinSides_13 : decode prog_4_method_6_code 13 = .ok (.iadd, 1) := by decide +kernel
theorem d_R_joinSides_14 : decode prog_4_method_6_code 14 = .ok (.aload_n 1, 1) := by decide +kernel
theorem d_R_joinSides_15 : decode prog_4_method_6_code 15 = .ok (.getfield 68, 3) := by decide +kernel
theorem d_R_joinSides_18 : decode prog_4_method_6_code 18 = .ok (.arraylength, 1) := by decide +kernel
theorem d_R_joinSides_19 : decode prog_4_method_6_code 19 = .ok (.iconst 1, 1) := by decide +kernel
theorem d_R_joinSides_20 : decode prog_4_method_6_code 20 = .ok (.invokevirtual 106, 3) := by decide +kernel
theorem d_R_joinSides_23 : decode prog_4_method_6_code 23 = .ok (.istore_n 2, 1) := by decide +kernel
theorem d_R_joinSides_24 : decode prog_4_method_6_code 24 = .ok (.iload_n 2, 1) := by decide +kernel
theorem d_R_joinSides_25 : decode prog_4_method_6_code 25 = .ok (.iconst (-1), 1) := by decide +kernel
theorem d_R_joinSides_26 : decode prog_4_method_6_code 26 = .ok (.if_icmp .ne 5, 3) := by decide +kernel
theorem d_R_joinSides_29 : decode prog_4_method_6_code 29 = .ok (.iconst 0, 1) := by decide +kernel
theorem d_R_joinSides_30 : decode prog_4_method_6_code 30 = .ok (.ireturn, 1) := by decide +kernel
theorem d_R_joinSides_31 : decode prog_4_method_6_code 31 = .ok (.aload_n 0, 1) := by decide +kernel
theorem d_R_joinSides_32 : decode prog_4_method_6_code 32 = .ok (.getfield 25, 3) := by decide +kernel
theorem d_R_joinSides_35 : decode prog_4_method_6_code 35 = .ok (.aload_n 0, 1) := by decide +kernel
theorem d_R_joinSides_36 : decode prog_4_method_6_code 36 = .ok (.getfield 15, 3) := by decide +kernel
theorem d_R_joinSides_39 : decode prog_4_method_6_code 39 = .ok (.iconst 0, 1) := by decide +kernel
theorem d_R_joinSides_40 : decode prog_4_method_6_code 40 = .ok (.iaload, 1) := by decide +kernel
theorem d_R_joinSides_41 : decode prog_4_method_6_code 41 = .ok (.iload_n 2, 1) := by decide +kernel
theorem d_R_joinSides_42 : decode prog_4_method_6_code 42 = .ok (.invokevirtual 110, 3) := by decide +kernel
theorem d_R_joinSides_45 : decode prog_4_method_6_code 45 = .ok (.ifCond .eq 8, 3) := by decide +kernel
theorem d_R_joinSides_48 : decode prog_4_method_6_code 48 = .ok (.aload_n 0, 1) := by decide +kernel
theorem d_R_joinSides_49 : decode prog_4_method_6_code 49 = .ok (.iconst 1, 1) := by decide +kernel
theorem d_R_joinSides_50 : decode prog_4_method_6_code 50 = .ok (.putfield 9, 3) := by decide +kernel
theorem d_R_joinSides_53 : decode prog_4_method_6_code 53 = .ok (.iconst 1, 1) := by decide +kernel
theorem d_R_joinSides_54 : decode prog_4_method_6_code 54 = .ok (.ireturn, 1) := by decide +kernel
theorem d_R_seatParts_0 : decode prog_4_method_5_code 0 = .ok (.aload_n 1, 1) := by decide +kernel
theorem d_R_seatParts_1 : decode prog_4_method_5_code 1 = .ok (.getfield 68, 3) := by decide +kernel
theorem d_R_seatParts_4 : decode prog_4_method_5_code 4 = .ok (.iload_n 2, 1) := by decide +kernel
theorem d_R_seatParts_5 : decode prog_4_method_5_code 5 = .ok (.iaload, 1) := by decide +kernel
theorem d_R_seatParts_6 : decode prog_4_method_5_code 6 = .ok (.invokestatic 93, 3) := by decide +kernel
theorem d_R_seatParts_9 : decode prog_4_method_5_code 9 = .ok (.istore 4, 2) := by decide +kernel
theorem d_R_seatParts_11 : decode prog_4_method_5_code 11 = .ok (.iload 4, 2) := by decide +kernel
theorem d_R_seatParts_13 : decode prog_4_method_5_code 13 = .ok (.ifCond .le 20, 3) := by decide +kernel
theorem d_R_seatParts_16 : decode prog_4_method_5_code 16 = .ok (.aload_n 0, 1) := by decide +kernel
theorem d_R_seatParts_17 : decode prog_4_method_5_code 17 = .ok (.getfield 15, 3) := by decide +kernel
theorem d_R_seatParts_20 : decode prog_4_method_5_code 20 = .ok (.iload_n 2, 1) := by decide +kernel
theorem d_R_seatParts_21 : decode prog_4_method_5_code 21 = .ok (.iconst 1, 1) := by decide +kernel
theorem d_R_seatParts_22 : decode prog_4_method_5_code 22 = .ok (.iadd, 1) := by decide +kernel
theorem d_R_seatParts_23 : decode prog_4_method_5_code 23 = .ok (.aload_n 0, 1) := by decide +kernel
theorem d_R_seatParts_24 : decode prog_4_method_5_code 24 = .ok (.getfield 25, 3) := by decide +kernel
theorem d_R_seatParts_27 : decode prog_4_method_5_code 27 = .ok (.getfield 97, 3) := by decide +kernel
theorem d_R_seatParts_30 : decode prog_4_method_5_code 30 = .ok (.iload_n 3, 1) := by decide +kernel
theorem d_R_seatParts_31 : decode prog_4_method_5_code 31 = .ok (.iaload, 1) := by decide +kernel
theorem d_R_seatParts_32 : decode prog_4_method_5_code 32 = .ok (.iastore, 1) := by decide +kernel
theorem d_R_seatParts_33 : decode prog_4_method_5_code 33 = .ok (.iload 4, 2) := by decide +kernel
theorem d_R_seatParts_35 : decode prog_4_method_5_code 35 = .ok (.iconst 1, 1) := by decide +kernel
theorem d_R_seatParts_36 : decode prog_4_method_5_code 36 = .ok (.if_icmp .le 23, 3) := by decide +kernel
theorem d_R_seatParts_39 : decode prog_4_method_5_code 39 = .ok (.aload_n 0, 1) := by decide +kernel
theorem d_R_seatParts_40 : decode prog_4_method_5_code 40 = .ok (.getfield 15, 3) := by decide +kernel
theorem d_R_seatParts_43 : decode prog_4_method_5_code 43 = .ok (.aload_n 1, 1) := by decide +kernel
theorem d_R_seatParts_44 : decode prog_4_method_5_code 44 = .ok (.getfield 100, 3) := by decide +kernel
theorem d_R_seatParts_47 : decode prog_4_method_5_code 47 = .ok (.iload_n 2, 1) := by decide +kernel
theorem d_R_seatParts_48 : decode prog_4_method_5_code 48 = .ok (.iaload, 1) := by decide +kernel
theorem d_R_seatParts_49 : decode prog_4_method_5_code 49 = .ok (.aload_n 0, 1) := by decide +kernel
theorem d_R_seatParts_50 : decode prog_4_method_5_code 50 = .ok (.getfield 25, 3) := by decide +kernel
theorem d_R_seatParts_53 : decode prog_4_method_5_code 53 = .ok (.getfield 103, 3) := by decide +kernel
theorem d_R_seatParts_56 : decode prog_4_method_5_code 56 = .ok (.iload_n 3, 1) := by decide +kernel
theorem d_R_seatParts_57 : decode prog_4_method_5_code 57 = .ok (.iaload, 1) := by decide +kernel
theorem d_R_seatParts_58 : decode prog_4_method_5_code 58 = .ok (.iastore, 1) := by decide +kernel
theorem d_R_seatParts_59 : decode prog_4_method_5_code 59 = .ok (.return_, 1) := by decide +kernel
theorem d_G_sizeOf_0 : decode prog_3_method_5_code 0 = .ok (.iconst 0, 1) := by decide +kernel
theorem d_G_sizeOf_1 : decode prog_3_method_5_code 1 = .ok (.istore_n 2, 1) := by decide +kernel
theorem d_G_sizeOf_2 : decode prog_3_method_5_code 2 = .ok (.iconst 0, 1) := by decide +kernel
theorem d_G_sizeOf_3 : decode prog_3_method_5_code 3 = .ok (.istore_n 3, 1) := by decide +kernel
theorem d_G_sizeOf_4 : decode prog_3_method_5_code 4 = .ok (.iload_n 3, 1) := by decide +kernel
theorem d_G_sizeOf_5 : decode prog_3_method_5_code 5 = .ok (.aload_n 0, 1) := by decide +kernel
theorem d_G_sizeOf_6 : decode prog_3_method_5_code 6 = .ok (.getfield 24, 3) := by decide +kernel
theorem d_G_sizeOf_9 : decode prog_3_method_5_code 9 = .ok (.if_icmp .ge 22, 3) := by decide +kernel
theorem d_G_sizeOf_12 : decode prog_3_method_5_code 12 = .ok (.aload_n 0, 1) := by decide +kernel
theorem d_G_sizeOf_13 : decode prog_3_method_5_code 13 = .ok (.getfield 21, 3) := by decide +kernel
theorem d_G_sizeOf_16 : decode prog_3_method_5_code 16 = .ok (.iload_n 3, 1) := by decide +kernel
theorem d_G_sizeOf_17 : decode prog_3_method_5_code 17 = .ok (.iaload, 1) := by decide +kernel
theorem d_G_sizeOf_18 : decode prog_3_method_5_code 18 = .ok (.iload_n 1, 1) := by decide +kernel
theorem d_G_sizeOf_19 : decode prog_3_method_5_code 19 = .ok (.if_icmp .ne 6, 3) := by decide +kernel
theorem d_G_sizeOf_22 : decode prog_3_method_5_code 22 = .ok (.iinc 2 1, 3) := by decide +kernel
theorem d_G_sizeOf_25 : decode prog_3_method_5_code 25 = .ok (.iinc 3 1, 3) := by decide +kernel
theorem d_G_sizeOf_28 : decode prog_3_method_5_code 28 = .ok (.goto (-24), 3) := by decide +kernel
theorem d_G_sizeOf_31 : decode prog_3_method_5_code 31 = .ok (.iload_n 2, 1) := by decide +kernel
theorem d_G_sizeOf_32 : decode prog_3_method_5_code 32 = .ok (.ireturn, 1) := by decide +kernel
theorem d_A_fill_JJ_0 : decode prog_20_method_101_code 0 = .ok (.iconst 0, 1) := by decide +kernel
theorem d_A_fill_JJ_1 : decode prog_20_method_101_code 1 = .ok (.istore_n 3, 1) := by decide +kernel
theorem d_A_fill_JJ_2 : decode prog_20_method_101_code 2 = .ok (.aload_n 0, 1) := by decide +kernel
theorem d_A_fill_JJ_3 : decode prog_20_method_101_code 3 = .ok (.arraylength, 1) := by decide +kernel
theorem d_A_fill_JJ_4 : decode prog_20_method_101_code 4 = .ok (.istore 4, 2) := by decide +kernel
theorem d_A_fill_JJ_6 : decode prog_20_method_101_code 6 = .ok (.iload_n 3, 1) := by decide +kernel
theorem d_A_fill_JJ_7 : decode prog_20_method_101_code 7 = .ok (.iload 4, 2) := by decide +kernel
theorem d_A_fill_JJ_9 : decode prog_20_method_101_code 9 = .ok (.if_icmp .ge 13, 3) := by decide +kernel
theorem d_A_fill_JJ_12 : decode prog_20_method_101_code 12 = .ok (.aload_n 0, 1) := by decide +kernel
theorem d_A_fill_JJ_13 : decode prog_20_method_101_code 13 = .ok (.iload_n 3, 1) := by decide +kernel
theorem d_A_fill_JJ_14 : decode prog_20_method_101_code 14 = .ok (.lload_n 1, 1) := by decide +kernel
theorem d_A_fill_JJ_15 : decode prog_20_method_101_code 15 = .ok (.lastore, 1) := by decide +kernel
theorem d_A_fill_JJ_16 : decode prog_20_method_101_code 16 = .ok (.iinc 3 1, 3) := by decide +kernel
theorem d_A_fill_JJ_19 : decode prog_20_method_101_code 19 = .ok (.goto (-13), 3) := by decide +kernel
theorem d_A_fill_JJ_22 : decode prog_20_method_101_code 22 = .ok (.return_, 1) := by decide +kernel
