theorem d_M_init_0 : decode prog_10_method_1_code 0 = .ok (.aload_n 0, 1) := by decide +kernel
theorem d_M_init_1 : decode prog_10_method_1_code 1 = .ok (.invokespecial 1, 3) := by decide +kernel
theorem d_M_init_4 : decode prog_10_method_1_code 4 = .ok (.aload_n 0, 1) := by decide +kernel
theorem d_M_init_5 : decode prog_10_method_1_code 5 = .ok (.bipush 60, 2) := by decide +kernel
theorem d_M_init_7 : decode prog_10_method_1_code 7 = .ok (.newarray .int, 2) := by decide +kernel
theorem d_M_init_9 : decode prog_10_method_1_code 9 = .ok (.putfield 7, 3) := by decide +kernel
theorem d_M_init_12 : decode prog_10_method_1_code 12 = .ok (.aload_n 0, 1) := by decide +kernel
theorem d_M_init_13 : decode prog_10_method_1_code 13 = .ok (.iconst (-1), 1) := by decide +kernel
theorem d_M_init_14 : decode prog_10_method_1_code 14 = .ok (.putfield 13, 3) := by decide +kernel
theorem d_M_init_17 : decode prog_10_method_1_code 17 = .ok (.aload_n 0, 1) := by decide +kernel
theorem d_M_init_18 : decode prog_10_method_1_code 18 = .ok (.bipush 84, 2) := by decide +kernel
theorem d_M_init_20 : decode prog_10_method_1_code 20 = .ok (.newarray .int, 2) := by decide +kernel
theorem d_M_init_22 : decode prog_10_method_1_code 22 = .ok (.putfield 17, 3) := by decide +kernel
theorem d_M_init_25 : decode prog_10_method_1_code 25 = .ok (.aload_n 0, 1) := by decide +kernel
theorem d_M_init_26 : decode prog_10_method_1_code 26 = .ok (.bipush 12, 2) := by decide +kernel
theorem d_M_init_28 : decode prog_10_method_1_code 28 = .ok (.newarray .int, 2) := by decide +kernel
theorem d_M_init_30 : decode prog_10_method_1_code 30 = .ok (.putfield 20, 3) := by decide +kernel
theorem d_M_init_33 : decode prog_10_method_1_code 33 = .ok (.aload_n 0, 1) := by decide +kernel
theorem d_M_init_34 : decode prog_10_method_1_code 34 = .ok (.bipush 104, 2) := by decide +kernel
theorem d_M_init_36 : decode prog_10_method_1_code 36 = .ok (.newarray .int, 2) := by decide +kernel
theorem d_M_init_38 : decode prog_10_method_1_code 38 = .ok (.putfield 23, 3) := by decide +kernel
theorem d_M_init_41 : decode prog_10_method_1_code 41 = .ok (.aload_n 0, 1) := by decide +kernel
theorem d_M_init_42 : decode prog_10_method_1_code 42 = .ok (.bipush 104, 2) := by decide +kernel
theorem d_M_init_44 : decode prog_10_method_1_code 44 = .ok (.newarray .int, 2) := by decide +kernel
theorem d_M_init_46 : decode prog_10_method_1_code 46 = .ok (.putfield 26, 3) := by decide +kernel
theorem d_M_init_49 : decode prog_10_method_1_code 49 = .ok (.aload_n 0, 1) := by decide +kernel
theorem d_M_init_50 : decode prog_10_method_1_code 50 = .ok (.bipush 104, 2) := by decide +kernel
theorem d_M_init_52 : decode prog_10_method_1_code 52 = .ok (.newarray .int, 2) := by decide +kernel
theorem d_M_init_54 : decode prog_10_method_1_code 54 = .ok (.putfield 29, 3) := by decide +kernel
theorem d_M_init_57 : decode prog_10_method_1_code 57 = .ok (.aload_n 0, 1) := by decide +kernel
theorem d_M_init_58 : decode prog_10_method_1_code 58 = .ok (.bipush 104, 2) := by decide +kernel
theorem d_M_init_60 : decode prog_10_method_1_code 60 = .ok (.newarray .int, 2) := by decide +kernel
theorem d_M_init_62 : decode prog_10_method_1_code 62 = .ok (.putfield 32, 3) := by decide +kernel
theorem d_M_init_65 : decode prog_10_method_1_code 65 = .ok (.aload_n 0, 1) := by decide +kernel
theorem d_M_init_66 : decode prog_10_method_1_code 66 = .ok (.bipush 104, 2) := by decide +kernel
theorem d_M_init_68 : decode prog_10_method_1_code 68 = .ok (.newarray .int, 2) := by decide +kernel
theorem d_M_init_70 : decode prog_10_method_1_code 70 = .ok (.putfield 35, 3) := by decide +kernel
theorem d_M_init_73 : decode prog_10_method_1_code 73 = .ok (.aload_n 0, 1) := by decide +kernel
theorem d_M_init_74 : decode prog_10_method_1_code 74 = .ok (.bipush 104, 2) := by decide +kernel
theorem d_M_init_76 : decode prog_10_method_1_code 76 = .ok (.newarray .int, 2) := by decide +kernel
theorem d_M_init_78 : decode prog_10_method_1_code 78 = .ok (.putfield 38, 3) := by decide +kernel
theorem d_M_init_81 : decode prog_10_method_1_code 81 = .ok (.aload_n 0, 1) := by decide +kernel
theorem d_M_init_82 : decode prog_10_method_1_code 82 = .ok (.bipush 62, 2) := by decide +kernel
theorem d_M_init_84 : decode prog_10_method_1_code 84 = .ok (.newarray .int, 2) := by decide +kernel
theorem d_M_init_86 : decode prog_10_method_1_code 86 = .ok (.putfield 41, 3) := by decide +kernel
theorem d_M_init_89 : decode prog_10_method_1_code 89 = .ok (.aload_n 0, 1) := by decide +kernel
theorem d_M_init_90 : decode prog_10_method_1_code 90 = .ok (.iconst 3, 1) := by decide +kernel
theorem d_M_init_91 : decode prog_10_method_1_code 91 = .ok (.newarray .int, 2) := by decide +kernel
theorem d_M_init_93 : decode prog_10_method_1_code 93 = .ok (.putfield 44, 3) := by decide +kernel
theorem d_M_init_96 : decode prog_10_method_1_code 96 = .ok (.aload_n 0, 1) := by decide +kernel
theorem d_M_init_97 : decode prog_10_method_1_code 97 = .ok (.sipush 128, 3) := by decide +kernel
theorem d_M_init_100 : decode prog_10_method_1_code 100 = .ok (.newarray .int, 2) := by decide +kernel
theorem d_M_init_102 : decode prog_10_method_1_code 102 = .ok (.putfield 47, 3) := by decide +kernel
theorem d_M_init_105 : decode prog_10_method_1_code 105 = .ok (.aload_n 0, 1) := by decide +kernel
theorem d_M_init_106 : decode prog_10_method_1_code 106 = .ok (.bipush 80, 2) := by decide +kernel
theorem d_M_init_108 : decode prog_10_method_1_code 108 = .ok (.newarray .int, 2) := by decide +kernel
theorem d_M_init_110 : decode prog_10_method_1_code 110 = .ok (.putfield 50, 3) := by decide +kernel
theorem d_M_init_113 : decode prog_10_method_1_code 113 = .ok (.aload_n 0, 1) := by decide +kernel
theorem d_M_init_114 : decode prog_10_method_1_code 114 = .ok (.sipush 4800, 3) := by decide +kernel
theorem d_M_init_117 : decode prog_10_method_1_code 117 = .ok (.newarray .int, 2) := by decide +kernel
theorem d_M_init_119 : decode prog_10_method_1_code 119 = .ok (.putfield 53, 3) := by decide +kernel
theorem d_M_init_122 : decode prog_10_method_1_code 122 = .ok (.aload_n 0, 1) := by decide +kernel
theorem d_M_init_123 : decode prog_10_method_1_code 123 = .ok (.sipush 128, 3) := by decide +kernel
theorem d_M_init_126 : decode prog_10_method_1_code 126 = .ok (.newarray .int, 2) := by decide +kernel
theorem d_M_init_128 : decode prog_10_method_1_code 128 = .ok (.putfield 56, 3) := by decide +kernel
theorem d_M_init_131 : decode prog_10_method_1_code 131 = .ok (.aload_n 0, 1) := by decide +kernel
theorem d_M_init_132 : decode prog_10_method_1_code 132 = .ok (.bipush 104, 2) := by decide +kernel
theorem d_M_init_134 : decode prog_10_method_1_code 134 = .ok (.newarray .long, 2) := by decide +kernel
theorem d_M_init_136 : decode prog_10_method_1_code 136 = .ok (.putfield 59, 3) := by decide +kernel
theorem d_M_init_139 : decode prog_10_method_1_code 139 = .ok (.aload_n 0, 1) := by decide +kernel
theorem d_M_init_140 : decode prog_10_method_1_code 140 = .ok (.bipush 104, 2) := by decide +kernel
theorem d_M_init_142 : decode prog_10_method_1_code 142 = .ok (.newarray .long, 2) := by decide +kernel
theorem d_M_init_144 : decode prog_10_method_1_code 144 = .ok (.putfield 63, 3) := by decide +kernel
theorem d_M_init_147 : decode prog_10_method_1_code 147 = .ok (.aload_n 0, 1) := by decide +kernel
theorem d_M_init_148 : decode prog_10_method_1_code 148 = .ok (.sipush 6240, 3) := by decide +kernel
theorem d_M_init_151 : decode prog_10_method_1_code 151 = .ok (.newarray .int, 2) := by decide +kernel
theorem d_M_init_153 : decode prog_10_method_1_code 153 = .ok (.putfield 66, 3) := by decide +kernel
theorem d_M_init_156 : decode prog_10_method_1_code 156 = .ok (.aload_n 0, 1) := by decide +kernel
theorem d_M_init_157 : decode prog_10_method_1_code 157 = .ok (.bipush 60, 2) := by decide +kernel
theorem d_M_init_159 : decode prog_10_method_1_code 159 = .ok (.newarray .int, 2) := by decide +kernel
theorem d_M_init_161 : decode prog_10_method_1_code 161 = .ok (.putfield 69, 3) := by decide +kernel
theorem d_M_init_164 : decode prog_10_method_1_code 164 = .ok (.iconst 0, 1) := by decide +kernel
theorem d_M_init_165 : decode prog_10_method_1_code 165 = .ok (.istore_n 1, 1) := by decide +kernel
theorem d_M_init_166 : decode prog_10_method_1_code 166 = .ok (.iload_n 1, 1) := by decide +kernel
theorem d_M_init_167 : decode prog_10_method_1_code 167 = .ok (.sipush 128, 3) := by decide +kernel
theorem d_M_init_170 : decode prog_10_method_1_code 170 = .ok (.if_icmp .ge 16, 3) := by decide +kernel
theorem d_M_init_173 : decode prog_10_method_1_code 173 = .ok (.aload_n 0, 1) := by decide +kernel
theorem d_M_init_174 : decode prog_10_method_1_code 174 = .ok (.getfield 56, 3) := by decide +kernel
theorem d_M_init_177 : decode prog_10_method_1_code 177 = .ok (.iload_n 1, 1) := by decide +kernel
theorem d_M_init_178 : decode prog_10_method_1_code 178 = .ok (.iconst 1, 1) := by decide +kernel
theorem d_M_init_179 : decode prog_10_method_1_code 179 = .ok (.iastore, 1) := by decide +kernel
theorem d_M_init_180 : decode prog_10_method_1_code 180 = .ok (.iinc 1 1, 3) := by decide +kernel
theorem d_M_init_183 : decode prog_10_method_1_code 183 = .ok (.goto (-17), 3) := by decide +kernel
theorem d_M_init_186 : decode prog_10_method_1_code 186 = .ok (.return_, 1) := by decide +kernel
theorem d_M_thrown_0 : decode prog_10_method_2_code 0 = .ok (.aload_n 0, 1) := by decide +kernel
theorem d_M_thrown_1 : decode prog_10_method_2_code 1 = .ok (.getfield 72, 3) := by decide +kernel
theorem d_M_thrown_4 : decode prog_10_method_2_code 4 = .ok (.ireturn, 1) := by decide +kernel
theorem d_M_refuse_0 : decode prog_10_method_3_code 0 = .ok (.aload_n 0, 1) := by decide +kernel
theorem d_M_refuse_1 : decode prog_10_method_3_code 1 = .ok (.iload_n 1, 1) := by decide +kernel
theorem d_M_refuse_2 : decode prog_10_method_3_code 2 = .ok (.putfield 72, 3) := by decide +kernel
theorem d_M_refuse_5 : decode prog_10_method_3_code 5 = .ok (.iconst 0, 1) := by decide +kernel
theorem d_M_refuse_6 : decode prog_10_method_3_code 6 = .ok (.ireturn, 1) := by decide +kernel
theorem d_M_within_0 : decode prog_10_method_4_code 0 = .ok (.iload_n 0, 1) := by decide +kernel
theorem d_M_within_1 : decode prog_10_method_4_code 1 = .ok (.iload_n 1, 1) := by decide +kernel
theorem d_M_within_2 : decode prog_10_method_4_code 2 = .ok (.if_icmp .lt 12, 3) := by decide +kernel
theorem d_M_within_5 : decode prog_10_method_4_code 5 = .ok (.iload_n 0, 1) := by decide +kernel
theorem d_M_within_6 : decode prog_10_method_4_code 6 = .ok (.iload_n 2, 1) := by decide +kernel
theorem d_M_within_7 : decode prog_10_method_4_code 7 = .ok (.if_icmp .gt 7, 3) := by decide +kernel
theorem d_M_within_10 : decode prog_10_method_4_code 10 = .ok (.iconst 1, 1) := by decide +kernel
theorem d_M_within_11 : decode prog_10_method_4_code 11 = .ok (.goto 4, 3) := by decide +kernel
theorem d_M_within_14 : decode prog_10_method_4_code 14 = .ok (.iconst 0, 1) := by decide +kernel
theorem d_M_within_15 : decode prog_10_method_4_code 15 = .ok (.ireturn, 1) := by decide +kernel
theorem d_M_takes_0 : decode prog_10_method_5_code 0 = .ok (.iload_n 0, 1) := by decide +kernel
theorem d_M_takes_1 : decode prog_10_method_5_code 1 = .ok (.bipush 43, 2) := by decide +kernel
theorem d_M_takes_3 : decode prog_10_method_5_code 3 = .ok (.if_icmp .eq 15, 3) := by decide +kernel
theorem d_M_takes_6 : decode prog_10_method_5_code 6 = .ok (.iload_n 0, 1) := by decide +kernel
theorem d_M_takes_7 : decode prog_10_method_5_code 7 = .ok (.bipush 42, 2) := by decide +kernel
theorem d_M_takes_9 : decode prog_10_method_5_code 9 = .ok (.if_icmp .eq 9, 3) := by decide +kernel
theorem d_M_takes_12 : decode prog_10_method_5_code 12 = .ok (.iload_n 0, 1) := by decide +kernel
theorem d_M_takes_13 : decode prog_10_method_5_code 13 = .ok (.bipush 94, 2) := by decide +kernel
theorem d_M_takes_15 : decode prog_10_method_5_code 15 = .ok (.if_icmp .ne 5, 3) := by decide +kernel
theorem d_M_takes_18 : decode prog_10_method_5_code 18 = .ok (.iconst 2, 1) := by decide +kernel
theorem d_M_takes_19 : decode prog_10_method_5_code 19 = .ok (.ireturn, 1) := by decide +kernel
theorem d_M_takes_20 : decode prog_10_method_5_code 20 = .ok (.iload_n 0, 1) := by decide +kernel
theorem d_M_takes_21 : decode prog_10_method_5_code 21 = .ok (.bipush 45, 2) := by decide +kernel
theorem d_M_takes_23 : decode prog_10_method_5_code 23 = .ok (.if_icmp .eq 9, 3) := by decide +kernel
theorem d_M_takes_26 : decode prog_10_method_5_code 26 = .ok (.iload_n 0, 1) := by decide +kernel
theorem d_M_takes_27 : decode prog_10_method_5_code 27 = .ok (.bipush 33, 2) := by decide +kernel
theorem d_M_takes_29 : decode prog_10_method_5_code 29 = .ok (.if_icmp .ne 5, 3) := by decide +kernel
theorem d_M_takes_32 : decode prog_10_method_5_code 32 = .ok (.iconst 1, 1) := by decide +kernel
theorem d_M_takes_33 : decode prog_10_method_5_code 33 = .ok (.ireturn, 1) := by decide +kernel
theorem d_M_takes_34 : decode prog_10_method_5_code 34 = .ok (.iload_n 0, 1) := by decide +kernel
theorem d_M_takes_35 : decode prog_10_method_5_code 35 = .ok (.bipush 48, 2) := by decide +kernel
theorem d_M_takes_37 : decode prog_10_method_5_code 37 = .ok (.bipush 57, 2) := by decide +kernel
theorem d_M_takes_39 : decode prog_10_method_5_code 39 = .ok (.invokestatic 75, 3) := by decide +kernel
theorem d_M_takes_42 : decode prog_10_method_5_code 42 = .ok (.ifCond .ne 14, 3) := by decide +kernel
theorem d_M_takes_45 : decode prog_10_method_5_code 45 = .ok (.iload_n 0, 1) := by decide +kernel
theorem d_M_takes_46 : decode prog_10_method_5_code 46 = .ok (.bipush 120, 2) := by decide +kernel
theorem d_M_takes_48 : decode prog_10_method_5_code 48 = .ok (.bipush 122, 2) := by decide +kernel
theorem d_M_takes_50 : decode prog_10_method_5_code 50 = .ok (.invokestatic 75, 3) := by decide +kernel
theorem d_M_takes_53 : decode prog_10_method_5_code 53 = .ok (.ifCond .eq 7, 3) := by decide +kernel
theorem d_M_takes_56 : decode prog_10_method_5_code 56 = .ok (.iconst 0, 1) := by decide +kernel
theorem d_M_takes_57 : decode prog_10_method_5_code 57 = .ok (.goto 4, 3) := by decide +kernel
theorem d_M_takes_60 : decode prog_10_method_5_code 60 = .ok (.iconst (-1), 1) := by decide +kernel
theorem d_M_takes_61 : decode prog_10_method_5_code 61 = .ok (.ireturn, 1) := by decide +kernel
theorem d_M_type_0 : decode prog_10_method_6_code 0 = .ok (.aload_n 0, 1) := by decide +kernel
theorem d_M_type_1 : decode prog_10_method_6_code 1 = .ok (.iconst 0, 1) := by decide +kernel
theorem d_M_type_2 : decode prog_10_method_6_code 2 = .ok (.putfield 72, 3) := by decide +kernel
theorem d_M_type_5 : decode prog_10_method_6_code 5 = .ok (.iload_n 3, 1) := by decide +kernel
theorem d_M_type_6 : decode prog_10_method_6_code 6 = .ok (.iconst 1, 1) := by decide +kernel
theorem d_M_type_7 : decode prog_10_method_6_code 7 = .ok (.bipush 8, 2) := by decide +kernel
theorem d_M_type_9 : decode prog_10_method_6_code 9 = .ok (.invokestatic 75, 3) := by decide +kernel
theorem d_M_type_12 : decode prog_10_method_6_code 12 = .ok (.ifCond .eq 14, 3) := by decide +kernel
theorem d_M_type_15 : decode prog_10_method_6_code 15 = .ok (.aload_n 0, 1) := by decide +kernel
theorem d_M_type_16 : decode prog_10_method_6_code 16 = .ok (.getfield 79, 3) := by decide +kernel
theorem d_M_type_19 : decode prog_10_method_6_code 19 = .ok (.iload_n 3, 1) := by decide +kernel
theorem d_M_type_20 : decode prog_10_method_6_code 20 = .ok (.iadd, 1) := by decide +kernel
theorem d_M_type_21 : decode prog_10_method_6_code 21 = .ok (.bipush 60, 2) := by decide +kernel
theorem d_M_type_23 : decode prog_10_method_6_code 23 = .ok (.if_icmp .le 5, 3) := by decide +kernel
theorem d_M_type_26 : decode prog_10_method_6_code 26 = .ok (.iconst (-1), 1) := by decide +kernel
theorem d_M_type_27 : decode prog_10_method_6_code 27 = .ok (.ireturn, 1) := by decide +kernel
theorem d_M_type_28 : decode prog_10_method_6_code 28 = .ok (.iconst 0, 1) := by decide +kernel
theorem d_M_type_29 : decode prog_10_method_6_code 29 = .ok (.istore 4, 2) := by decide +kernel
theorem d_M_type_31 : decode prog_10_method_6_code 31 = .ok (.iload 4, 2) := by decide +kernel
theorem d_M_type_33 : decode prog_10_method_6_code 33 = .ok (.iload_n 3, 1) := by decide +kernel
theorem d_M_type_34 : decode prog_10_method_6_code 34 = .ok (.if_icmp .ge 42, 3) := by decide +kernel
theorem d_M_type_37 : decode prog_10_method_6_code 37 = .ok (.lload_n 1, 1) := by decide +kernel
theorem d_M_type_38 : decode prog_10_method_6_code 38 = .ok (.bipush 8, 2) := by decide +kernel
theorem d_M_type_40 : decode prog_10_method_6_code 40 = .ok (.iload 4, 2) := by decide +kernel
theorem d_M_type_42 : decode prog_10_method_6_code 42 = .ok (.imul, 1) := by decide +kernel
theorem d_M_type_43 : decode prog_10_method_6_code 43 = .ok (.lshr, 1) := by decide +kernel
theorem d_M_type_44 : decode prog_10_method_6_code 44 = .ok (.ldc2_w 82, 3) := by decide +kernel
theorem d_M_type_47 : decode prog_10_method_6_code 47 = .ok (.land, 1) := by decide +kernel
theorem d_M_type_48 : decode prog_10_method_6_code 48 = .ok (.lstore 5, 2) := by decide +kernel
theorem d_M_type_50 : decode prog_10_method_6_code 50 = .ok (.lload 5, 2) := by decide +kernel
theorem d_M_type_52 : decode prog_10_method_6_code 52 = .ok (.ldc2_w 84, 3) := by decide +kernel
theorem d_M_type_55 : decode prog_10_method_6_code 55 = .ok (.lcmp, 1) := by decide +kernel
theorem d_M_type_56 : decode prog_10_method_6_code 56 = .ok (.ifCond .lt 12, 3) := by decide +kernel
theorem d_M_type_59 : decode prog_10_method_6_code 59 = .ok (.lload 5, 2) := by decide +kernel
theorem d_M_type_61 : decode prog_10_method_6_code 61 = .ok (.ldc2_w 86, 3) := by decide +kernel
theorem d_M_type_64 : decode prog_10_method_6_code 64 = .ok (.lcmp, 1) := by decide +kernel
theorem d_M_type_65 : decode prog_10_method_6_code 65 = .ok (.ifCond .le 5, 3) := by decide +kernel
theorem d_M_type_68 : decode prog_10_method_6_code 68 = .ok (.iconst (-1), 1) := by decide +kernel
theorem d_M_type_69 : decode prog_10_method_6_code 69 = .ok (.ireturn, 1) := by decide +kernel
theorem d_M_type_70 : decode prog_10_method_6_code 70 = .ok (.iinc 4 1, 3) := by decide +kernel
theorem d_M_type_73 : decode prog_10_method_6_code 73 = .ok (.goto (-42), 3) := by decide +kernel
theorem d_M_type_76 : decode prog_10_method_6_code 76 = .ok (.iload_n 3, 1) := by decide +kernel
theorem d_M_type_77 : decode prog_10_method_6_code 77 = .ok (.iconst 1, 1) := by decide +kernel
theorem d_M_type_78 : decode prog_10_method_6_code 78 = .ok (.isub, 1) := by decide +kernel
theorem d_M_type_79 : decode prog_10_method_6_code 79 = .ok (.istore 4, 2) := by decide +kernel
theorem d_M_type_81 : decode prog_10_method_6_code 81 = .ok (.iload 4, 2) := by decide +kernel
theorem d_M_type_83 : decode prog_10_method_6_code 83 = .ok (.ifCond .lt 40, 3) := by decide +kernel
theorem d_M_type_86 : decode prog_10_method_6_code 86 = .ok (.aload_n 0, 1) := by decide +kernel
theorem d_M_type_87 : decode prog_10_method_6_code 87 = .ok (.getfield 7, 3) := by decide +kernel
theorem d_M_type_90 : decode prog_10_method_6_code 90 = .ok (.aload_n 0, 1) := by decide +kernel
theorem d_M_type_91 : decode prog_10_method_6_code 91 = .ok (.getfield 79, 3) := by decide +kernel
theorem d_M_type_94 : decode prog_10_method_6_code 94 = .ok (.lload_n 1, 1) := by decide +kernel
theorem d_M_type_95 : decode prog_10_method_6_code 95 = .ok (.bipush 8, 2) := by decide +kernel
theorem d_M_type_97 : decode prog_10_method_6_code 97 = .ok (.iload 4, 2) := by decide +kernel
theorem d_M_type_99 : decode prog_10_method_6_code 99 = .ok (.imul, 1) := by decide +kernel
theorem d_M_type_100 : decode prog_10_method_6_code 100 = .ok (.lshr, 1) := by decide +kernel
theorem d_M_type_101 : decode prog_10_method_6_code 101 = .ok (.ldc2_w 82, 3) := by decide +kernel
theorem d_M_type_104 : decode prog_10_method_6_code 104 = .ok (.land, 1) := by decide +kernel
theorem d_M_type_105 : decode prog_10_method_6_code 105 = .ok (.l2i, 1) := by decide +kernel
theorem d_M_type_106 : decode prog_10_method_6_code 106 = .ok (.iastore, 1) := by decide +kernel
theorem d_M_type_107 : decode prog_10_method_6_code 107 = .ok (.aload_n 0, 1) := by decide +kernel
theorem d_M_type_108 : decode prog_10_method_6_code 108 = .ok (.dup, 1) := by decide +kernel
theorem d_M_type_109 : decode prog_10_method_6_code 109 = .ok (.getfield 79, 3) := by decide +kernel
theorem d_M_type_112 : decode prog_10_method_6_code 112 = .ok (.iconst 1, 1) := by decide +kernel
theorem d_M_type_113 : decode prog_10_method_6_code 113 = .ok (.iadd, 1) := by decide +kernel
theorem d_M_type_114 : decode prog_10_method_6_code 114 = .ok (.putfield 79, 3) := by decide +kernel
theorem d_M_type_117 : decode prog_10_method_6_code 117 = .ok (.iinc 4 (-1), 3) := by decide +kernel
theorem d_M_type_120 : decode prog_10_method_6_code 120 = .ok (.goto (-39), 3) := by decide +kernel
theorem d_M_type_123 : decode prog_10_method_6_code 123 = .ok (.aload_n 0, 1) := by decide +kernel
theorem d_M_type_124 : decode prog_10_method_6_code 124 = .ok (.getfield 79, 3) := by decide +kernel
theorem d_M_type_127 : decode prog_10_method_6_code 127 = .ok (.ireturn, 1) := by decide +kernel
theorem d_M_wipe_0 : decode prog_10_method_7_code 0 = .ok (.aload_n 0, 1) := by decide +kernel
theorem d_M_wipe_1 : decode prog_10_method_7_code 1 = .ok (.iconst 0, 1) := by decide +kernel
theorem d_M_wipe_2 : decode prog_10_method_7_code 2 = .ok (.putfield 72, 3) := by decide +kernel
theorem d_M_wipe_5 : decode prog_10_method_7_code 5 = .ok (.aload_n 0, 1) := by decide +kernel
theorem d_M_wipe_6 : decode prog_10_method_7_code 6 = .ok (.getfield 79, 3) := by decide +kernel
theorem d_M_wipe_9 : decode prog_10_method_7_code 9 = .ok (.istore_n 1, 1) := by decide +kernel
theorem d_M_wipe_10 : decode prog_10_method_7_code 10 = .ok (.aload_n 0, 1) := by decide +kernel
theorem d_M_wipe_11 : decode prog_10_method_7_code 11 = .ok (.iconst 0, 1) := by decide +kernel
theorem d_M_wipe_12 : decode prog_10_method_7_code 12 = .ok (.putfield 79, 3) := by decide +kernel
theorem d_M_wipe_15 : decode prog_10_method_7_code 15 = .ok (.iload_n 1, 1) := by decide +kernel
theorem d_M_wipe_16 : decode prog_10_method_7_code 16 = .ok (.ireturn, 1) := by decide +kernel
theorem d_M_character_0 : decode prog_10_method_8_code 0 = .ok (.aload_n 0, 1) := by decide +kernel
theorem d_M_character_1 : decode prog_10_method_8_code 1 = .ok (.iconst 0, 1) := by decide +kernel
theorem d_M_character_2 : decode prog_10_method_8_code 2 = .ok (.putfield 72, 3) := by decide +kernel
theorem d_M_character_5 : decode prog_10_method_8_code 5 = .ok (.iload_n 1, 1) := by decide +kernel
theorem d_M_character_6 : decode prog_10_method_8_code 6 = .ok (.iconst 0, 1) := by decide +kernel
theorem d_M_character_7 : decode prog_10_method_8_code 7 = .ok (.aload_n 0, 1) := by decide +kernel
theorem d_M_character_8 : decode prog_10_method_8_code 8 = .ok (.getfield 79, 3) := by decide +kernel
theorem d_M_character_11 : decode prog_10_method_8_code 11 = .ok (.iconst 1, 1) := by decide +kernel
theorem d_M_character_12 : decode prog_10_method_8_code 12 = .ok (.isub, 1) := by decide +kernel
theorem d_M_character_13 : decode prog_10_method_8_code 13 = .ok (.invokestatic 75, 3) := by decide +kernel
theorem d_M_character_16 : decode prog_10_method_8_code 16 = .ok (.ifCond .eq 12, 3) := by decide +kernel
theorem d_M_character_19 : decode prog_10_method_8_code 19 = .ok (.aload_n 0, 1) := by decide +kernel
theorem d_M_character_20 : decode prog_10_method_8_code 20 = .ok (.getfield 7, 3) := by decide +kernel
theorem d_M_character_23 : decode prog_10_method_8_code 23 = .ok (.iload_n 1, 1) := by decide +kernel
theorem d_M_character_24 : decode prog_10_method_8_code 24 = .ok (.iaload, 1) := by decide +kernel
theorem d_M_character_25 : decode prog_10_method_8_code 25 = .ok (.goto 4, 3) := by decide +kernel
theorem d_M_character_28 : decode prog_10_method_8_code 28 = .ok (.iconst (-1), 1) := by decide +kernel
theorem d_M_character_29 : decode prog_10_method_8_code 29 = .ok (.ireturn, 1) := by decide +kernel
theorem d_M_place_0 : decode prog_10_method_9_code 0 = .ok (.aload_n 0, 1) := by decide +kernel
theorem d_M_place_1 : decode prog_10_method_9_code 1 = .ok (.iconst 0, 1) := by decide +kernel
theorem d_M_place_2 : decode prog_10_method_9_code 2 = .ok (.putfield 72, 3) := by decide +kernel
theorem d_M_place_5 : decode prog_10_method_9_code 5 = .ok (.aload_n 0, 1) := by decide +kernel
theorem d_M_place_6 : decode prog_10_method_9_code 6 = .ok (.getfield 13, 3) := by decide +kernel
theorem d_M_place_9 : decode prog_10_method_9_code 9 = .ok (.ireturn, 1) := by decide +kernel
theorem d_M_fail_0 : decode prog_10_method_10_code 0 = .ok (.aload_n 0, 1) := by decide +kernel
theorem d_M_fail_1 : decode prog_10_method_10_code 1 = .ok (.aload_n 0, 1) := by decide +kernel
theorem d_M_fail_2 : decode prog_10_method_10_code 2 = .ok (.getfield 88, 3) := by decide +kernel
theorem d_M_fail_5 : decode prog_10_method_10_code 5 = .ok (.putfield 13, 3) := by decide +kernel
theorem d_M_fail_8 : decode prog_10_method_10_code 8 = .ok (.iconst 0, 1) := by decide +kernel
theorem d_M_fail_9 : decode prog_10_method_10_code 9 = .ok (.ireturn, 1) := by decide +kernel
theorem d_M_readSide_0 : decode prog_10_method_11_code 0 = .ok (.aload_n 0, 1) := by decide +kernel
theorem d_M_readSide_1 : decode prog_10_method_11_code 1 = .ok (.aload_n 0, 1) := by decide +kernel
theorem d_M_readSide_2 : decode prog_10_method_11_code 2 = .ok (.getfield 88, 3) := by decide +kernel
theorem d_M_readSide_5 : decode prog_10_method_11_code 5 = .ok (.iload_n 1, 1) := by decide +kernel
theorem d_M_readSide_6 : decode prog_10_method_11_code 6 = .ok (.iadd, 1) := by decide +kernel
theorem d_M_readSide_7 : decode prog_10_method_11_code 7 = .ok (.aload_n 0, 1) := by decide +kernel
theorem d_M_readSide_8 : decode prog_10_method_11_code 8 = .ok (.getfield 79, 3) := by decide +kernel
theorem d_M_readSide_11 : decode prog_10_method_11_code 11 = .ok (.if_icmp .ge 12, 3) := by decide +kernel
theorem d_M_readSide_14 : decode prog_10_method_11_code 14 = .ok (.aload_n 0, 1) := by decide +kernel
theorem d_M_readSide_15 : decode prog_10_method_11_code 15 = .ok (.getfield 88, 3) := by decide +kernel
theorem d_M_readSide_18 : decode prog_10_method_11_code 18 = .ok (.iload_n 1, 1) := by decide +kernel
theorem d_M_readSide_19 : decode prog_10_method_11_code 19 = .ok (.iadd, 1) := by decide +kernel
theorem d_M_readSide_20 : decode prog_10_method_11_code 20 = .ok (.goto 7, 3) := by decide +kernel
theorem d_M_readSide_23 : decode prog_10_method_11_code 23 = .ok (.aload_n 0, 1) := by decide +kernel
theorem d_M_readSide_24 : decode prog_10_method_11_code 24 = .ok (.getfield 79, 3) := by decide +kernel
theorem d_M_readSide_27 : decode prog_10_method_11_code 27 = .ok (.putfield 91, 3) := by decide +kernel
theorem d_M_readSide_30 : decode prog_10_method_11_code 30 = .ok (.iconst 1, 1) := by decide +kernel
theorem d_M_readSide_31 : decode prog_10_method_11_code 31 = .ok (.istore_n 3, 1) := by decide +kernel
theorem d_M_readSide_32 : decode prog_10_method_11_code 32 = .ok (.iload_n 3, 1) := by decide +kernel
theorem d_M_readSide_33 : decode prog_10_method_11_code 33 = .ok (.ifCond .le 143, 3) := by decide +kernel
theorem d_M_readSide_36 : decode prog_10_method_11_code 36 = .ok (.aload_n 0, 1) := by decide +kernel
theorem d_M_readSide_37 : decode prog_10_method_11_code 37 = .ok (.getfield 88, 3) := by decide +kernel
theorem d_M_readSide_40 : decode prog_10_method_11_code 40 = .ok (.aload_n 0, 1) := by decide +kernel
theorem d_M_readSide_41 : decode prog_10_method_11_code 41 = .ok (.getfield 91, 3) := by decide +kernel
theorem d_M_readSide_44 : decode prog_10_method_11_code 44 = .ok (.if_icmp .lt 8, 3) := by decide +kernel
theorem d_M_readSide_47 : decode prog_10_method_11_code 47 = .ok (.aload_n 0, 1) := by decide +kernel
theorem d_M_readSide_48 : decode prog_10_method_11_code 48 = .ok (.invokevirtual 94, 3) := by decide +kernel
theorem d_M_readSide_51 : decode prog_10_method_11_code 51 = .ok (.ireturn, 1) := by decide +kernel
theorem d_M_readSide_52 : decode prog_10_method_11_code 52 = .ok (.aload_n 0, 1) := by decide +kernel
theorem d_M_readSide_53 : decode prog_10_method_11_code 53 = .ok (.getfield 7, 3) := by decide +kernel
theorem d_M_readSide_56 : decode prog_10_method_11_code 56 = .ok (.aload_n 0, 1) := by decide +kernel
theorem d_M_readSide_57 : decode prog_10_method_11_code 57 = .ok (.getfield 88, 3) := by decide +kernel
theorem d_M_readSide_60 : decode prog_10_method_11_code 60 = .ok (.iaload, 1) := by decide +kernel
theorem d_M_readSide_61 : decode prog_10_method_11_code 61 = .ok (.istore 4, 2) := by decide +kernel
theorem d_M_readSide_63 : decode prog_10_method_11_code 63 = .ok (.iload 4, 2) := by decide +kernel
theorem d_M_readSide_65 : decode prog_10_method_11_code 65 = .ok (.bipush 97, 2) := by decide +kernel
theorem d_M_readSide_67 : decode prog_10_method_11_code 67 = .ok (.bipush 99, 2) := by decide +kernel
theorem d_M_readSide_69 : decode prog_10_method_11_code 69 = .ok (.invokestatic 75, 3) := by decide +kernel
theorem d_M_readSide_72 : decode prog_10_method_11_code 72 = .ok (.ifCond .eq 20, 3) := by decide +kernel
theorem d_M_readSide_75 : decode prog_10_method_11_code 75 = .ok (.iload_n 2, 1) := by decide +kernel
theorem d_M_readSide_76 : decode prog_10_method_11_code 76 = .ok (.iload 4, 2) := by decide +kernel
theorem d_M_readSide_78 : decode prog_10_method_11_code 78 = .ok (.bipush 97, 2) := by decide +kernel
theorem d_M_readSide_80 : decode prog_10_method_11_code 80 = .ok (.isub, 1) := by decide +kernel
theorem d_M_readSide_81 : decode prog_10_method_11_code 81 = .ok (.ishr, 1) := by decide +kernel
theorem d_M_readSide_82 : decode prog_10_method_11_code 82 = .ok (.iconst 1, 1) := by decide +kernel
theorem d_M_readSide_83 : decode prog_10_method_11_code 83 = .ok (.iand, 1) := by decide +kernel
theorem d_M_readSide_84 : decode prog_10_method_11_code 84 = .ok (.iconst 1, 1) := by decide +kernel
theorem d_M_readSide_85 : decode prog_10_method_11_code 85 = .ok (.if_icmp .ne 7, 3) := by decide +kernel
theorem d_M_readSide_88 : decode prog_10_method_11_code 88 = .ok (.iconst 1, 1) := by decide +kernel
theorem d_M_readSide_89 : decode prog_10_method_11_code 89 = .ok (.goto 4, 3) := by decide +kernel
theorem d_M_readSide_92 : decode prog_10_method_11_code 92 = .ok (.iconst 0, 1) := by decide +kernel
theorem d_M_readSide_93 : decode prog_10_method_11_code 93 = .ok (.istore 5, 2) := by decide +kernel
theorem d_M_readSide_95 : decode prog_10_method_11_code 95 = .ok (.iload 5, 2) := by decide +kernel
theorem d_M_readSide_97 : decode prog_10_method_11_code 97 = .ok (.ifCond .ne 17, 3) := by decide +kernel
theorem d_M_readSide_100 : decode prog_10_method_11_code 100 = .ok (.iload 4, 2) := by decide +kernel
theorem d_M_readSide_102 : decode prog_10_method_11_code 102 = .ok (.invokestatic 98, 3) := by decide +kernel
theorem d_M_readSide_105 : decode prog_10_method_11_code 105 = .ok (.iconst (-1), 1) := by decide +kernel
theorem d_M_readSide_106 : decode prog_10_method_11_code 106 = .ok (.if_icmp .ne 8, 3) := by decide +kernel
theorem d_M_readSide_109 : decode prog_10_method_11_code 109 = .ok (.aload_n 0, 1) := by decide +kernel
theorem d_M_readSide_110 : decode prog_10_method_11_code 110 = .ok (.invokevirtual 94, 3) := by decide +kernel
theorem d_M_readSide_113 : decode prog_10_method_11_code 113 = .ok (.ireturn, 1) := by decide +kernel
theorem d_M_readSide_114 : decode prog_10_method_11_code 114 = .ok (.aload_n 0, 1) := by decide +kernel
theorem d_M_readSide_115 : decode prog_10_method_11_code 115 = .ok (.iload 5, 2) := by decide +kernel
theorem d_M_readSide_117 : decode prog_10_method_11_code 117 = .ok (.ifCond .eq 18, 3) := by decide +kernel
theorem d_M_readSide_120 : decode prog_10_method_11_code 120 = .ok (.aload_n 0, 1) := by decide +kernel
theorem d_M_readSide_121 : decode prog_10_method_11_code 121 = .ok (.getfield 102, 3) := by decide +kernel
theorem d_M_readSide_124 : decode prog_10_method_11_code 124 = .ok (.iconst 1, 1) := by decide +kernel
theorem d_M_readSide_125 : decode prog_10_method_11_code 125 = .ok (.iload 4, 2) := by decide +kernel
theorem d_M_readSide_127 : decode prog_10_method_11_code 127 = .ok (.bipush 97, 2) := by decide +kernel
theorem d_M_readSide_129 : decode prog_10_method_11_code 129 = .ok (.isub, 1) := by decide +kernel
theorem d_M_readSide_130 : decode prog_10_method_11_code 130 = .ok (.ishl, 1) := by decide +kernel
theorem d_M_readSide_131 : decode prog_10_method_11_code 131 = .ok (.ior, 1) := by decide +kernel
theorem d_M_readSide_132 : decode prog_10_method_11_code 132 = .ok (.goto 7, 3) := by decide +kernel
theorem d_M_readSide_135 : decode prog_10_method_11_code 135 = .ok (.aload_n 0, 1) := by decide +kernel
theorem d_M_readSide_136 : decode prog_10_method_11_code 136 = .ok (.getfield 102, 3) := by decide +kernel
theorem d_M_readSide_139 : decode prog_10_method_11_code 139 = .ok (.putfield 102, 3) := by decide +kernel
theorem d_M_readSide_142 : decode prog_10_method_11_code 142 = .ok (.iload 5, 2) := by decide +kernel
theorem d_M_readSide_144 : decode prog_10_method_11_code 144 = .ok (.ifCond .eq 9, 3) := by decide +kernel
theorem d_M_readSide_147 : decode prog_10_method_11_code 147 = .ok (.iload_n 3, 1) := by decide +kernel
theorem d_M_readSide_148 : decode prog_10_method_11_code 148 = .ok (.iconst 1, 1) := by decide +kernel
theorem d_M_readSide_149 : decode prog_10_method_11_code 149 = .ok (.isub, 1) := by decide +kernel
theorem d_M_readSide_150 : decode prog_10_method_11_code 150 = .ok (.goto 12, 3) := by decide +kernel
theorem d_M_readSide_153 : decode prog_10_method_11_code 153 = .ok (.iload_n 3, 1) := by decide +kernel
theorem d_M_readSide_154 : decode prog_10_method_11_code 154 = .ok (.iconst 1, 1) := by decide +kernel
theorem d_M_readSide_155 : decode prog_10_method_11_code 155 = .ok (.isub, 1) := by decide +kernel
theorem d_M_readSide_156 : decode prog_10_method_11_code 156 = .ok (.iload 4, 2) := by decide +kernel
theorem d_M_readSide_158 : decode prog_10_method_11_code 158 = .ok (.invokestatic 98, 3) := by decide +kernel
theorem d_M_readSide_161 : decode prog_10_method_11_code 161 = .ok (.iadd, 1) := by decide +kernel
theorem d_M_readSide_162 : decode prog_10_method_11_code 162 = .ok (.istore_n 3, 1) := by decide +kernel
theorem d_M_readSide_163 : decode prog_10_method_11_code 163 = .ok (.aload_n 0, 1) := by decide +kernel
theorem d_M_readSide_164 : decode prog_10_method_11_code 164 = .ok (.dup, 1) := by decide +kernel
theorem d_M_readSide_165 : decode prog_10_method_11_code 165 = .ok (.getfield 88, 3) := by decide +kernel
theorem d_M_readSide_168 : decode prog_10_method_11_code 168 = .ok (.iconst 1, 1) := by decide +kernel
theorem d_M_readSide_169 : decode prog_10_method_11_code 169 = .ok (.iadd, 1) := by decide +kernel
theorem d_M_readSide_170 : decode prog_10_method_11_code 170 = .ok (.putfield 88, 3) := by decide +kernel
theorem d_M_readSide_173 : decode prog_10_method_11_code 173 = .ok (.goto (-141), 3) := by decide +kernel
theorem d_M_readSide_176 : decode prog_10_method_11_code 176 = .ok (.iconst 1, 1) := by decide +kernel
theorem d_M_readSide_177 : decode prog_10_method_11_code 177 = .ok (.ireturn, 1) := by decide +kernel
theorem d_M_readTerm_0 : decode prog_10_method_12_code 0 = .ok (.aload_n 0, 1) := by decide +kernel
theorem d_M_readTerm_1 : decode prog_10_method_12_code 1 = .ok (.iconst 0, 1) := by decide +kernel
theorem d_M_readTerm_2 : decode prog_10_method_12_code 2 = .ok (.putfield 88, 3) := by decide +kernel
theorem d_M_readTerm_5 : decode prog_10_method_12_code 5 = .ok (.aload_n 0, 1) := by decide +kernel
theorem d_M_readTerm_6 : decode prog_10_method_12_code 6 = .ok (.bipush 60, 2) := by decide +kernel
theorem d_M_readTerm_8 : decode prog_10_method_12_code 8 = .ok (.iconst 0, 1) := by decide +kernel
theorem d_M_readTerm_9 : decode prog_10_method_12_code 9 = .ok (.invokevirtual 105, 3) := by decide +kernel
theorem d_M_readTerm_12 : decode prog_10_method_12_code 12 = .ok (.ifCond .eq 25, 3) := by decide +kernel
theorem d_M_readTerm_15 : decode prog_10_method_12_code 15 = .ok (.aload_n 0, 1) := by decide +kernel
theorem d_M_readTerm_16 : decode prog_10_method_12_code 16 = .ok (.getfield 88, 3) := by decide +kernel
theorem d_M_readTerm_19 : decode prog_10_method_12_code 19 = .ok (.aload_n 0, 1) := by decide +kernel
theorem d_M_readTerm_20 : decode prog_10_method_12_code 20 = .ok (.getfield 79, 3) := by decide +kernel
theorem d_M_readTerm_23 : decode prog_10_method_12_code 23 = .ok (.if_icmp .eq 10, 3) := by decide +kernel
theorem d_M_readTerm_26 : decode prog_10_method_12_code 26 = .ok (.aload_n 0, 1) := by decide +kernel
theorem d_M_readTerm_27 : decode prog_10_method_12_code 27 = .ok (.invokevirtual 94, 3) := by decide +kernel
theorem d_M_readTerm_30 : decode prog_10_method_12_code 30 = .ok (.ifCond .eq 7, 3) := by decide +kernel
theorem d_M_readTerm_33 : decode prog_10_method_12_code 33 = .ok (.iconst 1, 1) := by decide +kernel
theorem d_M_readTerm_34 : decode prog_10_method_12_code 34 = .ok (.goto 4, 3) := by decide +kernel
theorem d_M_readTerm_37 : decode prog_10_method_12_code 37 = .ok (.iconst 0, 1) := by decide +kernel
theorem d_M_readTerm_38 : decode prog_10_method_12_code 38 = .ok (.ireturn, 1) := by decide +kernel
theorem d_M_readBoth_0 : decode prog_10_method_13_code 0 = .ok (.aload_n 0, 1) := by decide +kernel
theorem d_M_readBoth_1 : decode prog_10_method_13_code 1 = .ok (.iconst 0, 1) := by decide +kernel
theorem d_M_readBoth_2 : decode prog_10_method_13_code 2 = .ok (.putfield 88, 3) := by decide +kernel
theorem d_M_readBoth_5 : decode prog_10_method_13_code 5 = .ok (.aload_n 0, 1) := by decide +kernel
theorem d_M_readBoth_6 : decode prog_10_method_13_code 6 = .ok (.iconst 0, 1) := by decide +kernel
theorem d_M_readBoth_7 : decode prog_10_method_13_code 7 = .ok (.putfield 102, 3) := by decide +kernel
theorem d_M_readBoth_10 : decode prog_10_method_13_code 10 = .ok (.aload_n 0, 1) := by decide +kernel
theorem d_M_readBoth_11 : decode prog_10_method_13_code 11 = .ok (.iload_n 1, 1) := by decide +kernel
theorem d_M_readBoth_12 : decode prog_10_method_13_code 12 = .ok (.iload_n 2, 1) := by decide +kernel
theorem d_M_readBoth_13 : decode prog_10_method_13_code 13 = .ok (.ifCond .eq 8, 3) := by decide +kernel
theorem d_M_readBoth_16 : decode prog_10_method_13_code 16 = .ok (.bipush 7, 2) := by decide +kernel
theorem d_M_readBoth_18 : decode prog_10_method_13_code 18 = .ok (.goto 4, 3) := by decide +kernel
theorem d_M_readBoth_21 : decode prog_10_method_13_code 21 = .ok (.iconst 0, 1) := by decide +kernel
theorem d_M_readBoth_22 : decode prog_10_method_13_code 22 = .ok (.invokevirtual 105, 3) := by decide +kernel
theorem d_M_readBoth_25 : decode prog_10_method_13_code 25 = .ok (.ifCond .ne 5, 3) := by decide +kernel
theorem d_M_readBoth_28 : decode prog_10_method_13_code 28 = .ok (.iconst (-1), 1) := by decide +kernel
theorem d_M_readBoth_29 : decode prog_10_method_13_code 29 = .ok (.ireturn, 1) := by decide +kernel
theorem d_M_readBoth_30 : decode prog_10_method_13_code 30 = .ok (.aload_n 0, 1) := by decide +kernel
theorem d_M_readBoth_31 : decode prog_10_method_13_code 31 = .ok (.getfield 88, 3) := by decide +kernel
theorem d_M_readBoth_34 : decode prog_10_method_13_code 34 = .ok (.aload_n 0, 1) := by decide +kernel
theorem d_M_readBoth_35 : decode prog_10_method_13_code 35 = .ok (.getfield 79, 3) := by decide +kernel
theorem d_M_readBoth_38 : decode prog_10_method_13_code 38 = .ok (.if_icmp .eq 17, 3) := by decide +kernel
theorem d_M_readBoth_41 : decode prog_10_method_13_code 41 = .ok (.aload_n 0, 1) := by decide +kernel
theorem d_M_readBoth_42 : decode prog_10_method_13_code 42 = .ok (.getfield 7, 3) := by decide +kernel
theorem d_M_readBoth_45 : decode prog_10_method_13_code 45 = .ok (.aload_n 0, 1) := by decide +kernel
theorem d_M_readBoth_46 : decode prog_10_method_13_code 46 = .ok (.getfield 88, 3) := by decide +kernel
theorem d_M_readBoth_49 : decode prog_10_method_13_code 49 = .ok (.iaload, 1) := by decide +kernel
theorem d_M_readBoth_50 : decode prog_10_method_13_code 50 = .ok (.bipush 61, 2) := by decide +kernel
theorem d_M_readBoth_52 : decode prog_10_method_13_code 52 = .ok (.if_icmp .eq 13, 3) := by decide +kernel
theorem d_M_readBoth_55 : decode prog_10_method_13_code 55 = .ok (.aload_n 0, 1) := by decide +kernel
theorem d_M_readBoth_56 : decode prog_10_method_13_code 56 = .ok (.aload_n 0, 1) := by decide +kernel
theorem d_M_readBoth_57 : decode prog_10_method_13_code 57 = .ok (.getfield 88, 3) := by decide +kernel
theorem d_M_readBoth_60 : decode prog_10_method_13_code 60 = .ok (.putfield 13, 3) := by decide +kernel
theorem d_M_readBoth_63 : decode prog_10_method_13_code 63 = .ok (.iconst (-1), 1) := by decide +kernel
theorem d_M_readBoth_64 : decode prog_10_method_13_code 64 = .ok (.ireturn, 1) := by decide +kernel
theorem d_M_readBoth_65 : decode prog_10_method_13_code 65 = .ok (.aload_n 0, 1) := by decide +kernel
theorem d_M_readBoth_66 : decode prog_10_method_13_code 66 = .ok (.dup, 1) := by decide +kernel
theorem d_M_readBoth_67 : decode prog_10_method_13_code 67 = .ok (.getfield 88, 3) := by decide +kernel
theorem d_M_readBoth_70 : decode prog_10_method_13_code 70 = .ok (.iconst 1, 1) := by decide +kernel
theorem d_M_readBoth_71 : decode prog_10_method_13_code 71 = .ok (.iadd, 1) := by decide +kernel
theorem d_M_readBoth_72 : decode prog_10_method_13_code 72 = .ok (.putfield 88, 3) := by decide +kernel
theorem d_M_readBoth_75 : decode prog_10_method_13_code 75 = .ok (.aload_n 0, 1) := by decide +kernel
theorem d_M_readBoth_76 : decode prog_10_method_13_code 76 = .ok (.getfield 88, 3) := by decide +kernel
theorem d_M_readBoth_79 : decode prog_10_method_13_code 79 = .ok (.istore_n 3, 1) := by decide +kernel
theorem d_M_readBoth_80 : decode prog_10_method_13_code 80 = .ok (.aload_n 0, 1) := by decide +kernel
theorem d_M_readBoth_81 : decode prog_10_method_13_code 81 = .ok (.iload_n 1, 1) := by decide +kernel
theorem d_M_readBoth_82 : decode prog_10_method_13_code 82 = .ok (.iload_n 2, 1) := by decide +kernel
theorem d_M_readBoth_83 : decode prog_10_method_13_code 83 = .ok (.ifCond .eq 10, 3) := by decide +kernel
theorem d_M_readBoth_86 : decode prog_10_method_13_code 86 = .ok (.aload_n 0, 1) := by decide +kernel
theorem d_M_readBoth_87 : decode prog_10_method_13_code 87 = .ok (.getfield 102, 3) := by decide +kernel
theorem d_M_readBoth_90 : decode prog_10_method_13_code 90 = .ok (.goto 4, 3) := by decide +kernel
theorem d_M_readBoth_93 : decode prog_10_method_13_code 93 = .ok (.iconst 0, 1) := by decide +kernel
theorem d_M_readBoth_94 : decode prog_10_method_13_code 94 = .ok (.invokevirtual 105, 3) := by decide +kernel
theorem d_M_readBoth_97 : decode prog_10_method_13_code 97 = .ok (.ifCond .eq 25, 3) := by decide +kernel
theorem d_M_readBoth_100 : decode prog_10_method_13_code 100 = .ok (.aload_n 0, 1) := by decide +kernel
theorem d_M_readBoth_101 : decode prog_10_method_13_code 101 = .ok (.getfield 88, 3) := by decide +kernel
theorem d_M_readBoth_104 : decode prog_10_method_13_code 104 = .ok (.aload_n 0, 1) := by decide +kernel
theorem d_M_readBoth_105 : decode prog_10_method_13_code 105 = .ok (.getfield 79, 3) := by decide +kernel
theorem d_M_readBoth_108 : decode prog_10_method_13_code 108 = .ok (.if_icmp .eq 10, 3) := by decide +kernel
theorem d_M_readBoth_111 : decode prog_10_method_13_code 111 = .ok (.aload_n 0, 1) := by decide +kernel
theorem d_M_readBoth_112 : decode prog_10_method_13_code 112 = .ok (.invokevirtual 94, 3) := by decide +kernel
theorem d_M_readBoth_115 : decode prog_10_method_13_code 115 = .ok (.ifCond .eq 7, 3) := by decide +kernel
theorem d_M_readBoth_118 : decode prog_10_method_13_code 118 = .ok (.iload_n 3, 1) := by decide +kernel
theorem d_M_readBoth_119 : decode prog_10_method_13_code 119 = .ok (.goto 4, 3) := by decide +kernel
theorem d_M_readBoth_122 : decode prog_10_method_13_code 122 = .ok (.iconst (-1), 1) := by decide +kernel
theorem d_M_readBoth_123 : decode prog_10_method_13_code 123 = .ok (.ireturn, 1) := by decide +kernel
theorem d_M_rule_0 : decode prog_10_method_14_code 0 = .ok (.aload_n 0, 1) := by decide +kernel
theorem d_M_rule_1 : decode prog_10_method_14_code 1 = .ok (.iconst 0, 1) := by decide +kernel
theorem d_M_rule_2 : decode prog_10_method_14_code 2 = .ok (.putfield 72, 3) := by decide +kernel
theorem d_M_rule_5 : decode prog_10_method_14_code 5 = .ok (.aload_n 0, 1) := by decide +kernel
theorem d_M_rule_6 : decode prog_10_method_14_code 6 = .ok (.bipush 7, 2) := by decide +kernel
theorem d_M_rule_8 : decode prog_10_method_14_code 8 = .ok (.iconst 1, 1) := by decide +kernel
theorem d_M_rule_9 : decode prog_10_method_14_code 9 = .ok (.invokevirtual 109, 3) := by decide +kernel
theorem d_M_rule_12 : decode prog_10_method_14_code 12 = .ok (.istore_n 1, 1) := by decide +kernel
theorem d_M_rule_13 : decode prog_10_method_14_code 13 = .ok (.iload_n 1, 1) := by decide +kernel
theorem d_M_rule_14 : decode prog_10_method_14_code 14 = .ok (.ifCond .lt 12, 3) := by decide +kernel
theorem d_M_rule_17 : decode prog_10_method_14_code 17 = .ok (.aload_n 0, 1) := by decide +kernel
theorem d_M_rule_18 : decode prog_10_method_14_code 18 = .ok (.getfield 113, 3) := by decide +kernel
theorem d_M_rule_21 : decode prog_10_method_14_code 21 = .ok (.bipush 6, 2) := by decide +kernel
theorem d_M_rule_23 : decode prog_10_method_14_code 23 = .ok (.if_icmp .ne 17, 3) := by decide +kernel
theorem d_M_rule_26 : decode prog_10_method_14_code 26 = .ok (.aload_n 0, 1) := by decide +kernel
theorem d_M_rule_27 : decode prog_10_method_14_code 27 = .ok (.iload_n 1, 1) := by decide +kernel
theorem d_M_rule_28 : decode prog_10_method_14_code 28 = .ok (.ifCond .ge 7, 3) := by decide +kernel
theorem d_M_rule_31 : decode prog_10_method_14_code 31 = .ok (.iconst 1, 1) := by decide +kernel
theorem d_M_rule_32 : decode prog_10_method_14_code 32 = .ok (.goto 4, 3) := by decide +kernel
theorem d_M_rule_35 : decode prog_10_method_14_code 35 = .ok (.iconst 2, 1) := by decide +kernel
theorem d_M_rule_36 : decode prog_10_method_14_code 36 = .ok (.invokevirtual 116, 3) := by decide +kernel
theorem d_M_rule_39 : decode prog_10_method_14_code 39 = .ok (.ireturn, 1) := by decide +kernel
theorem d_M_rule_40 : decode prog_10_method_14_code 40 = .ok (.aload_n 0, 1) := by decide +kernel
theorem d_M_rule_41 : decode prog_10_method_14_code 41 = .ok (.getfield 20, 3) := by decide +kernel
theorem d_M_rule_44 : decode prog_10_method_14_code 44 = .ok (.iconst 2, 1) := by decide +kernel
theorem d_M_rule_45 : decode prog_10_method_14_code 45 = .ok (.aload_n 0, 1) := by decide +kernel
theorem d_M_rule_46 : decode prog_10_method_14_code 46 = .ok (.getfield 113, 3) := by decide +kernel
theorem d_M_rule_49 : decode prog_10_method_14_code 49 = .ok (.imul, 1) := by decide +kernel
theorem d_M_rule_50 : decode prog_10_method_14_code 50 = .ok (.iload_n 1, 1) := by decide +kernel
theorem d_M_rule_51 : decode prog_10_method_14_code 51 = .ok (.iconst 1, 1) := by decide +kernel
theorem d_M_rule_52 : decode prog_10_method_14_code 52 = .ok (.isub, 1) := by decide +kernel
theorem d_M_rule_53 : decode prog_10_method_14_code 53 = .ok (.iastore, 1) := by decide +kernel
theorem d_M_rule_54 : decode prog_10_method_14_code 54 = .ok (.aload_n 0, 1) := by decide +kernel
theorem d_M_rule_55 : decode prog_10_method_14_code 55 = .ok (.getfield 20, 3) := by decide +kernel
theorem d_M_rule_58 : decode prog_10_method_14_code 58 = .ok (.iconst 2, 1) := by decide +kernel
theorem d_M_rule_59 : decode prog_10_method_14_code 59 = .ok (.aload_n 0, 1) := by decide +kernel
theorem d_M_rule_60 : decode prog_10_method_14_code 60 = .ok (.getfield 113, 3) := by decide +kernel
theorem d_M_rule_63 : decode prog_10_method_14_code 63 = .ok (.imul, 1) := by decide +kernel
theorem d_M_rule_64 : decode prog_10_method_14_code 64 = .ok (.iconst 1, 1) := by decide +kernel
theorem d_M_rule_65 : decode prog_10_method_14_code 65 = .ok (.iadd, 1) := by decide +kernel
theorem d_M_rule_66 : decode prog_10_method_14_code 66 = .ok (.aload_n 0, 1) := by decide +kernel
theorem d_M_rule_67 : decode prog_10_method_14_code 67 = .ok (.getfield 79, 3) := by decide +kernel
theorem d_M_rule_70 : decode prog_10_method_14_code 70 = .ok (.iload_n 1, 1) := by decide +kernel
theorem d_M_rule_71 : decode prog_10_method_14_code 71 = .ok (.isub, 1) := by decide +kernel
theorem d_M_rule_72 : decode prog_10_method_14_code 72 = .ok (.iastore, 1) := by decide +kernel
theorem d_M_rule_73 : decode prog_10_method_14_code 73 = .ok (.iconst 0, 1) := by decide +kernel
theorem d_M_rule_74 : decode prog_10_method_14_code 74 = .ok (.istore_n 2, 1) := by decide +kernel
theorem d_M_rule_75 : decode prog_10_method_14_code 75 = .ok (.iload_n 2, 1) := by decide +kernel
theorem d_M_rule_76 : decode prog_10_method_14_code 76 = .ok (.iload_n 1, 1) := by decide +kernel
theorem d_M_rule_77 : decode prog_10_method_14_code 77 = .ok (.iconst 1, 1) := by decide +kernel
theorem d_M_rule_78 : decode prog_10_method_14_code 78 = .ok (.isub, 1) := by decide +kernel
theorem d_M_rule_79 : decode prog_10_method_14_code 79 = .ok (.if_icmp .ge 29, 3) := by decide +kernel
theorem d_M_rule_82 : decode prog_10_method_14_code 82 = .ok (.aload_n 0, 1) := by decide +kernel
theorem d_M_rule_83 : decode prog_10_method_14_code 83 = .ok (.getfield 17, 3) := by decide +kernel
theorem d_M_rule_86 : decode prog_10_method_14_code 86 = .ok (.bipush 14, 2) := by decide +kernel
theorem d_M_rule_88 : decode prog_10_method_14_code 88 = .ok (.aload_n 0, 1) := by decide +kernel
theorem d_M_rule_89 : decode prog_10_method_14_code 89 = .ok (.getfield 113, 3) := by decide +kernel
theorem d_M_rule_92 : decode prog_10_method_14_code 92 = .ok (.imul, 1) := by decide +kernel
theorem d_M_rule_93 : decode prog_10_method_14_code 93 = .ok (.iload_n 2, 1) := by decide +kernel
theorem d_M_rule_94 : decode prog_10_method_14_code 94 = .ok (.iadd, 1) := by decide +kernel
theorem d_M_rule_95 : decode prog_10_method_14_code 95 = .ok (.aload_n 0, 1) := by decide +kernel
theorem d_M_rule_96 : decode prog_10_method_14_code 96 = .ok (.getfield 7, 3) := by decide +kernel
theorem d_M_rule_99 : decode prog_10_method_14_code 99 = .ok (.iload_n 2, 1) := by decide +kernel
theorem d_M_rule_100 : decode prog_10_method_14_code 100 = .ok (.iaload, 1) := by decide +kernel
theorem d_M_rule_101 : decode prog_10_method_14_code 101 = .ok (.iastore, 1) := by decide +kernel
theorem d_M_rule_102 : decode prog_10_method_14_code 102 = .ok (.iinc 2 1, 3) := by decide +kernel
theorem d_M_rule_105 : decode prog_10_method_14_code 105 = .ok (.goto (-30), 3) := by decide +kernel
theorem d_M_rule_108 : decode prog_10_method_14_code 108 = .ok (.iload_n 1, 1) := by decide +kernel
theorem d_M_rule_109 : decode prog_10_method_14_code 109 = .ok (.istore_n 2, 1) := by decide +kernel
theorem d_M_rule_110 : decode prog_10_method_14_code 110 = .ok (.iload_n 2, 1) := by decide +kernel
theorem d_M_rule_111 : decode prog_10_method_14_code 111 = .ok (.aload_n 0, 1) := by decide +kernel
theorem d_M_rule_112 : decode prog_10_method_14_code 112 = .ok (.getfield 79, 3) := by decide +kernel
theorem d_M_rule_115 : decode prog_10_method_14_code 115 = .ok (.if_icmp .ge 34, 3) := by decide +kernel
theorem d_M_rule_118 : decode prog_10_method_14_code 118 = .ok (.aload_n 0, 1) := by decide +kernel
theorem d_M_rule_119 : decode prog_10_method_14_code 119 = .ok (.getfield 17, 3) := by decide +kernel
theorem d_M_rule_122 : decode prog_10_method_14_code 122 = .ok (.bipush 14, 2) := by decide +kernel
theorem d_M_rule_124 : decode prog_10_method_14_code 124 = .ok (.aload_n 0, 1) := by decide +kernel
theorem d_M_rule_125 : decode prog_10_method_14_code 125 = .ok (.getfield 113, 3) := by decide +kernel
theorem d_M_rule_128 : decode prog_10_method_14_code 128 = .ok (.imul, 1) := by decide +kernel
theorem d_M_rule_129 : decode prog_10_method_14_code 129 = .ok (.bipush 7, 2) := by decide +kernel
theorem d_M_rule_131 : decode prog_10_method_14_code 131 = .ok (.iadd, 1) := by decide +kernel
theorem d_M_rule_132 : decode prog_10_method_14_code 132 = .ok (.iload_n 2, 1) := by decide +kernel
theorem d_M_rule_133 : decode prog_10_method_14_code 133 = .ok (.iadd, 1) := by decide +kernel
theorem d_M_rule_134 : decode prog_10_method_14_code 134 = .ok (.iload_n 1, 1) := by decide +kernel
theorem d_M_rule_135 : decode prog_10_method_14_code 135 = .ok (.isub, 1) := by decide +kernel
theorem d_M_rule_136 : decode prog_10_method_14_code 136 = .ok (.aload_n 0, 1) := by decide +kernel
theorem d_M_rule_137 : decode prog_10_method_14_code 137 = .ok (.getfield 7, 3) := by decide +kernel
theorem d_M_rule_140 : decode prog_10_method_14_code 140 = .ok (.iload_n 2, 1) := by decide +kernel
theorem d_M_rule_141 : decode prog_10_method_14_code 141 = .ok (.iaload, 1) := by decide +kernel
theorem d_M_rule_142 : decode prog_10_method_14_code 142 = .ok (.iastore, 1) := by decide +kernel
theorem d_M_rule_143 : decode prog_10_method_14_code 143 = .ok (.iinc 2 1, 3) := by decide +kernel
theorem d_M_rule_146 : decode prog_10_method_14_code 146 = .ok (.goto (-36), 3) := by decide +kernel
theorem d_M_rule_149 : decode prog_10_method_14_code 149 = .ok (.aload_n 0, 1) := by decide +kernel
theorem d_M_rule_150 : decode prog_10_method_14_code 150 = .ok (.dup, 1) := by decide +kernel
theorem d_M_rule_151 : decode prog_10_method_14_code 151 = .ok (.getfield 113, 3) := by decide +kernel
theorem d_M_rule_154 : decode prog_10_method_14_code 154 = .ok (.iconst 1, 1) := by decide +kernel
theorem d_M_rule_155 : decode prog_10_method_14_code 155 = .ok (.iadd, 1) := by decide +kernel
theorem d_M_rule_156 : decode prog_10_method_14_code 156 = .ok (.putfield 113, 3) := by decide +kernel
theorem d_M_rule_159 : decode prog_10_method_14_code 159 = .ok (.aload_n 0, 1) := by decide +kernel
theorem d_M_rule_160 : decode prog_10_method_14_code 160 = .ok (.iconst 0, 1) := by decide +kernel
theorem d_M_rule_161 : decode prog_10_method_14_code 161 = .ok (.putfield 79, 3) := by decide +kernel
theorem d_M_rule_164 : decode prog_10_method_14_code 164 = .ok (.aload_n 0, 1) := by decide +kernel
theorem d_M_rule_165 : decode prog_10_method_14_code 165 = .ok (.getfield 113, 3) := by decide +kernel
theorem d_M_rule_168 : decode prog_10_method_14_code 168 = .ok (.ireturn, 1) := by decide +kernel
theorem d_M_add_0 : decode prog_10_method_26_code 0 = .ok (.aload_n 0, 1) := by decide +kernel
theorem d_M_add_1 : decode prog_10_method_26_code 1 = .ok (.iconst 0, 1) := by decide +kernel
theorem d_M_add_2 : decode prog_10_method_26_code 2 = .ok (.putfield 72, 3) := by decide +kernel
theorem d_M_add_5 : decode prog_10_method_26_code 5 = .ok (.aload_n 0, 1) := by decide +kernel
theorem d_M_add_6 : decode prog_10_method_26_code 6 = .ok (.invokevirtual 157, 3) := by decide +kernel
theorem d_M_add_9 : decode prog_10_method_26_code 9 = .ok (.ifCond .ne 9, 3) := by decide +kernel
theorem d_M_add_12 : decode prog_10_method_26_code 12 = .ok (.aload_n 0, 1) := by decide +kernel
theorem d_M_add_13 : decode prog_10_method_26_code 13 = .ok (.iconst 1, 1) := by decide +kernel
theorem d_M_add_14 : decode prog_10_method_26_code 14 = .ok (.invokevirtual 116, 3) := by decide +kernel
theorem d_M_add_17 : decode prog_10_method_26_code 17 = .ok (.ireturn, 1) := by decide +kernel
theorem d_M_add_18 : decode prog_10_method_26_code 18 = .ok (.aload_n 0, 1) := by decide +kernel
theorem d_M_add_19 : decode prog_10_method_26_code 19 = .ok (.getfield 119, 3) := by decide +kernel
theorem d_M_add_22 : decode prog_10_method_26_code 22 = .ok (.istore_n 1, 1) := by decide +kernel
theorem d_M_add_23 : decode prog_10_method_26_code 23 = .ok (.aload_n 0, 1) := by decide +kernel
theorem d_M_add_24 : decode prog_10_method_26_code 24 = .ok (.getfield 126, 3) := by decide +kernel
theorem d_M_add_27 : decode prog_10_method_26_code 27 = .ok (.istore_n 2, 1) := by decide +kernel
theorem d_M_add_28 : decode prog_10_method_26_code 28 = .ok (.aload_n 0, 1) := by decide +kernel
theorem d_M_add_29 : decode prog_10_method_26_code 29 = .ok (.iconst 0, 1) := by decide +kernel
theorem d_M_add_30 : decode prog_10_method_26_code 30 = .ok (.aload_n 0, 1) := by decide +kernel
theorem d_M_add_31 : decode prog_10_method_26_code 31 = .ok (.getfield 79, 3) := by decide +kernel
theorem d_M_add_34 : decode prog_10_method_26_code 34 = .ok (.iconst 1, 1) := by decide +kernel
theorem d_M_add_35 : decode prog_10_method_26_code 35 = .ok (.invokevirtual 160, 3) := by decide +kernel
theorem d_M_add_38 : decode prog_10_method_26_code 38 = .ok (.istore_n 3, 1) := by decide +kernel
theorem d_M_add_39 : decode prog_10_method_26_code 39 = .ok (.aload_n 0, 1) := by decide +kernel
theorem d_M_add_40 : decode prog_10_method_26_code 40 = .ok (.getfield 119, 3) := by decide +kernel
theorem d_M_add_43 : decode prog_10_method_26_code 43 = .ok (.bipush 40, 2) := by decide +kernel
theorem d_M_add_45 : decode prog_10_method_26_code 45 = .ok (.if_icmp .le 15, 3) := by decide +kernel
theorem d_M_add_48 : decode prog_10_method_26_code 48 = .ok (.aload_n 0, 1) := by decide +kernel
theorem d_M_add_49 : decode prog_10_method_26_code 49 = .ok (.iload_n 1, 1) := by decide +kernel
theorem d_M_add_50 : decode prog_10_method_26_code 50 = .ok (.iload_n 2, 1) := by decide +kernel
theorem d_M_add_51 : decode prog_10_method_26_code 51 = .ok (.invokevirtual 163, 3) := by decide +kernel
theorem d_M_add_54 : decode prog_10_method_26_code 54 = .ok (.aload_n 0, 1) := by decide +kernel
theorem d_M_add_55 : decode prog_10_method_26_code 55 = .ok (.iconst 2, 1) := by decide +kernel
theorem d_M_add_56 : decode prog_10_method_26_code 56 = .ok (.invokevirtual 116, 3) := by decide +kernel
theorem d_M_add_59 : decode prog_10_method_26_code 59 = .ok (.ireturn, 1) := by decide +kernel
theorem d_M_add_60 : decode prog_10_method_26_code 60 = .ok (.aload_n 0, 1) := by decide +kernel
theorem d_M_add_61 : decode prog_10_method_26_code 61 = .ok (.iconst 0, 1) := by decide +kernel
theorem d_M_add_62 : decode prog_10_method_26_code 62 = .ok (.putfield 79, 3) := by decide +kernel
theorem d_M_add_65 : decode prog_10_method_26_code 65 = .ok (.aload_n 0, 1) := by decide +kernel
theorem d_M_add_66 : decode prog_10_method_26_code 66 = .ok (.getfield 119, 3) := by decide +kernel
theorem d_M_add_69 : decode prog_10_method_26_code 69 = .ok (.ireturn, 1) := by decide +kernel
theorem d_M_unite_0 : decode prog_10_method_27_code 0 = .ok (.aload_n 0, 1) := by decide +kernel
theorem d_M_unite_1 : decode prog_10_method_27_code 1 = .ok (.iconst 0, 1) := by decide +kernel
theorem d_M_unite_2 : decode prog_10_method_27_code 2 = .ok (.putfield 72, 3) := by decide +kernel
theorem d_M_unite_5 : decode prog_10_method_27_code 5 = .ok (.aload_n 0, 1) := by decide +kernel
theorem d_M_unite_6 : decode prog_10_method_27_code 6 = .ok (.bipush 60, 2) := by decide +kernel
theorem d_M_unite_8 : decode prog_10_method_27_code 8 = .ok (.iconst 0, 1) := by decide +kernel
theorem d_M_unite_9 : decode prog_10_method_27_code 9 = .ok (.invokevirtual 109, 3) := by decide +kernel
theorem d_M_unite_12 : decode prog_10_method_27_code 12 = .ok (.istore_n 1, 1) := by decide +kernel
theorem d_M_unite_13 : decode prog_10_method_27_code 13 = .ok (.iload_n 1, 1) := by decide +kernel
theorem d_M_unite_14 : decode prog_10_method_27_code 14 = .ok (.ifCond .ge 9, 3) := by decide +kernel
theorem d_M_unite_17 : decode prog_10_method_27_code 17 = .ok (.aload_n 0, 1) := by decide +kernel
theorem d_M_unite_18 : decode prog_10_method_27_code 18 = .ok (.iconst 1, 1) := by decide +kernel
theorem d_M_unite_19 : decode prog_10_method_27_code 19 = .ok (.invokevirtual 116, 3) := by decide +kernel
theorem d_M_unite_22 : decode prog_10_method_27_code 22 = .ok (.ireturn, 1) := by decide +kernel
theorem d_M_unite_23 : decode prog_10_method_27_code 23 = .ok (.aload_n 0, 1) := by decide +kernel
theorem d_M_unite_24 : decode prog_10_method_27_code 24 = .ok (.getfield 119, 3) := by decide +kernel
theorem d_M_unite_27 : decode prog_10_method_27_code 27 = .ok (.istore_n 2, 1) := by decide +kernel
theorem d_M_unite_28 : decode prog_10_method_27_code 28 = .ok (.aload_n 0, 1) := by decide +kernel
theorem d_M_unite_29 : decode prog_10_method_27_code 29 = .ok (.getfield 126, 3) := by decide +kernel
theorem d_M_unite_32 : decode prog_10_method_27_code 32 = .ok (.istore_n 3, 1) := by decide +kernel
theorem d_M_unite_33 : decode prog_10_method_27_code 33 = .ok (.aload_n 0, 1) := by decide +kernel
theorem d_M_unite_34 : decode prog_10_method_27_code 34 = .ok (.iconst 0, 1) := by decide +kernel
theorem d_M_unite_35 : decode prog_10_method_27_code 35 = .ok (.iload_n 1, 1) := by decide +kernel
theorem d_M_unite_36 : decode prog_10_method_27_code 36 = .ok (.iconst 1, 1) := by decide +kernel
theorem d_M_unite_37 : decode prog_10_method_27_code 37 = .ok (.isub, 1) := by decide +kernel
theorem d_M_unite_38 : decode prog_10_method_27_code 38 = .ok (.iconst 1, 1) := by decide +kernel
theorem d_M_unite_39 : decode prog_10_method_27_code 39 = .ok (.invokevirtual 160, 3) := by decide +kernel
theorem d_M_unite_42 : decode prog_10_method_27_code 42 = .ok (.istore 4, 2) := by decide +kernel
theorem d_M_unite_44 : decode prog_10_method_27_code 44 = .ok (.aload_n 0, 1) := by decide +kernel
theorem d_M_unite_45 : decode prog_10_method_27_code 45 = .ok (.getfield 119, 3) := by decide +kernel
theorem d_M_unite_48 : decode prog_10_method_27_code 48 = .ok (.bipush 40, 2) := by decide +kernel
theorem d_M_unite_50 : decode prog_10_method_27_code 50 = .ok (.if_icmp .le 7, 3) := by decide +kernel
theorem d_M_unite_53 : decode prog_10_method_27_code 53 = .ok (.iconst (-1), 1) := by decide +kernel
theorem d_M_unite_54 : decode prog_10_method_27_code 54 = .ok (.goto 13, 3) := by decide +kernel
theorem d_M_unite_57 : decode prog_10_method_27_code 57 = .ok (.aload_n 0, 1) := by decide +kernel
theorem d_M_unite_58 : decode prog_10_method_27_code 58 = .ok (.iload_n 1, 1) := by decide +kernel
theorem d_M_unite_59 : decode prog_10_method_27_code 59 = .ok (.aload_n 0, 1) := by decide +kernel
theorem d_M_unite_60 : decode prog_10_method_27_code 60 = .ok (.getfield 79, 3) := by decide +kernel
theorem d_M_unite_63 : decode prog_10_method_27_code 63 = .ok (.iconst 1, 1) := by decide +kernel
theorem d_M_unite_64 : decode prog_10_method_27_code 64 = .ok (.invokevirtual 160, 3) := by decide +kernel
theorem d_M_unite_67 : decode prog_10_method_27_code 67 = .ok (.istore 5, 2) := by decide +kernel
theorem d_M_unite_69 : decode prog_10_method_27_code 69 = .ok (.aload_n 0, 1) := by decide +kernel
theorem d_M_unite_70 : decode prog_10_method_27_code 70 = .ok (.getfield 119, 3) := by decide +kernel
theorem d_M_unite_73 : decode prog_10_method_27_code 73 = .ok (.bipush 40, 2) := by decide +kernel
theorem d_M_unite_75 : decode prog_10_method_27_code 75 = .ok (.if_icmp .le 15, 3) := by decide +kernel
theorem d_M_unite_78 : decode prog_10_method_27_code 78 = .ok (.aload_n 0, 1) := by decide +kernel
theorem d_M_unite_79 : decode prog_10_method_27_code 79 = .ok (.iload_n 2, 1) := by decide +kernel
theorem d_M_unite_80 : decode prog_10_method_27_code 80 = .ok (.iload_n 3, 1) := by decide +kernel
theorem d_M_unite_81 : decode prog_10_method_27_code 81 = .ok (.invokevirtual 163, 3) := by decide +kernel
theorem d_M_unite_84 : decode prog_10_method_27_code 84 = .ok (.aload_n 0, 1) := by decide +kernel
theorem d_M_unite_85 : decode prog_10_method_27_code 85 = .ok (.iconst 2, 1) := by decide +kernel
theorem d_M_unite_86 : decode prog_10_method_27_code 86 = .ok (.invokevirtual 116, 3) := by decide +kernel
theorem d_M_unite_89 : decode prog_10_method_27_code 89 = .ok (.ireturn, 1) := by decide +kernel
theorem d_M_unite_90 : decode prog_10_method_27_code 90 = .ok (.aload_n 0, 1) := by decide +kernel
theorem d_M_unite_91 : decode prog_10_method_27_code 91 = .ok (.iload 4, 2) := by decide +kernel
theorem d_M_unite_93 : decode prog_10_method_27_code 93 = .ok (.iload 5, 2) := by decide +kernel
theorem d_M_unite_95 : decode prog_10_method_27_code 95 = .ok (.invokevirtual 146, 3) := by decide +kernel
theorem d_M_unite_98 : decode prog_10_method_27_code 98 = .ok (.aload_n 0, 1) := by decide +kernel
theorem d_M_unite_99 : decode prog_10_method_27_code 99 = .ok (.invokevirtual 166, 3) := by decide +kernel
theorem d_M_unite_102 : decode prog_10_method_27_code 102 = .ok (.aload_n 0, 1) := by decide +kernel
theorem d_M_unite_103 : decode prog_10_method_27_code 103 = .ok (.iconst 0, 1) := by decide +kernel
theorem d_M_unite_104 : decode prog_10_method_27_code 104 = .ok (.putfield 79, 3) := by decide +kernel
theorem d_M_unite_107 : decode prog_10_method_27_code 107 = .ok (.aload_n 0, 1) := by decide +kernel
theorem d_M_unite_108 : decode prog_10_method_27_code 108 = .ok (.getfield 126, 3) := by decide +kernel
theorem d_M_unite_111 : decode prog_10_method_27_code 111 = .ok (.ireturn, 1) := by decide +kernel
theorem d_M_same_0 : decode prog_10_method_28_code 0 = .ok (.aload_n 0, 1) := by decide +kernel
theorem d_M_same_1 : decode prog_10_method_28_code 1 = .ok (.iconst 0, 1) := by decide +kernel
theorem d_M_same_2 : decode prog_10_method_28_code 2 = .ok (.putfield 72, 3) := by decide +kernel
theorem d_M_same_5 : decode prog_10_method_28_code 5 = .ok (.aload_n 0, 1) := by decide +kernel
theorem d_M_same_6 : decode prog_10_method_28_code 6 = .ok (.bipush 60, 2) := by decide +kernel
theorem d_M_same_8 : decode prog_10_method_28_code 8 = .ok (.iconst 0, 1) := by decide +kernel
theorem d_M_same_9 : decode prog_10_method_28_code 9 = .ok (.invokevirtual 109, 3) := by decide +kernel
theorem d_M_same_12 : decode prog_10_method_28_code 12 = .ok (.istore_n 1, 1) := by decide +kernel
theorem d_M_same_13 : decode prog_10_method_28_code 13 = .ok (.iload_n 1, 1) := by decide +kernel
theorem d_M_same_14 : decode prog_10_method_28_code 14 = .ok (.ifCond .ge 9, 3) := by decide +kernel
theorem d_M_same_17 : decode prog_10_method_28_code 17 = .ok (.aload_n 0, 1) := by decide +kernel
theorem d_M_same_18 : decode prog_10_method_28_code 18 = .ok (.iconst 1, 1) := by decide +kernel
theorem d_M_same_19 : decode prog_10_method_28_code 19 = .ok (.invokevirtual 116, 3) := by decide +kernel
theorem d_M_same_22 : decode prog_10_method_28_code 22 = .ok (.ireturn, 1) := by decide +kernel
theorem d_M_same_23 : decode prog_10_method_28_code 23 = .ok (.aload_n 0, 1) := by decide +kernel
theorem d_M_same_24 : decode prog_10_method_28_code 24 = .ok (.iconst 0, 1) := by decide +kernel
theorem d_M_same_25 : decode prog_10_method_28_code 25 = .ok (.iload_n 1, 1) := by decide +kernel
theorem d_M_same_26 : decode prog_10_method_28_code 26 = .ok (.iconst 1, 1) := by decide +kernel
theorem d_M_same_27 : decode prog_10_method_28_code 27 = .ok (.isub, 1) := by decide +kernel
theorem d_M_same_28 : decode prog_10_method_28_code 28 = .ok (.iconst 0, 1) := by decide +kernel
theorem d_M_same_29 : decode prog_10_method_28_code 29 = .ok (.invokevirtual 160, 3) := by decide +kernel
theorem d_M_same_32 : decode prog_10_method_28_code 32 = .ok (.istore_n 2, 1) := by decide +kernel
theorem d_M_same_33 : decode prog_10_method_28_code 33 = .ok (.aload_n 0, 1) := by decide +kernel
theorem d_M_same_34 : decode prog_10_method_28_code 34 = .ok (.iload_n 1, 1) := by decide +kernel
theorem d_M_same_35 : decode prog_10_method_28_code 35 = .ok (.aload_n 0, 1) := by decide +kernel
theorem d_M_same_36 : decode prog_10_method_28_code 36 = .ok (.getfield 79, 3) := by decide +kernel
theorem d_M_same_39 : decode prog_10_method_28_code 39 = .ok (.iconst 0, 1) := by decide +kernel
theorem d_M_same_40 : decode prog_10_method_28_code 40 = .ok (.invokevirtual 160, 3) := by decide +kernel
theorem d_M_same_43 : decode prog_10_method_28_code 43 = .ok (.istore_n 3, 1) := by decide +kernel
theorem d_M_same_44 : decode prog_10_method_28_code 44 = .ok (.aload_n 0, 1) := by decide +kernel
theorem d_M_same_45 : decode prog_10_method_28_code 45 = .ok (.iconst 0, 1) := by decide +kernel
theorem d_M_same_46 : decode prog_10_method_28_code 46 = .ok (.putfield 79, 3) := by decide +kernel
theorem d_M_same_49 : decode prog_10_method_28_code 49 = .ok (.iload_n 2, 1) := by decide +kernel
theorem d_M_same_50 : decode prog_10_method_28_code 50 = .ok (.ifCond .lt 7, 3) := by decide +kernel
theorem d_M_same_53 : decode prog_10_method_28_code 53 = .ok (.iload_n 3, 1) := by decide +kernel
theorem d_M_same_54 : decode prog_10_method_28_code 54 = .ok (.ifCond .ge 7, 3) := by decide +kernel
theorem d_M_same_57 : decode prog_10_method_28_code 57 = .ok (.iconst (-1), 1) := by decide +kernel
theorem d_M_same_58 : decode prog_10_method_28_code 58 = .ok (.goto 13, 3) := by decide +kernel
theorem d_M_same_61 : decode prog_10_method_28_code 61 = .ok (.iload_n 2, 1) := by decide +kernel
theorem d_M_same_62 : decode prog_10_method_28_code 62 = .ok (.iload_n 3, 1) := by decide +kernel
theorem d_M_same_63 : decode prog_10_method_28_code 63 = .ok (.if_icmp .ne 7, 3) := by decide +kernel
theorem d_M_same_66 : decode prog_10_method_28_code 66 = .ok (.iconst 1, 1) := by decide +kernel
theorem d_M_same_67 : decode prog_10_method_28_code 67 = .ok (.goto 4, 3) := by decide +kernel
theorem d_M_same_70 : decode prog_10_method_28_code 70 = .ok (.iconst 0, 1) := by decide +kernel
theorem d_M_same_71 : decode prog_10_method_28_code 71 = .ok (.ireturn, 1) := by decide +kernel
theorem d_M_price_0 : decode prog_10_method_29_code 0 = .ok (.aload_n 0, 1) := by decide +kernel
theorem d_M_price_1 : decode prog_10_method_29_code 1 = .ok (.iload_n 1, 1) := by decide +kernel
theorem d_M_price_2 : decode prog_10_method_29_code 2 = .ok (.invokestatic 98, 3) := by decide +kernel
theorem d_M_price_5 : decode prog_10_method_29_code 5 = .ok (.ifCond .lt 17, 3) := by decide +kernel
theorem d_M_price_8 : decode prog_10_method_29_code 8 = .ok (.iload_n 2, 1) := by decide +kernel
theorem d_M_price_9 : decode prog_10_method_29_code 9 = .ok (.iconst 1, 1) := by decide +kernel
theorem d_M_price_10 : decode prog_10_method_29_code 10 = .ok (.ldc 169, 2) := by decide +kernel
theorem d_M_price_12 : decode prog_10_method_29_code 12 = .ok (.invokestatic 75, 3) := by decide +kernel
theorem d_M_price_15 : decode prog_10_method_29_code 15 = .ok (.ifCond .eq 7, 3) := by decide +kernel
theorem d_M_price_18 : decode prog_10_method_29_code 18 = .ok (.iconst 0, 1) := by decide +kernel
theorem d_M_price_19 : decode prog_10_method_29_code 19 = .ok (.goto 4, 3) := by decide +kernel
theorem d_M_price_22 : decode prog_10_method_29_code 22 = .ok (.iconst 1, 1) := by decide +kernel
theorem d_M_price_23 : decode prog_10_method_29_code 23 = .ok (.putfield 72, 3) := by decide +kernel
theorem d_M_price_26 : decode prog_10_method_29_code 26 = .ok (.aload_n 0, 1) := by decide +kernel
theorem d_M_price_27 : decode prog_10_method_29_code 27 = .ok (.getfield 72, 3) := by decide +kernel
theorem d_M_price_30 : decode prog_10_method_29_code 30 = .ok (.ifCond .ne 10, 3) := by decide +kernel
theorem d_M_price_33 : decode prog_10_method_29_code 33 = .ok (.aload_n 0, 1) := by decide +kernel
theorem d_M_price_34 : decode prog_10_method_29_code 34 = .ok (.getfield 56, 3) := by decide +kernel
theorem d_M_price_37 : decode prog_10_method_29_code 37 = .ok (.iload_n 1, 1) := by decide +kernel
theorem d_M_price_38 : decode prog_10_method_29_code 38 = .ok (.iload_n 2, 1) := by decide +kernel
theorem d_M_price_39 : decode prog_10_method_29_code 39 = .ok (.iastore, 1) := by decide +kernel
theorem d_M_price_40 : decode prog_10_method_29_code 40 = .ok (.return_, 1) := by decide +kernel
theorem d_M_kindOf_0 : decode prog_10_method_30_code 0 = .ok (.iload_n 0, 1) := by decide +kernel
theorem d_M_kindOf_1 : decode prog_10_method_30_code 1 = .ok (.bipush 43, 2) := by decide +kernel
theorem d_M_kindOf_3 : decode prog_10_method_30_code 3 = .ok (.if_icmp .eq 9, 3) := by decide +kernel
theorem d_M_kindOf_6 : decode prog_10_method_30_code 6 = .ok (.iload_n 0, 1) := by decide +kernel
theorem d_M_kindOf_7 : decode prog_10_method_30_code 7 = .ok (.bipush 45, 2) := by decide +kernel
theorem d_M_kindOf_9 : decode prog_10_method_30_code 9 = .ok (.if_icmp .ne 7, 3) := by decide +kernel
theorem d_M_kindOf_12 : decode prog_10_method_30_code 12 = .ok (.iconst 0, 1) := by decide +kernel
theorem d_M_kindOf_13 : decode prog_10_method_30_code 13 = .ok (.goto 20, 3) := by decide +kernel
theorem d_M_kindOf_16 : decode prog_10_method_30_code 16 = .ok (.iload_n 0, 1) := by decide +kernel
theorem d_M_kindOf_17 : decode prog_10_method_30_code 17 = .ok (.bipush 42, 2) := by decide +kernel
theorem d_M_kindOf_19 : decode prog_10_method_30_code 19 = .ok (.if_icmp .eq 9, 3) := by decide +kernel
theorem d_M_kindOf_22 : decode prog_10_method_30_code 22 = .ok (.iload_n 0, 1) := by decide +kernel
theorem d_M_kindOf_23 : decode prog_10_method_30_code 23 = .ok (.bipush 33, 2) := by decide +kernel
theorem d_M_kindOf_25 : decode prog_10_method_30_code 25 = .ok (.if_icmp .ne 7, 3) := by decide +kernel
theorem d_M_kindOf_28 : decode prog_10_method_30_code 28 = .ok (.iconst 1, 1) := by decide +kernel
theorem d_M_kindOf_29 : decode prog_10_method_30_code 29 = .ok (.goto 4, 3) := by decide +kernel
theorem d_M_kindOf_32 : decode prog_10_method_30_code 32 = .ok (.iconst 2, 1) := by decide +kernel
theorem d_M_kindOf_33 : decode prog_10_method_30_code 33 = .ok (.ireturn, 1) := by decide +kernel
theorem d_M_fillTables_0 : decode prog_10_method_31_code 0 = .ok (.iconst 0, 1) := by decide +kernel
theorem d_M_fillTables_1 : decode prog_10_method_31_code 1 = .ok (.istore_n 1, 1) := by decide +kernel
theorem d_M_fillTables_2 : decode prog_10_method_31_code 2 = .ok (.iload_n 1, 1) := by decide +kernel
theorem d_M_fillTables_3 : decode prog_10_method_31_code 3 = .ok (.sipush 128, 3) := by decide +kernel
theorem d_M_fillTables_6 : decode prog_10_method_31_code 6 = .ok (.if_icmp .ge 16, 3) := by decide +kernel
theorem d_M_fillTables_9 : decode prog_10_method_31_code 9 = .ok (.aload_n 0, 1) := by decide +kernel
theorem d_M_fillTables_10 : decode prog_10_method_31_code 10 = .ok (.getfield 47, 3) := by decide +kernel
theorem d_M_fillTables_13 : decode prog_10_method_31_code 13 = .ok (.iload_n 1, 1) := by decide +kernel
theorem d_M_fillTables_14 : decode prog_10_method_31_code 14 = .ok (.iconst (-1), 1) := by decide +kernel
theorem d_M_fillTables_15 : decode prog_10_method_31_code 15 = .ok (.iastore, 1) := by decide +kernel
theorem d_M_fillTables_16 : decode prog_10_method_31_code 16 = .ok (.iinc 1 1, 3) := by decide +kernel
theorem d_M_fillTables_19 : decode prog_10_method_31_code 19 = .ok (.goto (-17), 3) := by decide +kernel
theorem d_M_fillTables_22 : decode prog_10_method_31_code 22 = .ok (.iconst 0, 1) := by decide +kernel
theorem d_M_fillTables_23 : decode prog_10_method_31_code 23 = .ok (.istore_n 1, 1) := by decide +kernel
theorem d_M_fillTables_24 : decode prog_10_method_31_code 24 = .ok (.iload_n 1, 1) := by decide +kernel
theorem d_M_fillTables_25 : decode prog_10_method_31_code 25 = .ok (.bipush 80, 2) := by decide +kernel
theorem d_M_fillTables_27 : decode prog_10_method_31_code 27 = .ok (.if_icmp .ge 16, 3) := by decide +kernel
theorem d_M_fillTables_30 : decode prog_10_method_31_code 30 = .ok (.aload_n 0, 1) := by decide +kernel
theorem d_M_fillTables_31 : decode prog_10_method_31_code 31 = .ok (.getfield 50, 3) := by decide +kernel
theorem d_M_fillTables_34 : decode prog_10_method_31_code 34 = .ok (.iload_n 1, 1) := by decide +kernel
theorem d_M_fillTables_35 : decode prog_10_method_31_code 35 = .ok (.iconst (-1), 1) := by decide +kernel
theorem d_M_fillTables_36 : decode prog_10_method_31_code 36 = .ok (.iastore, 1) := by decide +kernel
theorem d_M_fillTables_37 : decode prog_10_method_31_code 37 = .ok (.iinc 1 1, 3) := by decide +kernel
theorem d_M_fillTables_40 : decode prog_10_method_31_code 40 = .ok (.goto (-16), 3) := by decide +kernel
theorem d_M_fillTables_43 : decode prog_10_method_31_code 43 = .ok (.iconst 0, 1) := by decide +kernel
theorem d_M_fillTables_44 : decode prog_10_method_31_code 44 = .ok (.istore_n 1, 1) := by decide +kernel
theorem d_M_fillTables_45 : decode prog_10_method_31_code 45 = .ok (.iload_n 1, 1) := by decide +kernel
theorem d_M_fillTables_46 : decode prog_10_method_31_code 46 = .ok (.sipush 4800, 3) := by decide +kernel
theorem d_M_fillTables_49 : decode prog_10_method_31_code 49 = .ok (.if_icmp .ge 16, 3) := by decide +kernel
theorem d_M_fillTables_52 : decode prog_10_method_31_code 52 = .ok (.aload_n 0, 1) := by decide +kernel
theorem d_M_fillTables_53 : decode prog_10_method_31_code 53 = .ok (.getfield 53, 3) := by decide +kernel
theorem d_M_fillTables_56 : decode prog_10_method_31_code 56 = .ok (.iload_n 1, 1) := by decide +kernel
theorem d_M_fillTables_57 : decode prog_10_method_31_code 57 = .ok (.iconst (-1), 1) := by decide +kernel
theorem d_M_fillTables_58 : decode prog_10_method_31_code 58 = .ok (.iastore, 1) := by decide +kernel
theorem d_M_fillTables_59 : decode prog_10_method_31_code 59 = .ok (.iinc 1 1, 3) := by decide +kernel
theorem d_M_fillTables_62 : decode prog_10_method_31_code 62 = .ok (.goto (-17), 3) := by decide +kernel
theorem d_M_fillTables_65 : decode prog_10_method_31_code 65 = .ok (.iconst 0, 1) := by decide +kernel
theorem d_M_fillTables_66 : decode prog_10_method_31_code 66 = .ok (.istore_n 1, 1) := by decide +kernel
theorem d_M_fillTables_67 : decode prog_10_method_31_code 67 = .ok (.iload_n 1, 1) := by decide +kernel
theorem d_M_fillTables_68 : decode prog_10_method_31_code 68 = .ok (.aload_n 0, 1) := by decide +kernel
theorem d_M_fillTables_69 : decode prog_10_method_31_code 69 = .ok (.getfield 119, 3) := by decide +kernel
theorem d_M_fillTables_72 : decode prog_10_method_31_code 72 = .ok (.if_icmp .ge 110, 3) := by decide +kernel
theorem d_M_fillTables_75 : decode prog_10_method_31_code 75 = .ok (.aload_n 0, 1) := by decide +kernel
theorem d_M_fillTables_76 : decode prog_10_method_31_code 76 = .ok (.getfield 23, 3) := by decide +kernel
theorem d_M_fillTables_79 : decode prog_10_method_31_code 79 = .ok (.iload_n 1, 1) := by decide +kernel
theorem d_M_fillTables_80 : decode prog_10_method_31_code 80 = .ok (.iaload, 1) := by decide +kernel
theorem d_M_fillTables_81 : decode prog_10_method_31_code 81 = .ok (.istore_n 2, 1) := by decide +kernel
theorem d_M_fillTables_82 : decode prog_10_method_31_code 82 = .ok (.iload_n 2, 1) := by decide +kernel
theorem d_M_fillTables_83 : decode prog_10_method_31_code 83 = .ok (.invokestatic 98, 3) := by decide +kernel
theorem d_M_fillTables_86 : decode prog_10_method_31_code 86 = .ok (.ifCond .ne 18, 3) := by decide +kernel
theorem d_M_fillTables_89 : decode prog_10_method_31_code 89 = .ok (.aload_n 0, 1) := by decide +kernel
theorem d_M_fillTables_90 : decode prog_10_method_31_code 90 = .ok (.getfield 47, 3) := by decide +kernel
theorem d_M_fillTables_93 : decode prog_10_method_31_code 93 = .ok (.iload_n 2, 1) := by decide +kernel
theorem d_M_fillTables_94 : decode prog_10_method_31_code 94 = .ok (.aload_n 0, 1) := by decide +kernel
theorem d_M_fillTables_95 : decode prog_10_method_31_code 95 = .ok (.getfield 32, 3) := by decide +kernel
theorem d_M_fillTables_98 : decode prog_10_method_31_code 98 = .ok (.iload_n 1, 1) := by decide +kernel
theorem d_M_fillTables_99 : decode prog_10_method_31_code 99 = .ok (.iaload, 1) := by decide +kernel
theorem d_M_fillTables_100 : decode prog_10_method_31_code 100 = .ok (.iastore, 1) := by decide +kernel
theorem d_M_fillTables_101 : decode prog_10_method_31_code 101 = .ok (.goto 75, 3) := by decide +kernel
theorem d_M_fillTables_104 : decode prog_10_method_31_code 104 = .ok (.iload_n 2, 1) := by decide +kernel
theorem d_M_fillTables_105 : decode prog_10_method_31_code 105 = .ok (.invokestatic 98, 3) := by decide +kernel
theorem d_M_fillTables_108 : decode prog_10_method_31_code 108 = .ok (.iconst 1, 1) := by decide +kernel
theorem d_M_fillTables_109 : decode prog_10_method_31_code 109 = .ok (.if_icmp .ne 31, 3) := by decide +kernel
theorem d_M_fillTables_112 : decode prog_10_method_31_code 112 = .ok (.aload_n 0, 1) := by decide +kernel
theorem d_M_fillTables_113 : decode prog_10_method_31_code 113 = .ok (.getfield 50, 3) := by decide +kernel
theorem d_M_fillTables_116 : decode prog_10_method_31_code 116 = .ok (.bipush 40, 2) := by decide +kernel
theorem d_M_fillTables_118 : decode prog_10_method_31_code 118 = .ok (.iload_n 2, 1) := by decide +kernel
theorem d_M_fillTables_119 : decode prog_10_method_31_code 119 = .ok (.invokestatic 170, 3) := by decide +kernel
theorem d_M_fillTables_122 : decode prog_10_method_31_code 122 = .ok (.imul, 1) := by decide +kernel
theorem d_M_fillTables_123 : decode prog_10_method_31_code 123 = .ok (.aload_n 0, 1) := by decide +kernel
theorem d_M_fillTables_124 : decode prog_10_method_31_code 124 = .ok (.getfield 26, 3) := by decide +kernel
theorem d_M_fillTables_127 : decode prog_10_method_31_code 127 = .ok (.iload_n 1, 1) := by decide +kernel
theorem d_M_fillTables_128 : decode prog_10_method_31_code 128 = .ok (.iaload, 1) := by decide +kernel
theorem d_M_fillTables_129 : decode prog_10_method_31_code 129 = .ok (.iadd, 1) := by decide +kernel
theorem d_M_fillTables_130 : decode prog_10_method_31_code 130 = .ok (.aload_n 0, 1) := by decide +kernel
theorem d_M_fillTables_131 : decode prog_10_method_31_code 131 = .ok (.getfield 32, 3) := by decide +kernel
theorem d_M_fillTables_134 : decode prog_10_method_31_code 134 = .ok (.iload_n 1, 1) := by decide +kernel
theorem d_M_fillTables_135 : decode prog_10_method_31_code 135 = .ok (.iaload, 1) := by decide +kernel
theorem d_M_fillTables_136 : decode prog_10_method_31_code 136 = .ok (.iastore, 1) := by decide +kernel
theorem d_M_fillTables_137 : decode prog_10_method_31_code 137 = .ok (.goto 39, 3) := by decide +kernel
theorem d_M_fillTables_140 : decode prog_10_method_31_code 140 = .ok (.aload_n 0, 1) := by decide +kernel
theorem d_M_fillTables_141 : decode prog_10_method_31_code 141 = .ok (.getfield 53, 3) := by decide +kernel
theorem d_M_fillTables_144 : decode prog_10_method_31_code 144 = .ok (.sipush 1600, 3) := by decide +kernel
theorem d_M_fillTables_147 : decode prog_10_method_31_code 147 = .ok (.iload_n 2, 1) := by decide +kernel
theorem d_M_fillTables_148 : decode prog_10_method_31_code 148 = .ok (.invokestatic 170, 3) := by decide +kernel
theorem d_M_fillTables_151 : decode prog_10_method_31_code 151 = .ok (.imul, 1) := by decide +kernel
theorem d_M_fillTables_152 : decode prog_10_method_31_code 152 = .ok (.bipush 40, 2) := by decide +kernel
theorem d_M_fillTables_154 : decode prog_10_method_31_code 154 = .ok (.aload_n 0, 1) := by decide +kernel
theorem d_M_fillTables_155 : decode prog_10_method_31_code 155 = .ok (.getfield 26, 3) := by decide +kernel
theorem d_M_fillTables_158 : decode prog_10_method_31_code 158 = .ok (.iload_n 1, 1) := by decide +kernel
theorem d_M_fillTables_159 : decode prog_10_method_31_code 159 = .ok (.iaload, 1) := by decide +kernel
theorem d_M_fillTables_160 : decode prog_10_method_31_code 160 = .ok (.imul, 1) := by decide +kernel
theorem d_M_fillTables_161 : decode prog_10_method_31_code 161 = .ok (.iadd, 1) := by decide +kernel
theorem d_M_fillTables_162 : decode prog_10_method_31_code 162 = .ok (.aload_n 0, 1) := by decide +kernel
theorem d_M_fillTables_163 : decode prog_10_method_31_code 163 = .ok (.getfield 29, 3) := by decide +kernel
theorem d_M_fillTables_166 : decode prog_10_method_31_code 166 = .ok (.iload_n 1, 1) := by decide +kernel
theorem d_M_fillTables_167 : decode prog_10_method_31_code 167 = .ok (.iaload, 1) := by decide +kernel
theorem d_M_fillTables_168 : decode prog_10_method_31_code 168 = .ok (.iadd, 1) := by decide +kernel
theorem d_M_fillTables_169 : decode prog_10_method_31_code 169 = .ok (.aload_n 0, 1) := by decide +kernel
theorem d_M_fillTables_170 : decode prog_10_method_31_code 170 = .ok (.getfield 32, 3) := by decide +kernel
theorem d_M_fillTables_173 : decode prog_10_method_31_code 173 = .ok (.iload_n 1, 1) := by decide +kernel
theorem d_M_fillTables_174 : decode prog_10_method_31_code 174 = .ok (.iaload, 1) := by decide +kernel
theorem d_M_fillTables_175 : decode prog_10_method_31_code 175 = .ok (.iastore, 1) := by decide +kernel
theorem d_M_fillTables_176 : decode prog_10_method_31_code 176 = .ok (.iinc 1 1, 3) := by decide +kernel
theorem d_M_fillTables_179 : decode prog_10_method_31_code 179 = .ok (.goto (-112), 3) := by decide +kernel
theorem d_M_fillTables_182 : decode prog_10_method_31_code 182 = .ok (.return_, 1) := by decide +kernel
theorem d_M_oneRound_0 : decode prog_10_method_36_code 0 = .ok (.aload_n 0, 1) := by decide +kernel
theorem d_M_oneRound_1 : decode prog_10_method_36_code 1 = .ok (.getfield 119, 3) := by decide +kernel
theorem d_M_oneRound_4 : decode prog_10_method_36_code 4 = .ok (.istore_n 1, 1) := by decide +kernel
theorem d_M_oneRound_5 : decode prog_10_method_36_code 5 = .ok (.aload_n 0, 1) := by decide +kernel
theorem d_M_oneRound_6 : decode prog_10_method_36_code 6 = .ok (.getfield 126, 3) := by decide +kernel
theorem d_M_oneRound_9 : decode prog_10_method_36_code 9 = .ok (.istore_n 2, 1) := by decide +kernel
theorem d_M_oneRound_10 : decode prog_10_method_36_code 10 = .ok (.aload_n 0, 1) := by decide +kernel
theorem d_M_oneRound_11 : decode prog_10_method_36_code 11 = .ok (.iconst 0, 1) := by decide +kernel
theorem d_M_oneRound_12 : decode prog_10_method_36_code 12 = .ok (.putfield 139, 3) := by decide +kernel
theorem d_M_oneRound_15 : decode prog_10_method_36_code 15 = .ok (.aload_n 0, 1) := by decide +kernel
theorem d_M_oneRound_16 : decode prog_10_method_36_code 16 = .ok (.invokevirtual 186, 3) := by decide +kernel
theorem d_M_oneRound_19 : decode prog_10_method_36_code 19 = .ok (.iconst 0, 1) := by decide +kernel
theorem d_M_oneRound_20 : decode prog_10_method_36_code 20 = .ok (.istore_n 3, 1) := by decide +kernel
theorem d_M_oneRound_21 : decode prog_10_method_36_code 21 = .ok (.iload_n 3, 1) := by decide +kernel
theorem d_M_oneRound_22 : decode prog_10_method_36_code 22 = .ok (.aload_n 0, 1) := by decide +kernel
theorem d_M_oneRound_23 : decode prog_10_method_36_code 23 = .ok (.getfield 113, 3) := by decide +kernel
theorem d_M_oneRound_26 : decode prog_10_method_36_code 26 = .ok (.if_icmp .ge 15, 3) := by decide +kernel
theorem d_M_oneRound_29 : decode prog_10_method_36_code 29 = .ok (.aload_n 0, 1) := by decide +kernel
theorem d_M_oneRound_30 : decode prog_10_method_36_code 30 = .ok (.iload_n 3, 1) := by decide +kernel
theorem d_M_oneRound_31 : decode prog_10_method_36_code 31 = .ok (.iload_n 2, 1) := by decide +kernel
theorem d_M_oneRound_32 : decode prog_10_method_36_code 32 = .ok (.invokevirtual 189, 3) := by decide +kernel
theorem d_M_oneRound_35 : decode prog_10_method_36_code 35 = .ok (.iinc 3 1, 3) := by decide +kernel
theorem d_M_oneRound_38 : decode prog_10_method_36_code 38 = .ok (.goto (-17), 3) := by decide +kernel
theorem d_M_oneRound_41 : decode prog_10_method_36_code 41 = .ok (.aload_n 0, 1) := by decide +kernel
theorem d_M_oneRound_42 : decode prog_10_method_36_code 42 = .ok (.getfield 119, 3) := by decide +kernel
theorem d_M_oneRound_45 : decode prog_10_method_36_code 45 = .ok (.bipush 40, 2) := by decide +kernel
theorem d_M_oneRound_47 : decode prog_10_method_36_code 47 = .ok (.if_icmp .le 12, 3) := by decide +kernel
theorem d_M_oneRound_50 : decode prog_10_method_36_code 50 = .ok (.aload_n 0, 1) := by decide +kernel
theorem d_M_oneRound_51 : decode prog_10_method_36_code 51 = .ok (.iload_n 1, 1) := by decide +kernel
theorem d_M_oneRound_52 : decode prog_10_method_36_code 52 = .ok (.iload_n 2, 1) := by decide +kernel
theorem d_M_oneRound_53 : decode prog_10_method_36_code 53 = .ok (.invokevirtual 163, 3) := by decide +kernel
theorem d_M_oneRound_56 : decode prog_10_method_36_code 56 = .ok (.bipush (-2), 2) := by decide +kernel
theorem d_M_oneRound_58 : decode prog_10_method_36_code 58 = .ok (.ireturn, 1) := by decide +kernel
theorem d_M_oneRound_59 : decode prog_10_method_36_code 59 = .ok (.aload_n 0, 1) := by decide +kernel
theorem d_M_oneRound_60 : decode prog_10_method_36_code 60 = .ok (.getfield 119, 3) := by decide +kernel
theorem d_M_oneRound_63 : decode prog_10_method_36_code 63 = .ok (.iload_n 1, 1) := by decide +kernel
theorem d_M_oneRound_64 : decode prog_10_method_36_code 64 = .ok (.if_icmp .le 7, 3) := by decide +kernel
theorem d_M_oneRound_67 : decode prog_10_method_36_code 67 = .ok (.iconst 1, 1) := by decide +kernel
theorem d_M_oneRound_68 : decode prog_10_method_36_code 68 = .ok (.goto 4, 3) := by decide +kernel
theorem d_M_oneRound_71 : decode prog_10_method_36_code 71 = .ok (.iconst 0, 1) := by decide +kernel
theorem d_M_oneRound_72 : decode prog_10_method_36_code 72 = .ok (.istore_n 3, 1) := by decide +kernel
theorem d_M_oneRound_73 : decode prog_10_method_36_code 73 = .ok (.aload_n 0, 1) := by decide +kernel
theorem d_M_oneRound_74 : decode prog_10_method_36_code 74 = .ok (.invokevirtual 166, 3) := by decide +kernel
theorem d_M_oneRound_77 : decode prog_10_method_36_code 77 = .ok (.iload_n 3, 1) := by decide +kernel
theorem d_M_oneRound_78 : decode prog_10_method_36_code 78 = .ok (.ifCond .ne 10, 3) := by decide +kernel
theorem d_M_oneRound_81 : decode prog_10_method_36_code 81 = .ok (.aload_n 0, 1) := by decide +kernel
theorem d_M_oneRound_82 : decode prog_10_method_36_code 82 = .ok (.getfield 139, 3) := by decide +kernel
theorem d_M_oneRound_85 : decode prog_10_method_36_code 85 = .ok (.ifCond .eq 7, 3) := by decide +kernel
theorem d_M_oneRound_88 : decode prog_10_method_36_code 88 = .ok (.iconst 1, 1) := by decide +kernel
theorem d_M_oneRound_89 : decode prog_10_method_36_code 89 = .ok (.goto 4, 3) := by decide +kernel
theorem d_M_oneRound_92 : decode prog_10_method_36_code 92 = .ok (.iconst 0, 1) := by decide +kernel
theorem d_M_oneRound_93 : decode prog_10_method_36_code 93 = .ok (.ireturn, 1) := by decide +kernel
theorem d_M_rounds_0 : decode prog_10_method_37_code 0 = .ok (.aload_n 0, 1) := by decide +kernel
theorem d_M_rounds_1 : decode prog_10_method_37_code 1 = .ok (.iload_n 1, 1) := by decide +kernel
theorem d_M_rounds_2 : decode prog_10_method_37_code 2 = .ok (.iconst 0, 1) := by decide +kernel
theorem d_M_rounds_3 : decode prog_10_method_37_code 3 = .ok (.bipush 20, 2) := by decide +kernel
theorem d_M_rounds_5 : decode prog_10_method_37_code 5 = .ok (.invokestatic 75, 3) := by decide +kernel
theorem d_M_rounds_8 : decode prog_10_method_37_code 8 = .ok (.ifCond .eq 7, 3) := by decide +kernel
theorem d_M_rounds_11 : decode prog_10_method_37_code 11 = .ok (.iconst 0, 1) := by decide +kernel
theorem d_M_rounds_12 : decode prog_10_method_37_code 12 = .ok (.goto 4, 3) := by decide +kernel
theorem d_M_rounds_15 : decode prog_10_method_37_code 15 = .ok (.iconst 1, 1) := by decide +kernel
theorem d_M_rounds_16 : decode prog_10_method_37_code 16 = .ok (.putfield 72, 3) := by decide +kernel
theorem d_M_rounds_19 : decode prog_10_method_37_code 19 = .ok (.aload_n 0, 1) := by decide +kernel
theorem d_M_rounds_20 : decode prog_10_method_37_code 20 = .ok (.getfield 72, 3) := by decide +kernel
theorem d_M_rounds_23 : decode prog_10_method_37_code 23 = .ok (.ifCond .le 5, 3) := by decide +kernel
theorem d_M_rounds_26 : decode prog_10_method_37_code 26 = .ok (.iconst 0, 1) := by decide +kernel
theorem d_M_rounds_27 : decode prog_10_method_37_code 27 = .ok (.ireturn, 1) := by decide +kernel
theorem d_M_rounds_28 : decode prog_10_method_37_code 28 = .ok (.iconst 0, 1) := by decide +kernel
theorem d_M_rounds_29 : decode prog_10_method_37_code 29 = .ok (.istore_n 2, 1) := by decide +kernel
theorem d_M_rounds_30 : decode prog_10_method_37_code 30 = .ok (.iload_n 2, 1) := by decide +kernel
theorem d_M_rounds_31 : decode prog_10_method_37_code 31 = .ok (.iload_n 1, 1) := by decide +kernel
theorem d_M_rounds_32 : decode prog_10_method_37_code 32 = .ok (.if_icmp .ge 32, 3) := by decide +kernel
theorem d_M_rounds_35 : decode prog_10_method_37_code 35 = .ok (.aload_n 0, 1) := by decide +kernel
theorem d_M_rounds_36 : decode prog_10_method_37_code 36 = .ok (.invokevirtual 192, 3) := by decide +kernel
theorem d_M_rounds_39 : decode prog_10_method_37_code 39 = .ok (.istore_n 3, 1) := by decide +kernel
theorem d_M_rounds_40 : decode prog_10_method_37_code 40 = .ok (.iload_n 3, 1) := by decide +kernel
theorem d_M_rounds_41 : decode prog_10_method_37_code 41 = .ok (.iconst 1, 1) := by decide +kernel
theorem d_M_rounds_42 : decode prog_10_method_37_code 42 = .ok (.if_icmp .eq 16, 3) := by decide +kernel
theorem d_M_rounds_45 : decode prog_10_method_37_code 45 = .ok (.iload_n 3, 1) := by decide +kernel
theorem d_M_rounds_46 : decode prog_10_method_37_code 46 = .ok (.bipush (-2), 2) := by decide +kernel
theorem d_M_rounds_48 : decode prog_10_method_37_code 48 = .ok (.if_icmp .ne 8, 3) := by decide +kernel
theorem d_M_rounds_51 : decode prog_10_method_37_code 51 = .ok (.bipush (-2), 2) := by decide +kernel
theorem d_M_rounds_53 : decode prog_10_method_37_code 53 = .ok (.goto 4, 3) := by decide +kernel
theorem d_M_rounds_56 : decode prog_10_method_37_code 56 = .ok (.iload_n 2, 1) := by decide +kernel
theorem d_M_rounds_57 : decode prog_10_method_37_code 57 = .ok (.ireturn, 1) := by decide +kernel
theorem d_M_rounds_58 : decode prog_10_method_37_code 58 = .ok (.iinc 2 1, 3) := by decide +kernel
theorem d_M_rounds_61 : decode prog_10_method_37_code 61 = .ok (.goto (-31), 3) := by decide +kernel
theorem d_M_rounds_64 : decode prog_10_method_37_code 64 = .ok (.iload_n 2, 1) := by decide +kernel
theorem d_M_rounds_65 : decode prog_10_method_37_code 65 = .ok (.ireturn, 1) := by decide +kernel
theorem d_M_nodes_0 : decode prog_10_method_38_code 0 = .ok (.aload_n 0, 1) := by decide +kernel
theorem d_M_nodes_1 : decode prog_10_method_38_code 1 = .ok (.iconst 0, 1) := by decide +kernel
theorem d_M_nodes_2 : decode prog_10_method_38_code 2 = .ok (.putfield 72, 3) := by decide +kernel
theorem d_M_nodes_5 : decode prog_10_method_38_code 5 = .ok (.aload_n 0, 1) := by decide +kernel
theorem d_M_nodes_6 : decode prog_10_method_38_code 6 = .ok (.getfield 119, 3) := by decide +kernel
theorem d_M_nodes_9 : decode prog_10_method_38_code 9 = .ok (.ireturn, 1) := by decide +kernel
theorem d_M_classes_0 : decode prog_10_method_39_code 0 = .ok (.aload_n 0, 1) := by decide +kernel
theorem d_M_classes_1 : decode prog_10_method_39_code 1 = .ok (.iconst 0, 1) := by decide +kernel
theorem d_M_classes_2 : decode prog_10_method_39_code 2 = .ok (.putfield 72, 3) := by decide +kernel
theorem d_M_classes_5 : decode prog_10_method_39_code 5 = .ok (.aload_n 0, 1) := by decide +kernel
theorem d_M_classes_6 : decode prog_10_method_39_code 6 = .ok (.getfield 126, 3) := by decide +kernel
theorem d_M_classes_9 : decode prog_10_method_39_code 9 = .ok (.ireturn, 1) := by decide +kernel
theorem d_M_asked_0 : decode prog_10_method_40_code 0 = .ok (.aload_n 0, 1) := by decide +kernel
theorem d_M_asked_1 : decode prog_10_method_40_code 1 = .ok (.invokevirtual 157, 3) := by decide +kernel
theorem d_M_asked_4 : decode prog_10_method_40_code 4 = .ok (.ifCond .ne 9, 3) := by decide +kernel
theorem d_M_asked_7 : decode prog_10_method_40_code 7 = .ok (.aload_n 0, 1) := by decide +kernel
theorem d_M_asked_8 : decode prog_10_method_40_code 8 = .ok (.iconst 1, 1) := by decide +kernel
theorem d_M_asked_9 : decode prog_10_method_40_code 9 = .ok (.invokevirtual 116, 3) := by decide +kernel
theorem d_M_asked_12 : decode prog_10_method_40_code 12 = .ok (.ireturn, 1) := by decide +kernel
theorem d_M_asked_13 : decode prog_10_method_40_code 13 = .ok (.aload_n 0, 1) := by decide +kernel
theorem d_M_asked_14 : decode prog_10_method_40_code 14 = .ok (.iconst 0, 1) := by decide +kernel
theorem d_M_asked_15 : decode prog_10_method_40_code 15 = .ok (.putfield 72, 3) := by decide +kernel
theorem d_M_asked_18 : decode prog_10_method_40_code 18 = .ok (.aload_n 0, 1) := by decide +kernel
theorem d_M_asked_19 : decode prog_10_method_40_code 19 = .ok (.iconst 0, 1) := by decide +kernel
theorem d_M_asked_20 : decode prog_10_method_40_code 20 = .ok (.aload_n 0, 1) := by decide +kernel
theorem d_M_asked_21 : decode prog_10_method_40_code 21 = .ok (.getfield 79, 3) := by decide +kernel
theorem d_M_asked_24 : decode prog_10_method_40_code 24 = .ok (.iconst 0, 1) := by decide +kernel
theorem d_M_asked_25 : decode prog_10_method_40_code 25 = .ok (.invokevirtual 160, 3) := by decide +kernel
theorem d_M_asked_28 : decode prog_10_method_40_code 28 = .ok (.istore_n 1, 1) := by decide +kernel
theorem d_M_asked_29 : decode prog_10_method_40_code 29 = .ok (.aload_n 0, 1) := by decide +kernel
theorem d_M_asked_30 : decode prog_10_method_40_code 30 = .ok (.iconst 0, 1) := by decide +kernel
theorem d_M_asked_31 : decode prog_10_method_40_code 31 = .ok (.putfield 79, 3) := by decide +kernel
theorem d_M_asked_34 : decode prog_10_method_40_code 34 = .ok (.iload_n 1, 1) := by decide +kernel
theorem d_M_asked_35 : decode prog_10_method_40_code 35 = .ok (.ireturn, 1) := by decide +kernel
theorem d_M_members_0 : decode prog_10_method_41_code 0 = .ok (.aload_n 0, 1) := by decide +kernel
theorem d_M_members_1 : decode prog_10_method_41_code 1 = .ok (.invokevirtual 196, 3) := by decide +kernel
theorem d_M_members_4 : decode prog_10_method_41_code 4 = .ok (.istore_n 1, 1) := by decide +kernel
theorem d_M_members_5 : decode prog_10_method_41_code 5 = .ok (.aload_n 0, 1) := by decide +kernel
theorem d_M_members_6 : decode prog_10_method_41_code 6 = .ok (.getfield 72, 3) := by decide +kernel
theorem d_M_members_9 : decode prog_10_method_41_code 9 = .ok (.ifCond .le 5, 3) := by decide +kernel
theorem d_M_members_12 : decode prog_10_method_41_code 12 = .ok (.iconst 0, 1) := by decide +kernel
theorem d_M_members_13 : decode prog_10_method_41_code 13 = .ok (.ireturn, 1) := by decide +kernel
theorem d_M_members_14 : decode prog_10_method_41_code 14 = .ok (.iconst 0, 1) := by decide +kernel
theorem d_M_members_15 : decode prog_10_method_41_code 15 = .ok (.istore_n 2, 1) := by decide +kernel
theorem d_M_members_16 : decode prog_10_method_41_code 16 = .ok (.iconst 0, 1) := by decide +kernel
theorem d_M_members_17 : decode prog_10_method_41_code 17 = .ok (.istore_n 3, 1) := by decide +kernel
theorem d_M_members_18 : decode prog_10_method_41_code 18 = .ok (.iload_n 3, 1) := by decide +kernel
theorem d_M_members_19 : decode prog_10_method_41_code 19 = .ok (.aload_n 0, 1) := by decide +kernel
theorem d_M_members_20 : decode prog_10_method_41_code 20 = .ok (.getfield 119, 3) := by decide +kernel
theorem d_M_members_23 : decode prog_10_method_41_code 23 = .ok (.if_icmp .ge 27, 3) := by decide +kernel
theorem d_M_members_26 : decode prog_10_method_41_code 26 = .ok (.aload_n 0, 1) := by decide +kernel
theorem d_M_members_27 : decode prog_10_method_41_code 27 = .ok (.getfield 32, 3) := by decide +kernel
theorem d_M_members_30 : decode prog_10_method_41_code 30 = .ok (.iload_n 3, 1) := by decide +kernel
theorem d_M_members_31 : decode prog_10_method_41_code 31 = .ok (.iaload, 1) := by decide +kernel
theorem d_M_members_32 : decode prog_10_method_41_code 32 = .ok (.iload_n 1, 1) := by decide +kernel
theorem d_M_members_33 : decode prog_10_method_41_code 33 = .ok (.if_icmp .ne 9, 3) := by decide +kernel
theorem d_M_members_36 : decode prog_10_method_41_code 36 = .ok (.iload_n 2, 1) := by decide +kernel
theorem d_M_members_37 : decode prog_10_method_41_code 37 = .ok (.iconst 1, 1) := by decide +kernel
theorem d_M_members_38 : decode prog_10_method_41_code 38 = .ok (.iadd, 1) := by decide +kernel
theorem d_M_members_39 : decode prog_10_method_41_code 39 = .ok (.goto 4, 3) := by decide +kernel
theorem d_M_members_42 : decode prog_10_method_41_code 42 = .ok (.iload_n 2, 1) := by decide +kernel
theorem d_M_members_43 : decode prog_10_method_41_code 43 = .ok (.istore_n 2, 1) := by decide +kernel
theorem d_M_members_44 : decode prog_10_method_41_code 44 = .ok (.iinc 3 1, 3) := by decide +kernel
theorem d_M_members_47 : decode prog_10_method_41_code 47 = .ok (.goto (-29), 3) := by decide +kernel
theorem d_M_members_50 : decode prog_10_method_41_code 50 = .ok (.iload_n 1, 1) := by decide +kernel
theorem d_M_members_51 : decode prog_10_method_41_code 51 = .ok (.ifCond .ge 7, 3) := by decide +kernel
theorem d_M_members_54 : decode prog_10_method_41_code 54 = .ok (.iconst (-1), 1) := by decide +kernel
theorem d_M_members_55 : decode prog_10_method_41_code 55 = .ok (.goto 4, 3) := by decide +kernel
theorem d_M_members_58 : decode prog_10_method_41_code 58 = .ok (.iload_n 2, 1) := by decide +kernel
theorem d_M_members_59 : decode prog_10_method_41_code 59 = .ok (.ireturn, 1) := by decide +kernel
theorem d_M_cost_0 : decode prog_10_method_46_code 0 = .ok (.aload_n 0, 1) := by decide +kernel
theorem d_M_cost_1 : decode prog_10_method_46_code 1 = .ok (.invokevirtual 196, 3) := by decide +kernel
theorem d_M_cost_4 : decode prog_10_method_46_code 4 = .ok (.istore_n 1, 1) := by decide +kernel
theorem d_M_cost_5 : decode prog_10_method_46_code 5 = .ok (.aload_n 0, 1) := by decide +kernel
theorem d_M_cost_6 : decode prog_10_method_46_code 6 = .ok (.getfield 72, 3) := by decide +kernel
theorem d_M_cost_9 : decode prog_10_method_46_code 9 = .ok (.ifCond .le 5, 3) := by decide +kernel
theorem d_M_cost_12 : decode prog_10_method_46_code 12 = .ok (.lconst 0, 1) := by decide +kernel
theorem d_M_cost_13 : decode prog_10_method_46_code 13 = .ok (.lreturn, 1) := by decide +kernel
theorem d_M_cost_14 : decode prog_10_method_46_code 14 = .ok (.iload_n 1, 1) := by decide +kernel
theorem d_M_cost_15 : decode prog_10_method_46_code 15 = .ok (.ifCond .ge 7, 3) := by decide +kernel
theorem d_M_cost_18 : decode prog_10_method_46_code 18 = .ok (.ldc2_w 223, 3) := by decide +kernel
theorem d_M_cost_21 : decode prog_10_method_46_code 21 = .ok (.lreturn, 1) := by decide +kernel
theorem d_M_cost_22 : decode prog_10_method_46_code 22 = .ok (.aload_n 0, 1) := by decide +kernel
theorem d_M_cost_23 : decode prog_10_method_46_code 23 = .ok (.invokevirtual 225, 3) := by decide +kernel
theorem d_M_cost_26 : decode prog_10_method_46_code 26 = .ok (.aload_n 0, 1) := by decide +kernel
theorem d_M_cost_27 : decode prog_10_method_46_code 27 = .ok (.getfield 59, 3) := by decide +kernel
theorem d_M_cost_30 : decode prog_10_method_46_code 30 = .ok (.iload_n 1, 1) := by decide +kernel
theorem d_M_cost_31 : decode prog_10_method_46_code 31 = .ok (.laload, 1) := by decide +kernel
theorem d_M_cost_32 : decode prog_10_method_46_code 32 = .ok (.ldc2_w 199, 3) := by decide +kernel
theorem d_M_cost_35 : decode prog_10_method_46_code 35 = .ok (.lcmp, 1) := by decide +kernel
theorem d_M_cost_36 : decode prog_10_method_46_code 36 = .ok (.ifCond .le 9, 3) := by decide +kernel
theorem d_M_cost_39 : decode prog_10_method_46_code 39 = .ok (.ldc2_w 228, 3) := by decide +kernel
theorem d_M_cost_42 : decode prog_10_method_46_code 42 = .ok (.goto 9, 3) := by decide +kernel
theorem d_M_cost_45 : decode prog_10_method_46_code 45 = .ok (.aload_n 0, 1) := by decide +kernel
theorem d_M_cost_46 : decode prog_10_method_46_code 46 = .ok (.getfield 59, 3) := by decide +kernel
theorem d_M_cost_49 : decode prog_10_method_46_code 49 = .ok (.iload_n 1, 1) := by decide +kernel
theorem d_M_cost_50 : decode prog_10_method_46_code 50 = .ok (.laload, 1) := by decide +kernel
theorem d_M_cost_51 : decode prog_10_method_46_code 51 = .ok (.lreturn, 1) := by decide +kernel
theorem d_M_best_0 : decode prog_10_method_47_code 0 = .ok (.aload_n 0, 1) := by decide +kernel
theorem d_M_best_1 : decode prog_10_method_47_code 1 = .ok (.invokevirtual 196, 3) := by decide +kernel
theorem d_M_best_4 : decode prog_10_method_47_code 4 = .ok (.istore_n 1, 1) := by decide +kernel
theorem d_M_best_5 : decode prog_10_method_47_code 5 = .ok (.aload_n 0, 1) := by decide +kernel
theorem d_M_best_6 : decode prog_10_method_47_code 6 = .ok (.getfield 72, 3) := by decide +kernel
theorem d_M_best_9 : decode prog_10_method_47_code 9 = .ok (.ifCond .le 5, 3) := by decide +kernel
theorem d_M_best_12 : decode prog_10_method_47_code 12 = .ok (.iconst 0, 1) := by decide +kernel
theorem d_M_best_13 : decode prog_10_method_47_code 13 = .ok (.ireturn, 1) := by decide +kernel
theorem d_M_best_14 : decode prog_10_method_47_code 14 = .ok (.iload_n 1, 1) := by decide +kernel
theorem d_M_best_15 : decode prog_10_method_47_code 15 = .ok (.ifCond .ge 5, 3) := by decide +kernel
theorem d_M_best_18 : decode prog_10_method_47_code 18 = .ok (.iconst (-1), 1) := by decide +kernel
theorem d_M_best_19 : decode prog_10_method_47_code 19 = .ok (.ireturn, 1) := by decide +kernel
theorem d_M_best_20 : decode prog_10_method_47_code 20 = .ok (.aload_n 0, 1) := by decide +kernel
theorem d_M_best_21 : decode prog_10_method_47_code 21 = .ok (.invokevirtual 225, 3) := by decide +kernel
theorem d_M_best_24 : decode prog_10_method_47_code 24 = .ok (.aload_n 0, 1) := by decide +kernel
theorem d_M_best_25 : decode prog_10_method_47_code 25 = .ok (.getfield 59, 3) := by decide +kernel
theorem d_M_best_28 : decode prog_10_method_47_code 28 = .ok (.iload_n 1, 1) := by decide +kernel
theorem d_M_best_29 : decode prog_10_method_47_code 29 = .ok (.laload, 1) := by decide +kernel
theorem d_M_best_30 : decode prog_10_method_47_code 30 = .ok (.ldc2_w 199, 3) := by decide +kernel
theorem d_M_best_33 : decode prog_10_method_47_code 33 = .ok (.lcmp, 1) := by decide +kernel
theorem d_M_best_34 : decode prog_10_method_47_code 34 = .ok (.ifCond .le 6, 3) := by decide +kernel
theorem d_M_best_37 : decode prog_10_method_47_code 37 = .ok (.bipush (-3), 2) := by decide +kernel
theorem d_M_best_39 : decode prog_10_method_47_code 39 = .ok (.ireturn, 1) := by decide +kernel
theorem d_M_best_40 : decode prog_10_method_47_code 40 = .ok (.aload_n 0, 1) := by decide +kernel
theorem d_M_best_41 : decode prog_10_method_47_code 41 = .ok (.getfield 63, 3) := by decide +kernel
theorem d_M_best_44 : decode prog_10_method_47_code 44 = .ok (.iload_n 1, 1) := by decide +kernel
theorem d_M_best_45 : decode prog_10_method_47_code 45 = .ok (.laload, 1) := by decide +kernel
theorem d_M_best_46 : decode prog_10_method_47_code 46 = .ok (.ldc2_w 214, 3) := by decide +kernel
theorem d_M_best_49 : decode prog_10_method_47_code 49 = .ok (.lcmp, 1) := by decide +kernel
theorem d_M_best_50 : decode prog_10_method_47_code 50 = .ok (.ifCond .le 6, 3) := by decide +kernel
theorem d_M_best_53 : decode prog_10_method_47_code 53 = .ok (.bipush (-4), 2) := by decide +kernel
theorem d_M_best_55 : decode prog_10_method_47_code 55 = .ok (.ireturn, 1) := by decide +kernel
theorem d_M_best_56 : decode prog_10_method_47_code 56 = .ok (.aload_n 0, 1) := by decide +kernel
theorem d_M_best_57 : decode prog_10_method_47_code 57 = .ok (.aload_n 0, 1) := by decide +kernel
theorem d_M_best_58 : decode prog_10_method_47_code 58 = .ok (.getfield 63, 3) := by decide +kernel
theorem d_M_best_61 : decode prog_10_method_47_code 61 = .ok (.iload_n 1, 1) := by decide +kernel
theorem d_M_best_62 : decode prog_10_method_47_code 62 = .ok (.laload, 1) := by decide +kernel
theorem d_M_best_63 : decode prog_10_method_47_code 63 = .ok (.l2i, 1) := by decide +kernel
theorem d_M_best_64 : decode prog_10_method_47_code 64 = .ok (.putfield 79, 3) := by decide +kernel
theorem d_M_best_67 : decode prog_10_method_47_code 67 = .ok (.iconst 0, 1) := by decide +kernel
theorem d_M_best_68 : decode prog_10_method_47_code 68 = .ok (.istore_n 2, 1) := by decide +kernel
theorem d_M_best_69 : decode prog_10_method_47_code 69 = .ok (.iload_n 2, 1) := by decide +kernel
theorem d_M_best_70 : decode prog_10_method_47_code 70 = .ok (.aload_n 0, 1) := by decide +kernel
theorem d_M_best_71 : decode prog_10_method_47_code 71 = .ok (.getfield 79, 3) := by decide +kernel
theorem d_M_best_74 : decode prog_10_method_47_code 74 = .ok (.if_icmp .ge 26, 3) := by decide +kernel
theorem d_M_best_77 : decode prog_10_method_47_code 77 = .ok (.aload_n 0, 1) := by decide +kernel
theorem d_M_best_78 : decode prog_10_method_47_code 78 = .ok (.getfield 7, 3) := by decide +kernel
theorem d_M_best_81 : decode prog_10_method_47_code 81 = .ok (.iload_n 2, 1) := by decide +kernel
theorem d_M_best_82 : decode prog_10_method_47_code 82 = .ok (.aload_n 0, 1) := by decide +kernel
theorem d_M_best_83 : decode prog_10_method_47_code 83 = .ok (.getfield 66, 3) := by decide +kernel
theorem d_M_best_86 : decode prog_10_method_47_code 86 = .ok (.bipush 60, 2) := by decide +kernel
theorem d_M_best_88 : decode prog_10_method_47_code 88 = .ok (.iload_n 1, 1) := by decide +kernel
theorem d_M_best_89 : decode prog_10_method_47_code 89 = .ok (.imul, 1) := by decide +kernel
theorem d_M_best_90 : decode prog_10_method_47_code 90 = .ok (.iload_n 2, 1) := by decide +kernel
theorem d_M_best_91 : decode prog_10_method_47_code 91 = .ok (.iadd, 1) := by decide +kernel
theorem d_M_best_92 : decode prog_10_method_47_code 92 = .ok (.iaload, 1) := by decide +kernel
theorem d_M_best_93 : decode prog_10_method_47_code 93 = .ok (.iastore, 1) := by decide +kernel
theorem d_M_best_94 : decode prog_10_method_47_code 94 = .ok (.iinc 2 1, 3) := by decide +kernel
theorem d_M_best_97 : decode prog_10_method_47_code 97 = .ok (.goto (-28), 3) := by decide +kernel
theorem d_M_best_100 : decode prog_10_method_47_code 100 = .ok (.aload_n 0, 1) := by decide +kernel
theorem d_M_best_101 : decode prog_10_method_47_code 101 = .ok (.getfield 79, 3) := by decide +kernel
theorem d_M_best_104 : decode prog_10_method_47_code 104 = .ok (.ireturn, 1) := by decide +kernel
theorem d_M_close_0 : decode prog_10_method_23_code 0 = .ok (.iconst 1, 1) := by decide +kernel
theorem d_M_close_1 : decode prog_10_method_23_code 1 = .ok (.istore_n 1, 1) := by decide +kernel
theorem d_M_close_2 : decode prog_10_method_23_code 2 = .ok (.iload_n 1, 1) := by decide +kernel
theorem d_M_close_3 : decode prog_10_method_23_code 3 = .ok (.ifCond .eq 142, 3) := by decide +kernel
theorem d_M_close_6 : decode prog_10_method_23_code 6 = .ok (.iconst 0, 1) := by decide +kernel
theorem d_M_close_7 : decode prog_10_method_23_code 7 = .ok (.istore_n 1, 1) := by decide +kernel
theorem d_M_close_8 : decode prog_10_method_23_code 8 = .ok (.iconst 0, 1) := by decide +kernel
theorem d_M_close_9 : decode prog_10_method_23_code 9 = .ok (.istore_n 2, 1) := by decide +kernel
theorem d_M_close_10 : decode prog_10_method_23_code 10 = .ok (.iload_n 2, 1) := by decide +kernel
theorem d_M_close_11 : decode prog_10_method_23_code 11 = .ok (.aload_n 0, 1) := by decide +kernel
theorem d_M_close_12 : decode prog_10_method_23_code 12 = .ok (.getfield 119, 3) := by decide +kernel
theorem d_M_close_15 : decode prog_10_method_23_code 15 = .ok (.if_icmp .ge 127, 3) := by decide +kernel
theorem d_M_close_18 : decode prog_10_method_23_code 18 = .ok (.iload_n 1, 1) := by decide +kernel
theorem d_M_close_19 : decode prog_10_method_23_code 19 = .ok (.ifCond .ne 123, 3) := by decide +kernel
theorem d_M_close_22 : decode prog_10_method_23_code 22 = .ok (.iload_n 2, 1) := by decide +kernel
theorem d_M_close_23 : decode prog_10_method_23_code 23 = .ok (.iconst 1, 1) := by decide +kernel
theorem d_M_close_24 : decode prog_10_method_23_code 24 = .ok (.iadd, 1) := by decide +kernel
theorem d_M_close_25 : decode prog_10_method_23_code 25 = .ok (.istore_n 3, 1) := by decide +kernel
theorem d_M_close_26 : decode prog_10_method_23_code 26 = .ok (.iload_n 3, 1) := by decide +kernel
theorem d_M_close_27 : decode prog_10_method_23_code 27 = .ok (.aload_n 0, 1) := by decide +kernel
theorem d_M_close_28 : decode prog_10_method_23_code 28 = .ok (.getfield 119, 3) := by decide +kernel
theorem d_M_close_31 : decode prog_10_method_23_code 31 = .ok (.if_icmp .ge 105, 3) := by decide +kernel
theorem d_M_close_34 : decode prog_10_method_23_code 34 = .ok (.iload_n 1, 1) := by decide +kernel
theorem d_M_close_35 : decode prog_10_method_23_code 35 = .ok (.ifCond .ne 101, 3) := by decide +kernel
theorem d_M_close_38 : decode prog_10_method_23_code 38 = .ok (.aload_n 0, 1) := by decide +kernel
theorem d_M_close_39 : decode prog_10_method_23_code 39 = .ok (.getfield 23, 3) := by decide +kernel
theorem d_M_close_42 : decode prog_10_method_23_code 42 = .ok (.iload_n 2, 1) := by decide +kernel
theorem d_M_close_43 : decode prog_10_method_23_code 43 = .ok (.iaload, 1) := by decide +kernel
theorem d_M_close_44 : decode prog_10_method_23_code 44 = .ok (.aload_n 0, 1) := by decide +kernel
theorem d_M_close_45 : decode prog_10_method_23_code 45 = .ok (.getfield 23, 3) := by decide +kernel
theorem d_M_close_48 : decode prog_10_method_23_code 48 = .ok (.iload_n 3, 1) := by decide +kernel
theorem d_M_close_49 : decode prog_10_method_23_code 49 = .ok (.iaload, 1) := by decide +kernel
theorem d_M_close_50 : decode prog_10_method_23_code 50 = .ok (.if_icmp .ne 53, 3) := by decide +kernel
theorem d_M_close_53 : decode prog_10_method_23_code 53 = .ok (.aload_n 0, 1) := by decide +kernel
theorem d_M_close_54 : decode prog_10_method_23_code 54 = .ok (.aload_n 0, 1) := by decide +kernel
theorem d_M_close_55 : decode prog_10_method_23_code 55 = .ok (.getfield 26, 3) := by decide +kernel
theorem d_M_close_58 : decode prog_10_method_23_code 58 = .ok (.iload_n 2, 1) := by decide +kernel
theorem d_M_close_59 : decode prog_10_method_23_code 59 = .ok (.iaload, 1) := by decide +kernel
theorem d_M_close_60 : decode prog_10_method_23_code 60 = .ok (.invokevirtual 143, 3) := by decide +kernel
theorem d_M_close_63 : decode prog_10_method_23_code 63 = .ok (.aload_n 0, 1) := by decide +kernel
theorem d_M_close_64 : decode prog_10_method_23_code 64 = .ok (.aload_n 0, 1) := by decide +kernel
theorem d_M_close_65 : decode prog_10_method_23_code 65 = .ok (.getfield 26, 3) := by decide +kernel
theorem d_M_close_68 : decode prog_10_method_23_code 68 = .ok (.iload_n 3, 1) := by decide +kernel
theorem d_M_close_69 : decode prog_10_method_23_code 69 = .ok (.iaload, 1) := by decide +kernel
theorem d_M_close_70 : decode prog_10_method_23_code 70 = .ok (.invokevirtual 143, 3) := by decide +kernel
theorem d_M_close_73 : decode prog_10_method_23_code 73 = .ok (.if_icmp .ne 30, 3) := by decide +kernel
theorem d_M_close_76 : decode prog_10_method_23_code 76 = .ok (.aload_n 0, 1) := by decide +kernel
theorem d_M_close_77 : decode prog_10_method_23_code 77 = .ok (.aload_n 0, 1) := by decide +kernel
theorem d_M_close_78 : decode prog_10_method_23_code 78 = .ok (.getfield 29, 3) := by decide +kernel
theorem d_M_close_81 : decode prog_10_method_23_code 81 = .ok (.iload_n 2, 1) := by decide +kernel
theorem d_M_close_82 : decode prog_10_method_23_code 82 = .ok (.iaload, 1) := by decide +kernel
theorem d_M_close_83 : decode prog_10_method_23_code 83 = .ok (.invokevirtual 143, 3) := by decide +kernel
theorem d_M_close_86 : decode prog_10_method_23_code 86 = .ok (.aload_n 0, 1) := by decide +kernel
theorem d_M_close_87 : decode prog_10_method_23_code 87 = .ok (.aload_n 0, 1) := by decide +kernel
theorem d_M_close_88 : decode prog_10_method_23_code 88 = .ok (.getfield 29, 3) := by decide +kernel
theorem d_M_close_91 : decode prog_10_method_23_code 91 = .ok (.iload_n 3, 1) := by decide +kernel
theorem d_M_close_92 : decode prog_10_method_23_code 92 = .ok (.iaload, 1) := by decide +kernel
theorem d_M_close_93 : decode prog_10_method_23_code 93 = .ok (.invokevirtual 143, 3) := by decide +kernel
theorem d_M_close_96 : decode prog_10_method_23_code 96 = .ok (.if_icmp .ne 7, 3) := by decide +kernel
theorem d_M_close_99 : decode prog_10_method_23_code 99 = .ok (.iconst 1, 1) := by decide +kernel
theorem d_M_close_100 : decode prog_10_method_23_code 100 = .ok (.goto 4, 3) := by decide +kernel
theorem d_M_close_103 : decode prog_10_method_23_code 103 = .ok (.iconst 0, 1) := by decide +kernel
theorem d_M_close_104 : decode prog_10_method_23_code 104 = .ok (.istore_n 1, 1) := by decide +kernel
theorem d_M_close_105 : decode prog_10_method_23_code 105 = .ok (.iload_n 1, 1) := by decide +kernel
theorem d_M_close_106 : decode prog_10_method_23_code 106 = .ok (.ifCond .eq 24, 3) := by decide +kernel
theorem d_M_close_109 : decode prog_10_method_23_code 109 = .ok (.aload_n 0, 1) := by decide +kernel
theorem d_M_close_110 : decode prog_10_method_23_code 110 = .ok (.aload_n 0, 1) := by decide +kernel
theorem d_M_close_111 : decode prog_10_method_23_code 111 = .ok (.getfield 32, 3) := by decide +kernel
theorem d_M_close_114 : decode prog_10_method_23_code 114 = .ok (.iload_n 2, 1) := by decide +kernel
theorem d_M_close_115 : decode prog_10_method_23_code 115 = .ok (.iaload, 1) := by decide +kernel
theorem d_M_close_116 : decode prog_10_method_23_code 116 = .ok (.aload_n 0, 1) := by decide +kernel
theorem d_M_close_117 : decode prog_10_method_23_code 117 = .ok (.getfield 32, 3) := by decide +kernel
theorem d_M_close_120 : decode prog_10_method_23_code 120 = .ok (.iload_n 3, 1) := by decide +kernel
theorem d_M_close_121 : decode prog_10_method_23_code 121 = .ok (.iaload, 1) := by decide +kernel
theorem d_M_close_122 : decode prog_10_method_23_code 122 = .ok (.invokevirtual 146, 3) := by decide +kernel
theorem d_M_close_125 : decode prog_10_method_23_code 125 = .ok (.aload_n 0, 1) := by decide +kernel
theorem d_M_close_126 : decode prog_10_method_23_code 126 = .ok (.iload_n 3, 1) := by decide +kernel
theorem d_M_close_127 : decode prog_10_method_23_code 127 = .ok (.invokevirtual 150, 3) := by decide +kernel
theorem d_M_close_130 : decode prog_10_method_23_code 130 = .ok (.iinc 3 1, 3) := by decide +kernel
theorem d_M_close_133 : decode prog_10_method_23_code 133 = .ok (.goto (-107), 3) := by decide +kernel
theorem d_M_close_136 : decode prog_10_method_23_code 136 = .ok (.iinc 2 1, 3) := by decide +kernel
theorem d_M_close_139 : decode prog_10_method_23_code 139 = .ok (.goto (-129), 3) := by decide +kernel
theorem d_M_close_142 : decode prog_10_method_23_code 142 = .ok (.goto (-140), 3) := by decide +kernel
theorem d_M_close_145 : decode prog_10_method_23_code 145 = .ok (.aload_n 0, 1) := by decide +kernel
theorem d_M_close_146 : decode prog_10_method_23_code 146 = .ok (.invokevirtual 154, 3) := by decide +kernel
theorem d_M_close_149 : decode prog_10_method_23_code 149 = .ok (.return_, 1) := by decide +kernel
theorem d_M_renumber_0 : decode prog_10_method_24_code 0 = .ok (.iconst 0, 1) := by decide +kernel
theorem d_M_renumber_1 : decode prog_10_method_24_code 1 = .ok (.istore_n 1, 1) := by decide +kernel
theorem d_M_renumber_2 : decode prog_10_method_24_code 2 = .ok (.iload_n 1, 1) := by decide +kernel
theorem d_M_renumber_3 : decode prog_10_method_24_code 3 = .ok (.aload_n 0, 1) := by decide +kernel
theorem d_M_renumber_4 : decode prog_10_method_24_code 4 = .ok (.getfield 126, 3) := by decide +kernel
theorem d_M_renumber_7 : decode prog_10_method_24_code 7 = .ok (.if_icmp .ge 16, 3) := by decide +kernel
theorem d_M_renumber_10 : decode prog_10_method_24_code 10 = .ok (.aload_n 0, 1) := by decide +kernel
theorem d_M_renumber_11 : decode prog_10_method_24_code 11 = .ok (.getfield 38, 3) := by decide +kernel
theorem d_M_renumber_14 : decode prog_10_method_24_code 14 = .ok (.iload_n 1, 1) := by decide +kernel
theorem d_M_renumber_15 : decode prog_10_method_24_code 15 = .ok (.iconst (-1), 1) := by decide +kernel
theorem d_M_renumber_16 : decode prog_10_method_24_code 16 = .ok (.iastore, 1) := by decide +kernel
theorem d_M_renumber_17 : decode prog_10_method_24_code 17 = .ok (.iinc 1 1, 3) := by decide +kernel
theorem d_M_renumber_20 : decode prog_10_method_24_code 20 = .ok (.goto (-18), 3) := by decide +kernel
theorem d_M_renumber_23 : decode prog_10_method_24_code 23 = .ok (.iconst 0, 1) := by decide +kernel
theorem d_M_renumber_24 : decode prog_10_method_24_code 24 = .ok (.istore_n 1, 1) := by decide +kernel
theorem d_M_renumber_25 : decode prog_10_method_24_code 25 = .ok (.iconst 0, 1) := by decide +kernel
theorem d_M_renumber_26 : decode prog_10_method_24_code 26 = .ok (.istore_n 2, 1) := by decide +kernel
theorem d_M_renumber_27 : decode prog_10_method_24_code 27 = .ok (.iload_n 2, 1) := by decide +kernel
theorem d_M_renumber_28 : decode prog_10_method_24_code 28 = .ok (.aload_n 0, 1) := by decide +kernel
theorem d_M_renumber_29 : decode prog_10_method_24_code 29 = .ok (.getfield 119, 3) := by decide +kernel
theorem d_M_renumber_32 : decode prog_10_method_24_code 32 = .ok (.if_icmp .ge 40, 3) := by decide +kernel
theorem d_M_renumber_35 : decode prog_10_method_24_code 35 = .ok (.aload_n 0, 1) := by decide +kernel
theorem d_M_renumber_36 : decode prog_10_method_24_code 36 = .ok (.getfield 35, 3) := by decide +kernel
theorem d_M_renumber_39 : decode prog_10_method_24_code 39 = .ok (.aload_n 0, 1) := by decide +kernel
theorem d_M_renumber_40 : decode prog_10_method_24_code 40 = .ok (.getfield 32, 3) := by decide +kernel
theorem d_M_renumber_43 : decode prog_10_method_24_code 43 = .ok (.iload_n 2, 1) := by decide +kernel
theorem d_M_renumber_44 : decode prog_10_method_24_code 44 = .ok (.iaload, 1) := by decide +kernel
theorem d_M_renumber_45 : decode prog_10_method_24_code 45 = .ok (.iaload, 1) := by decide +kernel
theorem d_M_renumber_46 : decode prog_10_method_24_code 46 = .ok (.istore_n 3, 1) := by decide +kernel
theorem d_M_renumber_47 : decode prog_10_method_24_code 47 = .ok (.aload_n 0, 1) := by decide +kernel
theorem d_M_renumber_48 : decode prog_10_method_24_code 48 = .ok (.getfield 38, 3) := by decide +kernel
theorem d_M_renumber_51 : decode prog_10_method_24_code 51 = .ok (.iload_n 3, 1) := by decide +kernel
theorem d_M_renumber_52 : decode prog_10_method_24_code 52 = .ok (.iaload, 1) := by decide +kernel
theorem d_M_renumber_53 : decode prog_10_method_24_code 53 = .ok (.ifCond .ge 13, 3) := by decide +kernel
theorem d_M_renumber_56 : decode prog_10_method_24_code 56 = .ok (.aload_n 0, 1) := by decide +kernel
theorem d_M_renumber_57 : decode prog_10_method_24_code 57 = .ok (.getfield 38, 3) := by decide +kernel
theorem d_M_renumber_60 : decode prog_10_method_24_code 60 = .ok (.iload_n 3, 1) := by decide +kernel
theorem d_M_renumber_61 : decode prog_10_method_24_code 61 = .ok (.iload_n 1, 1) := by decide +kernel
theorem d_M_renumber_62 : decode prog_10_method_24_code 62 = .ok (.iastore, 1) := by decide +kernel
theorem d_M_renumber_63 : decode prog_10_method_24_code 63 = .ok (.iinc 1 1, 3) := by decide +kernel
theorem d_M_renumber_66 : decode prog_10_method_24_code 66 = .ok (.iinc 2 1, 3) := by decide +kernel
theorem d_M_renumber_69 : decode prog_10_method_24_code 69 = .ok (.goto (-42), 3) := by decide +kernel
theorem d_M_renumber_72 : decode prog_10_method_24_code 72 = .ok (.iconst 0, 1) := by decide +kernel
theorem d_M_renumber_73 : decode prog_10_method_24_code 73 = .ok (.istore_n 2, 1) := by decide +kernel
theorem d_M_renumber_74 : decode prog_10_method_24_code 74 = .ok (.iload_n 2, 1) := by decide +kernel
theorem d_M_renumber_75 : decode prog_10_method_24_code 75 = .ok (.aload_n 0, 1) := by decide +kernel
theorem d_M_renumber_76 : decode prog_10_method_24_code 76 = .ok (.getfield 119, 3) := by decide +kernel
theorem d_M_renumber_79 : decode prog_10_method_24_code 79 = .ok (.if_icmp .ge 101, 3) := by decide +kernel
theorem d_M_renumber_82 : decode prog_10_method_24_code 82 = .ok (.aload_n 0, 1) := by decide +kernel
theorem d_M_renumber_83 : decode prog_10_method_24_code 83 = .ok (.getfield 32, 3) := by decide +kernel
theorem d_M_renumber_86 : decode prog_10_method_24_code 86 = .ok (.iload_n 2, 1) := by decide +kernel
theorem d_M_renumber_87 : decode prog_10_method_24_code 87 = .ok (.aload_n 0, 1) := by decide +kernel
theorem d_M_renumber_88 : decode prog_10_method_24_code 88 = .ok (.getfield 38, 3) := by decide +kernel
theorem d_M_renumber_91 : decode prog_10_method_24_code 91 = .ok (.aload_n 0, 1) := by decide +kernel
theorem d_M_renumber_92 : decode prog_10_method_24_code 92 = .ok (.getfield 35, 3) := by decide +kernel
theorem d_M_renumber_95 : decode prog_10_method_24_code 95 = .ok (.aload_n 0, 1) := by decide +kernel
theorem d_M_renumber_96 : decode prog_10_method_24_code 96 = .ok (.getfield 32, 3) := by decide +kernel
theorem d_M_renumber_99 : decode prog_10_method_24_code 99 = .ok (.iload_n 2, 1) := by decide +kernel
theorem d_M_renumber_100 : decode prog_10_method_24_code 100 = .ok (.iaload, 1) := by decide +kernel
theorem d_M_renumber_101 : decode prog_10_method_24_code 101 = .ok (.iaload, 1) := by decide +kernel
theorem d_M_renumber_102 : decode prog_10_method_24_code 102 = .ok (.iaload, 1) := by decide +kernel
theorem d_M_renumber_103 : decode prog_10_method_24_code 103 = .ok (.iastore, 1) := by decide +kernel
theorem d_M_renumber_104 : decode prog_10_method_24_code 104 = .ok (.aload_n 0, 1) := by decide +kernel
theorem d_M_renumber_105 : decode prog_10_method_24_code 105 = .ok (.getfield 26, 3) := by decide +kernel
theorem d_M_renumber_108 : decode prog_10_method_24_code 108 = .ok (.iload_n 2, 1) := by decide +kernel
theorem d_M_renumber_109 : decode prog_10_method_24_code 109 = .ok (.aload_n 0, 1) := by decide +kernel
theorem d_M_renumber_110 : decode prog_10_method_24_code 110 = .ok (.getfield 26, 3) := by decide +kernel
theorem d_M_renumber_113 : decode prog_10_method_24_code 113 = .ok (.iload_n 2, 1) := by decide +kernel
theorem d_M_renumber_114 : decode prog_10_method_24_code 114 = .ok (.iaload, 1) := by decide +kernel
theorem d_M_renumber_115 : decode prog_10_method_24_code 115 = .ok (.ifCond .ge 7, 3) := by decide +kernel
theorem d_M_renumber_118 : decode prog_10_method_24_code 118 = .ok (.iconst (-1), 1) := by decide +kernel
theorem d_M_renumber_119 : decode prog_10_method_24_code 119 = .ok (.goto 19, 3) := by decide +kernel
theorem d_M_renumber_122 : decode prog_10_method_24_code 122 = .ok (.aload_n 0, 1) := by decide +kernel
theorem d_M_renumber_123 : decode prog_10_method_24_code 123 = .ok (.getfield 38, 3) := by decide +kernel
theorem d_M_renumber_126 : decode prog_10_method_24_code 126 = .ok (.aload_n 0, 1) := by decide +kernel
theorem d_M_renumber_127 : decode prog_10_method_24_code 127 = .ok (.getfield 35, 3) := by decide +kernel
theorem d_M_renumber_130 : decode prog_10_method_24_code 130 = .ok (.aload_n 0, 1) := by decide +kernel
theorem d_M_renumber_131 : decode prog_10_method_24_code 131 = .ok (.getfield 26, 3) := by decide +kernel
theorem d_M_renumber_134 : decode prog_10_method_24_code 134 = .ok (.iload_n 2, 1) := by decide +kernel
theorem d_M_renumber_135 : decode prog_10_method_24_code 135 = .ok (.iaload, 1) := by decide +kernel
theorem d_M_renumber_136 : decode prog_10_method_24_code 136 = .ok (.iaload, 1) := by decide +kernel
theorem d_M_renumber_137 : decode prog_10_method_24_code 137 = .ok (.iaload, 1) := by decide +kernel
theorem d_M_renumber_138 : decode prog_10_method_24_code 138 = .ok (.iastore, 1) := by decide +kernel
theorem d_M_renumber_139 : decode prog_10_method_24_code 139 = .ok (.aload_n 0, 1) := by decide +kernel
theorem d_M_renumber_140 : decode prog_10_method_24_code 140 = .ok (.getfield 29, 3) := by decide +kernel
theorem d_M_renumber_143 : decode prog_10_method_24_code 143 = .ok (.iload_n 2, 1) := by decide +kernel
theorem d_M_renumber_144 : decode prog_10_method_24_code 144 = .ok (.aload_n 0, 1) := by decide +kernel
theorem d_M_renumber_145 : decode prog_10_method_24_code 145 = .ok (.getfield 29, 3) := by decide +kernel
theorem d_M_renumber_148 : decode prog_10_method_24_code 148 = .ok (.iload_n 2, 1) := by decide +kernel
theorem d_M_renumber_149 : decode prog_10_method_24_code 149 = .ok (.iaload, 1) := by decide +kernel
theorem d_M_renumber_150 : decode prog_10_method_24_code 150 = .ok (.ifCond .ge 7, 3) := by decide +kernel
theorem d_M_renumber_153 : decode prog_10_method_24_code 153 = .ok (.iconst (-1), 1) := by decide +kernel
theorem d_M_renumber_154 : decode prog_10_method_24_code 154 = .ok (.goto 19, 3) := by decide +kernel
theorem d_M_renumber_157 : decode prog_10_method_24_code 157 = .ok (.aload_n 0, 1) := by decide +kernel
theorem d_M_renumber_158 : decode prog_10_method_24_code 158 = .ok (.getfield 38, 3) := by decide +kernel
theorem d_M_renumber_161 : decode prog_10_method_24_code 161 = .ok (.aload_n 0, 1) := by decide +kernel
theorem d_M_renumber_162 : decode prog_10_method_24_code 162 = .ok (.getfield 35, 3) := by decide +kernel
theorem d_M_renumber_165 : decode prog_10_method_24_code 165 = .ok (.aload_n 0, 1) := by decide +kernel
theorem d_M_renumber_166 : decode prog_10_method_24_code 166 = .ok (.getfield 29, 3) := by decide +kernel
theorem d_M_renumber_169 : decode prog_10_method_24_code 169 = .ok (.iload_n 2, 1) := by decide +kernel
theorem d_M_renumber_170 : decode prog_10_method_24_code 170 = .ok (.iaload, 1) := by decide +kernel
theorem d_M_renumber_171 : decode prog_10_method_24_code 171 = .ok (.iaload, 1) := by decide +kernel
theorem d_M_renumber_172 : decode prog_10_method_24_code 172 = .ok (.iaload, 1) := by decide +kernel
theorem d_M_renumber_173 : decode prog_10_method_24_code 173 = .ok (.iastore, 1) := by decide +kernel
theorem d_M_renumber_174 : decode prog_10_method_24_code 174 = .ok (.iinc 2 1, 3) := by decide +kernel
theorem d_M_renumber_177 : decode prog_10_method_24_code 177 = .ok (.goto (-103), 3) := by decide +kernel
theorem d_M_renumber_180 : decode prog_10_method_24_code 180 = .ok (.aload_n 0, 1) := by decide +kernel
theorem d_M_renumber_181 : decode prog_10_method_24_code 181 = .ok (.iload_n 1, 1) := by decide +kernel
theorem d_M_renumber_182 : decode prog_10_method_24_code 182 = .ok (.putfield 126, 3) := by decide +kernel
theorem d_M_renumber_185 : decode prog_10_method_24_code 185 = .ok (.iconst 0, 1) := by decide +kernel
theorem d_M_renumber_186 : decode prog_10_method_24_code 186 = .ok (.istore_n 2, 1) := by decide +kernel
theorem d_M_renumber_187 : decode prog_10_method_24_code 187 = .ok (.iload_n 2, 1) := by decide +kernel
theorem d_M_renumber_188 : decode prog_10_method_24_code 188 = .ok (.iload_n 1, 1) := by decide +kernel
theorem d_M_renumber_189 : decode prog_10_method_24_code 189 = .ok (.if_icmp .ge 16, 3) := by decide +kernel
theorem d_M_renumber_192 : decode prog_10_method_24_code 192 = .ok (.aload_n 0, 1) := by decide +kernel
theorem d_M_renumber_193 : decode prog_10_method_24_code 193 = .ok (.getfield 35, 3) := by decide +kernel
theorem d_M_renumber_196 : decode prog_10_method_24_code 196 = .ok (.iload_n 2, 1) := by decide +kernel
theorem d_M_renumber_197 : decode prog_10_method_24_code 197 = .ok (.iload_n 2, 1) := by decide +kernel
theorem d_M_renumber_198 : decode prog_10_method_24_code 198 = .ok (.iastore, 1) := by decide +kernel
theorem d_M_renumber_199 : decode prog_10_method_24_code 199 = .ok (.iinc 2 1, 3) := by decide +kernel
theorem d_M_renumber_202 : decode prog_10_method_24_code 202 = .ok (.goto (-15), 3) := by decide +kernel
theorem d_M_renumber_205 : decode prog_10_method_24_code 205 = .ok (.return_, 1) := by decide +kernel
