theorem d_M_workText_0 : decode prog_10_method_18_code 0 = .ok (.aload_n 0, 1) := by decide +kernel
theorem d_M_workText_1 : decode prog_10_method_18_code 1 = .ok (.iconst 0, 1) := by decide +kernel
theorem d_M_workText_2 : decode prog_10_method_18_code 2 = .ok (.putfield 129, 3) := by decide +kernel
theorem d_M_workText_5 : decode prog_10_method_18_code 5 = .ok (.iconst 1, 1) := by decide +kernel
theorem d_M_workText_6 : decode prog_10_method_18_code 6 = .ok (.istore 4, 2) := by decide +kernel
theorem d_M_workText_8 : decode prog_10_method_18_code 8 = .ok (.iload_n 2, 1) := by decide +kernel
theorem d_M_workText_9 : decode prog_10_method_18_code 9 = .ok (.iconst 1, 1) := by decide +kernel
theorem d_M_workText_10 : decode prog_10_method_18_code 10 = .ok (.isub, 1) := by decide +kernel
theorem d_M_workText_11 : decode prog_10_method_18_code 11 = .ok (.istore 5, 2) := by decide +kernel
theorem d_M_workText_13 : decode prog_10_method_18_code 13 = .ok (.iload 5, 2) := by decide +kernel
theorem d_M_workText_15 : decode prog_10_method_18_code 15 = .ok (.iload_n 1, 1) := by decide +kernel
theorem d_M_workText_16 : decode prog_10_method_18_code 16 = .ok (.if_icmp .lt 28, 3) := by decide +kernel
theorem d_M_workText_19 : decode prog_10_method_18_code 19 = .ok (.iload 4, 2) := by decide +kernel
theorem d_M_workText_21 : decode prog_10_method_18_code 21 = .ok (.ifCond .eq 23, 3) := by decide +kernel
theorem d_M_workText_24 : decode prog_10_method_18_code 24 = .ok (.aload_n 0, 1) := by decide +kernel
theorem d_M_workText_25 : decode prog_10_method_18_code 25 = .ok (.aload_n 0, 1) := by decide +kernel
theorem d_M_workText_26 : decode prog_10_method_18_code 26 = .ok (.getfield 7, 3) := by decide +kernel
theorem d_M_workText_29 : decode prog_10_method_18_code 29 = .ok (.iload 5, 2) := by decide +kernel
theorem d_M_workText_31 : decode prog_10_method_18_code 31 = .ok (.iaload, 1) := by decide +kernel
theorem d_M_workText_32 : decode prog_10_method_18_code 32 = .ok (.iload_n 3, 1) := by decide +kernel
theorem d_M_workText_33 : decode prog_10_method_18_code 33 = .ok (.invokevirtual 136, 3) := by decide +kernel
theorem d_M_workText_36 : decode prog_10_method_18_code 36 = .ok (.istore 4, 2) := by decide +kernel
theorem d_M_workText_38 : decode prog_10_method_18_code 38 = .ok (.iinc 5 (-1), 3) := by decide +kernel
theorem d_M_workText_41 : decode prog_10_method_18_code 41 = .ok (.goto (-28), 3) := by decide +kernel
theorem d_M_workText_44 : decode prog_10_method_18_code 44 = .ok (.iload 4, 2) := by decide +kernel
theorem d_M_workText_46 : decode prog_10_method_18_code 46 = .ok (.ifCond .eq 12, 3) := by decide +kernel
theorem d_M_workText_49 : decode prog_10_method_18_code 49 = .ok (.aload_n 0, 1) := by decide +kernel
theorem d_M_workText_50 : decode prog_10_method_18_code 50 = .ok (.getfield 41, 3) := by decide +kernel
theorem d_M_workText_53 : decode prog_10_method_18_code 53 = .ok (.iconst 0, 1) := by decide +kernel
theorem d_M_workText_54 : decode prog_10_method_18_code 54 = .ok (.iaload, 1) := by decide +kernel
theorem d_M_workText_55 : decode prog_10_method_18_code 55 = .ok (.goto 4, 3) := by decide +kernel
theorem d_M_workText_58 : decode prog_10_method_18_code 58 = .ok (.iconst (-1), 1) := by decide +kernel
theorem d_M_workText_59 : decode prog_10_method_18_code 59 = .ok (.ireturn, 1) := by decide +kernel
theorem d_M_push_0 : decode prog_10_method_17_code 0 = .ok (.iload_n 1, 1) := by decide +kernel
theorem d_M_push_1 : decode prog_10_method_17_code 1 = .ok (.invokestatic 98, 3) := by decide +kernel
theorem d_M_push_4 : decode prog_10_method_17_code 4 = .ok (.istore_n 3, 1) := by decide +kernel
theorem d_M_push_5 : decode prog_10_method_17_code 5 = .ok (.iload_n 3, 1) := by decide +kernel
theorem d_M_push_6 : decode prog_10_method_17_code 6 = .ok (.ifCond .le 17, 3) := by decide +kernel
theorem d_M_push_9 : decode prog_10_method_17_code 9 = .ok (.aload_n 0, 1) := by decide +kernel
theorem d_M_push_10 : decode prog_10_method_17_code 10 = .ok (.getfield 41, 3) := by decide +kernel
theorem d_M_push_13 : decode prog_10_method_17_code 13 = .ok (.aload_n 0, 1) := by decide +kernel
theorem d_M_push_14 : decode prog_10_method_17_code 14 = .ok (.getfield 129, 3) := by decide +kernel
theorem d_M_push_17 : decode prog_10_method_17_code 17 = .ok (.iconst 1, 1) := by decide +kernel
theorem d_M_push_18 : decode prog_10_method_17_code 18 = .ok (.isub, 1) := by decide +kernel
theorem d_M_push_19 : decode prog_10_method_17_code 19 = .ok (.iaload, 1) := by decide +kernel
theorem d_M_push_20 : decode prog_10_method_17_code 20 = .ok (.goto 4, 3) := by decide +kernel
theorem d_M_push_23 : decode prog_10_method_17_code 23 = .ok (.iconst (-1), 1) := by decide +kernel
theorem d_M_push_24 : decode prog_10_method_17_code 24 = .ok (.istore 4, 2) := by decide +kernel
theorem d_M_push_26 : decode prog_10_method_17_code 26 = .ok (.iload_n 3, 1) := by decide +kernel
theorem d_M_push_27 : decode prog_10_method_17_code 27 = .ok (.iconst 1, 1) := by decide +kernel
theorem d_M_push_28 : decode prog_10_method_17_code 28 = .ok (.if_icmp .le 17, 3) := by decide +kernel
theorem d_M_push_31 : decode prog_10_method_17_code 31 = .ok (.aload_n 0, 1) := by decide +kernel
theorem d_M_push_32 : decode prog_10_method_17_code 32 = .ok (.getfield 41, 3) := by decide +kernel
theorem d_M_push_35 : decode prog_10_method_17_code 35 = .ok (.aload_n 0, 1) := by decide +kernel
theorem d_M_push_36 : decode prog_10_method_17_code 36 = .ok (.getfield 129, 3) := by decide +kernel
theorem d_M_push_39 : decode prog_10_method_17_code 39 = .ok (.iconst 2, 1) := by decide +kernel
theorem d_M_push_40 : decode prog_10_method_17_code 40 = .ok (.isub, 1) := by decide +kernel
theorem d_M_push_41 : decode prog_10_method_17_code 41 = .ok (.iaload, 1) := by decide +kernel
theorem d_M_push_42 : decode prog_10_method_17_code 42 = .ok (.goto 4, 3) := by decide +kernel
theorem d_M_push_45 : decode prog_10_method_17_code 45 = .ok (.iconst (-1), 1) := by decide +kernel
theorem d_M_push_46 : decode prog_10_method_17_code 46 = .ok (.istore 5, 2) := by decide +kernel
theorem d_M_push_48 : decode prog_10_method_17_code 48 = .ok (.iload_n 3, 1) := by decide +kernel
theorem d_M_push_49 : decode prog_10_method_17_code 49 = .ok (.ifCond .ge 15, 3) := by decide +kernel
theorem d_M_push_52 : decode prog_10_method_17_code 52 = .ok (.aload_n 0, 1) := by decide +kernel
theorem d_M_push_53 : decode prog_10_method_17_code 53 = .ok (.getfield 44, 3) := by decide +kernel
theorem d_M_push_56 : decode prog_10_method_17_code 56 = .ok (.iload_n 1, 1) := by decide +kernel
theorem d_M_push_57 : decode prog_10_method_17_code 57 = .ok (.bipush 97, 2) := by decide +kernel
theorem d_M_push_59 : decode prog_10_method_17_code 59 = .ok (.isub, 1) := by decide +kernel
theorem d_M_push_60 : decode prog_10_method_17_code 60 = .ok (.iaload, 1) := by decide +kernel
theorem d_M_push_61 : decode prog_10_method_17_code 61 = .ok (.goto 13, 3) := by decide +kernel
theorem d_M_push_64 : decode prog_10_method_17_code 64 = .ok (.aload_n 0, 1) := by decide +kernel
theorem d_M_push_65 : decode prog_10_method_17_code 65 = .ok (.iload_n 1, 1) := by decide +kernel
theorem d_M_push_66 : decode prog_10_method_17_code 66 = .ok (.iload 4, 2) := by decide +kernel
theorem d_M_push_68 : decode prog_10_method_17_code 68 = .ok (.iload 5, 2) := by decide +kernel
theorem d_M_push_70 : decode prog_10_method_17_code 70 = .ok (.iload_n 2, 1) := by decide +kernel
theorem d_M_push_71 : decode prog_10_method_17_code 71 = .ok (.invokevirtual 132, 3) := by decide +kernel
theorem d_M_push_74 : decode prog_10_method_17_code 74 = .ok (.istore 6, 2) := by decide +kernel
theorem d_M_push_76 : decode prog_10_method_17_code 76 = .ok (.aload_n 0, 1) := by decide +kernel
theorem d_M_push_77 : decode prog_10_method_17_code 77 = .ok (.iload_n 3, 1) := by decide +kernel
theorem d_M_push_78 : decode prog_10_method_17_code 78 = .ok (.ifCond .le 12, 3) := by decide +kernel
theorem d_M_push_81 : decode prog_10_method_17_code 81 = .ok (.aload_n 0, 1) := by decide +kernel
theorem d_M_push_82 : decode prog_10_method_17_code 82 = .ok (.getfield 129, 3) := by decide +kernel
theorem d_M_push_85 : decode prog_10_method_17_code 85 = .ok (.iload_n 3, 1) := by decide +kernel
theorem d_M_push_86 : decode prog_10_method_17_code 86 = .ok (.isub, 1) := by decide +kernel
theorem d_M_push_87 : decode prog_10_method_17_code 87 = .ok (.goto 7, 3) := by decide +kernel
theorem d_M_push_90 : decode prog_10_method_17_code 90 = .ok (.aload_n 0, 1) := by decide +kernel
theorem d_M_push_91 : decode prog_10_method_17_code 91 = .ok (.getfield 129, 3) := by decide +kernel
theorem d_M_push_94 : decode prog_10_method_17_code 94 = .ok (.putfield 129, 3) := by decide +kernel
theorem d_M_push_97 : decode prog_10_method_17_code 97 = .ok (.aload_n 0, 1) := by decide +kernel
theorem d_M_push_98 : decode prog_10_method_17_code 98 = .ok (.getfield 41, 3) := by decide +kernel
theorem d_M_push_101 : decode prog_10_method_17_code 101 = .ok (.aload_n 0, 1) := by decide +kernel
theorem d_M_push_102 : decode prog_10_method_17_code 102 = .ok (.getfield 129, 3) := by decide +kernel
theorem d_M_push_105 : decode prog_10_method_17_code 105 = .ok (.iload 6, 2) := by decide +kernel
theorem d_M_push_107 : decode prog_10_method_17_code 107 = .ok (.iastore, 1) := by decide +kernel
theorem d_M_push_108 : decode prog_10_method_17_code 108 = .ok (.aload_n 0, 1) := by decide +kernel
theorem d_M_push_109 : decode prog_10_method_17_code 109 = .ok (.dup, 1) := by decide +kernel
theorem d_M_push_110 : decode prog_10_method_17_code 110 = .ok (.getfield 129, 3) := by decide +kernel
theorem d_M_push_113 : decode prog_10_method_17_code 113 = .ok (.iconst 1, 1) := by decide +kernel
theorem d_M_push_114 : decode prog_10_method_17_code 114 = .ok (.iadd, 1) := by decide +kernel
theorem d_M_push_115 : decode prog_10_method_17_code 115 = .ok (.putfield 129, 3) := by decide +kernel
theorem d_M_push_118 : decode prog_10_method_17_code 118 = .ok (.iload 6, 2) := by decide +kernel
theorem d_M_push_120 : decode prog_10_method_17_code 120 = .ok (.ifCond .lt 7, 3) := by decide +kernel
theorem d_M_push_123 : decode prog_10_method_17_code 123 = .ok (.iconst 1, 1) := by decide +kernel
theorem d_M_push_124 : decode prog_10_method_17_code 124 = .ok (.goto 4, 3) := by decide +kernel
theorem d_M_push_127 : decode prog_10_method_17_code 127 = .ok (.iconst 0, 1) := by decide +kernel
theorem d_M_push_128 : decode prog_10_method_17_code 128 = .ok (.ireturn, 1) := by decide +kernel
theorem d_M_classOf_0 : decode prog_10_method_16_code 0 = .ok (.aload_n 0, 1) := by decide +kernel
theorem d_M_classOf_1 : decode prog_10_method_16_code 1 = .ok (.iload_n 1, 1) := by decide +kernel
theorem d_M_classOf_2 : decode prog_10_method_16_code 2 = .ok (.iload_n 2, 1) := by decide +kernel
theorem d_M_classOf_3 : decode prog_10_method_16_code 3 = .ok (.iload_n 3, 1) := by decide +kernel
theorem d_M_classOf_4 : decode prog_10_method_16_code 4 = .ok (.invokevirtual 122, 3) := by decide +kernel
theorem d_M_classOf_7 : decode prog_10_method_16_code 7 = .ok (.istore 5, 2) := by decide +kernel
theorem d_M_classOf_9 : decode prog_10_method_16_code 9 = .ok (.iload 5, 2) := by decide +kernel
theorem d_M_classOf_11 : decode prog_10_method_16_code 11 = .ok (.ifCond .lt 11, 3) := by decide +kernel
theorem d_M_classOf_14 : decode prog_10_method_16_code 14 = .ok (.aload_n 0, 1) := by decide +kernel
theorem d_M_classOf_15 : decode prog_10_method_16_code 15 = .ok (.getfield 32, 3) := by decide +kernel
theorem d_M_classOf_18 : decode prog_10_method_16_code 18 = .ok (.iload 5, 2) := by decide +kernel
theorem d_M_classOf_20 : decode prog_10_method_16_code 20 = .ok (.iaload, 1) := by decide +kernel
theorem d_M_classOf_21 : decode prog_10_method_16_code 21 = .ok (.ireturn, 1) := by decide +kernel
theorem d_M_classOf_22 : decode prog_10_method_16_code 22 = .ok (.iload 4, 2) := by decide +kernel
theorem d_M_classOf_24 : decode prog_10_method_16_code 24 = .ok (.ifCond .ne 5, 3) := by decide +kernel
theorem d_M_classOf_27 : decode prog_10_method_16_code 27 = .ok (.iconst (-1), 1) := by decide +kernel
theorem d_M_classOf_28 : decode prog_10_method_16_code 28 = .ok (.ireturn, 1) := by decide +kernel
theorem d_M_classOf_29 : decode prog_10_method_16_code 29 = .ok (.aload_n 0, 1) := by decide +kernel
theorem d_M_classOf_30 : decode prog_10_method_16_code 30 = .ok (.getfield 23, 3) := by decide +kernel
theorem d_M_classOf_33 : decode prog_10_method_16_code 33 = .ok (.aload_n 0, 1) := by decide +kernel
theorem d_M_classOf_34 : decode prog_10_method_16_code 34 = .ok (.getfield 119, 3) := by decide +kernel
theorem d_M_classOf_37 : decode prog_10_method_16_code 37 = .ok (.iload_n 1, 1) := by decide +kernel
theorem d_M_classOf_38 : decode prog_10_method_16_code 38 = .ok (.iastore, 1) := by decide +kernel
theorem d_M_classOf_39 : decode prog_10_method_16_code 39 = .ok (.aload_n 0, 1) := by decide +kernel
theorem d_M_classOf_40 : decode prog_10_method_16_code 40 = .ok (.getfield 26, 3) := by decide +kernel
theorem d_M_classOf_43 : decode prog_10_method_16_code 43 = .ok (.aload_n 0, 1) := by decide +kernel
theorem d_M_classOf_44 : decode prog_10_method_16_code 44 = .ok (.getfield 119, 3) := by decide +kernel
theorem d_M_classOf_47 : decode prog_10_method_16_code 47 = .ok (.iload_n 2, 1) := by decide +kernel
theorem d_M_classOf_48 : decode prog_10_method_16_code 48 = .ok (.iastore, 1) := by decide +kernel
theorem d_M_classOf_49 : decode prog_10_method_16_code 49 = .ok (.aload_n 0, 1) := by decide +kernel
theorem d_M_classOf_50 : decode prog_10_method_16_code 50 = .ok (.getfield 29, 3) := by decide +kernel
theorem d_M_classOf_53 : decode prog_10_method_16_code 53 = .ok (.aload_n 0, 1) := by decide +kernel
theorem d_M_classOf_54 : decode prog_10_method_16_code 54 = .ok (.getfield 119, 3) := by decide +kernel
theorem d_M_classOf_57 : decode prog_10_method_16_code 57 = .ok (.iload_n 3, 1) := by decide +kernel
theorem d_M_classOf_58 : decode prog_10_method_16_code 58 = .ok (.iastore, 1) := by decide +kernel
theorem d_M_classOf_59 : decode prog_10_method_16_code 59 = .ok (.aload_n 0, 1) := by decide +kernel
theorem d_M_classOf_60 : decode prog_10_method_16_code 60 = .ok (.getfield 32, 3) := by decide +kernel
theorem d_M_classOf_63 : decode prog_10_method_16_code 63 = .ok (.aload_n 0, 1) := by decide +kernel
theorem d_M_classOf_64 : decode prog_10_method_16_code 64 = .ok (.getfield 119, 3) := by decide +kernel
theorem d_M_classOf_67 : decode prog_10_method_16_code 67 = .ok (.aload_n 0, 1) := by decide +kernel
theorem d_M_classOf_68 : decode prog_10_method_16_code 68 = .ok (.getfield 126, 3) := by decide +kernel
theorem d_M_classOf_71 : decode prog_10_method_16_code 71 = .ok (.iastore, 1) := by decide +kernel
theorem d_M_classOf_72 : decode prog_10_method_16_code 72 = .ok (.aload_n 0, 1) := by decide +kernel
theorem d_M_classOf_73 : decode prog_10_method_16_code 73 = .ok (.getfield 35, 3) := by decide +kernel
theorem d_M_classOf_76 : decode prog_10_method_16_code 76 = .ok (.aload_n 0, 1) := by decide +kernel
theorem d_M_classOf_77 : decode prog_10_method_16_code 77 = .ok (.getfield 126, 3) := by decide +kernel
theorem d_M_classOf_80 : decode prog_10_method_16_code 80 = .ok (.aload_n 0, 1) := by decide +kernel
theorem d_M_classOf_81 : decode prog_10_method_16_code 81 = .ok (.getfield 126, 3) := by decide +kernel
theorem d_M_classOf_84 : decode prog_10_method_16_code 84 = .ok (.iastore, 1) := by decide +kernel
theorem d_M_classOf_85 : decode prog_10_method_16_code 85 = .ok (.aload_n 0, 1) := by decide +kernel
theorem d_M_classOf_86 : decode prog_10_method_16_code 86 = .ok (.dup, 1) := by decide +kernel
theorem d_M_classOf_87 : decode prog_10_method_16_code 87 = .ok (.getfield 119, 3) := by decide +kernel
theorem d_M_classOf_90 : decode prog_10_method_16_code 90 = .ok (.iconst 1, 1) := by decide +kernel
theorem d_M_classOf_91 : decode prog_10_method_16_code 91 = .ok (.iadd, 1) := by decide +kernel
theorem d_M_classOf_92 : decode prog_10_method_16_code 92 = .ok (.putfield 119, 3) := by decide +kernel
theorem d_M_classOf_95 : decode prog_10_method_16_code 95 = .ok (.aload_n 0, 1) := by decide +kernel
theorem d_M_classOf_96 : decode prog_10_method_16_code 96 = .ok (.dup, 1) := by decide +kernel
theorem d_M_classOf_97 : decode prog_10_method_16_code 97 = .ok (.getfield 126, 3) := by decide +kernel
theorem d_M_classOf_100 : decode prog_10_method_16_code 100 = .ok (.iconst 1, 1) := by decide +kernel
theorem d_M_classOf_101 : decode prog_10_method_16_code 101 = .ok (.iadd, 1) := by decide +kernel
theorem d_M_classOf_102 : decode prog_10_method_16_code 102 = .ok (.putfield 126, 3) := by decide +kernel
theorem d_M_classOf_105 : decode prog_10_method_16_code 105 = .ok (.aload_n 0, 1) := by decide +kernel
theorem d_M_classOf_106 : decode prog_10_method_16_code 106 = .ok (.getfield 126, 3) := by decide +kernel
theorem d_M_classOf_109 : decode prog_10_method_16_code 109 = .ok (.iconst 1, 1) := by decide +kernel
theorem d_M_classOf_110 : decode prog_10_method_16_code 110 = .ok (.isub, 1) := by decide +kernel
theorem d_M_classOf_111 : decode prog_10_method_16_code 111 = .ok (.ireturn, 1) := by decide +kernel
theorem d_M_findNode_0 : decode prog_10_method_15_code 0 = .ok (.iconst 0, 1) := by decide +kernel
theorem d_M_findNode_1 : decode prog_10_method_15_code 1 = .ok (.istore 4, 2) := by decide +kernel
theorem d_M_findNode_3 : decode prog_10_method_15_code 3 = .ok (.iload 4, 2) := by decide +kernel
theorem d_M_findNode_5 : decode prog_10_method_15_code 5 = .ok (.aload_n 0, 1) := by decide +kernel
theorem d_M_findNode_6 : decode prog_10_method_15_code 6 = .ok (.getfield 119, 3) := by decide +kernel
theorem d_M_findNode_9 : decode prog_10_method_15_code 9 = .ok (.if_icmp .ge 45, 3) := by decide +kernel
theorem d_M_findNode_12 : decode prog_10_method_15_code 12 = .ok (.aload_n 0, 1) := by decide +kernel
theorem d_M_findNode_13 : decode prog_10_method_15_code 13 = .ok (.getfield 23, 3) := by decide +kernel
theorem d_M_findNode_16 : decode prog_10_method_15_code 16 = .ok (.iload 4, 2) := by decide +kernel
theorem d_M_findNode_18 : decode prog_10_method_15_code 18 = .ok (.iaload, 1) := by decide +kernel
theorem d_M_findNode_19 : decode prog_10_method_15_code 19 = .ok (.iload_n 1, 1) := by decide +kernel
theorem d_M_findNode_20 : decode prog_10_method_15_code 20 = .ok (.if_icmp .ne 28, 3) := by decide +kernel
theorem d_M_findNode_23 : decode prog_10_method_15_code 23 = .ok (.aload_n 0, 1) := by decide +kernel
theorem d_M_findNode_24 : decode prog_10_method_15_code 24 = .ok (.getfield 26, 3) := by decide +kernel
theorem d_M_findNode_27 : decode prog_10_method_15_code 27 = .ok (.iload 4, 2) := by decide +kernel
theorem d_M_findNode_29 : decode prog_10_method_15_code 29 = .ok (.iaload, 1) := by decide +kernel
theorem d_M_findNode_30 : decode prog_10_method_15_code 30 = .ok (.iload_n 2, 1) := by decide +kernel
theorem d_M_findNode_31 : decode prog_10_method_15_code 31 = .ok (.if_icmp .ne 17, 3) := by decide +kernel
theorem d_M_findNode_34 : decode prog_10_method_15_code 34 = .ok (.aload_n 0, 1) := by decide +kernel
theorem d_M_findNode_35 : decode prog_10_method_15_code 35 = .ok (.getfield 29, 3) := by decide +kernel
theorem d_M_findNode_38 : decode prog_10_method_15_code 38 = .ok (.iload 4, 2) := by decide +kernel
theorem d_M_findNode_40 : decode prog_10_method_15_code 40 = .ok (.iaload, 1) := by decide +kernel
theorem d_M_findNode_41 : decode prog_10_method_15_code 41 = .ok (.iload_n 3, 1) := by decide +kernel
theorem d_M_findNode_42 : decode prog_10_method_15_code 42 = .ok (.if_icmp .ne 6, 3) := by decide +kernel
theorem d_M_findNode_45 : decode prog_10_method_15_code 45 = .ok (.iload 4, 2) := by decide +kernel
theorem d_M_findNode_47 : decode prog_10_method_15_code 47 = .ok (.ireturn, 1) := by decide +kernel
theorem d_M_findNode_48 : decode prog_10_method_15_code 48 = .ok (.iinc 4 1, 3) := by decide +kernel
theorem d_M_findNode_51 : decode prog_10_method_15_code 51 = .ok (.goto (-48), 3) := by decide +kernel
theorem d_M_findNode_54 : decode prog_10_method_15_code 54 = .ok (.iconst (-1), 1) := by decide +kernel
theorem d_M_findNode_55 : decode prog_10_method_15_code 55 = .ok (.ireturn, 1) := by decide +kernel
theorem d_M_cut_0 : decode prog_10_method_25_code 0 = .ok (.aload_n 0, 1) := by decide +kernel
theorem d_M_cut_1 : decode prog_10_method_25_code 1 = .ok (.iload_n 1, 1) := by decide +kernel
theorem d_M_cut_2 : decode prog_10_method_25_code 2 = .ok (.putfield 119, 3) := by decide +kernel
theorem d_M_cut_5 : decode prog_10_method_25_code 5 = .ok (.aload_n 0, 1) := by decide +kernel
theorem d_M_cut_6 : decode prog_10_method_25_code 6 = .ok (.iload_n 2, 1) := by decide +kernel
theorem d_M_cut_7 : decode prog_10_method_25_code 7 = .ok (.putfield 126, 3) := by decide +kernel
theorem d_M_cut_10 : decode prog_10_method_25_code 10 = .ok (.iconst 0, 1) := by decide +kernel
theorem d_M_cut_11 : decode prog_10_method_25_code 11 = .ok (.istore_n 3, 1) := by decide +kernel
theorem d_M_cut_12 : decode prog_10_method_25_code 12 = .ok (.iload_n 3, 1) := by decide +kernel
theorem d_M_cut_13 : decode prog_10_method_25_code 13 = .ok (.iload_n 2, 1) := by decide +kernel
theorem d_M_cut_14 : decode prog_10_method_25_code 14 = .ok (.if_icmp .ge 16, 3) := by decide +kernel
theorem d_M_cut_17 : decode prog_10_method_25_code 17 = .ok (.aload_n 0, 1) := by decide +kernel
theorem d_M_cut_18 : decode prog_10_method_25_code 18 = .ok (.getfield 35, 3) := by decide +kernel
theorem d_M_cut_21 : decode prog_10_method_25_code 21 = .ok (.iload_n 3, 1) := by decide +kernel
theorem d_M_cut_22 : decode prog_10_method_25_code 22 = .ok (.iload_n 3, 1) := by decide +kernel
theorem d_M_cut_23 : decode prog_10_method_25_code 23 = .ok (.iastore, 1) := by decide +kernel
theorem d_M_cut_24 : decode prog_10_method_25_code 24 = .ok (.iinc 3 1, 3) := by decide +kernel
theorem d_M_cut_27 : decode prog_10_method_25_code 27 = .ok (.goto (-15), 3) := by decide +kernel
theorem d_M_cut_30 : decode prog_10_method_25_code 30 = .ok (.return_, 1) := by decide +kernel
theorem d_M_joinClasses_0 : decode prog_10_method_20_code 0 = .ok (.aload_n 0, 1) := by decide +kernel
theorem d_M_joinClasses_1 : decode prog_10_method_20_code 1 = .ok (.getfield 35, 3) := by decide +kernel
theorem d_M_joinClasses_4 : decode prog_10_method_20_code 4 = .ok (.iload_n 1, 1) := by decide +kernel
theorem d_M_joinClasses_5 : decode prog_10_method_20_code 5 = .ok (.iaload, 1) := by decide +kernel
theorem d_M_joinClasses_6 : decode prog_10_method_20_code 6 = .ok (.istore_n 3, 1) := by decide +kernel
theorem d_M_joinClasses_7 : decode prog_10_method_20_code 7 = .ok (.aload_n 0, 1) := by decide +kernel
theorem d_M_joinClasses_8 : decode prog_10_method_20_code 8 = .ok (.getfield 35, 3) := by decide +kernel
theorem d_M_joinClasses_11 : decode prog_10_method_20_code 11 = .ok (.iload_n 2, 1) := by decide +kernel
theorem d_M_joinClasses_12 : decode prog_10_method_20_code 12 = .ok (.iaload, 1) := by decide +kernel
theorem d_M_joinClasses_13 : decode prog_10_method_20_code 13 = .ok (.istore 4, 2) := by decide +kernel
theorem d_M_joinClasses_15 : decode prog_10_method_20_code 15 = .ok (.aload_n 0, 1) := by decide +kernel
theorem d_M_joinClasses_16 : decode prog_10_method_20_code 16 = .ok (.aload_n 0, 1) := by decide +kernel
theorem d_M_joinClasses_17 : decode prog_10_method_20_code 17 = .ok (.getfield 139, 3) := by decide +kernel
theorem d_M_joinClasses_20 : decode prog_10_method_20_code 20 = .ok (.ifCond .ne 9, 3) := by decide +kernel
theorem d_M_joinClasses_23 : decode prog_10_method_20_code 23 = .ok (.iload_n 3, 1) := by decide +kernel
theorem d_M_joinClasses_24 : decode prog_10_method_20_code 24 = .ok (.iload 4, 2) := by decide +kernel
theorem d_M_joinClasses_26 : decode prog_10_method_20_code 26 = .ok (.if_icmp .eq 7, 3) := by decide +kernel
theorem d_M_joinClasses_29 : decode prog_10_method_20_code 29 = .ok (.iconst 1, 1) := by decide +kernel
theorem d_M_joinClasses_30 : decode prog_10_method_20_code 30 = .ok (.goto 4, 3) := by decide +kernel
theorem d_M_joinClasses_33 : decode prog_10_method_20_code 33 = .ok (.iconst 0, 1) := by decide +kernel
theorem d_M_joinClasses_34 : decode prog_10_method_20_code 34 = .ok (.putfield 139, 3) := by decide +kernel
theorem d_M_joinClasses_37 : decode prog_10_method_20_code 37 = .ok (.iconst 0, 1) := by decide +kernel
theorem d_M_joinClasses_38 : decode prog_10_method_20_code 38 = .ok (.istore 5, 2) := by decide +kernel
theorem d_M_joinClasses_40 : decode prog_10_method_20_code 40 = .ok (.iload 5, 2) := by decide +kernel
theorem d_M_joinClasses_42 : decode prog_10_method_20_code 42 = .ok (.aload_n 0, 1) := by decide +kernel
theorem d_M_joinClasses_43 : decode prog_10_method_20_code 43 = .ok (.getfield 126, 3) := by decide +kernel
theorem d_M_joinClasses_46 : decode prog_10_method_20_code 46 = .ok (.if_icmp .ge 39, 3) := by decide +kernel
theorem d_M_joinClasses_49 : decode prog_10_method_20_code 49 = .ok (.aload_n 0, 1) := by decide +kernel
theorem d_M_joinClasses_50 : decode prog_10_method_20_code 50 = .ok (.getfield 35, 3) := by decide +kernel
theorem d_M_joinClasses_53 : decode prog_10_method_20_code 53 = .ok (.iload 5, 2) := by decide +kernel
theorem d_M_joinClasses_55 : decode prog_10_method_20_code 55 = .ok (.aload_n 0, 1) := by decide +kernel
theorem d_M_joinClasses_56 : decode prog_10_method_20_code 56 = .ok (.getfield 35, 3) := by decide +kernel
theorem d_M_joinClasses_59 : decode prog_10_method_20_code 59 = .ok (.iload 5, 2) := by decide +kernel
theorem d_M_joinClasses_61 : decode prog_10_method_20_code 61 = .ok (.iaload, 1) := by decide +kernel
theorem d_M_joinClasses_62 : decode prog_10_method_20_code 62 = .ok (.iload 4, 2) := by decide +kernel
theorem d_M_joinClasses_64 : decode prog_10_method_20_code 64 = .ok (.if_icmp .ne 7, 3) := by decide +kernel
theorem d_M_joinClasses_67 : decode prog_10_method_20_code 67 = .ok (.iload_n 3, 1) := by decide +kernel
theorem d_M_joinClasses_68 : decode prog_10_method_20_code 68 = .ok (.goto 10, 3) := by decide +kernel
theorem d_M_joinClasses_71 : decode prog_10_method_20_code 71 = .ok (.aload_n 0, 1) := by decide +kernel
theorem d_M_joinClasses_72 : decode prog_10_method_20_code 72 = .ok (.getfield 35, 3) := by decide +kernel
theorem d_M_joinClasses_75 : decode prog_10_method_20_code 75 = .ok (.iload 5, 2) := by decide +kernel
theorem d_M_joinClasses_77 : decode prog_10_method_20_code 77 = .ok (.iaload, 1) := by decide +kernel
theorem d_M_joinClasses_78 : decode prog_10_method_20_code 78 = .ok (.iastore, 1) := by decide +kernel
theorem d_M_joinClasses_79 : decode prog_10_method_20_code 79 = .ok (.iinc 5 1, 3) := by decide +kernel
theorem d_M_joinClasses_82 : decode prog_10_method_20_code 82 = .ok (.goto (-42), 3) := by decide +kernel
theorem d_M_joinClasses_85 : decode prog_10_method_20_code 85 = .ok (.return_, 1) := by decide +kernel
theorem d_M_labelOf_0 : decode prog_10_method_22_code 0 = .ok (.iload_n 1, 1) := by decide +kernel
theorem d_M_labelOf_1 : decode prog_10_method_22_code 1 = .ok (.ifCond .ge 7, 3) := by decide +kernel
theorem d_M_labelOf_4 : decode prog_10_method_22_code 4 = .ok (.iconst (-1), 1) := by decide +kernel
theorem d_M_labelOf_5 : decode prog_10_method_22_code 5 = .ok (.goto 9, 3) := by decide +kernel
theorem d_M_labelOf_8 : decode prog_10_method_22_code 8 = .ok (.aload_n 0, 1) := by decide +kernel
theorem d_M_labelOf_9 : decode prog_10_method_22_code 9 = .ok (.getfield 35, 3) := by decide +kernel
theorem d_M_labelOf_12 : decode prog_10_method_22_code 12 = .ok (.iload_n 1, 1) := by decide +kernel
theorem d_M_labelOf_13 : decode prog_10_method_22_code 13 = .ok (.iaload, 1) := by decide +kernel
theorem d_M_labelOf_14 : decode prog_10_method_22_code 14 = .ok (.ireturn, 1) := by decide +kernel
theorem d_M_removeNode_0 : decode prog_10_method_21_code 0 = .ok (.aload_n 0, 1) := by decide +kernel
theorem d_M_removeNode_1 : decode prog_10_method_21_code 1 = .ok (.dup, 1) := by decide +kernel
theorem d_M_removeNode_2 : decode prog_10_method_21_code 2 = .ok (.getfield 119, 3) := by decide +kernel
theorem d_M_removeNode_5 : decode prog_10_method_21_code 5 = .ok (.iconst 1, 1) := by decide +kernel
theorem d_M_removeNode_6 : decode prog_10_method_21_code 6 = .ok (.isub, 1) := by decide +kernel
theorem d_M_removeNode_7 : decode prog_10_method_21_code 7 = .ok (.putfield 119, 3) := by decide +kernel
theorem d_M_removeNode_10 : decode prog_10_method_21_code 10 = .ok (.iload_n 1, 1) := by decide +kernel
theorem d_M_removeNode_11 : decode prog_10_method_21_code 11 = .ok (.istore_n 2, 1) := by decide +kernel
theorem d_M_removeNode_12 : decode prog_10_method_21_code 12 = .ok (.iload_n 2, 1) := by decide +kernel
theorem d_M_removeNode_13 : decode prog_10_method_21_code 13 = .ok (.aload_n 0, 1) := by decide +kernel
theorem d_M_removeNode_14 : decode prog_10_method_21_code 14 = .ok (.getfield 119, 3) := by decide +kernel
theorem d_M_removeNode_17 : decode prog_10_method_21_code 17 = .ok (.if_icmp .ge 65, 3) := by decide +kernel
theorem d_M_removeNode_20 : decode prog_10_method_21_code 20 = .ok (.aload_n 0, 1) := by decide +kernel
theorem d_M_removeNode_21 : decode prog_10_method_21_code 21 = .ok (.getfield 23, 3) := by decide +kernel
theorem d_M_removeNode_24 : decode prog_10_method_21_code 24 = .ok (.iload_n 2, 1) := by decide +kernel
theorem d_M_removeNode_25 : decode prog_10_method_21_code 25 = .ok (.aload_n 0, 1) := by decide +kernel
theorem d_M_removeNode_26 : decode prog_10_method_21_code 26 = .ok (.getfield 23, 3) := by decide +kernel
theorem d_M_removeNode_29 : decode prog_10_method_21_code 29 = .ok (.iload_n 2, 1) := by decide +kernel
theorem d_M_removeNode_30 : decode prog_10_method_21_code 30 = .ok (.iconst 1, 1) := by decide +kernel
theorem d_M_removeNode_31 : decode prog_10_method_21_code 31 = .ok (.iadd, 1) := by decide +kernel
theorem d_M_removeNode_32 : decode prog_10_method_21_code 32 = .ok (.iaload, 1) := by decide +kernel
theorem d_M_removeNode_33 : decode prog_10_method_21_code 33 = .ok (.iastore, 1) := by decide +kernel
theorem d_M_removeNode_34 : decode prog_10_method_21_code 34 = .ok (.aload_n 0, 1) := by decide +kernel
theorem d_M_removeNode_35 : decode prog_10_method_21_code 35 = .ok (.getfield 26, 3) := by decide +kernel
theorem d_M_removeNode_38 : decode prog_10_method_21_code 38 = .ok (.iload_n 2, 1) := by decide +kernel
theorem d_M_removeNode_39 : decode prog_10_method_21_code 39 = .ok (.aload_n 0, 1) := by decide +kernel
theorem d_M_removeNode_40 : decode prog_10_method_21_code 40 = .ok (.getfield 26, 3) := by decide +kernel
theorem d_M_removeNode_43 : decode prog_10_method_21_code 43 = .ok (.iload_n 2, 1) := by decide +kernel
theorem d_M_removeNode_44 : decode prog_10_method_21_code 44 = .ok (.iconst 1, 1) := by decide +kernel
theorem d_M_removeNode_45 : decode prog_10_method_21_code 45 = .ok (.iadd, 1) := by decide +kernel
theorem d_M_removeNode_46 : decode prog_10_method_21_code 46 = .ok (.iaload, 1) := by decide +kernel
theorem d_M_removeNode_47 : decode prog_10_method_21_code 47 = .ok (.iastore, 1) := by decide +kernel
theorem d_M_removeNode_48 : decode prog_10_method_21_code 48 = .ok (.aload_n 0, 1) := by decide +kernel
theorem d_M_removeNode_49 : decode prog_10_method_21_code 49 = .ok (.getfield 29, 3) := by decide +kernel
theorem d_M_removeNode_52 : decode prog_10_method_21_code 52 = .ok (.iload_n 2, 1) := by decide +kernel
theorem d_M_removeNode_53 : decode prog_10_method_21_code 53 = .ok (.aload_n 0, 1) := by decide +kernel
theorem d_M_removeNode_54 : decode prog_10_method_21_code 54 = .ok (.getfield 29, 3) := by decide +kernel
theorem d_M_removeNode_57 : decode prog_10_method_21_code 57 = .ok (.iload_n 2, 1) := by decide +kernel
theorem d_M_removeNode_58 : decode prog_10_method_21_code 58 = .ok (.iconst 1, 1) := by decide +kernel
theorem d_M_removeNode_59 : decode prog_10_method_21_code 59 = .ok (.iadd, 1) := by decide +kernel
theorem d_M_removeNode_60 : decode prog_10_method_21_code 60 = .ok (.iaload, 1) := by decide +kernel
theorem d_M_removeNode_61 : decode prog_10_method_21_code 61 = .ok (.iastore, 1) := by decide +kernel
theorem d_M_removeNode_62 : decode prog_10_method_21_code 62 = .ok (.aload_n 0, 1) := by decide +kernel
theorem d_M_removeNode_63 : decode prog_10_method_21_code 63 = .ok (.getfield 32, 3) := by decide +kernel
theorem d_M_removeNode_66 : decode prog_10_method_21_code 66 = .ok (.iload_n 2, 1) := by decide +kernel
theorem d_M_removeNode_67 : decode prog_10_method_21_code 67 = .ok (.aload_n 0, 1) := by decide +kernel
theorem d_M_removeNode_68 : decode prog_10_method_21_code 68 = .ok (.getfield 32, 3) := by decide +kernel
theorem d_M_removeNode_71 : decode prog_10_method_21_code 71 = .ok (.iload_n 2, 1) := by decide +kernel
theorem d_M_removeNode_72 : decode prog_10_method_21_code 72 = .ok (.iconst 1, 1) := by decide +kernel
theorem d_M_removeNode_73 : decode prog_10_method_21_code 73 = .ok (.iadd, 1) := by decide +kernel
theorem d_M_removeNode_74 : decode prog_10_method_21_code 74 = .ok (.iaload, 1) := by decide +kernel
theorem d_M_removeNode_75 : decode prog_10_method_21_code 75 = .ok (.iastore, 1) := by decide +kernel
theorem d_M_removeNode_76 : decode prog_10_method_21_code 76 = .ok (.iinc 2 1, 3) := by decide +kernel
theorem d_M_removeNode_79 : decode prog_10_method_21_code 79 = .ok (.goto (-67), 3) := by decide +kernel
theorem d_M_removeNode_82 : decode prog_10_method_21_code 82 = .ok (.return_, 1) := by decide +kernel
theorem d_M_fit_0 : decode prog_10_method_35_code 0 = .ok (.aload_n 0, 1) := by decide +kernel
theorem d_M_fit_1 : decode prog_10_method_35_code 1 = .ok (.iconst 2, 1) := by decide +kernel
theorem d_M_fit_2 : decode prog_10_method_35_code 2 = .ok (.iload_n 1, 1) := by decide +kernel
theorem d_M_fit_3 : decode prog_10_method_35_code 3 = .ok (.imul, 1) := by decide +kernel
theorem d_M_fit_4 : decode prog_10_method_35_code 4 = .ok (.invokevirtual 173, 3) := by decide +kernel
theorem d_M_fit_7 : decode prog_10_method_35_code 7 = .ok (.istore_n 3, 1) := by decide +kernel
theorem d_M_fit_8 : decode prog_10_method_35_code 8 = .ok (.iconst 0, 1) := by decide +kernel
theorem d_M_fit_9 : decode prog_10_method_35_code 9 = .ok (.istore 4, 2) := by decide +kernel
theorem d_M_fit_11 : decode prog_10_method_35_code 11 = .ok (.iload 4, 2) := by decide +kernel
theorem d_M_fit_13 : decode prog_10_method_35_code 13 = .ok (.iconst 3, 1) := by decide +kernel
theorem d_M_fit_14 : decode prog_10_method_35_code 14 = .ok (.if_icmp .ge 17, 3) := by decide +kernel
theorem d_M_fit_17 : decode prog_10_method_35_code 17 = .ok (.aload_n 0, 1) := by decide +kernel
theorem d_M_fit_18 : decode prog_10_method_35_code 18 = .ok (.getfield 44, 3) := by decide +kernel
theorem d_M_fit_21 : decode prog_10_method_35_code 21 = .ok (.iload 4, 2) := by decide +kernel
theorem d_M_fit_23 : decode prog_10_method_35_code 23 = .ok (.iconst 0, 1) := by decide +kernel
theorem d_M_fit_24 : decode prog_10_method_35_code 24 = .ok (.iastore, 1) := by decide +kernel
theorem d_M_fit_25 : decode prog_10_method_35_code 25 = .ok (.iinc 4 1, 3) := by decide +kernel
theorem d_M_fit_28 : decode prog_10_method_35_code 28 = .ok (.goto (-17), 3) := by decide +kernel
theorem d_M_fit_31 : decode prog_10_method_35_code 31 = .ok (.iload_n 2, 1) := by decide +kernel
theorem d_M_fit_32 : decode prog_10_method_35_code 32 = .ok (.ifCond .le 7, 3) := by decide +kernel
theorem d_M_fit_35 : decode prog_10_method_35_code 35 = .ok (.iconst 1, 1) := by decide +kernel
theorem d_M_fit_36 : decode prog_10_method_35_code 36 = .ok (.goto 4, 3) := by decide +kernel
theorem d_M_fit_39 : decode prog_10_method_35_code 39 = .ok (.iconst 0, 1) := by decide +kernel
theorem d_M_fit_40 : decode prog_10_method_35_code 40 = .ok (.istore 4, 2) := by decide +kernel
theorem d_M_fit_42 : decode prog_10_method_35_code 42 = .ok (.iload 4, 2) := by decide +kernel
theorem d_M_fit_44 : decode prog_10_method_35_code 44 = .ok (.ifCond .eq 57, 3) := by decide +kernel
theorem d_M_fit_47 : decode prog_10_method_35_code 47 = .ok (.aload_n 0, 1) := by decide +kernel
theorem d_M_fit_48 : decode prog_10_method_35_code 48 = .ok (.getfield 119, 3) := by decide +kernel
theorem d_M_fit_51 : decode prog_10_method_35_code 51 = .ok (.bipush 40, 2) := by decide +kernel
theorem d_M_fit_53 : decode prog_10_method_35_code 53 = .ok (.if_icmp .gt 48, 3) := by decide +kernel
theorem d_M_fit_56 : decode prog_10_method_35_code 56 = .ok (.aload_n 0, 1) := by decide +kernel
theorem d_M_fit_57 : decode prog_10_method_35_code 57 = .ok (.iconst 2, 1) := by decide +kernel
theorem d_M_fit_58 : decode prog_10_method_35_code 58 = .ok (.iload_n 1, 1) := by decide +kernel
theorem d_M_fit_59 : decode prog_10_method_35_code 59 = .ok (.imul, 1) := by decide +kernel
theorem d_M_fit_60 : decode prog_10_method_35_code 60 = .ok (.invokevirtual 176, 3) := by decide +kernel
theorem d_M_fit_63 : decode prog_10_method_35_code 63 = .ok (.istore 5, 2) := by decide +kernel
theorem d_M_fit_65 : decode prog_10_method_35_code 65 = .ok (.iload 5, 2) := by decide +kernel
theorem d_M_fit_67 : decode prog_10_method_35_code 67 = .ok (.ifCond .lt 23, 3) := by decide +kernel
theorem d_M_fit_70 : decode prog_10_method_35_code 70 = .ok (.aload_n 0, 1) := by decide +kernel
theorem d_M_fit_71 : decode prog_10_method_35_code 71 = .ok (.iconst 2, 1) := by decide +kernel
theorem d_M_fit_72 : decode prog_10_method_35_code 72 = .ok (.iload_n 1, 1) := by decide +kernel
theorem d_M_fit_73 : decode prog_10_method_35_code 73 = .ok (.imul, 1) := by decide +kernel
theorem d_M_fit_74 : decode prog_10_method_35_code 74 = .ok (.iconst 1, 1) := by decide +kernel
theorem d_M_fit_75 : decode prog_10_method_35_code 75 = .ok (.iadd, 1) := by decide +kernel
theorem d_M_fit_76 : decode prog_10_method_35_code 76 = .ok (.iconst 1, 1) := by decide +kernel
theorem d_M_fit_77 : decode prog_10_method_35_code 77 = .ok (.invokevirtual 179, 3) := by decide +kernel
theorem d_M_fit_80 : decode prog_10_method_35_code 80 = .ok (.istore 6, 2) := by decide +kernel
theorem d_M_fit_82 : decode prog_10_method_35_code 82 = .ok (.aload_n 0, 1) := by decide +kernel
theorem d_M_fit_83 : decode prog_10_method_35_code 83 = .ok (.iload 5, 2) := by decide +kernel
theorem d_M_fit_85 : decode prog_10_method_35_code 85 = .ok (.iload 6, 2) := by decide +kernel
theorem d_M_fit_87 : decode prog_10_method_35_code 87 = .ok (.invokevirtual 146, 3) := by decide +kernel
theorem d_M_fit_90 : decode prog_10_method_35_code 90 = .ok (.aload_n 0, 1) := by decide +kernel
theorem d_M_fit_91 : decode prog_10_method_35_code 91 = .ok (.iload_n 3, 1) := by decide +kernel
theorem d_M_fit_92 : decode prog_10_method_35_code 92 = .ok (.iload_n 2, 1) := by decide +kernel
theorem d_M_fit_93 : decode prog_10_method_35_code 93 = .ok (.invokevirtual 183, 3) := by decide +kernel
theorem d_M_fit_96 : decode prog_10_method_35_code 96 = .ok (.istore 4, 2) := by decide +kernel
theorem d_M_fit_98 : decode prog_10_method_35_code 98 = .ok (.goto (-56), 3) := by decide +kernel
theorem d_M_fit_101 : decode prog_10_method_35_code 101 = .ok (.return_, 1) := by decide +kernel
theorem d_M_variablesOf_0 : decode prog_10_method_33_code 0 = .ok (.iconst 0, 1) := by decide +kernel
theorem d_M_variablesOf_1 : decode prog_10_method_33_code 1 = .ok (.istore_n 2, 1) := by decide +kernel
theorem d_M_variablesOf_2 : decode prog_10_method_33_code 2 = .ok (.iconst 0, 1) := by decide +kernel
theorem d_M_variablesOf_3 : decode prog_10_method_33_code 3 = .ok (.istore_n 3, 1) := by decide +kernel
theorem d_M_variablesOf_4 : decode prog_10_method_33_code 4 = .ok (.iload_n 3, 1) := by decide +kernel
theorem d_M_variablesOf_5 : decode prog_10_method_33_code 5 = .ok (.aload_n 0, 1) := by decide +kernel
theorem d_M_variablesOf_6 : decode prog_10_method_33_code 6 = .ok (.getfield 20, 3) := by decide +kernel
theorem d_M_variablesOf_9 : decode prog_10_method_33_code 9 = .ok (.iload_n 1, 1) := by decide +kernel
theorem d_M_variablesOf_10 : decode prog_10_method_33_code 10 = .ok (.iaload, 1) := by decide +kernel
theorem d_M_variablesOf_11 : decode prog_10_method_33_code 11 = .ok (.if_icmp .ge 48, 3) := by decide +kernel
theorem d_M_variablesOf_14 : decode prog_10_method_33_code 14 = .ok (.aload_n 0, 1) := by decide +kernel
theorem d_M_variablesOf_15 : decode prog_10_method_33_code 15 = .ok (.getfield 17, 3) := by decide +kernel
theorem d_M_variablesOf_18 : decode prog_10_method_33_code 18 = .ok (.bipush 7, 2) := by decide +kernel
theorem d_M_variablesOf_20 : decode prog_10_method_33_code 20 = .ok (.iload_n 1, 1) := by decide +kernel
theorem d_M_variablesOf_21 : decode prog_10_method_33_code 21 = .ok (.imul, 1) := by decide +kernel
theorem d_M_variablesOf_22 : decode prog_10_method_33_code 22 = .ok (.iload_n 3, 1) := by decide +kernel
theorem d_M_variablesOf_23 : decode prog_10_method_33_code 23 = .ok (.iadd, 1) := by decide +kernel
theorem d_M_variablesOf_24 : decode prog_10_method_33_code 24 = .ok (.iaload, 1) := by decide +kernel
theorem d_M_variablesOf_25 : decode prog_10_method_33_code 25 = .ok (.istore 4, 2) := by decide +kernel
theorem d_M_variablesOf_27 : decode prog_10_method_33_code 27 = .ok (.iload 4, 2) := by decide +kernel
theorem d_M_variablesOf_29 : decode prog_10_method_33_code 29 = .ok (.bipush 97, 2) := by decide +kernel
theorem d_M_variablesOf_31 : decode prog_10_method_33_code 31 = .ok (.bipush 99, 2) := by decide +kernel
theorem d_M_variablesOf_33 : decode prog_10_method_33_code 33 = .ok (.invokestatic 75, 3) := by decide +kernel
theorem d_M_variablesOf_36 : decode prog_10_method_33_code 36 = .ok (.ifCond .eq 15, 3) := by decide +kernel
theorem d_M_variablesOf_39 : decode prog_10_method_33_code 39 = .ok (.iload_n 2, 1) := by decide +kernel
theorem d_M_variablesOf_40 : decode prog_10_method_33_code 40 = .ok (.iconst 1, 1) := by decide +kernel
theorem d_M_variablesOf_41 : decode prog_10_method_33_code 41 = .ok (.iload 4, 2) := by decide +kernel
theorem d_M_variablesOf_43 : decode prog_10_method_33_code 43 = .ok (.bipush 97, 2) := by decide +kernel
theorem d_M_variablesOf_45 : decode prog_10_method_33_code 45 = .ok (.isub, 1) := by decide +kernel
theorem d_M_variablesOf_46 : decode prog_10_method_33_code 46 = .ok (.ishl, 1) := by decide +kernel
theorem d_M_variablesOf_47 : decode prog_10_method_33_code 47 = .ok (.ior, 1) := by decide +kernel
theorem d_M_variablesOf_48 : decode prog_10_method_33_code 48 = .ok (.goto 4, 3) := by decide +kernel
theorem d_M_variablesOf_51 : decode prog_10_method_33_code 51 = .ok (.iload_n 2, 1) := by decide +kernel
theorem d_M_variablesOf_52 : decode prog_10_method_33_code 52 = .ok (.istore_n 2, 1) := by decide +kernel
theorem d_M_variablesOf_53 : decode prog_10_method_33_code 53 = .ok (.iinc 3 1, 3) := by decide +kernel
theorem d_M_variablesOf_56 : decode prog_10_method_33_code 56 = .ok (.goto (-52), 3) := by decide +kernel
theorem d_M_variablesOf_59 : decode prog_10_method_33_code 59 = .ok (.iload_n 2, 1) := by decide +kernel
theorem d_M_variablesOf_60 : decode prog_10_method_33_code 60 = .ok (.ireturn, 1) := by decide +kernel
theorem d_M_tabled_0 : decode prog_10_method_32_code 0 = .ok (.iconst 0, 1) := by decide +kernel
theorem d_M_tabled_1 : decode prog_10_method_32_code 1 = .ok (.istore_n 2, 1) := by decide +kernel
theorem d_M_tabled_2 : decode prog_10_method_32_code 2 = .ok (.aload_n 0, 1) := by decide +kernel
theorem d_M_tabled_3 : decode prog_10_method_32_code 3 = .ok (.getfield 20, 3) := by decide +kernel
theorem d_M_tabled_6 : decode prog_10_method_32_code 6 = .ok (.iload_n 1, 1) := by decide +kernel
theorem d_M_tabled_7 : decode prog_10_method_32_code 7 = .ok (.iaload, 1) := by decide +kernel
theorem d_M_tabled_8 : decode prog_10_method_32_code 8 = .ok (.iconst 1, 1) := by decide +kernel
theorem d_M_tabled_9 : decode prog_10_method_32_code 9 = .ok (.isub, 1) := by decide +kernel
theorem d_M_tabled_10 : decode prog_10_method_32_code 10 = .ok (.istore_n 3, 1) := by decide +kernel
theorem d_M_tabled_11 : decode prog_10_method_32_code 11 = .ok (.iload_n 3, 1) := by decide +kernel
theorem d_M_tabled_12 : decode prog_10_method_32_code 12 = .ok (.ifCond .lt 162, 3) := by decide +kernel
theorem d_M_tabled_15 : decode prog_10_method_32_code 15 = .ok (.aload_n 0, 1) := by decide +kernel
theorem d_M_tabled_16 : decode prog_10_method_32_code 16 = .ok (.getfield 17, 3) := by decide +kernel
theorem d_M_tabled_19 : decode prog_10_method_32_code 19 = .ok (.bipush 7, 2) := by decide +kernel
theorem d_M_tabled_21 : decode prog_10_method_32_code 21 = .ok (.iload_n 1, 1) := by decide +kernel
theorem d_M_tabled_22 : decode prog_10_method_32_code 22 = .ok (.imul, 1) := by decide +kernel
theorem d_M_tabled_23 : decode prog_10_method_32_code 23 = .ok (.iload_n 3, 1) := by decide +kernel
theorem d_M_tabled_24 : decode prog_10_method_32_code 24 = .ok (.iadd, 1) := by decide +kernel
theorem d_M_tabled_25 : decode prog_10_method_32_code 25 = .ok (.iaload, 1) := by decide +kernel
theorem d_M_tabled_26 : decode prog_10_method_32_code 26 = .ok (.istore 4, 2) := by decide +kernel
theorem d_M_tabled_28 : decode prog_10_method_32_code 28 = .ok (.iload 4, 2) := by decide +kernel
theorem d_M_tabled_30 : decode prog_10_method_32_code 30 = .ok (.invokestatic 98, 3) := by decide +kernel
theorem d_M_tabled_33 : decode prog_10_method_32_code 33 = .ok (.istore 5, 2) := by decide +kernel
theorem d_M_tabled_35 : decode prog_10_method_32_code 35 = .ok (.iload 5, 2) := by decide +kernel
theorem d_M_tabled_37 : decode prog_10_method_32_code 37 = .ok (.ifCond .ge 16, 3) := by decide +kernel
theorem d_M_tabled_40 : decode prog_10_method_32_code 40 = .ok (.aload_n 0, 1) := by decide +kernel
theorem d_M_tabled_41 : decode prog_10_method_32_code 41 = .ok (.getfield 44, 3) := by decide +kernel
theorem d_M_tabled_44 : decode prog_10_method_32_code 44 = .ok (.iload 4, 2) := by decide +kernel
theorem d_M_tabled_46 : decode prog_10_method_32_code 46 = .ok (.bipush 97, 2) := by decide +kernel
theorem d_M_tabled_48 : decode prog_10_method_32_code 48 = .ok (.isub, 1) := by decide +kernel
theorem d_M_tabled_49 : decode prog_10_method_32_code 49 = .ok (.iaload, 1) := by decide +kernel
theorem d_M_tabled_50 : decode prog_10_method_32_code 50 = .ok (.goto 84, 3) := by decide +kernel
theorem d_M_tabled_53 : decode prog_10_method_32_code 53 = .ok (.iload 5, 2) := by decide +kernel
theorem d_M_tabled_55 : decode prog_10_method_32_code 55 = .ok (.ifCond .ne 13, 3) := by decide +kernel
theorem d_M_tabled_58 : decode prog_10_method_32_code 58 = .ok (.aload_n 0, 1) := by decide +kernel
theorem d_M_tabled_59 : decode prog_10_method_32_code 59 = .ok (.getfield 47, 3) := by decide +kernel
theorem d_M_tabled_62 : decode prog_10_method_32_code 62 = .ok (.iload 4, 2) := by decide +kernel
theorem d_M_tabled_64 : decode prog_10_method_32_code 64 = .ok (.iaload, 1) := by decide +kernel
theorem d_M_tabled_65 : decode prog_10_method_32_code 65 = .ok (.goto 69, 3) := by decide +kernel
theorem d_M_tabled_68 : decode prog_10_method_32_code 68 = .ok (.iload 5, 2) := by decide +kernel
theorem d_M_tabled_70 : decode prog_10_method_32_code 70 = .ok (.iconst 1, 1) := by decide +kernel
theorem d_M_tabled_71 : decode prog_10_method_32_code 71 = .ok (.if_icmp .ne 28, 3) := by decide +kernel
theorem d_M_tabled_74 : decode prog_10_method_32_code 74 = .ok (.aload_n 0, 1) := by decide +kernel
theorem d_M_tabled_75 : decode prog_10_method_32_code 75 = .ok (.getfield 50, 3) := by decide +kernel
theorem d_M_tabled_78 : decode prog_10_method_32_code 78 = .ok (.bipush 40, 2) := by decide +kernel
theorem d_M_tabled_80 : decode prog_10_method_32_code 80 = .ok (.iload 4, 2) := by decide +kernel
theorem d_M_tabled_82 : decode prog_10_method_32_code 82 = .ok (.invokestatic 170, 3) := by decide +kernel
theorem d_M_tabled_85 : decode prog_10_method_32_code 85 = .ok (.imul, 1) := by decide +kernel
theorem d_M_tabled_86 : decode prog_10_method_32_code 86 = .ok (.aload_n 0, 1) := by decide +kernel
theorem d_M_tabled_87 : decode prog_10_method_32_code 87 = .ok (.getfield 41, 3) := by decide +kernel
theorem d_M_tabled_90 : decode prog_10_method_32_code 90 = .ok (.iload_n 2, 1) := by decide +kernel
theorem d_M_tabled_91 : decode prog_10_method_32_code 91 = .ok (.iconst 1, 1) := by decide +kernel
theorem d_M_tabled_92 : decode prog_10_method_32_code 92 = .ok (.isub, 1) := by decide +kernel
theorem d_M_tabled_93 : decode prog_10_method_32_code 93 = .ok (.iaload, 1) := by decide +kernel
theorem d_M_tabled_94 : decode prog_10_method_32_code 94 = .ok (.iadd, 1) := by decide +kernel
theorem d_M_tabled_95 : decode prog_10_method_32_code 95 = .ok (.iaload, 1) := by decide +kernel
theorem d_M_tabled_96 : decode prog_10_method_32_code 96 = .ok (.goto 38, 3) := by decide +kernel
theorem d_M_tabled_99 : decode prog_10_method_32_code 99 = .ok (.aload_n 0, 1) := by decide +kernel
theorem d_M_tabled_100 : decode prog_10_method_32_code 100 = .ok (.getfield 53, 3) := by decide +kernel
theorem d_M_tabled_103 : decode prog_10_method_32_code 103 = .ok (.sipush 1600, 3) := by decide +kernel
theorem d_M_tabled_106 : decode prog_10_method_32_code 106 = .ok (.iload 4, 2) := by decide +kernel
theorem d_M_tabled_108 : decode prog_10_method_32_code 108 = .ok (.invokestatic 170, 3) := by decide +kernel
theorem d_M_tabled_111 : decode prog_10_method_32_code 111 = .ok (.imul, 1) := by decide +kernel
theorem d_M_tabled_112 : decode prog_10_method_32_code 112 = .ok (.bipush 40, 2) := by decide +kernel
theorem d_M_tabled_114 : decode prog_10_method_32_code 114 = .ok (.aload_n 0, 1) := by decide +kernel
theorem d_M_tabled_115 : decode prog_10_method_32_code 115 = .ok (.getfield 41, 3) := by decide +kernel
theorem d_M_tabled_118 : decode prog_10_method_32_code 118 = .ok (.iload_n 2, 1) := by decide +kernel
theorem d_M_tabled_119 : decode prog_10_method_32_code 119 = .ok (.iconst 1, 1) := by decide +kernel
theorem d_M_tabled_120 : decode prog_10_method_32_code 120 = .ok (.isub, 1) := by decide +kernel
theorem d_M_tabled_121 : decode prog_10_method_32_code 121 = .ok (.iaload, 1) := by decide +kernel
theorem d_M_tabled_122 : decode prog_10_method_32_code 122 = .ok (.imul, 1) := by decide +kernel
theorem d_M_tabled_123 : decode prog_10_method_32_code 123 = .ok (.iadd, 1) := by decide +kernel
theorem d_M_tabled_124 : decode prog_10_method_32_code 124 = .ok (.aload_n 0, 1) := by decide +kernel
theorem d_M_tabled_125 : decode prog_10_method_32_code 125 = .ok (.getfield 41, 3) := by decide +kernel
theorem d_M_tabled_128 : decode prog_10_method_32_code 128 = .ok (.iload_n 2, 1) := by decide +kernel
theorem d_M_tabled_129 : decode prog_10_method_32_code 129 = .ok (.iconst 2, 1) := by decide +kernel
theorem d_M_tabled_130 : decode prog_10_method_32_code 130 = .ok (.isub, 1) := by decide +kernel
theorem d_M_tabled_131 : decode prog_10_method_32_code 131 = .ok (.iaload, 1) := by decide +kernel
theorem d_M_tabled_132 : decode prog_10_method_32_code 132 = .ok (.iadd, 1) := by decide +kernel
theorem d_M_tabled_133 : decode prog_10_method_32_code 133 = .ok (.iaload, 1) := by decide +kernel
theorem d_M_tabled_134 : decode prog_10_method_32_code 134 = .ok (.istore 6, 2) := by decide +kernel
theorem d_M_tabled_136 : decode prog_10_method_32_code 136 = .ok (.iload 6, 2) := by decide +kernel
theorem d_M_tabled_138 : decode prog_10_method_32_code 138 = .ok (.ifCond .ge 5, 3) := by decide +kernel
theorem d_M_tabled_141 : decode prog_10_method_32_code 141 = .ok (.iconst (-1), 1) := by decide +kernel
theorem d_M_tabled_142 : decode prog_10_method_32_code 142 = .ok (.ireturn, 1) := by decide +kernel
theorem d_M_tabled_143 : decode prog_10_method_32_code 143 = .ok (.iload 5, 2) := by decide +kernel
theorem d_M_tabled_145 : decode prog_10_method_32_code 145 = .ok (.ifCond .le 10, 3) := by decide +kernel
theorem d_M_tabled_148 : decode prog_10_method_32_code 148 = .ok (.iload_n 2, 1) := by decide +kernel
theorem d_M_tabled_149 : decode prog_10_method_32_code 149 = .ok (.iload 5, 2) := by decide +kernel
theorem d_M_tabled_151 : decode prog_10_method_32_code 151 = .ok (.isub, 1) := by decide +kernel
theorem d_M_tabled_152 : decode prog_10_method_32_code 152 = .ok (.goto 4, 3) := by decide +kernel
theorem d_M_tabled_155 : decode prog_10_method_32_code 155 = .ok (.iload_n 2, 1) := by decide +kernel
theorem d_M_tabled_156 : decode prog_10_method_32_code 156 = .ok (.istore_n 2, 1) := by decide +kernel
theorem d_M_tabled_157 : decode prog_10_method_32_code 157 = .ok (.aload_n 0, 1) := by decide +kernel
theorem d_M_tabled_158 : decode prog_10_method_32_code 158 = .ok (.getfield 41, 3) := by decide +kernel
theorem d_M_tabled_161 : decode prog_10_method_32_code 161 = .ok (.iload_n 2, 1) := by decide +kernel
theorem d_M_tabled_162 : decode prog_10_method_32_code 162 = .ok (.iload 6, 2) := by decide +kernel
theorem d_M_tabled_164 : decode prog_10_method_32_code 164 = .ok (.iastore, 1) := by decide +kernel
theorem d_M_tabled_165 : decode prog_10_method_32_code 165 = .ok (.iinc 2 1, 3) := by decide +kernel
theorem d_M_tabled_168 : decode prog_10_method_32_code 168 = .ok (.iinc 3 (-1), 3) := by decide +kernel
theorem d_M_tabled_171 : decode prog_10_method_32_code 171 = .ok (.goto (-160), 3) := by decide +kernel
theorem d_M_tabled_174 : decode prog_10_method_32_code 174 = .ok (.aload_n 0, 1) := by decide +kernel
theorem d_M_tabled_175 : decode prog_10_method_32_code 175 = .ok (.getfield 41, 3) := by decide +kernel
theorem d_M_tabled_178 : decode prog_10_method_32_code 178 = .ok (.iconst 0, 1) := by decide +kernel
theorem d_M_tabled_179 : decode prog_10_method_32_code 179 = .ok (.iaload, 1) := by decide +kernel
theorem d_M_tabled_180 : decode prog_10_method_32_code 180 = .ok (.ireturn, 1) := by decide +kernel
theorem d_M_workSide_0 : decode prog_10_method_19_code 0 = .ok (.aload_n 0, 1) := by decide +kernel
theorem d_M_workSide_1 : decode prog_10_method_19_code 1 = .ok (.iconst 0, 1) := by decide +kernel
theorem d_M_workSide_2 : decode prog_10_method_19_code 2 = .ok (.putfield 129, 3) := by decide +kernel
theorem d_M_workSide_5 : decode prog_10_method_19_code 5 = .ok (.iconst 1, 1) := by decide +kernel
theorem d_M_workSide_6 : decode prog_10_method_19_code 6 = .ok (.istore_n 3, 1) := by decide +kernel
theorem d_M_workSide_7 : decode prog_10_method_19_code 7 = .ok (.aload_n 0, 1) := by decide +kernel
theorem d_M_workSide_8 : decode prog_10_method_19_code 8 = .ok (.getfield 20, 3) := by decide +kernel
theorem d_M_workSide_11 : decode prog_10_method_19_code 11 = .ok (.iload_n 1, 1) := by decide +kernel
theorem d_M_workSide_12 : decode prog_10_method_19_code 12 = .ok (.iaload, 1) := by decide +kernel
theorem d_M_workSide_13 : decode prog_10_method_19_code 13 = .ok (.iconst 1, 1) := by decide +kernel
theorem d_M_workSide_14 : decode prog_10_method_19_code 14 = .ok (.isub, 1) := by decide +kernel
theorem d_M_workSide_15 : decode prog_10_method_19_code 15 = .ok (.istore 4, 2) := by decide +kernel
theorem d_M_workSide_17 : decode prog_10_method_19_code 17 = .ok (.iload 4, 2) := by decide +kernel
theorem d_M_workSide_19 : decode prog_10_method_19_code 19 = .ok (.ifCond .lt 31, 3) := by decide +kernel
theorem d_M_workSide_22 : decode prog_10_method_19_code 22 = .ok (.iload_n 3, 1) := by decide +kernel
theorem d_M_workSide_23 : decode prog_10_method_19_code 23 = .ok (.ifCond .eq 27, 3) := by decide +kernel
theorem d_M_workSide_26 : decode prog_10_method_19_code 26 = .ok (.aload_n 0, 1) := by decide +kernel
theorem d_M_workSide_27 : decode prog_10_method_19_code 27 = .ok (.aload_n 0, 1) := by decide +kernel
theorem d_M_workSide_28 : decode prog_10_method_19_code 28 = .ok (.getfield 17, 3) := by decide +kernel
theorem d_M_workSide_31 : decode prog_10_method_19_code 31 = .ok (.bipush 7, 2) := by decide +kernel
theorem d_M_workSide_33 : decode prog_10_method_19_code 33 = .ok (.iload_n 1, 1) := by decide +kernel
theorem d_M_workSide_34 : decode prog_10_method_19_code 34 = .ok (.imul, 1) := by decide +kernel
theorem d_M_workSide_35 : decode prog_10_method_19_code 35 = .ok (.iload 4, 2) := by decide +kernel
theorem d_M_workSide_37 : decode prog_10_method_19_code 37 = .ok (.iadd, 1) := by decide +kernel
theorem d_M_workSide_38 : decode prog_10_method_19_code 38 = .ok (.iaload, 1) := by decide +kernel
theorem d_M_workSide_39 : decode prog_10_method_19_code 39 = .ok (.iload_n 2, 1) := by decide +kernel
theorem d_M_workSide_40 : decode prog_10_method_19_code 40 = .ok (.invokevirtual 136, 3) := by decide +kernel
theorem d_M_workSide_43 : decode prog_10_method_19_code 43 = .ok (.istore_n 3, 1) := by decide +kernel
theorem d_M_workSide_44 : decode prog_10_method_19_code 44 = .ok (.iinc 4 (-1), 3) := by decide +kernel
theorem d_M_workSide_47 : decode prog_10_method_19_code 47 = .ok (.goto (-30), 3) := by decide +kernel
theorem d_M_workSide_50 : decode prog_10_method_19_code 50 = .ok (.iload_n 3, 1) := by decide +kernel
theorem d_M_workSide_51 : decode prog_10_method_19_code 51 = .ok (.ifCond .eq 12, 3) := by decide +kernel
theorem d_M_workSide_54 : decode prog_10_method_19_code 54 = .ok (.aload_n 0, 1) := by decide +kernel
theorem d_M_workSide_55 : decode prog_10_method_19_code 55 = .ok (.getfield 41, 3) := by decide +kernel
theorem d_M_workSide_58 : decode prog_10_method_19_code 58 = .ok (.iconst 0, 1) := by decide +kernel
theorem d_M_workSide_59 : decode prog_10_method_19_code 59 = .ok (.iaload, 1) := by decide +kernel
theorem d_M_workSide_60 : decode prog_10_method_19_code 60 = .ok (.goto 4, 3) := by decide +kernel
theorem d_M_workSide_63 : decode prog_10_method_19_code 63 = .ok (.iconst (-1), 1) := by decide +kernel
theorem d_M_workSide_64 : decode prog_10_method_19_code 64 = .ok (.ireturn, 1) := by decide +kernel
theorem d_M_nextChoice_0 : decode prog_10_method_34_code 0 = .ok (.iconst 0, 1) := by decide +kernel
theorem d_M_nextChoice_1 : decode prog_10_method_34_code 1 = .ok (.istore_n 3, 1) := by decide +kernel
theorem d_M_nextChoice_2 : decode prog_10_method_34_code 2 = .ok (.iload_n 3, 1) := by decide +kernel
theorem d_M_nextChoice_3 : decode prog_10_method_34_code 3 = .ok (.iconst 3, 1) := by decide +kernel
theorem d_M_nextChoice_4 : decode prog_10_method_34_code 4 = .ok (.if_icmp .ge 47, 3) := by decide +kernel
theorem d_M_nextChoice_7 : decode prog_10_method_34_code 7 = .ok (.iload_n 1, 1) := by decide +kernel
theorem d_M_nextChoice_8 : decode prog_10_method_34_code 8 = .ok (.iload_n 3, 1) := by decide +kernel
theorem d_M_nextChoice_9 : decode prog_10_method_34_code 9 = .ok (.ishr, 1) := by decide +kernel
theorem d_M_nextChoice_10 : decode prog_10_method_34_code 10 = .ok (.iconst 1, 1) := by decide +kernel
theorem d_M_nextChoice_11 : decode prog_10_method_34_code 11 = .ok (.iand, 1) := by decide +kernel
theorem d_M_nextChoice_12 : decode prog_10_method_34_code 12 = .ok (.iconst 1, 1) := by decide +kernel
theorem d_M_nextChoice_13 : decode prog_10_method_34_code 13 = .ok (.if_icmp .ne 32, 3) := by decide +kernel
theorem d_M_nextChoice_16 : decode prog_10_method_34_code 16 = .ok (.aload_n 0, 1) := by decide +kernel
theorem d_M_nextChoice_17 : decode prog_10_method_34_code 17 = .ok (.getfield 44, 3) := by decide +kernel
theorem d_M_nextChoice_20 : decode prog_10_method_34_code 20 = .ok (.iload_n 3, 1) := by decide +kernel
theorem d_M_nextChoice_21 : decode prog_10_method_34_code 21 = .ok (.dup2, 1) := by decide +kernel
theorem d_M_nextChoice_22 : decode prog_10_method_34_code 22 = .ok (.iaload, 1) := by decide +kernel
theorem d_M_nextChoice_23 : decode prog_10_method_34_code 23 = .ok (.iconst 1, 1) := by decide +kernel
theorem d_M_nextChoice_24 : decode prog_10_method_34_code 24 = .ok (.iadd, 1) := by decide +kernel
theorem d_M_nextChoice_25 : decode prog_10_method_34_code 25 = .ok (.iastore, 1) := by decide +kernel
theorem d_M_nextChoice_26 : decode prog_10_method_34_code 26 = .ok (.aload_n 0, 1) := by decide +kernel
theorem d_M_nextChoice_27 : decode prog_10_method_34_code 27 = .ok (.getfield 44, 3) := by decide +kernel
theorem d_M_nextChoice_30 : decode prog_10_method_34_code 30 = .ok (.iload_n 3, 1) := by decide +kernel
theorem d_M_nextChoice_31 : decode prog_10_method_34_code 31 = .ok (.iaload, 1) := by decide +kernel
theorem d_M_nextChoice_32 : decode prog_10_method_34_code 32 = .ok (.iload_n 2, 1) := by decide +kernel
theorem d_M_nextChoice_33 : decode prog_10_method_34_code 33 = .ok (.if_icmp .ge 5, 3) := by decide +kernel
theorem d_M_nextChoice_36 : decode prog_10_method_34_code 36 = .ok (.iconst 1, 1) := by decide +kernel
theorem d_M_nextChoice_37 : decode prog_10_method_34_code 37 = .ok (.ireturn, 1) := by decide +kernel
theorem d_M_nextChoice_38 : decode prog_10_method_34_code 38 = .ok (.aload_n 0, 1) := by decide +kernel
theorem d_M_nextChoice_39 : decode prog_10_method_34_code 39 = .ok (.getfield 44, 3) := by decide +kernel
theorem d_M_nextChoice_42 : decode prog_10_method_34_code 42 = .ok (.iload_n 3, 1) := by decide +kernel
theorem d_M_nextChoice_43 : decode prog_10_method_34_code 43 = .ok (.iconst 0, 1) := by decide +kernel
theorem d_M_nextChoice_44 : decode prog_10_method_34_code 44 = .ok (.iastore, 1) := by decide +kernel
theorem d_M_nextChoice_45 : decode prog_10_method_34_code 45 = .ok (.iinc 3 1, 3) := by decide +kernel
theorem d_M_nextChoice_48 : decode prog_10_method_34_code 48 = .ok (.goto (-46), 3) := by decide +kernel
theorem d_M_nextChoice_51 : decode prog_10_method_34_code 51 = .ok (.iconst 0, 1) := by decide +kernel
theorem d_M_nextChoice_52 : decode prog_10_method_34_code 52 = .ok (.ireturn, 1) := by decide +kernel
theorem d_M_findBest_0 : decode prog_10_method_45_code 0 = .ok (.iconst 0, 1) := by decide +kernel
theorem d_M_findBest_1 : decode prog_10_method_45_code 1 = .ok (.istore_n 1, 1) := by decide +kernel
theorem d_M_findBest_2 : decode prog_10_method_45_code 2 = .ok (.iload_n 1, 1) := by decide +kernel
theorem d_M_findBest_3 : decode prog_10_method_45_code 3 = .ok (.aload_n 0, 1) := by decide +kernel
theorem d_M_findBest_4 : decode prog_10_method_45_code 4 = .ok (.getfield 126, 3) := by decide +kernel
theorem d_M_findBest_7 : decode prog_10_method_45_code 7 = .ok (.if_icmp .ge 25, 3) := by decide +kernel
theorem d_M_findBest_10 : decode prog_10_method_45_code 10 = .ok (.aload_n 0, 1) := by decide +kernel
theorem d_M_findBest_11 : decode prog_10_method_45_code 11 = .ok (.getfield 59, 3) := by decide +kernel
theorem d_M_findBest_14 : decode prog_10_method_45_code 14 = .ok (.iload_n 1, 1) := by decide +kernel
theorem d_M_findBest_15 : decode prog_10_method_45_code 15 = .ok (.ldc2_w 201, 3) := by decide +kernel
theorem d_M_findBest_18 : decode prog_10_method_45_code 18 = .ok (.lastore, 1) := by decide +kernel
theorem d_M_findBest_19 : decode prog_10_method_45_code 19 = .ok (.aload_n 0, 1) := by decide +kernel
theorem d_M_findBest_20 : decode prog_10_method_45_code 20 = .ok (.getfield 63, 3) := by decide +kernel
theorem d_M_findBest_23 : decode prog_10_method_45_code 23 = .ok (.iload_n 1, 1) := by decide +kernel
theorem d_M_findBest_24 : decode prog_10_method_45_code 24 = .ok (.lconst 0, 1) := by decide +kernel
theorem d_M_findBest_25 : decode prog_10_method_45_code 25 = .ok (.lastore, 1) := by decide +kernel
theorem d_M_findBest_26 : decode prog_10_method_45_code 26 = .ok (.iinc 1 1, 3) := by decide +kernel
theorem d_M_findBest_29 : decode prog_10_method_45_code 29 = .ok (.goto (-27), 3) := by decide +kernel
theorem d_M_findBest_32 : decode prog_10_method_45_code 32 = .ok (.iconst 1, 1) := by decide +kernel
theorem d_M_findBest_33 : decode prog_10_method_45_code 33 = .ok (.istore_n 1, 1) := by decide +kernel
theorem d_M_findBest_34 : decode prog_10_method_45_code 34 = .ok (.iload_n 1, 1) := by decide +kernel
theorem d_M_findBest_35 : decode prog_10_method_45_code 35 = .ok (.ifCond .eq 178, 3) := by decide +kernel
theorem d_M_findBest_38 : decode prog_10_method_45_code 38 = .ok (.iconst 0, 1) := by decide +kernel
theorem d_M_findBest_39 : decode prog_10_method_45_code 39 = .ok (.istore_n 1, 1) := by decide +kernel
theorem d_M_findBest_40 : decode prog_10_method_45_code 40 = .ok (.iconst 0, 1) := by decide +kernel
theorem d_M_findBest_41 : decode prog_10_method_45_code 41 = .ok (.istore_n 2, 1) := by decide +kernel
theorem d_M_findBest_42 : decode prog_10_method_45_code 42 = .ok (.iload_n 2, 1) := by decide +kernel
theorem d_M_findBest_43 : decode prog_10_method_45_code 43 = .ok (.aload_n 0, 1) := by decide +kernel
theorem d_M_findBest_44 : decode prog_10_method_45_code 44 = .ok (.getfield 119, 3) := by decide +kernel
theorem d_M_findBest_47 : decode prog_10_method_45_code 47 = .ok (.if_icmp .ge 163, 3) := by decide +kernel
theorem d_M_findBest_50 : decode prog_10_method_45_code 50 = .ok (.aload_n 0, 1) := by decide +kernel
theorem d_M_findBest_51 : decode prog_10_method_45_code 51 = .ok (.getfield 69, 3) := by decide +kernel
theorem d_M_findBest_54 : decode prog_10_method_45_code 54 = .ok (.iconst 0, 1) := by decide +kernel
theorem d_M_findBest_55 : decode prog_10_method_45_code 55 = .ok (.aload_n 0, 1) := by decide +kernel
theorem d_M_findBest_56 : decode prog_10_method_45_code 56 = .ok (.getfield 23, 3) := by decide +kernel
theorem d_M_findBest_59 : decode prog_10_method_45_code 59 = .ok (.iload_n 2, 1) := by decide +kernel
theorem d_M_findBest_60 : decode prog_10_method_45_code 60 = .ok (.iaload, 1) := by decide +kernel
theorem d_M_findBest_61 : decode prog_10_method_45_code 61 = .ok (.iastore, 1) := by decide +kernel
theorem d_M_findBest_62 : decode prog_10_method_45_code 62 = .ok (.aload_n 0, 1) := by decide +kernel
theorem d_M_findBest_63 : decode prog_10_method_45_code 63 = .ok (.aload_n 0, 1) := by decide +kernel
theorem d_M_findBest_64 : decode prog_10_method_45_code 64 = .ok (.getfield 56, 3) := by decide +kernel
theorem d_M_findBest_67 : decode prog_10_method_45_code 67 = .ok (.aload_n 0, 1) := by decide +kernel
theorem d_M_findBest_68 : decode prog_10_method_45_code 68 = .ok (.getfield 23, 3) := by decide +kernel
theorem d_M_findBest_71 : decode prog_10_method_45_code 71 = .ok (.iload_n 2, 1) := by decide +kernel
theorem d_M_findBest_72 : decode prog_10_method_45_code 72 = .ok (.iaload, 1) := by decide +kernel
theorem d_M_findBest_73 : decode prog_10_method_45_code 73 = .ok (.iaload, 1) := by decide +kernel
theorem d_M_findBest_74 : decode prog_10_method_45_code 74 = .ok (.i2l, 1) := by decide +kernel
theorem d_M_findBest_75 : decode prog_10_method_45_code 75 = .ok (.putfield 203, 3) := by decide +kernel
theorem d_M_findBest_78 : decode prog_10_method_45_code 78 = .ok (.aload_n 0, 1) := by decide +kernel
theorem d_M_findBest_79 : decode prog_10_method_45_code 79 = .ok (.lconst 1, 1) := by decide +kernel
theorem d_M_findBest_80 : decode prog_10_method_45_code 80 = .ok (.putfield 211, 3) := by decide +kernel
theorem d_M_findBest_83 : decode prog_10_method_45_code 83 = .ok (.aload_n 0, 1) := by decide +kernel
theorem d_M_findBest_84 : decode prog_10_method_45_code 84 = .ok (.getfield 26, 3) := by decide +kernel
theorem d_M_findBest_87 : decode prog_10_method_45_code 87 = .ok (.iload_n 2, 1) := by decide +kernel
theorem d_M_findBest_88 : decode prog_10_method_45_code 88 = .ok (.iaload, 1) := by decide +kernel
theorem d_M_findBest_89 : decode prog_10_method_45_code 89 = .ok (.ifCond .lt 13, 3) := by decide +kernel
theorem d_M_findBest_92 : decode prog_10_method_45_code 92 = .ok (.aload_n 0, 1) := by decide +kernel
theorem d_M_findBest_93 : decode prog_10_method_45_code 93 = .ok (.aload_n 0, 1) := by decide +kernel
theorem d_M_findBest_94 : decode prog_10_method_45_code 94 = .ok (.getfield 26, 3) := by decide +kernel
theorem d_M_findBest_97 : decode prog_10_method_45_code 97 = .ok (.iload_n 2, 1) := by decide +kernel
theorem d_M_findBest_98 : decode prog_10_method_45_code 98 = .ok (.iaload, 1) := by decide +kernel
theorem d_M_findBest_99 : decode prog_10_method_45_code 99 = .ok (.invokevirtual 216, 3) := by decide +kernel
theorem d_M_findBest_102 : decode prog_10_method_45_code 102 = .ok (.aload_n 0, 1) := by decide +kernel
theorem d_M_findBest_103 : decode prog_10_method_45_code 103 = .ok (.getfield 29, 3) := by decide +kernel
theorem d_M_findBest_106 : decode prog_10_method_45_code 106 = .ok (.iload_n 2, 1) := by decide +kernel
theorem d_M_findBest_107 : decode prog_10_method_45_code 107 = .ok (.iaload, 1) := by decide +kernel
theorem d_M_findBest_108 : decode prog_10_method_45_code 108 = .ok (.ifCond .lt 13, 3) := by decide +kernel
theorem d_M_findBest_111 : decode prog_10_method_45_code 111 = .ok (.aload_n 0, 1) := by decide +kernel
theorem d_M_findBest_112 : decode prog_10_method_45_code 112 = .ok (.aload_n 0, 1) := by decide +kernel
theorem d_M_findBest_113 : decode prog_10_method_45_code 113 = .ok (.getfield 29, 3) := by decide +kernel
theorem d_M_findBest_116 : decode prog_10_method_45_code 116 = .ok (.iload_n 2, 1) := by decide +kernel
theorem d_M_findBest_117 : decode prog_10_method_45_code 117 = .ok (.iaload, 1) := by decide +kernel
theorem d_M_findBest_118 : decode prog_10_method_45_code 118 = .ok (.invokevirtual 216, 3) := by decide +kernel
theorem d_M_findBest_121 : decode prog_10_method_45_code 121 = .ok (.aload_n 0, 1) := by decide +kernel
theorem d_M_findBest_122 : decode prog_10_method_45_code 122 = .ok (.getfield 32, 3) := by decide +kernel
theorem d_M_findBest_125 : decode prog_10_method_45_code 125 = .ok (.iload_n 2, 1) := by decide +kernel
theorem d_M_findBest_126 : decode prog_10_method_45_code 126 = .ok (.iaload, 1) := by decide +kernel
theorem d_M_findBest_127 : decode prog_10_method_45_code 127 = .ok (.istore_n 3, 1) := by decide +kernel
theorem d_M_findBest_128 : decode prog_10_method_45_code 128 = .ok (.aload_n 0, 1) := by decide +kernel
theorem d_M_findBest_129 : decode prog_10_method_45_code 129 = .ok (.getfield 203, 3) := by decide +kernel
theorem d_M_findBest_132 : decode prog_10_method_45_code 132 = .ok (.ldc2_w 199, 3) := by decide +kernel
theorem d_M_findBest_135 : decode prog_10_method_45_code 135 = .ok (.lcmp, 1) := by decide +kernel
theorem d_M_findBest_136 : decode prog_10_method_45_code 136 = .ok (.ifCond .gt 68, 3) := by decide +kernel
theorem d_M_findBest_139 : decode prog_10_method_45_code 139 = .ok (.aload_n 0, 1) := by decide +kernel
theorem d_M_findBest_140 : decode prog_10_method_45_code 140 = .ok (.iload_n 3, 1) := by decide +kernel
theorem d_M_findBest_141 : decode prog_10_method_45_code 141 = .ok (.invokevirtual 219, 3) := by decide +kernel
theorem d_M_findBest_144 : decode prog_10_method_45_code 144 = .ok (.ifCond .eq 60, 3) := by decide +kernel
theorem d_M_findBest_147 : decode prog_10_method_45_code 147 = .ok (.aload_n 0, 1) := by decide +kernel
theorem d_M_findBest_148 : decode prog_10_method_45_code 148 = .ok (.getfield 59, 3) := by decide +kernel
theorem d_M_findBest_151 : decode prog_10_method_45_code 151 = .ok (.iload_n 3, 1) := by decide +kernel
theorem d_M_findBest_152 : decode prog_10_method_45_code 152 = .ok (.aload_n 0, 1) := by decide +kernel
theorem d_M_findBest_153 : decode prog_10_method_45_code 153 = .ok (.getfield 203, 3) := by decide +kernel
theorem d_M_findBest_156 : decode prog_10_method_45_code 156 = .ok (.lastore, 1) := by decide +kernel
theorem d_M_findBest_157 : decode prog_10_method_45_code 157 = .ok (.aload_n 0, 1) := by decide +kernel
theorem d_M_findBest_158 : decode prog_10_method_45_code 158 = .ok (.getfield 63, 3) := by decide +kernel
theorem d_M_findBest_161 : decode prog_10_method_45_code 161 = .ok (.iload_n 3, 1) := by decide +kernel
theorem d_M_findBest_162 : decode prog_10_method_45_code 162 = .ok (.aload_n 0, 1) := by decide +kernel
theorem d_M_findBest_163 : decode prog_10_method_45_code 163 = .ok (.getfield 211, 3) := by decide +kernel
theorem d_M_findBest_166 : decode prog_10_method_45_code 166 = .ok (.lastore, 1) := by decide +kernel
theorem d_M_findBest_167 : decode prog_10_method_45_code 167 = .ok (.iconst 0, 1) := by decide +kernel
theorem d_M_findBest_168 : decode prog_10_method_45_code 168 = .ok (.istore 4, 2) := by decide +kernel
theorem d_M_findBest_170 : decode prog_10_method_45_code 170 = .ok (.iload 4, 2) := by decide +kernel
theorem d_M_findBest_172 : decode prog_10_method_45_code 172 = .ok (.bipush 60, 2) := by decide +kernel
theorem d_M_findBest_174 : decode prog_10_method_45_code 174 = .ok (.if_icmp .ge 28, 3) := by decide +kernel
theorem d_M_findBest_177 : decode prog_10_method_45_code 177 = .ok (.aload_n 0, 1) := by decide +kernel
theorem d_M_findBest_178 : decode prog_10_method_45_code 178 = .ok (.getfield 66, 3) := by decide +kernel
theorem d_M_findBest_181 : decode prog_10_method_45_code 181 = .ok (.bipush 60, 2) := by decide +kernel
theorem d_M_findBest_183 : decode prog_10_method_45_code 183 = .ok (.iload_n 3, 1) := by decide +kernel
theorem d_M_findBest_184 : decode prog_10_method_45_code 184 = .ok (.imul, 1) := by decide +kernel
theorem d_M_findBest_185 : decode prog_10_method_45_code 185 = .ok (.iload 4, 2) := by decide +kernel
theorem d_M_findBest_187 : decode prog_10_method_45_code 187 = .ok (.iadd, 1) := by decide +kernel
theorem d_M_findBest_188 : decode prog_10_method_45_code 188 = .ok (.aload_n 0, 1) := by decide +kernel
theorem d_M_findBest_189 : decode prog_10_method_45_code 189 = .ok (.getfield 69, 3) := by decide +kernel
theorem d_M_findBest_192 : decode prog_10_method_45_code 192 = .ok (.iload 4, 2) := by decide +kernel
theorem d_M_findBest_194 : decode prog_10_method_45_code 194 = .ok (.iaload, 1) := by decide +kernel
theorem d_M_findBest_195 : decode prog_10_method_45_code 195 = .ok (.iastore, 1) := by decide +kernel
theorem d_M_findBest_196 : decode prog_10_method_45_code 196 = .ok (.iinc 4 1, 3) := by decide +kernel
theorem d_M_findBest_199 : decode prog_10_method_45_code 199 = .ok (.goto (-29), 3) := by decide +kernel
theorem d_M_findBest_202 : decode prog_10_method_45_code 202 = .ok (.iconst 1, 1) := by decide +kernel
theorem d_M_findBest_203 : decode prog_10_method_45_code 203 = .ok (.istore_n 1, 1) := by decide +kernel
theorem d_M_findBest_204 : decode prog_10_method_45_code 204 = .ok (.iinc 2 1, 3) := by decide +kernel
theorem d_M_findBest_207 : decode prog_10_method_45_code 207 = .ok (.goto (-165), 3) := by decide +kernel
theorem d_M_findBest_210 : decode prog_10_method_45_code 210 = .ok (.goto (-176), 3) := by decide +kernel
theorem d_M_findBest_213 : decode prog_10_method_45_code 213 = .ok (.return_, 1) := by decide +kernel
theorem d_M_append_0 : decode prog_10_method_43_code 0 = .ok (.aload_n 0, 1) := by decide +kernel
theorem d_M_append_1 : decode prog_10_method_43_code 1 = .ok (.aload_n 0, 1) := by decide +kernel
theorem d_M_append_2 : decode prog_10_method_43_code 2 = .ok (.getfield 203, 3) := by decide +kernel
theorem d_M_append_5 : decode prog_10_method_43_code 5 = .ok (.aload_n 0, 1) := by decide +kernel
theorem d_M_append_6 : decode prog_10_method_43_code 6 = .ok (.getfield 59, 3) := by decide +kernel
theorem d_M_append_9 : decode prog_10_method_43_code 9 = .ok (.iload_n 1, 1) := by decide +kernel
theorem d_M_append_10 : decode prog_10_method_43_code 10 = .ok (.laload, 1) := by decide +kernel
theorem d_M_append_11 : decode prog_10_method_43_code 11 = .ok (.invokestatic 207, 3) := by decide +kernel
theorem d_M_append_14 : decode prog_10_method_43_code 14 = .ok (.putfield 203, 3) := by decide +kernel
theorem d_M_append_17 : decode prog_10_method_43_code 17 = .ok (.aload_n 0, 1) := by decide +kernel
theorem d_M_append_18 : decode prog_10_method_43_code 18 = .ok (.getfield 203, 3) := by decide +kernel
theorem d_M_append_21 : decode prog_10_method_43_code 21 = .ok (.ldc2_w 199, 3) := by decide +kernel
theorem d_M_append_24 : decode prog_10_method_43_code 24 = .ok (.lcmp, 1) := by decide +kernel
theorem d_M_append_25 : decode prog_10_method_43_code 25 = .ok (.ifCond .gt 83, 3) := by decide +kernel
theorem d_M_append_28 : decode prog_10_method_43_code 28 = .ok (.iconst 0, 1) := by decide +kernel
theorem d_M_append_29 : decode prog_10_method_43_code 29 = .ok (.istore_n 2, 1) := by decide +kernel
theorem d_M_append_30 : decode prog_10_method_43_code 30 = .ok (.iload_n 2, 1) := by decide +kernel
theorem d_M_append_31 : decode prog_10_method_43_code 31 = .ok (.bipush 60, 2) := by decide +kernel
theorem d_M_append_33 : decode prog_10_method_43_code 33 = .ok (.if_icmp .ge 58, 3) := by decide +kernel
theorem d_M_append_36 : decode prog_10_method_43_code 36 = .ok (.iload_n 2, 1) := by decide +kernel
theorem d_M_append_37 : decode prog_10_method_43_code 37 = .ok (.i2l, 1) := by decide +kernel
theorem d_M_append_38 : decode prog_10_method_43_code 38 = .ok (.aload_n 0, 1) := by decide +kernel
theorem d_M_append_39 : decode prog_10_method_43_code 39 = .ok (.getfield 63, 3) := by decide +kernel
theorem d_M_append_42 : decode prog_10_method_43_code 42 = .ok (.iload_n 1, 1) := by decide +kernel
theorem d_M_append_43 : decode prog_10_method_43_code 43 = .ok (.laload, 1) := by decide +kernel
theorem d_M_append_44 : decode prog_10_method_43_code 44 = .ok (.lcmp, 1) := by decide +kernel
theorem d_M_append_45 : decode prog_10_method_43_code 45 = .ok (.ifCond .ge 40, 3) := by decide +kernel
theorem d_M_append_48 : decode prog_10_method_43_code 48 = .ok (.aload_n 0, 1) := by decide +kernel
theorem d_M_append_49 : decode prog_10_method_43_code 49 = .ok (.getfield 211, 3) := by decide +kernel
theorem d_M_append_52 : decode prog_10_method_43_code 52 = .ok (.iload_n 2, 1) := by decide +kernel
theorem d_M_append_53 : decode prog_10_method_43_code 53 = .ok (.i2l, 1) := by decide +kernel
theorem d_M_append_54 : decode prog_10_method_43_code 54 = .ok (.ladd, 1) := by decide +kernel
theorem d_M_append_55 : decode prog_10_method_43_code 55 = .ok (.ldc2_w 214, 3) := by decide +kernel
theorem d_M_append_58 : decode prog_10_method_43_code 58 = .ok (.lcmp, 1) := by decide +kernel
theorem d_M_append_59 : decode prog_10_method_43_code 59 = .ok (.ifCond .ge 26, 3) := by decide +kernel
theorem d_M_append_62 : decode prog_10_method_43_code 62 = .ok (.aload_n 0, 1) := by decide +kernel
theorem d_M_append_63 : decode prog_10_method_43_code 63 = .ok (.getfield 69, 3) := by decide +kernel
theorem d_M_append_66 : decode prog_10_method_43_code 66 = .ok (.aload_n 0, 1) := by decide +kernel
theorem d_M_append_67 : decode prog_10_method_43_code 67 = .ok (.getfield 211, 3) := by decide +kernel
theorem d_M_append_70 : decode prog_10_method_43_code 70 = .ok (.l2i, 1) := by decide +kernel
theorem d_M_append_71 : decode prog_10_method_43_code 71 = .ok (.iload_n 2, 1) := by decide +kernel
theorem d_M_append_72 : decode prog_10_method_43_code 72 = .ok (.iadd, 1) := by decide +kernel
theorem d_M_append_73 : decode prog_10_method_43_code 73 = .ok (.aload_n 0, 1) := by decide +kernel
theorem d_M_append_74 : decode prog_10_method_43_code 74 = .ok (.getfield 66, 3) := by decide +kernel
theorem d_M_append_77 : decode prog_10_method_43_code 77 = .ok (.bipush 60, 2) := by decide +kernel
theorem d_M_append_79 : decode prog_10_method_43_code 79 = .ok (.iload_n 1, 1) := by decide +kernel
theorem d_M_append_80 : decode prog_10_method_43_code 80 = .ok (.imul, 1) := by decide +kernel
theorem d_M_append_81 : decode prog_10_method_43_code 81 = .ok (.iload_n 2, 1) := by decide +kernel
theorem d_M_append_82 : decode prog_10_method_43_code 82 = .ok (.iadd, 1) := by decide +kernel
theorem d_M_append_83 : decode prog_10_method_43_code 83 = .ok (.iaload, 1) := by decide +kernel
theorem d_M_append_84 : decode prog_10_method_43_code 84 = .ok (.iastore, 1) := by decide +kernel
theorem d_M_append_85 : decode prog_10_method_43_code 85 = .ok (.iinc 2 1, 3) := by decide +kernel
theorem d_M_append_88 : decode prog_10_method_43_code 88 = .ok (.goto (-58), 3) := by decide +kernel
theorem d_M_append_91 : decode prog_10_method_43_code 91 = .ok (.aload_n 0, 1) := by decide +kernel
theorem d_M_append_92 : decode prog_10_method_43_code 92 = .ok (.aload_n 0, 1) := by decide +kernel
theorem d_M_append_93 : decode prog_10_method_43_code 93 = .ok (.getfield 211, 3) := by decide +kernel
theorem d_M_append_96 : decode prog_10_method_43_code 96 = .ok (.aload_n 0, 1) := by decide +kernel
theorem d_M_append_97 : decode prog_10_method_43_code 97 = .ok (.getfield 63, 3) := by decide +kernel
theorem d_M_append_100 : decode prog_10_method_43_code 100 = .ok (.iload_n 1, 1) := by decide +kernel
theorem d_M_append_101 : decode prog_10_method_43_code 101 = .ok (.laload, 1) := by decide +kernel
theorem d_M_append_102 : decode prog_10_method_43_code 102 = .ok (.invokestatic 207, 3) := by decide +kernel
theorem d_M_append_105 : decode prog_10_method_43_code 105 = .ok (.putfield 211, 3) := by decide +kernel
theorem d_M_append_108 : decode prog_10_method_43_code 108 = .ok (.return_, 1) := by decide +kernel
theorem d_M_sum_0 : decode prog_10_method_42_code 0 = .ok (.lload_n 0, 1) := by decide +kernel
theorem d_M_sum_1 : decode prog_10_method_42_code 1 = .ok (.ldc2_w 199, 3) := by decide +kernel
theorem d_M_sum_4 : decode prog_10_method_42_code 4 = .ok (.lload_n 2, 1) := by decide +kernel
theorem d_M_sum_5 : decode prog_10_method_42_code 5 = .ok (.lsub, 1) := by decide +kernel
theorem d_M_sum_6 : decode prog_10_method_42_code 6 = .ok (.lcmp, 1) := by decide +kernel
theorem d_M_sum_7 : decode prog_10_method_42_code 7 = .ok (.ifCond .le 9, 3) := by decide +kernel
theorem d_M_sum_10 : decode prog_10_method_42_code 10 = .ok (.ldc2_w 201, 3) := by decide +kernel
theorem d_M_sum_13 : decode prog_10_method_42_code 13 = .ok (.goto 6, 3) := by decide +kernel
theorem d_M_sum_16 : decode prog_10_method_42_code 16 = .ok (.lload_n 0, 1) := by decide +kernel
theorem d_M_sum_17 : decode prog_10_method_42_code 17 = .ok (.lload_n 2, 1) := by decide +kernel
theorem d_M_sum_18 : decode prog_10_method_42_code 18 = .ok (.ladd, 1) := by decide +kernel
theorem d_M_sum_19 : decode prog_10_method_42_code 19 = .ok (.lreturn, 1) := by decide +kernel
theorem d_M_isBetter_0 : decode prog_10_method_44_code 0 = .ok (.aload_n 0, 1) := by decide +kernel
theorem d_M_isBetter_1 : decode prog_10_method_44_code 1 = .ok (.getfield 203, 3) := by decide +kernel
theorem d_M_isBetter_4 : decode prog_10_method_44_code 4 = .ok (.aload_n 0, 1) := by decide +kernel
theorem d_M_isBetter_5 : decode prog_10_method_44_code 5 = .ok (.getfield 59, 3) := by decide +kernel
theorem d_M_isBetter_8 : decode prog_10_method_44_code 8 = .ok (.iload_n 1, 1) := by decide +kernel
theorem d_M_isBetter_9 : decode prog_10_method_44_code 9 = .ok (.laload, 1) := by decide +kernel
theorem d_M_isBetter_10 : decode prog_10_method_44_code 10 = .ok (.lcmp, 1) := by decide +kernel
theorem d_M_isBetter_11 : decode prog_10_method_44_code 11 = .ok (.ifCond .eq 23, 3) := by decide +kernel
theorem d_M_isBetter_14 : decode prog_10_method_44_code 14 = .ok (.aload_n 0, 1) := by decide +kernel
theorem d_M_isBetter_15 : decode prog_10_method_44_code 15 = .ok (.getfield 203, 3) := by decide +kernel
theorem d_M_isBetter_18 : decode prog_10_method_44_code 18 = .ok (.aload_n 0, 1) := by decide +kernel
theorem d_M_isBetter_19 : decode prog_10_method_44_code 19 = .ok (.getfield 59, 3) := by decide +kernel
theorem d_M_isBetter_22 : decode prog_10_method_44_code 22 = .ok (.iload_n 1, 1) := by decide +kernel
theorem d_M_isBetter_23 : decode prog_10_method_44_code 23 = .ok (.laload, 1) := by decide +kernel
theorem d_M_isBetter_24 : decode prog_10_method_44_code 24 = .ok (.lcmp, 1) := by decide +kernel
theorem d_M_isBetter_25 : decode prog_10_method_44_code 25 = .ok (.ifCond .ge 7, 3) := by decide +kernel
theorem d_M_isBetter_28 : decode prog_10_method_44_code 28 = .ok (.iconst 1, 1) := by decide +kernel
theorem d_M_isBetter_29 : decode prog_10_method_44_code 29 = .ok (.goto 4, 3) := by decide +kernel
theorem d_M_isBetter_32 : decode prog_10_method_44_code 32 = .ok (.iconst 0, 1) := by decide +kernel
theorem d_M_isBetter_33 : decode prog_10_method_44_code 33 = .ok (.ireturn, 1) := by decide +kernel
theorem d_M_isBetter_34 : decode prog_10_method_44_code 34 = .ok (.aload_n 0, 1) := by decide +kernel
theorem d_M_isBetter_35 : decode prog_10_method_44_code 35 = .ok (.getfield 211, 3) := by decide +kernel
theorem d_M_isBetter_38 : decode prog_10_method_44_code 38 = .ok (.aload_n 0, 1) := by decide +kernel
theorem d_M_isBetter_39 : decode prog_10_method_44_code 39 = .ok (.getfield 63, 3) := by decide +kernel
theorem d_M_isBetter_42 : decode prog_10_method_44_code 42 = .ok (.iload_n 1, 1) := by decide +kernel
theorem d_M_isBetter_43 : decode prog_10_method_44_code 43 = .ok (.laload, 1) := by decide +kernel
theorem d_M_isBetter_44 : decode prog_10_method_44_code 44 = .ok (.lcmp, 1) := by decide +kernel
theorem d_M_isBetter_45 : decode prog_10_method_44_code 45 = .ok (.ifCond .ne 14, 3) := by decide +kernel
theorem d_M_isBetter_48 : decode prog_10_method_44_code 48 = .ok (.aload_n 0, 1) := by decide +kernel
theorem d_M_isBetter_49 : decode prog_10_method_44_code 49 = .ok (.getfield 211, 3) := by decide +kernel
theorem d_M_isBetter_52 : decode prog_10_method_44_code 52 = .ok (.ldc2_w 214, 3) := by decide +kernel
theorem d_M_isBetter_55 : decode prog_10_method_44_code 55 = .ok (.lcmp, 1) := by decide +kernel
theorem d_M_isBetter_56 : decode prog_10_method_44_code 56 = .ok (.ifCond .le 23, 3) := by decide +kernel
theorem d_M_isBetter_59 : decode prog_10_method_44_code 59 = .ok (.aload_n 0, 1) := by decide +kernel
theorem d_M_isBetter_60 : decode prog_10_method_44_code 60 = .ok (.getfield 211, 3) := by decide +kernel
theorem d_M_isBetter_63 : decode prog_10_method_44_code 63 = .ok (.aload_n 0, 1) := by decide +kernel
theorem d_M_isBetter_64 : decode prog_10_method_44_code 64 = .ok (.getfield 63, 3) := by decide +kernel
theorem d_M_isBetter_67 : decode prog_10_method_44_code 67 = .ok (.iload_n 1, 1) := by decide +kernel
theorem d_M_isBetter_68 : decode prog_10_method_44_code 68 = .ok (.laload, 1) := by decide +kernel
theorem d_M_isBetter_69 : decode prog_10_method_44_code 69 = .ok (.lcmp, 1) := by decide +kernel
theorem d_M_isBetter_70 : decode prog_10_method_44_code 70 = .ok (.ifCond .ge 7, 3) := by decide +kernel
theorem d_M_isBetter_73 : decode prog_10_method_44_code 73 = .ok (.iconst 1, 1) := by decide +kernel
theorem d_M_isBetter_74 : decode prog_10_method_44_code 74 = .ok (.goto 4, 3) := by decide +kernel
theorem d_M_isBetter_77 : decode prog_10_method_44_code 77 = .ok (.iconst 0, 1) := by decide +kernel
theorem d_M_isBetter_78 : decode prog_10_method_44_code 78 = .ok (.ireturn, 1) := by decide +kernel
theorem d_M_isBetter_79 : decode prog_10_method_44_code 79 = .ok (.iconst 0, 1) := by decide +kernel
theorem d_M_isBetter_80 : decode prog_10_method_44_code 80 = .ok (.istore_n 2, 1) := by decide +kernel
theorem d_M_isBetter_81 : decode prog_10_method_44_code 81 = .ok (.iload_n 2, 1) := by decide +kernel
theorem d_M_isBetter_82 : decode prog_10_method_44_code 82 = .ok (.i2l, 1) := by decide +kernel
theorem d_M_isBetter_83 : decode prog_10_method_44_code 83 = .ok (.aload_n 0, 1) := by decide +kernel
theorem d_M_isBetter_84 : decode prog_10_method_44_code 84 = .ok (.getfield 211, 3) := by decide +kernel
theorem d_M_isBetter_87 : decode prog_10_method_44_code 87 = .ok (.lcmp, 1) := by decide +kernel
theorem d_M_isBetter_88 : decode prog_10_method_44_code 88 = .ok (.ifCond .ge 29, 3) := by decide +kernel
theorem d_M_isBetter_91 : decode prog_10_method_44_code 91 = .ok (.aload_n 0, 1) := by decide +kernel
theorem d_M_isBetter_92 : decode prog_10_method_44_code 92 = .ok (.getfield 69, 3) := by decide +kernel
theorem d_M_isBetter_95 : decode prog_10_method_44_code 95 = .ok (.iload_n 2, 1) := by decide +kernel
theorem d_M_isBetter_96 : decode prog_10_method_44_code 96 = .ok (.iaload, 1) := by decide +kernel
theorem d_M_isBetter_97 : decode prog_10_method_44_code 97 = .ok (.aload_n 0, 1) := by decide +kernel
theorem d_M_isBetter_98 : decode prog_10_method_44_code 98 = .ok (.getfield 66, 3) := by decide +kernel
theorem d_M_isBetter_101 : decode prog_10_method_44_code 101 = .ok (.bipush 60, 2) := by decide +kernel
theorem d_M_isBetter_103 : decode prog_10_method_44_code 103 = .ok (.iload_n 1, 1) := by decide +kernel
theorem d_M_isBetter_104 : decode prog_10_method_44_code 104 = .ok (.imul, 1) := by decide +kernel
theorem d_M_isBetter_105 : decode prog_10_method_44_code 105 = .ok (.iload_n 2, 1) := by decide +kernel
theorem d_M_isBetter_106 : decode prog_10_method_44_code 106 = .ok (.iadd, 1) := by decide +kernel
theorem d_M_isBetter_107 : decode prog_10_method_44_code 107 = .ok (.iaload, 1) := by decide +kernel
theorem d_M_isBetter_108 : decode prog_10_method_44_code 108 = .ok (.if_icmp .ne 9, 3) := by decide +kernel
theorem d_M_isBetter_111 : decode prog_10_method_44_code 111 = .ok (.iinc 2 1, 3) := by decide +kernel
theorem d_M_isBetter_114 : decode prog_10_method_44_code 114 = .ok (.goto (-33), 3) := by decide +kernel
theorem d_M_isBetter_117 : decode prog_10_method_44_code 117 = .ok (.iload_n 2, 1) := by decide +kernel
theorem d_M_isBetter_118 : decode prog_10_method_44_code 118 = .ok (.i2l, 1) := by decide +kernel
theorem d_M_isBetter_119 : decode prog_10_method_44_code 119 = .ok (.aload_n 0, 1) := by decide +kernel
theorem d_M_isBetter_120 : decode prog_10_method_44_code 120 = .ok (.getfield 211, 3) := by decide +kernel
theorem d_M_isBetter_123 : decode prog_10_method_44_code 123 = .ok (.lcmp, 1) := by decide +kernel
theorem d_M_isBetter_124 : decode prog_10_method_44_code 124 = .ok (.ifCond .ge 27, 3) := by decide +kernel
theorem d_M_isBetter_127 : decode prog_10_method_44_code 127 = .ok (.aload_n 0, 1) := by decide +kernel
theorem d_M_isBetter_128 : decode prog_10_method_44_code 128 = .ok (.getfield 69, 3) := by decide +kernel
theorem d_M_isBetter_131 : decode prog_10_method_44_code 131 = .ok (.iload_n 2, 1) := by decide +kernel
theorem d_M_isBetter_132 : decode prog_10_method_44_code 132 = .ok (.iaload, 1) := by decide +kernel
theorem d_M_isBetter_133 : decode prog_10_method_44_code 133 = .ok (.aload_n 0, 1) := by decide +kernel
theorem d_M_isBetter_134 : decode prog_10_method_44_code 134 = .ok (.getfield 66, 3) := by decide +kernel
theorem d_M_isBetter_137 : decode prog_10_method_44_code 137 = .ok (.bipush 60, 2) := by decide +kernel
theorem d_M_isBetter_139 : decode prog_10_method_44_code 139 = .ok (.iload_n 1, 1) := by decide +kernel
theorem d_M_isBetter_140 : decode prog_10_method_44_code 140 = .ok (.imul, 1) := by decide +kernel
theorem d_M_isBetter_141 : decode prog_10_method_44_code 141 = .ok (.iload_n 2, 1) := by decide +kernel
theorem d_M_isBetter_142 : decode prog_10_method_44_code 142 = .ok (.iadd, 1) := by decide +kernel
theorem d_M_isBetter_143 : decode prog_10_method_44_code 143 = .ok (.iaload, 1) := by decide +kernel
theorem d_M_isBetter_144 : decode prog_10_method_44_code 144 = .ok (.if_icmp .ge 7, 3) := by decide +kernel
theorem d_M_isBetter_147 : decode prog_10_method_44_code 147 = .ok (.iconst 1, 1) := by decide +kernel
theorem d_M_isBetter_148 : decode prog_10_method_44_code 148 = .ok (.goto 4, 3) := by decide +kernel
theorem d_M_isBetter_151 : decode prog_10_method_44_code 151 = .ok (.iconst 0, 1) := by decide +kernel
theorem d_M_isBetter_152 : decode prog_10_method_44_code 152 = .ok (.ireturn, 1) := by decide +kernel
