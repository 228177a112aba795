theorem d_X_can_63 : decode b_X_can 63 = .ok (.ireturn, 1) := by decide +kernel
theorem d_X_core_0 : decode b_X_core 0 = .ok (.iconst 0, 1) := by decide +kernel
theorem d_X_core_1 : decode b_X_core 1 = .ok (.istore_n 2, 1) := by decide +kernel
theorem d_X_core_2 : decode b_X_core 2 = .ok (.iconst 0, 1) := by decide +kernel
theorem d_X_core_3 : decode b_X_core 3 = .ok (.istore_n 3, 1) := by decide +kernel
theorem d_X_core_4 : decode b_X_core 4 = .ok (.iload_n 3, 1) := by decide +kernel
theorem d_X_core_5 : decode b_X_core 5 = .ok (.bipush 6, 2) := by decide +kernel
theorem d_X_core_7 : decode b_X_core 7 = .ok (.if_icmp .ge 31, 3) := by decide +kernel
theorem d_X_core_10 : decode b_X_core 10 = .ok (.aload_n 0, 1) := by decide +kernel
theorem d_X_core_11 : decode b_X_core 11 = .ok (.getfield 37, 3) := by decide +kernel
theorem d_X_core_14 : decode b_X_core 14 = .ok (.iload_n 3, 1) := by decide +kernel
theorem d_X_core_15 : decode b_X_core 15 = .ok (.invokestatic 125, 3) := by decide +kernel
theorem d_X_core_18 : decode b_X_core 18 = .ok (.iand, 1) := by decide +kernel
theorem d_X_core_19 : decode b_X_core 19 = .ok (.ifCond .eq 13, 3) := by decide +kernel
theorem d_X_core_22 : decode b_X_core 22 = .ok (.iload_n 2, 1) := by decide +kernel
theorem d_X_core_23 : decode b_X_core 23 = .ok (.iload_n 1, 1) := by decide +kernel
theorem d_X_core_24 : decode b_X_core 24 = .ok (.if_icmp .ne 5, 3) := by decide +kernel
theorem d_X_core_27 : decode b_X_core 27 = .ok (.iload_n 3, 1) := by decide +kernel
theorem d_X_core_28 : decode b_X_core 28 = .ok (.ireturn, 1) := by decide +kernel
theorem d_X_core_29 : decode b_X_core 29 = .ok (.iinc 2 1, 3) := by decide +kernel
theorem d_X_core_32 : decode b_X_core 32 = .ok (.iinc 3 1, 3) := by decide +kernel
theorem d_X_core_35 : decode b_X_core 35 = .ok (.goto (-31), 3) := by decide +kernel
theorem d_X_core_38 : decode b_X_core 38 = .ok (.new 128, 3) := by decide +kernel
theorem d_X_core_41 : decode b_X_core 41 = .ok (.dup, 1) := by decide +kernel
theorem d_X_core_42 : decode b_X_core 42 = .ok (.ldc 130, 2) := by decide +kernel
theorem d_X_core_44 : decode b_X_core 44 = .ok (.invokespecial 132, 3) := by decide +kernel
theorem d_X_core_47 : decode b_X_core 47 = .ok (.athrow, 1) := by decide +kernel
theorem d_X_count_0 : decode b_X_count 0 = .ok (.iload_n 1, 1) := by decide +kernel
theorem d_X_count_1 : decode b_X_count 1 = .ok (.tableswitch 106 0 6 #[43, 54, 62, 70, 78, 86, 94], 43) := by decide +kernel
theorem d_X_count_44 : decode b_X_count 44 = .ok (.aload_n 0, 1) := by decide +kernel
theorem d_X_count_45 : decode b_X_count 45 = .ok (.getfield 12, 3) := by decide +kernel
theorem d_X_count_48 : decode b_X_count 48 = .ok (.getfield 133, 3) := by decide +kernel
theorem d_X_count_51 : decode b_X_count 51 = .ok (.invokestatic 102, 3) := by decide +kernel
theorem d_X_count_54 : decode b_X_count 54 = .ok (.ireturn, 1) := by decide +kernel
theorem d_X_count_55 : decode b_X_count 55 = .ok (.aload_n 0, 1) := by decide +kernel
theorem d_X_count_56 : decode b_X_count 56 = .ok (.getfield 12, 3) := by decide +kernel
theorem d_X_count_59 : decode b_X_count 59 = .ok (.invokevirtual 136, 3) := by decide +kernel
theorem d_X_count_62 : decode b_X_count 62 = .ok (.ireturn, 1) := by decide +kernel
theorem d_X_count_63 : decode b_X_count 63 = .ok (.aload_n 0, 1) := by decide +kernel
theorem d_X_count_64 : decode b_X_count 64 = .ok (.getfield 12, 3) := by decide +kernel
theorem d_X_count_67 : decode b_X_count 67 = .ok (.getfield 139, 3) := by decide +kernel
theorem d_X_count_70 : decode b_X_count 70 = .ok (.ireturn, 1) := by decide +kernel
theorem d_X_count_71 : decode b_X_count 71 = .ok (.aload_n 0, 1) := by decide +kernel
theorem d_X_count_72 : decode b_X_count 72 = .ok (.getfield 19, 3) := by decide +kernel
theorem d_X_count_75 : decode b_X_count 75 = .ok (.getfield 142, 3) := by decide +kernel
theorem d_X_count_78 : decode b_X_count 78 = .ok (.ireturn, 1) := by decide +kernel
theorem d_X_count_79 : decode b_X_count 79 = .ok (.aload_n 0, 1) := by decide +kernel
theorem d_X_count_80 : decode b_X_count 80 = .ok (.getfield 30, 3) := by decide +kernel
theorem d_X_count_83 : decode b_X_count 83 = .ok (.invokestatic 102, 3) := by decide +kernel
theorem d_X_count_86 : decode b_X_count 86 = .ok (.ireturn, 1) := by decide +kernel
theorem d_X_count_87 : decode b_X_count 87 = .ok (.aload_n 0, 1) := by decide +kernel
theorem d_X_count_88 : decode b_X_count 88 = .ok (.getfield 34, 3) := by decide +kernel
theorem d_X_count_91 : decode b_X_count 91 = .ok (.invokestatic 102, 3) := by decide +kernel
theorem d_X_count_94 : decode b_X_count 94 = .ok (.ireturn, 1) := by decide +kernel
theorem d_X_count_95 : decode b_X_count 95 = .ok (.aload_n 0, 1) := by decide +kernel
theorem d_X_count_96 : decode b_X_count 96 = .ok (.getfield 30, 3) := by decide +kernel
theorem d_X_count_99 : decode b_X_count 99 = .ok (.aload_n 0, 1) := by decide +kernel
theorem d_X_count_100 : decode b_X_count 100 = .ok (.getfield 34, 3) := by decide +kernel
theorem d_X_count_103 : decode b_X_count 103 = .ok (.invokestatic 107, 3) := by decide +kernel
theorem d_X_count_106 : decode b_X_count 106 = .ok (.ireturn, 1) := by decide +kernel
theorem d_X_count_107 : decode b_X_count 107 = .ok (.iconst (-1), 1) := by decide +kernel
theorem d_X_count_108 : decode b_X_count 108 = .ok (.ireturn, 1) := by decide +kernel
theorem d_X_tallyChoices_0 : decode b_X_tallyChoices 0 = .ok (.aload_n 0, 1) := by decide +kernel
theorem d_X_tallyChoices_1 : decode b_X_tallyChoices 1 = .ok (.getfield 26, 3) := by decide +kernel
theorem d_X_tallyChoices_4 : decode b_X_tallyChoices 4 = .ok (.iload_n 2, 1) := by decide +kernel
theorem d_X_tallyChoices_5 : decode b_X_tallyChoices 5 = .ok (.iload_n 3, 1) := by decide +kernel
theorem d_X_tallyChoices_6 : decode b_X_tallyChoices 6 = .ok (.invokevirtual 145, 3) := by decide +kernel
theorem d_X_tallyChoices_9 : decode b_X_tallyChoices 9 = .ok (.aload_n 0, 1) := by decide +kernel
theorem d_X_tallyChoices_10 : decode b_X_tallyChoices 10 = .ok (.getfield 19, 3) := by decide +kernel
theorem d_X_tallyChoices_13 : decode b_X_tallyChoices 13 = .ok (.aload_n 0, 1) := by decide +kernel
theorem d_X_tallyChoices_14 : decode b_X_tallyChoices 14 = .ok (.getfield 19, 3) := by decide +kernel
theorem d_X_tallyChoices_17 : decode b_X_tallyChoices 17 = .ok (.getfield 149, 3) := by decide +kernel
theorem d_X_tallyChoices_20 : decode b_X_tallyChoices 20 = .ok (.iload_n 1, 1) := by decide +kernel
theorem d_X_tallyChoices_21 : decode b_X_tallyChoices 21 = .ok (.invokevirtual 153, 3) := by decide +kernel
theorem d_X_tallyChoices_24 : decode b_X_tallyChoices 24 = .ok (.istore 4, 2) := by decide +kernel
theorem d_X_tallyChoices_26 : decode b_X_tallyChoices 26 = .ok (.aload_n 0, 1) := by decide +kernel
theorem d_X_tallyChoices_27 : decode b_X_tallyChoices 27 = .ok (.getfield 19, 3) := by decide +kernel
theorem d_X_tallyChoices_30 : decode b_X_tallyChoices 30 = .ok (.aload_n 0, 1) := by decide +kernel
theorem d_X_tallyChoices_31 : decode b_X_tallyChoices 31 = .ok (.getfield 19, 3) := by decide +kernel
theorem d_X_tallyChoices_34 : decode b_X_tallyChoices 34 = .ok (.getfield 157, 3) := by decide +kernel
theorem d_X_tallyChoices_37 : decode b_X_tallyChoices 37 = .ok (.iload_n 1, 1) := by decide +kernel
theorem d_X_tallyChoices_38 : decode b_X_tallyChoices 38 = .ok (.invokevirtual 153, 3) := by decide +kernel
theorem d_X_tallyChoices_41 : decode b_X_tallyChoices 41 = .ok (.istore 5, 2) := by decide +kernel
theorem d_X_tallyChoices_43 : decode b_X_tallyChoices 43 = .ok (.aload_n 0, 1) := by decide +kernel
theorem d_X_tallyChoices_44 : decode b_X_tallyChoices 44 = .ok (.iload 4, 2) := by decide +kernel
theorem d_X_tallyChoices_46 : decode b_X_tallyChoices 46 = .ok (.iconst 0, 1) := by decide +kernel
theorem d_X_tallyChoices_47 : decode b_X_tallyChoices 47 = .ok (.aload_n 0, 1) := by decide +kernel
theorem d_X_tallyChoices_48 : decode b_X_tallyChoices 48 = .ok (.getfield 12, 3) := by decide +kernel
theorem d_X_tallyChoices_51 : decode b_X_tallyChoices 51 = .ok (.getfield 133, 3) := by decide +kernel
theorem d_X_tallyChoices_54 : decode b_X_tallyChoices 54 = .ok (.iload 5, 2) := by decide +kernel
theorem d_X_tallyChoices_56 : decode b_X_tallyChoices 56 = .ok (.iconst (-1), 1) := by decide +kernel
theorem d_X_tallyChoices_57 : decode b_X_tallyChoices 57 = .ok (.ixor, 1) := by decide +kernel
theorem d_X_tallyChoices_58 : decode b_X_tallyChoices 58 = .ok (.iand, 1) := by decide +kernel
theorem d_X_tallyChoices_59 : decode b_X_tallyChoices 59 = .ok (.iconst 0, 1) := by decide +kernel
theorem d_X_tallyChoices_60 : decode b_X_tallyChoices 60 = .ok (.invokevirtual 160, 3) := by decide +kernel
theorem d_X_tallyChoices_63 : decode b_X_tallyChoices 63 = .ok (.aload_n 0, 1) := by decide +kernel
theorem d_X_tallyChoices_64 : decode b_X_tallyChoices 64 = .ok (.getfield 26, 3) := by decide +kernel
theorem d_X_tallyChoices_67 : decode b_X_tallyChoices 67 = .ok (.getfield 164, 3) := by decide +kernel
theorem d_X_tallyChoices_70 : decode b_X_tallyChoices 70 = .ok (.ireturn, 1) := by decide +kernel
theorem d_X_explore_0 : decode b_X_explore 0 = .ok (.iload 4, 2) := by decide +kernel
theorem d_X_explore_2 : decode b_X_explore 2 = .ok (.bipush 7, 2) := by decide +kernel
theorem d_X_explore_4 : decode b_X_explore 4 = .ok (.if_icmp .gt 24, 3) := by decide +kernel
theorem d_X_explore_7 : decode b_X_explore 7 = .ok (.aload_n 0, 1) := by decide +kernel
theorem d_X_explore_8 : decode b_X_explore 8 = .ok (.getfield 26, 3) := by decide +kernel
theorem d_X_explore_11 : decode b_X_explore 11 = .ok (.invokevirtual 167, 3) := by decide +kernel
theorem d_X_explore_14 : decode b_X_explore 14 = .ok (.ifCond .ne 14, 3) := by decide +kernel
theorem d_X_explore_17 : decode b_X_explore 17 = .ok (.iload_n 1, 1) := by decide +kernel
theorem d_X_explore_18 : decode b_X_explore 18 = .ok (.iload_n 3, 1) := by decide +kernel
theorem d_X_explore_19 : decode b_X_explore 19 = .ok (.invokestatic 171, 3) := by decide +kernel
theorem d_X_explore_22 : decode b_X_explore 22 = .ok (.iconst (-1), 1) := by decide +kernel
theorem d_X_explore_23 : decode b_X_explore 23 = .ok (.ixor, 1) := by decide +kernel
theorem d_X_explore_24 : decode b_X_explore 24 = .ok (.iand, 1) := by decide +kernel
theorem d_X_explore_25 : decode b_X_explore 25 = .ok (.ifCond .eq 4, 3) := by decide +kernel
theorem d_X_explore_28 : decode b_X_explore 28 = .ok (.return_, 1) := by decide +kernel
theorem d_X_explore_29 : decode b_X_explore 29 = .ok (.iload_n 1, 1) := by decide +kernel
theorem d_X_explore_30 : decode b_X_explore 30 = .ok (.iload_n 2, 1) := by decide +kernel
theorem d_X_explore_31 : decode b_X_explore 31 = .ok (.iconst (-1), 1) := by decide +kernel
theorem d_X_explore_32 : decode b_X_explore 32 = .ok (.ixor, 1) := by decide +kernel
theorem d_X_explore_33 : decode b_X_explore 33 = .ok (.iand, 1) := by decide +kernel
theorem d_X_explore_34 : decode b_X_explore 34 = .ok (.istore 5, 2) := by decide +kernel
theorem d_X_explore_36 : decode b_X_explore 36 = .ok (.iload 5, 2) := by decide +kernel
theorem d_X_explore_38 : decode b_X_explore 38 = .ok (.ifCond .ne 27, 3) := by decide +kernel
theorem d_X_explore_41 : decode b_X_explore 41 = .ok (.iload_n 3, 1) := by decide +kernel
theorem d_X_explore_42 : decode b_X_explore 42 = .ok (.iload_n 1, 1) := by decide +kernel
theorem d_X_explore_43 : decode b_X_explore 43 = .ok (.bipush 15, 2) := by decide +kernel
theorem d_X_explore_45 : decode b_X_explore 45 = .ok (.imul, 1) := by decide +kernel
theorem d_X_explore_46 : decode b_X_explore 46 = .ok (.iand, 1) := by decide +kernel
theorem d_X_explore_47 : decode b_X_explore 47 = .ok (.istore 6, 2) := by decide +kernel
theorem d_X_explore_49 : decode b_X_explore 49 = .ok (.aload_n 0, 1) := by decide +kernel
theorem d_X_explore_50 : decode b_X_explore 50 = .ok (.getfield 26, 3) := by decide +kernel
theorem d_X_explore_53 : decode b_X_explore 53 = .ok (.iload 6, 2) := by decide +kernel
theorem d_X_explore_55 : decode b_X_explore 55 = .ok (.aload_n 0, 1) := by decide +kernel
theorem d_X_explore_56 : decode b_X_explore 56 = .ok (.iload 6, 2) := by decide +kernel
theorem d_X_explore_58 : decode b_X_explore 58 = .ok (.invokevirtual 174, 3) := by decide +kernel
theorem d_X_explore_61 : decode b_X_explore 61 = .ok (.invokevirtual 177, 3) := by decide +kernel
theorem d_X_explore_64 : decode b_X_explore 64 = .ok (.return_, 1) := by decide +kernel
theorem d_X_explore_65 : decode b_X_explore 65 = .ok (.iload 5, 2) := by decide +kernel
theorem d_X_explore_67 : decode b_X_explore 67 = .ok (.invokestatic 180, 3) := by decide +kernel
theorem d_X_explore_70 : decode b_X_explore 70 = .ok (.istore 6, 2) := by decide +kernel
theorem d_X_explore_72 : decode b_X_explore 72 = .ok (.iload 6, 2) := by decide +kernel
theorem d_X_explore_74 : decode b_X_explore 74 = .ok (.iconst 4, 1) := by decide +kernel
theorem d_X_explore_75 : decode b_X_explore 75 = .ok (.iadd, 1) := by decide +kernel
theorem d_X_explore_76 : decode b_X_explore 76 = .ok (.bipush 28, 2) := by decide +kernel
theorem d_X_explore_78 : decode b_X_explore 78 = .ok (.invokestatic 183, 3) := by decide +kernel
theorem d_X_explore_81 : decode b_X_explore 81 = .ok (.istore 7, 2) := by decide +kernel
theorem d_X_explore_83 : decode b_X_explore 83 = .ok (.iload 6, 2) := by decide +kernel
theorem d_X_explore_85 : decode b_X_explore 85 = .ok (.istore 8, 2) := by decide +kernel
theorem d_X_explore_87 : decode b_X_explore 87 = .ok (.iload 8, 2) := by decide +kernel
theorem d_X_explore_89 : decode b_X_explore 89 = .ok (.iload 7, 2) := by decide +kernel
theorem d_X_explore_91 : decode b_X_explore 91 = .ok (.if_icmp .ge 86, 3) := by decide +kernel
theorem d_X_explore_94 : decode b_X_explore 94 = .ok (.iload_n 3, 1) := by decide +kernel
theorem d_X_explore_95 : decode b_X_explore 95 = .ok (.iload 8, 2) := by decide +kernel
theorem d_X_explore_97 : decode b_X_explore 97 = .ok (.invokestatic 113, 3) := by decide +kernel
theorem d_X_explore_100 : decode b_X_explore 100 = .ok (.ifCond .eq 71, 3) := by decide +kernel
theorem d_X_explore_103 : decode b_X_explore 103 = .ok (.bipush 15, 2) := by decide +kernel
theorem d_X_explore_105 : decode b_X_explore 105 = .ok (.iload 6, 2) := by decide +kernel
theorem d_X_explore_107 : decode b_X_explore 107 = .ok (.ishl, 1) := by decide +kernel
theorem d_X_explore_108 : decode b_X_explore 108 = .ok (.iconst 1, 1) := by decide +kernel
theorem d_X_explore_109 : decode b_X_explore 109 = .ok (.iload 8, 2) := by decide +kernel
theorem d_X_explore_111 : decode b_X_explore 111 = .ok (.ishl, 1) := by decide +kernel
theorem d_X_explore_112 : decode b_X_explore 112 = .ok (.iconst (-1), 1) := by decide +kernel
theorem d_X_explore_113 : decode b_X_explore 113 = .ok (.ixor, 1) := by decide +kernel
theorem d_X_explore_114 : decode b_X_explore 114 = .ok (.iand, 1) := by decide +kernel
theorem d_X_explore_115 : decode b_X_explore 115 = .ok (.istore 9, 2) := by decide +kernel
theorem d_X_explore_117 : decode b_X_explore 117 = .ok (.aload_n 0, 1) := by decide +kernel
theorem d_X_explore_118 : decode b_X_explore 118 = .ok (.iload_n 1, 1) := by decide +kernel
theorem d_X_explore_119 : decode b_X_explore 119 = .ok (.aload_n 0, 1) := by decide +kernel
theorem d_X_explore_120 : decode b_X_explore 120 = .ok (.getfield 12, 3) := by decide +kernel
theorem d_X_explore_123 : decode b_X_explore 123 = .ok (.getfield 188, 3) := by decide +kernel
theorem d_X_explore_126 : decode b_X_explore 126 = .ok (.iload 8, 2) := by decide +kernel
theorem d_X_explore_128 : decode b_X_explore 128 = .ok (.iaload, 1) := by decide +kernel
theorem d_X_explore_129 : decode b_X_explore 129 = .ok (.ior, 1) := by decide +kernel
theorem d_X_explore_130 : decode b_X_explore 130 = .ok (.iload_n 2, 1) := by decide +kernel
theorem d_X_explore_131 : decode b_X_explore 131 = .ok (.iconst 1, 1) := by decide +kernel
theorem d_X_explore_132 : decode b_X_explore 132 = .ok (.iload 6, 2) := by decide +kernel
theorem d_X_explore_134 : decode b_X_explore 134 = .ok (.ishl, 1) := by decide +kernel
theorem d_X_explore_135 : decode b_X_explore 135 = .ok (.ior, 1) := by decide +kernel
theorem d_X_explore_136 : decode b_X_explore 136 = .ok (.iload_n 3, 1) := by decide +kernel
theorem d_X_explore_137 : decode b_X_explore 137 = .ok (.iload 9, 2) := by decide +kernel
theorem d_X_explore_139 : decode b_X_explore 139 = .ok (.aload_n 0, 1) := by decide +kernel
theorem d_X_explore_140 : decode b_X_explore 140 = .ok (.getfield 12, 3) := by decide +kernel
theorem d_X_explore_143 : decode b_X_explore 143 = .ok (.getfield 189, 3) := by decide +kernel
theorem d_X_explore_146 : decode b_X_explore 146 = .ok (.iload 8, 2) := by decide +kernel
theorem d_X_explore_148 : decode b_X_explore 148 = .ok (.iaload, 1) := by decide +kernel
theorem d_X_explore_149 : decode b_X_explore 149 = .ok (.ior, 1) := by decide +kernel
theorem d_X_explore_150 : decode b_X_explore 150 = .ok (.aload_n 0, 1) := by decide +kernel
theorem d_X_explore_151 : decode b_X_explore 151 = .ok (.getfield 12, 3) := by decide +kernel
theorem d_X_explore_154 : decode b_X_explore 154 = .ok (.getfield 190, 3) := by decide +kernel
theorem d_X_explore_157 : decode b_X_explore 157 = .ok (.iload 8, 2) := by decide +kernel
theorem d_X_explore_159 : decode b_X_explore 159 = .ok (.iaload, 1) := by decide +kernel
theorem d_X_explore_160 : decode b_X_explore 160 = .ok (.ior, 1) := by decide +kernel
theorem d_X_explore_161 : decode b_X_explore 161 = .ok (.iconst (-1), 1) := by decide +kernel
theorem d_X_explore_162 : decode b_X_explore 162 = .ok (.ixor, 1) := by decide +kernel
theorem d_X_explore_163 : decode b_X_explore 163 = .ok (.iand, 1) := by decide +kernel
theorem d_X_explore_164 : decode b_X_explore 164 = .ok (.iload 4, 2) := by decide +kernel
theorem d_X_explore_166 : decode b_X_explore 166 = .ok (.iconst 1, 1) := by decide +kernel
theorem d_X_explore_167 : decode b_X_explore 167 = .ok (.iadd, 1) := by decide +kernel
theorem d_X_explore_168 : decode b_X_explore 168 = .ok (.invokevirtual 160, 3) := by decide +kernel
theorem d_X_explore_171 : decode b_X_explore 171 = .ok (.iinc 8 1, 3) := by decide +kernel
theorem d_X_explore_174 : decode b_X_explore 174 = .ok (.goto (-87), 3) := by decide +kernel
theorem d_X_explore_177 : decode b_X_explore 177 = .ok (.return_, 1) := by decide +kernel
theorem d_X_costOf_0 : decode b_X_costOf 0 = .ok (.aload_n 0, 1) := by decide +kernel
theorem d_X_costOf_1 : decode b_X_costOf 1 = .ok (.getfield 26, 3) := by decide +kernel
theorem d_X_costOf_4 : decode b_X_costOf 4 = .ok (.getfield 193, 3) := by decide +kernel
theorem d_X_costOf_7 : decode b_X_costOf 7 = .ok (.lookupswitch 39 #[(1, 25), (2, 30)], 25) := by decide +kernel
theorem d_X_costOf_32 : decode b_X_costOf 32 = .ok (.iload_n 1, 1) := by decide +kernel
theorem d_X_costOf_33 : decode b_X_costOf 33 = .ok (.invokestatic 102, 3) := by decide +kernel
theorem d_X_costOf_36 : decode b_X_costOf 36 = .ok (.ireturn, 1) := by decide +kernel
theorem d_X_costOf_37 : decode b_X_costOf 37 = .ok (.iload_n 1, 1) := by decide +kernel
theorem d_X_costOf_38 : decode b_X_costOf 38 = .ok (.aload_n 0, 1) := by decide +kernel
theorem d_X_costOf_39 : decode b_X_costOf 39 = .ok (.getfield 34, 3) := by decide +kernel
theorem d_X_costOf_42 : decode b_X_costOf 42 = .ok (.invokestatic 107, 3) := by decide +kernel
theorem d_X_costOf_45 : decode b_X_costOf 45 = .ok (.ireturn, 1) := by decide +kernel
theorem d_X_costOf_46 : decode b_X_costOf 46 = .ok (.iconst 0, 1) := by decide +kernel
theorem d_X_costOf_47 : decode b_X_costOf 47 = .ok (.ireturn, 1) := by decide +kernel
theorem d_X_fewestHindering_0 : decode b_X_fewestHindering 0 = .ok (.aload_n 0, 1) := by decide +kernel
theorem d_X_fewestHindering_1 : decode b_X_fewestHindering 1 = .ok (.getfield 19, 3) := by decide +kernel
theorem d_X_fewestHindering_4 : decode b_X_fewestHindering 4 = .ok (.invokevirtual 83, 3) := by decide +kernel
theorem d_X_fewestHindering_7 : decode b_X_fewestHindering 7 = .ok (.istore_n 1, 1) := by decide +kernel
theorem d_X_fewestHindering_8 : decode b_X_fewestHindering 8 = .ok (.iconst 1, 1) := by decide +kernel
theorem d_X_fewestHindering_9 : decode b_X_fewestHindering 9 = .ok (.istore_n 2, 1) := by decide +kernel
theorem d_X_fewestHindering_10 : decode b_X_fewestHindering 10 = .ok (.iload_n 2, 1) := by decide +kernel
theorem d_X_fewestHindering_11 : decode b_X_fewestHindering 11 = .ok (.bipush 6, 2) := by decide +kernel
theorem d_X_fewestHindering_13 : decode b_X_fewestHindering 13 = .ok (.if_icmp .gt 49, 3) := by decide +kernel
theorem d_X_fewestHindering_16 : decode b_X_fewestHindering 16 = .ok (.iload_n 1, 1) := by decide +kernel
theorem d_X_fewestHindering_17 : decode b_X_fewestHindering 17 = .ok (.istore_n 3, 1) := by decide +kernel
theorem d_X_fewestHindering_18 : decode b_X_fewestHindering 18 = .ok (.iload_n 3, 1) := by decide +kernel
theorem d_X_fewestHindering_19 : decode b_X_fewestHindering 19 = .ok (.ifCond .le 37, 3) := by decide +kernel
theorem d_X_fewestHindering_22 : decode b_X_fewestHindering 22 = .ok (.iload_n 3, 1) := by decide +kernel
theorem d_X_fewestHindering_23 : decode b_X_fewestHindering 23 = .ok (.iload_n 1, 1) := by decide +kernel
theorem d_X_fewestHindering_24 : decode b_X_fewestHindering 24 = .ok (.iconst (-1), 1) := by decide +kernel
theorem d_X_fewestHindering_25 : decode b_X_fewestHindering 25 = .ok (.ixor, 1) := by decide +kernel
theorem d_X_fewestHindering_26 : decode b_X_fewestHindering 26 = .ok (.iand, 1) := by decide +kernel
theorem d_X_fewestHindering_27 : decode b_X_fewestHindering 27 = .ok (.ifCond .ne 23, 3) := by decide +kernel
theorem d_X_fewestHindering_30 : decode b_X_fewestHindering 30 = .ok (.iload_n 3, 1) := by decide +kernel
theorem d_X_fewestHindering_31 : decode b_X_fewestHindering 31 = .ok (.invokestatic 102, 3) := by decide +kernel
theorem d_X_fewestHindering_34 : decode b_X_fewestHindering 34 = .ok (.iload_n 2, 1) := by decide +kernel
theorem d_X_fewestHindering_35 : decode b_X_fewestHindering 35 = .ok (.if_icmp .ne 15, 3) := by decide +kernel
theorem d_X_fewestHindering_38 : decode b_X_fewestHindering 38 = .ok (.aload_n 0, 1) := by decide +kernel
theorem d_X_fewestHindering_39 : decode b_X_fewestHindering 39 = .ok (.iload_n 3, 1) := by decide +kernel
theorem d_X_fewestHindering_40 : decode b_X_fewestHindering 40 = .ok (.iconst 0, 1) := by decide +kernel
theorem d_X_fewestHindering_41 : decode b_X_fewestHindering 41 = .ok (.iconst 1, 1) := by decide +kernel
theorem d_X_fewestHindering_42 : decode b_X_fewestHindering 42 = .ok (.invokevirtual 88, 3) := by decide +kernel
theorem d_X_fewestHindering_45 : decode b_X_fewestHindering 45 = .ok (.ifCond .ne 5, 3) := by decide +kernel
theorem d_X_fewestHindering_48 : decode b_X_fewestHindering 48 = .ok (.iload_n 3, 1) := by decide +kernel
theorem d_X_fewestHindering_49 : decode b_X_fewestHindering 49 = .ok (.ireturn, 1) := by decide +kernel
theorem d_X_fewestHindering_50 : decode b_X_fewestHindering 50 = .ok (.iinc 3 (-1), 3) := by decide +kernel
theorem d_X_fewestHindering_53 : decode b_X_fewestHindering 53 = .ok (.goto (-35), 3) := by decide +kernel
theorem d_X_fewestHindering_56 : decode b_X_fewestHindering 56 = .ok (.iinc 2 1, 3) := by decide +kernel
theorem d_X_fewestHindering_59 : decode b_X_fewestHindering 59 = .ok (.goto (-49), 3) := by decide +kernel
theorem d_X_fewestHindering_62 : decode b_X_fewestHindering 62 = .ok (.iconst 0, 1) := by decide +kernel
theorem d_X_fewestHindering_63 : decode b_X_fewestHindering 63 = .ok (.ireturn, 1) := by decide +kernel
theorem d_X_isPackage_0 : decode b_X_isPackage 0 = .ok (.iload_n 0, 1) := by decide +kernel
theorem d_X_isPackage_1 : decode b_X_isPackage 1 = .ok (.ifCond .lt 13, 3) := by decide +kernel
theorem d_X_isPackage_4 : decode b_X_isPackage 4 = .ok (.iload_n 0, 1) := by decide +kernel
theorem d_X_isPackage_5 : decode b_X_isPackage 5 = .ok (.bipush 7, 2) := by decide +kernel
theorem d_X_isPackage_7 : decode b_X_isPackage 7 = .ok (.if_icmp .ge 7, 3) := by decide +kernel
theorem d_X_isPackage_10 : decode b_X_isPackage 10 = .ok (.iconst 1, 1) := by decide +kernel
theorem d_X_isPackage_11 : decode b_X_isPackage 11 = .ok (.goto 4, 3) := by decide +kernel
theorem d_X_isPackage_14 : decode b_X_isPackage 14 = .ok (.iconst 0, 1) := by decide +kernel
theorem d_X_isPackage_15 : decode b_X_isPackage 15 = .ok (.ireturn, 1) := by decide +kernel
theorem d_X_isVersion_0 : decode b_X_isVersion 0 = .ok (.iload_n 0, 1) := by decide +kernel
theorem d_X_isVersion_1 : decode b_X_isVersion 1 = .ok (.invokestatic 110, 3) := by decide +kernel
theorem d_X_isVersion_4 : decode b_X_isVersion 4 = .ok (.ifCond .eq 16, 3) := by decide +kernel
theorem d_X_isVersion_7 : decode b_X_isVersion 7 = .ok (.iload_n 1, 1) := by decide +kernel
theorem d_X_isVersion_8 : decode b_X_isVersion 8 = .ok (.ifCond .lt 12, 3) := by decide +kernel
theorem d_X_isVersion_11 : decode b_X_isVersion 11 = .ok (.iload_n 1, 1) := by decide +kernel
theorem d_X_isVersion_12 : decode b_X_isVersion 12 = .ok (.iconst 4, 1) := by decide +kernel
theorem d_X_isVersion_13 : decode b_X_isVersion 13 = .ok (.if_icmp .ge 7, 3) := by decide +kernel
theorem d_X_isVersion_16 : decode b_X_isVersion 16 = .ok (.iconst 1, 1) := by decide +kernel
theorem d_X_isVersion_17 : decode b_X_isVersion 17 = .ok (.goto 4, 3) := by decide +kernel
theorem d_X_isVersion_20 : decode b_X_isVersion 20 = .ok (.iconst 0, 1) := by decide +kernel
theorem d_X_isVersion_21 : decode b_X_isVersion 21 = .ok (.ireturn, 1) := by decide +kernel
theorem d_X_isNeed_0 : decode b_X_isNeed 0 = .ok (.iload_n 0, 1) := by decide +kernel
theorem d_X_isNeed_1 : decode b_X_isNeed 1 = .ok (.iload_n 1, 1) := by decide +kernel
theorem d_X_isNeed_2 : decode b_X_isNeed 2 = .ok (.invokestatic 40, 3) := by decide +kernel
theorem d_X_isNeed_5 : decode b_X_isNeed 5 = .ok (.ifCond .eq 20, 3) := by decide +kernel
theorem d_X_isNeed_8 : decode b_X_isNeed 8 = .ok (.iload_n 0, 1) := by decide +kernel
theorem d_X_isNeed_9 : decode b_X_isNeed 9 = .ok (.iload_n 2, 1) := by decide +kernel
theorem d_X_isNeed_10 : decode b_X_isNeed 10 = .ok (.invokestatic 40, 3) := by decide +kernel
theorem d_X_isNeed_13 : decode b_X_isNeed 13 = .ok (.ifCond .eq 12, 3) := by decide +kernel
theorem d_X_isNeed_16 : decode b_X_isNeed 16 = .ok (.iload_n 1, 1) := by decide +kernel
theorem d_X_isNeed_17 : decode b_X_isNeed 17 = .ok (.iload_n 2, 1) := by decide +kernel
theorem d_X_isNeed_18 : decode b_X_isNeed 18 = .ok (.if_icmp .gt 7, 3) := by decide +kernel
theorem d_X_isNeed_21 : decode b_X_isNeed 21 = .ok (.iconst 1, 1) := by decide +kernel
theorem d_X_isNeed_22 : decode b_X_isNeed 22 = .ok (.goto 4, 3) := by decide +kernel
theorem d_X_isNeed_25 : decode b_X_isNeed 25 = .ok (.iconst 0, 1) := by decide +kernel
theorem d_X_isNeed_26 : decode b_X_isNeed 26 = .ok (.ireturn, 1) := by decide +kernel
theorem d_X_isSlot_0 : decode b_X_isSlot 0 = .ok (.iload_n 0, 1) := by decide +kernel
theorem d_X_isSlot_1 : decode b_X_isSlot 1 = .ok (.ifCond .lt 13, 3) := by decide +kernel
theorem d_X_isSlot_4 : decode b_X_isSlot 4 = .ok (.iload_n 0, 1) := by decide +kernel
theorem d_X_isSlot_5 : decode b_X_isSlot 5 = .ok (.bipush 28, 2) := by decide +kernel
theorem d_X_isSlot_7 : decode b_X_isSlot 7 = .ok (.if_icmp .ge 7, 3) := by decide +kernel
theorem d_X_isSlot_10 : decode b_X_isSlot 10 = .ok (.iconst 1, 1) := by decide +kernel
theorem d_X_isSlot_11 : decode b_X_isSlot 11 = .ok (.goto 4, 3) := by decide +kernel
theorem d_X_isSlot_14 : decode b_X_isSlot 14 = .ok (.iconst 0, 1) := by decide +kernel
theorem d_X_isSlot_15 : decode b_X_isSlot 15 = .ok (.ireturn, 1) := by decide +kernel
theorem d_X_placeOf_0 : decode b_X_placeOf 0 = .ok (.bipush 6, 2) := by decide +kernel
theorem d_X_placeOf_2 : decode b_X_placeOf 2 = .ok (.iload_n 0, 1) := by decide +kernel
theorem d_X_placeOf_3 : decode b_X_placeOf 3 = .ok (.isub, 1) := by decide +kernel
theorem d_X_placeOf_4 : decode b_X_placeOf 4 = .ok (.iconst 4, 1) := by decide +kernel
theorem d_X_placeOf_5 : decode b_X_placeOf 5 = .ok (.imul, 1) := by decide +kernel
theorem d_X_placeOf_6 : decode b_X_placeOf 6 = .ok (.ireturn, 1) := by decide +kernel
theorem d_X_slotOf_0 : decode b_X_slotOf 0 = .ok (.iload_n 0, 1) := by decide +kernel
theorem d_X_slotOf_1 : decode b_X_slotOf 1 = .ok (.invokestatic 119, 3) := by decide +kernel
theorem d_X_slotOf_4 : decode b_X_slotOf 4 = .ok (.iload_n 1, 1) := by decide +kernel
theorem d_X_slotOf_5 : decode b_X_slotOf 5 = .ok (.iadd, 1) := by decide +kernel
theorem d_X_slotOf_6 : decode b_X_slotOf 6 = .ok (.ireturn, 1) := by decide +kernel
theorem d_X_markOf_0 : decode b_X_markOf 0 = .ok (.iconst 1, 1) := by decide +kernel
theorem d_X_markOf_1 : decode b_X_markOf 1 = .ok (.iload_n 0, 1) := by decide +kernel
theorem d_X_markOf_2 : decode b_X_markOf 2 = .ok (.invokestatic 119, 3) := by decide +kernel
theorem d_X_markOf_5 : decode b_X_markOf 5 = .ok (.ishl, 1) := by decide +kernel
theorem d_X_markOf_6 : decode b_X_markOf 6 = .ok (.ireturn, 1) := by decide +kernel
theorem d_X_wishBit_0 : decode b_X_wishBit 0 = .ok (.iconst 1, 1) := by decide +kernel
theorem d_X_wishBit_1 : decode b_X_wishBit 1 = .ok (.iconst 5, 1) := by decide +kernel
theorem d_X_wishBit_2 : decode b_X_wishBit 2 = .ok (.iload_n 0, 1) := by decide +kernel
theorem d_X_wishBit_3 : decode b_X_wishBit 3 = .ok (.isub, 1) := by decide +kernel
theorem d_X_wishBit_4 : decode b_X_wishBit 4 = .ok (.ishl, 1) := by decide +kernel
theorem d_X_wishBit_5 : decode b_X_wishBit 5 = .ok (.ireturn, 1) := by decide +kernel
theorem d_X_holds_0 : decode b_X_holds 0 = .ok (.iload_n 0, 1) := by decide +kernel
theorem d_X_holds_1 : decode b_X_holds 1 = .ok (.iconst 1, 1) := by decide +kernel
theorem d_X_holds_2 : decode b_X_holds 2 = .ok (.iload_n 1, 1) := by decide +kernel
theorem d_X_holds_3 : decode b_X_holds 3 = .ok (.ishl, 1) := by decide +kernel
theorem d_X_holds_4 : decode b_X_holds 4 = .ok (.iand, 1) := by decide +kernel
theorem d_X_holds_5 : decode b_X_holds 5 = .ok (.ifCond .eq 7, 3) := by decide +kernel
theorem d_X_holds_8 : decode b_X_holds 8 = .ok (.iconst 1, 1) := by decide +kernel
theorem d_X_holds_9 : decode b_X_holds 9 = .ok (.goto 4, 3) := by decide +kernel
theorem d_X_holds_12 : decode b_X_holds 12 = .ok (.iconst 0, 1) := by decide +kernel
theorem d_X_holds_13 : decode b_X_holds 13 = .ok (.ireturn, 1) := by decide +kernel
theorem d_X_outside_0 : decode b_X_outside 0 = .ok (.iconst 1, 1) := by decide +kernel
theorem d_X_outside_1 : decode b_X_outside 1 = .ok (.iload_n 2, 1) := by decide +kernel
theorem d_X_outside_2 : decode b_X_outside 2 = .ok (.iconst 1, 1) := by decide +kernel
theorem d_X_outside_3 : decode b_X_outside 3 = .ok (.iadd, 1) := by decide +kernel
theorem d_X_outside_4 : decode b_X_outside 4 = .ok (.ishl, 1) := by decide +kernel
theorem d_X_outside_5 : decode b_X_outside 5 = .ok (.iconst 1, 1) := by decide +kernel
theorem d_X_outside_6 : decode b_X_outside 6 = .ok (.iload_n 1, 1) := by decide +kernel
theorem d_X_outside_7 : decode b_X_outside 7 = .ok (.ishl, 1) := by decide +kernel
theorem d_X_outside_8 : decode b_X_outside 8 = .ok (.isub, 1) := by decide +kernel
theorem d_X_outside_9 : decode b_X_outside 9 = .ok (.istore_n 3, 1) := by decide +kernel
theorem d_X_outside_10 : decode b_X_outside 10 = .ok (.bipush 15, 2) := by decide +kernel
theorem d_X_outside_12 : decode b_X_outside 12 = .ok (.iload_n 3, 1) := by decide +kernel
theorem d_X_outside_13 : decode b_X_outside 13 = .ok (.iconst (-1), 1) := by decide +kernel
theorem d_X_outside_14 : decode b_X_outside 14 = .ok (.ixor, 1) := by decide +kernel
theorem d_X_outside_15 : decode b_X_outside 15 = .ok (.iand, 1) := by decide +kernel
theorem d_X_outside_16 : decode b_X_outside 16 = .ok (.iload_n 0, 1) := by decide +kernel
theorem d_X_outside_17 : decode b_X_outside 17 = .ok (.invokestatic 119, 3) := by decide +kernel
theorem d_X_outside_20 : decode b_X_outside 20 = .ok (.ishl, 1) := by decide +kernel
theorem d_X_outside_21 : decode b_X_outside 21 = .ok (.ireturn, 1) := by decide +kernel
theorem d_X_marksOf_0 : decode b_X_marksOf 0 = .ok (.iload_n 0, 1) := by decide +kernel
theorem d_X_marksOf_1 : decode b_X_marksOf 1 = .ok (.iload_n 0, 1) := by decide +kernel
theorem d_X_marksOf_2 : decode b_X_marksOf 2 = .ok (.iconst 1, 1) := by decide +kernel
theorem d_X_marksOf_3 : decode b_X_marksOf 3 = .ok (.ishr, 1) := by decide +kernel
theorem d_X_marksOf_4 : decode b_X_marksOf 4 = .ok (.ior, 1) := by decide +kernel
theorem d_X_marksOf_5 : decode b_X_marksOf 5 = .ok (.iload_n 0, 1) := by decide +kernel
theorem d_X_marksOf_6 : decode b_X_marksOf 6 = .ok (.iconst 2, 1) := by decide +kernel
theorem d_X_marksOf_7 : decode b_X_marksOf 7 = .ok (.ishr, 1) := by decide +kernel
theorem d_X_marksOf_8 : decode b_X_marksOf 8 = .ok (.ior, 1) := by decide +kernel
theorem d_X_marksOf_9 : decode b_X_marksOf 9 = .ok (.iload_n 0, 1) := by decide +kernel
theorem d_X_marksOf_10 : decode b_X_marksOf 10 = .ok (.iconst 3, 1) := by decide +kernel
theorem d_X_marksOf_11 : decode b_X_marksOf 11 = .ok (.ishr, 1) := by decide +kernel
theorem d_X_marksOf_12 : decode b_X_marksOf 12 = .ok (.ior, 1) := by decide +kernel
theorem d_X_marksOf_13 : decode b_X_marksOf 13 = .ok (.ldc 196, 2) := by decide +kernel
theorem d_X_marksOf_15 : decode b_X_marksOf 15 = .ok (.iand, 1) := by decide +kernel
theorem d_X_marksOf_16 : decode b_X_marksOf 16 = .ok (.ireturn, 1) := by decide +kernel
theorem d_X_differing_0 : decode b_X_differing 0 = .ok (.iload_n 0, 1) := by decide +kernel
theorem d_X_differing_1 : decode b_X_differing 1 = .ok (.iload_n 1, 1) := by decide +kernel
theorem d_X_differing_2 : decode b_X_differing 2 = .ok (.ixor, 1) := by decide +kernel
theorem d_X_differing_3 : decode b_X_differing 3 = .ok (.invokestatic 171, 3) := by decide +kernel
theorem d_X_differing_6 : decode b_X_differing 6 = .ok (.invokestatic 102, 3) := by decide +kernel
theorem d_X_differing_9 : decode b_X_differing 9 = .ok (.ireturn, 1) := by decide +kernel
theorem d_X_lowestPlace_0 : decode b_X_lowestPlace 0 = .ok (.iload_n 0, 1) := by decide +kernel
theorem d_X_lowestPlace_1 : decode b_X_lowestPlace 1 = .ok (.iload_n 0, 1) := by decide +kernel
theorem d_X_lowestPlace_2 : decode b_X_lowestPlace 2 = .ok (.ineg, 1) := by decide +kernel
theorem d_X_lowestPlace_3 : decode b_X_lowestPlace 3 = .ok (.iand, 1) := by decide +kernel
theorem d_X_lowestPlace_4 : decode b_X_lowestPlace 4 = .ok (.iconst 1, 1) := by decide +kernel
theorem d_X_lowestPlace_5 : decode b_X_lowestPlace 5 = .ok (.isub, 1) := by decide +kernel
theorem d_X_lowestPlace_6 : decode b_X_lowestPlace 6 = .ok (.invokestatic 102, 3) := by decide +kernel
theorem d_X_lowestPlace_9 : decode b_X_lowestPlace 9 = .ok (.ireturn, 1) := by decide +kernel
