theorem d_X_can_9 : decode b_X_can 9 = .ok (.aload_n 0, 1) := by decide +kernel
theorem d_X_can_10 : decode b_X_can 10 = .ok (.aload_n 0, 1) := by decide +kernel
theorem d_X_can_11 : decode b_X_can 11 = .ok (.getfield 19, 3) := by decide +kernel
theorem d_X_can_14 : decode b_X_can 14 = .ok (.invokevirtual 83, 3) := by decide +kernel
theorem d_X_can_17 : decode b_X_can 17 = .ok (.iconst 0, 1) := by decide +kernel
theorem d_X_can_18 : decode b_X_can 18 = .ok (.ldc 87, 2) := by decide +kernel
theorem d_X_can_20 : decode b_X_can 20 = .ok (.invokevirtual 88, 3) := by decide +kernel
theorem d_X_can_23 : decode b_X_can 23 = .ok (.aload_n 0, 1) := by decide +kernel
theorem d_X_can_24 : decode b_X_can 24 = .ok (.getfield 26, 3) := by decide +kernel
theorem d_X_can_27 : decode b_X_can 27 = .ok (.getfield 120, 3) := by decide +kernel
theorem d_X_can_30 : decode b_X_can 30 = .ok (.iload_n 1, 1) := by decide +kernel
theorem d_X_can_31 : decode b_X_can 31 = .ok (.invokestatic 123, 3) := by decide +kernel
theorem d_X_can_34 : decode b_X_can 34 = .ok (.ishr, 1) := by decide +kernel
theorem d_X_can_35 : decode b_X_can 35 = .ok (.bipush 15, 2) := by decide +kernel
theorem d_X_can_37 : decode b_X_can 37 = .ok (.iand, 1) := by decide +kernel
theorem d_X_can_38 : decode b_X_can 38 = .ok (.istore_n 2, 1) := by decide +kernel
theorem d_X_can_39 : decode b_X_can 39 = .ok (.aload_n 0, 1) := by decide +kernel
theorem d_X_can_40 : decode b_X_can 40 = .ok (.getfield 26, 3) := by decide +kernel
theorem d_X_can_43 : decode b_X_can 43 = .ok (.getfield 126, 3) := by decide +kernel
theorem d_X_can_46 : decode b_X_can 46 = .ok (.iload_n 1, 1) := by decide +kernel
theorem d_X_can_47 : decode b_X_can 47 = .ok (.invokestatic 56, 3) := by decide +kernel
theorem d_X_can_50 : decode b_X_can 50 = .ok (.iand, 1) := by decide +kernel
theorem d_X_can_51 : decode b_X_can 51 = .ok (.ifCond .ne 7, 3) := by decide +kernel
theorem d_X_can_54 : decode b_X_can 54 = .ok (.iload_n 2, 1) := by decide +kernel
theorem d_X_can_55 : decode b_X_can 55 = .ok (.goto 7, 3) := by decide +kernel
theorem d_X_can_58 : decode b_X_can 58 = .ok (.iload_n 2, 1) := by decide +kernel
theorem d_X_can_59 : decode b_X_can 59 = .ok (.bipush 16, 2) := by decide +kernel
theorem d_X_can_61 : decode b_X_can 61 = .ok (.ior, 1) := by decide +kernel
theorem d_X_can_62 : decode b_X_can 62 = .ok (.ireturn, 1) := by decide +kernel
theorem d_X_core_0 : decode b_X_core 0 = .ok (.iconst 0, 1) := by decide +kernel
theorem d_X_core_1 : decode b_X_core 1 = .ok (.istore_n 2, 1) := by decide +kernel
theorem d_X_core_2 : decode b_X_core 2 = .ok (.iconst 0, 1) := by decide +kernel
theorem d_X_core_3 : decode b_X_core 3 = .ok (.istore_n 3, 1) := by decide +kernel
theorem d_X_core_4 : decode b_X_core 4 = .ok (.iload_n 3, 1) := by decide +kernel
theorem d_X_core_5 : decode b_X_core 5 = .ok (.bipush 6, 2) := by decide +kernel
theorem d_X_core_7 : decode b_X_core 7 = .ok (.if_icmp .ge 31, 3) := by decide +kernel
theorem d_X_core_10 : decode b_X_core 10 = .ok (.aload_n 0, 1) := by decide +kernel
theorem d_X_core_11 : decode b_X_core 11 = .ok (.getfield 37, 3) := by decide +kernel
theorem d_X_core_14 : decode b_X_core 14 = .ok (.iload_n 3, 1) := by decide +kernel
theorem d_X_core_15 : decode b_X_core 15 = .ok (.invokestatic 129, 3) := by decide +kernel
theorem d_X_core_18 : decode b_X_core 18 = .ok (.iand, 1) := by decide +kernel
theorem d_X_core_19 : decode b_X_core 19 = .ok (.ifCond .eq 13, 3) := by decide +kernel
theorem d_X_core_22 : decode b_X_core 22 = .ok (.iload_n 2, 1) := by decide +kernel
theorem d_X_core_23 : decode b_X_core 23 = .ok (.iload_n 1, 1) := by decide +kernel
theorem d_X_core_24 : decode b_X_core 24 = .ok (.if_icmp .ne 5, 3) := by decide +kernel
theorem d_X_core_27 : decode b_X_core 27 = .ok (.iload_n 3, 1) := by decide +kernel
theorem d_X_core_28 : decode b_X_core 28 = .ok (.ireturn, 1) := by decide +kernel
theorem d_X_core_29 : decode b_X_core 29 = .ok (.iinc 2 1, 3) := by decide +kernel
theorem d_X_core_32 : decode b_X_core 32 = .ok (.iinc 3 1, 3) := by decide +kernel
theorem d_X_core_35 : decode b_X_core 35 = .ok (.goto (-31), 3) := by decide +kernel
theorem d_X_core_38 : decode b_X_core 38 = .ok (.new 132, 3) := by decide +kernel
theorem d_X_core_41 : decode b_X_core 41 = .ok (.dup, 1) := by decide +kernel
theorem d_X_core_42 : decode b_X_core 42 = .ok (.ldc 134, 2) := by decide +kernel
theorem d_X_core_44 : decode b_X_core 44 = .ok (.invokespecial 136, 3) := by decide +kernel
theorem d_X_core_47 : decode b_X_core 47 = .ok (.athrow, 1) := by decide +kernel
theorem d_X_count_0 : decode b_X_count 0 = .ok (.iload_n 1, 1) := by decide +kernel
theorem d_X_count_1 : decode b_X_count 1 = .ok (.tableswitch 106 0 6 #[43, 54, 62, 70, 78, 86, 94], 43) := by decide +kernel
theorem d_X_count_44 : decode b_X_count 44 = .ok (.aload_n 0, 1) := by decide +kernel
theorem d_X_count_45 : decode b_X_count 45 = .ok (.getfield 12, 3) := by decide +kernel
theorem d_X_count_48 : decode b_X_count 48 = .ok (.getfield 137, 3) := by decide +kernel
theorem d_X_count_51 : decode b_X_count 51 = .ok (.invokestatic 106, 3) := by decide +kernel
theorem d_X_count_54 : decode b_X_count 54 = .ok (.ireturn, 1) := by decide +kernel
theorem d_X_count_55 : decode b_X_count 55 = .ok (.aload_n 0, 1) := by decide +kernel
theorem d_X_count_56 : decode b_X_count 56 = .ok (.getfield 12, 3) := by decide +kernel
theorem d_X_count_59 : decode b_X_count 59 = .ok (.invokevirtual 140, 3) := by decide +kernel
theorem d_X_count_62 : decode b_X_count 62 = .ok (.ireturn, 1) := by decide +kernel
theorem d_X_count_63 : decode b_X_count 63 = .ok (.aload_n 0, 1) := by decide +kernel
theorem d_X_count_64 : decode b_X_count 64 = .ok (.getfield 12, 3) := by decide +kernel
theorem d_X_count_67 : decode b_X_count 67 = .ok (.getfield 143, 3) := by decide +kernel
theorem d_X_count_70 : decode b_X_count 70 = .ok (.ireturn, 1) := by decide +kernel
theorem d_X_count_71 : decode b_X_count 71 = .ok (.aload_n 0, 1) := by decide +kernel
theorem d_X_count_72 : decode b_X_count 72 = .ok (.getfield 19, 3) := by decide +kernel
theorem d_X_count_75 : decode b_X_count 75 = .ok (.getfield 146, 3) := by decide +kernel
theorem d_X_count_78 : decode b_X_count 78 = .ok (.ireturn, 1) := by decide +kernel
theorem d_X_count_79 : decode b_X_count 79 = .ok (.aload_n 0, 1) := by decide +kernel
theorem d_X_count_80 : decode b_X_count 80 = .ok (.getfield 30, 3) := by decide +kernel
theorem d_X_count_83 : decode b_X_count 83 = .ok (.invokestatic 106, 3) := by decide +kernel
theorem d_X_count_86 : decode b_X_count 86 = .ok (.ireturn, 1) := by decide +kernel
theorem d_X_count_87 : decode b_X_count 87 = .ok (.aload_n 0, 1) := by decide +kernel
theorem d_X_count_88 : decode b_X_count 88 = .ok (.getfield 34, 3) := by decide +kernel
theorem d_X_count_91 : decode b_X_count 91 = .ok (.invokestatic 106, 3) := by decide +kernel
theorem d_X_count_94 : decode b_X_count 94 = .ok (.ireturn, 1) := by decide +kernel
theorem d_X_count_95 : decode b_X_count 95 = .ok (.aload_n 0, 1) := by decide +kernel
theorem d_X_count_96 : decode b_X_count 96 = .ok (.getfield 30, 3) := by decide +kernel
theorem d_X_count_99 : decode b_X_count 99 = .ok (.aload_n 0, 1) := by decide +kernel
theorem d_X_count_100 : decode b_X_count 100 = .ok (.getfield 34, 3) := by decide +kernel
theorem d_X_count_103 : decode b_X_count 103 = .ok (.invokestatic 111, 3) := by decide +kernel
theorem d_X_count_106 : decode b_X_count 106 = .ok (.ireturn, 1) := by decide +kernel
theorem d_X_count_107 : decode b_X_count 107 = .ok (.iconst (-1), 1) := by decide +kernel
theorem d_X_count_108 : decode b_X_count 108 = .ok (.ireturn, 1) := by decide +kernel
theorem d_X_tallyChoices_0 : decode b_X_tallyChoices 0 = .ok (.aload_n 0, 1) := by decide +kernel
theorem d_X_tallyChoices_1 : decode b_X_tallyChoices 1 = .ok (.getfield 26, 3) := by decide +kernel
theorem d_X_tallyChoices_4 : decode b_X_tallyChoices 4 = .ok (.iload_n 2, 1) := by decide +kernel
theorem d_X_tallyChoices_5 : decode b_X_tallyChoices 5 = .ok (.aload_n 0, 1) := by decide +kernel
theorem d_X_tallyChoices_6 : decode b_X_tallyChoices 6 = .ok (.getfield 34, 3) := by decide +kernel
theorem d_X_tallyChoices_9 : decode b_X_tallyChoices 9 = .ok (.iload_n 3, 1) := by decide +kernel
theorem d_X_tallyChoices_10 : decode b_X_tallyChoices 10 = .ok (.invokevirtual 149, 3) := by decide +kernel
theorem d_X_tallyChoices_13 : decode b_X_tallyChoices 13 = .ok (.aload_n 0, 1) := by decide +kernel
theorem d_X_tallyChoices_14 : decode b_X_tallyChoices 14 = .ok (.getfield 19, 3) := by decide +kernel
theorem d_X_tallyChoices_17 : decode b_X_tallyChoices 17 = .ok (.aload_n 0, 1) := by decide +kernel
theorem d_X_tallyChoices_18 : decode b_X_tallyChoices 18 = .ok (.getfield 19, 3) := by decide +kernel
theorem d_X_tallyChoices_21 : decode b_X_tallyChoices 21 = .ok (.getfield 152, 3) := by decide +kernel
theorem d_X_tallyChoices_24 : decode b_X_tallyChoices 24 = .ok (.iload_n 1, 1) := by decide +kernel
theorem d_X_tallyChoices_25 : decode b_X_tallyChoices 25 = .ok (.invokevirtual 156, 3) := by decide +kernel
theorem d_X_tallyChoices_28 : decode b_X_tallyChoices 28 = .ok (.istore 4, 2) := by decide +kernel
theorem d_X_tallyChoices_30 : decode b_X_tallyChoices 30 = .ok (.aload_n 0, 1) := by decide +kernel
theorem d_X_tallyChoices_31 : decode b_X_tallyChoices 31 = .ok (.getfield 19, 3) := by decide +kernel
theorem d_X_tallyChoices_34 : decode b_X_tallyChoices 34 = .ok (.aload_n 0, 1) := by decide +kernel
theorem d_X_tallyChoices_35 : decode b_X_tallyChoices 35 = .ok (.getfield 19, 3) := by decide +kernel
theorem d_X_tallyChoices_38 : decode b_X_tallyChoices 38 = .ok (.getfield 160, 3) := by decide +kernel
theorem d_X_tallyChoices_41 : decode b_X_tallyChoices 41 = .ok (.iload_n 1, 1) := by decide +kernel
theorem d_X_tallyChoices_42 : decode b_X_tallyChoices 42 = .ok (.invokevirtual 156, 3) := by decide +kernel
theorem d_X_tallyChoices_45 : decode b_X_tallyChoices 45 = .ok (.istore 5, 2) := by decide +kernel
theorem d_X_tallyChoices_47 : decode b_X_tallyChoices 47 = .ok (.aload_n 0, 1) := by decide +kernel
theorem d_X_tallyChoices_48 : decode b_X_tallyChoices 48 = .ok (.iload 4, 2) := by decide +kernel
theorem d_X_tallyChoices_50 : decode b_X_tallyChoices 50 = .ok (.iconst 0, 1) := by decide +kernel
theorem d_X_tallyChoices_51 : decode b_X_tallyChoices 51 = .ok (.aload_n 0, 1) := by decide +kernel
theorem d_X_tallyChoices_52 : decode b_X_tallyChoices 52 = .ok (.getfield 12, 3) := by decide +kernel
theorem d_X_tallyChoices_55 : decode b_X_tallyChoices 55 = .ok (.getfield 137, 3) := by decide +kernel
theorem d_X_tallyChoices_58 : decode b_X_tallyChoices 58 = .ok (.iload 5, 2) := by decide +kernel
theorem d_X_tallyChoices_60 : decode b_X_tallyChoices 60 = .ok (.iconst (-1), 1) := by decide +kernel
theorem d_X_tallyChoices_61 : decode b_X_tallyChoices 61 = .ok (.ixor, 1) := by decide +kernel
theorem d_X_tallyChoices_62 : decode b_X_tallyChoices 62 = .ok (.iand, 1) := by decide +kernel
theorem d_X_tallyChoices_63 : decode b_X_tallyChoices 63 = .ok (.iconst 0, 1) := by decide +kernel
theorem d_X_tallyChoices_64 : decode b_X_tallyChoices 64 = .ok (.invokevirtual 163, 3) := by decide +kernel
theorem d_X_tallyChoices_67 : decode b_X_tallyChoices 67 = .ok (.return_, 1) := by decide +kernel
theorem d_X_explore_0 : decode b_X_explore 0 = .ok (.iload 4, 2) := by decide +kernel
theorem d_X_explore_2 : decode b_X_explore 2 = .ok (.bipush 7, 2) := by decide +kernel
theorem d_X_explore_4 : decode b_X_explore 4 = .ok (.if_icmp .gt 24, 3) := by decide +kernel
theorem d_X_explore_7 : decode b_X_explore 7 = .ok (.aload_n 0, 1) := by decide +kernel
theorem d_X_explore_8 : decode b_X_explore 8 = .ok (.getfield 26, 3) := by decide +kernel
theorem d_X_explore_11 : decode b_X_explore 11 = .ok (.invokevirtual 167, 3) := by decide +kernel
theorem d_X_explore_14 : decode b_X_explore 14 = .ok (.ifCond .ne 14, 3) := by decide +kernel
theorem d_X_explore_17 : decode b_X_explore 17 = .ok (.iload_n 1, 1) := by decide +kernel
theorem d_X_explore_18 : decode b_X_explore 18 = .ok (.iload_n 3, 1) := by decide +kernel
theorem d_X_explore_19 : decode b_X_explore 19 = .ok (.invokestatic 171, 3) := by decide +kernel
theorem d_X_explore_22 : decode b_X_explore 22 = .ok (.iconst (-1), 1) := by decide +kernel
theorem d_X_explore_23 : decode b_X_explore 23 = .ok (.ixor, 1) := by decide +kernel
theorem d_X_explore_24 : decode b_X_explore 24 = .ok (.iand, 1) := by decide +kernel
theorem d_X_explore_25 : decode b_X_explore 25 = .ok (.ifCond .eq 4, 3) := by decide +kernel
theorem d_X_explore_28 : decode b_X_explore 28 = .ok (.return_, 1) := by decide +kernel
theorem d_X_explore_29 : decode b_X_explore 29 = .ok (.iload_n 1, 1) := by decide +kernel
theorem d_X_explore_30 : decode b_X_explore 30 = .ok (.iload_n 2, 1) := by decide +kernel
theorem d_X_explore_31 : decode b_X_explore 31 = .ok (.iconst (-1), 1) := by decide +kernel
theorem d_X_explore_32 : decode b_X_explore 32 = .ok (.ixor, 1) := by decide +kernel
theorem d_X_explore_33 : decode b_X_explore 33 = .ok (.iand, 1) := by decide +kernel
theorem d_X_explore_34 : decode b_X_explore 34 = .ok (.istore 5, 2) := by decide +kernel
theorem d_X_explore_36 : decode b_X_explore 36 = .ok (.iload 5, 2) := by decide +kernel
theorem d_X_explore_38 : decode b_X_explore 38 = .ok (.ifCond .ne 17, 3) := by decide +kernel
theorem d_X_explore_41 : decode b_X_explore 41 = .ok (.aload_n 0, 1) := by decide +kernel
theorem d_X_explore_42 : decode b_X_explore 42 = .ok (.getfield 26, 3) := by decide +kernel
theorem d_X_explore_45 : decode b_X_explore 45 = .ok (.iload_n 3, 1) := by decide +kernel
theorem d_X_explore_46 : decode b_X_explore 46 = .ok (.iload_n 1, 1) := by decide +kernel
theorem d_X_explore_47 : decode b_X_explore 47 = .ok (.bipush 15, 2) := by decide +kernel
theorem d_X_explore_49 : decode b_X_explore 49 = .ok (.imul, 1) := by decide +kernel
theorem d_X_explore_50 : decode b_X_explore 50 = .ok (.iand, 1) := by decide +kernel
theorem d_X_explore_51 : decode b_X_explore 51 = .ok (.invokevirtual 174, 3) := by decide +kernel
theorem d_X_explore_54 : decode b_X_explore 54 = .ok (.return_, 1) := by decide +kernel
theorem d_X_explore_55 : decode b_X_explore 55 = .ok (.iload 5, 2) := by decide +kernel
theorem d_X_explore_57 : decode b_X_explore 57 = .ok (.invokestatic 178, 3) := by decide +kernel
theorem d_X_explore_60 : decode b_X_explore 60 = .ok (.istore 6, 2) := by decide +kernel
theorem d_X_explore_62 : decode b_X_explore 62 = .ok (.iload 6, 2) := by decide +kernel
theorem d_X_explore_64 : decode b_X_explore 64 = .ok (.iconst 4, 1) := by decide +kernel
theorem d_X_explore_65 : decode b_X_explore 65 = .ok (.iadd, 1) := by decide +kernel
theorem d_X_explore_66 : decode b_X_explore 66 = .ok (.bipush 28, 2) := by decide +kernel
theorem d_X_explore_68 : decode b_X_explore 68 = .ok (.invokestatic 181, 3) := by decide +kernel
theorem d_X_explore_71 : decode b_X_explore 71 = .ok (.istore 7, 2) := by decide +kernel
theorem d_X_explore_73 : decode b_X_explore 73 = .ok (.iload 6, 2) := by decide +kernel
theorem d_X_explore_75 : decode b_X_explore 75 = .ok (.istore 8, 2) := by decide +kernel
theorem d_X_explore_77 : decode b_X_explore 77 = .ok (.iload 8, 2) := by decide +kernel
theorem d_X_explore_79 : decode b_X_explore 79 = .ok (.iload 7, 2) := by decide +kernel
theorem d_X_explore_81 : decode b_X_explore 81 = .ok (.if_icmp .ge 86, 3) := by decide +kernel
theorem d_X_explore_84 : decode b_X_explore 84 = .ok (.iload_n 3, 1) := by decide +kernel
theorem d_X_explore_85 : decode b_X_explore 85 = .ok (.iload 8, 2) := by decide +kernel
theorem d_X_explore_87 : decode b_X_explore 87 = .ok (.invokestatic 117, 3) := by decide +kernel
theorem d_X_explore_90 : decode b_X_explore 90 = .ok (.ifCond .eq 71, 3) := by decide +kernel
theorem d_X_explore_93 : decode b_X_explore 93 = .ok (.bipush 15, 2) := by decide +kernel
theorem d_X_explore_95 : decode b_X_explore 95 = .ok (.iload 6, 2) := by decide +kernel
theorem d_X_explore_97 : decode b_X_explore 97 = .ok (.ishl, 1) := by decide +kernel
theorem d_X_explore_98 : decode b_X_explore 98 = .ok (.iconst 1, 1) := by decide +kernel
theorem d_X_explore_99 : decode b_X_explore 99 = .ok (.iload 8, 2) := by decide +kernel
theorem d_X_explore_101 : decode b_X_explore 101 = .ok (.ishl, 1) := by decide +kernel
theorem d_X_explore_102 : decode b_X_explore 102 = .ok (.iconst (-1), 1) := by decide +kernel
theorem d_X_explore_103 : decode b_X_explore 103 = .ok (.ixor, 1) := by decide +kernel
theorem d_X_explore_104 : decode b_X_explore 104 = .ok (.iand, 1) := by decide +kernel
theorem d_X_explore_105 : decode b_X_explore 105 = .ok (.istore 9, 2) := by decide +kernel
theorem d_X_explore_107 : decode b_X_explore 107 = .ok (.aload_n 0, 1) := by decide +kernel
theorem d_X_explore_108 : decode b_X_explore 108 = .ok (.iload_n 1, 1) := by decide +kernel
theorem d_X_explore_109 : decode b_X_explore 109 = .ok (.aload_n 0, 1) := by decide +kernel
theorem d_X_explore_110 : decode b_X_explore 110 = .ok (.getfield 12, 3) := by decide +kernel
theorem d_X_explore_113 : decode b_X_explore 113 = .ok (.getfield 186, 3) := by decide +kernel
theorem d_X_explore_116 : decode b_X_explore 116 = .ok (.iload 8, 2) := by decide +kernel
theorem d_X_explore_118 : decode b_X_explore 118 = .ok (.iaload, 1) := by decide +kernel
theorem d_X_explore_119 : decode b_X_explore 119 = .ok (.ior, 1) := by decide +kernel
theorem d_X_explore_120 : decode b_X_explore 120 = .ok (.iload_n 2, 1) := by decide +kernel
theorem d_X_explore_121 : decode b_X_explore 121 = .ok (.iconst 1, 1) := by decide +kernel
theorem d_X_explore_122 : decode b_X_explore 122 = .ok (.iload 6, 2) := by decide +kernel
theorem d_X_explore_124 : decode b_X_explore 124 = .ok (.ishl, 1) := by decide +kernel
theorem d_X_explore_125 : decode b_X_explore 125 = .ok (.ior, 1) := by decide +kernel
theorem d_X_explore_126 : decode b_X_explore 126 = .ok (.iload_n 3, 1) := by decide +kernel
theorem d_X_explore_127 : decode b_X_explore 127 = .ok (.iload 9, 2) := by decide +kernel
theorem d_X_explore_129 : decode b_X_explore 129 = .ok (.aload_n 0, 1) := by decide +kernel
theorem d_X_explore_130 : decode b_X_explore 130 = .ok (.getfield 12, 3) := by decide +kernel
theorem d_X_explore_133 : decode b_X_explore 133 = .ok (.getfield 187, 3) := by decide +kernel
theorem d_X_explore_136 : decode b_X_explore 136 = .ok (.iload 8, 2) := by decide +kernel
theorem d_X_explore_138 : decode b_X_explore 138 = .ok (.iaload, 1) := by decide +kernel
theorem d_X_explore_139 : decode b_X_explore 139 = .ok (.ior, 1) := by decide +kernel
theorem d_X_explore_140 : decode b_X_explore 140 = .ok (.aload_n 0, 1) := by decide +kernel
theorem d_X_explore_141 : decode b_X_explore 141 = .ok (.getfield 12, 3) := by decide +kernel
theorem d_X_explore_144 : decode b_X_explore 144 = .ok (.getfield 188, 3) := by decide +kernel
theorem d_X_explore_147 : decode b_X_explore 147 = .ok (.iload 8, 2) := by decide +kernel
theorem d_X_explore_149 : decode b_X_explore 149 = .ok (.iaload, 1) := by decide +kernel
theorem d_X_explore_150 : decode b_X_explore 150 = .ok (.ior, 1) := by decide +kernel
theorem d_X_explore_151 : decode b_X_explore 151 = .ok (.iconst (-1), 1) := by decide +kernel
theorem d_X_explore_152 : decode b_X_explore 152 = .ok (.ixor, 1) := by decide +kernel
theorem d_X_explore_153 : decode b_X_explore 153 = .ok (.iand, 1) := by decide +kernel
theorem d_X_explore_154 : decode b_X_explore 154 = .ok (.iload 4, 2) := by decide +kernel
theorem d_X_explore_156 : decode b_X_explore 156 = .ok (.iconst 1, 1) := by decide +kernel
theorem d_X_explore_157 : decode b_X_explore 157 = .ok (.iadd, 1) := by decide +kernel
theorem d_X_explore_158 : decode b_X_explore 158 = .ok (.invokevirtual 163, 3) := by decide +kernel
theorem d_X_explore_161 : decode b_X_explore 161 = .ok (.iinc 8 1, 3) := by decide +kernel
theorem d_X_explore_164 : decode b_X_explore 164 = .ok (.goto (-87), 3) := by decide +kernel
theorem d_X_explore_167 : decode b_X_explore 167 = .ok (.return_, 1) := by decide +kernel
theorem d_X_fewestHindering_0 : decode b_X_fewestHindering 0 = .ok (.aload_n 0, 1) := by decide +kernel
theorem d_X_fewestHindering_1 : decode b_X_fewestHindering 1 = .ok (.getfield 19, 3) := by decide +kernel
theorem d_X_fewestHindering_4 : decode b_X_fewestHindering 4 = .ok (.invokevirtual 83, 3) := by decide +kernel
theorem d_X_fewestHindering_7 : decode b_X_fewestHindering 7 = .ok (.istore_n 1, 1) := by decide +kernel
theorem d_X_fewestHindering_8 : decode b_X_fewestHindering 8 = .ok (.iconst 1, 1) := by decide +kernel
theorem d_X_fewestHindering_9 : decode b_X_fewestHindering 9 = .ok (.istore_n 2, 1) := by decide +kernel
theorem d_X_fewestHindering_10 : decode b_X_fewestHindering 10 = .ok (.iload_n 2, 1) := by decide +kernel
theorem d_X_fewestHindering_11 : decode b_X_fewestHindering 11 = .ok (.bipush 6, 2) := by decide +kernel
theorem d_X_fewestHindering_13 : decode b_X_fewestHindering 13 = .ok (.if_icmp .gt 47, 3) := by decide +kernel
theorem d_X_fewestHindering_16 : decode b_X_fewestHindering 16 = .ok (.iload_n 1, 1) := by decide +kernel
theorem d_X_fewestHindering_17 : decode b_X_fewestHindering 17 = .ok (.istore_n 3, 1) := by decide +kernel
theorem d_X_fewestHindering_18 : decode b_X_fewestHindering 18 = .ok (.iload_n 3, 1) := by decide +kernel
theorem d_X_fewestHindering_19 : decode b_X_fewestHindering 19 = .ok (.ifCond .le 35, 3) := by decide +kernel
theorem d_X_fewestHindering_22 : decode b_X_fewestHindering 22 = .ok (.iload_n 3, 1) := by decide +kernel
theorem d_X_fewestHindering_23 : decode b_X_fewestHindering 23 = .ok (.iload_n 1, 1) := by decide +kernel
theorem d_X_fewestHindering_24 : decode b_X_fewestHindering 24 = .ok (.iconst (-1), 1) := by decide +kernel
theorem d_X_fewestHindering_25 : decode b_X_fewestHindering 25 = .ok (.ixor, 1) := by decide +kernel
theorem d_X_fewestHindering_26 : decode b_X_fewestHindering 26 = .ok (.iand, 1) := by decide +kernel
theorem d_X_fewestHindering_27 : decode b_X_fewestHindering 27 = .ok (.ifCond .ne 21, 3) := by decide +kernel
theorem d_X_fewestHindering_30 : decode b_X_fewestHindering 30 = .ok (.iload_n 3, 1) := by decide +kernel
theorem d_X_fewestHindering_31 : decode b_X_fewestHindering 31 = .ok (.invokestatic 106, 3) := by decide +kernel
theorem d_X_fewestHindering_34 : decode b_X_fewestHindering 34 = .ok (.iload_n 2, 1) := by decide +kernel
theorem d_X_fewestHindering_35 : decode b_X_fewestHindering 35 = .ok (.if_icmp .ne 13, 3) := by decide +kernel
theorem d_X_fewestHindering_38 : decode b_X_fewestHindering 38 = .ok (.aload_n 0, 1) := by decide +kernel
theorem d_X_fewestHindering_39 : decode b_X_fewestHindering 39 = .ok (.iload_n 3, 1) := by decide +kernel
theorem d_X_fewestHindering_40 : decode b_X_fewestHindering 40 = .ok (.invokevirtual 191, 3) := by decide +kernel
theorem d_X_fewestHindering_43 : decode b_X_fewestHindering 43 = .ok (.ifCond .ne 5, 3) := by decide +kernel
theorem d_X_fewestHindering_46 : decode b_X_fewestHindering 46 = .ok (.iload_n 3, 1) := by decide +kernel
theorem d_X_fewestHindering_47 : decode b_X_fewestHindering 47 = .ok (.ireturn, 1) := by decide +kernel
theorem d_X_fewestHindering_48 : decode b_X_fewestHindering 48 = .ok (.iinc 3 (-1), 3) := by decide +kernel
theorem d_X_fewestHindering_51 : decode b_X_fewestHindering 51 = .ok (.goto (-33), 3) := by decide +kernel
theorem d_X_fewestHindering_54 : decode b_X_fewestHindering 54 = .ok (.iinc 2 1, 3) := by decide +kernel
theorem d_X_fewestHindering_57 : decode b_X_fewestHindering 57 = .ok (.goto (-47), 3) := by decide +kernel
theorem d_X_fewestHindering_60 : decode b_X_fewestHindering 60 = .ok (.iconst 0, 1) := by decide +kernel
theorem d_X_fewestHindering_61 : decode b_X_fewestHindering 61 = .ok (.ireturn, 1) := by decide +kernel
theorem d_X_hasChoice_0 : decode b_X_hasChoice 0 = .ok (.aload_n 0, 1) := by decide +kernel
theorem d_X_hasChoice_1 : decode b_X_hasChoice 1 = .ok (.iload_n 1, 1) := by decide +kernel
theorem d_X_hasChoice_2 : decode b_X_hasChoice 2 = .ok (.iconst 0, 1) := by decide +kernel
theorem d_X_hasChoice_3 : decode b_X_hasChoice 3 = .ok (.iconst 1, 1) := by decide +kernel
theorem d_X_hasChoice_4 : decode b_X_hasChoice 4 = .ok (.invokevirtual 88, 3) := by decide +kernel
theorem d_X_hasChoice_7 : decode b_X_hasChoice 7 = .ok (.aload_n 0, 1) := by decide +kernel
theorem d_X_hasChoice_8 : decode b_X_hasChoice 8 = .ok (.getfield 26, 3) := by decide +kernel
theorem d_X_hasChoice_11 : decode b_X_hasChoice 11 = .ok (.getfield 92, 3) := by decide +kernel
theorem d_X_hasChoice_14 : decode b_X_hasChoice 14 = .ok (.ifCond .le 7, 3) := by decide +kernel
theorem d_X_hasChoice_17 : decode b_X_hasChoice 17 = .ok (.iconst 1, 1) := by decide +kernel
theorem d_X_hasChoice_18 : decode b_X_hasChoice 18 = .ok (.goto 4, 3) := by decide +kernel
theorem d_X_hasChoice_21 : decode b_X_hasChoice 21 = .ok (.iconst 0, 1) := by decide +kernel
theorem d_X_hasChoice_22 : decode b_X_hasChoice 22 = .ok (.ireturn, 1) := by decide +kernel
theorem d_X_isPackage_0 : decode b_X_isPackage 0 = .ok (.iload_n 0, 1) := by decide +kernel
theorem d_X_isPackage_1 : decode b_X_isPackage 1 = .ok (.ifCond .lt 13, 3) := by decide +kernel
theorem d_X_isPackage_4 : decode b_X_isPackage 4 = .ok (.iload_n 0, 1) := by decide +kernel
theorem d_X_isPackage_5 : decode b_X_isPackage 5 = .ok (.bipush 7, 2) := by decide +kernel
theorem d_X_isPackage_7 : decode b_X_isPackage 7 = .ok (.if_icmp .ge 7, 3) := by decide +kernel
theorem d_X_isPackage_10 : decode b_X_isPackage 10 = .ok (.iconst 1, 1) := by decide +kernel
theorem d_X_isPackage_11 : decode b_X_isPackage 11 = .ok (.goto 4, 3) := by decide +kernel
theorem d_X_isPackage_14 : decode b_X_isPackage 14 = .ok (.iconst 0, 1) := by decide +kernel
theorem d_X_isPackage_15 : decode b_X_isPackage 15 = .ok (.ireturn, 1) := by decide +kernel
theorem d_X_isVersion_0 : decode b_X_isVersion 0 = .ok (.iload_n 0, 1) := by decide +kernel
theorem d_X_isVersion_1 : decode b_X_isVersion 1 = .ok (.invokestatic 114, 3) := by decide +kernel
theorem d_X_isVersion_4 : decode b_X_isVersion 4 = .ok (.ifCond .eq 16, 3) := by decide +kernel
theorem d_X_isVersion_7 : decode b_X_isVersion 7 = .ok (.iload_n 1, 1) := by decide +kernel
theorem d_X_isVersion_8 : decode b_X_isVersion 8 = .ok (.ifCond .lt 12, 3) := by decide +kernel
theorem d_X_isVersion_11 : decode b_X_isVersion 11 = .ok (.iload_n 1, 1) := by decide +kernel
theorem d_X_isVersion_12 : decode b_X_isVersion 12 = .ok (.iconst 4, 1) := by decide +kernel
theorem d_X_isVersion_13 : decode b_X_isVersion 13 = .ok (.if_icmp .ge 7, 3) := by decide +kernel
theorem d_X_isVersion_16 : decode b_X_isVersion 16 = .ok (.iconst 1, 1) := by decide +kernel
theorem d_X_isVersion_17 : decode b_X_isVersion 17 = .ok (.goto 4, 3) := by decide +kernel
theorem d_X_isVersion_20 : decode b_X_isVersion 20 = .ok (.iconst 0, 1) := by decide +kernel
theorem d_X_isVersion_21 : decode b_X_isVersion 21 = .ok (.ireturn, 1) := by decide +kernel
theorem d_X_isNeed_0 : decode b_X_isNeed 0 = .ok (.iload_n 0, 1) := by decide +kernel
theorem d_X_isNeed_1 : decode b_X_isNeed 1 = .ok (.iload_n 1, 1) := by decide +kernel
theorem d_X_isNeed_2 : decode b_X_isNeed 2 = .ok (.invokestatic 40, 3) := by decide +kernel
theorem d_X_isNeed_5 : decode b_X_isNeed 5 = .ok (.ifCond .eq 20, 3) := by decide +kernel
theorem d_X_isNeed_8 : decode b_X_isNeed 8 = .ok (.iload_n 0, 1) := by decide +kernel
theorem d_X_isNeed_9 : decode b_X_isNeed 9 = .ok (.iload_n 2, 1) := by decide +kernel
theorem d_X_isNeed_10 : decode b_X_isNeed 10 = .ok (.invokestatic 40, 3) := by decide +kernel
theorem d_X_isNeed_13 : decode b_X_isNeed 13 = .ok (.ifCond .eq 12, 3) := by decide +kernel
theorem d_X_isNeed_16 : decode b_X_isNeed 16 = .ok (.iload_n 1, 1) := by decide +kernel
theorem d_X_isNeed_17 : decode b_X_isNeed 17 = .ok (.iload_n 2, 1) := by decide +kernel
theorem d_X_isNeed_18 : decode b_X_isNeed 18 = .ok (.if_icmp .gt 7, 3) := by decide +kernel
theorem d_X_isNeed_21 : decode b_X_isNeed 21 = .ok (.iconst 1, 1) := by decide +kernel
theorem d_X_isNeed_22 : decode b_X_isNeed 22 = .ok (.goto 4, 3) := by decide +kernel
theorem d_X_isNeed_25 : decode b_X_isNeed 25 = .ok (.iconst 0, 1) := by decide +kernel
theorem d_X_isNeed_26 : decode b_X_isNeed 26 = .ok (.ireturn, 1) := by decide +kernel
theorem d_X_isSlot_0 : decode b_X_isSlot 0 = .ok (.iload_n 0, 1) := by decide +kernel
theorem d_X_isSlot_1 : decode b_X_isSlot 1 = .ok (.ifCond .lt 13, 3) := by decide +kernel
theorem d_X_isSlot_4 : decode b_X_isSlot 4 = .ok (.iload_n 0, 1) := by decide +kernel
theorem d_X_isSlot_5 : decode b_X_isSlot 5 = .ok (.bipush 28, 2) := by decide +kernel
theorem d_X_isSlot_7 : decode b_X_isSlot 7 = .ok (.if_icmp .ge 7, 3) := by decide +kernel
theorem d_X_isSlot_10 : decode b_X_isSlot 10 = .ok (.iconst 1, 1) := by decide +kernel
theorem d_X_isSlot_11 : decode b_X_isSlot 11 = .ok (.goto 4, 3) := by decide +kernel
theorem d_X_isSlot_14 : decode b_X_isSlot 14 = .ok (.iconst 0, 1) := by decide +kernel
theorem d_X_isSlot_15 : decode b_X_isSlot 15 = .ok (.ireturn, 1) := by decide +kernel
theorem d_X_placeOf_0 : decode b_X_placeOf 0 = .ok (.bipush 6, 2) := by decide +kernel
theorem d_X_placeOf_2 : decode b_X_placeOf 2 = .ok (.iload_n 0, 1) := by decide +kernel
theorem d_X_placeOf_3 : decode b_X_placeOf 3 = .ok (.isub, 1) := by decide +kernel
theorem d_X_placeOf_4 : decode b_X_placeOf 4 = .ok (.iconst 4, 1) := by decide +kernel
theorem d_X_placeOf_5 : decode b_X_placeOf 5 = .ok (.imul, 1) := by decide +kernel
theorem d_X_placeOf_6 : decode b_X_placeOf 6 = .ok (.ireturn, 1) := by decide +kernel
theorem d_X_slotOf_0 : decode b_X_slotOf 0 = .ok (.iload_n 0, 1) := by decide +kernel
theorem d_X_slotOf_1 : decode b_X_slotOf 1 = .ok (.invokestatic 123, 3) := by decide +kernel
theorem d_X_slotOf_4 : decode b_X_slotOf 4 = .ok (.iload_n 1, 1) := by decide +kernel
theorem d_X_slotOf_5 : decode b_X_slotOf 5 = .ok (.iadd, 1) := by decide +kernel
theorem d_X_slotOf_6 : decode b_X_slotOf 6 = .ok (.ireturn, 1) := by decide +kernel
theorem d_X_markOf_0 : decode b_X_markOf 0 = .ok (.iconst 1, 1) := by decide +kernel
theorem d_X_markOf_1 : decode b_X_markOf 1 = .ok (.iload_n 0, 1) := by decide +kernel
theorem d_X_markOf_2 : decode b_X_markOf 2 = .ok (.invokestatic 123, 3) := by decide +kernel
theorem d_X_markOf_5 : decode b_X_markOf 5 = .ok (.ishl, 1) := by decide +kernel
theorem d_X_markOf_6 : decode b_X_markOf 6 = .ok (.ireturn, 1) := by decide +kernel
theorem d_X_wishBit_0 : decode b_X_wishBit 0 = .ok (.iconst 1, 1) := by decide +kernel
theorem d_X_wishBit_1 : decode b_X_wishBit 1 = .ok (.iconst 5, 1) := by decide +kernel
theorem d_X_wishBit_2 : decode b_X_wishBit 2 = .ok (.iload_n 0, 1) := by decide +kernel
theorem d_X_wishBit_3 : decode b_X_wishBit 3 = .ok (.isub, 1) := by decide +kernel
theorem d_X_wishBit_4 : decode b_X_wishBit 4 = .ok (.ishl, 1) := by decide +kernel
theorem d_X_wishBit_5 : decode b_X_wishBit 5 = .ok (.ireturn, 1) := by decide +kernel
theorem d_X_holds_0 : decode b_X_holds 0 = .ok (.iload_n 0, 1) := by decide +kernel
theorem d_X_holds_1 : decode b_X_holds 1 = .ok (.iconst 1, 1) := by decide +kernel
theorem d_X_holds_2 : decode b_X_holds 2 = .ok (.iload_n 1, 1) := by decide +kernel
theorem d_X_holds_3 : decode b_X_holds 3 = .ok (.ishl, 1) := by decide +kernel
theorem d_X_holds_4 : decode b_X_holds 4 = .ok (.iand, 1) := by decide +kernel
theorem d_X_holds_5 : decode b_X_holds 5 = .ok (.ifCond .eq 7, 3) := by decide +kernel
theorem d_X_holds_8 : decode b_X_holds 8 = .ok (.iconst 1, 1) := by decide +kernel
theorem d_X_holds_9 : decode b_X_holds 9 = .ok (.goto 4, 3) := by decide +kernel
theorem d_X_holds_12 : decode b_X_holds 12 = .ok (.iconst 0, 1) := by decide +kernel
theorem d_X_holds_13 : decode b_X_holds 13 = .ok (.ireturn, 1) := by decide +kernel
theorem d_X_outside_0 : decode b_X_outside 0 = .ok (.iconst 1, 1) := by decide +kernel
theorem d_X_outside_1 : decode b_X_outside 1 = .ok (.iload_n 2, 1) := by decide +kernel
theorem d_X_outside_2 : decode b_X_outside 2 = .ok (.iconst 1, 1) := by decide +kernel
theorem d_X_outside_3 : decode b_X_outside 3 = .ok (.iadd, 1) := by decide +kernel
theorem d_X_outside_4 : decode b_X_outside 4 = .ok (.ishl, 1) := by decide +kernel
theorem d_X_outside_5 : decode b_X_outside 5 = .ok (.iconst 1, 1) := by decide +kernel
theorem d_X_outside_6 : decode b_X_outside 6 = .ok (.iload_n 1, 1) := by decide +kernel
theorem d_X_outside_7 : decode b_X_outside 7 = .ok (.ishl, 1) := by decide +kernel
theorem d_X_outside_8 : decode b_X_outside 8 = .ok (.isub, 1) := by decide +kernel
theorem d_X_outside_9 : decode b_X_outside 9 = .ok (.istore_n 3, 1) := by decide +kernel
theorem d_X_outside_10 : decode b_X_outside 10 = .ok (.bipush 15, 2) := by decide +kernel
theorem d_X_outside_12 : decode b_X_outside 12 = .ok (.iload_n 3, 1) := by decide +kernel
theorem d_X_outside_13 : decode b_X_outside 13 = .ok (.iconst (-1), 1) := by decide +kernel
theorem d_X_outside_14 : decode b_X_outside 14 = .ok (.ixor, 1) := by decide +kernel
theorem d_X_outside_15 : decode b_X_outside 15 = .ok (.iand, 1) := by decide +kernel
theorem d_X_outside_16 : decode b_X_outside 16 = .ok (.iload_n 0, 1) := by decide +kernel
theorem d_X_outside_17 : decode b_X_outside 17 = .ok (.invokestatic 123, 3) := by decide +kernel
theorem d_X_outside_20 : decode b_X_outside 20 = .ok (.ishl, 1) := by decide +kernel
theorem d_X_outside_21 : decode b_X_outside 21 = .ok (.ireturn, 1) := by decide +kernel
theorem d_X_marksOf_0 : decode b_X_marksOf 0 = .ok (.iload_n 0, 1) := by decide +kernel
theorem d_X_marksOf_1 : decode b_X_marksOf 1 = .ok (.iload_n 0, 1) := by decide +kernel
theorem d_X_marksOf_2 : decode b_X_marksOf 2 = .ok (.iconst 1, 1) := by decide +kernel
theorem d_X_marksOf_3 : decode b_X_marksOf 3 = .ok (.ishr, 1) := by decide +kernel
theorem d_X_marksOf_4 : decode b_X_marksOf 4 = .ok (.ior, 1) := by decide +kernel
theorem d_X_marksOf_5 : decode b_X_marksOf 5 = .ok (.iload_n 0, 1) := by decide +kernel
theorem d_X_marksOf_6 : decode b_X_marksOf 6 = .ok (.iconst 2, 1) := by decide +kernel
theorem d_X_marksOf_7 : decode b_X_marksOf 7 = .ok (.ishr, 1) := by decide +kernel
theorem d_X_marksOf_8 : decode b_X_marksOf 8 = .ok (.ior, 1) := by decide +kernel
theorem d_X_marksOf_9 : decode b_X_marksOf 9 = .ok (.iload_n 0, 1) := by decide +kernel
theorem d_X_marksOf_10 : decode b_X_marksOf 10 = .ok (.iconst 3, 1) := by decide +kernel
theorem d_X_marksOf_11 : decode b_X_marksOf 11 = .ok (.ishr, 1) := by decide +kernel
theorem d_X_marksOf_12 : decode b_X_marksOf 12 = .ok (.ior, 1) := by decide +kernel
theorem d_X_marksOf_13 : decode b_X_marksOf 13 = .ok (.ldc 194, 2) := by decide +kernel
theorem d_X_marksOf_15 : decode b_X_marksOf 15 = .ok (.iand, 1) := by decide +kernel
theorem d_X_marksOf_16 : decode b_X_marksOf 16 = .ok (.ireturn, 1) := by decide +kernel
theorem d_X_differing_0 : decode b_X_differing 0 = .ok (.iload_n 0, 1) := by decide +kernel
theorem d_X_differing_1 : decode b_X_differing 1 = .ok (.iload_n 1, 1) := by decide +kernel
theorem d_X_differing_2 : decode b_X_differing 2 = .ok (.ixor, 1) := by decide +kernel
theorem d_X_differing_3 : decode b_X_differing 3 = .ok (.invokestatic 171, 3) := by decide +kernel
theorem d_X_differing_6 : decode b_X_differing 6 = .ok (.invokestatic 106, 3) := by decide +kernel
theorem d_X_differing_9 : decode b_X_differing 9 = .ok (.ireturn, 1) := by decide +kernel
theorem d_X_lowestPlace_0 : decode b_X_lowestPlace 0 = .ok (.iload_n 0, 1) := by decide +kernel
theorem d_X_lowestPlace_1 : decode b_X_lowestPlace 1 = .ok (.iload_n 0, 1) := by decide +kernel
theorem d_X_lowestPlace_2 : decode b_X_lowestPlace 2 = .ok (.ineg, 1) := by decide +kernel
theorem d_X_lowestPlace_3 : decode b_X_lowestPlace 3 = .ok (.iand, 1) := by decide +kernel
theorem d_X_lowestPlace_4 : decode b_X_lowestPlace 4 = .ok (.iconst 1, 1) := by decide +kernel
theorem d_X_lowestPlace_5 : decode b_X_lowestPlace 5 = .ok (.isub, 1) := by decide +kernel
theorem d_X_lowestPlace_6 : decode b_X_lowestPlace 6 = .ok (.invokestatic 106, 3) := by decide +kernel
theorem d_X_lowestPlace_9 : decode b_X_lowestPlace 9 = .ok (.ireturn, 1) := by decide +kernel
