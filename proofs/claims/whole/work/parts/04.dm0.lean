theorem d_M_init_0 : decode b_M_init 0 = .ok (.aload_n 0, 1) := by decide +kernel
theorem d_M_init_1 : decode b_M_init 1 = .ok (.invokespecial 1, 3) := by decide +kernel
theorem d_M_init_4 : decode b_M_init 4 = .ok (.aload_n 0, 1) := by decide +kernel
theorem d_M_init_5 : decode b_M_init 5 = .ok (.bipush 28, 2) := by decide +kernel
theorem d_M_init_7 : decode b_M_init 7 = .ok (.newarray .boolean, 2) := by decide +kernel
theorem d_M_init_9 : decode b_M_init 9 = .ok (.putfield 7, 3) := by decide +kernel
theorem d_M_init_12 : decode b_M_init 12 = .ok (.aload_n 0, 1) := by decide +kernel
theorem d_M_init_13 : decode b_M_init 13 = .ok (.bipush 28, 2) := by decide +kernel
theorem d_M_init_15 : decode b_M_init 15 = .ok (.newarray .int, 2) := by decide +kernel
theorem d_M_init_17 : decode b_M_init 17 = .ok (.putfield 13, 3) := by decide +kernel
theorem d_M_init_20 : decode b_M_init 20 = .ok (.aload_n 0, 1) := by decide +kernel
theorem d_M_init_21 : decode b_M_init 21 = .ok (.bipush 112, 2) := by decide +kernel
theorem d_M_init_23 : decode b_M_init 23 = .ok (.newarray .int, 2) := by decide +kernel
theorem d_M_init_25 : decode b_M_init 25 = .ok (.putfield 17, 3) := by decide +kernel
theorem d_M_init_28 : decode b_M_init 28 = .ok (.aload_n 0, 1) := by decide +kernel
theorem d_M_init_29 : decode b_M_init 29 = .ok (.bipush 112, 2) := by decide +kernel
theorem d_M_init_31 : decode b_M_init 31 = .ok (.newarray .int, 2) := by decide +kernel
theorem d_M_init_33 : decode b_M_init 33 = .ok (.putfield 20, 3) := by decide +kernel
theorem d_M_init_36 : decode b_M_init 36 = .ok (.aload_n 0, 1) := by decide +kernel
theorem d_M_init_37 : decode b_M_init 37 = .ok (.bipush 112, 2) := by decide +kernel
theorem d_M_init_39 : decode b_M_init 39 = .ok (.newarray .int, 2) := by decide +kernel
theorem d_M_init_41 : decode b_M_init 41 = .ok (.putfield 23, 3) := by decide +kernel
theorem d_M_init_44 : decode b_M_init 44 = .ok (.aload_n 0, 1) := by decide +kernel
theorem d_M_init_45 : decode b_M_init 45 = .ok (.bipush 6, 2) := by decide +kernel
theorem d_M_init_47 : decode b_M_init 47 = .ok (.newarray .int, 2) := by decide +kernel
theorem d_M_init_49 : decode b_M_init 49 = .ok (.putfield 26, 3) := by decide +kernel
theorem d_M_init_52 : decode b_M_init 52 = .ok (.aload_n 0, 1) := by decide +kernel
theorem d_M_init_53 : decode b_M_init 53 = .ok (.bipush 6, 2) := by decide +kernel
theorem d_M_init_55 : decode b_M_init 55 = .ok (.newarray .int, 2) := by decide +kernel
theorem d_M_init_57 : decode b_M_init 57 = .ok (.putfield 29, 3) := by decide +kernel
theorem d_M_init_60 : decode b_M_init 60 = .ok (.aload_n 0, 1) := by decide +kernel
theorem d_M_init_61 : decode b_M_init 61 = .ok (.bipush 6, 2) := by decide +kernel
theorem d_M_init_63 : decode b_M_init 63 = .ok (.newarray .int, 2) := by decide +kernel
theorem d_M_init_65 : decode b_M_init 65 = .ok (.putfield 32, 3) := by decide +kernel
theorem d_M_init_68 : decode b_M_init 68 = .ok (.aload_n 0, 1) := by decide +kernel
theorem d_M_init_69 : decode b_M_init 69 = .ok (.bipush 16, 2) := by decide +kernel
theorem d_M_init_71 : decode b_M_init 71 = .ok (.newarray .int, 2) := by decide +kernel
theorem d_M_init_73 : decode b_M_init 73 = .ok (.putfield 35, 3) := by decide +kernel
theorem d_M_init_76 : decode b_M_init 76 = .ok (.aload_n 0, 1) := by decide +kernel
theorem d_M_init_77 : decode b_M_init 77 = .ok (.bipush 16, 2) := by decide +kernel
theorem d_M_init_79 : decode b_M_init 79 = .ok (.newarray .int, 2) := by decide +kernel
theorem d_M_init_81 : decode b_M_init 81 = .ok (.putfield 38, 3) := by decide +kernel
theorem d_M_init_84 : decode b_M_init 84 = .ok (.aload_n 0, 1) := by decide +kernel
theorem d_M_init_85 : decode b_M_init 85 = .ok (.bipush 7, 2) := by decide +kernel
theorem d_M_init_87 : decode b_M_init 87 = .ok (.newarray .int, 2) := by decide +kernel
theorem d_M_init_89 : decode b_M_init 89 = .ok (.putfield 41, 3) := by decide +kernel
theorem d_M_init_92 : decode b_M_init 92 = .ok (.aload_n 0, 1) := by decide +kernel
theorem d_M_init_93 : decode b_M_init 93 = .ok (.bipush 7, 2) := by decide +kernel
theorem d_M_init_95 : decode b_M_init 95 = .ok (.newarray .boolean, 2) := by decide +kernel
theorem d_M_init_97 : decode b_M_init 97 = .ok (.putfield 44, 3) := by decide +kernel
theorem d_M_init_100 : decode b_M_init 100 = .ok (.aload_n 0, 1) := by decide +kernel
theorem d_M_init_101 : decode b_M_init 101 = .ok (.bipush 7, 2) := by decide +kernel
theorem d_M_init_103 : decode b_M_init 103 = .ok (.newarray .int, 2) := by decide +kernel
theorem d_M_init_105 : decode b_M_init 105 = .ok (.putfield 47, 3) := by decide +kernel
theorem d_M_init_108 : decode b_M_init 108 = .ok (.aload_n 0, 1) := by decide +kernel
theorem d_M_init_109 : decode b_M_init 109 = .ok (.bipush 7, 2) := by decide +kernel
theorem d_M_init_111 : decode b_M_init 111 = .ok (.newarray .int, 2) := by decide +kernel
theorem d_M_init_113 : decode b_M_init 113 = .ok (.putfield 50, 3) := by decide +kernel
theorem d_M_init_116 : decode b_M_init 116 = .ok (.aload_n 0, 1) := by decide +kernel
theorem d_M_init_117 : decode b_M_init 117 = .ok (.bipush 7, 2) := by decide +kernel
theorem d_M_init_119 : decode b_M_init 119 = .ok (.newarray .int, 2) := by decide +kernel
theorem d_M_init_121 : decode b_M_init 121 = .ok (.putfield 53, 3) := by decide +kernel
theorem d_M_init_124 : decode b_M_init 124 = .ok (.iconst 0, 1) := by decide +kernel
theorem d_M_init_125 : decode b_M_init 125 = .ok (.istore_n 1, 1) := by decide +kernel
theorem d_M_init_126 : decode b_M_init 126 = .ok (.iload_n 1, 1) := by decide +kernel
theorem d_M_init_127 : decode b_M_init 127 = .ok (.bipush 7, 2) := by decide +kernel
theorem d_M_init_129 : decode b_M_init 129 = .ok (.if_icmp .ge 23, 3) := by decide +kernel
theorem d_M_init_132 : decode b_M_init 132 = .ok (.aload_n 0, 1) := by decide +kernel
theorem d_M_init_133 : decode b_M_init 133 = .ok (.getfield 47, 3) := by decide +kernel
theorem d_M_init_136 : decode b_M_init 136 = .ok (.iload_n 1, 1) := by decide +kernel
theorem d_M_init_137 : decode b_M_init 137 = .ok (.iconst (-1), 1) := by decide +kernel
theorem d_M_init_138 : decode b_M_init 138 = .ok (.iastore, 1) := by decide +kernel
theorem d_M_init_139 : decode b_M_init 139 = .ok (.aload_n 0, 1) := by decide +kernel
theorem d_M_init_140 : decode b_M_init 140 = .ok (.getfield 50, 3) := by decide +kernel
theorem d_M_init_143 : decode b_M_init 143 = .ok (.iload_n 1, 1) := by decide +kernel
theorem d_M_init_144 : decode b_M_init 144 = .ok (.iconst (-1), 1) := by decide +kernel
theorem d_M_init_145 : decode b_M_init 145 = .ok (.iastore, 1) := by decide +kernel
theorem d_M_init_146 : decode b_M_init 146 = .ok (.iinc 1 1, 3) := by decide +kernel
theorem d_M_init_149 : decode b_M_init 149 = .ok (.goto (-23), 3) := by decide +kernel
theorem d_M_init_152 : decode b_M_init 152 = .ok (.return_, 1) := by decide +kernel
theorem d_M_thrown_0 : decode b_M_thrown 0 = .ok (.aload_n 0, 1) := by decide +kernel
theorem d_M_thrown_1 : decode b_M_thrown 1 = .ok (.getfield 56, 3) := by decide +kernel
theorem d_M_thrown_4 : decode b_M_thrown 4 = .ok (.ireturn, 1) := by decide +kernel
theorem d_M_raise_0 : decode b_M_raise 0 = .ok (.aload_n 0, 1) := by decide +kernel
theorem d_M_raise_1 : decode b_M_raise 1 = .ok (.iload_n 1, 1) := by decide +kernel
theorem d_M_raise_2 : decode b_M_raise 2 = .ok (.putfield 56, 3) := by decide +kernel
theorem d_M_raise_5 : decode b_M_raise 5 = .ok (.iconst 0, 1) := by decide +kernel
theorem d_M_raise_6 : decode b_M_raise 6 = .ok (.ireturn, 1) := by decide +kernel
theorem d_M_isPackage_0 : decode b_M_isPackage 0 = .ok (.iload_n 0, 1) := by decide +kernel
theorem d_M_isPackage_1 : decode b_M_isPackage 1 = .ok (.ifCond .lt 13, 3) := by decide +kernel
theorem d_M_isPackage_4 : decode b_M_isPackage 4 = .ok (.iload_n 0, 1) := by decide +kernel
theorem d_M_isPackage_5 : decode b_M_isPackage 5 = .ok (.bipush 7, 2) := by decide +kernel
theorem d_M_isPackage_7 : decode b_M_isPackage 7 = .ok (.if_icmp .ge 7, 3) := by decide +kernel
theorem d_M_isPackage_10 : decode b_M_isPackage 10 = .ok (.iconst 1, 1) := by decide +kernel
theorem d_M_isPackage_11 : decode b_M_isPackage 11 = .ok (.goto 4, 3) := by decide +kernel
theorem d_M_isPackage_14 : decode b_M_isPackage 14 = .ok (.iconst 0, 1) := by decide +kernel
theorem d_M_isPackage_15 : decode b_M_isPackage 15 = .ok (.ireturn, 1) := by decide +kernel
theorem d_M_isVersion_0 : decode b_M_isVersion 0 = .ok (.iload_n 0, 1) := by decide +kernel
theorem d_M_isVersion_1 : decode b_M_isVersion 1 = .ok (.invokestatic 60, 3) := by decide +kernel
theorem d_M_isVersion_4 : decode b_M_isVersion 4 = .ok (.ifCond .eq 16, 3) := by decide +kernel
theorem d_M_isVersion_7 : decode b_M_isVersion 7 = .ok (.iload_n 1, 1) := by decide +kernel
theorem d_M_isVersion_8 : decode b_M_isVersion 8 = .ok (.ifCond .lt 12, 3) := by decide +kernel
theorem d_M_isVersion_11 : decode b_M_isVersion 11 = .ok (.iload_n 1, 1) := by decide +kernel
theorem d_M_isVersion_12 : decode b_M_isVersion 12 = .ok (.iconst 4, 1) := by decide +kernel
theorem d_M_isVersion_13 : decode b_M_isVersion 13 = .ok (.if_icmp .ge 7, 3) := by decide +kernel
theorem d_M_isVersion_16 : decode b_M_isVersion 16 = .ok (.iconst 1, 1) := by decide +kernel
theorem d_M_isVersion_17 : decode b_M_isVersion 17 = .ok (.goto 4, 3) := by decide +kernel
theorem d_M_isVersion_20 : decode b_M_isVersion 20 = .ok (.iconst 0, 1) := by decide +kernel
theorem d_M_isVersion_21 : decode b_M_isVersion 21 = .ok (.ireturn, 1) := by decide +kernel
theorem d_M_isNeed_0 : decode b_M_isNeed 0 = .ok (.iload_n 0, 1) := by decide +kernel
theorem d_M_isNeed_1 : decode b_M_isNeed 1 = .ok (.invokestatic 60, 3) := by decide +kernel
theorem d_M_isNeed_4 : decode b_M_isNeed 4 = .ok (.ifCond .eq 21, 3) := by decide +kernel
theorem d_M_isNeed_7 : decode b_M_isNeed 7 = .ok (.iload_n 1, 1) := by decide +kernel
theorem d_M_isNeed_8 : decode b_M_isNeed 8 = .ok (.ifCond .lt 17, 3) := by decide +kernel
theorem d_M_isNeed_11 : decode b_M_isNeed 11 = .ok (.iload_n 2, 1) := by decide +kernel
theorem d_M_isNeed_12 : decode b_M_isNeed 12 = .ok (.iconst 4, 1) := by decide +kernel
theorem d_M_isNeed_13 : decode b_M_isNeed 13 = .ok (.if_icmp .ge 12, 3) := by decide +kernel
theorem d_M_isNeed_16 : decode b_M_isNeed 16 = .ok (.iload_n 1, 1) := by decide +kernel
theorem d_M_isNeed_17 : decode b_M_isNeed 17 = .ok (.iload_n 2, 1) := by decide +kernel
theorem d_M_isNeed_18 : decode b_M_isNeed 18 = .ok (.if_icmp .gt 7, 3) := by decide +kernel
theorem d_M_isNeed_21 : decode b_M_isNeed 21 = .ok (.iconst 1, 1) := by decide +kernel
theorem d_M_isNeed_22 : decode b_M_isNeed 22 = .ok (.goto 4, 3) := by decide +kernel
theorem d_M_isNeed_25 : decode b_M_isNeed 25 = .ok (.iconst 0, 1) := by decide +kernel
theorem d_M_isNeed_26 : decode b_M_isNeed 26 = .ok (.ireturn, 1) := by decide +kernel
theorem d_M_version_0 : decode b_M_version 0 = .ok (.aload_n 0, 1) := by decide +kernel
theorem d_M_version_1 : decode b_M_version 1 = .ok (.iconst 0, 1) := by decide +kernel
theorem d_M_version_2 : decode b_M_version 2 = .ok (.putfield 56, 3) := by decide +kernel
theorem d_M_version_5 : decode b_M_version 5 = .ok (.iload_n 1, 1) := by decide +kernel
theorem d_M_version_6 : decode b_M_version 6 = .ok (.iload_n 2, 1) := by decide +kernel
theorem d_M_version_7 : decode b_M_version 7 = .ok (.invokestatic 64, 3) := by decide +kernel
theorem d_M_version_10 : decode b_M_version 10 = .ok (.ifCond .eq 16, 3) := by decide +kernel
theorem d_M_version_13 : decode b_M_version 13 = .ok (.aload_n 0, 1) := by decide +kernel
theorem d_M_version_14 : decode b_M_version 14 = .ok (.getfield 7, 3) := by decide +kernel
theorem d_M_version_17 : decode b_M_version 17 = .ok (.iconst 4, 1) := by decide +kernel
theorem d_M_version_18 : decode b_M_version 18 = .ok (.iload_n 1, 1) := by decide +kernel
theorem d_M_version_19 : decode b_M_version 19 = .ok (.imul, 1) := by decide +kernel
theorem d_M_version_20 : decode b_M_version 20 = .ok (.iload_n 2, 1) := by decide +kernel
theorem d_M_version_21 : decode b_M_version 21 = .ok (.iadd, 1) := by decide +kernel
theorem d_M_version_22 : decode b_M_version 22 = .ok (.baload, 1) := by decide +kernel
theorem d_M_version_23 : decode b_M_version 23 = .ok (.ifCond .eq 5, 3) := by decide +kernel
theorem d_M_version_26 : decode b_M_version 26 = .ok (.iconst 0, 1) := by decide +kernel
theorem d_M_version_27 : decode b_M_version 27 = .ok (.ireturn, 1) := by decide +kernel
theorem d_M_version_28 : decode b_M_version 28 = .ok (.aload_n 0, 1) := by decide +kernel
theorem d_M_version_29 : decode b_M_version 29 = .ok (.getfield 7, 3) := by decide +kernel
theorem d_M_version_32 : decode b_M_version 32 = .ok (.iconst 4, 1) := by decide +kernel
theorem d_M_version_33 : decode b_M_version 33 = .ok (.iload_n 1, 1) := by decide +kernel
theorem d_M_version_34 : decode b_M_version 34 = .ok (.imul, 1) := by decide +kernel
theorem d_M_version_35 : decode b_M_version 35 = .ok (.iload_n 2, 1) := by decide +kernel
theorem d_M_version_36 : decode b_M_version 36 = .ok (.iadd, 1) := by decide +kernel
theorem d_M_version_37 : decode b_M_version 37 = .ok (.iconst 1, 1) := by decide +kernel
theorem d_M_version_38 : decode b_M_version 38 = .ok (.bastore, 1) := by decide +kernel
theorem d_M_version_39 : decode b_M_version 39 = .ok (.aload_n 0, 1) := by decide +kernel
theorem d_M_version_40 : decode b_M_version 40 = .ok (.getfield 13, 3) := by decide +kernel
theorem d_M_version_43 : decode b_M_version 43 = .ok (.iconst 4, 1) := by decide +kernel
theorem d_M_version_44 : decode b_M_version 44 = .ok (.iload_n 1, 1) := by decide +kernel
theorem d_M_version_45 : decode b_M_version 45 = .ok (.imul, 1) := by decide +kernel
theorem d_M_version_46 : decode b_M_version 46 = .ok (.iload_n 2, 1) := by decide +kernel
theorem d_M_version_47 : decode b_M_version 47 = .ok (.iadd, 1) := by decide +kernel
theorem d_M_version_48 : decode b_M_version 48 = .ok (.iconst 0, 1) := by decide +kernel
theorem d_M_version_49 : decode b_M_version 49 = .ok (.iastore, 1) := by decide +kernel
theorem d_M_version_50 : decode b_M_version 50 = .ok (.iconst 1, 1) := by decide +kernel
theorem d_M_version_51 : decode b_M_version 51 = .ok (.ireturn, 1) := by decide +kernel
theorem d_M_need_0 : decode b_M_need 0 = .ok (.aload_n 0, 1) := by decide +kernel
theorem d_M_need_1 : decode b_M_need 1 = .ok (.iconst 0, 1) := by decide +kernel
theorem d_M_need_2 : decode b_M_need 2 = .ok (.putfield 56, 3) := by decide +kernel
theorem d_M_need_5 : decode b_M_need 5 = .ok (.iload_n 1, 1) := by decide +kernel
theorem d_M_need_6 : decode b_M_need 6 = .ok (.iload_n 2, 1) := by decide +kernel
theorem d_M_need_7 : decode b_M_need 7 = .ok (.invokestatic 64, 3) := by decide +kernel
theorem d_M_need_10 : decode b_M_need 10 = .ok (.ifCond .eq 14, 3) := by decide +kernel
theorem d_M_need_13 : decode b_M_need 13 = .ok (.iload_n 3, 1) := by decide +kernel
theorem d_M_need_14 : decode b_M_need 14 = .ok (.iload 4, 2) := by decide +kernel
theorem d_M_need_16 : decode b_M_need 16 = .ok (.iload 5, 2) := by decide +kernel
theorem d_M_need_18 : decode b_M_need 18 = .ok (.invokestatic 68, 3) := by decide +kernel
theorem d_M_need_21 : decode b_M_need 21 = .ok (.ifCond .ne 5, 3) := by decide +kernel
theorem d_M_need_24 : decode b_M_need 24 = .ok (.iconst 0, 1) := by decide +kernel
theorem d_M_need_25 : decode b_M_need 25 = .ok (.ireturn, 1) := by decide +kernel
theorem d_M_need_26 : decode b_M_need 26 = .ok (.iconst 4, 1) := by decide +kernel
theorem d_M_need_27 : decode b_M_need 27 = .ok (.iload_n 1, 1) := by decide +kernel
theorem d_M_need_28 : decode b_M_need 28 = .ok (.imul, 1) := by decide +kernel
theorem d_M_need_29 : decode b_M_need 29 = .ok (.iload_n 2, 1) := by decide +kernel
theorem d_M_need_30 : decode b_M_need 30 = .ok (.iadd, 1) := by decide +kernel
theorem d_M_need_31 : decode b_M_need 31 = .ok (.istore 6, 2) := by decide +kernel
theorem d_M_need_33 : decode b_M_need 33 = .ok (.aload_n 0, 1) := by decide +kernel
theorem d_M_need_34 : decode b_M_need 34 = .ok (.getfield 7, 3) := by decide +kernel
theorem d_M_need_37 : decode b_M_need 37 = .ok (.iload 6, 2) := by decide +kernel
theorem d_M_need_39 : decode b_M_need 39 = .ok (.baload, 1) := by decide +kernel
theorem d_M_need_40 : decode b_M_need 40 = .ok (.ifCond .eq 14, 3) := by decide +kernel
theorem d_M_need_43 : decode b_M_need 43 = .ok (.aload_n 0, 1) := by decide +kernel
theorem d_M_need_44 : decode b_M_need 44 = .ok (.getfield 13, 3) := by decide +kernel
theorem d_M_need_47 : decode b_M_need 47 = .ok (.iload 6, 2) := by decide +kernel
theorem d_M_need_49 : decode b_M_need 49 = .ok (.iaload, 1) := by decide +kernel
theorem d_M_need_50 : decode b_M_need 50 = .ok (.iconst 4, 1) := by decide +kernel
theorem d_M_need_51 : decode b_M_need 51 = .ok (.if_icmp .ne 5, 3) := by decide +kernel
theorem d_M_need_54 : decode b_M_need 54 = .ok (.iconst 0, 1) := by decide +kernel
theorem d_M_need_55 : decode b_M_need 55 = .ok (.ireturn, 1) := by decide +kernel
theorem d_M_need_56 : decode b_M_need 56 = .ok (.iconst 4, 1) := by decide +kernel
theorem d_M_need_57 : decode b_M_need 57 = .ok (.iload 6, 2) := by decide +kernel
theorem d_M_need_59 : decode b_M_need 59 = .ok (.imul, 1) := by decide +kernel
theorem d_M_need_60 : decode b_M_need 60 = .ok (.aload_n 0, 1) := by decide +kernel
theorem d_M_need_61 : decode b_M_need 61 = .ok (.getfield 13, 3) := by decide +kernel
theorem d_M_need_64 : decode b_M_need 64 = .ok (.iload 6, 2) := by decide +kernel
theorem d_M_need_66 : decode b_M_need 66 = .ok (.iaload, 1) := by decide +kernel
theorem d_M_need_67 : decode b_M_need 67 = .ok (.iadd, 1) := by decide +kernel
theorem d_M_need_68 : decode b_M_need 68 = .ok (.istore 7, 2) := by decide +kernel
theorem d_M_need_70 : decode b_M_need 70 = .ok (.aload_n 0, 1) := by decide +kernel
theorem d_M_need_71 : decode b_M_need 71 = .ok (.getfield 17, 3) := by decide +kernel
theorem d_M_need_74 : decode b_M_need 74 = .ok (.iload 7, 2) := by decide +kernel
theorem d_M_need_76 : decode b_M_need 76 = .ok (.iload_n 3, 1) := by decide +kernel
theorem d_M_need_77 : decode b_M_need 77 = .ok (.iastore, 1) := by decide +kernel
theorem d_M_need_78 : decode b_M_need 78 = .ok (.aload_n 0, 1) := by decide +kernel
theorem d_M_need_79 : decode b_M_need 79 = .ok (.getfield 20, 3) := by decide +kernel
theorem d_M_need_82 : decode b_M_need 82 = .ok (.iload 7, 2) := by decide +kernel
theorem d_M_need_84 : decode b_M_need 84 = .ok (.iload 4, 2) := by decide +kernel
theorem d_M_need_86 : decode b_M_need 86 = .ok (.iastore, 1) := by decide +kernel
theorem d_M_need_87 : decode b_M_need 87 = .ok (.aload_n 0, 1) := by decide +kernel
theorem d_M_need_88 : decode b_M_need 88 = .ok (.getfield 23, 3) := by decide +kernel
theorem d_M_need_91 : decode b_M_need 91 = .ok (.iload 7, 2) := by decide +kernel
theorem d_M_need_93 : decode b_M_need 93 = .ok (.iload 5, 2) := by decide +kernel
theorem d_M_need_95 : decode b_M_need 95 = .ok (.iastore, 1) := by decide +kernel
theorem d_M_need_96 : decode b_M_need 96 = .ok (.aload_n 0, 1) := by decide +kernel
theorem d_M_need_97 : decode b_M_need 97 = .ok (.getfield 13, 3) := by decide +kernel
theorem d_M_need_100 : decode b_M_need 100 = .ok (.iload 6, 2) := by decide +kernel
theorem d_M_need_102 : decode b_M_need 102 = .ok (.dup2, 1) := by decide +kernel
theorem d_M_need_103 : decode b_M_need 103 = .ok (.iaload, 1) := by decide +kernel
theorem d_M_need_104 : decode b_M_need 104 = .ok (.iconst 1, 1) := by decide +kernel
theorem d_M_need_105 : decode b_M_need 105 = .ok (.iadd, 1) := by decide +kernel
theorem d_M_need_106 : decode b_M_need 106 = .ok (.iastore, 1) := by decide +kernel
theorem d_M_need_107 : decode b_M_need 107 = .ok (.iconst 1, 1) := by decide +kernel
theorem d_M_need_108 : decode b_M_need 108 = .ok (.ireturn, 1) := by decide +kernel
theorem d_M_drop_0 : decode b_M_drop 0 = .ok (.aload_n 0, 1) := by decide +kernel
theorem d_M_drop_1 : decode b_M_drop 1 = .ok (.iconst 0, 1) := by decide +kernel
theorem d_M_drop_2 : decode b_M_drop 2 = .ok (.putfield 56, 3) := by decide +kernel
theorem d_M_drop_5 : decode b_M_drop 5 = .ok (.iload_n 1, 1) := by decide +kernel
theorem d_M_drop_6 : decode b_M_drop 6 = .ok (.iload_n 2, 1) := by decide +kernel
theorem d_M_drop_7 : decode b_M_drop 7 = .ok (.invokestatic 64, 3) := by decide +kernel
theorem d_M_drop_10 : decode b_M_drop 10 = .ok (.ifCond .eq 16, 3) := by decide +kernel
theorem d_M_drop_13 : decode b_M_drop 13 = .ok (.aload_n 0, 1) := by decide +kernel
theorem d_M_drop_14 : decode b_M_drop 14 = .ok (.getfield 7, 3) := by decide +kernel
theorem d_M_drop_17 : decode b_M_drop 17 = .ok (.iconst 4, 1) := by decide +kernel
theorem d_M_drop_18 : decode b_M_drop 18 = .ok (.iload_n 1, 1) := by decide +kernel
theorem d_M_drop_19 : decode b_M_drop 19 = .ok (.imul, 1) := by decide +kernel
theorem d_M_drop_20 : decode b_M_drop 20 = .ok (.iload_n 2, 1) := by decide +kernel
theorem d_M_drop_21 : decode b_M_drop 21 = .ok (.iadd, 1) := by decide +kernel
theorem d_M_drop_22 : decode b_M_drop 22 = .ok (.baload, 1) := by decide +kernel
theorem d_M_drop_23 : decode b_M_drop 23 = .ok (.ifCond .ne 5, 3) := by decide +kernel
theorem d_M_drop_26 : decode b_M_drop 26 = .ok (.iconst 0, 1) := by decide +kernel
theorem d_M_drop_27 : decode b_M_drop 27 = .ok (.ireturn, 1) := by decide +kernel
theorem d_M_drop_28 : decode b_M_drop 28 = .ok (.aload_n 0, 1) := by decide +kernel
theorem d_M_drop_29 : decode b_M_drop 29 = .ok (.getfield 7, 3) := by decide +kernel
theorem d_M_drop_32 : decode b_M_drop 32 = .ok (.iconst 4, 1) := by decide +kernel
theorem d_M_drop_33 : decode b_M_drop 33 = .ok (.iload_n 1, 1) := by decide +kernel
theorem d_M_drop_34 : decode b_M_drop 34 = .ok (.imul, 1) := by decide +kernel
theorem d_M_drop_35 : decode b_M_drop 35 = .ok (.iload_n 2, 1) := by decide +kernel
theorem d_M_drop_36 : decode b_M_drop 36 = .ok (.iadd, 1) := by decide +kernel
theorem d_M_drop_37 : decode b_M_drop 37 = .ok (.iconst 0, 1) := by decide +kernel
theorem d_M_drop_38 : decode b_M_drop 38 = .ok (.bastore, 1) := by decide +kernel
theorem d_M_drop_39 : decode b_M_drop 39 = .ok (.aload_n 0, 1) := by decide +kernel
theorem d_M_drop_40 : decode b_M_drop 40 = .ok (.getfield 13, 3) := by decide +kernel
theorem d_M_drop_43 : decode b_M_drop 43 = .ok (.iconst 4, 1) := by decide +kernel
theorem d_M_drop_44 : decode b_M_drop 44 = .ok (.iload_n 1, 1) := by decide +kernel
theorem d_M_drop_45 : decode b_M_drop 45 = .ok (.imul, 1) := by decide +kernel
theorem d_M_drop_46 : decode b_M_drop 46 = .ok (.iload_n 2, 1) := by decide +kernel
theorem d_M_drop_47 : decode b_M_drop 47 = .ok (.iadd, 1) := by decide +kernel
theorem d_M_drop_48 : decode b_M_drop 48 = .ok (.iconst 0, 1) := by decide +kernel
theorem d_M_drop_49 : decode b_M_drop 49 = .ok (.iastore, 1) := by decide +kernel
theorem d_M_drop_50 : decode b_M_drop 50 = .ok (.iconst 1, 1) := by decide +kernel
theorem d_M_drop_51 : decode b_M_drop 51 = .ok (.ireturn, 1) := by decide +kernel
theorem d_M_ban_0 : decode b_M_ban 0 = .ok (.aload_n 0, 1) := by decide +kernel
theorem d_M_ban_1 : decode b_M_ban 1 = .ok (.iconst 0, 1) := by decide +kernel
theorem d_M_ban_2 : decode b_M_ban 2 = .ok (.putfield 56, 3) := by decide +kernel
theorem d_M_ban_5 : decode b_M_ban 5 = .ok (.iload_n 1, 1) := by decide +kernel
theorem d_M_ban_6 : decode b_M_ban 6 = .ok (.iload_n 2, 1) := by decide +kernel
theorem d_M_ban_7 : decode b_M_ban 7 = .ok (.invokestatic 64, 3) := by decide +kernel
theorem d_M_ban_10 : decode b_M_ban 10 = .ok (.ifCond .eq 26, 3) := by decide +kernel
theorem d_M_ban_13 : decode b_M_ban 13 = .ok (.iload_n 3, 1) := by decide +kernel
theorem d_M_ban_14 : decode b_M_ban 14 = .ok (.iload 4, 2) := by decide +kernel
theorem d_M_ban_16 : decode b_M_ban 16 = .ok (.invokestatic 64, 3) := by decide +kernel
theorem d_M_ban_19 : decode b_M_ban 19 = .ok (.ifCond .eq 17, 3) := by decide +kernel
theorem d_M_ban_22 : decode b_M_ban 22 = .ok (.iload_n 1, 1) := by decide +kernel
theorem d_M_ban_23 : decode b_M_ban 23 = .ok (.iload_n 3, 1) := by decide +kernel
theorem d_M_ban_24 : decode b_M_ban 24 = .ok (.if_icmp .eq 12, 3) := by decide +kernel
theorem d_M_ban_27 : decode b_M_ban 27 = .ok (.aload_n 0, 1) := by decide +kernel
theorem d_M_ban_28 : decode b_M_ban 28 = .ok (.getfield 72, 3) := by decide +kernel
theorem d_M_ban_31 : decode b_M_ban 31 = .ok (.bipush 16, 2) := by decide +kernel
theorem d_M_ban_33 : decode b_M_ban 33 = .ok (.if_icmp .ne 5, 3) := by decide +kernel
theorem d_M_ban_36 : decode b_M_ban 36 = .ok (.iconst 0, 1) := by decide +kernel
theorem d_M_ban_37 : decode b_M_ban 37 = .ok (.ireturn, 1) := by decide +kernel
theorem d_M_ban_38 : decode b_M_ban 38 = .ok (.aload_n 0, 1) := by decide +kernel
theorem d_M_ban_39 : decode b_M_ban 39 = .ok (.getfield 35, 3) := by decide +kernel
theorem d_M_ban_42 : decode b_M_ban 42 = .ok (.aload_n 0, 1) := by decide +kernel
theorem d_M_ban_43 : decode b_M_ban 43 = .ok (.getfield 72, 3) := by decide +kernel
theorem d_M_ban_46 : decode b_M_ban 46 = .ok (.iconst 4, 1) := by decide +kernel
theorem d_M_ban_47 : decode b_M_ban 47 = .ok (.iload_n 1, 1) := by decide +kernel
theorem d_M_ban_48 : decode b_M_ban 48 = .ok (.imul, 1) := by decide +kernel
theorem d_M_ban_49 : decode b_M_ban 49 = .ok (.iload_n 2, 1) := by decide +kernel
theorem d_M_ban_50 : decode b_M_ban 50 = .ok (.iadd, 1) := by decide +kernel
theorem d_M_ban_51 : decode b_M_ban 51 = .ok (.iastore, 1) := by decide +kernel
theorem d_M_ban_52 : decode b_M_ban 52 = .ok (.aload_n 0, 1) := by decide +kernel
theorem d_M_ban_53 : decode b_M_ban 53 = .ok (.getfield 38, 3) := by decide +kernel
theorem d_M_ban_56 : decode b_M_ban 56 = .ok (.aload_n 0, 1) := by decide +kernel
theorem d_M_ban_57 : decode b_M_ban 57 = .ok (.getfield 72, 3) := by decide +kernel
theorem d_M_ban_60 : decode b_M_ban 60 = .ok (.iconst 4, 1) := by decide +kernel
theorem d_M_ban_61 : decode b_M_ban 61 = .ok (.iload_n 3, 1) := by decide +kernel
theorem d_M_ban_62 : decode b_M_ban 62 = .ok (.imul, 1) := by decide +kernel
theorem d_M_ban_63 : decode b_M_ban 63 = .ok (.iload 4, 2) := by decide +kernel
theorem d_M_ban_65 : decode b_M_ban 65 = .ok (.iadd, 1) := by decide +kernel
theorem d_M_ban_66 : decode b_M_ban 66 = .ok (.iastore, 1) := by decide +kernel
theorem d_M_ban_67 : decode b_M_ban 67 = .ok (.aload_n 0, 1) := by decide +kernel
theorem d_M_ban_68 : decode b_M_ban 68 = .ok (.dup, 1) := by decide +kernel
theorem d_M_ban_69 : decode b_M_ban 69 = .ok (.getfield 72, 3) := by decide +kernel
theorem d_M_ban_72 : decode b_M_ban 72 = .ok (.iconst 1, 1) := by decide +kernel
theorem d_M_ban_73 : decode b_M_ban 73 = .ok (.iadd, 1) := by decide +kernel
theorem d_M_ban_74 : decode b_M_ban 74 = .ok (.putfield 72, 3) := by decide +kernel
theorem d_M_ban_77 : decode b_M_ban 77 = .ok (.iconst 1, 1) := by decide +kernel
theorem d_M_ban_78 : decode b_M_ban 78 = .ok (.ireturn, 1) := by decide +kernel
theorem d_M_ask_0 : decode b_M_ask 0 = .ok (.aload_n 0, 1) := by decide +kernel
theorem d_M_ask_1 : decode b_M_ask 1 = .ok (.iconst 0, 1) := by decide +kernel
theorem d_M_ask_2 : decode b_M_ask 2 = .ok (.putfield 56, 3) := by decide +kernel
theorem d_M_ask_5 : decode b_M_ask 5 = .ok (.iload_n 1, 1) := by decide +kernel
theorem d_M_ask_6 : decode b_M_ask 6 = .ok (.iload_n 2, 1) := by decide +kernel
theorem d_M_ask_7 : decode b_M_ask 7 = .ok (.iload_n 3, 1) := by decide +kernel
theorem d_M_ask_8 : decode b_M_ask 8 = .ok (.invokestatic 68, 3) := by decide +kernel
theorem d_M_ask_11 : decode b_M_ask 11 = .ok (.ifCond .eq 12, 3) := by decide +kernel
theorem d_M_ask_14 : decode b_M_ask 14 = .ok (.aload_n 0, 1) := by decide +kernel
theorem d_M_ask_15 : decode b_M_ask 15 = .ok (.getfield 75, 3) := by decide +kernel
theorem d_M_ask_18 : decode b_M_ask 18 = .ok (.bipush 6, 2) := by decide +kernel
theorem d_M_ask_20 : decode b_M_ask 20 = .ok (.if_icmp .ne 5, 3) := by decide +kernel
theorem d_M_ask_23 : decode b_M_ask 23 = .ok (.iconst 0, 1) := by decide +kernel
theorem d_M_ask_24 : decode b_M_ask 24 = .ok (.ireturn, 1) := by decide +kernel
theorem d_M_ask_25 : decode b_M_ask 25 = .ok (.aload_n 0, 1) := by decide +kernel
theorem d_M_ask_26 : decode b_M_ask 26 = .ok (.getfield 26, 3) := by decide +kernel
theorem d_M_ask_29 : decode b_M_ask 29 = .ok (.aload_n 0, 1) := by decide +kernel
theorem d_M_ask_30 : decode b_M_ask 30 = .ok (.getfield 75, 3) := by decide +kernel
theorem d_M_ask_33 : decode b_M_ask 33 = .ok (.iload_n 1, 1) := by decide +kernel
theorem d_M_ask_34 : decode b_M_ask 34 = .ok (.iastore, 1) := by decide +kernel
theorem d_M_ask_35 : decode b_M_ask 35 = .ok (.aload_n 0, 1) := by decide +kernel
theorem d_M_ask_36 : decode b_M_ask 36 = .ok (.getfield 29, 3) := by decide +kernel
theorem d_M_ask_39 : decode b_M_ask 39 = .ok (.aload_n 0, 1) := by decide +kernel
theorem d_M_ask_40 : decode b_M_ask 40 = .ok (.getfield 75, 3) := by decide +kernel
theorem d_M_ask_43 : decode b_M_ask 43 = .ok (.iload_n 2, 1) := by decide +kernel
theorem d_M_ask_44 : decode b_M_ask 44 = .ok (.iastore, 1) := by decide +kernel
theorem d_M_ask_45 : decode b_M_ask 45 = .ok (.aload_n 0, 1) := by decide +kernel
theorem d_M_ask_46 : decode b_M_ask 46 = .ok (.getfield 32, 3) := by decide +kernel
theorem d_M_ask_49 : decode b_M_ask 49 = .ok (.aload_n 0, 1) := by decide +kernel
theorem d_M_ask_50 : decode b_M_ask 50 = .ok (.getfield 75, 3) := by decide +kernel
theorem d_M_ask_53 : decode b_M_ask 53 = .ok (.iload_n 3, 1) := by decide +kernel
theorem d_M_ask_54 : decode b_M_ask 54 = .ok (.iastore, 1) := by decide +kernel
theorem d_M_ask_55 : decode b_M_ask 55 = .ok (.aload_n 0, 1) := by decide +kernel
theorem d_M_ask_56 : decode b_M_ask 56 = .ok (.dup, 1) := by decide +kernel
theorem d_M_ask_57 : decode b_M_ask 57 = .ok (.getfield 75, 3) := by decide +kernel
theorem d_M_ask_60 : decode b_M_ask 60 = .ok (.iconst 1, 1) := by decide +kernel
theorem d_M_ask_61 : decode b_M_ask 61 = .ok (.iadd, 1) := by decide +kernel
theorem d_M_ask_62 : decode b_M_ask 62 = .ok (.putfield 75, 3) := by decide +kernel
theorem d_M_ask_65 : decode b_M_ask 65 = .ok (.iconst 1, 1) := by decide +kernel
theorem d_M_ask_66 : decode b_M_ask 66 = .ok (.ireturn, 1) := by decide +kernel
theorem d_M_take_0 : decode b_M_take 0 = .ok (.aload_n 0, 1) := by decide +kernel
theorem d_M_take_1 : decode b_M_take 1 = .ok (.iconst 0, 1) := by decide +kernel
theorem d_M_take_2 : decode b_M_take 2 = .ok (.putfield 56, 3) := by decide +kernel
theorem d_M_take_5 : decode b_M_take 5 = .ok (.iload_n 1, 1) := by decide +kernel
theorem d_M_take_6 : decode b_M_take 6 = .ok (.ifCond .lt 11, 3) := by decide +kernel
theorem d_M_take_9 : decode b_M_take 9 = .ok (.iload_n 1, 1) := by decide +kernel
theorem d_M_take_10 : decode b_M_take 10 = .ok (.aload_n 0, 1) := by decide +kernel
theorem d_M_take_11 : decode b_M_take 11 = .ok (.getfield 75, 3) := by decide +kernel
theorem d_M_take_14 : decode b_M_take 14 = .ok (.if_icmp .lt 5, 3) := by decide +kernel
theorem d_M_take_17 : decode b_M_take 17 = .ok (.iconst 0, 1) := by decide +kernel
theorem d_M_take_18 : decode b_M_take 18 = .ok (.ireturn, 1) := by decide +kernel
theorem d_M_take_19 : decode b_M_take 19 = .ok (.iload_n 1, 1) := by decide +kernel
theorem d_M_take_20 : decode b_M_take 20 = .ok (.istore_n 2, 1) := by decide +kernel
theorem d_M_take_21 : decode b_M_take 21 = .ok (.iload_n 2, 1) := by decide +kernel
theorem d_M_take_22 : decode b_M_take 22 = .ok (.iconst 1, 1) := by decide +kernel
theorem d_M_take_23 : decode b_M_take 23 = .ok (.iadd, 1) := by decide +kernel
theorem d_M_take_24 : decode b_M_take 24 = .ok (.aload_n 0, 1) := by decide +kernel
theorem d_M_take_25 : decode b_M_take 25 = .ok (.getfield 75, 3) := by decide +kernel
theorem d_M_take_28 : decode b_M_take 28 = .ok (.if_icmp .ge 51, 3) := by decide +kernel
theorem d_M_take_31 : decode b_M_take 31 = .ok (.aload_n 0, 1) := by decide +kernel
theorem d_M_take_32 : decode b_M_take 32 = .ok (.getfield 26, 3) := by decide +kernel
theorem d_M_take_35 : decode b_M_take 35 = .ok (.iload_n 2, 1) := by decide +kernel
theorem d_M_take_36 : decode b_M_take 36 = .ok (.aload_n 0, 1) := by decide +kernel
theorem d_M_take_37 : decode b_M_take 37 = .ok (.getfield 26, 3) := by decide +kernel
theorem d_M_take_40 : decode b_M_take 40 = .ok (.iload_n 2, 1) := by decide +kernel
theorem d_M_take_41 : decode b_M_take 41 = .ok (.iconst 1, 1) := by decide +kernel
theorem d_M_take_42 : decode b_M_take 42 = .ok (.iadd, 1) := by decide +kernel
theorem d_M_take_43 : decode b_M_take 43 = .ok (.iaload, 1) := by decide +kernel
theorem d_M_take_44 : decode b_M_take 44 = .ok (.iastore, 1) := by decide +kernel
theorem d_M_take_45 : decode b_M_take 45 = .ok (.aload_n 0, 1) := by decide +kernel
theorem d_M_take_46 : decode b_M_take 46 = .ok (.getfield 29, 3) := by decide +kernel
theorem d_M_take_49 : decode b_M_take 49 = .ok (.iload_n 2, 1) := by decide +kernel
theorem d_M_take_50 : decode b_M_take 50 = .ok (.aload_n 0, 1) := by decide +kernel
theorem d_M_take_51 : decode b_M_take 51 = .ok (.getfield 29, 3) := by decide +kernel
theorem d_M_take_54 : decode b_M_take 54 = .ok (.iload_n 2, 1) := by decide +kernel
theorem d_M_take_55 : decode b_M_take 55 = .ok (.iconst 1, 1) := by decide +kernel
theorem d_M_take_56 : decode b_M_take 56 = .ok (.iadd, 1) := by decide +kernel
theorem d_M_take_57 : decode b_M_take 57 = .ok (.iaload, 1) := by decide +kernel
theorem d_M_take_58 : decode b_M_take 58 = .ok (.iastore, 1) := by decide +kernel
theorem d_M_take_59 : decode b_M_take 59 = .ok (.aload_n 0, 1) := by decide +kernel
theorem d_M_take_60 : decode b_M_take 60 = .ok (.getfield 32, 3) := by decide +kernel
theorem d_M_take_63 : decode b_M_take 63 = .ok (.iload_n 2, 1) := by decide +kernel
theorem d_M_take_64 : decode b_M_take 64 = .ok (.aload_n 0, 1) := by decide +kernel
theorem d_M_take_65 : decode b_M_take 65 = .ok (.getfield 32, 3) := by decide +kernel
theorem d_M_take_68 : decode b_M_take 68 = .ok (.iload_n 2, 1) := by decide +kernel
theorem d_M_take_69 : decode b_M_take 69 = .ok (.iconst 1, 1) := by decide +kernel
theorem d_M_take_70 : decode b_M_take 70 = .ok (.iadd, 1) := by decide +kernel
theorem d_M_take_71 : decode b_M_take 71 = .ok (.iaload, 1) := by decide +kernel
theorem d_M_take_72 : decode b_M_take 72 = .ok (.iastore, 1) := by decide +kernel
theorem d_M_take_73 : decode b_M_take 73 = .ok (.iinc 2 1, 3) := by decide +kernel
theorem d_M_take_76 : decode b_M_take 76 = .ok (.goto (-55), 3) := by decide +kernel
theorem d_M_take_79 : decode b_M_take 79 = .ok (.aload_n 0, 1) := by decide +kernel
theorem d_M_take_80 : decode b_M_take 80 = .ok (.dup, 1) := by decide +kernel
theorem d_M_take_81 : decode b_M_take 81 = .ok (.getfield 75, 3) := by decide +kernel
theorem d_M_take_84 : decode b_M_take 84 = .ok (.iconst 1, 1) := by decide +kernel
theorem d_M_take_85 : decode b_M_take 85 = .ok (.isub, 1) := by decide +kernel
theorem d_M_take_86 : decode b_M_take 86 = .ok (.putfield 75, 3) := by decide +kernel
theorem d_M_take_89 : decode b_M_take 89 = .ok (.iconst 1, 1) := by decide +kernel
theorem d_M_take_90 : decode b_M_take 90 = .ok (.ireturn, 1) := by decide +kernel
theorem d_M_isMet_0 : decode b_M_isMet 0 = .ok (.aload_n 0, 1) := by decide +kernel
theorem d_M_isMet_1 : decode b_M_isMet 1 = .ok (.getfield 41, 3) := by decide +kernel
theorem d_M_isMet_4 : decode b_M_isMet 4 = .ok (.iload_n 1, 1) := by decide +kernel
theorem d_M_isMet_5 : decode b_M_isMet 5 = .ok (.iaload, 1) := by decide +kernel
theorem d_M_isMet_6 : decode b_M_isMet 6 = .ok (.iload_n 2, 1) := by decide +kernel
theorem d_M_isMet_7 : decode b_M_isMet 7 = .ok (.if_icmp .lt 17, 3) := by decide +kernel
theorem d_M_isMet_10 : decode b_M_isMet 10 = .ok (.aload_n 0, 1) := by decide +kernel
theorem d_M_isMet_11 : decode b_M_isMet 11 = .ok (.getfield 41, 3) := by decide +kernel
theorem d_M_isMet_14 : decode b_M_isMet 14 = .ok (.iload_n 1, 1) := by decide +kernel
theorem d_M_isMet_15 : decode b_M_isMet 15 = .ok (.iaload, 1) := by decide +kernel
theorem d_M_isMet_16 : decode b_M_isMet 16 = .ok (.iload_n 3, 1) := by decide +kernel
theorem d_M_isMet_17 : decode b_M_isMet 17 = .ok (.if_icmp .gt 7, 3) := by decide +kernel
theorem d_M_isMet_20 : decode b_M_isMet 20 = .ok (.iconst 1, 1) := by decide +kernel
theorem d_M_isMet_21 : decode b_M_isMet 21 = .ok (.goto 4, 3) := by decide +kernel
theorem d_M_isMet_24 : decode b_M_isMet 24 = .ok (.iconst 0, 1) := by decide +kernel
theorem d_M_isMet_25 : decode b_M_isMet 25 = .ok (.ireturn, 1) := by decide +kernel
theorem d_M_counts_0 : decode b_M_counts 0 = .ok (.aload_n 0, 1) := by decide +kernel
theorem d_M_counts_1 : decode b_M_counts 1 = .ok (.getfield 78, 3) := by decide +kernel
theorem d_M_counts_4 : decode b_M_counts 4 = .ok (.iload_n 1, 1) := by decide +kernel
theorem d_M_counts_5 : decode b_M_counts 5 = .ok (.ishr, 1) := by decide +kernel
theorem d_M_counts_6 : decode b_M_counts 6 = .ok (.iconst 1, 1) := by decide +kernel
theorem d_M_counts_7 : decode b_M_counts 7 = .ok (.iand, 1) := by decide +kernel
theorem d_M_counts_8 : decode b_M_counts 8 = .ok (.iconst 1, 1) := by decide +kernel
theorem d_M_counts_9 : decode b_M_counts 9 = .ok (.if_icmp .ne 7, 3) := by decide +kernel
theorem d_M_counts_12 : decode b_M_counts 12 = .ok (.iconst 1, 1) := by decide +kernel
theorem d_M_counts_13 : decode b_M_counts 13 = .ok (.goto 4, 3) := by decide +kernel
theorem d_M_counts_16 : decode b_M_counts 16 = .ok (.iconst 0, 1) := by decide +kernel
theorem d_M_counts_17 : decode b_M_counts 17 = .ok (.ireturn, 1) := by decide +kernel
theorem d_M_goes_0 : decode b_M_goes 0 = .ok (.aload_n 0, 1) := by decide +kernel
theorem d_M_goes_1 : decode b_M_goes 1 = .ok (.getfield 41, 3) := by decide +kernel
theorem d_M_goes_4 : decode b_M_goes 4 = .ok (.iload_n 1, 1) := by decide +kernel
theorem d_M_goes_5 : decode b_M_goes 5 = .ok (.iaload, 1) := by decide +kernel
theorem d_M_goes_6 : decode b_M_goes 6 = .ok (.iconst (-1), 1) := by decide +kernel
theorem d_M_goes_7 : decode b_M_goes 7 = .ok (.if_icmp .eq 21, 3) := by decide +kernel
theorem d_M_goes_10 : decode b_M_goes 10 = .ok (.aload_n 0, 1) := by decide +kernel
theorem d_M_goes_11 : decode b_M_goes 11 = .ok (.getfield 7, 3) := by decide +kernel
theorem d_M_goes_14 : decode b_M_goes 14 = .ok (.iconst 4, 1) := by decide +kernel
theorem d_M_goes_15 : decode b_M_goes 15 = .ok (.iload_n 1, 1) := by decide +kernel
theorem d_M_goes_16 : decode b_M_goes 16 = .ok (.imul, 1) := by decide +kernel
theorem d_M_goes_17 : decode b_M_goes 17 = .ok (.aload_n 0, 1) := by decide +kernel
theorem d_M_goes_18 : decode b_M_goes 18 = .ok (.getfield 41, 3) := by decide +kernel
theorem d_M_goes_21 : decode b_M_goes 21 = .ok (.iload_n 1, 1) := by decide +kernel
theorem d_M_goes_22 : decode b_M_goes 22 = .ok (.iaload, 1) := by decide +kernel
theorem d_M_goes_23 : decode b_M_goes 23 = .ok (.iadd, 1) := by decide +kernel
theorem d_M_goes_24 : decode b_M_goes 24 = .ok (.baload, 1) := by decide +kernel
theorem d_M_goes_25 : decode b_M_goes 25 = .ok (.ifCond .eq 7, 3) := by decide +kernel
theorem d_M_goes_28 : decode b_M_goes 28 = .ok (.iconst 1, 1) := by decide +kernel
theorem d_M_goes_29 : decode b_M_goes 29 = .ok (.goto 4, 3) := by decide +kernel
theorem d_M_goes_32 : decode b_M_goes 32 = .ok (.iconst 0, 1) := by decide +kernel
theorem d_M_goes_33 : decode b_M_goes 33 = .ok (.istore_n 2, 1) := by decide +kernel
theorem d_M_goes_34 : decode b_M_goes 34 = .ok (.iconst 0, 1) := by decide +kernel
theorem d_M_goes_35 : decode b_M_goes 35 = .ok (.istore_n 3, 1) := by decide +kernel
theorem d_M_goes_36 : decode b_M_goes 36 = .ok (.iload_n 3, 1) := by decide +kernel
theorem d_M_goes_37 : decode b_M_goes 37 = .ok (.aload_n 0, 1) := by decide +kernel
theorem d_M_goes_38 : decode b_M_goes 38 = .ok (.getfield 75, 3) := by decide +kernel
theorem d_M_goes_41 : decode b_M_goes 41 = .ok (.if_icmp .ge 57, 3) := by decide +kernel
theorem d_M_goes_44 : decode b_M_goes 44 = .ok (.iload_n 2, 1) := by decide +kernel
theorem d_M_goes_45 : decode b_M_goes 45 = .ok (.ifCond .eq 45, 3) := by decide +kernel
theorem d_M_goes_48 : decode b_M_goes 48 = .ok (.aload_n 0, 1) := by decide +kernel
theorem d_M_goes_49 : decode b_M_goes 49 = .ok (.iload_n 3, 1) := by decide +kernel
theorem d_M_goes_50 : decode b_M_goes 50 = .ok (.invokevirtual 81, 3) := by decide +kernel
theorem d_M_goes_53 : decode b_M_goes 53 = .ok (.ifCond .eq 33, 3) := by decide +kernel
theorem d_M_goes_56 : decode b_M_goes 56 = .ok (.aload_n 0, 1) := by decide +kernel
theorem d_M_goes_57 : decode b_M_goes 57 = .ok (.getfield 26, 3) := by decide +kernel
theorem d_M_goes_60 : decode b_M_goes 60 = .ok (.iload_n 3, 1) := by decide +kernel
theorem d_M_goes_61 : decode b_M_goes 61 = .ok (.iaload, 1) := by decide +kernel
theorem d_M_goes_62 : decode b_M_goes 62 = .ok (.iload_n 1, 1) := by decide +kernel
theorem d_M_goes_63 : decode b_M_goes 63 = .ok (.if_icmp .ne 23, 3) := by decide +kernel
theorem d_M_goes_66 : decode b_M_goes 66 = .ok (.aload_n 0, 1) := by decide +kernel
theorem d_M_goes_67 : decode b_M_goes 67 = .ok (.iload_n 1, 1) := by decide +kernel
theorem d_M_goes_68 : decode b_M_goes 68 = .ok (.aload_n 0, 1) := by decide +kernel
theorem d_M_goes_69 : decode b_M_goes 69 = .ok (.getfield 29, 3) := by decide +kernel
theorem d_M_goes_72 : decode b_M_goes 72 = .ok (.iload_n 3, 1) := by decide +kernel
theorem d_M_goes_73 : decode b_M_goes 73 = .ok (.iaload, 1) := by decide +kernel
theorem d_M_goes_74 : decode b_M_goes 74 = .ok (.aload_n 0, 1) := by decide +kernel
theorem d_M_goes_75 : decode b_M_goes 75 = .ok (.getfield 32, 3) := by decide +kernel
theorem d_M_goes_78 : decode b_M_goes 78 = .ok (.iload_n 3, 1) := by decide +kernel
theorem d_M_goes_79 : decode b_M_goes 79 = .ok (.iaload, 1) := by decide +kernel
theorem d_M_goes_80 : decode b_M_goes 80 = .ok (.invokevirtual 84, 3) := by decide +kernel
theorem d_M_goes_83 : decode b_M_goes 83 = .ok (.ifCond .eq 7, 3) := by decide +kernel
theorem d_M_goes_86 : decode b_M_goes 86 = .ok (.iconst 1, 1) := by decide +kernel
theorem d_M_goes_87 : decode b_M_goes 87 = .ok (.goto 4, 3) := by decide +kernel
theorem d_M_goes_90 : decode b_M_goes 90 = .ok (.iconst 0, 1) := by decide +kernel
theorem d_M_goes_91 : decode b_M_goes 91 = .ok (.istore_n 2, 1) := by decide +kernel
theorem d_M_goes_92 : decode b_M_goes 92 = .ok (.iinc 3 1, 3) := by decide +kernel
theorem d_M_goes_95 : decode b_M_goes 95 = .ok (.goto (-59), 3) := by decide +kernel
theorem d_M_goes_98 : decode b_M_goes 98 = .ok (.iconst 0, 1) := by decide +kernel
theorem d_M_goes_99 : decode b_M_goes 99 = .ok (.istore_n 3, 1) := by decide +kernel
theorem d_M_goes_100 : decode b_M_goes 100 = .ok (.iload_n 3, 1) := by decide +kernel
theorem d_M_goes_101 : decode b_M_goes 101 = .ok (.aload_n 0, 1) := by decide +kernel
theorem d_M_goes_102 : decode b_M_goes 102 = .ok (.getfield 72, 3) := by decide +kernel
theorem d_M_goes_105 : decode b_M_goes 105 = .ok (.if_icmp .ge 87, 3) := by decide +kernel
theorem d_M_goes_108 : decode b_M_goes 108 = .ok (.iload_n 2, 1) := by decide +kernel
theorem d_M_goes_109 : decode b_M_goes 109 = .ok (.ifCond .eq 83, 3) := by decide +kernel
theorem d_M_goes_112 : decode b_M_goes 112 = .ok (.aload_n 0, 1) := by decide +kernel
theorem d_M_goes_113 : decode b_M_goes 113 = .ok (.getfield 35, 3) := by decide +kernel
theorem d_M_goes_116 : decode b_M_goes 116 = .ok (.iload_n 3, 1) := by decide +kernel
theorem d_M_goes_117 : decode b_M_goes 117 = .ok (.iaload, 1) := by decide +kernel
theorem d_M_goes_118 : decode b_M_goes 118 = .ok (.iconst 4, 1) := by decide +kernel
theorem d_M_goes_119 : decode b_M_goes 119 = .ok (.idiv, 1) := by decide +kernel
theorem d_M_goes_120 : decode b_M_goes 120 = .ok (.istore 4, 2) := by decide +kernel
theorem d_M_goes_122 : decode b_M_goes 122 = .ok (.aload_n 0, 1) := by decide +kernel
theorem d_M_goes_123 : decode b_M_goes 123 = .ok (.getfield 38, 3) := by decide +kernel
theorem d_M_goes_126 : decode b_M_goes 126 = .ok (.iload_n 3, 1) := by decide +kernel
theorem d_M_goes_127 : decode b_M_goes 127 = .ok (.iaload, 1) := by decide +kernel
theorem d_M_goes_128 : decode b_M_goes 128 = .ok (.iconst 4, 1) := by decide +kernel
theorem d_M_goes_129 : decode b_M_goes 129 = .ok (.idiv, 1) := by decide +kernel
theorem d_M_goes_130 : decode b_M_goes 130 = .ok (.istore 5, 2) := by decide +kernel
theorem d_M_goes_132 : decode b_M_goes 132 = .ok (.iload 4, 2) := by decide +kernel
theorem d_M_goes_134 : decode b_M_goes 134 = .ok (.iload_n 1, 1) := by decide +kernel
theorem d_M_goes_135 : decode b_M_goes 135 = .ok (.if_icmp .gt 45, 3) := by decide +kernel
theorem d_M_goes_138 : decode b_M_goes 138 = .ok (.iload 5, 2) := by decide +kernel
theorem d_M_goes_140 : decode b_M_goes 140 = .ok (.iload_n 1, 1) := by decide +kernel
theorem d_M_goes_141 : decode b_M_goes 141 = .ok (.if_icmp .gt 39, 3) := by decide +kernel
theorem d_M_goes_144 : decode b_M_goes 144 = .ok (.aload_n 0, 1) := by decide +kernel
theorem d_M_goes_145 : decode b_M_goes 145 = .ok (.getfield 41, 3) := by decide +kernel
theorem d_M_goes_148 : decode b_M_goes 148 = .ok (.iload 4, 2) := by decide +kernel
theorem d_M_goes_150 : decode b_M_goes 150 = .ok (.iaload, 1) := by decide +kernel
theorem d_M_goes_151 : decode b_M_goes 151 = .ok (.aload_n 0, 1) := by decide +kernel
theorem d_M_goes_152 : decode b_M_goes 152 = .ok (.getfield 35, 3) := by decide +kernel
theorem d_M_goes_155 : decode b_M_goes 155 = .ok (.iload_n 3, 1) := by decide +kernel
theorem d_M_goes_156 : decode b_M_goes 156 = .ok (.iaload, 1) := by decide +kernel
theorem d_M_goes_157 : decode b_M_goes 157 = .ok (.iconst 4, 1) := by decide +kernel
theorem d_M_goes_158 : decode b_M_goes 158 = .ok (.irem, 1) := by decide +kernel
theorem d_M_goes_159 : decode b_M_goes 159 = .ok (.if_icmp .ne 21, 3) := by decide +kernel
theorem d_M_goes_162 : decode b_M_goes 162 = .ok (.aload_n 0, 1) := by decide +kernel
theorem d_M_goes_163 : decode b_M_goes 163 = .ok (.getfield 41, 3) := by decide +kernel
theorem d_M_goes_166 : decode b_M_goes 166 = .ok (.iload 5, 2) := by decide +kernel
theorem d_M_goes_168 : decode b_M_goes 168 = .ok (.iaload, 1) := by decide +kernel
theorem d_M_goes_169 : decode b_M_goes 169 = .ok (.aload_n 0, 1) := by decide +kernel
theorem d_M_goes_170 : decode b_M_goes 170 = .ok (.getfield 38, 3) := by decide +kernel
theorem d_M_goes_173 : decode b_M_goes 173 = .ok (.iload_n 3, 1) := by decide +kernel
theorem d_M_goes_174 : decode b_M_goes 174 = .ok (.iaload, 1) := by decide +kernel
theorem d_M_goes_175 : decode b_M_goes 175 = .ok (.iconst 4, 1) := by decide +kernel
theorem d_M_goes_176 : decode b_M_goes 176 = .ok (.irem, 1) := by decide +kernel
theorem d_M_goes_177 : decode b_M_goes 177 = .ok (.if_icmp .eq 7, 3) := by decide +kernel
theorem d_M_goes_180 : decode b_M_goes 180 = .ok (.iconst 1, 1) := by decide +kernel
theorem d_M_goes_181 : decode b_M_goes 181 = .ok (.goto 4, 3) := by decide +kernel
theorem d_M_goes_184 : decode b_M_goes 184 = .ok (.iconst 0, 1) := by decide +kernel
theorem d_M_goes_185 : decode b_M_goes 185 = .ok (.istore_n 2, 1) := by decide +kernel
theorem d_M_goes_186 : decode b_M_goes 186 = .ok (.iinc 3 1, 3) := by decide +kernel
theorem d_M_goes_189 : decode b_M_goes 189 = .ok (.goto (-89), 3) := by decide +kernel
theorem d_M_goes_192 : decode b_M_goes 192 = .ok (.iconst 0, 1) := by decide +kernel
theorem d_M_goes_193 : decode b_M_goes 193 = .ok (.istore_n 3, 1) := by decide +kernel
theorem d_M_goes_194 : decode b_M_goes 194 = .ok (.iload_n 3, 1) := by decide +kernel
theorem d_M_goes_195 : decode b_M_goes 195 = .ok (.iload_n 1, 1) := by decide +kernel
theorem d_M_goes_196 : decode b_M_goes 196 = .ok (.if_icmp .gt 114, 3) := by decide +kernel
theorem d_M_goes_199 : decode b_M_goes 199 = .ok (.iload_n 2, 1) := by decide +kernel
theorem d_M_goes_200 : decode b_M_goes 200 = .ok (.ifCond .eq 110, 3) := by decide +kernel
theorem d_M_goes_203 : decode b_M_goes 203 = .ok (.iconst 4, 1) := by decide +kernel
theorem d_M_goes_204 : decode b_M_goes 204 = .ok (.iload_n 3, 1) := by decide +kernel
theorem d_M_goes_205 : decode b_M_goes 205 = .ok (.imul, 1) := by decide +kernel
theorem d_M_goes_206 : decode b_M_goes 206 = .ok (.aload_n 0, 1) := by decide +kernel
theorem d_M_goes_207 : decode b_M_goes 207 = .ok (.getfield 41, 3) := by decide +kernel
theorem d_M_goes_210 : decode b_M_goes 210 = .ok (.iload_n 3, 1) := by decide +kernel
theorem d_M_goes_211 : decode b_M_goes 211 = .ok (.iaload, 1) := by decide +kernel
theorem d_M_goes_212 : decode b_M_goes 212 = .ok (.iadd, 1) := by decide +kernel
theorem d_M_goes_213 : decode b_M_goes 213 = .ok (.istore 4, 2) := by decide +kernel
theorem d_M_goes_215 : decode b_M_goes 215 = .ok (.iconst 0, 1) := by decide +kernel
theorem d_M_goes_216 : decode b_M_goes 216 = .ok (.istore 5, 2) := by decide +kernel
theorem d_M_goes_218 : decode b_M_goes 218 = .ok (.aload_n 0, 1) := by decide +kernel
theorem d_M_goes_219 : decode b_M_goes 219 = .ok (.getfield 41, 3) := by decide +kernel
theorem d_M_goes_222 : decode b_M_goes 222 = .ok (.iload_n 3, 1) := by decide +kernel
theorem d_M_goes_223 : decode b_M_goes 223 = .ok (.iaload, 1) := by decide +kernel
theorem d_M_goes_224 : decode b_M_goes 224 = .ok (.iconst (-1), 1) := by decide +kernel
theorem d_M_goes_225 : decode b_M_goes 225 = .ok (.if_icmp .eq 79, 3) := by decide +kernel
theorem d_M_goes_228 : decode b_M_goes 228 = .ok (.iload 5, 2) := by decide +kernel
theorem d_M_goes_230 : decode b_M_goes 230 = .ok (.aload_n 0, 1) := by decide +kernel
theorem d_M_goes_231 : decode b_M_goes 231 = .ok (.getfield 13, 3) := by decide +kernel
theorem d_M_goes_234 : decode b_M_goes 234 = .ok (.iload 4, 2) := by decide +kernel
theorem d_M_goes_236 : decode b_M_goes 236 = .ok (.iaload, 1) := by decide +kernel
theorem d_M_goes_237 : decode b_M_goes 237 = .ok (.if_icmp .ge 67, 3) := by decide +kernel
theorem d_M_goes_240 : decode b_M_goes 240 = .ok (.iconst 4, 1) := by decide +kernel
theorem d_M_goes_241 : decode b_M_goes 241 = .ok (.iload 4, 2) := by decide +kernel
theorem d_M_goes_243 : decode b_M_goes 243 = .ok (.imul, 1) := by decide +kernel
theorem d_M_goes_244 : decode b_M_goes 244 = .ok (.iload 5, 2) := by decide +kernel
theorem d_M_goes_246 : decode b_M_goes 246 = .ok (.iadd, 1) := by decide +kernel
theorem d_M_goes_247 : decode b_M_goes 247 = .ok (.istore 6, 2) := by decide +kernel
theorem d_M_goes_249 : decode b_M_goes 249 = .ok (.iload_n 2, 1) := by decide +kernel
theorem d_M_goes_250 : decode b_M_goes 250 = .ok (.ifCond .eq 46, 3) := by decide +kernel
theorem d_M_goes_253 : decode b_M_goes 253 = .ok (.aload_n 0, 1) := by decide +kernel
theorem d_M_goes_254 : decode b_M_goes 254 = .ok (.getfield 17, 3) := by decide +kernel
theorem d_M_goes_257 : decode b_M_goes 257 = .ok (.iload 6, 2) := by decide +kernel
theorem d_M_goes_259 : decode b_M_goes 259 = .ok (.iaload, 1) := by decide +kernel
theorem d_M_goes_260 : decode b_M_goes 260 = .ok (.iload_n 1, 1) := by decide +kernel
theorem d_M_goes_261 : decode b_M_goes 261 = .ok (.if_icmp .gt 31, 3) := by decide +kernel
theorem d_M_goes_264 : decode b_M_goes 264 = .ok (.aload_n 0, 1) := by decide +kernel
theorem d_M_goes_265 : decode b_M_goes 265 = .ok (.aload_n 0, 1) := by decide +kernel
theorem d_M_goes_266 : decode b_M_goes 266 = .ok (.getfield 17, 3) := by decide +kernel
theorem d_M_goes_269 : decode b_M_goes 269 = .ok (.iload 6, 2) := by decide +kernel
theorem d_M_goes_271 : decode b_M_goes 271 = .ok (.iaload, 1) := by decide +kernel
theorem d_M_goes_272 : decode b_M_goes 272 = .ok (.aload_n 0, 1) := by decide +kernel
theorem d_M_goes_273 : decode b_M_goes 273 = .ok (.getfield 20, 3) := by decide +kernel
theorem d_M_goes_276 : decode b_M_goes 276 = .ok (.iload 6, 2) := by decide +kernel
theorem d_M_goes_278 : decode b_M_goes 278 = .ok (.iaload, 1) := by decide +kernel
theorem d_M_goes_279 : decode b_M_goes 279 = .ok (.aload_n 0, 1) := by decide +kernel
theorem d_M_goes_280 : decode b_M_goes 280 = .ok (.getfield 23, 3) := by decide +kernel
theorem d_M_goes_283 : decode b_M_goes 283 = .ok (.iload 6, 2) := by decide +kernel
theorem d_M_goes_285 : decode b_M_goes 285 = .ok (.iaload, 1) := by decide +kernel
theorem d_M_goes_286 : decode b_M_goes 286 = .ok (.invokevirtual 84, 3) := by decide +kernel
theorem d_M_goes_289 : decode b_M_goes 289 = .ok (.ifCond .eq 7, 3) := by decide +kernel
theorem d_M_goes_292 : decode b_M_goes 292 = .ok (.iconst 1, 1) := by decide +kernel
theorem d_M_goes_293 : decode b_M_goes 293 = .ok (.goto 4, 3) := by decide +kernel
theorem d_M_goes_296 : decode b_M_goes 296 = .ok (.iconst 0, 1) := by decide +kernel
theorem d_M_goes_297 : decode b_M_goes 297 = .ok (.istore_n 2, 1) := by decide +kernel
theorem d_M_goes_298 : decode b_M_goes 298 = .ok (.iinc 5 1, 3) := by decide +kernel
theorem d_M_goes_301 : decode b_M_goes 301 = .ok (.goto (-83), 3) := by decide +kernel
theorem d_M_goes_304 : decode b_M_goes 304 = .ok (.iinc 3 1, 3) := by decide +kernel
theorem d_M_goes_307 : decode b_M_goes 307 = .ok (.goto (-113), 3) := by decide +kernel
theorem d_M_goes_310 : decode b_M_goes 310 = .ok (.iload_n 2, 1) := by decide +kernel
theorem d_M_goes_311 : decode b_M_goes 311 = .ok (.ireturn, 1) := by decide +kernel
theorem d_M_isTight_0 : decode b_M_isTight 0 = .ok (.iconst 0, 1) := by decide +kernel
theorem d_M_isTight_1 : decode b_M_isTight 1 = .ok (.istore_n 1, 1) := by decide +kernel
theorem d_M_isTight_2 : decode b_M_isTight 2 = .ok (.iload_n 1, 1) := by decide +kernel
theorem d_M_isTight_3 : decode b_M_isTight 3 = .ok (.bipush 7, 2) := by decide +kernel
theorem d_M_isTight_5 : decode b_M_isTight 5 = .ok (.if_icmp .ge 16, 3) := by decide +kernel
theorem d_M_isTight_8 : decode b_M_isTight 8 = .ok (.aload_n 0, 1) := by decide +kernel
theorem d_M_isTight_9 : decode b_M_isTight 9 = .ok (.getfield 44, 3) := by decide +kernel
theorem d_M_isTight_12 : decode b_M_isTight 12 = .ok (.iload_n 1, 1) := by decide +kernel
theorem d_M_isTight_13 : decode b_M_isTight 13 = .ok (.iconst 0, 1) := by decide +kernel
theorem d_M_isTight_14 : decode b_M_isTight 14 = .ok (.bastore, 1) := by decide +kernel
theorem d_M_isTight_15 : decode b_M_isTight 15 = .ok (.iinc 1 1, 3) := by decide +kernel
theorem d_M_isTight_18 : decode b_M_isTight 18 = .ok (.goto (-16), 3) := by decide +kernel
theorem d_M_isTight_21 : decode b_M_isTight 21 = .ok (.iconst 0, 1) := by decide +kernel
theorem d_M_isTight_22 : decode b_M_isTight 22 = .ok (.istore_n 1, 1) := by decide +kernel
theorem d_M_isTight_23 : decode b_M_isTight 23 = .ok (.iload_n 1, 1) := by decide +kernel
theorem d_M_isTight_24 : decode b_M_isTight 24 = .ok (.aload_n 0, 1) := by decide +kernel
theorem d_M_isTight_25 : decode b_M_isTight 25 = .ok (.getfield 75, 3) := by decide +kernel
theorem d_M_isTight_28 : decode b_M_isTight 28 = .ok (.if_icmp .ge 29, 3) := by decide +kernel
theorem d_M_isTight_31 : decode b_M_isTight 31 = .ok (.aload_n 0, 1) := by decide +kernel
theorem d_M_isTight_32 : decode b_M_isTight 32 = .ok (.iload_n 1, 1) := by decide +kernel
theorem d_M_isTight_33 : decode b_M_isTight 33 = .ok (.invokevirtual 81, 3) := by decide +kernel
theorem d_M_isTight_36 : decode b_M_isTight 36 = .ok (.ifCond .eq 15, 3) := by decide +kernel
theorem d_M_isTight_39 : decode b_M_isTight 39 = .ok (.aload_n 0, 1) := by decide +kernel
theorem d_M_isTight_40 : decode b_M_isTight 40 = .ok (.getfield 44, 3) := by decide +kernel
theorem d_M_isTight_43 : decode b_M_isTight 43 = .ok (.aload_n 0, 1) := by decide +kernel
theorem d_M_isTight_44 : decode b_M_isTight 44 = .ok (.getfield 26, 3) := by decide +kernel
theorem d_M_isTight_47 : decode b_M_isTight 47 = .ok (.iload_n 1, 1) := by decide +kernel
theorem d_M_isTight_48 : decode b_M_isTight 48 = .ok (.iaload, 1) := by decide +kernel
theorem d_M_isTight_49 : decode b_M_isTight 49 = .ok (.iconst 1, 1) := by decide +kernel
theorem d_M_isTight_50 : decode b_M_isTight 50 = .ok (.bastore, 1) := by decide +kernel
theorem d_M_isTight_51 : decode b_M_isTight 51 = .ok (.iinc 1 1, 3) := by decide +kernel
theorem d_M_isTight_54 : decode b_M_isTight 54 = .ok (.goto (-31), 3) := by decide +kernel
theorem d_M_isTight_57 : decode b_M_isTight 57 = .ok (.iconst 1, 1) := by decide +kernel
theorem d_M_isTight_58 : decode b_M_isTight 58 = .ok (.istore_n 1, 1) := by decide +kernel
theorem d_M_isTight_59 : decode b_M_isTight 59 = .ok (.iload_n 1, 1) := by decide +kernel
theorem d_M_isTight_60 : decode b_M_isTight 60 = .ok (.ifCond .eq 116, 3) := by decide +kernel
theorem d_M_isTight_63 : decode b_M_isTight 63 = .ok (.iconst 0, 1) := by decide +kernel
theorem d_M_isTight_64 : decode b_M_isTight 64 = .ok (.istore_n 1, 1) := by decide +kernel
theorem d_M_isTight_65 : decode b_M_isTight 65 = .ok (.iconst 0, 1) := by decide +kernel
theorem d_M_isTight_66 : decode b_M_isTight 66 = .ok (.istore_n 2, 1) := by decide +kernel
theorem d_M_isTight_67 : decode b_M_isTight 67 = .ok (.iload_n 2, 1) := by decide +kernel
theorem d_M_isTight_68 : decode b_M_isTight 68 = .ok (.bipush 7, 2) := by decide +kernel
theorem d_M_isTight_70 : decode b_M_isTight 70 = .ok (.if_icmp .ge 103, 3) := by decide +kernel
theorem d_M_isTight_73 : decode b_M_isTight 73 = .ok (.aload_n 0, 1) := by decide +kernel
theorem d_M_isTight_74 : decode b_M_isTight 74 = .ok (.getfield 44, 3) := by decide +kernel
theorem d_M_isTight_77 : decode b_M_isTight 77 = .ok (.iload_n 2, 1) := by decide +kernel
theorem d_M_isTight_78 : decode b_M_isTight 78 = .ok (.baload, 1) := by decide +kernel
theorem d_M_isTight_79 : decode b_M_isTight 79 = .ok (.ifCond .eq 88, 3) := by decide +kernel
theorem d_M_isTight_82 : decode b_M_isTight 82 = .ok (.aload_n 0, 1) := by decide +kernel
theorem d_M_isTight_83 : decode b_M_isTight 83 = .ok (.getfield 41, 3) := by decide +kernel
theorem d_M_isTight_86 : decode b_M_isTight 86 = .ok (.iload_n 2, 1) := by decide +kernel
theorem d_M_isTight_87 : decode b_M_isTight 87 = .ok (.iaload, 1) := by decide +kernel
theorem d_M_isTight_88 : decode b_M_isTight 88 = .ok (.iconst (-1), 1) := by decide +kernel
theorem d_M_isTight_89 : decode b_M_isTight 89 = .ok (.if_icmp .ne 6, 3) := by decide +kernel
theorem d_M_isTight_92 : decode b_M_isTight 92 = .ok (.goto 75, 3) := by decide +kernel
theorem d_M_isTight_95 : decode b_M_isTight 95 = .ok (.iconst 4, 1) := by decide +kernel
theorem d_M_isTight_96 : decode b_M_isTight 96 = .ok (.iload_n 2, 1) := by decide +kernel
theorem d_M_isTight_97 : decode b_M_isTight 97 = .ok (.imul, 1) := by decide +kernel
theorem d_M_isTight_98 : decode b_M_isTight 98 = .ok (.aload_n 0, 1) := by decide +kernel
theorem d_M_isTight_99 : decode b_M_isTight 99 = .ok (.getfield 41, 3) := by decide +kernel
theorem d_M_isTight_102 : decode b_M_isTight 102 = .ok (.iload_n 2, 1) := by decide +kernel
theorem d_M_isTight_103 : decode b_M_isTight 103 = .ok (.iaload, 1) := by decide +kernel
theorem d_M_isTight_104 : decode b_M_isTight 104 = .ok (.iadd, 1) := by decide +kernel
theorem d_M_isTight_105 : decode b_M_isTight 105 = .ok (.istore_n 3, 1) := by decide +kernel
theorem d_M_isTight_106 : decode b_M_isTight 106 = .ok (.iconst 0, 1) := by decide +kernel
theorem d_M_isTight_107 : decode b_M_isTight 107 = .ok (.istore 4, 2) := by decide +kernel
theorem d_M_isTight_109 : decode b_M_isTight 109 = .ok (.iload 4, 2) := by decide +kernel
theorem d_M_isTight_111 : decode b_M_isTight 111 = .ok (.aload_n 0, 1) := by decide +kernel
theorem d_M_isTight_112 : decode b_M_isTight 112 = .ok (.getfield 13, 3) := by decide +kernel
theorem d_M_isTight_115 : decode b_M_isTight 115 = .ok (.iload_n 3, 1) := by decide +kernel
theorem d_M_isTight_116 : decode b_M_isTight 116 = .ok (.iaload, 1) := by decide +kernel
theorem d_M_isTight_117 : decode b_M_isTight 117 = .ok (.if_icmp .ge 50, 3) := by decide +kernel
theorem d_M_isTight_120 : decode b_M_isTight 120 = .ok (.aload_n 0, 1) := by decide +kernel
theorem d_M_isTight_121 : decode b_M_isTight 121 = .ok (.getfield 17, 3) := by decide +kernel
theorem d_M_isTight_124 : decode b_M_isTight 124 = .ok (.iconst 4, 1) := by decide +kernel
