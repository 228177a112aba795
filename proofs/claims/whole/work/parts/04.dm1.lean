theorem d_M_isTight_125 : decode b_M_isTight 125 = .ok (.iload_n 3, 1) := by decide +kernel
theorem d_M_isTight_126 : decode b_M_isTight 126 = .ok (.imul, 1) := by decide +kernel
theorem d_M_isTight_127 : decode b_M_isTight 127 = .ok (.iload 4, 2) := by decide +kernel
theorem d_M_isTight_129 : decode b_M_isTight 129 = .ok (.iadd, 1) := by decide +kernel
theorem d_M_isTight_130 : decode b_M_isTight 130 = .ok (.iaload, 1) := by decide +kernel
theorem d_M_isTight_131 : decode b_M_isTight 131 = .ok (.istore 5, 2) := by decide +kernel
theorem d_M_isTight_133 : decode b_M_isTight 133 = .ok (.iload_n 1, 1) := by decide +kernel
theorem d_M_isTight_134 : decode b_M_isTight 134 = .ok (.ifCond .ne 13, 3) := by decide +kernel
theorem d_M_isTight_137 : decode b_M_isTight 137 = .ok (.aload_n 0, 1) := by decide +kernel
theorem d_M_isTight_138 : decode b_M_isTight 138 = .ok (.getfield 44, 3) := by decide +kernel
theorem d_M_isTight_141 : decode b_M_isTight 141 = .ok (.iload 5, 2) := by decide +kernel
theorem d_M_isTight_143 : decode b_M_isTight 143 = .ok (.baload, 1) := by decide +kernel
theorem d_M_isTight_144 : decode b_M_isTight 144 = .ok (.ifCond .ne 7, 3) := by decide +kernel
theorem d_M_isTight_147 : decode b_M_isTight 147 = .ok (.iconst 1, 1) := by decide +kernel
theorem d_M_isTight_148 : decode b_M_isTight 148 = .ok (.goto 4, 3) := by decide +kernel
theorem d_M_isTight_151 : decode b_M_isTight 151 = .ok (.iconst 0, 1) := by decide +kernel
theorem d_M_isTight_152 : decode b_M_isTight 152 = .ok (.istore_n 1, 1) := by decide +kernel
theorem d_M_isTight_153 : decode b_M_isTight 153 = .ok (.aload_n 0, 1) := by decide +kernel
theorem d_M_isTight_154 : decode b_M_isTight 154 = .ok (.getfield 44, 3) := by decide +kernel
theorem d_M_isTight_157 : decode b_M_isTight 157 = .ok (.iload 5, 2) := by decide +kernel
theorem d_M_isTight_159 : decode b_M_isTight 159 = .ok (.iconst 1, 1) := by decide +kernel
theorem d_M_isTight_160 : decode b_M_isTight 160 = .ok (.bastore, 1) := by decide +kernel
theorem d_M_isTight_161 : decode b_M_isTight 161 = .ok (.iinc 4 1, 3) := by decide +kernel
theorem d_M_isTight_164 : decode b_M_isTight 164 = .ok (.goto (-55), 3) := by decide +kernel
theorem d_M_isTight_167 : decode b_M_isTight 167 = .ok (.iinc 2 1, 3) := by decide +kernel
theorem d_M_isTight_170 : decode b_M_isTight 170 = .ok (.goto (-103), 3) := by decide +kernel
theorem d_M_isTight_173 : decode b_M_isTight 173 = .ok (.goto (-114), 3) := by decide +kernel
theorem d_M_isTight_176 : decode b_M_isTight 176 = .ok (.iconst 1, 1) := by decide +kernel
theorem d_M_isTight_177 : decode b_M_isTight 177 = .ok (.istore_n 2, 1) := by decide +kernel
theorem d_M_isTight_178 : decode b_M_isTight 178 = .ok (.iconst 0, 1) := by decide +kernel
theorem d_M_isTight_179 : decode b_M_isTight 179 = .ok (.istore_n 3, 1) := by decide +kernel
theorem d_M_isTight_180 : decode b_M_isTight 180 = .ok (.iload_n 3, 1) := by decide +kernel
theorem d_M_isTight_181 : decode b_M_isTight 181 = .ok (.bipush 7, 2) := by decide +kernel
theorem d_M_isTight_183 : decode b_M_isTight 183 = .ok (.if_icmp .ge 38, 3) := by decide +kernel
theorem d_M_isTight_186 : decode b_M_isTight 186 = .ok (.iload_n 2, 1) := by decide +kernel
theorem d_M_isTight_187 : decode b_M_isTight 187 = .ok (.ifCond .eq 26, 3) := by decide +kernel
theorem d_M_isTight_190 : decode b_M_isTight 190 = .ok (.aload_n 0, 1) := by decide +kernel
theorem d_M_isTight_191 : decode b_M_isTight 191 = .ok (.getfield 44, 3) := by decide +kernel
theorem d_M_isTight_194 : decode b_M_isTight 194 = .ok (.iload_n 3, 1) := by decide +kernel
theorem d_M_isTight_195 : decode b_M_isTight 195 = .ok (.baload, 1) := by decide +kernel
theorem d_M_isTight_196 : decode b_M_isTight 196 = .ok (.ifCond .ne 13, 3) := by decide +kernel
theorem d_M_isTight_199 : decode b_M_isTight 199 = .ok (.aload_n 0, 1) := by decide +kernel
theorem d_M_isTight_200 : decode b_M_isTight 200 = .ok (.getfield 41, 3) := by decide +kernel
theorem d_M_isTight_203 : decode b_M_isTight 203 = .ok (.iload_n 3, 1) := by decide +kernel
theorem d_M_isTight_204 : decode b_M_isTight 204 = .ok (.iaload, 1) := by decide +kernel
theorem d_M_isTight_205 : decode b_M_isTight 205 = .ok (.iconst (-1), 1) := by decide +kernel
theorem d_M_isTight_206 : decode b_M_isTight 206 = .ok (.if_icmp .ne 7, 3) := by decide +kernel
theorem d_M_isTight_209 : decode b_M_isTight 209 = .ok (.iconst 1, 1) := by decide +kernel
theorem d_M_isTight_210 : decode b_M_isTight 210 = .ok (.goto 4, 3) := by decide +kernel
theorem d_M_isTight_213 : decode b_M_isTight 213 = .ok (.iconst 0, 1) := by decide +kernel
theorem d_M_isTight_214 : decode b_M_isTight 214 = .ok (.istore_n 2, 1) := by decide +kernel
theorem d_M_isTight_215 : decode b_M_isTight 215 = .ok (.iinc 3 1, 3) := by decide +kernel
theorem d_M_isTight_218 : decode b_M_isTight 218 = .ok (.goto (-38), 3) := by decide +kernel
theorem d_M_isTight_221 : decode b_M_isTight 221 = .ok (.iload_n 2, 1) := by decide +kernel
theorem d_M_isTight_222 : decode b_M_isTight 222 = .ok (.ireturn, 1) := by decide +kernel
theorem d_M_begin_0 : decode b_M_begin 0 = .ok (.aload_n 0, 1) := by decide +kernel
theorem d_M_begin_1 : decode b_M_begin 1 = .ok (.iload_n 1, 1) := by decide +kernel
theorem d_M_begin_2 : decode b_M_begin 2 = .ok (.putfield 78, 3) := by decide +kernel
theorem d_M_begin_5 : decode b_M_begin 5 = .ok (.aload_n 0, 1) := by decide +kernel
theorem d_M_begin_6 : decode b_M_begin 6 = .ok (.iconst 0, 1) := by decide +kernel
theorem d_M_begin_7 : decode b_M_begin 7 = .ok (.putfield 87, 3) := by decide +kernel
theorem d_M_begin_10 : decode b_M_begin 10 = .ok (.aload_n 0, 1) := by decide +kernel
theorem d_M_begin_11 : decode b_M_begin 11 = .ok (.getfield 41, 3) := by decide +kernel
theorem d_M_begin_14 : decode b_M_begin 14 = .ok (.iconst 0, 1) := by decide +kernel
theorem d_M_begin_15 : decode b_M_begin 15 = .ok (.iconst 4, 1) := by decide +kernel
theorem d_M_begin_16 : decode b_M_begin 16 = .ok (.iastore, 1) := by decide +kernel
theorem d_M_begin_17 : decode b_M_begin 17 = .ok (.return_, 1) := by decide +kernel
theorem d_M_finds_0 : decode b_M_finds 0 = .ok (.aload_n 0, 1) := by decide +kernel
theorem d_M_finds_1 : decode b_M_finds 1 = .ok (.getfield 87, 3) := by decide +kernel
theorem d_M_finds_4 : decode b_M_finds 4 = .ok (.ifCond .lt 99, 3) := by decide +kernel
theorem d_M_finds_7 : decode b_M_finds 7 = .ok (.aload_n 0, 1) := by decide +kernel
theorem d_M_finds_8 : decode b_M_finds 8 = .ok (.getfield 41, 3) := by decide +kernel
theorem d_M_finds_11 : decode b_M_finds 11 = .ok (.aload_n 0, 1) := by decide +kernel
theorem d_M_finds_12 : decode b_M_finds 12 = .ok (.getfield 87, 3) := by decide +kernel
theorem d_M_finds_15 : decode b_M_finds 15 = .ok (.iaload, 1) := by decide +kernel
theorem d_M_finds_16 : decode b_M_finds 16 = .ok (.iconst (-1), 1) := by decide +kernel
theorem d_M_finds_17 : decode b_M_finds 17 = .ok (.if_icmp .ne 16, 3) := by decide +kernel
theorem d_M_finds_20 : decode b_M_finds 20 = .ok (.aload_n 0, 1) := by decide +kernel
theorem d_M_finds_21 : decode b_M_finds 21 = .ok (.dup, 1) := by decide +kernel
theorem d_M_finds_22 : decode b_M_finds 22 = .ok (.getfield 87, 3) := by decide +kernel
theorem d_M_finds_25 : decode b_M_finds 25 = .ok (.iconst 1, 1) := by decide +kernel
theorem d_M_finds_26 : decode b_M_finds 26 = .ok (.isub, 1) := by decide +kernel
theorem d_M_finds_27 : decode b_M_finds 27 = .ok (.putfield 87, 3) := by decide +kernel
theorem d_M_finds_30 : decode b_M_finds 30 = .ok (.goto (-30), 3) := by decide +kernel
theorem d_M_finds_33 : decode b_M_finds 33 = .ok (.aload_n 0, 1) := by decide +kernel
theorem d_M_finds_34 : decode b_M_finds 34 = .ok (.getfield 41, 3) := by decide +kernel
theorem d_M_finds_37 : decode b_M_finds 37 = .ok (.aload_n 0, 1) := by decide +kernel
theorem d_M_finds_38 : decode b_M_finds 38 = .ok (.getfield 87, 3) := by decide +kernel
theorem d_M_finds_41 : decode b_M_finds 41 = .ok (.dup2, 1) := by decide +kernel
theorem d_M_finds_42 : decode b_M_finds 42 = .ok (.iaload, 1) := by decide +kernel
theorem d_M_finds_43 : decode b_M_finds 43 = .ok (.iconst 1, 1) := by decide +kernel
theorem d_M_finds_44 : decode b_M_finds 44 = .ok (.isub, 1) := by decide +kernel
theorem d_M_finds_45 : decode b_M_finds 45 = .ok (.iastore, 1) := by decide +kernel
theorem d_M_finds_46 : decode b_M_finds 46 = .ok (.aload_n 0, 1) := by decide +kernel
theorem d_M_finds_47 : decode b_M_finds 47 = .ok (.aload_n 0, 1) := by decide +kernel
theorem d_M_finds_48 : decode b_M_finds 48 = .ok (.getfield 87, 3) := by decide +kernel
theorem d_M_finds_51 : decode b_M_finds 51 = .ok (.invokevirtual 90, 3) := by decide +kernel
theorem d_M_finds_54 : decode b_M_finds 54 = .ok (.ifCond .ne 6, 3) := by decide +kernel
theorem d_M_finds_57 : decode b_M_finds 57 = .ok (.goto (-57), 3) := by decide +kernel
theorem d_M_finds_60 : decode b_M_finds 60 = .ok (.aload_n 0, 1) := by decide +kernel
theorem d_M_finds_61 : decode b_M_finds 61 = .ok (.getfield 87, 3) := by decide +kernel
theorem d_M_finds_64 : decode b_M_finds 64 = .ok (.iconst 1, 1) := by decide +kernel
theorem d_M_finds_65 : decode b_M_finds 65 = .ok (.iadd, 1) := by decide +kernel
theorem d_M_finds_66 : decode b_M_finds 66 = .ok (.bipush 7, 2) := by decide +kernel
theorem d_M_finds_68 : decode b_M_finds 68 = .ok (.if_icmp .ge 26, 3) := by decide +kernel
theorem d_M_finds_71 : decode b_M_finds 71 = .ok (.aload_n 0, 1) := by decide +kernel
theorem d_M_finds_72 : decode b_M_finds 72 = .ok (.dup, 1) := by decide +kernel
theorem d_M_finds_73 : decode b_M_finds 73 = .ok (.getfield 87, 3) := by decide +kernel
theorem d_M_finds_76 : decode b_M_finds 76 = .ok (.iconst 1, 1) := by decide +kernel
theorem d_M_finds_77 : decode b_M_finds 77 = .ok (.iadd, 1) := by decide +kernel
theorem d_M_finds_78 : decode b_M_finds 78 = .ok (.putfield 87, 3) := by decide +kernel
theorem d_M_finds_81 : decode b_M_finds 81 = .ok (.aload_n 0, 1) := by decide +kernel
theorem d_M_finds_82 : decode b_M_finds 82 = .ok (.getfield 41, 3) := by decide +kernel
theorem d_M_finds_85 : decode b_M_finds 85 = .ok (.aload_n 0, 1) := by decide +kernel
theorem d_M_finds_86 : decode b_M_finds 86 = .ok (.getfield 87, 3) := by decide +kernel
theorem d_M_finds_89 : decode b_M_finds 89 = .ok (.iconst 4, 1) := by decide +kernel
theorem d_M_finds_90 : decode b_M_finds 90 = .ok (.iastore, 1) := by decide +kernel
theorem d_M_finds_91 : decode b_M_finds 91 = .ok (.goto (-91), 3) := by decide +kernel
theorem d_M_finds_94 : decode b_M_finds 94 = .ok (.aload_n 0, 1) := by decide +kernel
theorem d_M_finds_95 : decode b_M_finds 95 = .ok (.invokevirtual 93, 3) := by decide +kernel
theorem d_M_finds_98 : decode b_M_finds 98 = .ok (.ifCond .eq (-98), 3) := by decide +kernel
theorem d_M_finds_101 : decode b_M_finds 101 = .ok (.iconst 1, 1) := by decide +kernel
theorem d_M_finds_102 : decode b_M_finds 102 = .ok (.ireturn, 1) := by decide +kernel
theorem d_M_finds_103 : decode b_M_finds 103 = .ok (.iconst 0, 1) := by decide +kernel
theorem d_M_finds_104 : decode b_M_finds 104 = .ok (.ireturn, 1) := by decide +kernel
theorem d_M_all_0 : decode b_M_all 0 = .ok (.iconst 1, 1) := by decide +kernel
theorem d_M_all_1 : decode b_M_all 1 = .ok (.aload_n 0, 1) := by decide +kernel
theorem d_M_all_2 : decode b_M_all 2 = .ok (.getfield 75, 3) := by decide +kernel
theorem d_M_all_5 : decode b_M_all 5 = .ok (.ishl, 1) := by decide +kernel
theorem d_M_all_6 : decode b_M_all 6 = .ok (.iconst 1, 1) := by decide +kernel
theorem d_M_all_7 : decode b_M_all 7 = .ok (.isub, 1) := by decide +kernel
theorem d_M_all_8 : decode b_M_all 8 = .ok (.ireturn, 1) := by decide +kernel
theorem d_M_cost_0 : decode b_M_cost 0 = .ok (.iconst 0, 1) := by decide +kernel
theorem d_M_cost_1 : decode b_M_cost 1 = .ok (.istore_n 2, 1) := by decide +kernel
theorem d_M_cost_2 : decode b_M_cost 2 = .ok (.iconst 0, 1) := by decide +kernel
theorem d_M_cost_3 : decode b_M_cost 3 = .ok (.istore_n 3, 1) := by decide +kernel
theorem d_M_cost_4 : decode b_M_cost 4 = .ok (.iload_n 3, 1) := by decide +kernel
theorem d_M_cost_5 : decode b_M_cost 5 = .ok (.bipush 7, 2) := by decide +kernel
theorem d_M_cost_7 : decode b_M_cost 7 = .ok (.if_icmp .ge 52, 3) := by decide +kernel
theorem d_M_cost_10 : decode b_M_cost 10 = .ok (.iload_n 2, 1) := by decide +kernel
theorem d_M_cost_11 : decode b_M_cost 11 = .ok (.iload_n 1, 1) := by decide +kernel
theorem d_M_cost_12 : decode b_M_cost 12 = .ok (.iconst 1, 1) := by decide +kernel
theorem d_M_cost_13 : decode b_M_cost 13 = .ok (.if_icmp .ne 13, 3) := by decide +kernel
theorem d_M_cost_16 : decode b_M_cost 16 = .ok (.aload_n 0, 1) := by decide +kernel
theorem d_M_cost_17 : decode b_M_cost 17 = .ok (.getfield 41, 3) := by decide +kernel
theorem d_M_cost_20 : decode b_M_cost 20 = .ok (.iload_n 3, 1) := by decide +kernel
theorem d_M_cost_21 : decode b_M_cost 21 = .ok (.iaload, 1) := by decide +kernel
theorem d_M_cost_22 : decode b_M_cost 22 = .ok (.iconst (-1), 1) := by decide +kernel
theorem d_M_cost_23 : decode b_M_cost 23 = .ok (.if_icmp .ne 23, 3) := by decide +kernel
theorem d_M_cost_26 : decode b_M_cost 26 = .ok (.iload_n 1, 1) := by decide +kernel
theorem d_M_cost_27 : decode b_M_cost 27 = .ok (.iconst 2, 1) := by decide +kernel
theorem d_M_cost_28 : decode b_M_cost 28 = .ok (.if_icmp .ne 22, 3) := by decide +kernel
theorem d_M_cost_31 : decode b_M_cost 31 = .ok (.aload_n 0, 1) := by decide +kernel
theorem d_M_cost_32 : decode b_M_cost 32 = .ok (.getfield 41, 3) := by decide +kernel
theorem d_M_cost_35 : decode b_M_cost 35 = .ok (.iload_n 3, 1) := by decide +kernel
theorem d_M_cost_36 : decode b_M_cost 36 = .ok (.iaload, 1) := by decide +kernel
theorem d_M_cost_37 : decode b_M_cost 37 = .ok (.aload_n 0, 1) := by decide +kernel
theorem d_M_cost_38 : decode b_M_cost 38 = .ok (.getfield 50, 3) := by decide +kernel
theorem d_M_cost_41 : decode b_M_cost 41 = .ok (.iload_n 3, 1) := by decide +kernel
theorem d_M_cost_42 : decode b_M_cost 42 = .ok (.iaload, 1) := by decide +kernel
theorem d_M_cost_43 : decode b_M_cost 43 = .ok (.if_icmp .eq 7, 3) := by decide +kernel
theorem d_M_cost_46 : decode b_M_cost 46 = .ok (.iconst 1, 1) := by decide +kernel
theorem d_M_cost_47 : decode b_M_cost 47 = .ok (.goto 4, 3) := by decide +kernel
theorem d_M_cost_50 : decode b_M_cost 50 = .ok (.iconst 0, 1) := by decide +kernel
theorem d_M_cost_51 : decode b_M_cost 51 = .ok (.iadd, 1) := by decide +kernel
theorem d_M_cost_52 : decode b_M_cost 52 = .ok (.istore_n 2, 1) := by decide +kernel
theorem d_M_cost_53 : decode b_M_cost 53 = .ok (.iinc 3 1, 3) := by decide +kernel
theorem d_M_cost_56 : decode b_M_cost 56 = .ok (.goto (-52), 3) := by decide +kernel
theorem d_M_cost_59 : decode b_M_cost 59 = .ok (.iload_n 2, 1) := by decide +kernel
theorem d_M_cost_60 : decode b_M_cost 60 = .ok (.ireturn, 1) := by decide +kernel
theorem d_M_sizeOf_0 : decode b_M_sizeOf 0 = .ok (.iconst 0, 1) := by decide +kernel
theorem d_M_sizeOf_1 : decode b_M_sizeOf 1 = .ok (.istore_n 1, 1) := by decide +kernel
theorem d_M_sizeOf_2 : decode b_M_sizeOf 2 = .ok (.iconst 0, 1) := by decide +kernel
theorem d_M_sizeOf_3 : decode b_M_sizeOf 3 = .ok (.istore_n 2, 1) := by decide +kernel
theorem d_M_sizeOf_4 : decode b_M_sizeOf 4 = .ok (.iload_n 2, 1) := by decide +kernel
theorem d_M_sizeOf_5 : decode b_M_sizeOf 5 = .ok (.bipush 6, 2) := by decide +kernel
theorem d_M_sizeOf_7 : decode b_M_sizeOf 7 = .ok (.if_icmp .ge 17, 3) := by decide +kernel
theorem d_M_sizeOf_10 : decode b_M_sizeOf 10 = .ok (.iload_n 1, 1) := by decide +kernel
theorem d_M_sizeOf_11 : decode b_M_sizeOf 11 = .ok (.iload_n 0, 1) := by decide +kernel
theorem d_M_sizeOf_12 : decode b_M_sizeOf 12 = .ok (.iload_n 2, 1) := by decide +kernel
theorem d_M_sizeOf_13 : decode b_M_sizeOf 13 = .ok (.ishr, 1) := by decide +kernel
theorem d_M_sizeOf_14 : decode b_M_sizeOf 14 = .ok (.iconst 1, 1) := by decide +kernel
theorem d_M_sizeOf_15 : decode b_M_sizeOf 15 = .ok (.iand, 1) := by decide +kernel
theorem d_M_sizeOf_16 : decode b_M_sizeOf 16 = .ok (.iadd, 1) := by decide +kernel
theorem d_M_sizeOf_17 : decode b_M_sizeOf 17 = .ok (.istore_n 1, 1) := by decide +kernel
theorem d_M_sizeOf_18 : decode b_M_sizeOf 18 = .ok (.iinc 2 1, 3) := by decide +kernel
theorem d_M_sizeOf_21 : decode b_M_sizeOf 21 = .ok (.goto (-17), 3) := by decide +kernel
theorem d_M_sizeOf_24 : decode b_M_sizeOf 24 = .ok (.iload_n 1, 1) := by decide +kernel
theorem d_M_sizeOf_25 : decode b_M_sizeOf 25 = .ok (.ireturn, 1) := by decide +kernel
theorem d_M_isAhead_0 : decode b_M_isAhead 0 = .ok (.iconst 0, 1) := by decide +kernel
theorem d_M_isAhead_1 : decode b_M_isAhead 1 = .ok (.istore_n 2, 1) := by decide +kernel
theorem d_M_isAhead_2 : decode b_M_isAhead 2 = .ok (.iload_n 0, 1) := by decide +kernel
theorem d_M_isAhead_3 : decode b_M_isAhead 3 = .ok (.iload_n 2, 1) := by decide +kernel
theorem d_M_isAhead_4 : decode b_M_isAhead 4 = .ok (.ishr, 1) := by decide +kernel
theorem d_M_isAhead_5 : decode b_M_isAhead 5 = .ok (.iconst 1, 1) := by decide +kernel
theorem d_M_isAhead_6 : decode b_M_isAhead 6 = .ok (.iand, 1) := by decide +kernel
theorem d_M_isAhead_7 : decode b_M_isAhead 7 = .ok (.iload_n 1, 1) := by decide +kernel
theorem d_M_isAhead_8 : decode b_M_isAhead 8 = .ok (.iload_n 2, 1) := by decide +kernel
theorem d_M_isAhead_9 : decode b_M_isAhead 9 = .ok (.ishr, 1) := by decide +kernel
theorem d_M_isAhead_10 : decode b_M_isAhead 10 = .ok (.iconst 1, 1) := by decide +kernel
theorem d_M_isAhead_11 : decode b_M_isAhead 11 = .ok (.iand, 1) := by decide +kernel
theorem d_M_isAhead_12 : decode b_M_isAhead 12 = .ok (.if_icmp .ne 9, 3) := by decide +kernel
theorem d_M_isAhead_15 : decode b_M_isAhead 15 = .ok (.iinc 2 1, 3) := by decide +kernel
theorem d_M_isAhead_18 : decode b_M_isAhead 18 = .ok (.goto (-16), 3) := by decide +kernel
theorem d_M_isAhead_21 : decode b_M_isAhead 21 = .ok (.iload_n 0, 1) := by decide +kernel
theorem d_M_isAhead_22 : decode b_M_isAhead 22 = .ok (.iload_n 2, 1) := by decide +kernel
theorem d_M_isAhead_23 : decode b_M_isAhead 23 = .ok (.ishr, 1) := by decide +kernel
theorem d_M_isAhead_24 : decode b_M_isAhead 24 = .ok (.iconst 1, 1) := by decide +kernel
theorem d_M_isAhead_25 : decode b_M_isAhead 25 = .ok (.iand, 1) := by decide +kernel
theorem d_M_isAhead_26 : decode b_M_isAhead 26 = .ok (.iconst 1, 1) := by decide +kernel
theorem d_M_isAhead_27 : decode b_M_isAhead 27 = .ok (.if_icmp .ne 7, 3) := by decide +kernel
theorem d_M_isAhead_30 : decode b_M_isAhead 30 = .ok (.iconst 1, 1) := by decide +kernel
theorem d_M_isAhead_31 : decode b_M_isAhead 31 = .ok (.goto 4, 3) := by decide +kernel
theorem d_M_isAhead_34 : decode b_M_isAhead 34 = .ok (.iconst 0, 1) := by decide +kernel
theorem d_M_isAhead_35 : decode b_M_isAhead 35 = .ok (.ireturn, 1) := by decide +kernel
theorem d_M_findCore_0 : decode b_M_findCore 0 = .ok (.aload_n 0, 1) := by decide +kernel
theorem d_M_findCore_1 : decode b_M_findCore 1 = .ok (.aload_n 0, 1) := by decide +kernel
theorem d_M_findCore_2 : decode b_M_findCore 2 = .ok (.invokevirtual 97, 3) := by decide +kernel
theorem d_M_findCore_5 : decode b_M_findCore 5 = .ok (.putfield 101, 3) := by decide +kernel
theorem d_M_findCore_8 : decode b_M_findCore 8 = .ok (.iconst 1, 1) := by decide +kernel
theorem d_M_findCore_9 : decode b_M_findCore 9 = .ok (.istore_n 1, 1) := by decide +kernel
theorem d_M_findCore_10 : decode b_M_findCore 10 = .ok (.iload_n 1, 1) := by decide +kernel
theorem d_M_findCore_11 : decode b_M_findCore 11 = .ok (.aload_n 0, 1) := by decide +kernel
theorem d_M_findCore_12 : decode b_M_findCore 12 = .ok (.invokevirtual 97, 3) := by decide +kernel
theorem d_M_findCore_15 : decode b_M_findCore 15 = .ok (.if_icmp .ge 67, 3) := by decide +kernel
theorem d_M_findCore_18 : decode b_M_findCore 18 = .ok (.iload_n 1, 1) := by decide +kernel
theorem d_M_findCore_19 : decode b_M_findCore 19 = .ok (.invokestatic 104, 3) := by decide +kernel
theorem d_M_findCore_22 : decode b_M_findCore 22 = .ok (.istore_n 2, 1) := by decide +kernel
theorem d_M_findCore_23 : decode b_M_findCore 23 = .ok (.iload_n 2, 1) := by decide +kernel
theorem d_M_findCore_24 : decode b_M_findCore 24 = .ok (.aload_n 0, 1) := by decide +kernel
theorem d_M_findCore_25 : decode b_M_findCore 25 = .ok (.getfield 101, 3) := by decide +kernel
theorem d_M_findCore_28 : decode b_M_findCore 28 = .ok (.invokestatic 104, 3) := by decide +kernel
theorem d_M_findCore_31 : decode b_M_findCore 31 = .ok (.if_icmp .gt 45, 3) := by decide +kernel
theorem d_M_findCore_34 : decode b_M_findCore 34 = .ok (.iload_n 2, 1) := by decide +kernel
theorem d_M_findCore_35 : decode b_M_findCore 35 = .ok (.aload_n 0, 1) := by decide +kernel
theorem d_M_findCore_36 : decode b_M_findCore 36 = .ok (.getfield 101, 3) := by decide +kernel
theorem d_M_findCore_39 : decode b_M_findCore 39 = .ok (.invokestatic 104, 3) := by decide +kernel
theorem d_M_findCore_42 : decode b_M_findCore 42 = .ok (.if_icmp .ne 17, 3) := by decide +kernel
theorem d_M_findCore_45 : decode b_M_findCore 45 = .ok (.iload_n 1, 1) := by decide +kernel
theorem d_M_findCore_46 : decode b_M_findCore 46 = .ok (.aload_n 0, 1) := by decide +kernel
theorem d_M_findCore_47 : decode b_M_findCore 47 = .ok (.getfield 101, 3) := by decide +kernel
theorem d_M_findCore_50 : decode b_M_findCore 50 = .ok (.invokestatic 108, 3) := by decide +kernel
theorem d_M_findCore_53 : decode b_M_findCore 53 = .ok (.ifCond .ne 6, 3) := by decide +kernel
theorem d_M_findCore_56 : decode b_M_findCore 56 = .ok (.goto 20, 3) := by decide +kernel
theorem d_M_findCore_59 : decode b_M_findCore 59 = .ok (.aload_n 0, 1) := by decide +kernel
theorem d_M_findCore_60 : decode b_M_findCore 60 = .ok (.iload_n 1, 1) := by decide +kernel
theorem d_M_findCore_61 : decode b_M_findCore 61 = .ok (.invokevirtual 111, 3) := by decide +kernel
theorem d_M_findCore_64 : decode b_M_findCore 64 = .ok (.aload_n 0, 1) := by decide +kernel
theorem d_M_findCore_65 : decode b_M_findCore 65 = .ok (.invokevirtual 115, 3) := by decide +kernel
theorem d_M_findCore_68 : decode b_M_findCore 68 = .ok (.ifCond .ne 8, 3) := by decide +kernel
theorem d_M_findCore_71 : decode b_M_findCore 71 = .ok (.aload_n 0, 1) := by decide +kernel
theorem d_M_findCore_72 : decode b_M_findCore 72 = .ok (.iload_n 1, 1) := by decide +kernel
theorem d_M_findCore_73 : decode b_M_findCore 73 = .ok (.putfield 101, 3) := by decide +kernel
theorem d_M_findCore_76 : decode b_M_findCore 76 = .ok (.iinc 1 1, 3) := by decide +kernel
theorem d_M_findCore_79 : decode b_M_findCore 79 = .ok (.goto (-69), 3) := by decide +kernel
theorem d_M_findCore_82 : decode b_M_findCore 82 = .ok (.return_, 1) := by decide +kernel
theorem d_M_solve_0 : decode b_M_solve 0 = .ok (.iload_n 1, 1) := by decide +kernel
theorem d_M_solve_1 : decode b_M_solve 1 = .ok (.ifCond .lt 8, 3) := by decide +kernel
theorem d_M_solve_4 : decode b_M_solve 4 = .ok (.iload_n 1, 1) := by decide +kernel
theorem d_M_solve_5 : decode b_M_solve 5 = .ok (.iconst 2, 1) := by decide +kernel
theorem d_M_solve_6 : decode b_M_solve 6 = .ok (.if_icmp .le 9, 3) := by decide +kernel
theorem d_M_solve_9 : decode b_M_solve 9 = .ok (.aload_n 0, 1) := by decide +kernel
theorem d_M_solve_10 : decode b_M_solve 10 = .ok (.iconst 1, 1) := by decide +kernel
theorem d_M_solve_11 : decode b_M_solve 11 = .ok (.invokevirtual 118, 3) := by decide +kernel
theorem d_M_solve_14 : decode b_M_solve 14 = .ok (.ireturn, 1) := by decide +kernel
theorem d_M_solve_15 : decode b_M_solve 15 = .ok (.bipush 100, 2) := by decide +kernel
theorem d_M_solve_17 : decode b_M_solve 17 = .ok (.istore_n 2, 1) := by decide +kernel
theorem d_M_solve_18 : decode b_M_solve 18 = .ok (.aload_n 0, 1) := by decide +kernel
theorem d_M_solve_19 : decode b_M_solve 19 = .ok (.aload_n 0, 1) := by decide +kernel
theorem d_M_solve_20 : decode b_M_solve 20 = .ok (.invokevirtual 97, 3) := by decide +kernel
theorem d_M_solve_23 : decode b_M_solve 23 = .ok (.invokevirtual 111, 3) := by decide +kernel
theorem d_M_solve_26 : decode b_M_solve 26 = .ok (.iload_n 2, 1) := by decide +kernel
theorem d_M_solve_27 : decode b_M_solve 27 = .ok (.ifCond .le 59, 3) := by decide +kernel
theorem d_M_solve_30 : decode b_M_solve 30 = .ok (.aload_n 0, 1) := by decide +kernel
theorem d_M_solve_31 : decode b_M_solve 31 = .ok (.invokevirtual 115, 3) := by decide +kernel
theorem d_M_solve_34 : decode b_M_solve 34 = .ok (.ifCond .eq 52, 3) := by decide +kernel
theorem d_M_solve_37 : decode b_M_solve 37 = .ok (.aload_n 0, 1) := by decide +kernel
theorem d_M_solve_38 : decode b_M_solve 38 = .ok (.iload_n 1, 1) := by decide +kernel
theorem d_M_solve_39 : decode b_M_solve 39 = .ok (.invokevirtual 121, 3) := by decide +kernel
theorem d_M_solve_42 : decode b_M_solve 42 = .ok (.istore_n 3, 1) := by decide +kernel
theorem d_M_solve_43 : decode b_M_solve 43 = .ok (.iload_n 3, 1) := by decide +kernel
theorem d_M_solve_44 : decode b_M_solve 44 = .ok (.iload_n 2, 1) := by decide +kernel
theorem d_M_solve_45 : decode b_M_solve 45 = .ok (.if_icmp .lt 6, 3) := by decide +kernel
theorem d_M_solve_48 : decode b_M_solve 48 = .ok (.goto (-22), 3) := by decide +kernel
theorem d_M_solve_51 : decode b_M_solve 51 = .ok (.iload_n 3, 1) := by decide +kernel
theorem d_M_solve_52 : decode b_M_solve 52 = .ok (.istore_n 2, 1) := by decide +kernel
theorem d_M_solve_53 : decode b_M_solve 53 = .ok (.iconst 0, 1) := by decide +kernel
theorem d_M_solve_54 : decode b_M_solve 54 = .ok (.istore 4, 2) := by decide +kernel
theorem d_M_solve_56 : decode b_M_solve 56 = .ok (.iload 4, 2) := by decide +kernel
theorem d_M_solve_58 : decode b_M_solve 58 = .ok (.bipush 7, 2) := by decide +kernel
theorem d_M_solve_60 : decode b_M_solve 60 = .ok (.if_icmp .ge 23, 3) := by decide +kernel
theorem d_M_solve_63 : decode b_M_solve 63 = .ok (.aload_n 0, 1) := by decide +kernel
theorem d_M_solve_64 : decode b_M_solve 64 = .ok (.getfield 53, 3) := by decide +kernel
theorem d_M_solve_67 : decode b_M_solve 67 = .ok (.iload 4, 2) := by decide +kernel
theorem d_M_solve_69 : decode b_M_solve 69 = .ok (.aload_n 0, 1) := by decide +kernel
theorem d_M_solve_70 : decode b_M_solve 70 = .ok (.getfield 41, 3) := by decide +kernel
theorem d_M_solve_73 : decode b_M_solve 73 = .ok (.iload 4, 2) := by decide +kernel
theorem d_M_solve_75 : decode b_M_solve 75 = .ok (.iaload, 1) := by decide +kernel
theorem d_M_solve_76 : decode b_M_solve 76 = .ok (.iastore, 1) := by decide +kernel
theorem d_M_solve_77 : decode b_M_solve 77 = .ok (.iinc 4 1, 3) := by decide +kernel
theorem d_M_solve_80 : decode b_M_solve 80 = .ok (.goto (-24), 3) := by decide +kernel
theorem d_M_solve_83 : decode b_M_solve 83 = .ok (.goto (-57), 3) := by decide +kernel
theorem d_M_solve_86 : decode b_M_solve 86 = .ok (.iload_n 2, 1) := by decide +kernel
theorem d_M_solve_87 : decode b_M_solve 87 = .ok (.bipush 100, 2) := by decide +kernel
theorem d_M_solve_89 : decode b_M_solve 89 = .ok (.if_icmp .ne 13, 3) := by decide +kernel
theorem d_M_solve_92 : decode b_M_solve 92 = .ok (.aload_n 0, 1) := by decide +kernel
theorem d_M_solve_93 : decode b_M_solve 93 = .ok (.invokevirtual 124, 3) := by decide +kernel
theorem d_M_solve_96 : decode b_M_solve 96 = .ok (.aload_n 0, 1) := by decide +kernel
theorem d_M_solve_97 : decode b_M_solve 97 = .ok (.iconst 2, 1) := by decide +kernel
theorem d_M_solve_98 : decode b_M_solve 98 = .ok (.invokevirtual 118, 3) := by decide +kernel
theorem d_M_solve_101 : decode b_M_solve 101 = .ok (.ireturn, 1) := by decide +kernel
theorem d_M_solve_102 : decode b_M_solve 102 = .ok (.aload_n 0, 1) := by decide +kernel
theorem d_M_solve_103 : decode b_M_solve 103 = .ok (.iconst 0, 1) := by decide +kernel
theorem d_M_solve_104 : decode b_M_solve 104 = .ok (.putfield 56, 3) := by decide +kernel
theorem d_M_solve_107 : decode b_M_solve 107 = .ok (.iconst 0, 1) := by decide +kernel
theorem d_M_solve_108 : decode b_M_solve 108 = .ok (.istore_n 3, 1) := by decide +kernel
theorem d_M_solve_109 : decode b_M_solve 109 = .ok (.iconst 0, 1) := by decide +kernel
theorem d_M_solve_110 : decode b_M_solve 110 = .ok (.istore 4, 2) := by decide +kernel
theorem d_M_solve_112 : decode b_M_solve 112 = .ok (.iload 4, 2) := by decide +kernel
theorem d_M_solve_114 : decode b_M_solve 114 = .ok (.bipush 7, 2) := by decide +kernel
theorem d_M_solve_116 : decode b_M_solve 116 = .ok (.if_icmp .ge 42, 3) := by decide +kernel
theorem d_M_solve_119 : decode b_M_solve 119 = .ok (.aload_n 0, 1) := by decide +kernel
theorem d_M_solve_120 : decode b_M_solve 120 = .ok (.getfield 47, 3) := by decide +kernel
theorem d_M_solve_123 : decode b_M_solve 123 = .ok (.iload 4, 2) := by decide +kernel
theorem d_M_solve_125 : decode b_M_solve 125 = .ok (.aload_n 0, 1) := by decide +kernel
theorem d_M_solve_126 : decode b_M_solve 126 = .ok (.getfield 53, 3) := by decide +kernel
theorem d_M_solve_129 : decode b_M_solve 129 = .ok (.iload 4, 2) := by decide +kernel
theorem d_M_solve_131 : decode b_M_solve 131 = .ok (.iaload, 1) := by decide +kernel
theorem d_M_solve_132 : decode b_M_solve 132 = .ok (.iastore, 1) := by decide +kernel
theorem d_M_solve_133 : decode b_M_solve 133 = .ok (.iload_n 3, 1) := by decide +kernel
theorem d_M_solve_134 : decode b_M_solve 134 = .ok (.aload_n 0, 1) := by decide +kernel
theorem d_M_solve_135 : decode b_M_solve 135 = .ok (.getfield 53, 3) := by decide +kernel
theorem d_M_solve_138 : decode b_M_solve 138 = .ok (.iload 4, 2) := by decide +kernel
theorem d_M_solve_140 : decode b_M_solve 140 = .ok (.iaload, 1) := by decide +kernel
theorem d_M_solve_141 : decode b_M_solve 141 = .ok (.iconst (-1), 1) := by decide +kernel
theorem d_M_solve_142 : decode b_M_solve 142 = .ok (.if_icmp .eq 7, 3) := by decide +kernel
theorem d_M_solve_145 : decode b_M_solve 145 = .ok (.iconst 1, 1) := by decide +kernel
theorem d_M_solve_146 : decode b_M_solve 146 = .ok (.goto 4, 3) := by decide +kernel
theorem d_M_solve_149 : decode b_M_solve 149 = .ok (.iconst 0, 1) := by decide +kernel
theorem d_M_solve_150 : decode b_M_solve 150 = .ok (.iadd, 1) := by decide +kernel
theorem d_M_solve_151 : decode b_M_solve 151 = .ok (.istore_n 3, 1) := by decide +kernel
theorem d_M_solve_152 : decode b_M_solve 152 = .ok (.iinc 4 1, 3) := by decide +kernel
theorem d_M_solve_155 : decode b_M_solve 155 = .ok (.goto (-43), 3) := by decide +kernel
theorem d_M_solve_158 : decode b_M_solve 158 = .ok (.iload_n 3, 1) := by decide +kernel
theorem d_M_solve_159 : decode b_M_solve 159 = .ok (.ireturn, 1) := by decide +kernel
theorem d_M_differ_0 : decode b_M_differ 0 = .ok (.iconst 0, 1) := by decide +kernel
theorem d_M_differ_1 : decode b_M_differ 1 = .ok (.istore_n 1, 1) := by decide +kernel
theorem d_M_differ_2 : decode b_M_differ 2 = .ok (.iconst 0, 1) := by decide +kernel
theorem d_M_differ_3 : decode b_M_differ 3 = .ok (.istore_n 2, 1) := by decide +kernel
theorem d_M_differ_4 : decode b_M_differ 4 = .ok (.iload_n 2, 1) := by decide +kernel
theorem d_M_differ_5 : decode b_M_differ 5 = .ok (.bipush 7, 2) := by decide +kernel
theorem d_M_differ_7 : decode b_M_differ 7 = .ok (.if_icmp .ge 32, 3) := by decide +kernel
theorem d_M_differ_10 : decode b_M_differ 10 = .ok (.iload_n 1, 1) := by decide +kernel
theorem d_M_differ_11 : decode b_M_differ 11 = .ok (.aload_n 0, 1) := by decide +kernel
theorem d_M_differ_12 : decode b_M_differ 12 = .ok (.getfield 47, 3) := by decide +kernel
theorem d_M_differ_15 : decode b_M_differ 15 = .ok (.iload_n 2, 1) := by decide +kernel
theorem d_M_differ_16 : decode b_M_differ 16 = .ok (.iaload, 1) := by decide +kernel
theorem d_M_differ_17 : decode b_M_differ 17 = .ok (.aload_n 0, 1) := by decide +kernel
theorem d_M_differ_18 : decode b_M_differ 18 = .ok (.getfield 50, 3) := by decide +kernel
theorem d_M_differ_21 : decode b_M_differ 21 = .ok (.iload_n 2, 1) := by decide +kernel
theorem d_M_differ_22 : decode b_M_differ 22 = .ok (.iaload, 1) := by decide +kernel
theorem d_M_differ_23 : decode b_M_differ 23 = .ok (.if_icmp .eq 7, 3) := by decide +kernel
theorem d_M_differ_26 : decode b_M_differ 26 = .ok (.iconst 1, 1) := by decide +kernel
theorem d_M_differ_27 : decode b_M_differ 27 = .ok (.goto 4, 3) := by decide +kernel
theorem d_M_differ_30 : decode b_M_differ 30 = .ok (.iconst 0, 1) := by decide +kernel
theorem d_M_differ_31 : decode b_M_differ 31 = .ok (.iadd, 1) := by decide +kernel
theorem d_M_differ_32 : decode b_M_differ 32 = .ok (.istore_n 1, 1) := by decide +kernel
theorem d_M_differ_33 : decode b_M_differ 33 = .ok (.iinc 2 1, 3) := by decide +kernel
theorem d_M_differ_36 : decode b_M_differ 36 = .ok (.goto (-32), 3) := by decide +kernel
theorem d_M_differ_39 : decode b_M_differ 39 = .ok (.iload_n 1, 1) := by decide +kernel
theorem d_M_differ_40 : decode b_M_differ 40 = .ok (.ireturn, 1) := by decide +kernel
theorem d_M_keep_0 : decode b_M_keep 0 = .ok (.aload_n 0, 1) := by decide +kernel
theorem d_M_keep_1 : decode b_M_keep 1 = .ok (.iconst 0, 1) := by decide +kernel
theorem d_M_keep_2 : decode b_M_keep 2 = .ok (.putfield 56, 3) := by decide +kernel
theorem d_M_keep_5 : decode b_M_keep 5 = .ok (.aload_n 0, 1) := by decide +kernel
theorem d_M_keep_6 : decode b_M_keep 6 = .ok (.invokevirtual 127, 3) := by decide +kernel
theorem d_M_keep_9 : decode b_M_keep 9 = .ok (.istore_n 1, 1) := by decide +kernel
theorem d_M_keep_10 : decode b_M_keep 10 = .ok (.iconst 0, 1) := by decide +kernel
theorem d_M_keep_11 : decode b_M_keep 11 = .ok (.istore_n 2, 1) := by decide +kernel
theorem d_M_keep_12 : decode b_M_keep 12 = .ok (.iload_n 2, 1) := by decide +kernel
theorem d_M_keep_13 : decode b_M_keep 13 = .ok (.bipush 7, 2) := by decide +kernel
theorem d_M_keep_15 : decode b_M_keep 15 = .ok (.if_icmp .ge 21, 3) := by decide +kernel
theorem d_M_keep_18 : decode b_M_keep 18 = .ok (.aload_n 0, 1) := by decide +kernel
theorem d_M_keep_19 : decode b_M_keep 19 = .ok (.getfield 50, 3) := by decide +kernel
theorem d_M_keep_22 : decode b_M_keep 22 = .ok (.iload_n 2, 1) := by decide +kernel
theorem d_M_keep_23 : decode b_M_keep 23 = .ok (.aload_n 0, 1) := by decide +kernel
theorem d_M_keep_24 : decode b_M_keep 24 = .ok (.getfield 47, 3) := by decide +kernel
theorem d_M_keep_27 : decode b_M_keep 27 = .ok (.iload_n 2, 1) := by decide +kernel
theorem d_M_keep_28 : decode b_M_keep 28 = .ok (.iaload, 1) := by decide +kernel
theorem d_M_keep_29 : decode b_M_keep 29 = .ok (.iastore, 1) := by decide +kernel
theorem d_M_keep_30 : decode b_M_keep 30 = .ok (.iinc 2 1, 3) := by decide +kernel
theorem d_M_keep_33 : decode b_M_keep 33 = .ok (.goto (-21), 3) := by decide +kernel
theorem d_M_keep_36 : decode b_M_keep 36 = .ok (.iload_n 1, 1) := by decide +kernel
theorem d_M_keep_37 : decode b_M_keep 37 = .ok (.ireturn, 1) := by decide +kernel
theorem d_M_chosen_0 : decode b_M_chosen 0 = .ok (.aload_n 0, 1) := by decide +kernel
theorem d_M_chosen_1 : decode b_M_chosen 1 = .ok (.iconst 0, 1) := by decide +kernel
theorem d_M_chosen_2 : decode b_M_chosen 2 = .ok (.putfield 56, 3) := by decide +kernel
theorem d_M_chosen_5 : decode b_M_chosen 5 = .ok (.iload_n 1, 1) := by decide +kernel
theorem d_M_chosen_6 : decode b_M_chosen 6 = .ok (.invokestatic 60, 3) := by decide +kernel
theorem d_M_chosen_9 : decode b_M_chosen 9 = .ok (.ifCond .eq 12, 3) := by decide +kernel
theorem d_M_chosen_12 : decode b_M_chosen 12 = .ok (.aload_n 0, 1) := by decide +kernel
theorem d_M_chosen_13 : decode b_M_chosen 13 = .ok (.getfield 47, 3) := by decide +kernel
theorem d_M_chosen_16 : decode b_M_chosen 16 = .ok (.iload_n 1, 1) := by decide +kernel
theorem d_M_chosen_17 : decode b_M_chosen 17 = .ok (.iaload, 1) := by decide +kernel
theorem d_M_chosen_18 : decode b_M_chosen 18 = .ok (.goto 4, 3) := by decide +kernel
theorem d_M_chosen_21 : decode b_M_chosen 21 = .ok (.iconst (-1), 1) := by decide +kernel
theorem d_M_chosen_22 : decode b_M_chosen 22 = .ok (.ireturn, 1) := by decide +kernel
theorem d_M_many_0 : decode b_M_many 0 = .ok (.aload_n 0, 1) := by decide +kernel
theorem d_M_many_1 : decode b_M_many 1 = .ok (.iconst 0, 1) := by decide +kernel
theorem d_M_many_2 : decode b_M_many 2 = .ok (.putfield 56, 3) := by decide +kernel
theorem d_M_many_5 : decode b_M_many 5 = .ok (.iconst 0, 1) := by decide +kernel
theorem d_M_many_6 : decode b_M_many 6 = .ok (.istore_n 1, 1) := by decide +kernel
theorem d_M_many_7 : decode b_M_many 7 = .ok (.aload_n 0, 1) := by decide +kernel
theorem d_M_many_8 : decode b_M_many 8 = .ok (.aload_n 0, 1) := by decide +kernel
theorem d_M_many_9 : decode b_M_many 9 = .ok (.invokevirtual 97, 3) := by decide +kernel
theorem d_M_many_12 : decode b_M_many 12 = .ok (.invokevirtual 111, 3) := by decide +kernel
theorem d_M_many_15 : decode b_M_many 15 = .ok (.aload_n 0, 1) := by decide +kernel
theorem d_M_many_16 : decode b_M_many 16 = .ok (.invokevirtual 115, 3) := by decide +kernel
theorem d_M_many_19 : decode b_M_many 19 = .ok (.ifCond .eq 9, 3) := by decide +kernel
theorem d_M_many_22 : decode b_M_many 22 = .ok (.iinc 1 1, 3) := by decide +kernel
theorem d_M_many_25 : decode b_M_many 25 = .ok (.goto (-10), 3) := by decide +kernel
theorem d_M_many_28 : decode b_M_many 28 = .ok (.iload_n 1, 1) := by decide +kernel
theorem d_M_many_29 : decode b_M_many 29 = .ok (.ireturn, 1) := by decide +kernel
theorem d_M_can_0 : decode b_M_can 0 = .ok (.aload_n 0, 1) := by decide +kernel
theorem d_M_can_1 : decode b_M_can 1 = .ok (.iconst 0, 1) := by decide +kernel
theorem d_M_can_2 : decode b_M_can 2 = .ok (.putfield 56, 3) := by decide +kernel
theorem d_M_can_5 : decode b_M_can 5 = .ok (.iload_n 1, 1) := by decide +kernel
theorem d_M_can_6 : decode b_M_can 6 = .ok (.invokestatic 60, 3) := by decide +kernel
theorem d_M_can_9 : decode b_M_can 9 = .ok (.ifCond .ne 5, 3) := by decide +kernel
theorem d_M_can_12 : decode b_M_can 12 = .ok (.iconst (-1), 1) := by decide +kernel
theorem d_M_can_13 : decode b_M_can 13 = .ok (.ireturn, 1) := by decide +kernel
theorem d_M_can_14 : decode b_M_can 14 = .ok (.iconst 0, 1) := by decide +kernel
theorem d_M_can_15 : decode b_M_can 15 = .ok (.istore_n 2, 1) := by decide +kernel
theorem d_M_can_16 : decode b_M_can 16 = .ok (.aload_n 0, 1) := by decide +kernel
theorem d_M_can_17 : decode b_M_can 17 = .ok (.aload_n 0, 1) := by decide +kernel
theorem d_M_can_18 : decode b_M_can 18 = .ok (.invokevirtual 97, 3) := by decide +kernel
theorem d_M_can_21 : decode b_M_can 21 = .ok (.invokevirtual 111, 3) := by decide +kernel
theorem d_M_can_24 : decode b_M_can 24 = .ok (.aload_n 0, 1) := by decide +kernel
theorem d_M_can_25 : decode b_M_can 25 = .ok (.invokevirtual 115, 3) := by decide +kernel
theorem d_M_can_28 : decode b_M_can 28 = .ok (.ifCond .eq 31, 3) := by decide +kernel
theorem d_M_can_31 : decode b_M_can 31 = .ok (.iload_n 2, 1) := by decide +kernel
theorem d_M_can_32 : decode b_M_can 32 = .ok (.iconst 1, 1) := by decide +kernel
theorem d_M_can_33 : decode b_M_can 33 = .ok (.aload_n 0, 1) := by decide +kernel
theorem d_M_can_34 : decode b_M_can 34 = .ok (.getfield 41, 3) := by decide +kernel
theorem d_M_can_37 : decode b_M_can 37 = .ok (.iload_n 1, 1) := by decide +kernel
theorem d_M_can_38 : decode b_M_can 38 = .ok (.iaload, 1) := by decide +kernel
theorem d_M_can_39 : decode b_M_can 39 = .ok (.iconst (-1), 1) := by decide +kernel
theorem d_M_can_40 : decode b_M_can 40 = .ok (.if_icmp .ne 7, 3) := by decide +kernel
theorem d_M_can_43 : decode b_M_can 43 = .ok (.iconst 4, 1) := by decide +kernel
theorem d_M_can_44 : decode b_M_can 44 = .ok (.goto 9, 3) := by decide +kernel
theorem d_M_can_47 : decode b_M_can 47 = .ok (.aload_n 0, 1) := by decide +kernel
theorem d_M_can_48 : decode b_M_can 48 = .ok (.getfield 41, 3) := by decide +kernel
theorem d_M_can_51 : decode b_M_can 51 = .ok (.iload_n 1, 1) := by decide +kernel
theorem d_M_can_52 : decode b_M_can 52 = .ok (.iaload, 1) := by decide +kernel
theorem d_M_can_53 : decode b_M_can 53 = .ok (.ishl, 1) := by decide +kernel
theorem d_M_can_54 : decode b_M_can 54 = .ok (.ior, 1) := by decide +kernel
theorem d_M_can_55 : decode b_M_can 55 = .ok (.istore_n 2, 1) := by decide +kernel
theorem d_M_can_56 : decode b_M_can 56 = .ok (.goto (-32), 3) := by decide +kernel
theorem d_M_can_59 : decode b_M_can 59 = .ok (.iload_n 2, 1) := by decide +kernel
theorem d_M_can_60 : decode b_M_can 60 = .ok (.ireturn, 1) := by decide +kernel
theorem d_M_core_0 : decode b_M_core 0 = .ok (.iconst 0, 1) := by decide +kernel
theorem d_M_core_1 : decode b_M_core 1 = .ok (.istore_n 2, 1) := by decide +kernel
theorem d_M_core_2 : decode b_M_core 2 = .ok (.iload_n 1, 1) := by decide +kernel
theorem d_M_core_3 : decode b_M_core 3 = .ok (.istore_n 3, 1) := by decide +kernel
theorem d_M_core_4 : decode b_M_core 4 = .ok (.iload_n 2, 1) := by decide +kernel
theorem d_M_core_5 : decode b_M_core 5 = .ok (.bipush 6, 2) := by decide +kernel
theorem d_M_core_7 : decode b_M_core 7 = .ok (.if_icmp .ge 35, 3) := by decide +kernel
theorem d_M_core_10 : decode b_M_core 10 = .ok (.iload_n 3, 1) := by decide +kernel
theorem d_M_core_11 : decode b_M_core 11 = .ok (.ifCond .gt 14, 3) := by decide +kernel
theorem d_M_core_14 : decode b_M_core 14 = .ok (.aload_n 0, 1) := by decide +kernel
theorem d_M_core_15 : decode b_M_core 15 = .ok (.getfield 101, 3) := by decide +kernel
theorem d_M_core_18 : decode b_M_core 18 = .ok (.iload_n 2, 1) := by decide +kernel
theorem d_M_core_19 : decode b_M_core 19 = .ok (.ishr, 1) := by decide +kernel
theorem d_M_core_20 : decode b_M_core 20 = .ok (.iconst 1, 1) := by decide +kernel
theorem d_M_core_21 : decode b_M_core 21 = .ok (.iand, 1) := by decide +kernel
theorem d_M_core_22 : decode b_M_core 22 = .ok (.ifCond .ne 20, 3) := by decide +kernel
theorem d_M_core_25 : decode b_M_core 25 = .ok (.iload_n 3, 1) := by decide +kernel
theorem d_M_core_26 : decode b_M_core 26 = .ok (.aload_n 0, 1) := by decide +kernel
theorem d_M_core_27 : decode b_M_core 27 = .ok (.getfield 101, 3) := by decide +kernel
theorem d_M_core_30 : decode b_M_core 30 = .ok (.iload_n 2, 1) := by decide +kernel
theorem d_M_core_31 : decode b_M_core 31 = .ok (.ishr, 1) := by decide +kernel
theorem d_M_core_32 : decode b_M_core 32 = .ok (.iconst 1, 1) := by decide +kernel
theorem d_M_core_33 : decode b_M_core 33 = .ok (.iand, 1) := by decide +kernel
theorem d_M_core_34 : decode b_M_core 34 = .ok (.isub, 1) := by decide +kernel
theorem d_M_core_35 : decode b_M_core 35 = .ok (.istore_n 3, 1) := by decide +kernel
theorem d_M_core_36 : decode b_M_core 36 = .ok (.iinc 2 1, 3) := by decide +kernel
theorem d_M_core_39 : decode b_M_core 39 = .ok (.goto (-35), 3) := by decide +kernel
theorem d_M_core_42 : decode b_M_core 42 = .ok (.aload_n 0, 1) := by decide +kernel
theorem d_M_core_43 : decode b_M_core 43 = .ok (.iload_n 1, 1) := by decide +kernel
theorem d_M_core_44 : decode b_M_core 44 = .ok (.ifCond .lt 9, 3) := by decide +kernel
theorem d_M_core_47 : decode b_M_core 47 = .ok (.iload_n 2, 1) := by decide +kernel
theorem d_M_core_48 : decode b_M_core 48 = .ok (.bipush 6, 2) := by decide +kernel
theorem d_M_core_50 : decode b_M_core 50 = .ok (.if_icmp .ne 7, 3) := by decide +kernel
theorem d_M_core_53 : decode b_M_core 53 = .ok (.iconst 1, 1) := by decide +kernel
theorem d_M_core_54 : decode b_M_core 54 = .ok (.goto 4, 3) := by decide +kernel
theorem d_M_core_57 : decode b_M_core 57 = .ok (.iconst 0, 1) := by decide +kernel
theorem d_M_core_58 : decode b_M_core 58 = .ok (.putfield 56, 3) := by decide +kernel
theorem d_M_core_61 : decode b_M_core 61 = .ok (.aload_n 0, 1) := by decide +kernel
theorem d_M_core_62 : decode b_M_core 62 = .ok (.getfield 56, 3) := by decide +kernel
theorem d_M_core_65 : decode b_M_core 65 = .ok (.ifCond .le 7, 3) := by decide +kernel
theorem d_M_core_68 : decode b_M_core 68 = .ok (.iconst 0, 1) := by decide +kernel
theorem d_M_core_69 : decode b_M_core 69 = .ok (.goto 4, 3) := by decide +kernel
theorem d_M_core_72 : decode b_M_core 72 = .ok (.iload_n 2, 1) := by decide +kernel
theorem d_M_core_73 : decode b_M_core 73 = .ok (.ireturn, 1) := by decide +kernel
theorem d_M_count_0 : decode b_M_count 0 = .ok (.aload_n 0, 1) := by decide +kernel
theorem d_M_count_1 : decode b_M_count 1 = .ok (.iconst 0, 1) := by decide +kernel
theorem d_M_count_2 : decode b_M_count 2 = .ok (.putfield 56, 3) := by decide +kernel
theorem d_M_count_5 : decode b_M_count 5 = .ok (.iconst 0, 1) := by decide +kernel
theorem d_M_count_6 : decode b_M_count 6 = .ok (.istore_n 2, 1) := by decide +kernel
theorem d_M_count_7 : decode b_M_count 7 = .ok (.iload_n 1, 1) := by decide +kernel
theorem d_M_count_8 : decode b_M_count 8 = .ok (.tableswitch 185 0 6 #[44, 77, 102, 107, 112, 146, 180], 44) := by decide +kernel
theorem d_M_count_52 : decode b_M_count 52 = .ok (.iconst 0, 1) := by decide +kernel
theorem d_M_count_53 : decode b_M_count 53 = .ok (.istore_n 3, 1) := by decide +kernel
theorem d_M_count_54 : decode b_M_count 54 = .ok (.iload_n 3, 1) := by decide +kernel
theorem d_M_count_55 : decode b_M_count 55 = .ok (.bipush 28, 2) := by decide +kernel
theorem d_M_count_57 : decode b_M_count 57 = .ok (.if_icmp .ge 26, 3) := by decide +kernel
theorem d_M_count_60 : decode b_M_count 60 = .ok (.iload_n 2, 1) := by decide +kernel
theorem d_M_count_61 : decode b_M_count 61 = .ok (.aload_n 0, 1) := by decide +kernel
theorem d_M_count_62 : decode b_M_count 62 = .ok (.getfield 7, 3) := by decide +kernel
theorem d_M_count_65 : decode b_M_count 65 = .ok (.iload_n 3, 1) := by decide +kernel
theorem d_M_count_66 : decode b_M_count 66 = .ok (.baload, 1) := by decide +kernel
theorem d_M_count_67 : decode b_M_count 67 = .ok (.ifCond .eq 7, 3) := by decide +kernel
theorem d_M_count_70 : decode b_M_count 70 = .ok (.iconst 1, 1) := by decide +kernel
theorem d_M_count_71 : decode b_M_count 71 = .ok (.goto 4, 3) := by decide +kernel
theorem d_M_count_74 : decode b_M_count 74 = .ok (.iconst 0, 1) := by decide +kernel
theorem d_M_count_75 : decode b_M_count 75 = .ok (.iadd, 1) := by decide +kernel
theorem d_M_count_76 : decode b_M_count 76 = .ok (.istore_n 2, 1) := by decide +kernel
theorem d_M_count_77 : decode b_M_count 77 = .ok (.iinc 3 1, 3) := by decide +kernel
theorem d_M_count_80 : decode b_M_count 80 = .ok (.goto (-26), 3) := by decide +kernel
theorem d_M_count_83 : decode b_M_count 83 = .ok (.iload_n 2, 1) := by decide +kernel
theorem d_M_count_84 : decode b_M_count 84 = .ok (.ireturn, 1) := by decide +kernel
theorem d_M_count_85 : decode b_M_count 85 = .ok (.iconst 0, 1) := by decide +kernel
theorem d_M_count_86 : decode b_M_count 86 = .ok (.istore_n 3, 1) := by decide +kernel
theorem d_M_count_87 : decode b_M_count 87 = .ok (.iload_n 3, 1) := by decide +kernel
theorem d_M_count_88 : decode b_M_count 88 = .ok (.bipush 28, 2) := by decide +kernel
theorem d_M_count_90 : decode b_M_count 90 = .ok (.if_icmp .ge 18, 3) := by decide +kernel
theorem d_M_count_93 : decode b_M_count 93 = .ok (.iload_n 2, 1) := by decide +kernel
theorem d_M_count_94 : decode b_M_count 94 = .ok (.aload_n 0, 1) := by decide +kernel
theorem d_M_count_95 : decode b_M_count 95 = .ok (.getfield 13, 3) := by decide +kernel
theorem d_M_count_98 : decode b_M_count 98 = .ok (.iload_n 3, 1) := by decide +kernel
theorem d_M_count_99 : decode b_M_count 99 = .ok (.iaload, 1) := by decide +kernel
theorem d_M_count_100 : decode b_M_count 100 = .ok (.iadd, 1) := by decide +kernel
theorem d_M_count_101 : decode b_M_count 101 = .ok (.istore_n 2, 1) := by decide +kernel
theorem d_M_count_102 : decode b_M_count 102 = .ok (.iinc 3 1, 3) := by decide +kernel
theorem d_M_count_105 : decode b_M_count 105 = .ok (.goto (-18), 3) := by decide +kernel
theorem d_M_count_108 : decode b_M_count 108 = .ok (.iload_n 2, 1) := by decide +kernel
theorem d_M_count_109 : decode b_M_count 109 = .ok (.ireturn, 1) := by decide +kernel
theorem d_M_count_110 : decode b_M_count 110 = .ok (.aload_n 0, 1) := by decide +kernel
theorem d_M_count_111 : decode b_M_count 111 = .ok (.getfield 72, 3) := by decide +kernel
theorem d_M_count_114 : decode b_M_count 114 = .ok (.ireturn, 1) := by decide +kernel
theorem d_M_count_115 : decode b_M_count 115 = .ok (.aload_n 0, 1) := by decide +kernel
theorem d_M_count_116 : decode b_M_count 116 = .ok (.getfield 75, 3) := by decide +kernel
theorem d_M_count_119 : decode b_M_count 119 = .ok (.ireturn, 1) := by decide +kernel
theorem d_M_count_120 : decode b_M_count 120 = .ok (.iconst 0, 1) := by decide +kernel
theorem d_M_count_121 : decode b_M_count 121 = .ok (.istore_n 3, 1) := by decide +kernel
theorem d_M_count_122 : decode b_M_count 122 = .ok (.iload_n 3, 1) := by decide +kernel
theorem d_M_count_123 : decode b_M_count 123 = .ok (.bipush 7, 2) := by decide +kernel
theorem d_M_count_125 : decode b_M_count 125 = .ok (.if_icmp .ge 27, 3) := by decide +kernel
theorem d_M_count_128 : decode b_M_count 128 = .ok (.iload_n 2, 1) := by decide +kernel
theorem d_M_count_129 : decode b_M_count 129 = .ok (.aload_n 0, 1) := by decide +kernel
theorem d_M_count_130 : decode b_M_count 130 = .ok (.getfield 47, 3) := by decide +kernel
theorem d_M_count_133 : decode b_M_count 133 = .ok (.iload_n 3, 1) := by decide +kernel
theorem d_M_count_134 : decode b_M_count 134 = .ok (.iaload, 1) := by decide +kernel
theorem d_M_count_135 : decode b_M_count 135 = .ok (.iconst (-1), 1) := by decide +kernel
theorem d_M_count_136 : decode b_M_count 136 = .ok (.if_icmp .eq 7, 3) := by decide +kernel
theorem d_M_count_139 : decode b_M_count 139 = .ok (.iconst 1, 1) := by decide +kernel
theorem d_M_count_140 : decode b_M_count 140 = .ok (.goto 4, 3) := by decide +kernel
theorem d_M_count_143 : decode b_M_count 143 = .ok (.iconst 0, 1) := by decide +kernel
theorem d_M_count_144 : decode b_M_count 144 = .ok (.iadd, 1) := by decide +kernel
theorem d_M_count_145 : decode b_M_count 145 = .ok (.istore_n 2, 1) := by decide +kernel
theorem d_M_count_146 : decode b_M_count 146 = .ok (.iinc 3 1, 3) := by decide +kernel
theorem d_M_count_149 : decode b_M_count 149 = .ok (.goto (-27), 3) := by decide +kernel
theorem d_M_count_152 : decode b_M_count 152 = .ok (.iload_n 2, 1) := by decide +kernel
theorem d_M_count_153 : decode b_M_count 153 = .ok (.ireturn, 1) := by decide +kernel
theorem d_M_count_154 : decode b_M_count 154 = .ok (.iconst 0, 1) := by decide +kernel
theorem d_M_count_155 : decode b_M_count 155 = .ok (.istore_n 3, 1) := by decide +kernel
theorem d_M_count_156 : decode b_M_count 156 = .ok (.iload_n 3, 1) := by decide +kernel
theorem d_M_count_157 : decode b_M_count 157 = .ok (.bipush 7, 2) := by decide +kernel
theorem d_M_count_159 : decode b_M_count 159 = .ok (.if_icmp .ge 27, 3) := by decide +kernel
theorem d_M_count_162 : decode b_M_count 162 = .ok (.iload_n 2, 1) := by decide +kernel
theorem d_M_count_163 : decode b_M_count 163 = .ok (.aload_n 0, 1) := by decide +kernel
theorem d_M_count_164 : decode b_M_count 164 = .ok (.getfield 50, 3) := by decide +kernel
theorem d_M_count_167 : decode b_M_count 167 = .ok (.iload_n 3, 1) := by decide +kernel
theorem d_M_count_168 : decode b_M_count 168 = .ok (.iaload, 1) := by decide +kernel
theorem d_M_count_169 : decode b_M_count 169 = .ok (.iconst (-1), 1) := by decide +kernel
theorem d_M_count_170 : decode b_M_count 170 = .ok (.if_icmp .eq 7, 3) := by decide +kernel
theorem d_M_count_173 : decode b_M_count 173 = .ok (.iconst 1, 1) := by decide +kernel
theorem d_M_count_174 : decode b_M_count 174 = .ok (.goto 4, 3) := by decide +kernel
theorem d_M_count_177 : decode b_M_count 177 = .ok (.iconst 0, 1) := by decide +kernel
theorem d_M_count_178 : decode b_M_count 178 = .ok (.iadd, 1) := by decide +kernel
theorem d_M_count_179 : decode b_M_count 179 = .ok (.istore_n 2, 1) := by decide +kernel
theorem d_M_count_180 : decode b_M_count 180 = .ok (.iinc 3 1, 3) := by decide +kernel
theorem d_M_count_183 : decode b_M_count 183 = .ok (.goto (-27), 3) := by decide +kernel
theorem d_M_count_186 : decode b_M_count 186 = .ok (.iload_n 2, 1) := by decide +kernel
theorem d_M_count_187 : decode b_M_count 187 = .ok (.ireturn, 1) := by decide +kernel
theorem d_M_count_188 : decode b_M_count 188 = .ok (.aload_n 0, 1) := by decide +kernel
theorem d_M_count_189 : decode b_M_count 189 = .ok (.invokevirtual 127, 3) := by decide +kernel
theorem d_M_count_192 : decode b_M_count 192 = .ok (.ireturn, 1) := by decide +kernel
theorem d_M_count_193 : decode b_M_count 193 = .ok (.iconst (-1), 1) := by decide +kernel
theorem d_M_count_194 : decode b_M_count 194 = .ok (.ireturn, 1) := by decide +kernel
