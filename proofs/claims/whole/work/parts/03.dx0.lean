theorem d_J_bitCount_0 : decode b_J_bitCount 0 = .ok (.iload_n 0, 1) := by decide +kernel
theorem d_J_bitCount_1 : decode b_J_bitCount 1 = .ok (.iload_n 0, 1) := by decide +kernel
theorem d_J_bitCount_2 : decode b_J_bitCount 2 = .ok (.iconst 1, 1) := by decide +kernel
theorem d_J_bitCount_3 : decode b_J_bitCount 3 = .ok (.iushr, 1) := by decide +kernel
theorem d_J_bitCount_4 : decode b_J_bitCount 4 = .ok (.ldc_w 265, 3) := by decide +kernel
theorem d_J_bitCount_7 : decode b_J_bitCount 7 = .ok (.iand, 1) := by decide +kernel
theorem d_J_bitCount_8 : decode b_J_bitCount 8 = .ok (.isub, 1) := by decide +kernel
theorem d_J_bitCount_9 : decode b_J_bitCount 9 = .ok (.istore_n 0, 1) := by decide +kernel
theorem d_J_bitCount_10 : decode b_J_bitCount 10 = .ok (.iload_n 0, 1) := by decide +kernel
theorem d_J_bitCount_11 : decode b_J_bitCount 11 = .ok (.ldc_w 266, 3) := by decide +kernel
theorem d_J_bitCount_14 : decode b_J_bitCount 14 = .ok (.iand, 1) := by decide +kernel
theorem d_J_bitCount_15 : decode b_J_bitCount 15 = .ok (.iload_n 0, 1) := by decide +kernel
theorem d_J_bitCount_16 : decode b_J_bitCount 16 = .ok (.iconst 2, 1) := by decide +kernel
theorem d_J_bitCount_17 : decode b_J_bitCount 17 = .ok (.iushr, 1) := by decide +kernel
theorem d_J_bitCount_18 : decode b_J_bitCount 18 = .ok (.ldc_w 266, 3) := by decide +kernel
theorem d_J_bitCount_21 : decode b_J_bitCount 21 = .ok (.iand, 1) := by decide +kernel
theorem d_J_bitCount_22 : decode b_J_bitCount 22 = .ok (.iadd, 1) := by decide +kernel
theorem d_J_bitCount_23 : decode b_J_bitCount 23 = .ok (.istore_n 0, 1) := by decide +kernel
theorem d_J_bitCount_24 : decode b_J_bitCount 24 = .ok (.iload_n 0, 1) := by decide +kernel
theorem d_J_bitCount_25 : decode b_J_bitCount 25 = .ok (.iload_n 0, 1) := by decide +kernel
theorem d_J_bitCount_26 : decode b_J_bitCount 26 = .ok (.iconst 4, 1) := by decide +kernel
theorem d_J_bitCount_27 : decode b_J_bitCount 27 = .ok (.iushr, 1) := by decide +kernel
theorem d_J_bitCount_28 : decode b_J_bitCount 28 = .ok (.iadd, 1) := by decide +kernel
theorem d_J_bitCount_29 : decode b_J_bitCount 29 = .ok (.ldc_w 267, 3) := by decide +kernel
theorem d_J_bitCount_32 : decode b_J_bitCount 32 = .ok (.iand, 1) := by decide +kernel
theorem d_J_bitCount_33 : decode b_J_bitCount 33 = .ok (.istore_n 0, 1) := by decide +kernel
theorem d_J_bitCount_34 : decode b_J_bitCount 34 = .ok (.iload_n 0, 1) := by decide +kernel
theorem d_J_bitCount_35 : decode b_J_bitCount 35 = .ok (.iload_n 0, 1) := by decide +kernel
theorem d_J_bitCount_36 : decode b_J_bitCount 36 = .ok (.bipush 8, 2) := by decide +kernel
theorem d_J_bitCount_38 : decode b_J_bitCount 38 = .ok (.iushr, 1) := by decide +kernel
theorem d_J_bitCount_39 : decode b_J_bitCount 39 = .ok (.iadd, 1) := by decide +kernel
theorem d_J_bitCount_40 : decode b_J_bitCount 40 = .ok (.istore_n 0, 1) := by decide +kernel
theorem d_J_bitCount_41 : decode b_J_bitCount 41 = .ok (.iload_n 0, 1) := by decide +kernel
theorem d_J_bitCount_42 : decode b_J_bitCount 42 = .ok (.iload_n 0, 1) := by decide +kernel
theorem d_J_bitCount_43 : decode b_J_bitCount 43 = .ok (.bipush 16, 2) := by decide +kernel
theorem d_J_bitCount_45 : decode b_J_bitCount 45 = .ok (.iushr, 1) := by decide +kernel
theorem d_J_bitCount_46 : decode b_J_bitCount 46 = .ok (.iadd, 1) := by decide +kernel
theorem d_J_bitCount_47 : decode b_J_bitCount 47 = .ok (.istore_n 0, 1) := by decide +kernel
theorem d_J_bitCount_48 : decode b_J_bitCount 48 = .ok (.iload_n 0, 1) := by decide +kernel
theorem d_J_bitCount_49 : decode b_J_bitCount 49 = .ok (.bipush 63, 2) := by decide +kernel
theorem d_J_bitCount_51 : decode b_J_bitCount 51 = .ok (.iand, 1) := by decide +kernel
theorem d_J_bitCount_52 : decode b_J_bitCount 52 = .ok (.ireturn, 1) := by decide +kernel
theorem d_C_init_0 : decode b_C_init 0 = .ok (.aload_n 0, 1) := by decide +kernel
theorem d_C_init_1 : decode b_C_init 1 = .ok (.invokespecial 3, 3) := by decide +kernel
theorem d_C_init_4 : decode b_C_init 4 = .ok (.aload_n 0, 1) := by decide +kernel
theorem d_C_init_5 : decode b_C_init 5 = .ok (.bipush 28, 2) := by decide +kernel
theorem d_C_init_7 : decode b_C_init 7 = .ok (.newarray .int, 2) := by decide +kernel
theorem d_C_init_9 : decode b_C_init 9 = .ok (.putfield 9, 3) := by decide +kernel
theorem d_C_init_12 : decode b_C_init 12 = .ok (.aload_n 0, 1) := by decide +kernel
theorem d_C_init_13 : decode b_C_init 13 = .ok (.bipush 28, 2) := by decide +kernel
theorem d_C_init_15 : decode b_C_init 15 = .ok (.newarray .int, 2) := by decide +kernel
theorem d_C_init_17 : decode b_C_init 17 = .ok (.putfield 15, 3) := by decide +kernel
theorem d_C_init_20 : decode b_C_init 20 = .ok (.aload_n 0, 1) := by decide +kernel
theorem d_C_init_21 : decode b_C_init 21 = .ok (.bipush 28, 2) := by decide +kernel
theorem d_C_init_23 : decode b_C_init 23 = .ok (.newarray .int, 2) := by decide +kernel
theorem d_C_init_25 : decode b_C_init 25 = .ok (.putfield 18, 3) := by decide +kernel
theorem d_C_init_28 : decode b_C_init 28 = .ok (.aload_n 0, 1) := by decide +kernel
theorem d_C_init_29 : decode b_C_init 29 = .ok (.bipush 28, 2) := by decide +kernel
theorem d_C_init_31 : decode b_C_init 31 = .ok (.newarray .int, 2) := by decide +kernel
theorem d_C_init_33 : decode b_C_init 33 = .ok (.putfield 21, 3) := by decide +kernel
theorem d_C_init_36 : decode b_C_init 36 = .ok (.aload_n 0, 1) := by decide +kernel
theorem d_C_init_37 : decode b_C_init 37 = .ok (.iconst 0, 1) := by decide +kernel
theorem d_C_init_38 : decode b_C_init 38 = .ok (.putfield 24, 3) := by decide +kernel
theorem d_C_init_41 : decode b_C_init 41 = .ok (.aload_n 0, 1) := by decide +kernel
theorem d_C_init_42 : decode b_C_init 42 = .ok (.iconst 0, 1) := by decide +kernel
theorem d_C_init_43 : decode b_C_init 43 = .ok (.putfield 28, 3) := by decide +kernel
theorem d_C_init_46 : decode b_C_init 46 = .ok (.return_, 1) := by decide +kernel
theorem d_C_has_0 : decode b_C_has 0 = .ok (.iload_n 1, 1) := by decide +kernel
theorem d_C_has_1 : decode b_C_has 1 = .ok (.invokestatic 31, 3) := by decide +kernel
theorem d_C_has_4 : decode b_C_has 4 = .ok (.ifCond .eq 18, 3) := by decide +kernel
theorem d_C_has_7 : decode b_C_has 7 = .ok (.aload_n 0, 1) := by decide +kernel
theorem d_C_has_8 : decode b_C_has 8 = .ok (.getfield 24, 3) := by decide +kernel
theorem d_C_has_11 : decode b_C_has 11 = .ok (.iload_n 1, 1) := by decide +kernel
theorem d_C_has_12 : decode b_C_has 12 = .ok (.invokestatic 35, 3) := by decide +kernel
theorem d_C_has_15 : decode b_C_has 15 = .ok (.ifCond .eq 7, 3) := by decide +kernel
theorem d_C_has_18 : decode b_C_has 18 = .ok (.iconst 1, 1) := by decide +kernel
theorem d_C_has_19 : decode b_C_has 19 = .ok (.goto 4, 3) := by decide +kernel
theorem d_C_has_22 : decode b_C_has 22 = .ok (.iconst 0, 1) := by decide +kernel
theorem d_C_has_23 : decode b_C_has 23 = .ok (.ireturn, 1) := by decide +kernel
theorem d_C_add_0 : decode b_C_add 0 = .ok (.iload_n 1, 1) := by decide +kernel
theorem d_C_add_1 : decode b_C_add 1 = .ok (.invokestatic 31, 3) := by decide +kernel
theorem d_C_add_4 : decode b_C_add 4 = .ok (.ifCond .eq 11, 3) := by decide +kernel
theorem d_C_add_7 : decode b_C_add 7 = .ok (.aload_n 0, 1) := by decide +kernel
theorem d_C_add_8 : decode b_C_add 8 = .ok (.iload_n 1, 1) := by decide +kernel
theorem d_C_add_9 : decode b_C_add 9 = .ok (.invokevirtual 39, 3) := by decide +kernel
theorem d_C_add_12 : decode b_C_add 12 = .ok (.ifCond .eq 5, 3) := by decide +kernel
theorem d_C_add_15 : decode b_C_add 15 = .ok (.iconst 0, 1) := by decide +kernel
theorem d_C_add_16 : decode b_C_add 16 = .ok (.ireturn, 1) := by decide +kernel
theorem d_C_add_17 : decode b_C_add 17 = .ok (.aload_n 0, 1) := by decide +kernel
theorem d_C_add_18 : decode b_C_add 18 = .ok (.dup, 1) := by decide +kernel
theorem d_C_add_19 : decode b_C_add 19 = .ok (.getfield 24, 3) := by decide +kernel
theorem d_C_add_22 : decode b_C_add 22 = .ok (.iconst 1, 1) := by decide +kernel
theorem d_C_add_23 : decode b_C_add 23 = .ok (.iload_n 1, 1) := by decide +kernel
theorem d_C_add_24 : decode b_C_add 24 = .ok (.ishl, 1) := by decide +kernel
theorem d_C_add_25 : decode b_C_add 25 = .ok (.ior, 1) := by decide +kernel
theorem d_C_add_26 : decode b_C_add 26 = .ok (.putfield 24, 3) := by decide +kernel
theorem d_C_add_29 : decode b_C_add 29 = .ok (.iconst 1, 1) := by decide +kernel
theorem d_C_add_30 : decode b_C_add 30 = .ok (.ireturn, 1) := by decide +kernel
theorem d_C_remove_0 : decode b_C_remove 0 = .ok (.aload_n 0, 1) := by decide +kernel
theorem d_C_remove_1 : decode b_C_remove 1 = .ok (.iload_n 1, 1) := by decide +kernel
theorem d_C_remove_2 : decode b_C_remove 2 = .ok (.invokevirtual 39, 3) := by decide +kernel
theorem d_C_remove_5 : decode b_C_remove 5 = .ok (.ifCond .ne 5, 3) := by decide +kernel
theorem d_C_remove_8 : decode b_C_remove 8 = .ok (.iconst 0, 1) := by decide +kernel
theorem d_C_remove_9 : decode b_C_remove 9 = .ok (.ireturn, 1) := by decide +kernel
theorem d_C_remove_10 : decode b_C_remove 10 = .ok (.aload_n 0, 1) := by decide +kernel
theorem d_C_remove_11 : decode b_C_remove 11 = .ok (.dup, 1) := by decide +kernel
theorem d_C_remove_12 : decode b_C_remove 12 = .ok (.getfield 24, 3) := by decide +kernel
theorem d_C_remove_15 : decode b_C_remove 15 = .ok (.iconst 1, 1) := by decide +kernel
theorem d_C_remove_16 : decode b_C_remove 16 = .ok (.iload_n 1, 1) := by decide +kernel
theorem d_C_remove_17 : decode b_C_remove 17 = .ok (.ishl, 1) := by decide +kernel
theorem d_C_remove_18 : decode b_C_remove 18 = .ok (.iconst (-1), 1) := by decide +kernel
theorem d_C_remove_19 : decode b_C_remove 19 = .ok (.ixor, 1) := by decide +kernel
theorem d_C_remove_20 : decode b_C_remove 20 = .ok (.iand, 1) := by decide +kernel
theorem d_C_remove_21 : decode b_C_remove 21 = .ok (.putfield 24, 3) := by decide +kernel
theorem d_C_remove_24 : decode b_C_remove 24 = .ok (.aload_n 0, 1) := by decide +kernel
theorem d_C_remove_25 : decode b_C_remove 25 = .ok (.getfield 9, 3) := by decide +kernel
theorem d_C_remove_28 : decode b_C_remove 28 = .ok (.iload_n 1, 1) := by decide +kernel
theorem d_C_remove_29 : decode b_C_remove 29 = .ok (.iconst 0, 1) := by decide +kernel
theorem d_C_remove_30 : decode b_C_remove 30 = .ok (.iastore, 1) := by decide +kernel
theorem d_C_remove_31 : decode b_C_remove 31 = .ok (.aload_n 0, 1) := by decide +kernel
theorem d_C_remove_32 : decode b_C_remove 32 = .ok (.getfield 15, 3) := by decide +kernel
theorem d_C_remove_35 : decode b_C_remove 35 = .ok (.iload_n 1, 1) := by decide +kernel
theorem d_C_remove_36 : decode b_C_remove 36 = .ok (.iconst 0, 1) := by decide +kernel
theorem d_C_remove_37 : decode b_C_remove 37 = .ok (.iastore, 1) := by decide +kernel
theorem d_C_remove_38 : decode b_C_remove 38 = .ok (.aload_n 0, 1) := by decide +kernel
theorem d_C_remove_39 : decode b_C_remove 39 = .ok (.getfield 18, 3) := by decide +kernel
theorem d_C_remove_42 : decode b_C_remove 42 = .ok (.iload_n 1, 1) := by decide +kernel
theorem d_C_remove_43 : decode b_C_remove 43 = .ok (.iconst 0, 1) := by decide +kernel
theorem d_C_remove_44 : decode b_C_remove 44 = .ok (.iastore, 1) := by decide +kernel
theorem d_C_remove_45 : decode b_C_remove 45 = .ok (.iconst 1, 1) := by decide +kernel
theorem d_C_remove_46 : decode b_C_remove 46 = .ok (.ireturn, 1) := by decide +kernel
theorem d_C_addNeed_0 : decode b_C_addNeed 0 = .ok (.aload_n 0, 1) := by decide +kernel
theorem d_C_addNeed_1 : decode b_C_addNeed 1 = .ok (.iload_n 1, 1) := by decide +kernel
theorem d_C_addNeed_2 : decode b_C_addNeed 2 = .ok (.invokevirtual 39, 3) := by decide +kernel
theorem d_C_addNeed_5 : decode b_C_addNeed 5 = .ok (.ifCond .eq 13, 3) := by decide +kernel
theorem d_C_addNeed_8 : decode b_C_addNeed 8 = .ok (.aload_n 0, 1) := by decide +kernel
theorem d_C_addNeed_9 : decode b_C_addNeed 9 = .ok (.getfield 9, 3) := by decide +kernel
theorem d_C_addNeed_12 : decode b_C_addNeed 12 = .ok (.iload_n 1, 1) := by decide +kernel
theorem d_C_addNeed_13 : decode b_C_addNeed 13 = .ok (.iaload, 1) := by decide +kernel
theorem d_C_addNeed_14 : decode b_C_addNeed 14 = .ok (.iconst 4, 1) := by decide +kernel
theorem d_C_addNeed_15 : decode b_C_addNeed 15 = .ok (.if_icmp .lt 5, 3) := by decide +kernel
theorem d_C_addNeed_18 : decode b_C_addNeed 18 = .ok (.iconst 0, 1) := by decide +kernel
theorem d_C_addNeed_19 : decode b_C_addNeed 19 = .ok (.ireturn, 1) := by decide +kernel
theorem d_C_addNeed_20 : decode b_C_addNeed 20 = .ok (.aload_n 0, 1) := by decide +kernel
theorem d_C_addNeed_21 : decode b_C_addNeed 21 = .ok (.getfield 9, 3) := by decide +kernel
theorem d_C_addNeed_24 : decode b_C_addNeed 24 = .ok (.iload_n 1, 1) := by decide +kernel
theorem d_C_addNeed_25 : decode b_C_addNeed 25 = .ok (.dup2, 1) := by decide +kernel
theorem d_C_addNeed_26 : decode b_C_addNeed 26 = .ok (.iaload, 1) := by decide +kernel
theorem d_C_addNeed_27 : decode b_C_addNeed 27 = .ok (.iconst 1, 1) := by decide +kernel
theorem d_C_addNeed_28 : decode b_C_addNeed 28 = .ok (.iadd, 1) := by decide +kernel
theorem d_C_addNeed_29 : decode b_C_addNeed 29 = .ok (.iastore, 1) := by decide +kernel
theorem d_C_addNeed_30 : decode b_C_addNeed 30 = .ok (.aload_n 0, 1) := by decide +kernel
theorem d_C_addNeed_31 : decode b_C_addNeed 31 = .ok (.getfield 15, 3) := by decide +kernel
theorem d_C_addNeed_34 : decode b_C_addNeed 34 = .ok (.iload_n 1, 1) := by decide +kernel
theorem d_C_addNeed_35 : decode b_C_addNeed 35 = .ok (.dup2, 1) := by decide +kernel
theorem d_C_addNeed_36 : decode b_C_addNeed 36 = .ok (.iaload, 1) := by decide +kernel
theorem d_C_addNeed_37 : decode b_C_addNeed 37 = .ok (.iload_n 2, 1) := by decide +kernel
theorem d_C_addNeed_38 : decode b_C_addNeed 38 = .ok (.ior, 1) := by decide +kernel
theorem d_C_addNeed_39 : decode b_C_addNeed 39 = .ok (.iastore, 1) := by decide +kernel
theorem d_C_addNeed_40 : decode b_C_addNeed 40 = .ok (.aload_n 0, 1) := by decide +kernel
theorem d_C_addNeed_41 : decode b_C_addNeed 41 = .ok (.getfield 18, 3) := by decide +kernel
theorem d_C_addNeed_44 : decode b_C_addNeed 44 = .ok (.iload_n 1, 1) := by decide +kernel
theorem d_C_addNeed_45 : decode b_C_addNeed 45 = .ok (.dup2, 1) := by decide +kernel
theorem d_C_addNeed_46 : decode b_C_addNeed 46 = .ok (.iaload, 1) := by decide +kernel
theorem d_C_addNeed_47 : decode b_C_addNeed 47 = .ok (.iload_n 3, 1) := by decide +kernel
theorem d_C_addNeed_48 : decode b_C_addNeed 48 = .ok (.ior, 1) := by decide +kernel
theorem d_C_addNeed_49 : decode b_C_addNeed 49 = .ok (.iastore, 1) := by decide +kernel
theorem d_C_addNeed_50 : decode b_C_addNeed 50 = .ok (.iconst 1, 1) := by decide +kernel
theorem d_C_addNeed_51 : decode b_C_addNeed 51 = .ok (.ireturn, 1) := by decide +kernel
theorem d_C_addBan_0 : decode b_C_addBan 0 = .ok (.iload_n 1, 1) := by decide +kernel
theorem d_C_addBan_1 : decode b_C_addBan 1 = .ok (.invokestatic 31, 3) := by decide +kernel
theorem d_C_addBan_4 : decode b_C_addBan 4 = .ok (.ifCond .eq 19, 3) := by decide +kernel
theorem d_C_addBan_7 : decode b_C_addBan 7 = .ok (.iload_n 2, 1) := by decide +kernel
theorem d_C_addBan_8 : decode b_C_addBan 8 = .ok (.invokestatic 31, 3) := by decide +kernel
theorem d_C_addBan_11 : decode b_C_addBan 11 = .ok (.ifCond .eq 12, 3) := by decide +kernel
theorem d_C_addBan_14 : decode b_C_addBan 14 = .ok (.aload_n 0, 1) := by decide +kernel
theorem d_C_addBan_15 : decode b_C_addBan 15 = .ok (.getfield 28, 3) := by decide +kernel
theorem d_C_addBan_18 : decode b_C_addBan 18 = .ok (.bipush 16, 2) := by decide +kernel
theorem d_C_addBan_20 : decode b_C_addBan 20 = .ok (.if_icmp .lt 5, 3) := by decide +kernel
theorem d_C_addBan_23 : decode b_C_addBan 23 = .ok (.iconst 0, 1) := by decide +kernel
theorem d_C_addBan_24 : decode b_C_addBan 24 = .ok (.ireturn, 1) := by decide +kernel
theorem d_C_addBan_25 : decode b_C_addBan 25 = .ok (.aload_n 0, 1) := by decide +kernel
theorem d_C_addBan_26 : decode b_C_addBan 26 = .ok (.dup, 1) := by decide +kernel
theorem d_C_addBan_27 : decode b_C_addBan 27 = .ok (.getfield 28, 3) := by decide +kernel
theorem d_C_addBan_30 : decode b_C_addBan 30 = .ok (.iconst 1, 1) := by decide +kernel
theorem d_C_addBan_31 : decode b_C_addBan 31 = .ok (.iadd, 1) := by decide +kernel
theorem d_C_addBan_32 : decode b_C_addBan 32 = .ok (.putfield 28, 3) := by decide +kernel
theorem d_C_addBan_35 : decode b_C_addBan 35 = .ok (.aload_n 0, 1) := by decide +kernel
theorem d_C_addBan_36 : decode b_C_addBan 36 = .ok (.getfield 21, 3) := by decide +kernel
theorem d_C_addBan_39 : decode b_C_addBan 39 = .ok (.iload_n 1, 1) := by decide +kernel
theorem d_C_addBan_40 : decode b_C_addBan 40 = .ok (.dup2, 1) := by decide +kernel
theorem d_C_addBan_41 : decode b_C_addBan 41 = .ok (.iaload, 1) := by decide +kernel
theorem d_C_addBan_42 : decode b_C_addBan 42 = .ok (.iconst 1, 1) := by decide +kernel
theorem d_C_addBan_43 : decode b_C_addBan 43 = .ok (.iload_n 2, 1) := by decide +kernel
theorem d_C_addBan_44 : decode b_C_addBan 44 = .ok (.ishl, 1) := by decide +kernel
theorem d_C_addBan_45 : decode b_C_addBan 45 = .ok (.ior, 1) := by decide +kernel
theorem d_C_addBan_46 : decode b_C_addBan 46 = .ok (.iastore, 1) := by decide +kernel
theorem d_C_addBan_47 : decode b_C_addBan 47 = .ok (.aload_n 0, 1) := by decide +kernel
theorem d_C_addBan_48 : decode b_C_addBan 48 = .ok (.getfield 21, 3) := by decide +kernel
theorem d_C_addBan_51 : decode b_C_addBan 51 = .ok (.iload_n 2, 1) := by decide +kernel
theorem d_C_addBan_52 : decode b_C_addBan 52 = .ok (.dup2, 1) := by decide +kernel
theorem d_C_addBan_53 : decode b_C_addBan 53 = .ok (.iaload, 1) := by decide +kernel
theorem d_C_addBan_54 : decode b_C_addBan 54 = .ok (.iconst 1, 1) := by decide +kernel
theorem d_C_addBan_55 : decode b_C_addBan 55 = .ok (.iload_n 1, 1) := by decide +kernel
theorem d_C_addBan_56 : decode b_C_addBan 56 = .ok (.ishl, 1) := by decide +kernel
theorem d_C_addBan_57 : decode b_C_addBan 57 = .ok (.ior, 1) := by decide +kernel
theorem d_C_addBan_58 : decode b_C_addBan 58 = .ok (.iastore, 1) := by decide +kernel
theorem d_C_addBan_59 : decode b_C_addBan 59 = .ok (.iconst 1, 1) := by decide +kernel
theorem d_C_addBan_60 : decode b_C_addBan 60 = .ok (.ireturn, 1) := by decide +kernel
theorem d_C_allNeeds_0 : decode b_C_allNeeds 0 = .ok (.iconst 0, 1) := by decide +kernel
theorem d_C_allNeeds_1 : decode b_C_allNeeds 1 = .ok (.istore_n 1, 1) := by decide +kernel
theorem d_C_allNeeds_2 : decode b_C_allNeeds 2 = .ok (.iconst 0, 1) := by decide +kernel
theorem d_C_allNeeds_3 : decode b_C_allNeeds 3 = .ok (.istore_n 2, 1) := by decide +kernel
theorem d_C_allNeeds_4 : decode b_C_allNeeds 4 = .ok (.iload_n 2, 1) := by decide +kernel
theorem d_C_allNeeds_5 : decode b_C_allNeeds 5 = .ok (.bipush 28, 2) := by decide +kernel
theorem d_C_allNeeds_7 : decode b_C_allNeeds 7 = .ok (.if_icmp .ge 18, 3) := by decide +kernel
theorem d_C_allNeeds_10 : decode b_C_allNeeds 10 = .ok (.iload_n 1, 1) := by decide +kernel
theorem d_C_allNeeds_11 : decode b_C_allNeeds 11 = .ok (.aload_n 0, 1) := by decide +kernel
theorem d_C_allNeeds_12 : decode b_C_allNeeds 12 = .ok (.getfield 9, 3) := by decide +kernel
theorem d_C_allNeeds_15 : decode b_C_allNeeds 15 = .ok (.iload_n 2, 1) := by decide +kernel
theorem d_C_allNeeds_16 : decode b_C_allNeeds 16 = .ok (.iaload, 1) := by decide +kernel
theorem d_C_allNeeds_17 : decode b_C_allNeeds 17 = .ok (.iadd, 1) := by decide +kernel
theorem d_C_allNeeds_18 : decode b_C_allNeeds 18 = .ok (.istore_n 1, 1) := by decide +kernel
theorem d_C_allNeeds_19 : decode b_C_allNeeds 19 = .ok (.iinc 2 1, 3) := by decide +kernel
theorem d_C_allNeeds_22 : decode b_C_allNeeds 22 = .ok (.goto (-18), 3) := by decide +kernel
theorem d_C_allNeeds_25 : decode b_C_allNeeds 25 = .ok (.iload_n 1, 1) := by decide +kernel
theorem d_C_allNeeds_26 : decode b_C_allNeeds 26 = .ok (.ireturn, 1) := by decide +kernel
theorem d_T_init_0 : decode b_T_init 0 = .ok (.aload_n 0, 1) := by decide +kernel
theorem d_T_init_1 : decode b_T_init 1 = .ok (.invokespecial 3, 3) := by decide +kernel
theorem d_T_init_4 : decode b_T_init 4 = .ok (.aload_n 0, 1) := by decide +kernel
theorem d_T_init_5 : decode b_T_init 5 = .ok (.iconst 0, 1) := by decide +kernel
theorem d_T_init_6 : decode b_T_init 6 = .ok (.putfield 9, 3) := by decide +kernel
theorem d_T_init_9 : decode b_T_init 9 = .ok (.aload_n 0, 1) := by decide +kernel
theorem d_T_init_10 : decode b_T_init 10 = .ok (.iconst 0, 1) := by decide +kernel
theorem d_T_init_11 : decode b_T_init 11 = .ok (.putfield 15, 3) := by decide +kernel
theorem d_T_init_14 : decode b_T_init 14 = .ok (.aload_n 0, 1) := by decide +kernel
theorem d_T_init_15 : decode b_T_init 15 = .ok (.iconst 0, 1) := by decide +kernel
theorem d_T_init_16 : decode b_T_init 16 = .ok (.putfield 18, 3) := by decide +kernel
theorem d_T_init_19 : decode b_T_init 19 = .ok (.aload_n 0, 1) := by decide +kernel
theorem d_T_init_20 : decode b_T_init 20 = .ok (.iconst 0, 1) := by decide +kernel
theorem d_T_init_21 : decode b_T_init 21 = .ok (.putfield 21, 3) := by decide +kernel
theorem d_T_init_24 : decode b_T_init 24 = .ok (.aload_n 0, 1) := by decide +kernel
theorem d_T_init_25 : decode b_T_init 25 = .ok (.iconst 0, 1) := by decide +kernel
theorem d_T_init_26 : decode b_T_init 26 = .ok (.putfield 24, 3) := by decide +kernel
theorem d_T_init_29 : decode b_T_init 29 = .ok (.aload_n 0, 1) := by decide +kernel
theorem d_T_init_30 : decode b_T_init 30 = .ok (.iconst 0, 1) := by decide +kernel
theorem d_T_init_31 : decode b_T_init 31 = .ok (.putfield 27, 3) := by decide +kernel
theorem d_T_init_34 : decode b_T_init 34 = .ok (.aload_n 0, 1) := by decide +kernel
theorem d_T_init_35 : decode b_T_init 35 = .ok (.iconst 0, 1) := by decide +kernel
theorem d_T_init_36 : decode b_T_init 36 = .ok (.putfield 30, 3) := by decide +kernel
theorem d_T_init_39 : decode b_T_init 39 = .ok (.return_, 1) := by decide +kernel
theorem d_T_begin_0 : decode b_T_begin 0 = .ok (.aload_n 0, 1) := by decide +kernel
theorem d_T_begin_1 : decode b_T_begin 1 = .ok (.iload_n 1, 1) := by decide +kernel
theorem d_T_begin_2 : decode b_T_begin 2 = .ok (.putfield 9, 3) := by decide +kernel
theorem d_T_begin_5 : decode b_T_begin 5 = .ok (.aload_n 0, 1) := by decide +kernel
theorem d_T_begin_6 : decode b_T_begin 6 = .ok (.iload_n 2, 1) := by decide +kernel
theorem d_T_begin_7 : decode b_T_begin 7 = .ok (.putfield 15, 3) := by decide +kernel
theorem d_T_begin_10 : decode b_T_begin 10 = .ok (.aload_n 0, 1) := by decide +kernel
theorem d_T_begin_11 : decode b_T_begin 11 = .ok (.iconst 0, 1) := by decide +kernel
theorem d_T_begin_12 : decode b_T_begin 12 = .ok (.putfield 18, 3) := by decide +kernel
theorem d_T_begin_15 : decode b_T_begin 15 = .ok (.aload_n 0, 1) := by decide +kernel
theorem d_T_begin_16 : decode b_T_begin 16 = .ok (.iconst 0, 1) := by decide +kernel
theorem d_T_begin_17 : decode b_T_begin 17 = .ok (.putfield 21, 3) := by decide +kernel
theorem d_T_begin_20 : decode b_T_begin 20 = .ok (.aload_n 0, 1) := by decide +kernel
theorem d_T_begin_21 : decode b_T_begin 21 = .ok (.iconst 0, 1) := by decide +kernel
theorem d_T_begin_22 : decode b_T_begin 22 = .ok (.putfield 24, 3) := by decide +kernel
theorem d_T_begin_25 : decode b_T_begin 25 = .ok (.aload_n 0, 1) := by decide +kernel
theorem d_T_begin_26 : decode b_T_begin 26 = .ok (.iconst 0, 1) := by decide +kernel
theorem d_T_begin_27 : decode b_T_begin 27 = .ok (.putfield 27, 3) := by decide +kernel
theorem d_T_begin_30 : decode b_T_begin 30 = .ok (.aload_n 0, 1) := by decide +kernel
theorem d_T_begin_31 : decode b_T_begin 31 = .ok (.iconst 0, 1) := by decide +kernel
theorem d_T_begin_32 : decode b_T_begin 32 = .ok (.putfield 30, 3) := by decide +kernel
theorem d_T_begin_35 : decode b_T_begin 35 = .ok (.return_, 1) := by decide +kernel
theorem d_T_isFull_0 : decode b_T_isFull 0 = .ok (.aload_n 0, 1) := by decide +kernel
theorem d_T_isFull_1 : decode b_T_isFull 1 = .ok (.getfield 18, 3) := by decide +kernel
theorem d_T_isFull_4 : decode b_T_isFull 4 = .ok (.aload_n 0, 1) := by decide +kernel
theorem d_T_isFull_5 : decode b_T_isFull 5 = .ok (.getfield 15, 3) := by decide +kernel
theorem d_T_isFull_8 : decode b_T_isFull 8 = .ok (.if_icmp .lt 7, 3) := by decide +kernel
theorem d_T_isFull_11 : decode b_T_isFull 11 = .ok (.iconst 1, 1) := by decide +kernel
theorem d_T_isFull_12 : decode b_T_isFull 12 = .ok (.goto 4, 3) := by decide +kernel
theorem d_T_isFull_15 : decode b_T_isFull 15 = .ok (.iconst 0, 1) := by decide +kernel
theorem d_T_isFull_16 : decode b_T_isFull 16 = .ok (.ireturn, 1) := by decide +kernel
theorem d_T_enter_0 : decode b_T_enter 0 = .ok (.aload_n 0, 1) := by decide +kernel
theorem d_T_enter_1 : decode b_T_enter 1 = .ok (.getfield 18, 3) := by decide +kernel
theorem d_T_enter_4 : decode b_T_enter 4 = .ok (.ifCond .eq 27, 3) := by decide +kernel
theorem d_T_enter_7 : decode b_T_enter 7 = .ok (.iload_n 2, 1) := by decide +kernel
theorem d_T_enter_8 : decode b_T_enter 8 = .ok (.aload_n 0, 1) := by decide +kernel
theorem d_T_enter_9 : decode b_T_enter 9 = .ok (.getfield 30, 3) := by decide +kernel
theorem d_T_enter_12 : decode b_T_enter 12 = .ok (.if_icmp .lt 19, 3) := by decide +kernel
theorem d_T_enter_15 : decode b_T_enter 15 = .ok (.iload_n 2, 1) := by decide +kernel
theorem d_T_enter_16 : decode b_T_enter 16 = .ok (.aload_n 0, 1) := by decide +kernel
theorem d_T_enter_17 : decode b_T_enter 17 = .ok (.getfield 30, 3) := by decide +kernel
theorem d_T_enter_20 : decode b_T_enter 20 = .ok (.if_icmp .ne 21, 3) := by decide +kernel
theorem d_T_enter_23 : decode b_T_enter 23 = .ok (.iload_n 1, 1) := by decide +kernel
theorem d_T_enter_24 : decode b_T_enter 24 = .ok (.aload_n 0, 1) := by decide +kernel
theorem d_T_enter_25 : decode b_T_enter 25 = .ok (.getfield 27, 3) := by decide +kernel
theorem d_T_enter_28 : decode b_T_enter 28 = .ok (.if_icmp .le 13, 3) := by decide +kernel
theorem d_T_enter_31 : decode b_T_enter 31 = .ok (.aload_n 0, 1) := by decide +kernel
theorem d_T_enter_32 : decode b_T_enter 32 = .ok (.iload_n 1, 1) := by decide +kernel
theorem d_T_enter_33 : decode b_T_enter 33 = .ok (.putfield 27, 3) := by decide +kernel
theorem d_T_enter_36 : decode b_T_enter 36 = .ok (.aload_n 0, 1) := by decide +kernel
theorem d_T_enter_37 : decode b_T_enter 37 = .ok (.iload_n 2, 1) := by decide +kernel
theorem d_T_enter_38 : decode b_T_enter 38 = .ok (.putfield 30, 3) := by decide +kernel
theorem d_T_enter_41 : decode b_T_enter 41 = .ok (.aload_n 0, 1) := by decide +kernel
theorem d_T_enter_42 : decode b_T_enter 42 = .ok (.dup, 1) := by decide +kernel
theorem d_T_enter_43 : decode b_T_enter 43 = .ok (.getfield 18, 3) := by decide +kernel
theorem d_T_enter_46 : decode b_T_enter 46 = .ok (.iconst 1, 1) := by decide +kernel
theorem d_T_enter_47 : decode b_T_enter 47 = .ok (.iadd, 1) := by decide +kernel
theorem d_T_enter_48 : decode b_T_enter 48 = .ok (.putfield 18, 3) := by decide +kernel
theorem d_T_enter_51 : decode b_T_enter 51 = .ok (.aload_n 0, 1) := by decide +kernel
theorem d_T_enter_52 : decode b_T_enter 52 = .ok (.dup, 1) := by decide +kernel
theorem d_T_enter_53 : decode b_T_enter 53 = .ok (.getfield 21, 3) := by decide +kernel
theorem d_T_enter_56 : decode b_T_enter 56 = .ok (.iload_n 1, 1) := by decide +kernel
theorem d_T_enter_57 : decode b_T_enter 57 = .ok (.ior, 1) := by decide +kernel
theorem d_T_enter_58 : decode b_T_enter 58 = .ok (.putfield 21, 3) := by decide +kernel
theorem d_T_enter_61 : decode b_T_enter 61 = .ok (.aload_n 0, 1) := by decide +kernel
theorem d_T_enter_62 : decode b_T_enter 62 = .ok (.dup, 1) := by decide +kernel
theorem d_T_enter_63 : decode b_T_enter 63 = .ok (.getfield 24, 3) := by decide +kernel
theorem d_T_enter_66 : decode b_T_enter 66 = .ok (.ldc 33, 2) := by decide +kernel
theorem d_T_enter_68 : decode b_T_enter 68 = .ok (.iload_n 1, 1) := by decide +kernel
theorem d_T_enter_69 : decode b_T_enter 69 = .ok (.invokestatic 34, 3) := by decide +kernel
theorem d_T_enter_72 : decode b_T_enter 72 = .ok (.iconst (-1), 1) := by decide +kernel
theorem d_T_enter_73 : decode b_T_enter 73 = .ok (.ixor, 1) := by decide +kernel
theorem d_T_enter_74 : decode b_T_enter 74 = .ok (.iand, 1) := by decide +kernel
theorem d_T_enter_75 : decode b_T_enter 75 = .ok (.ior, 1) := by decide +kernel
theorem d_T_enter_76 : decode b_T_enter 76 = .ok (.putfield 24, 3) := by decide +kernel
theorem d_T_enter_79 : decode b_T_enter 79 = .ok (.return_, 1) := by decide +kernel
theorem d_W_init_0 : decode b_W_init 0 = .ok (.aload_n 0, 1) := by decide +kernel
theorem d_W_init_1 : decode b_W_init 1 = .ok (.invokespecial 3, 3) := by decide +kernel
theorem d_W_init_4 : decode b_W_init 4 = .ok (.aload_n 0, 1) := by decide +kernel
theorem d_W_init_5 : decode b_W_init 5 = .ok (.bipush 6, 2) := by decide +kernel
theorem d_W_init_7 : decode b_W_init 7 = .ok (.newarray .int, 2) := by decide +kernel
theorem d_W_init_9 : decode b_W_init 9 = .ok (.putfield 9, 3) := by decide +kernel
theorem d_W_init_12 : decode b_W_init 12 = .ok (.aload_n 0, 1) := by decide +kernel
theorem d_W_init_13 : decode b_W_init 13 = .ok (.bipush 6, 2) := by decide +kernel
theorem d_W_init_15 : decode b_W_init 15 = .ok (.newarray .int, 2) := by decide +kernel
theorem d_W_init_17 : decode b_W_init 17 = .ok (.putfield 15, 3) := by decide +kernel
theorem d_W_init_20 : decode b_W_init 20 = .ok (.aload_n 0, 1) := by decide +kernel
theorem d_W_init_21 : decode b_W_init 21 = .ok (.iconst 0, 1) := by decide +kernel
theorem d_W_init_22 : decode b_W_init 22 = .ok (.putfield 18, 3) := by decide +kernel
theorem d_W_init_25 : decode b_W_init 25 = .ok (.return_, 1) := by decide +kernel
theorem d_W_add_0 : decode b_W_add 0 = .ok (.aload_n 0, 1) := by decide +kernel
theorem d_W_add_1 : decode b_W_add 1 = .ok (.getfield 18, 3) := by decide +kernel
theorem d_W_add_4 : decode b_W_add 4 = .ok (.bipush 6, 2) := by decide +kernel
theorem d_W_add_6 : decode b_W_add 6 = .ok (.if_icmp .lt 5, 3) := by decide +kernel
theorem d_W_add_9 : decode b_W_add 9 = .ok (.iconst 0, 1) := by decide +kernel
theorem d_W_add_10 : decode b_W_add 10 = .ok (.ireturn, 1) := by decide +kernel
theorem d_W_add_11 : decode b_W_add 11 = .ok (.aload_n 0, 1) := by decide +kernel
theorem d_W_add_12 : decode b_W_add 12 = .ok (.getfield 9, 3) := by decide +kernel
theorem d_W_add_15 : decode b_W_add 15 = .ok (.aload_n 0, 1) := by decide +kernel
theorem d_W_add_16 : decode b_W_add 16 = .ok (.getfield 18, 3) := by decide +kernel
theorem d_W_add_19 : decode b_W_add 19 = .ok (.iload_n 1, 1) := by decide +kernel
theorem d_W_add_20 : decode b_W_add 20 = .ok (.iastore, 1) := by decide +kernel
theorem d_W_add_21 : decode b_W_add 21 = .ok (.aload_n 0, 1) := by decide +kernel
theorem d_W_add_22 : decode b_W_add 22 = .ok (.getfield 15, 3) := by decide +kernel
theorem d_W_add_25 : decode b_W_add 25 = .ok (.aload_n 0, 1) := by decide +kernel
theorem d_W_add_26 : decode b_W_add 26 = .ok (.getfield 18, 3) := by decide +kernel
theorem d_W_add_29 : decode b_W_add 29 = .ok (.iload_n 2, 1) := by decide +kernel
theorem d_W_add_30 : decode b_W_add 30 = .ok (.iastore, 1) := by decide +kernel
theorem d_W_add_31 : decode b_W_add 31 = .ok (.aload_n 0, 1) := by decide +kernel
theorem d_W_add_32 : decode b_W_add 32 = .ok (.dup, 1) := by decide +kernel
theorem d_W_add_33 : decode b_W_add 33 = .ok (.getfield 18, 3) := by decide +kernel
theorem d_W_add_36 : decode b_W_add 36 = .ok (.iconst 1, 1) := by decide +kernel
theorem d_W_add_37 : decode b_W_add 37 = .ok (.iadd, 1) := by decide +kernel
theorem d_W_add_38 : decode b_W_add 38 = .ok (.putfield 18, 3) := by decide +kernel
theorem d_W_add_41 : decode b_W_add 41 = .ok (.iconst 1, 1) := by decide +kernel
theorem d_W_add_42 : decode b_W_add 42 = .ok (.ireturn, 1) := by decide +kernel
theorem d_W_remove_0 : decode b_W_remove 0 = .ok (.iload_n 1, 1) := by decide +kernel
theorem d_W_remove_1 : decode b_W_remove 1 = .ok (.ifCond .lt 11, 3) := by decide +kernel
theorem d_W_remove_4 : decode b_W_remove 4 = .ok (.iload_n 1, 1) := by decide +kernel
theorem d_W_remove_5 : decode b_W_remove 5 = .ok (.aload_n 0, 1) := by decide +kernel
theorem d_W_remove_6 : decode b_W_remove 6 = .ok (.getfield 18, 3) := by decide +kernel
theorem d_W_remove_9 : decode b_W_remove 9 = .ok (.if_icmp .lt 5, 3) := by decide +kernel
theorem d_W_remove_12 : decode b_W_remove 12 = .ok (.iconst 0, 1) := by decide +kernel
theorem d_W_remove_13 : decode b_W_remove 13 = .ok (.ireturn, 1) := by decide +kernel
theorem d_W_remove_14 : decode b_W_remove 14 = .ok (.aload_n 0, 1) := by decide +kernel
theorem d_W_remove_15 : decode b_W_remove 15 = .ok (.dup, 1) := by decide +kernel
theorem d_W_remove_16 : decode b_W_remove 16 = .ok (.getfield 18, 3) := by decide +kernel
theorem d_W_remove_19 : decode b_W_remove 19 = .ok (.iconst 1, 1) := by decide +kernel
theorem d_W_remove_20 : decode b_W_remove 20 = .ok (.isub, 1) := by decide +kernel
theorem d_W_remove_21 : decode b_W_remove 21 = .ok (.putfield 18, 3) := by decide +kernel
theorem d_W_remove_24 : decode b_W_remove 24 = .ok (.iload_n 1, 1) := by decide +kernel
theorem d_W_remove_25 : decode b_W_remove 25 = .ok (.istore_n 2, 1) := by decide +kernel
theorem d_W_remove_26 : decode b_W_remove 26 = .ok (.iload_n 2, 1) := by decide +kernel
theorem d_W_remove_27 : decode b_W_remove 27 = .ok (.aload_n 0, 1) := by decide +kernel
theorem d_W_remove_28 : decode b_W_remove 28 = .ok (.getfield 18, 3) := by decide +kernel
theorem d_W_remove_31 : decode b_W_remove 31 = .ok (.if_icmp .ge 37, 3) := by decide +kernel
theorem d_W_remove_34 : decode b_W_remove 34 = .ok (.aload_n 0, 1) := by decide +kernel
theorem d_W_remove_35 : decode b_W_remove 35 = .ok (.getfield 9, 3) := by decide +kernel
theorem d_W_remove_38 : decode b_W_remove 38 = .ok (.iload_n 2, 1) := by decide +kernel
theorem d_W_remove_39 : decode b_W_remove 39 = .ok (.aload_n 0, 1) := by decide +kernel
theorem d_W_remove_40 : decode b_W_remove 40 = .ok (.getfield 9, 3) := by decide +kernel
theorem d_W_remove_43 : decode b_W_remove 43 = .ok (.iload_n 2, 1) := by decide +kernel
theorem d_W_remove_44 : decode b_W_remove 44 = .ok (.iconst 1, 1) := by decide +kernel
theorem d_W_remove_45 : decode b_W_remove 45 = .ok (.iadd, 1) := by decide +kernel
theorem d_W_remove_46 : decode b_W_remove 46 = .ok (.iaload, 1) := by decide +kernel
theorem d_W_remove_47 : decode b_W_remove 47 = .ok (.iastore, 1) := by decide +kernel
theorem d_W_remove_48 : decode b_W_remove 48 = .ok (.aload_n 0, 1) := by decide +kernel
theorem d_W_remove_49 : decode b_W_remove 49 = .ok (.getfield 15, 3) := by decide +kernel
theorem d_W_remove_52 : decode b_W_remove 52 = .ok (.iload_n 2, 1) := by decide +kernel
theorem d_W_remove_53 : decode b_W_remove 53 = .ok (.aload_n 0, 1) := by decide +kernel
theorem d_W_remove_54 : decode b_W_remove 54 = .ok (.getfield 15, 3) := by decide +kernel
theorem d_W_remove_57 : decode b_W_remove 57 = .ok (.iload_n 2, 1) := by decide +kernel
theorem d_W_remove_58 : decode b_W_remove 58 = .ok (.iconst 1, 1) := by decide +kernel
theorem d_W_remove_59 : decode b_W_remove 59 = .ok (.iadd, 1) := by decide +kernel
theorem d_W_remove_60 : decode b_W_remove 60 = .ok (.iaload, 1) := by decide +kernel
theorem d_W_remove_61 : decode b_W_remove 61 = .ok (.iastore, 1) := by decide +kernel
theorem d_W_remove_62 : decode b_W_remove 62 = .ok (.iinc 2 1, 3) := by decide +kernel
theorem d_W_remove_65 : decode b_W_remove 65 = .ok (.goto (-39), 3) := by decide +kernel
theorem d_W_remove_68 : decode b_W_remove 68 = .ok (.iconst 1, 1) := by decide +kernel
theorem d_W_remove_69 : decode b_W_remove 69 = .ok (.ireturn, 1) := by decide +kernel
theorem d_W_all_0 : decode b_W_all 0 = .ok (.iconst 0, 1) := by decide +kernel
theorem d_W_all_1 : decode b_W_all 1 = .ok (.istore_n 1, 1) := by decide +kernel
theorem d_W_all_2 : decode b_W_all 2 = .ok (.iconst 0, 1) := by decide +kernel
theorem d_W_all_3 : decode b_W_all 3 = .ok (.istore_n 2, 1) := by decide +kernel
theorem d_W_all_4 : decode b_W_all 4 = .ok (.iload_n 2, 1) := by decide +kernel
theorem d_W_all_5 : decode b_W_all 5 = .ok (.aload_n 0, 1) := by decide +kernel
theorem d_W_all_6 : decode b_W_all 6 = .ok (.getfield 18, 3) := by decide +kernel
theorem d_W_all_9 : decode b_W_all 9 = .ok (.if_icmp .ge 16, 3) := by decide +kernel
theorem d_W_all_12 : decode b_W_all 12 = .ok (.iload_n 1, 1) := by decide +kernel
theorem d_W_all_13 : decode b_W_all 13 = .ok (.iload_n 2, 1) := by decide +kernel
theorem d_W_all_14 : decode b_W_all 14 = .ok (.invokestatic 22, 3) := by decide +kernel
theorem d_W_all_17 : decode b_W_all 17 = .ok (.ior, 1) := by decide +kernel
theorem d_W_all_18 : decode b_W_all 18 = .ok (.istore_n 1, 1) := by decide +kernel
theorem d_W_all_19 : decode b_W_all 19 = .ok (.iinc 2 1, 3) := by decide +kernel
theorem d_W_all_22 : decode b_W_all 22 = .ok (.goto (-18), 3) := by decide +kernel
theorem d_W_all_25 : decode b_W_all 25 = .ok (.iload_n 1, 1) := by decide +kernel
theorem d_W_all_26 : decode b_W_all 26 = .ok (.ireturn, 1) := by decide +kernel
theorem d_W_union_0 : decode b_W_union 0 = .ok (.iconst 0, 1) := by decide +kernel
theorem d_W_union_1 : decode b_W_union 1 = .ok (.istore_n 3, 1) := by decide +kernel
theorem d_W_union_2 : decode b_W_union 2 = .ok (.iconst 0, 1) := by decide +kernel
theorem d_W_union_3 : decode b_W_union 3 = .ok (.istore 4, 2) := by decide +kernel
theorem d_W_union_5 : decode b_W_union 5 = .ok (.iload 4, 2) := by decide +kernel
theorem d_W_union_7 : decode b_W_union 7 = .ok (.aload_n 0, 1) := by decide +kernel
theorem d_W_union_8 : decode b_W_union 8 = .ok (.getfield 18, 3) := by decide +kernel
theorem d_W_union_11 : decode b_W_union 11 = .ok (.if_icmp .ge 33, 3) := by decide +kernel
theorem d_W_union_14 : decode b_W_union 14 = .ok (.iload 4, 2) := by decide +kernel
theorem d_W_union_16 : decode b_W_union 16 = .ok (.aload_n 1, 1) := by decide +kernel
theorem d_W_union_17 : decode b_W_union 17 = .ok (.arraylength, 1) := by decide +kernel
theorem d_W_union_18 : decode b_W_union 18 = .ok (.if_icmp .ge 26, 3) := by decide +kernel
theorem d_W_union_21 : decode b_W_union 21 = .ok (.iload_n 2, 1) := by decide +kernel
theorem d_W_union_22 : decode b_W_union 22 = .ok (.iload 4, 2) := by decide +kernel
theorem d_W_union_24 : decode b_W_union 24 = .ok (.invokestatic 22, 3) := by decide +kernel
theorem d_W_union_27 : decode b_W_union 27 = .ok (.iand, 1) := by decide +kernel
theorem d_W_union_28 : decode b_W_union 28 = .ok (.ifCond .eq 10, 3) := by decide +kernel
theorem d_W_union_31 : decode b_W_union 31 = .ok (.iload_n 3, 1) := by decide +kernel
theorem d_W_union_32 : decode b_W_union 32 = .ok (.aload_n 1, 1) := by decide +kernel
theorem d_W_union_33 : decode b_W_union 33 = .ok (.iload 4, 2) := by decide +kernel
theorem d_W_union_35 : decode b_W_union 35 = .ok (.iaload, 1) := by decide +kernel
theorem d_W_union_36 : decode b_W_union 36 = .ok (.ior, 1) := by decide +kernel
theorem d_W_union_37 : decode b_W_union 37 = .ok (.istore_n 3, 1) := by decide +kernel
theorem d_W_union_38 : decode b_W_union 38 = .ok (.iinc 4 1, 3) := by decide +kernel
theorem d_W_union_41 : decode b_W_union 41 = .ok (.goto (-36), 3) := by decide +kernel
theorem d_W_union_44 : decode b_W_union 44 = .ok (.iload_n 3, 1) := by decide +kernel
theorem d_W_union_45 : decode b_W_union 45 = .ok (.ireturn, 1) := by decide +kernel
theorem d_X_init_0 : decode b_X_init 0 = .ok (.aload_n 0, 1) := by decide +kernel
theorem d_X_init_1 : decode b_X_init 1 = .ok (.invokespecial 3, 3) := by decide +kernel
theorem d_X_init_4 : decode b_X_init 4 = .ok (.aload_n 0, 1) := by decide +kernel
theorem d_X_init_5 : decode b_X_init 5 = .ok (.new 9, 3) := by decide +kernel
theorem d_X_init_8 : decode b_X_init 8 = .ok (.dup, 1) := by decide +kernel
theorem d_X_init_9 : decode b_X_init 9 = .ok (.invokespecial 11, 3) := by decide +kernel
theorem d_X_init_12 : decode b_X_init 12 = .ok (.putfield 12, 3) := by decide +kernel
theorem d_X_init_15 : decode b_X_init 15 = .ok (.aload_n 0, 1) := by decide +kernel
theorem d_X_init_16 : decode b_X_init 16 = .ok (.new 16, 3) := by decide +kernel
theorem d_X_init_19 : decode b_X_init 19 = .ok (.dup, 1) := by decide +kernel
theorem d_X_init_20 : decode b_X_init 20 = .ok (.invokespecial 18, 3) := by decide +kernel
theorem d_X_init_23 : decode b_X_init 23 = .ok (.putfield 19, 3) := by decide +kernel
theorem d_X_init_26 : decode b_X_init 26 = .ok (.aload_n 0, 1) := by decide +kernel
theorem d_X_init_27 : decode b_X_init 27 = .ok (.new 23, 3) := by decide +kernel
theorem d_X_init_30 : decode b_X_init 30 = .ok (.dup, 1) := by decide +kernel
theorem d_X_init_31 : decode b_X_init 31 = .ok (.invokespecial 25, 3) := by decide +kernel
theorem d_X_init_34 : decode b_X_init 34 = .ok (.putfield 26, 3) := by decide +kernel
theorem d_X_init_37 : decode b_X_init 37 = .ok (.aload_n 0, 1) := by decide +kernel
theorem d_X_init_38 : decode b_X_init 38 = .ok (.iconst 0, 1) := by decide +kernel
theorem d_X_init_39 : decode b_X_init 39 = .ok (.putfield 30, 3) := by decide +kernel
theorem d_X_init_42 : decode b_X_init 42 = .ok (.aload_n 0, 1) := by decide +kernel
theorem d_X_init_43 : decode b_X_init 43 = .ok (.iconst 0, 1) := by decide +kernel
theorem d_X_init_44 : decode b_X_init 44 = .ok (.putfield 34, 3) := by decide +kernel
theorem d_X_init_47 : decode b_X_init 47 = .ok (.aload_n 0, 1) := by decide +kernel
theorem d_X_init_48 : decode b_X_init 48 = .ok (.iconst 0, 1) := by decide +kernel
theorem d_X_init_49 : decode b_X_init 49 = .ok (.putfield 37, 3) := by decide +kernel
theorem d_X_init_52 : decode b_X_init 52 = .ok (.return_, 1) := by decide +kernel
theorem d_X_version_0 : decode b_X_version 0 = .ok (.iload_n 1, 1) := by decide +kernel
theorem d_X_version_1 : decode b_X_version 1 = .ok (.iload_n 2, 1) := by decide +kernel
theorem d_X_version_2 : decode b_X_version 2 = .ok (.invokestatic 40, 3) := by decide +kernel
theorem d_X_version_5 : decode b_X_version 5 = .ok (.ifCond .eq 22, 3) := by decide +kernel
theorem d_X_version_8 : decode b_X_version 8 = .ok (.aload_n 0, 1) := by decide +kernel
theorem d_X_version_9 : decode b_X_version 9 = .ok (.getfield 12, 3) := by decide +kernel
theorem d_X_version_12 : decode b_X_version 12 = .ok (.iload_n 1, 1) := by decide +kernel
theorem d_X_version_13 : decode b_X_version 13 = .ok (.iload_n 2, 1) := by decide +kernel
theorem d_X_version_14 : decode b_X_version 14 = .ok (.invokestatic 44, 3) := by decide +kernel
theorem d_X_version_17 : decode b_X_version 17 = .ok (.invokevirtual 48, 3) := by decide +kernel
theorem d_X_version_20 : decode b_X_version 20 = .ok (.ifCond .eq 7, 3) := by decide +kernel
theorem d_X_version_23 : decode b_X_version 23 = .ok (.iconst 1, 1) := by decide +kernel
theorem d_X_version_24 : decode b_X_version 24 = .ok (.goto 4, 3) := by decide +kernel
theorem d_X_version_27 : decode b_X_version 27 = .ok (.iconst 0, 1) := by decide +kernel
theorem d_X_version_28 : decode b_X_version 28 = .ok (.ireturn, 1) := by decide +kernel
theorem d_X_need_0 : decode b_X_need 0 = .ok (.iload_n 1, 1) := by decide +kernel
theorem d_X_need_1 : decode b_X_need 1 = .ok (.iload_n 2, 1) := by decide +kernel
theorem d_X_need_2 : decode b_X_need 2 = .ok (.invokestatic 40, 3) := by decide +kernel
theorem d_X_need_5 : decode b_X_need 5 = .ok (.ifCond .eq 45, 3) := by decide +kernel
theorem d_X_need_8 : decode b_X_need 8 = .ok (.iload_n 3, 1) := by decide +kernel
theorem d_X_need_9 : decode b_X_need 9 = .ok (.iload 4, 2) := by decide +kernel
theorem d_X_need_11 : decode b_X_need 11 = .ok (.iload 5, 2) := by decide +kernel
theorem d_X_need_13 : decode b_X_need 13 = .ok (.invokestatic 52, 3) := by decide +kernel
theorem d_X_need_16 : decode b_X_need 16 = .ok (.ifCond .eq 34, 3) := by decide +kernel
theorem d_X_need_19 : decode b_X_need 19 = .ok (.aload_n 0, 1) := by decide +kernel
theorem d_X_need_20 : decode b_X_need 20 = .ok (.getfield 12, 3) := by decide +kernel
theorem d_X_need_23 : decode b_X_need 23 = .ok (.iload_n 1, 1) := by decide +kernel
theorem d_X_need_24 : decode b_X_need 24 = .ok (.iload_n 2, 1) := by decide +kernel
theorem d_X_need_25 : decode b_X_need 25 = .ok (.invokestatic 44, 3) := by decide +kernel
theorem d_X_need_28 : decode b_X_need 28 = .ok (.iload_n 3, 1) := by decide +kernel
theorem d_X_need_29 : decode b_X_need 29 = .ok (.invokestatic 56, 3) := by decide +kernel
theorem d_X_need_32 : decode b_X_need 32 = .ok (.iload_n 3, 1) := by decide +kernel
theorem d_X_need_33 : decode b_X_need 33 = .ok (.iload 4, 2) := by decide +kernel
theorem d_X_need_35 : decode b_X_need 35 = .ok (.iload 5, 2) := by decide +kernel
theorem d_X_need_37 : decode b_X_need 37 = .ok (.invokestatic 60, 3) := by decide +kernel
theorem d_X_need_40 : decode b_X_need 40 = .ok (.invokevirtual 64, 3) := by decide +kernel
theorem d_X_need_43 : decode b_X_need 43 = .ok (.ifCond .eq 7, 3) := by decide +kernel
theorem d_X_need_46 : decode b_X_need 46 = .ok (.iconst 1, 1) := by decide +kernel
theorem d_X_need_47 : decode b_X_need 47 = .ok (.goto 4, 3) := by decide +kernel
theorem d_X_need_50 : decode b_X_need 50 = .ok (.iconst 0, 1) := by decide +kernel
theorem d_X_need_51 : decode b_X_need 51 = .ok (.ireturn, 1) := by decide +kernel
theorem d_X_drop_0 : decode b_X_drop 0 = .ok (.iload_n 1, 1) := by decide +kernel
theorem d_X_drop_1 : decode b_X_drop 1 = .ok (.iload_n 2, 1) := by decide +kernel
theorem d_X_drop_2 : decode b_X_drop 2 = .ok (.invokestatic 40, 3) := by decide +kernel
theorem d_X_drop_5 : decode b_X_drop 5 = .ok (.ifCond .eq 22, 3) := by decide +kernel
theorem d_X_drop_8 : decode b_X_drop 8 = .ok (.aload_n 0, 1) := by decide +kernel
theorem d_X_drop_9 : decode b_X_drop 9 = .ok (.getfield 12, 3) := by decide +kernel
theorem d_X_drop_12 : decode b_X_drop 12 = .ok (.iload_n 1, 1) := by decide +kernel
theorem d_X_drop_13 : decode b_X_drop 13 = .ok (.iload_n 2, 1) := by decide +kernel
theorem d_X_drop_14 : decode b_X_drop 14 = .ok (.invokestatic 44, 3) := by decide +kernel
theorem d_X_drop_17 : decode b_X_drop 17 = .ok (.invokevirtual 67, 3) := by decide +kernel
theorem d_X_drop_20 : decode b_X_drop 20 = .ok (.ifCond .eq 7, 3) := by decide +kernel
theorem d_X_drop_23 : decode b_X_drop 23 = .ok (.iconst 1, 1) := by decide +kernel
theorem d_X_drop_24 : decode b_X_drop 24 = .ok (.goto 4, 3) := by decide +kernel
theorem d_X_drop_27 : decode b_X_drop 27 = .ok (.iconst 0, 1) := by decide +kernel
theorem d_X_drop_28 : decode b_X_drop 28 = .ok (.ireturn, 1) := by decide +kernel
theorem d_X_ban_0 : decode b_X_ban 0 = .ok (.iload_n 1, 1) := by decide +kernel
theorem d_X_ban_1 : decode b_X_ban 1 = .ok (.iload_n 2, 1) := by decide +kernel
theorem d_X_ban_2 : decode b_X_ban 2 = .ok (.invokestatic 40, 3) := by decide +kernel
theorem d_X_ban_5 : decode b_X_ban 5 = .ok (.ifCond .eq 42, 3) := by decide +kernel
theorem d_X_ban_8 : decode b_X_ban 8 = .ok (.iload_n 3, 1) := by decide +kernel
theorem d_X_ban_9 : decode b_X_ban 9 = .ok (.iload 4, 2) := by decide +kernel
theorem d_X_ban_11 : decode b_X_ban 11 = .ok (.invokestatic 40, 3) := by decide +kernel
theorem d_X_ban_14 : decode b_X_ban 14 = .ok (.ifCond .eq 33, 3) := by decide +kernel
theorem d_X_ban_17 : decode b_X_ban 17 = .ok (.iload_n 1, 1) := by decide +kernel
theorem d_X_ban_18 : decode b_X_ban 18 = .ok (.iload_n 3, 1) := by decide +kernel
theorem d_X_ban_19 : decode b_X_ban 19 = .ok (.if_icmp .eq 28, 3) := by decide +kernel
theorem d_X_ban_22 : decode b_X_ban 22 = .ok (.aload_n 0, 1) := by decide +kernel
theorem d_X_ban_23 : decode b_X_ban 23 = .ok (.getfield 12, 3) := by decide +kernel
theorem d_X_ban_26 : decode b_X_ban 26 = .ok (.iload_n 1, 1) := by decide +kernel
theorem d_X_ban_27 : decode b_X_ban 27 = .ok (.iload_n 2, 1) := by decide +kernel
theorem d_X_ban_28 : decode b_X_ban 28 = .ok (.invokestatic 44, 3) := by decide +kernel
theorem d_X_ban_31 : decode b_X_ban 31 = .ok (.iload_n 3, 1) := by decide +kernel
theorem d_X_ban_32 : decode b_X_ban 32 = .ok (.iload 4, 2) := by decide +kernel
theorem d_X_ban_34 : decode b_X_ban 34 = .ok (.invokestatic 44, 3) := by decide +kernel
theorem d_X_ban_37 : decode b_X_ban 37 = .ok (.invokevirtual 70, 3) := by decide +kernel
theorem d_X_ban_40 : decode b_X_ban 40 = .ok (.ifCond .eq 7, 3) := by decide +kernel
theorem d_X_ban_43 : decode b_X_ban 43 = .ok (.iconst 1, 1) := by decide +kernel
theorem d_X_ban_44 : decode b_X_ban 44 = .ok (.goto 4, 3) := by decide +kernel
theorem d_X_ban_47 : decode b_X_ban 47 = .ok (.iconst 0, 1) := by decide +kernel
theorem d_X_ban_48 : decode b_X_ban 48 = .ok (.ireturn, 1) := by decide +kernel
theorem d_X_ask_0 : decode b_X_ask 0 = .ok (.iload_n 1, 1) := by decide +kernel
theorem d_X_ask_1 : decode b_X_ask 1 = .ok (.iload_n 2, 1) := by decide +kernel
theorem d_X_ask_2 : decode b_X_ask 2 = .ok (.iload_n 3, 1) := by decide +kernel
theorem d_X_ask_3 : decode b_X_ask 3 = .ok (.invokestatic 52, 3) := by decide +kernel
theorem d_X_ask_6 : decode b_X_ask 6 = .ok (.ifCond .eq 27, 3) := by decide +kernel
theorem d_X_ask_9 : decode b_X_ask 9 = .ok (.aload_n 0, 1) := by decide +kernel
theorem d_X_ask_10 : decode b_X_ask 10 = .ok (.getfield 19, 3) := by decide +kernel
theorem d_X_ask_13 : decode b_X_ask 13 = .ok (.iload_n 1, 1) := by decide +kernel
theorem d_X_ask_14 : decode b_X_ask 14 = .ok (.invokestatic 56, 3) := by decide +kernel
theorem d_X_ask_17 : decode b_X_ask 17 = .ok (.iload_n 1, 1) := by decide +kernel
theorem d_X_ask_18 : decode b_X_ask 18 = .ok (.iload_n 2, 1) := by decide +kernel
theorem d_X_ask_19 : decode b_X_ask 19 = .ok (.iload_n 3, 1) := by decide +kernel
theorem d_X_ask_20 : decode b_X_ask 20 = .ok (.invokestatic 60, 3) := by decide +kernel
theorem d_X_ask_23 : decode b_X_ask 23 = .ok (.invokevirtual 73, 3) := by decide +kernel
theorem d_X_ask_26 : decode b_X_ask 26 = .ok (.ifCond .eq 7, 3) := by decide +kernel
theorem d_X_ask_29 : decode b_X_ask 29 = .ok (.iconst 1, 1) := by decide +kernel
theorem d_X_ask_30 : decode b_X_ask 30 = .ok (.goto 4, 3) := by decide +kernel
theorem d_X_ask_33 : decode b_X_ask 33 = .ok (.iconst 0, 1) := by decide +kernel
theorem d_X_ask_34 : decode b_X_ask 34 = .ok (.ireturn, 1) := by decide +kernel
theorem d_X_take_0 : decode b_X_take 0 = .ok (.aload_n 0, 1) := by decide +kernel
theorem d_X_take_1 : decode b_X_take 1 = .ok (.getfield 19, 3) := by decide +kernel
theorem d_X_take_4 : decode b_X_take 4 = .ok (.iload_n 1, 1) := by decide +kernel
theorem d_X_take_5 : decode b_X_take 5 = .ok (.invokevirtual 75, 3) := by decide +kernel
theorem d_X_take_8 : decode b_X_take 8 = .ok (.ireturn, 1) := by decide +kernel
theorem d_X_solve_0 : decode b_X_solve 0 = .ok (.iload_n 1, 1) := by decide +kernel
theorem d_X_solve_1 : decode b_X_solve 1 = .ok (.ifCond .lt 8, 3) := by decide +kernel
theorem d_X_solve_4 : decode b_X_solve 4 = .ok (.iload_n 1, 1) := by decide +kernel
theorem d_X_solve_5 : decode b_X_solve 5 = .ok (.iconst 3, 1) := by decide +kernel
theorem d_X_solve_6 : decode b_X_solve 6 = .ok (.if_icmp .lt 13, 3) := by decide +kernel
theorem d_X_solve_9 : decode b_X_solve 9 = .ok (.new 76, 3) := by decide +kernel
theorem d_X_solve_12 : decode b_X_solve 12 = .ok (.dup, 1) := by decide +kernel
theorem d_X_solve_13 : decode b_X_solve 13 = .ok (.ldc 78, 2) := by decide +kernel
theorem d_X_solve_15 : decode b_X_solve 15 = .ok (.invokespecial 80, 3) := by decide +kernel
theorem d_X_solve_18 : decode b_X_solve 18 = .ok (.athrow, 1) := by decide +kernel
theorem d_X_solve_19 : decode b_X_solve 19 = .ok (.aload_n 0, 1) := by decide +kernel
theorem d_X_solve_20 : decode b_X_solve 20 = .ok (.aload_n 0, 1) := by decide +kernel
theorem d_X_solve_21 : decode b_X_solve 21 = .ok (.getfield 19, 3) := by decide +kernel
theorem d_X_solve_24 : decode b_X_solve 24 = .ok (.invokevirtual 83, 3) := by decide +kernel
theorem d_X_solve_27 : decode b_X_solve 27 = .ok (.iload_n 1, 1) := by decide +kernel
theorem d_X_solve_28 : decode b_X_solve 28 = .ok (.ldc 87, 2) := by decide +kernel
theorem d_X_solve_30 : decode b_X_solve 30 = .ok (.invokevirtual 88, 3) := by decide +kernel
theorem d_X_solve_33 : decode b_X_solve 33 = .ok (.ifCond .ne 21, 3) := by decide +kernel
theorem d_X_solve_36 : decode b_X_solve 36 = .ok (.aload_n 0, 1) := by decide +kernel
theorem d_X_solve_37 : decode b_X_solve 37 = .ok (.aload_n 0, 1) := by decide +kernel
theorem d_X_solve_38 : decode b_X_solve 38 = .ok (.invokevirtual 91, 3) := by decide +kernel
theorem d_X_solve_41 : decode b_X_solve 41 = .ok (.putfield 37, 3) := by decide +kernel
theorem d_X_solve_44 : decode b_X_solve 44 = .ok (.new 94, 3) := by decide +kernel
theorem d_X_solve_47 : decode b_X_solve 47 = .ok (.dup, 1) := by decide +kernel
theorem d_X_solve_48 : decode b_X_solve 48 = .ok (.ldc 96, 2) := by decide +kernel
theorem d_X_solve_50 : decode b_X_solve 50 = .ok (.invokespecial 98, 3) := by decide +kernel
theorem d_X_solve_53 : decode b_X_solve 53 = .ok (.athrow, 1) := by decide +kernel
theorem d_X_solve_54 : decode b_X_solve 54 = .ok (.aload_n 0, 1) := by decide +kernel
theorem d_X_solve_55 : decode b_X_solve 55 = .ok (.aload_n 0, 1) := by decide +kernel
theorem d_X_solve_56 : decode b_X_solve 56 = .ok (.getfield 26, 3) := by decide +kernel
theorem d_X_solve_59 : decode b_X_solve 59 = .ok (.getfield 99, 3) := by decide +kernel
theorem d_X_solve_62 : decode b_X_solve 62 = .ok (.putfield 30, 3) := by decide +kernel
theorem d_X_solve_65 : decode b_X_solve 65 = .ok (.aload_n 0, 1) := by decide +kernel
theorem d_X_solve_66 : decode b_X_solve 66 = .ok (.getfield 30, 3) := by decide +kernel
theorem d_X_solve_69 : decode b_X_solve 69 = .ok (.invokestatic 102, 3) := by decide +kernel
theorem d_X_solve_72 : decode b_X_solve 72 = .ok (.ireturn, 1) := by decide +kernel
theorem d_X_keep_0 : decode b_X_keep 0 = .ok (.aload_n 0, 1) := by decide +kernel
theorem d_X_keep_1 : decode b_X_keep 1 = .ok (.getfield 30, 3) := by decide +kernel
theorem d_X_keep_4 : decode b_X_keep 4 = .ok (.aload_n 0, 1) := by decide +kernel
theorem d_X_keep_5 : decode b_X_keep 5 = .ok (.getfield 34, 3) := by decide +kernel
theorem d_X_keep_8 : decode b_X_keep 8 = .ok (.invokestatic 107, 3) := by decide +kernel
theorem d_X_keep_11 : decode b_X_keep 11 = .ok (.istore_n 1, 1) := by decide +kernel
theorem d_X_keep_12 : decode b_X_keep 12 = .ok (.aload_n 0, 1) := by decide +kernel
theorem d_X_keep_13 : decode b_X_keep 13 = .ok (.aload_n 0, 1) := by decide +kernel
theorem d_X_keep_14 : decode b_X_keep 14 = .ok (.getfield 30, 3) := by decide +kernel
theorem d_X_keep_17 : decode b_X_keep 17 = .ok (.putfield 34, 3) := by decide +kernel
theorem d_X_keep_20 : decode b_X_keep 20 = .ok (.iload_n 1, 1) := by decide +kernel
theorem d_X_keep_21 : decode b_X_keep 21 = .ok (.ireturn, 1) := by decide +kernel
theorem d_X_chosen_0 : decode b_X_chosen 0 = .ok (.iload_n 1, 1) := by decide +kernel
theorem d_X_chosen_1 : decode b_X_chosen 1 = .ok (.invokestatic 110, 3) := by decide +kernel
theorem d_X_chosen_4 : decode b_X_chosen 4 = .ok (.ifCond .ne 5, 3) := by decide +kernel
theorem d_X_chosen_7 : decode b_X_chosen 7 = .ok (.iconst (-1), 1) := by decide +kernel
theorem d_X_chosen_8 : decode b_X_chosen 8 = .ok (.ireturn, 1) := by decide +kernel
theorem d_X_chosen_9 : decode b_X_chosen 9 = .ok (.iconst 0, 1) := by decide +kernel
theorem d_X_chosen_10 : decode b_X_chosen 10 = .ok (.istore_n 2, 1) := by decide +kernel
theorem d_X_chosen_11 : decode b_X_chosen 11 = .ok (.iload_n 2, 1) := by decide +kernel
theorem d_X_chosen_12 : decode b_X_chosen 12 = .ok (.iconst 4, 1) := by decide +kernel
theorem d_X_chosen_13 : decode b_X_chosen 13 = .ok (.if_icmp .ge 26, 3) := by decide +kernel
theorem d_X_chosen_16 : decode b_X_chosen 16 = .ok (.aload_n 0, 1) := by decide +kernel
theorem d_X_chosen_17 : decode b_X_chosen 17 = .ok (.getfield 30, 3) := by decide +kernel
theorem d_X_chosen_20 : decode b_X_chosen 20 = .ok (.iload_n 1, 1) := by decide +kernel
theorem d_X_chosen_21 : decode b_X_chosen 21 = .ok (.iload_n 2, 1) := by decide +kernel
theorem d_X_chosen_22 : decode b_X_chosen 22 = .ok (.invokestatic 44, 3) := by decide +kernel
theorem d_X_chosen_25 : decode b_X_chosen 25 = .ok (.invokestatic 113, 3) := by decide +kernel
theorem d_X_chosen_28 : decode b_X_chosen 28 = .ok (.ifCond .eq 5, 3) := by decide +kernel
theorem d_X_chosen_31 : decode b_X_chosen 31 = .ok (.iload_n 2, 1) := by decide +kernel
theorem d_X_chosen_32 : decode b_X_chosen 32 = .ok (.ireturn, 1) := by decide +kernel
theorem d_X_chosen_33 : decode b_X_chosen 33 = .ok (.iinc 2 1, 3) := by decide +kernel
theorem d_X_chosen_36 : decode b_X_chosen 36 = .ok (.goto (-25), 3) := by decide +kernel
theorem d_X_chosen_39 : decode b_X_chosen 39 = .ok (.iconst (-1), 1) := by decide +kernel
theorem d_X_chosen_40 : decode b_X_chosen 40 = .ok (.ireturn, 1) := by decide +kernel
theorem d_X_many_0 : decode b_X_many 0 = .ok (.aload_n 0, 1) := by decide +kernel
theorem d_X_many_1 : decode b_X_many 1 = .ok (.aload_n 0, 1) := by decide +kernel
theorem d_X_many_2 : decode b_X_many 2 = .ok (.getfield 19, 3) := by decide +kernel
theorem d_X_many_5 : decode b_X_many 5 = .ok (.invokevirtual 83, 3) := by decide +kernel
theorem d_X_many_8 : decode b_X_many 8 = .ok (.iconst 0, 1) := by decide +kernel
theorem d_X_many_9 : decode b_X_many 9 = .ok (.ldc 87, 2) := by decide +kernel
theorem d_X_many_11 : decode b_X_many 11 = .ok (.invokevirtual 88, 3) := by decide +kernel
theorem d_X_many_14 : decode b_X_many 14 = .ok (.ireturn, 1) := by decide +kernel
theorem d_X_can_0 : decode b_X_can 0 = .ok (.iload_n 1, 1) := by decide +kernel
theorem d_X_can_1 : decode b_X_can 1 = .ok (.invokestatic 110, 3) := by decide +kernel
theorem d_X_can_4 : decode b_X_can 4 = .ok (.ifCond .ne 5, 3) := by decide +kernel
theorem d_X_can_7 : decode b_X_can 7 = .ok (.iconst (-1), 1) := by decide +kernel
theorem d_X_can_8 : decode b_X_can 8 = .ok (.ireturn, 1) := by decide +kernel
theorem d_X_can_9 : decode b_X_can 9 = .ok (.aload_n 0, 1) := by decide +kernel
theorem d_X_can_10 : decode b_X_can 10 = .ok (.aload_n 0, 1) := by decide +kernel
theorem d_X_can_11 : decode b_X_can 11 = .ok (.getfield 19, 3) := by decide +kernel
theorem d_X_can_14 : decode b_X_can 14 = .ok (.invokevirtual 83, 3) := by decide +kernel
theorem d_X_can_17 : decode b_X_can 17 = .ok (.iconst 0, 1) := by decide +kernel
theorem d_X_can_18 : decode b_X_can 18 = .ok (.ldc 87, 2) := by decide +kernel
theorem d_X_can_20 : decode b_X_can 20 = .ok (.invokevirtual 88, 3) := by decide +kernel
theorem d_X_can_23 : decode b_X_can 23 = .ok (.pop, 1) := by decide +kernel
theorem d_X_can_24 : decode b_X_can 24 = .ok (.aload_n 0, 1) := by decide +kernel
theorem d_X_can_25 : decode b_X_can 25 = .ok (.getfield 26, 3) := by decide +kernel
theorem d_X_can_28 : decode b_X_can 28 = .ok (.getfield 116, 3) := by decide +kernel
theorem d_X_can_31 : decode b_X_can 31 = .ok (.iload_n 1, 1) := by decide +kernel
theorem d_X_can_32 : decode b_X_can 32 = .ok (.invokestatic 119, 3) := by decide +kernel
theorem d_X_can_35 : decode b_X_can 35 = .ok (.ishr, 1) := by decide +kernel
theorem d_X_can_36 : decode b_X_can 36 = .ok (.bipush 15, 2) := by decide +kernel
theorem d_X_can_38 : decode b_X_can 38 = .ok (.iand, 1) := by decide +kernel
theorem d_X_can_39 : decode b_X_can 39 = .ok (.istore_n 2, 1) := by decide +kernel
theorem d_X_can_40 : decode b_X_can 40 = .ok (.aload_n 0, 1) := by decide +kernel
theorem d_X_can_41 : decode b_X_can 41 = .ok (.getfield 26, 3) := by decide +kernel
theorem d_X_can_44 : decode b_X_can 44 = .ok (.getfield 122, 3) := by decide +kernel
theorem d_X_can_47 : decode b_X_can 47 = .ok (.iload_n 1, 1) := by decide +kernel
theorem d_X_can_48 : decode b_X_can 48 = .ok (.invokestatic 56, 3) := by decide +kernel
theorem d_X_can_51 : decode b_X_can 51 = .ok (.iand, 1) := by decide +kernel
theorem d_X_can_52 : decode b_X_can 52 = .ok (.ifCond .ne 7, 3) := by decide +kernel
theorem d_X_can_55 : decode b_X_can 55 = .ok (.iload_n 2, 1) := by decide +kernel
theorem d_X_can_56 : decode b_X_can 56 = .ok (.goto 7, 3) := by decide +kernel
theorem d_X_can_59 : decode b_X_can 59 = .ok (.iload_n 2, 1) := by decide +kernel
theorem d_X_can_60 : decode b_X_can 60 = .ok (.bipush 16, 2) := by decide +kernel
theorem d_X_can_62 : decode b_X_can 62 = .ok (.ior, 1) := by decide +kernel
