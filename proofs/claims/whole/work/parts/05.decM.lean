theorem dX10_init_0 : decode cX10_init 0 = .ok (.aload_n 0, 1) := by decide +kernel
theorem dX10_init_1 : decode cX10_init 1 = .ok (.invokespecial 1, 3) := by decide +kernel
theorem dX10_init_4 : decode cX10_init 4 = .ok (.aload_n 0, 1) := by decide +kernel
theorem dX10_init_5 : decode cX10_init 5 = .ok (.sipush 413, 3) := by decide +kernel
theorem dX10_init_8 : decode cX10_init 8 = .ok (.newarray .int, 2) := by decide +kernel
theorem dX10_init_10 : decode cX10_init 10 = .ok (.putfield 7, 3) := by decide +kernel
theorem dX10_init_13 : decode cX10_init 13 = .ok (.aload_n 0, 1) := by decide +kernel
theorem dX10_init_14 : decode cX10_init 14 = .ok (.sipush 413, 3) := by decide +kernel
theorem dX10_init_17 : decode cX10_init 17 = .ok (.newarray .int, 2) := by decide +kernel
theorem dX10_init_19 : decode cX10_init 19 = .ok (.putfield 13, 3) := by decide +kernel
theorem dX10_init_22 : decode cX10_init 22 = .ok (.aload_n 0, 1) := by decide +kernel
theorem dX10_init_23 : decode cX10_init 23 = .ok (.sipush 2478, 3) := by decide +kernel
theorem dX10_init_26 : decode cX10_init 26 = .ok (.newarray .int, 2) := by decide +kernel
theorem dX10_init_28 : decode cX10_init 28 = .ok (.putfield 16, 3) := by decide +kernel
theorem dX10_init_31 : decode cX10_init 31 = .ok (.aload_n 0, 1) := by decide +kernel
theorem dX10_init_32 : decode cX10_init 32 = .ok (.bipush 60, 2) := by decide +kernel
theorem dX10_init_34 : decode cX10_init 34 = .ok (.newarray .int, 2) := by decide +kernel
theorem dX10_init_36 : decode cX10_init 36 = .ok (.putfield 19, 3) := by decide +kernel
theorem dX10_init_39 : decode cX10_init 39 = .ok (.aload_n 0, 1) := by decide +kernel
theorem dX10_init_40 : decode cX10_init 40 = .ok (.bipush 31, 2) := by decide +kernel
theorem dX10_init_42 : decode cX10_init 42 = .ok (.newarray .int, 2) := by decide +kernel
theorem dX10_init_44 : decode cX10_init 44 = .ok (.putfield 22, 3) := by decide +kernel
theorem dX10_init_47 : decode cX10_init 47 = .ok (.aload_n 0, 1) := by decide +kernel
theorem dX10_init_48 : decode cX10_init 48 = .ok (.bipush 120, 2) := by decide +kernel
theorem dX10_init_50 : decode cX10_init 50 = .ok (.newarray .int, 2) := by decide +kernel
theorem dX10_init_52 : decode cX10_init 52 = .ok (.putfield 25, 3) := by decide +kernel
theorem dX10_init_55 : decode cX10_init 55 = .ok (.aload_n 0, 1) := by decide +kernel
theorem dX10_init_56 : decode cX10_init 56 = .ok (.bipush 10, 2) := by decide +kernel
theorem dX10_init_58 : decode cX10_init 58 = .ok (.newarray .int, 2) := by decide +kernel
theorem dX10_init_60 : decode cX10_init 60 = .ok (.putfield 28, 3) := by decide +kernel
theorem dX10_init_63 : decode cX10_init 63 = .ok (.iconst 0, 1) := by decide +kernel
theorem dX10_init_64 : decode cX10_init 64 = .ok (.istore_n 1, 1) := by decide +kernel
theorem dX10_init_65 : decode cX10_init 65 = .ok (.iload_n 1, 1) := by decide +kernel
theorem dX10_init_66 : decode cX10_init 66 = .ok (.iconst 3, 1) := by decide +kernel
theorem dX10_init_67 : decode cX10_init 67 = .ok (.if_icmp .ge 21, 3) := by decide +kernel
theorem dX10_init_70 : decode cX10_init 70 = .ok (.aload_n 0, 1) := by decide +kernel
theorem dX10_init_71 : decode cX10_init 71 = .ok (.getfield 7, 3) := by decide +kernel
theorem dX10_init_74 : decode cX10_init 74 = .ok (.bipush 64, 2) := by decide +kernel
theorem dX10_init_76 : decode cX10_init 76 = .ok (.iload_n 1, 1) := by decide +kernel
theorem dX10_init_77 : decode cX10_init 77 = .ok (.iadd, 1) := by decide +kernel
theorem dX10_init_78 : decode cX10_init 78 = .ok (.sipush 1000, 3) := by decide +kernel
theorem dX10_init_81 : decode cX10_init 81 = .ok (.iastore, 1) := by decide +kernel
theorem dX10_init_82 : decode cX10_init 82 = .ok (.iinc 1 1, 3) := by decide +kernel
theorem dX10_init_85 : decode cX10_init 85 = .ok (.goto (-20), 3) := by decide +kernel
theorem dX10_init_88 : decode cX10_init 88 = .ok (.aload_n 0, 1) := by decide +kernel
theorem dX10_init_89 : decode cX10_init 89 = .ok (.getfield 7, 3) := by decide +kernel
theorem dX10_init_92 : decode cX10_init 92 = .ok (.sipush 408, 3) := by decide +kernel
theorem dX10_init_95 : decode cX10_init 95 = .ok (.iconst 1, 1) := by decide +kernel
theorem dX10_init_96 : decode cX10_init 96 = .ok (.iastore, 1) := by decide +kernel
theorem dX10_init_97 : decode cX10_init 97 = .ok (.aload_n 0, 1) := by decide +kernel
theorem dX10_init_98 : decode cX10_init 98 = .ok (.getfield 7, 3) := by decide +kernel
theorem dX10_init_101 : decode cX10_init 101 = .ok (.sipush 409, 3) := by decide +kernel
theorem dX10_init_104 : decode cX10_init 104 = .ok (.bipush 10, 2) := by decide +kernel
theorem dX10_init_106 : decode cX10_init 106 = .ok (.iastore, 1) := by decide +kernel
theorem dX10_init_107 : decode cX10_init 107 = .ok (.aload_n 0, 1) := by decide +kernel
theorem dX10_init_108 : decode cX10_init 108 = .ok (.getfield 7, 3) := by decide +kernel
theorem dX10_init_111 : decode cX10_init 111 = .ok (.sipush 410, 3) := by decide +kernel
theorem dX10_init_114 : decode cX10_init 114 = .ok (.sipush 10000, 3) := by decide +kernel
theorem dX10_init_117 : decode cX10_init 117 = .ok (.iastore, 1) := by decide +kernel
theorem dX10_init_118 : decode cX10_init 118 = .ok (.return_, 1) := by decide +kernel
theorem dX10_thrown_0 : decode cX10_thrown 0 = .ok (.aload_n 0, 1) := by decide +kernel
theorem dX10_thrown_1 : decode cX10_thrown 1 = .ok (.getfield 31, 3) := by decide +kernel
theorem dX10_thrown_4 : decode cX10_thrown 4 = .ok (.ireturn, 1) := by decide +kernel
theorem dX10_within_0 : decode cX10_within 0 = .ok (.iload_n 0, 1) := by decide +kernel
theorem dX10_within_1 : decode cX10_within 1 = .ok (.iload_n 1, 1) := by decide +kernel
theorem dX10_within_2 : decode cX10_within 2 = .ok (.if_icmp .lt 12, 3) := by decide +kernel
theorem dX10_within_5 : decode cX10_within 5 = .ok (.iload_n 0, 1) := by decide +kernel
theorem dX10_within_6 : decode cX10_within 6 = .ok (.iload_n 2, 1) := by decide +kernel
theorem dX10_within_7 : decode cX10_within 7 = .ok (.if_icmp .gt 7, 3) := by decide +kernel
theorem dX10_within_10 : decode cX10_within 10 = .ok (.iconst 1, 1) := by decide +kernel
theorem dX10_within_11 : decode cX10_within 11 = .ok (.goto 4, 3) := by decide +kernel
theorem dX10_within_14 : decode cX10_within 14 = .ok (.iconst 0, 1) := by decide +kernel
theorem dX10_within_15 : decode cX10_within 15 = .ok (.ireturn, 1) := by decide +kernel
theorem dX10_of_0 : decode cX10_of 0 = .ok (.aload_n 0, 1) := by decide +kernel
theorem dX10_of_1 : decode cX10_of 1 = .ok (.getfield 7, 3) := by decide +kernel
theorem dX10_of_4 : decode cX10_of 4 = .ok (.bipush 70, 2) := by decide +kernel
theorem dX10_of_6 : decode cX10_of 6 = .ok (.iconst 4, 1) := by decide +kernel
theorem dX10_of_7 : decode cX10_of 7 = .ok (.iload_n 1, 1) := by decide +kernel
theorem dX10_of_8 : decode cX10_of 8 = .ok (.imul, 1) := by decide +kernel
theorem dX10_of_9 : decode cX10_of 9 = .ok (.iadd, 1) := by decide +kernel
theorem dX10_of_10 : decode cX10_of 10 = .ok (.iload_n 2, 1) := by decide +kernel
theorem dX10_of_11 : decode cX10_of 11 = .ok (.iadd, 1) := by decide +kernel
theorem dX10_of_12 : decode cX10_of 12 = .ok (.iaload, 1) := by decide +kernel
theorem dX10_of_13 : decode cX10_of 13 = .ok (.ireturn, 1) := by decide +kernel
theorem dX10_tally_0 : decode cX10_tally 0 = .ok (.aload_n 0, 1) := by decide +kernel
theorem dX10_tally_1 : decode cX10_tally 1 = .ok (.getfield 7, 3) := by decide +kernel
theorem dX10_tally_4 : decode cX10_tally 4 = .ok (.bipush 24, 2) := by decide +kernel
theorem dX10_tally_6 : decode cX10_tally 6 = .ok (.iconst 5, 1) := by decide +kernel
theorem dX10_tally_7 : decode cX10_tally 7 = .ok (.iload_n 1, 1) := by decide +kernel
theorem dX10_tally_8 : decode cX10_tally 8 = .ok (.imul, 1) := by decide +kernel
theorem dX10_tally_9 : decode cX10_tally 9 = .ok (.iadd, 1) := by decide +kernel
theorem dX10_tally_10 : decode cX10_tally 10 = .ok (.iload_n 2, 1) := by decide +kernel
theorem dX10_tally_11 : decode cX10_tally 11 = .ok (.iadd, 1) := by decide +kernel
theorem dX10_tally_12 : decode cX10_tally 12 = .ok (.dup2, 1) := by decide +kernel
theorem dX10_tally_13 : decode cX10_tally 13 = .ok (.iaload, 1) := by decide +kernel
theorem dX10_tally_14 : decode cX10_tally 14 = .ok (.iload_n 3, 1) := by decide +kernel
theorem dX10_tally_15 : decode cX10_tally 15 = .ok (.iadd, 1) := by decide +kernel
theorem dX10_tally_16 : decode cX10_tally 16 = .ok (.iastore, 1) := by decide +kernel
theorem dX10_tally_17 : decode cX10_tally 17 = .ok (.return_, 1) := by decide +kernel
theorem dX10_isKind_0 : decode cX10_isKind 0 = .ok (.iload_n 1, 1) := by decide +kernel
theorem dX10_isKind_1 : decode cX10_isKind 1 = .ok (.iconst 0, 1) := by decide +kernel
theorem dX10_isKind_2 : decode cX10_isKind 2 = .ok (.aload_n 0, 1) := by decide +kernel
theorem dX10_isKind_3 : decode cX10_isKind 3 = .ok (.getfield 7, 3) := by decide +kernel
theorem dX10_isKind_6 : decode cX10_isKind 6 = .ok (.sipush 405, 3) := by decide +kernel
theorem dX10_isKind_9 : decode cX10_isKind 9 = .ok (.iaload, 1) := by decide +kernel
theorem dX10_isKind_10 : decode cX10_isKind 10 = .ok (.iconst 1, 1) := by decide +kernel
theorem dX10_isKind_11 : decode cX10_isKind 11 = .ok (.isub, 1) := by decide +kernel
theorem dX10_isKind_12 : decode cX10_isKind 12 = .ok (.invokestatic 35, 3) := by decide +kernel
theorem dX10_isKind_15 : decode cX10_isKind 15 = .ok (.ireturn, 1) := by decide +kernel
theorem dX10_isLot_0 : decode cX10_isLot 0 = .ok (.iload_n 1, 1) := by decide +kernel
theorem dX10_isLot_1 : decode cX10_isLot 1 = .ok (.iconst 0, 1) := by decide +kernel
theorem dX10_isLot_2 : decode cX10_isLot 2 = .ok (.aload_n 0, 1) := by decide +kernel
theorem dX10_isLot_3 : decode cX10_isLot 3 = .ok (.getfield 7, 3) := by decide +kernel
theorem dX10_isLot_6 : decode cX10_isLot 6 = .ok (.sipush 406, 3) := by decide +kernel
theorem dX10_isLot_9 : decode cX10_isLot 9 = .ok (.iaload, 1) := by decide +kernel
theorem dX10_isLot_10 : decode cX10_isLot 10 = .ok (.iconst 1, 1) := by decide +kernel
theorem dX10_isLot_11 : decode cX10_isLot 11 = .ok (.isub, 1) := by decide +kernel
theorem dX10_isLot_12 : decode cX10_isLot 12 = .ok (.invokestatic 35, 3) := by decide +kernel
theorem dX10_isLot_15 : decode cX10_isLot 15 = .ok (.ireturn, 1) := by decide +kernel
theorem dX10_isPort_0 : decode cX10_isPort 0 = .ok (.iload_n 1, 1) := by decide +kernel
theorem dX10_isPort_1 : decode cX10_isPort 1 = .ok (.iconst 0, 1) := by decide +kernel
theorem dX10_isPort_2 : decode cX10_isPort 2 = .ok (.aload_n 0, 1) := by decide +kernel
theorem dX10_isPort_3 : decode cX10_isPort 3 = .ok (.getfield 7, 3) := by decide +kernel
theorem dX10_isPort_6 : decode cX10_isPort 6 = .ok (.sipush 407, 3) := by decide +kernel
theorem dX10_isPort_9 : decode cX10_isPort 9 = .ok (.iaload, 1) := by decide +kernel
theorem dX10_isPort_10 : decode cX10_isPort 10 = .ok (.iconst 1, 1) := by decide +kernel
theorem dX10_isPort_11 : decode cX10_isPort 11 = .ok (.isub, 1) := by decide +kernel
theorem dX10_isPort_12 : decode cX10_isPort 12 = .ok (.invokestatic 35, 3) := by decide +kernel
theorem dX10_isPort_15 : decode cX10_isPort 15 = .ok (.ireturn, 1) := by decide +kernel
theorem dX10_isStore_0 : decode cX10_isStore 0 = .ok (.iload_n 0, 1) := by decide +kernel
theorem dX10_isStore_1 : decode cX10_isStore 1 = .ok (.iconst 0, 1) := by decide +kernel
theorem dX10_isStore_2 : decode cX10_isStore 2 = .ok (.iconst 2, 1) := by decide +kernel
theorem dX10_isStore_3 : decode cX10_isStore 3 = .ok (.invokestatic 35, 3) := by decide +kernel
theorem dX10_isStore_6 : decode cX10_isStore 6 = .ok (.ireturn, 1) := by decide +kernel
theorem dX10_copy_0 : decode cX10_copy 0 = .ok (.iconst 0, 1) := by decide +kernel
theorem dX10_copy_1 : decode cX10_copy 1 = .ok (.istore 4, 2) := by decide +kernel
theorem dX10_copy_3 : decode cX10_copy 3 = .ok (.iload 4, 2) := by decide +kernel
theorem dX10_copy_5 : decode cX10_copy 5 = .ok (.sipush 412, 3) := by decide +kernel
theorem dX10_copy_8 : decode cX10_copy 8 = .ok (.if_icmp .gt 21, 3) := by decide +kernel
theorem dX10_copy_11 : decode cX10_copy 11 = .ok (.aload_n 2, 1) := by decide +kernel
theorem dX10_copy_12 : decode cX10_copy 12 = .ok (.iload_n 3, 1) := by decide +kernel
theorem dX10_copy_13 : decode cX10_copy 13 = .ok (.iload 4, 2) := by decide +kernel
theorem dX10_copy_15 : decode cX10_copy 15 = .ok (.iadd, 1) := by decide +kernel
theorem dX10_copy_16 : decode cX10_copy 16 = .ok (.aload_n 0, 1) := by decide +kernel
theorem dX10_copy_17 : decode cX10_copy 17 = .ok (.iload_n 1, 1) := by decide +kernel
theorem dX10_copy_18 : decode cX10_copy 18 = .ok (.iload 4, 2) := by decide +kernel
theorem dX10_copy_20 : decode cX10_copy 20 = .ok (.iadd, 1) := by decide +kernel
theorem dX10_copy_21 : decode cX10_copy 21 = .ok (.iaload, 1) := by decide +kernel
theorem dX10_copy_22 : decode cX10_copy 22 = .ok (.iastore, 1) := by decide +kernel
theorem dX10_copy_23 : decode cX10_copy 23 = .ok (.iinc 4 1, 3) := by decide +kernel
theorem dX10_copy_26 : decode cX10_copy 26 = .ok (.goto (-23), 3) := by decide +kernel
theorem dX10_copy_29 : decode cX10_copy 29 = .ok (.return_, 1) := by decide +kernel
theorem dX10_save_0 : decode cX10_save 0 = .ok (.aload_n 0, 1) := by decide +kernel
theorem dX10_save_1 : decode cX10_save 1 = .ok (.getfield 39, 3) := by decide +kernel
theorem dX10_save_4 : decode cX10_save 4 = .ok (.bipush 6, 2) := by decide +kernel
theorem dX10_save_6 : decode cX10_save 6 = .ok (.if_icmp .ne 48, 3) := by decide +kernel
theorem dX10_save_9 : decode cX10_save 9 = .ok (.sipush 413, 3) := by decide +kernel
theorem dX10_save_12 : decode cX10_save 12 = .ok (.istore_n 1, 1) := by decide +kernel
theorem dX10_save_13 : decode cX10_save 13 = .ok (.iload_n 1, 1) := by decide +kernel
theorem dX10_save_14 : decode cX10_save 14 = .ok (.sipush 2478, 3) := by decide +kernel
theorem dX10_save_17 : decode cX10_save 17 = .ok (.if_icmp .ge 27, 3) := by decide +kernel
theorem dX10_save_20 : decode cX10_save 20 = .ok (.aload_n 0, 1) := by decide +kernel
theorem dX10_save_21 : decode cX10_save 21 = .ok (.getfield 16, 3) := by decide +kernel
theorem dX10_save_24 : decode cX10_save 24 = .ok (.iload_n 1, 1) := by decide +kernel
theorem dX10_save_25 : decode cX10_save 25 = .ok (.sipush 412, 3) := by decide +kernel
theorem dX10_save_28 : decode cX10_save 28 = .ok (.isub, 1) := by decide +kernel
theorem dX10_save_29 : decode cX10_save 29 = .ok (.iconst 1, 1) := by decide +kernel
theorem dX10_save_30 : decode cX10_save 30 = .ok (.isub, 1) := by decide +kernel
theorem dX10_save_31 : decode cX10_save 31 = .ok (.aload_n 0, 1) := by decide +kernel
theorem dX10_save_32 : decode cX10_save 32 = .ok (.getfield 16, 3) := by decide +kernel
theorem dX10_save_35 : decode cX10_save 35 = .ok (.iload_n 1, 1) := by decide +kernel
theorem dX10_save_36 : decode cX10_save 36 = .ok (.iaload, 1) := by decide +kernel
theorem dX10_save_37 : decode cX10_save 37 = .ok (.iastore, 1) := by decide +kernel
theorem dX10_save_38 : decode cX10_save 38 = .ok (.iinc 1 1, 3) := by decide +kernel
theorem dX10_save_41 : decode cX10_save 41 = .ok (.goto (-28), 3) := by decide +kernel
theorem dX10_save_44 : decode cX10_save 44 = .ok (.aload_n 0, 1) := by decide +kernel
theorem dX10_save_45 : decode cX10_save 45 = .ok (.dup, 1) := by decide +kernel
theorem dX10_save_46 : decode cX10_save 46 = .ok (.getfield 39, 3) := by decide +kernel
theorem dX10_save_49 : decode cX10_save 49 = .ok (.iconst 1, 1) := by decide +kernel
theorem dX10_save_50 : decode cX10_save 50 = .ok (.isub, 1) := by decide +kernel
theorem dX10_save_51 : decode cX10_save 51 = .ok (.putfield 39, 3) := by decide +kernel
theorem dX10_save_54 : decode cX10_save 54 = .ok (.aload_n 0, 1) := by decide +kernel
theorem dX10_save_55 : decode cX10_save 55 = .ok (.getfield 7, 3) := by decide +kernel
theorem dX10_save_58 : decode cX10_save 58 = .ok (.iconst 0, 1) := by decide +kernel
theorem dX10_save_59 : decode cX10_save 59 = .ok (.aload_n 0, 1) := by decide +kernel
theorem dX10_save_60 : decode cX10_save 60 = .ok (.getfield 16, 3) := by decide +kernel
theorem dX10_save_63 : decode cX10_save 63 = .ok (.sipush 413, 3) := by decide +kernel
theorem dX10_save_66 : decode cX10_save 66 = .ok (.aload_n 0, 1) := by decide +kernel
theorem dX10_save_67 : decode cX10_save 67 = .ok (.getfield 39, 3) := by decide +kernel
theorem dX10_save_70 : decode cX10_save 70 = .ok (.imul, 1) := by decide +kernel
theorem dX10_save_71 : decode cX10_save 71 = .ok (.invokestatic 42, 3) := by decide +kernel
theorem dX10_save_74 : decode cX10_save 74 = .ok (.aload_n 0, 1) := by decide +kernel
theorem dX10_save_75 : decode cX10_save 75 = .ok (.dup, 1) := by decide +kernel
theorem dX10_save_76 : decode cX10_save 76 = .ok (.getfield 39, 3) := by decide +kernel
theorem dX10_save_79 : decode cX10_save 79 = .ok (.iconst 1, 1) := by decide +kernel
theorem dX10_save_80 : decode cX10_save 80 = .ok (.iadd, 1) := by decide +kernel
theorem dX10_save_81 : decode cX10_save 81 = .ok (.putfield 39, 3) := by decide +kernel
theorem dX10_save_84 : decode cX10_save 84 = .ok (.return_, 1) := by decide +kernel
theorem dX10_isLife_0 : decode cX10_isLife 0 = .ok (.iload_n 0, 1) := by decide +kernel
theorem dX10_isLife_1 : decode cX10_isLife 1 = .ok (.iconst 0, 1) := by decide +kernel
theorem dX10_isLife_2 : decode cX10_isLife 2 = .ok (.sipush 200, 3) := by decide +kernel
theorem dX10_isLife_5 : decode cX10_isLife 5 = .ok (.invokestatic 35, 3) := by decide +kernel
theorem dX10_isLife_8 : decode cX10_isLife 8 = .ok (.ireturn, 1) := by decide +kernel
theorem dX10_addKind_0 : decode cX10_addKind 0 = .ok (.iload_n 1, 1) := by decide +kernel
theorem dX10_addKind_1 : decode cX10_addKind 1 = .ok (.invokestatic 46, 3) := by decide +kernel
theorem dX10_addKind_4 : decode cX10_addKind 4 = .ok (.ifCond .eq 21, 3) := by decide +kernel
theorem dX10_addKind_7 : decode cX10_addKind 7 = .ok (.iload_n 2, 1) := by decide +kernel
theorem dX10_addKind_8 : decode cX10_addKind 8 = .ok (.invokestatic 46, 3) := by decide +kernel
theorem dX10_addKind_11 : decode cX10_addKind 11 = .ok (.ifCond .eq 14, 3) := by decide +kernel
theorem dX10_addKind_14 : decode cX10_addKind 14 = .ok (.iload_n 3, 1) := by decide +kernel
theorem dX10_addKind_15 : decode cX10_addKind 15 = .ok (.invokestatic 46, 3) := by decide +kernel
theorem dX10_addKind_18 : decode cX10_addKind 18 = .ok (.ifCond .eq 7, 3) := by decide +kernel
theorem dX10_addKind_21 : decode cX10_addKind 21 = .ok (.iconst 1, 1) := by decide +kernel
theorem dX10_addKind_22 : decode cX10_addKind 22 = .ok (.goto 4, 3) := by decide +kernel
theorem dX10_addKind_25 : decode cX10_addKind 25 = .ok (.iconst 0, 1) := by decide +kernel
theorem dX10_addKind_26 : decode cX10_addKind 26 = .ok (.istore 4, 2) := by decide +kernel
theorem dX10_addKind_28 : decode cX10_addKind 28 = .ok (.aload_n 0, 1) := by decide +kernel
theorem dX10_addKind_29 : decode cX10_addKind 29 = .ok (.iload 4, 2) := by decide +kernel
theorem dX10_addKind_31 : decode cX10_addKind 31 = .ok (.ifCond .ne 7, 3) := by decide +kernel
theorem dX10_addKind_34 : decode cX10_addKind 34 = .ok (.iconst 1, 1) := by decide +kernel
theorem dX10_addKind_35 : decode cX10_addKind 35 = .ok (.goto 21, 3) := by decide +kernel
theorem dX10_addKind_38 : decode cX10_addKind 38 = .ok (.aload_n 0, 1) := by decide +kernel
theorem dX10_addKind_39 : decode cX10_addKind 39 = .ok (.getfield 7, 3) := by decide +kernel
theorem dX10_addKind_42 : decode cX10_addKind 42 = .ok (.sipush 405, 3) := by decide +kernel
theorem dX10_addKind_45 : decode cX10_addKind 45 = .ok (.iaload, 1) := by decide +kernel
theorem dX10_addKind_46 : decode cX10_addKind 46 = .ok (.bipush 8, 2) := by decide +kernel
theorem dX10_addKind_48 : decode cX10_addKind 48 = .ok (.if_icmp .ne 7, 3) := by decide +kernel
theorem dX10_addKind_51 : decode cX10_addKind 51 = .ok (.iconst 2, 1) := by decide +kernel
theorem dX10_addKind_52 : decode cX10_addKind 52 = .ok (.goto 4, 3) := by decide +kernel
theorem dX10_addKind_55 : decode cX10_addKind 55 = .ok (.iconst 0, 1) := by decide +kernel
theorem dX10_addKind_56 : decode cX10_addKind 56 = .ok (.putfield 31, 3) := by decide +kernel
theorem dX10_addKind_59 : decode cX10_addKind 59 = .ok (.aload_n 0, 1) := by decide +kernel
theorem dX10_addKind_60 : decode cX10_addKind 60 = .ok (.getfield 31, 3) := by decide +kernel
theorem dX10_addKind_63 : decode cX10_addKind 63 = .ok (.ifCond .le 5, 3) := by decide +kernel
theorem dX10_addKind_66 : decode cX10_addKind 66 = .ok (.iconst 0, 1) := by decide +kernel
theorem dX10_addKind_67 : decode cX10_addKind 67 = .ok (.ireturn, 1) := by decide +kernel
theorem dX10_addKind_68 : decode cX10_addKind 68 = .ok (.aload_n 0, 1) := by decide +kernel
theorem dX10_addKind_69 : decode cX10_addKind 69 = .ok (.invokevirtual 50, 3) := by decide +kernel
theorem dX10_addKind_72 : decode cX10_addKind 72 = .ok (.aload_n 0, 1) := by decide +kernel
theorem dX10_addKind_73 : decode cX10_addKind 73 = .ok (.getfield 7, 3) := by decide +kernel
theorem dX10_addKind_76 : decode cX10_addKind 76 = .ok (.sipush 405, 3) := by decide +kernel
theorem dX10_addKind_79 : decode cX10_addKind 79 = .ok (.iaload, 1) := by decide +kernel
theorem dX10_addKind_80 : decode cX10_addKind 80 = .ok (.istore 5, 2) := by decide +kernel
theorem dX10_addKind_82 : decode cX10_addKind 82 = .ok (.aload_n 0, 1) := by decide +kernel
theorem dX10_addKind_83 : decode cX10_addKind 83 = .ok (.getfield 7, 3) := by decide +kernel
theorem dX10_addKind_86 : decode cX10_addKind 86 = .ok (.iconst 3, 1) := by decide +kernel
theorem dX10_addKind_87 : decode cX10_addKind 87 = .ok (.iload 5, 2) := by decide +kernel
theorem dX10_addKind_89 : decode cX10_addKind 89 = .ok (.imul, 1) := by decide +kernel
theorem dX10_addKind_90 : decode cX10_addKind 90 = .ok (.iload_n 1, 1) := by decide +kernel
theorem dX10_addKind_91 : decode cX10_addKind 91 = .ok (.iastore, 1) := by decide +kernel
theorem dX10_addKind_92 : decode cX10_addKind 92 = .ok (.aload_n 0, 1) := by decide +kernel
theorem dX10_addKind_93 : decode cX10_addKind 93 = .ok (.getfield 7, 3) := by decide +kernel
theorem dX10_addKind_96 : decode cX10_addKind 96 = .ok (.iconst 3, 1) := by decide +kernel
theorem dX10_addKind_97 : decode cX10_addKind 97 = .ok (.iload 5, 2) := by decide +kernel
theorem dX10_addKind_99 : decode cX10_addKind 99 = .ok (.imul, 1) := by decide +kernel
theorem dX10_addKind_100 : decode cX10_addKind 100 = .ok (.iconst 1, 1) := by decide +kernel
theorem dX10_addKind_101 : decode cX10_addKind 101 = .ok (.iadd, 1) := by decide +kernel
theorem dX10_addKind_102 : decode cX10_addKind 102 = .ok (.iload_n 2, 1) := by decide +kernel
theorem dX10_addKind_103 : decode cX10_addKind 103 = .ok (.iastore, 1) := by decide +kernel
theorem dX10_addKind_104 : decode cX10_addKind 104 = .ok (.aload_n 0, 1) := by decide +kernel
theorem dX10_addKind_105 : decode cX10_addKind 105 = .ok (.getfield 7, 3) := by decide +kernel
theorem dX10_addKind_108 : decode cX10_addKind 108 = .ok (.iconst 3, 1) := by decide +kernel
theorem dX10_addKind_109 : decode cX10_addKind 109 = .ok (.iload 5, 2) := by decide +kernel
theorem dX10_addKind_111 : decode cX10_addKind 111 = .ok (.imul, 1) := by decide +kernel
theorem dX10_addKind_112 : decode cX10_addKind 112 = .ok (.iconst 2, 1) := by decide +kernel
theorem dX10_addKind_113 : decode cX10_addKind 113 = .ok (.iadd, 1) := by decide +kernel
theorem dX10_addKind_114 : decode cX10_addKind 114 = .ok (.iload_n 3, 1) := by decide +kernel
theorem dX10_addKind_115 : decode cX10_addKind 115 = .ok (.iastore, 1) := by decide +kernel
theorem dX10_addKind_116 : decode cX10_addKind 116 = .ok (.aload_n 0, 1) := by decide +kernel
theorem dX10_addKind_117 : decode cX10_addKind 117 = .ok (.getfield 7, 3) := by decide +kernel
theorem dX10_addKind_120 : decode cX10_addKind 120 = .ok (.sipush 405, 3) := by decide +kernel
theorem dX10_addKind_123 : decode cX10_addKind 123 = .ok (.dup2, 1) := by decide +kernel
theorem dX10_addKind_124 : decode cX10_addKind 124 = .ok (.iaload, 1) := by decide +kernel
theorem dX10_addKind_125 : decode cX10_addKind 125 = .ok (.iconst 1, 1) := by decide +kernel
theorem dX10_addKind_126 : decode cX10_addKind 126 = .ok (.iadd, 1) := by decide +kernel
theorem dX10_addKind_127 : decode cX10_addKind 127 = .ok (.iastore, 1) := by decide +kernel
theorem dX10_addKind_128 : decode cX10_addKind 128 = .ok (.iload 5, 2) := by decide +kernel
theorem dX10_addKind_130 : decode cX10_addKind 130 = .ok (.ireturn, 1) := by decide +kernel
theorem dX10_inStore_0 : decode cX10_inStore 0 = .ok (.iconst 0, 1) := by decide +kernel
theorem dX10_inStore_1 : decode cX10_inStore 1 = .ok (.istore_n 2, 1) := by decide +kernel
theorem dX10_inStore_2 : decode cX10_inStore 2 = .ok (.iconst 0, 1) := by decide +kernel
theorem dX10_inStore_3 : decode cX10_inStore 3 = .ok (.istore_n 3, 1) := by decide +kernel
theorem dX10_inStore_4 : decode cX10_inStore 4 = .ok (.iload_n 3, 1) := by decide +kernel
theorem dX10_inStore_5 : decode cX10_inStore 5 = .ok (.aload_n 0, 1) := by decide +kernel
theorem dX10_inStore_6 : decode cX10_inStore 6 = .ok (.getfield 7, 3) := by decide +kernel
theorem dX10_inStore_9 : decode cX10_inStore 9 = .ok (.sipush 406, 3) := by decide +kernel
theorem dX10_inStore_12 : decode cX10_inStore 12 = .ok (.iaload, 1) := by decide +kernel
theorem dX10_inStore_13 : decode cX10_inStore 13 = .ok (.if_icmp .ge 32, 3) := by decide +kernel
theorem dX10_inStore_16 : decode cX10_inStore 16 = .ok (.iload_n 2, 1) := by decide +kernel
theorem dX10_inStore_17 : decode cX10_inStore 17 = .ok (.aload_n 0, 1) := by decide +kernel
theorem dX10_inStore_18 : decode cX10_inStore 18 = .ok (.iload_n 3, 1) := by decide +kernel
theorem dX10_inStore_19 : decode cX10_inStore 19 = .ok (.iconst 1, 1) := by decide +kernel
theorem dX10_inStore_20 : decode cX10_inStore 20 = .ok (.invokevirtual 53, 3) := by decide +kernel
theorem dX10_inStore_23 : decode cX10_inStore 23 = .ok (.iload_n 1, 1) := by decide +kernel
theorem dX10_inStore_24 : decode cX10_inStore 24 = .ok (.if_icmp .ne 12, 3) := by decide +kernel
theorem dX10_inStore_27 : decode cX10_inStore 27 = .ok (.aload_n 0, 1) := by decide +kernel
theorem dX10_inStore_28 : decode cX10_inStore 28 = .ok (.iload_n 3, 1) := by decide +kernel
theorem dX10_inStore_29 : decode cX10_inStore 29 = .ok (.iconst 2, 1) := by decide +kernel
theorem dX10_inStore_30 : decode cX10_inStore 30 = .ok (.invokevirtual 53, 3) := by decide +kernel
theorem dX10_inStore_33 : decode cX10_inStore 33 = .ok (.goto 4, 3) := by decide +kernel
theorem dX10_inStore_36 : decode cX10_inStore 36 = .ok (.iconst 0, 1) := by decide +kernel
theorem dX10_inStore_37 : decode cX10_inStore 37 = .ok (.iadd, 1) := by decide +kernel
theorem dX10_inStore_38 : decode cX10_inStore 38 = .ok (.istore_n 2, 1) := by decide +kernel
theorem dX10_inStore_39 : decode cX10_inStore 39 = .ok (.iinc 3 1, 3) := by decide +kernel
theorem dX10_inStore_42 : decode cX10_inStore 42 = .ok (.goto (-38), 3) := by decide +kernel
theorem dX10_inStore_45 : decode cX10_inStore 45 = .ok (.iload_n 2, 1) := by decide +kernel
theorem dX10_inStore_46 : decode cX10_inStore 46 = .ok (.ireturn, 1) := by decide +kernel
theorem dX10_setRoom_0 : decode cX10_setRoom 0 = .ok (.aload_n 0, 1) := by decide +kernel
theorem dX10_setRoom_1 : decode cX10_setRoom 1 = .ok (.iload_n 1, 1) := by decide +kernel
theorem dX10_setRoom_2 : decode cX10_setRoom 2 = .ok (.invokestatic 57, 3) := by decide +kernel
theorem dX10_setRoom_5 : decode cX10_setRoom 5 = .ok (.ifCond .ne 7, 3) := by decide +kernel
theorem dX10_setRoom_8 : decode cX10_setRoom 8 = .ok (.iconst 1, 1) := by decide +kernel
theorem dX10_setRoom_9 : decode cX10_setRoom 9 = .ok (.goto 32, 3) := by decide +kernel
theorem dX10_setRoom_12 : decode cX10_setRoom 12 = .ok (.iload_n 2, 1) := by decide +kernel
theorem dX10_setRoom_13 : decode cX10_setRoom 13 = .ok (.iconst 0, 1) := by decide +kernel
theorem dX10_setRoom_14 : decode cX10_setRoom 14 = .ok (.sipush 5000, 3) := by decide +kernel
theorem dX10_setRoom_17 : decode cX10_setRoom 17 = .ok (.invokestatic 35, 3) := by decide +kernel
theorem dX10_setRoom_20 : decode cX10_setRoom 20 = .ok (.ifCond .ne 7, 3) := by decide +kernel
theorem dX10_setRoom_23 : decode cX10_setRoom 23 = .ok (.iconst 2, 1) := by decide +kernel
theorem dX10_setRoom_24 : decode cX10_setRoom 24 = .ok (.goto 17, 3) := by decide +kernel
theorem dX10_setRoom_27 : decode cX10_setRoom 27 = .ok (.aload_n 0, 1) := by decide +kernel
theorem dX10_setRoom_28 : decode cX10_setRoom 28 = .ok (.iload_n 1, 1) := by decide +kernel
theorem dX10_setRoom_29 : decode cX10_setRoom 29 = .ok (.invokevirtual 60, 3) := by decide +kernel
theorem dX10_setRoom_32 : decode cX10_setRoom 32 = .ok (.iload_n 2, 1) := by decide +kernel
theorem dX10_setRoom_33 : decode cX10_setRoom 33 = .ok (.if_icmp .le 7, 3) := by decide +kernel
theorem dX10_setRoom_36 : decode cX10_setRoom 36 = .ok (.iconst 3, 1) := by decide +kernel
theorem dX10_setRoom_37 : decode cX10_setRoom 37 = .ok (.goto 4, 3) := by decide +kernel
theorem dX10_setRoom_40 : decode cX10_setRoom 40 = .ok (.iconst 0, 1) := by decide +kernel
theorem dX10_setRoom_41 : decode cX10_setRoom 41 = .ok (.putfield 31, 3) := by decide +kernel
theorem dX10_setRoom_44 : decode cX10_setRoom 44 = .ok (.aload_n 0, 1) := by decide +kernel
theorem dX10_setRoom_45 : decode cX10_setRoom 45 = .ok (.getfield 31, 3) := by decide +kernel
theorem dX10_setRoom_48 : decode cX10_setRoom 48 = .ok (.ifCond .le 5, 3) := by decide +kernel
theorem dX10_setRoom_51 : decode cX10_setRoom 51 = .ok (.iconst 0, 1) := by decide +kernel
theorem dX10_setRoom_52 : decode cX10_setRoom 52 = .ok (.ireturn, 1) := by decide +kernel
theorem dX10_setRoom_53 : decode cX10_setRoom 53 = .ok (.aload_n 0, 1) := by decide +kernel
theorem dX10_setRoom_54 : decode cX10_setRoom 54 = .ok (.invokevirtual 50, 3) := by decide +kernel
theorem dX10_setRoom_57 : decode cX10_setRoom 57 = .ok (.aload_n 0, 1) := by decide +kernel
theorem dX10_setRoom_58 : decode cX10_setRoom 58 = .ok (.getfield 7, 3) := by decide +kernel
theorem dX10_setRoom_61 : decode cX10_setRoom 61 = .ok (.bipush 64, 2) := by decide +kernel
theorem dX10_setRoom_63 : decode cX10_setRoom 63 = .ok (.iload_n 1, 1) := by decide +kernel
theorem dX10_setRoom_64 : decode cX10_setRoom 64 = .ok (.iadd, 1) := by decide +kernel
theorem dX10_setRoom_65 : decode cX10_setRoom 65 = .ok (.iaload, 1) := by decide +kernel
theorem dX10_setRoom_66 : decode cX10_setRoom 66 = .ok (.istore_n 3, 1) := by decide +kernel
theorem dX10_setRoom_67 : decode cX10_setRoom 67 = .ok (.aload_n 0, 1) := by decide +kernel
theorem dX10_setRoom_68 : decode cX10_setRoom 68 = .ok (.getfield 7, 3) := by decide +kernel
theorem dX10_setRoom_71 : decode cX10_setRoom 71 = .ok (.bipush 64, 2) := by decide +kernel
theorem dX10_setRoom_73 : decode cX10_setRoom 73 = .ok (.iload_n 1, 1) := by decide +kernel
theorem dX10_setRoom_74 : decode cX10_setRoom 74 = .ok (.iadd, 1) := by decide +kernel
theorem dX10_setRoom_75 : decode cX10_setRoom 75 = .ok (.iload_n 2, 1) := by decide +kernel
theorem dX10_setRoom_76 : decode cX10_setRoom 76 = .ok (.iastore, 1) := by decide +kernel
theorem dX10_setRoom_77 : decode cX10_setRoom 77 = .ok (.iload_n 3, 1) := by decide +kernel
theorem dX10_setRoom_78 : decode cX10_setRoom 78 = .ok (.ireturn, 1) := by decide +kernel
theorem dX10_warm_0 : decode cX10_warm 0 = .ok (.aload_n 0, 1) := by decide +kernel
theorem dX10_warm_1 : decode cX10_warm 1 = .ok (.iload_n 1, 1) := by decide +kernel
theorem dX10_warm_2 : decode cX10_warm 2 = .ok (.iconst 1, 1) := by decide +kernel
theorem dX10_warm_3 : decode cX10_warm 3 = .ok (.iconst 2, 1) := by decide +kernel
theorem dX10_warm_4 : decode cX10_warm 4 = .ok (.invokestatic 35, 3) := by decide +kernel
theorem dX10_warm_7 : decode cX10_warm 7 = .ok (.ifCond .ne 7, 3) := by decide +kernel
theorem dX10_warm_10 : decode cX10_warm 10 = .ok (.iconst 1, 1) := by decide +kernel
theorem dX10_warm_11 : decode cX10_warm 11 = .ok (.goto 18, 3) := by decide +kernel
theorem dX10_warm_14 : decode cX10_warm 14 = .ok (.iload_n 2, 1) := by decide +kernel
theorem dX10_warm_15 : decode cX10_warm 15 = .ok (.iconst 0, 1) := by decide +kernel
theorem dX10_warm_16 : decode cX10_warm 16 = .ok (.bipush 30, 2) := by decide +kernel
theorem dX10_warm_18 : decode cX10_warm 18 = .ok (.invokestatic 35, 3) := by decide +kernel
theorem dX10_warm_21 : decode cX10_warm 21 = .ok (.ifCond .eq 7, 3) := by decide +kernel
theorem dX10_warm_24 : decode cX10_warm 24 = .ok (.iconst 0, 1) := by decide +kernel
theorem dX10_warm_25 : decode cX10_warm 25 = .ok (.goto 4, 3) := by decide +kernel
theorem dX10_warm_28 : decode cX10_warm 28 = .ok (.iconst 2, 1) := by decide +kernel
theorem dX10_warm_29 : decode cX10_warm 29 = .ok (.putfield 31, 3) := by decide +kernel
theorem dX10_warm_32 : decode cX10_warm 32 = .ok (.aload_n 0, 1) := by decide +kernel
theorem dX10_warm_33 : decode cX10_warm 33 = .ok (.getfield 31, 3) := by decide +kernel
theorem dX10_warm_36 : decode cX10_warm 36 = .ok (.ifCond .le 5, 3) := by decide +kernel
theorem dX10_warm_39 : decode cX10_warm 39 = .ok (.iconst 0, 1) := by decide +kernel
theorem dX10_warm_40 : decode cX10_warm 40 = .ok (.ireturn, 1) := by decide +kernel
theorem dX10_warm_41 : decode cX10_warm 41 = .ok (.aload_n 0, 1) := by decide +kernel
theorem dX10_warm_42 : decode cX10_warm 42 = .ok (.invokevirtual 50, 3) := by decide +kernel
theorem dX10_warm_45 : decode cX10_warm 45 = .ok (.aload_n 0, 1) := by decide +kernel
theorem dX10_warm_46 : decode cX10_warm 46 = .ok (.getfield 7, 3) := by decide +kernel
theorem dX10_warm_49 : decode cX10_warm 49 = .ok (.bipush 67, 2) := by decide +kernel
theorem dX10_warm_51 : decode cX10_warm 51 = .ok (.iload_n 1, 1) := by decide +kernel
theorem dX10_warm_52 : decode cX10_warm 52 = .ok (.iadd, 1) := by decide +kernel
theorem dX10_warm_53 : decode cX10_warm 53 = .ok (.iaload, 1) := by decide +kernel
theorem dX10_warm_54 : decode cX10_warm 54 = .ok (.istore_n 3, 1) := by decide +kernel
theorem dX10_warm_55 : decode cX10_warm 55 = .ok (.aload_n 0, 1) := by decide +kernel
theorem dX10_warm_56 : decode cX10_warm 56 = .ok (.getfield 7, 3) := by decide +kernel
theorem dX10_warm_59 : decode cX10_warm 59 = .ok (.bipush 67, 2) := by decide +kernel
theorem dX10_warm_61 : decode cX10_warm 61 = .ok (.iload_n 1, 1) := by decide +kernel
theorem dX10_warm_62 : decode cX10_warm 62 = .ok (.iadd, 1) := by decide +kernel
theorem dX10_warm_63 : decode cX10_warm 63 = .ok (.iload_n 2, 1) := by decide +kernel
theorem dX10_warm_64 : decode cX10_warm 64 = .ok (.iastore, 1) := by decide +kernel
theorem dX10_warm_65 : decode cX10_warm 65 = .ok (.iload_n 3, 1) := by decide +kernel
theorem dX10_warm_66 : decode cX10_warm 66 = .ok (.ireturn, 1) := by decide +kernel
theorem dX10_setCrew_0 : decode cX10_setCrew 0 = .ok (.aload_n 0, 1) := by decide +kernel
theorem dX10_setCrew_1 : decode cX10_setCrew 1 = .ok (.iload_n 1, 1) := by decide +kernel
theorem dX10_setCrew_2 : decode cX10_setCrew 2 = .ok (.iconst 1, 1) := by decide +kernel
theorem dX10_setCrew_3 : decode cX10_setCrew 3 = .ok (.bipush 100, 2) := by decide +kernel
theorem dX10_setCrew_5 : decode cX10_setCrew 5 = .ok (.invokestatic 35, 3) := by decide +kernel
theorem dX10_setCrew_8 : decode cX10_setCrew 8 = .ok (.ifCond .eq 7, 3) := by decide +kernel
theorem dX10_setCrew_11 : decode cX10_setCrew 11 = .ok (.iconst 0, 1) := by decide +kernel
theorem dX10_setCrew_12 : decode cX10_setCrew 12 = .ok (.goto 4, 3) := by decide +kernel
theorem dX10_setCrew_15 : decode cX10_setCrew 15 = .ok (.iconst 1, 1) := by decide +kernel
theorem dX10_setCrew_16 : decode cX10_setCrew 16 = .ok (.putfield 31, 3) := by decide +kernel
theorem dX10_setCrew_19 : decode cX10_setCrew 19 = .ok (.aload_n 0, 1) := by decide +kernel
theorem dX10_setCrew_20 : decode cX10_setCrew 20 = .ok (.getfield 31, 3) := by decide +kernel
theorem dX10_setCrew_23 : decode cX10_setCrew 23 = .ok (.ifCond .le 5, 3) := by decide +kernel
theorem dX10_setCrew_26 : decode cX10_setCrew 26 = .ok (.iconst 0, 1) := by decide +kernel
theorem dX10_setCrew_27 : decode cX10_setCrew 27 = .ok (.ireturn, 1) := by decide +kernel
theorem dX10_setCrew_28 : decode cX10_setCrew 28 = .ok (.aload_n 0, 1) := by decide +kernel
theorem dX10_setCrew_29 : decode cX10_setCrew 29 = .ok (.invokevirtual 50, 3) := by decide +kernel
theorem dX10_setCrew_32 : decode cX10_setCrew 32 = .ok (.aload_n 0, 1) := by decide +kernel
theorem dX10_setCrew_33 : decode cX10_setCrew 33 = .ok (.getfield 7, 3) := by decide +kernel
theorem dX10_setCrew_36 : decode cX10_setCrew 36 = .ok (.sipush 409, 3) := by decide +kernel
theorem dX10_setCrew_39 : decode cX10_setCrew 39 = .ok (.iaload, 1) := by decide +kernel
theorem dX10_setCrew_40 : decode cX10_setCrew 40 = .ok (.istore_n 2, 1) := by decide +kernel
theorem dX10_setCrew_41 : decode cX10_setCrew 41 = .ok (.aload_n 0, 1) := by decide +kernel
theorem dX10_setCrew_42 : decode cX10_setCrew 42 = .ok (.getfield 7, 3) := by decide +kernel
theorem dX10_setCrew_45 : decode cX10_setCrew 45 = .ok (.sipush 409, 3) := by decide +kernel
theorem dX10_setCrew_48 : decode cX10_setCrew 48 = .ok (.iload_n 1, 1) := by decide +kernel
theorem dX10_setCrew_49 : decode cX10_setCrew 49 = .ok (.iastore, 1) := by decide +kernel
theorem dX10_setCrew_50 : decode cX10_setCrew 50 = .ok (.iload_n 2, 1) := by decide +kernel
theorem dX10_setCrew_51 : decode cX10_setCrew 51 = .ok (.ireturn, 1) := by decide +kernel
theorem dX10_pay_0 : decode cX10_pay 0 = .ok (.aload_n 0, 1) := by decide +kernel
theorem dX10_pay_1 : decode cX10_pay 1 = .ok (.getfield 7, 3) := by decide +kernel
theorem dX10_pay_4 : decode cX10_pay 4 = .ok (.sipush 410, 3) := by decide +kernel
theorem dX10_pay_7 : decode cX10_pay 7 = .ok (.iaload, 1) := by decide +kernel
theorem dX10_pay_8 : decode cX10_pay 8 = .ok (.i2l, 1) := by decide +kernel
theorem dX10_pay_9 : decode cX10_pay 9 = .ok (.iload_n 1, 1) := by decide +kernel
theorem dX10_pay_10 : decode cX10_pay 10 = .ok (.i2l, 1) := by decide +kernel
theorem dX10_pay_11 : decode cX10_pay 11 = .ok (.ladd, 1) := by decide +kernel
theorem dX10_pay_12 : decode cX10_pay 12 = .ok (.lstore_n 2, 1) := by decide +kernel
theorem dX10_pay_13 : decode cX10_pay 13 = .ok (.aload_n 0, 1) := by decide +kernel
theorem dX10_pay_14 : decode cX10_pay 14 = .ok (.lload_n 2, 1) := by decide +kernel
theorem dX10_pay_15 : decode cX10_pay 15 = .ok (.lconst 0, 1) := by decide +kernel
theorem dX10_pay_16 : decode cX10_pay 16 = .ok (.lcmp, 1) := by decide +kernel
theorem dX10_pay_17 : decode cX10_pay 17 = .ok (.ifCond .lt 15, 3) := by decide +kernel
theorem dX10_pay_20 : decode cX10_pay 20 = .ok (.lload_n 2, 1) := by decide +kernel
theorem dX10_pay_21 : decode cX10_pay 21 = .ok (.ldc2_w 64, 3) := by decide +kernel
theorem dX10_pay_24 : decode cX10_pay 24 = .ok (.lcmp, 1) := by decide +kernel
theorem dX10_pay_25 : decode cX10_pay 25 = .ok (.ifCond .gt 7, 3) := by decide +kernel
theorem dX10_pay_28 : decode cX10_pay 28 = .ok (.iconst 0, 1) := by decide +kernel
theorem dX10_pay_29 : decode cX10_pay 29 = .ok (.goto 4, 3) := by decide +kernel
theorem dX10_pay_32 : decode cX10_pay 32 = .ok (.iconst 1, 1) := by decide +kernel
theorem dX10_pay_33 : decode cX10_pay 33 = .ok (.putfield 31, 3) := by decide +kernel
theorem dX10_pay_36 : decode cX10_pay 36 = .ok (.aload_n 0, 1) := by decide +kernel
theorem dX10_pay_37 : decode cX10_pay 37 = .ok (.getfield 31, 3) := by decide +kernel
theorem dX10_pay_40 : decode cX10_pay 40 = .ok (.ifCond .le 5, 3) := by decide +kernel
theorem dX10_pay_43 : decode cX10_pay 43 = .ok (.iconst 0, 1) := by decide +kernel
theorem dX10_pay_44 : decode cX10_pay 44 = .ok (.ireturn, 1) := by decide +kernel
theorem dX10_pay_45 : decode cX10_pay 45 = .ok (.aload_n 0, 1) := by decide +kernel
theorem dX10_pay_46 : decode cX10_pay 46 = .ok (.invokevirtual 50, 3) := by decide +kernel
theorem dX10_pay_49 : decode cX10_pay 49 = .ok (.aload_n 0, 1) := by decide +kernel
theorem dX10_pay_50 : decode cX10_pay 50 = .ok (.getfield 7, 3) := by decide +kernel
theorem dX10_pay_53 : decode cX10_pay 53 = .ok (.sipush 410, 3) := by decide +kernel
theorem dX10_pay_56 : decode cX10_pay 56 = .ok (.lload_n 2, 1) := by decide +kernel
theorem dX10_pay_57 : decode cX10_pay 57 = .ok (.l2i, 1) := by decide +kernel
theorem dX10_pay_58 : decode cX10_pay 58 = .ok (.iastore, 1) := by decide +kernel
theorem dX10_pay_59 : decode cX10_pay 59 = .ok (.aload_n 0, 1) := by decide +kernel
theorem dX10_pay_60 : decode cX10_pay 60 = .ok (.getfield 7, 3) := by decide +kernel
theorem dX10_pay_63 : decode cX10_pay 63 = .ok (.sipush 410, 3) := by decide +kernel
theorem dX10_pay_66 : decode cX10_pay 66 = .ok (.iaload, 1) := by decide +kernel
theorem dX10_pay_67 : decode cX10_pay 67 = .ok (.ireturn, 1) := by decide +kernel
theorem dX10_portOf_0 : decode cX10_portOf 0 = .ok (.iconst (-1), 1) := by decide +kernel
theorem dX10_portOf_1 : decode cX10_portOf 1 = .ok (.istore_n 2, 1) := by decide +kernel
theorem dX10_portOf_2 : decode cX10_portOf 2 = .ok (.iconst 0, 1) := by decide +kernel
theorem dX10_portOf_3 : decode cX10_portOf 3 = .ok (.istore_n 3, 1) := by decide +kernel
theorem dX10_portOf_4 : decode cX10_portOf 4 = .ok (.iload_n 3, 1) := by decide +kernel
theorem dX10_portOf_5 : decode cX10_portOf 5 = .ok (.aload_n 0, 1) := by decide +kernel
theorem dX10_portOf_6 : decode cX10_portOf 6 = .ok (.getfield 7, 3) := by decide +kernel
theorem dX10_portOf_9 : decode cX10_portOf 9 = .ok (.sipush 407, 3) := by decide +kernel
theorem dX10_portOf_12 : decode cX10_portOf 12 = .ok (.iaload, 1) := by decide +kernel
theorem dX10_portOf_13 : decode cX10_portOf 13 = .ok (.if_icmp .ge 32, 3) := by decide +kernel
theorem dX10_portOf_16 : decode cX10_portOf 16 = .ok (.aload_n 0, 1) := by decide +kernel
theorem dX10_portOf_17 : decode cX10_portOf 17 = .ok (.getfield 7, 3) := by decide +kernel
theorem dX10_portOf_20 : decode cX10_portOf 20 = .ok (.sipush 324, 3) := by decide +kernel
theorem dX10_portOf_23 : decode cX10_portOf 23 = .ok (.bipush 10, 2) := by decide +kernel
theorem dX10_portOf_25 : decode cX10_portOf 25 = .ok (.iload_n 3, 1) := by decide +kernel
theorem dX10_portOf_26 : decode cX10_portOf 26 = .ok (.imul, 1) := by decide +kernel
theorem dX10_portOf_27 : decode cX10_portOf 27 = .ok (.iadd, 1) := by decide +kernel
theorem dX10_portOf_28 : decode cX10_portOf 28 = .ok (.iaload, 1) := by decide +kernel
theorem dX10_portOf_29 : decode cX10_portOf 29 = .ok (.iload_n 1, 1) := by decide +kernel
theorem dX10_portOf_30 : decode cX10_portOf 30 = .ok (.if_icmp .ne 7, 3) := by decide +kernel
theorem dX10_portOf_33 : decode cX10_portOf 33 = .ok (.iload_n 3, 1) := by decide +kernel
theorem dX10_portOf_34 : decode cX10_portOf 34 = .ok (.goto 4, 3) := by decide +kernel
theorem dX10_portOf_37 : decode cX10_portOf 37 = .ok (.iload_n 2, 1) := by decide +kernel
theorem dX10_portOf_38 : decode cX10_portOf 38 = .ok (.istore_n 2, 1) := by decide +kernel
theorem dX10_portOf_39 : decode cX10_portOf 39 = .ok (.iinc 3 1, 3) := by decide +kernel
theorem dX10_portOf_42 : decode cX10_portOf 42 = .ok (.goto (-38), 3) := by decide +kernel
theorem dX10_portOf_45 : decode cX10_portOf 45 = .ok (.iload_n 2, 1) := by decide +kernel
theorem dX10_portOf_46 : decode cX10_portOf 46 = .ok (.ireturn, 1) := by decide +kernel
theorem dX10_addPort_0 : decode cX10_addPort 0 = .ok (.iload_n 1, 1) := by decide +kernel
theorem dX10_addPort_1 : decode cX10_addPort 1 = .ok (.iconst 0, 1) := by decide +kernel
theorem dX10_addPort_2 : decode cX10_addPort 2 = .ok (.sipush 500, 3) := by decide +kernel
theorem dX10_addPort_5 : decode cX10_addPort 5 = .ok (.invokestatic 35, 3) := by decide +kernel
theorem dX10_addPort_8 : decode cX10_addPort 8 = .ok (.ifCond .eq 18, 3) := by decide +kernel
theorem dX10_addPort_11 : decode cX10_addPort 11 = .ok (.iload_n 2, 1) := by decide +kernel
theorem dX10_addPort_12 : decode cX10_addPort 12 = .ok (.iconst 0, 1) := by decide +kernel
theorem dX10_addPort_13 : decode cX10_addPort 13 = .ok (.sipush 900, 3) := by decide +kernel
theorem dX10_addPort_16 : decode cX10_addPort 16 = .ok (.invokestatic 35, 3) := by decide +kernel
theorem dX10_addPort_19 : decode cX10_addPort 19 = .ok (.ifCond .eq 7, 3) := by decide +kernel
theorem dX10_addPort_22 : decode cX10_addPort 22 = .ok (.iconst 1, 1) := by decide +kernel
theorem dX10_addPort_23 : decode cX10_addPort 23 = .ok (.goto 4, 3) := by decide +kernel
theorem dX10_addPort_26 : decode cX10_addPort 26 = .ok (.iconst 0, 1) := by decide +kernel
theorem dX10_addPort_27 : decode cX10_addPort 27 = .ok (.istore_n 3, 1) := by decide +kernel
theorem dX10_addPort_28 : decode cX10_addPort 28 = .ok (.aload_n 0, 1) := by decide +kernel
theorem dX10_addPort_29 : decode cX10_addPort 29 = .ok (.iload_n 3, 1) := by decide +kernel
theorem dX10_addPort_30 : decode cX10_addPort 30 = .ok (.ifCond .ne 7, 3) := by decide +kernel
theorem dX10_addPort_33 : decode cX10_addPort 33 = .ok (.iconst 1, 1) := by decide +kernel
theorem dX10_addPort_34 : decode cX10_addPort 34 = .ok (.goto 30, 3) := by decide +kernel
theorem dX10_addPort_37 : decode cX10_addPort 37 = .ok (.aload_n 0, 1) := by decide +kernel
theorem dX10_addPort_38 : decode cX10_addPort 38 = .ok (.getfield 7, 3) := by decide +kernel
theorem dX10_addPort_41 : decode cX10_addPort 41 = .ok (.sipush 407, 3) := by decide +kernel
theorem dX10_addPort_44 : decode cX10_addPort 44 = .ok (.iaload, 1) := by decide +kernel
theorem dX10_addPort_45 : decode cX10_addPort 45 = .ok (.bipush 8, 2) := by decide +kernel
theorem dX10_addPort_47 : decode cX10_addPort 47 = .ok (.if_icmp .eq 12, 3) := by decide +kernel
theorem dX10_addPort_50 : decode cX10_addPort 50 = .ok (.aload_n 0, 1) := by decide +kernel
theorem dX10_addPort_51 : decode cX10_addPort 51 = .ok (.iload_n 1, 1) := by decide +kernel
theorem dX10_addPort_52 : decode cX10_addPort 52 = .ok (.invokevirtual 66, 3) := by decide +kernel
theorem dX10_addPort_55 : decode cX10_addPort 55 = .ok (.iconst (-1), 1) := by decide +kernel
theorem dX10_addPort_56 : decode cX10_addPort 56 = .ok (.if_icmp .eq 7, 3) := by decide +kernel
theorem dX10_addPort_59 : decode cX10_addPort 59 = .ok (.iconst 2, 1) := by decide +kernel
theorem dX10_addPort_60 : decode cX10_addPort 60 = .ok (.goto 4, 3) := by decide +kernel
theorem dX10_addPort_63 : decode cX10_addPort 63 = .ok (.iconst 0, 1) := by decide +kernel
theorem dX10_addPort_64 : decode cX10_addPort 64 = .ok (.putfield 31, 3) := by decide +kernel
theorem dX10_addPort_67 : decode cX10_addPort 67 = .ok (.aload_n 0, 1) := by decide +kernel
theorem dX10_addPort_68 : decode cX10_addPort 68 = .ok (.getfield 31, 3) := by decide +kernel
theorem dX10_addPort_71 : decode cX10_addPort 71 = .ok (.ifCond .le 5, 3) := by decide +kernel
theorem dX10_addPort_74 : decode cX10_addPort 74 = .ok (.iconst 0, 1) := by decide +kernel
theorem dX10_addPort_75 : decode cX10_addPort 75 = .ok (.ireturn, 1) := by decide +kernel
theorem dX10_addPort_76 : decode cX10_addPort 76 = .ok (.aload_n 0, 1) := by decide +kernel
theorem dX10_addPort_77 : decode cX10_addPort 77 = .ok (.invokevirtual 50, 3) := by decide +kernel
theorem dX10_addPort_80 : decode cX10_addPort 80 = .ok (.aload_n 0, 1) := by decide +kernel
theorem dX10_addPort_81 : decode cX10_addPort 81 = .ok (.getfield 7, 3) := by decide +kernel
theorem dX10_addPort_84 : decode cX10_addPort 84 = .ok (.sipush 407, 3) := by decide +kernel
theorem dX10_addPort_87 : decode cX10_addPort 87 = .ok (.iaload, 1) := by decide +kernel
theorem dX10_addPort_88 : decode cX10_addPort 88 = .ok (.istore 4, 2) := by decide +kernel
theorem dX10_addPort_90 : decode cX10_addPort 90 = .ok (.iload 4, 2) := by decide +kernel
theorem dX10_addPort_92 : decode cX10_addPort 92 = .ok (.ifCond .le 83, 3) := by decide +kernel
theorem dX10_addPort_95 : decode cX10_addPort 95 = .ok (.aload_n 0, 1) := by decide +kernel
theorem dX10_addPort_96 : decode cX10_addPort 96 = .ok (.getfield 7, 3) := by decide +kernel
theorem dX10_addPort_99 : decode cX10_addPort 99 = .ok (.sipush 324, 3) := by decide +kernel
theorem dX10_addPort_102 : decode cX10_addPort 102 = .ok (.bipush 10, 2) := by decide +kernel
theorem dX10_addPort_104 : decode cX10_addPort 104 = .ok (.iload 4, 2) := by decide +kernel
theorem dX10_addPort_106 : decode cX10_addPort 106 = .ok (.imul, 1) := by decide +kernel
theorem dX10_addPort_107 : decode cX10_addPort 107 = .ok (.iadd, 1) := by decide +kernel
theorem dX10_addPort_108 : decode cX10_addPort 108 = .ok (.bipush 10, 2) := by decide +kernel
theorem dX10_addPort_110 : decode cX10_addPort 110 = .ok (.isub, 1) := by decide +kernel
theorem dX10_addPort_111 : decode cX10_addPort 111 = .ok (.iaload, 1) := by decide +kernel
theorem dX10_addPort_112 : decode cX10_addPort 112 = .ok (.iload_n 1, 1) := by decide +kernel
theorem dX10_addPort_113 : decode cX10_addPort 113 = .ok (.if_icmp .le 62, 3) := by decide +kernel
theorem dX10_addPort_116 : decode cX10_addPort 116 = .ok (.iconst 0, 1) := by decide +kernel
theorem dX10_addPort_117 : decode cX10_addPort 117 = .ok (.istore 5, 2) := by decide +kernel
theorem dX10_addPort_119 : decode cX10_addPort 119 = .ok (.iload 5, 2) := by decide +kernel
theorem dX10_addPort_121 : decode cX10_addPort 121 = .ok (.bipush 10, 2) := by decide +kernel
theorem dX10_addPort_123 : decode cX10_addPort 123 = .ok (.if_icmp .ge 46, 3) := by decide +kernel
theorem dX10_addPort_126 : decode cX10_addPort 126 = .ok (.aload_n 0, 1) := by decide +kernel
theorem dX10_addPort_127 : decode cX10_addPort 127 = .ok (.getfield 7, 3) := by decide +kernel
theorem dX10_addPort_130 : decode cX10_addPort 130 = .ok (.sipush 324, 3) := by decide +kernel
theorem dX10_addPort_133 : decode cX10_addPort 133 = .ok (.bipush 10, 2) := by decide +kernel
theorem dX10_addPort_135 : decode cX10_addPort 135 = .ok (.iload 4, 2) := by decide +kernel
theorem dX10_addPort_137 : decode cX10_addPort 137 = .ok (.imul, 1) := by decide +kernel
theorem dX10_addPort_138 : decode cX10_addPort 138 = .ok (.iadd, 1) := by decide +kernel
theorem dX10_addPort_139 : decode cX10_addPort 139 = .ok (.iload 5, 2) := by decide +kernel
theorem dX10_addPort_141 : decode cX10_addPort 141 = .ok (.iadd, 1) := by decide +kernel
theorem dX10_addPort_142 : decode cX10_addPort 142 = .ok (.aload_n 0, 1) := by decide +kernel
theorem dX10_addPort_143 : decode cX10_addPort 143 = .ok (.getfield 7, 3) := by decide +kernel
theorem dX10_addPort_146 : decode cX10_addPort 146 = .ok (.sipush 324, 3) := by decide +kernel
theorem dX10_addPort_149 : decode cX10_addPort 149 = .ok (.bipush 10, 2) := by decide +kernel
theorem dX10_addPort_151 : decode cX10_addPort 151 = .ok (.iload 4, 2) := by decide +kernel
theorem dX10_addPort_153 : decode cX10_addPort 153 = .ok (.imul, 1) := by decide +kernel
theorem dX10_addPort_154 : decode cX10_addPort 154 = .ok (.iadd, 1) := by decide +kernel
theorem dX10_addPort_155 : decode cX10_addPort 155 = .ok (.bipush 10, 2) := by decide +kernel
theorem dX10_addPort_157 : decode cX10_addPort 157 = .ok (.isub, 1) := by decide +kernel
theorem dX10_addPort_158 : decode cX10_addPort 158 = .ok (.iload 5, 2) := by decide +kernel
theorem dX10_addPort_160 : decode cX10_addPort 160 = .ok (.iadd, 1) := by decide +kernel
theorem dX10_addPort_161 : decode cX10_addPort 161 = .ok (.iaload, 1) := by decide +kernel
theorem dX10_addPort_162 : decode cX10_addPort 162 = .ok (.iastore, 1) := by decide +kernel
theorem dX10_addPort_163 : decode cX10_addPort 163 = .ok (.iinc 5 1, 3) := by decide +kernel
theorem dX10_addPort_166 : decode cX10_addPort 166 = .ok (.goto (-47), 3) := by decide +kernel
theorem dX10_addPort_169 : decode cX10_addPort 169 = .ok (.iinc 4 (-1), 3) := by decide +kernel
theorem dX10_addPort_172 : decode cX10_addPort 172 = .ok (.goto (-82), 3) := by decide +kernel
theorem dX10_addPort_175 : decode cX10_addPort 175 = .ok (.iconst 0, 1) := by decide +kernel
theorem dX10_addPort_176 : decode cX10_addPort 176 = .ok (.istore 5, 2) := by decide +kernel
theorem dX10_addPort_178 : decode cX10_addPort 178 = .ok (.iload 5, 2) := by decide +kernel
theorem dX10_addPort_180 : decode cX10_addPort 180 = .ok (.bipush 10, 2) := by decide +kernel
theorem dX10_addPort_182 : decode cX10_addPort 182 = .ok (.if_icmp .ge 46, 3) := by decide +kernel
theorem dX10_addPort_185 : decode cX10_addPort 185 = .ok (.aload_n 0, 1) := by decide +kernel
theorem dX10_addPort_186 : decode cX10_addPort 186 = .ok (.getfield 7, 3) := by decide +kernel
theorem dX10_addPort_189 : decode cX10_addPort 189 = .ok (.sipush 324, 3) := by decide +kernel
theorem dX10_addPort_192 : decode cX10_addPort 192 = .ok (.bipush 10, 2) := by decide +kernel
theorem dX10_addPort_194 : decode cX10_addPort 194 = .ok (.iload 4, 2) := by decide +kernel
theorem dX10_addPort_196 : decode cX10_addPort 196 = .ok (.imul, 1) := by decide +kernel
theorem dX10_addPort_197 : decode cX10_addPort 197 = .ok (.iadd, 1) := by decide +kernel
theorem dX10_addPort_198 : decode cX10_addPort 198 = .ok (.iload 5, 2) := by decide +kernel
theorem dX10_addPort_200 : decode cX10_addPort 200 = .ok (.iadd, 1) := by decide +kernel
theorem dX10_addPort_201 : decode cX10_addPort 201 = .ok (.iload 5, 2) := by decide +kernel
theorem dX10_addPort_203 : decode cX10_addPort 203 = .ok (.ifCond .ne 7, 3) := by decide +kernel
theorem dX10_addPort_206 : decode cX10_addPort 206 = .ok (.iload_n 1, 1) := by decide +kernel
theorem dX10_addPort_207 : decode cX10_addPort 207 = .ok (.goto 14, 3) := by decide +kernel
theorem dX10_addPort_210 : decode cX10_addPort 210 = .ok (.iload 5, 2) := by decide +kernel
theorem dX10_addPort_212 : decode cX10_addPort 212 = .ok (.iconst 1, 1) := by decide +kernel
theorem dX10_addPort_213 : decode cX10_addPort 213 = .ok (.if_icmp .ne 7, 3) := by decide +kernel
theorem dX10_addPort_216 : decode cX10_addPort 216 = .ok (.iload_n 2, 1) := by decide +kernel
theorem dX10_addPort_217 : decode cX10_addPort 217 = .ok (.goto 4, 3) := by decide +kernel
theorem dX10_addPort_220 : decode cX10_addPort 220 = .ok (.iconst 0, 1) := by decide +kernel
theorem dX10_addPort_221 : decode cX10_addPort 221 = .ok (.iastore, 1) := by decide +kernel
theorem dX10_addPort_222 : decode cX10_addPort 222 = .ok (.iinc 5 1, 3) := by decide +kernel
theorem dX10_addPort_225 : decode cX10_addPort 225 = .ok (.goto (-47), 3) := by decide +kernel
theorem dX10_addPort_228 : decode cX10_addPort 228 = .ok (.aload_n 0, 1) := by decide +kernel
theorem dX10_addPort_229 : decode cX10_addPort 229 = .ok (.getfield 7, 3) := by decide +kernel
theorem dX10_addPort_232 : decode cX10_addPort 232 = .ok (.sipush 407, 3) := by decide +kernel
theorem dX10_addPort_235 : decode cX10_addPort 235 = .ok (.dup2, 1) := by decide +kernel
theorem dX10_addPort_236 : decode cX10_addPort 236 = .ok (.iaload, 1) := by decide +kernel
theorem dX10_addPort_237 : decode cX10_addPort 237 = .ok (.iconst 1, 1) := by decide +kernel
theorem dX10_addPort_238 : decode cX10_addPort 238 = .ok (.iadd, 1) := by decide +kernel
theorem dX10_addPort_239 : decode cX10_addPort 239 = .ok (.iastore, 1) := by decide +kernel
theorem dX10_addPort_240 : decode cX10_addPort 240 = .ok (.iload 4, 2) := by decide +kernel
theorem dX10_addPort_242 : decode cX10_addPort 242 = .ok (.ireturn, 1) := by decide +kernel
theorem dX10_removePort_0 : decode cX10_removePort 0 = .ok (.aload_n 0, 1) := by decide +kernel
theorem dX10_removePort_1 : decode cX10_removePort 1 = .ok (.aload_n 0, 1) := by decide +kernel
theorem dX10_removePort_2 : decode cX10_removePort 2 = .ok (.iload_n 1, 1) := by decide +kernel
theorem dX10_removePort_3 : decode cX10_removePort 3 = .ok (.invokevirtual 69, 3) := by decide +kernel
theorem dX10_removePort_6 : decode cX10_removePort 6 = .ok (.ifCond .eq 7, 3) := by decide +kernel
theorem dX10_removePort_9 : decode cX10_removePort 9 = .ok (.iconst 0, 1) := by decide +kernel
theorem dX10_removePort_10 : decode cX10_removePort 10 = .ok (.goto 4, 3) := by decide +kernel
theorem dX10_removePort_13 : decode cX10_removePort 13 = .ok (.iconst 1, 1) := by decide +kernel
theorem dX10_removePort_14 : decode cX10_removePort 14 = .ok (.putfield 31, 3) := by decide +kernel
theorem dX10_removePort_17 : decode cX10_removePort 17 = .ok (.aload_n 0, 1) := by decide +kernel
theorem dX10_removePort_18 : decode cX10_removePort 18 = .ok (.getfield 31, 3) := by decide +kernel
theorem dX10_removePort_21 : decode cX10_removePort 21 = .ok (.ifCond .le 5, 3) := by decide +kernel
theorem dX10_removePort_24 : decode cX10_removePort 24 = .ok (.iconst 0, 1) := by decide +kernel
theorem dX10_removePort_25 : decode cX10_removePort 25 = .ok (.ireturn, 1) := by decide +kernel
theorem dX10_removePort_26 : decode cX10_removePort 26 = .ok (.aload_n 0, 1) := by decide +kernel
theorem dX10_removePort_27 : decode cX10_removePort 27 = .ok (.invokevirtual 50, 3) := by decide +kernel
theorem dX10_removePort_30 : decode cX10_removePort 30 = .ok (.aload_n 0, 1) := by decide +kernel
theorem dX10_removePort_31 : decode cX10_removePort 31 = .ok (.getfield 7, 3) := by decide +kernel
theorem dX10_removePort_34 : decode cX10_removePort 34 = .ok (.sipush 324, 3) := by decide +kernel
theorem dX10_removePort_37 : decode cX10_removePort 37 = .ok (.bipush 10, 2) := by decide +kernel
theorem dX10_removePort_39 : decode cX10_removePort 39 = .ok (.iload_n 1, 1) := by decide +kernel
theorem dX10_removePort_40 : decode cX10_removePort 40 = .ok (.imul, 1) := by decide +kernel
theorem dX10_removePort_41 : decode cX10_removePort 41 = .ok (.iadd, 1) := by decide +kernel
theorem dX10_removePort_42 : decode cX10_removePort 42 = .ok (.iaload, 1) := by decide +kernel
theorem dX10_removePort_43 : decode cX10_removePort 43 = .ok (.istore_n 2, 1) := by decide +kernel
theorem dX10_removePort_44 : decode cX10_removePort 44 = .ok (.aload_n 0, 1) := by decide +kernel
theorem dX10_removePort_45 : decode cX10_removePort 45 = .ok (.getfield 7, 3) := by decide +kernel
theorem dX10_removePort_48 : decode cX10_removePort 48 = .ok (.sipush 407, 3) := by decide +kernel
theorem dX10_removePort_51 : decode cX10_removePort 51 = .ok (.dup2, 1) := by decide +kernel
theorem dX10_removePort_52 : decode cX10_removePort 52 = .ok (.iaload, 1) := by decide +kernel
theorem dX10_removePort_53 : decode cX10_removePort 53 = .ok (.iconst 1, 1) := by decide +kernel
theorem dX10_removePort_54 : decode cX10_removePort 54 = .ok (.isub, 1) := by decide +kernel
theorem dX10_removePort_55 : decode cX10_removePort 55 = .ok (.iastore, 1) := by decide +kernel
theorem dX10_removePort_56 : decode cX10_removePort 56 = .ok (.sipush 324, 3) := by decide +kernel
theorem dX10_removePort_59 : decode cX10_removePort 59 = .ok (.bipush 10, 2) := by decide +kernel
theorem dX10_removePort_61 : decode cX10_removePort 61 = .ok (.iload_n 1, 1) := by decide +kernel
theorem dX10_removePort_62 : decode cX10_removePort 62 = .ok (.imul, 1) := by decide +kernel
theorem dX10_removePort_63 : decode cX10_removePort 63 = .ok (.iadd, 1) := by decide +kernel
theorem dX10_removePort_64 : decode cX10_removePort 64 = .ok (.istore_n 3, 1) := by decide +kernel
theorem dX10_removePort_65 : decode cX10_removePort 65 = .ok (.iload_n 3, 1) := by decide +kernel
theorem dX10_removePort_66 : decode cX10_removePort 66 = .ok (.sipush 324, 3) := by decide +kernel
theorem dX10_removePort_69 : decode cX10_removePort 69 = .ok (.bipush 10, 2) := by decide +kernel
theorem dX10_removePort_71 : decode cX10_removePort 71 = .ok (.aload_n 0, 1) := by decide +kernel
theorem dX10_removePort_72 : decode cX10_removePort 72 = .ok (.getfield 7, 3) := by decide +kernel
theorem dX10_removePort_75 : decode cX10_removePort 75 = .ok (.sipush 407, 3) := by decide +kernel
theorem dX10_removePort_78 : decode cX10_removePort 78 = .ok (.iaload, 1) := by decide +kernel
theorem dX10_removePort_79 : decode cX10_removePort 79 = .ok (.imul, 1) := by decide +kernel
theorem dX10_removePort_80 : decode cX10_removePort 80 = .ok (.iadd, 1) := by decide +kernel
theorem dX10_removePort_81 : decode cX10_removePort 81 = .ok (.if_icmp .ge 24, 3) := by decide +kernel
theorem dX10_removePort_84 : decode cX10_removePort 84 = .ok (.aload_n 0, 1) := by decide +kernel
theorem dX10_removePort_85 : decode cX10_removePort 85 = .ok (.getfield 7, 3) := by decide +kernel
theorem dX10_removePort_88 : decode cX10_removePort 88 = .ok (.iload_n 3, 1) := by decide +kernel
theorem dX10_removePort_89 : decode cX10_removePort 89 = .ok (.aload_n 0, 1) := by decide +kernel
theorem dX10_removePort_90 : decode cX10_removePort 90 = .ok (.getfield 7, 3) := by decide +kernel
theorem dX10_removePort_93 : decode cX10_removePort 93 = .ok (.iload_n 3, 1) := by decide +kernel
theorem dX10_removePort_94 : decode cX10_removePort 94 = .ok (.bipush 10, 2) := by decide +kernel
theorem dX10_removePort_96 : decode cX10_removePort 96 = .ok (.iadd, 1) := by decide +kernel
theorem dX10_removePort_97 : decode cX10_removePort 97 = .ok (.iaload, 1) := by decide +kernel
theorem dX10_removePort_98 : decode cX10_removePort 98 = .ok (.iastore, 1) := by decide +kernel
theorem dX10_removePort_99 : decode cX10_removePort 99 = .ok (.iinc 3 1, 3) := by decide +kernel
theorem dX10_removePort_102 : decode cX10_removePort 102 = .ok (.goto (-37), 3) := by decide +kernel
theorem dX10_removePort_105 : decode cX10_removePort 105 = .ok (.iload_n 2, 1) := by decide +kernel
theorem dX10_removePort_106 : decode cX10_removePort 106 = .ok (.ireturn, 1) := by decide +kernel
theorem dX10_setPrice_0 : decode cX10_setPrice 0 = .ok (.aload_n 0, 1) := by decide +kernel
theorem dX10_setPrice_1 : decode cX10_setPrice 1 = .ok (.aload_n 0, 1) := by decide +kernel
theorem dX10_setPrice_2 : decode cX10_setPrice 2 = .ok (.iload_n 1, 1) := by decide +kernel
theorem dX10_setPrice_3 : decode cX10_setPrice 3 = .ok (.invokevirtual 69, 3) := by decide +kernel
theorem dX10_setPrice_6 : decode cX10_setPrice 6 = .ok (.ifCond .eq 11, 3) := by decide +kernel
theorem dX10_setPrice_9 : decode cX10_setPrice 9 = .ok (.aload_n 0, 1) := by decide +kernel
theorem dX10_setPrice_10 : decode cX10_setPrice 10 = .ok (.iload_n 2, 1) := by decide +kernel
theorem dX10_setPrice_11 : decode cX10_setPrice 11 = .ok (.invokevirtual 72, 3) := by decide +kernel
theorem dX10_setPrice_14 : decode cX10_setPrice 14 = .ok (.ifCond .ne 7, 3) := by decide +kernel
theorem dX10_setPrice_17 : decode cX10_setPrice 17 = .ok (.iconst 1, 1) := by decide +kernel
theorem dX10_setPrice_18 : decode cX10_setPrice 18 = .ok (.goto 18, 3) := by decide +kernel
theorem dX10_setPrice_21 : decode cX10_setPrice 21 = .ok (.iload_n 3, 1) := by decide +kernel
theorem dX10_setPrice_22 : decode cX10_setPrice 22 = .ok (.iconst 0, 1) := by decide +kernel
theorem dX10_setPrice_23 : decode cX10_setPrice 23 = .ok (.bipush 100, 2) := by decide +kernel
theorem dX10_setPrice_25 : decode cX10_setPrice 25 = .ok (.invokestatic 35, 3) := by decide +kernel
theorem dX10_setPrice_28 : decode cX10_setPrice 28 = .ok (.ifCond .eq 7, 3) := by decide +kernel
theorem dX10_setPrice_31 : decode cX10_setPrice 31 = .ok (.iconst 0, 1) := by decide +kernel
theorem dX10_setPrice_32 : decode cX10_setPrice 32 = .ok (.goto 4, 3) := by decide +kernel
theorem dX10_setPrice_35 : decode cX10_setPrice 35 = .ok (.iconst 2, 1) := by decide +kernel
theorem dX10_setPrice_36 : decode cX10_setPrice 36 = .ok (.putfield 31, 3) := by decide +kernel
theorem dX10_setPrice_39 : decode cX10_setPrice 39 = .ok (.aload_n 0, 1) := by decide +kernel
theorem dX10_setPrice_40 : decode cX10_setPrice 40 = .ok (.getfield 31, 3) := by decide +kernel
theorem dX10_setPrice_43 : decode cX10_setPrice 43 = .ok (.ifCond .le 5, 3) := by decide +kernel
theorem dX10_setPrice_46 : decode cX10_setPrice 46 = .ok (.iconst 0, 1) := by decide +kernel
theorem dX10_setPrice_47 : decode cX10_setPrice 47 = .ok (.ireturn, 1) := by decide +kernel
theorem dX10_setPrice_48 : decode cX10_setPrice 48 = .ok (.aload_n 0, 1) := by decide +kernel
theorem dX10_setPrice_49 : decode cX10_setPrice 49 = .ok (.invokevirtual 50, 3) := by decide +kernel
theorem dX10_setPrice_52 : decode cX10_setPrice 52 = .ok (.sipush 324, 3) := by decide +kernel
theorem dX10_setPrice_55 : decode cX10_setPrice 55 = .ok (.bipush 10, 2) := by decide +kernel
theorem dX10_setPrice_57 : decode cX10_setPrice 57 = .ok (.iload_n 1, 1) := by decide +kernel
theorem dX10_setPrice_58 : decode cX10_setPrice 58 = .ok (.imul, 1) := by decide +kernel
theorem dX10_setPrice_59 : decode cX10_setPrice 59 = .ok (.iadd, 1) := by decide +kernel
theorem dX10_setPrice_60 : decode cX10_setPrice 60 = .ok (.iconst 2, 1) := by decide +kernel
theorem dX10_setPrice_61 : decode cX10_setPrice 61 = .ok (.iadd, 1) := by decide +kernel
theorem dX10_setPrice_62 : decode cX10_setPrice 62 = .ok (.iload_n 2, 1) := by decide +kernel
theorem dX10_setPrice_63 : decode cX10_setPrice 63 = .ok (.iadd, 1) := by decide +kernel
theorem dX10_setPrice_64 : decode cX10_setPrice 64 = .ok (.istore 4, 2) := by decide +kernel
theorem dX10_setPrice_66 : decode cX10_setPrice 66 = .ok (.aload_n 0, 1) := by decide +kernel
theorem dX10_setPrice_67 : decode cX10_setPrice 67 = .ok (.getfield 7, 3) := by decide +kernel
theorem dX10_setPrice_70 : decode cX10_setPrice 70 = .ok (.iload 4, 2) := by decide +kernel
theorem dX10_setPrice_72 : decode cX10_setPrice 72 = .ok (.iaload, 1) := by decide +kernel
theorem dX10_setPrice_73 : decode cX10_setPrice 73 = .ok (.istore 5, 2) := by decide +kernel
theorem dX10_setPrice_75 : decode cX10_setPrice 75 = .ok (.aload_n 0, 1) := by decide +kernel
theorem dX10_setPrice_76 : decode cX10_setPrice 76 = .ok (.getfield 7, 3) := by decide +kernel
theorem dX10_setPrice_79 : decode cX10_setPrice 79 = .ok (.iload 4, 2) := by decide +kernel
theorem dX10_setPrice_81 : decode cX10_setPrice 81 = .ok (.iload_n 3, 1) := by decide +kernel
theorem dX10_setPrice_82 : decode cX10_setPrice 82 = .ok (.iastore, 1) := by decide +kernel
theorem dX10_setPrice_83 : decode cX10_setPrice 83 = .ok (.iload 5, 2) := by decide +kernel
theorem dX10_setPrice_85 : decode cX10_setPrice 85 = .ok (.ireturn, 1) := by decide +kernel
theorem dX10_lifeIn_0 : decode cX10_lifeIn 0 = .ok (.aload_n 0, 1) := by decide +kernel
theorem dX10_lifeIn_1 : decode cX10_lifeIn 1 = .ok (.getfield 7, 3) := by decide +kernel
theorem dX10_lifeIn_4 : decode cX10_lifeIn 4 = .ok (.iconst 3, 1) := by decide +kernel
theorem dX10_lifeIn_5 : decode cX10_lifeIn 5 = .ok (.iload_n 1, 1) := by decide +kernel
theorem dX10_lifeIn_6 : decode cX10_lifeIn 6 = .ok (.imul, 1) := by decide +kernel
theorem dX10_lifeIn_7 : decode cX10_lifeIn 7 = .ok (.iload_n 3, 1) := by decide +kernel
theorem dX10_lifeIn_8 : decode cX10_lifeIn 8 = .ok (.ifCond .le 7, 3) := by decide +kernel
theorem dX10_lifeIn_11 : decode cX10_lifeIn 11 = .ok (.iconst 0, 1) := by decide +kernel
theorem dX10_lifeIn_12 : decode cX10_lifeIn 12 = .ok (.goto 4, 3) := by decide +kernel
theorem dX10_lifeIn_15 : decode cX10_lifeIn 15 = .ok (.iload_n 2, 1) := by decide +kernel
theorem dX10_lifeIn_16 : decode cX10_lifeIn 16 = .ok (.iadd, 1) := by decide +kernel
theorem dX10_lifeIn_17 : decode cX10_lifeIn 17 = .ok (.iaload, 1) := by decide +kernel
theorem dX10_lifeIn_18 : decode cX10_lifeIn 18 = .ok (.ireturn, 1) := by decide +kernel
theorem dX10_ages_0 : decode cX10_ages 0 = .ok (.aload_n 0, 1) := by decide +kernel
theorem dX10_ages_1 : decode cX10_ages 1 = .ok (.iload_n 1, 1) := by decide +kernel
theorem dX10_ages_2 : decode cX10_ages 2 = .ok (.iload_n 2, 1) := by decide +kernel
theorem dX10_ages_3 : decode cX10_ages 3 = .ok (.iload_n 3, 1) := by decide +kernel
theorem dX10_ages_4 : decode cX10_ages 4 = .ok (.invokevirtual 75, 3) := by decide +kernel
theorem dX10_ages_7 : decode cX10_ages 7 = .ok (.istore 4, 2) := by decide +kernel
theorem dX10_ages_9 : decode cX10_ages 9 = .ok (.sipush 1000, 3) := by decide +kernel
theorem dX10_ages_12 : decode cX10_ages 12 = .ok (.iload 4, 2) := by decide +kernel
theorem dX10_ages_14 : decode cX10_ages 14 = .ok (.ifCond .ne 7, 3) := by decide +kernel
theorem dX10_ages_17 : decode cX10_ages 17 = .ok (.iconst 1, 1) := by decide +kernel
theorem dX10_ages_18 : decode cX10_ages 18 = .ok (.goto 5, 3) := by decide +kernel
theorem dX10_ages_21 : decode cX10_ages 21 = .ok (.iload 4, 2) := by decide +kernel
theorem dX10_ages_23 : decode cX10_ages 23 = .ok (.idiv, 1) := by decide +kernel
theorem dX10_ages_24 : decode cX10_ages 24 = .ok (.ireturn, 1) := by decide +kernel
theorem dX10_daysLeft_0 : decode cX10_daysLeft 0 = .ok (.aload_n 0, 1) := by decide +kernel
theorem dX10_daysLeft_1 : decode cX10_daysLeft 1 = .ok (.iload_n 1, 1) := by decide +kernel
theorem dX10_daysLeft_2 : decode cX10_daysLeft 2 = .ok (.iconst 1, 1) := by decide +kernel
theorem dX10_daysLeft_3 : decode cX10_daysLeft 3 = .ok (.invokevirtual 53, 3) := by decide +kernel
theorem dX10_daysLeft_6 : decode cX10_daysLeft 6 = .ok (.istore_n 2, 1) := by decide +kernel
theorem dX10_daysLeft_7 : decode cX10_daysLeft 7 = .ok (.aload_n 0, 1) := by decide +kernel
theorem dX10_daysLeft_8 : decode cX10_daysLeft 8 = .ok (.getfield 7, 3) := by decide +kernel
theorem dX10_daysLeft_11 : decode cX10_daysLeft 11 = .ok (.bipush 67, 2) := by decide +kernel
theorem dX10_daysLeft_13 : decode cX10_daysLeft 13 = .ok (.iload_n 2, 1) := by decide +kernel
theorem dX10_daysLeft_14 : decode cX10_daysLeft 14 = .ok (.iadd, 1) := by decide +kernel
theorem dX10_daysLeft_15 : decode cX10_daysLeft 15 = .ok (.iaload, 1) := by decide +kernel
theorem dX10_daysLeft_16 : decode cX10_daysLeft 16 = .ok (.istore_n 3, 1) := by decide +kernel
theorem dX10_daysLeft_17 : decode cX10_daysLeft 17 = .ok (.aload_n 0, 1) := by decide +kernel
theorem dX10_daysLeft_18 : decode cX10_daysLeft 18 = .ok (.iload_n 1, 1) := by decide +kernel
theorem dX10_daysLeft_19 : decode cX10_daysLeft 19 = .ok (.iconst 3, 1) := by decide +kernel
theorem dX10_daysLeft_20 : decode cX10_daysLeft 20 = .ok (.invokevirtual 53, 3) := by decide +kernel
theorem dX10_daysLeft_23 : decode cX10_daysLeft 23 = .ok (.istore 4, 2) := by decide +kernel
theorem dX10_daysLeft_25 : decode cX10_daysLeft 25 = .ok (.iconst 0, 1) := by decide +kernel
theorem dX10_daysLeft_26 : decode cX10_daysLeft 26 = .ok (.istore 5, 2) := by decide +kernel
theorem dX10_daysLeft_28 : decode cX10_daysLeft 28 = .ok (.iload 4, 2) := by decide +kernel
theorem dX10_daysLeft_30 : decode cX10_daysLeft 30 = .ok (.sipush 1000, 3) := by decide +kernel
theorem dX10_daysLeft_33 : decode cX10_daysLeft 33 = .ok (.if_icmp .ge 38, 3) := by decide +kernel
theorem dX10_daysLeft_36 : decode cX10_daysLeft 36 = .ok (.iload 4, 2) := by decide +kernel
theorem dX10_daysLeft_38 : decode cX10_daysLeft 38 = .ok (.aload_n 0, 1) := by decide +kernel
theorem dX10_daysLeft_39 : decode cX10_daysLeft 39 = .ok (.aload_n 0, 1) := by decide +kernel
theorem dX10_daysLeft_40 : decode cX10_daysLeft 40 = .ok (.iload_n 1, 1) := by decide +kernel
theorem dX10_daysLeft_41 : decode cX10_daysLeft 41 = .ok (.iconst 0, 1) := by decide +kernel
theorem dX10_daysLeft_42 : decode cX10_daysLeft 42 = .ok (.invokevirtual 53, 3) := by decide +kernel
theorem dX10_daysLeft_45 : decode cX10_daysLeft 45 = .ok (.iload_n 2, 1) := by decide +kernel
theorem dX10_daysLeft_46 : decode cX10_daysLeft 46 = .ok (.iload_n 3, 1) := by decide +kernel
theorem dX10_daysLeft_47 : decode cX10_daysLeft 47 = .ok (.invokevirtual 79, 3) := by decide +kernel
theorem dX10_daysLeft_50 : decode cX10_daysLeft 50 = .ok (.iadd, 1) := by decide +kernel
theorem dX10_daysLeft_51 : decode cX10_daysLeft 51 = .ok (.istore 4, 2) := by decide +kernel
theorem dX10_daysLeft_53 : decode cX10_daysLeft 53 = .ok (.iload_n 3, 1) := by decide +kernel
theorem dX10_daysLeft_54 : decode cX10_daysLeft 54 = .ok (.iload_n 3, 1) := by decide +kernel
theorem dX10_daysLeft_55 : decode cX10_daysLeft 55 = .ok (.ifCond .le 7, 3) := by decide +kernel
theorem dX10_daysLeft_58 : decode cX10_daysLeft 58 = .ok (.iconst 1, 1) := by decide +kernel
theorem dX10_daysLeft_59 : decode cX10_daysLeft 59 = .ok (.goto 4, 3) := by decide +kernel
theorem dX10_daysLeft_62 : decode cX10_daysLeft 62 = .ok (.iconst 0, 1) := by decide +kernel
theorem dX10_daysLeft_63 : decode cX10_daysLeft 63 = .ok (.isub, 1) := by decide +kernel
theorem dX10_daysLeft_64 : decode cX10_daysLeft 64 = .ok (.istore_n 3, 1) := by decide +kernel
theorem dX10_daysLeft_65 : decode cX10_daysLeft 65 = .ok (.iinc 5 1, 3) := by decide +kernel
theorem dX10_daysLeft_68 : decode cX10_daysLeft 68 = .ok (.goto (-40), 3) := by decide +kernel
theorem dX10_daysLeft_71 : decode cX10_daysLeft 71 = .ok (.iload 5, 2) := by decide +kernel
theorem dX10_daysLeft_73 : decode cX10_daysLeft 73 = .ok (.ireturn, 1) := by decide +kernel
theorem dX10_putLot_0 : decode cX10_putLot 0 = .ok (.bipush 70, 2) := by decide +kernel
theorem dX10_putLot_2 : decode cX10_putLot 2 = .ok (.iconst 4, 1) := by decide +kernel
theorem dX10_putLot_3 : decode cX10_putLot 3 = .ok (.aload_n 0, 1) := by decide +kernel
theorem dX10_putLot_4 : decode cX10_putLot 4 = .ok (.getfield 7, 3) := by decide +kernel
theorem dX10_putLot_7 : decode cX10_putLot 7 = .ok (.sipush 406, 3) := by decide +kernel
theorem dX10_putLot_10 : decode cX10_putLot 10 = .ok (.iaload, 1) := by decide +kernel
theorem dX10_putLot_11 : decode cX10_putLot 11 = .ok (.imul, 1) := by decide +kernel
theorem dX10_putLot_12 : decode cX10_putLot 12 = .ok (.iadd, 1) := by decide +kernel
theorem dX10_putLot_13 : decode cX10_putLot 13 = .ok (.istore 5, 2) := by decide +kernel
theorem dX10_putLot_15 : decode cX10_putLot 15 = .ok (.aload_n 0, 1) := by decide +kernel
theorem dX10_putLot_16 : decode cX10_putLot 16 = .ok (.getfield 7, 3) := by decide +kernel
theorem dX10_putLot_19 : decode cX10_putLot 19 = .ok (.iload 5, 2) := by decide +kernel
theorem dX10_putLot_21 : decode cX10_putLot 21 = .ok (.iload_n 1, 1) := by decide +kernel
theorem dX10_putLot_22 : decode cX10_putLot 22 = .ok (.iastore, 1) := by decide +kernel
theorem dX10_putLot_23 : decode cX10_putLot 23 = .ok (.aload_n 0, 1) := by decide +kernel
theorem dX10_putLot_24 : decode cX10_putLot 24 = .ok (.getfield 7, 3) := by decide +kernel
theorem dX10_putLot_27 : decode cX10_putLot 27 = .ok (.iload 5, 2) := by decide +kernel
theorem dX10_putLot_29 : decode cX10_putLot 29 = .ok (.iconst 1, 1) := by decide +kernel
theorem dX10_putLot_30 : decode cX10_putLot 30 = .ok (.iadd, 1) := by decide +kernel
theorem dX10_putLot_31 : decode cX10_putLot 31 = .ok (.iload_n 2, 1) := by decide +kernel
theorem dX10_putLot_32 : decode cX10_putLot 32 = .ok (.iastore, 1) := by decide +kernel
theorem dX10_putLot_33 : decode cX10_putLot 33 = .ok (.aload_n 0, 1) := by decide +kernel
theorem dX10_putLot_34 : decode cX10_putLot 34 = .ok (.getfield 7, 3) := by decide +kernel
theorem dX10_putLot_37 : decode cX10_putLot 37 = .ok (.iload 5, 2) := by decide +kernel
theorem dX10_putLot_39 : decode cX10_putLot 39 = .ok (.iconst 2, 1) := by decide +kernel
theorem dX10_putLot_40 : decode cX10_putLot 40 = .ok (.iadd, 1) := by decide +kernel
theorem dX10_putLot_41 : decode cX10_putLot 41 = .ok (.iload_n 3, 1) := by decide +kernel
theorem dX10_putLot_42 : decode cX10_putLot 42 = .ok (.iastore, 1) := by decide +kernel
theorem dX10_putLot_43 : decode cX10_putLot 43 = .ok (.aload_n 0, 1) := by decide +kernel
theorem dX10_putLot_44 : decode cX10_putLot 44 = .ok (.getfield 7, 3) := by decide +kernel
theorem dX10_putLot_47 : decode cX10_putLot 47 = .ok (.iload 5, 2) := by decide +kernel
theorem dX10_putLot_49 : decode cX10_putLot 49 = .ok (.iconst 3, 1) := by decide +kernel
theorem dX10_putLot_50 : decode cX10_putLot 50 = .ok (.iadd, 1) := by decide +kernel
theorem dX10_putLot_51 : decode cX10_putLot 51 = .ok (.iload 4, 2) := by decide +kernel
theorem dX10_putLot_53 : decode cX10_putLot 53 = .ok (.iastore, 1) := by decide +kernel
theorem dX10_putLot_54 : decode cX10_putLot 54 = .ok (.aload_n 0, 1) := by decide +kernel
theorem dX10_putLot_55 : decode cX10_putLot 55 = .ok (.getfield 7, 3) := by decide +kernel
theorem dX10_putLot_58 : decode cX10_putLot 58 = .ok (.sipush 406, 3) := by decide +kernel
theorem dX10_putLot_61 : decode cX10_putLot 61 = .ok (.dup2, 1) := by decide +kernel
theorem dX10_putLot_62 : decode cX10_putLot 62 = .ok (.iaload, 1) := by decide +kernel
theorem dX10_putLot_63 : decode cX10_putLot 63 = .ok (.iconst 1, 1) := by decide +kernel
theorem dX10_putLot_64 : decode cX10_putLot 64 = .ok (.iadd, 1) := by decide +kernel
theorem dX10_putLot_65 : decode cX10_putLot 65 = .ok (.iastore, 1) := by decide +kernel
theorem dX10_putLot_66 : decode cX10_putLot 66 = .ok (.return_, 1) := by decide +kernel
theorem dX10_dropEmpty_0 : decode cX10_dropEmpty 0 = .ok (.iconst 0, 1) := by decide +kernel
theorem dX10_dropEmpty_1 : decode cX10_dropEmpty 1 = .ok (.istore_n 1, 1) := by decide +kernel
theorem dX10_dropEmpty_2 : decode cX10_dropEmpty 2 = .ok (.iconst 0, 1) := by decide +kernel
theorem dX10_dropEmpty_3 : decode cX10_dropEmpty 3 = .ok (.istore_n 2, 1) := by decide +kernel
theorem dX10_dropEmpty_4 : decode cX10_dropEmpty 4 = .ok (.iload_n 2, 1) := by decide +kernel
theorem dX10_dropEmpty_5 : decode cX10_dropEmpty 5 = .ok (.aload_n 0, 1) := by decide +kernel
theorem dX10_dropEmpty_6 : decode cX10_dropEmpty 6 = .ok (.getfield 7, 3) := by decide +kernel
theorem dX10_dropEmpty_9 : decode cX10_dropEmpty 9 = .ok (.sipush 406, 3) := by decide +kernel
theorem dX10_dropEmpty_12 : decode cX10_dropEmpty 12 = .ok (.iaload, 1) := by decide +kernel
theorem dX10_dropEmpty_13 : decode cX10_dropEmpty 13 = .ok (.if_icmp .ge 53, 3) := by decide +kernel
theorem dX10_dropEmpty_16 : decode cX10_dropEmpty 16 = .ok (.aload_n 0, 1) := by decide +kernel
theorem dX10_dropEmpty_17 : decode cX10_dropEmpty 17 = .ok (.iload_n 2, 1) := by decide +kernel
theorem dX10_dropEmpty_18 : decode cX10_dropEmpty 18 = .ok (.iconst 2, 1) := by decide +kernel
theorem dX10_dropEmpty_19 : decode cX10_dropEmpty 19 = .ok (.invokevirtual 53, 3) := by decide +kernel
theorem dX10_dropEmpty_22 : decode cX10_dropEmpty 22 = .ok (.ifCond .le 38, 3) := by decide +kernel
theorem dX10_dropEmpty_25 : decode cX10_dropEmpty 25 = .ok (.iconst 0, 1) := by decide +kernel
theorem dX10_dropEmpty_26 : decode cX10_dropEmpty 26 = .ok (.istore_n 3, 1) := by decide +kernel
theorem dX10_dropEmpty_27 : decode cX10_dropEmpty 27 = .ok (.iload_n 3, 1) := by decide +kernel
theorem dX10_dropEmpty_28 : decode cX10_dropEmpty 28 = .ok (.iconst 4, 1) := by decide +kernel
theorem dX10_dropEmpty_29 : decode cX10_dropEmpty 29 = .ok (.if_icmp .ge 28, 3) := by decide +kernel
theorem dX10_dropEmpty_32 : decode cX10_dropEmpty 32 = .ok (.aload_n 0, 1) := by decide +kernel
theorem dX10_dropEmpty_33 : decode cX10_dropEmpty 33 = .ok (.getfield 7, 3) := by decide +kernel
theorem dX10_dropEmpty_36 : decode cX10_dropEmpty 36 = .ok (.bipush 70, 2) := by decide +kernel
theorem dX10_dropEmpty_38 : decode cX10_dropEmpty 38 = .ok (.iconst 4, 1) := by decide +kernel
theorem dX10_dropEmpty_39 : decode cX10_dropEmpty 39 = .ok (.iload_n 1, 1) := by decide +kernel
theorem dX10_dropEmpty_40 : decode cX10_dropEmpty 40 = .ok (.imul, 1) := by decide +kernel
theorem dX10_dropEmpty_41 : decode cX10_dropEmpty 41 = .ok (.iadd, 1) := by decide +kernel
theorem dX10_dropEmpty_42 : decode cX10_dropEmpty 42 = .ok (.iload_n 3, 1) := by decide +kernel
theorem dX10_dropEmpty_43 : decode cX10_dropEmpty 43 = .ok (.iadd, 1) := by decide +kernel
theorem dX10_dropEmpty_44 : decode cX10_dropEmpty 44 = .ok (.aload_n 0, 1) := by decide +kernel
theorem dX10_dropEmpty_45 : decode cX10_dropEmpty 45 = .ok (.iload_n 2, 1) := by decide +kernel
theorem dX10_dropEmpty_46 : decode cX10_dropEmpty 46 = .ok (.iload_n 3, 1) := by decide +kernel
theorem dX10_dropEmpty_47 : decode cX10_dropEmpty 47 = .ok (.invokevirtual 53, 3) := by decide +kernel
theorem dX10_dropEmpty_50 : decode cX10_dropEmpty 50 = .ok (.iastore, 1) := by decide +kernel
theorem dX10_dropEmpty_51 : decode cX10_dropEmpty 51 = .ok (.iinc 3 1, 3) := by decide +kernel
theorem dX10_dropEmpty_54 : decode cX10_dropEmpty 54 = .ok (.goto (-27), 3) := by decide +kernel
theorem dX10_dropEmpty_57 : decode cX10_dropEmpty 57 = .ok (.iinc 1 1, 3) := by decide +kernel
theorem dX10_dropEmpty_60 : decode cX10_dropEmpty 60 = .ok (.iinc 2 1, 3) := by decide +kernel
theorem dX10_dropEmpty_63 : decode cX10_dropEmpty 63 = .ok (.goto (-59), 3) := by decide +kernel
theorem dX10_dropEmpty_66 : decode cX10_dropEmpty 66 = .ok (.aload_n 0, 1) := by decide +kernel
theorem dX10_dropEmpty_67 : decode cX10_dropEmpty 67 = .ok (.getfield 7, 3) := by decide +kernel
theorem dX10_dropEmpty_70 : decode cX10_dropEmpty 70 = .ok (.sipush 406, 3) := by decide +kernel
theorem dX10_dropEmpty_73 : decode cX10_dropEmpty 73 = .ok (.iload_n 1, 1) := by decide +kernel
theorem dX10_dropEmpty_74 : decode cX10_dropEmpty 74 = .ok (.iastore, 1) := by decide +kernel
theorem dX10_dropEmpty_75 : decode cX10_dropEmpty 75 = .ok (.return_, 1) := by decide +kernel
theorem dX10_refusal_0 : decode cX10_refusal 0 = .ok (.aload_n 0, 1) := by decide +kernel
theorem dX10_refusal_1 : decode cX10_refusal 1 = .ok (.aload_n 0, 1) := by decide +kernel
theorem dX10_refusal_2 : decode cX10_refusal 2 = .ok (.getfield 7, 3) := by decide +kernel
theorem dX10_refusal_5 : decode cX10_refusal 5 = .ok (.sipush 404, 3) := by decide +kernel
theorem dX10_refusal_8 : decode cX10_refusal 8 = .ok (.iaload, 1) := by decide +kernel
theorem dX10_refusal_9 : decode cX10_refusal 9 = .ok (.invokevirtual 66, 3) := by decide +kernel
theorem dX10_refusal_12 : decode cX10_refusal 12 = .ok (.istore 4, 2) := by decide +kernel
theorem dX10_refusal_14 : decode cX10_refusal 14 = .ok (.iload 4, 2) := by decide +kernel
theorem dX10_refusal_16 : decode cX10_refusal 16 = .ok (.iconst (-1), 1) := by decide +kernel
theorem dX10_refusal_17 : decode cX10_refusal 17 = .ok (.if_icmp .ne 5, 3) := by decide +kernel
theorem dX10_refusal_20 : decode cX10_refusal 20 = .ok (.iconst 1, 1) := by decide +kernel
theorem dX10_refusal_21 : decode cX10_refusal 21 = .ok (.ireturn, 1) := by decide +kernel
theorem dX10_refusal_22 : decode cX10_refusal 22 = .ok (.aload_n 0, 1) := by decide +kernel
theorem dX10_refusal_23 : decode cX10_refusal 23 = .ok (.getfield 7, 3) := by decide +kernel
theorem dX10_refusal_26 : decode cX10_refusal 26 = .ok (.sipush 324, 3) := by decide +kernel
theorem dX10_refusal_29 : decode cX10_refusal 29 = .ok (.bipush 10, 2) := by decide +kernel
theorem dX10_refusal_31 : decode cX10_refusal 31 = .ok (.iload 4, 2) := by decide +kernel
theorem dX10_refusal_33 : decode cX10_refusal 33 = .ok (.imul, 1) := by decide +kernel
theorem dX10_refusal_34 : decode cX10_refusal 34 = .ok (.iadd, 1) := by decide +kernel
theorem dX10_refusal_35 : decode cX10_refusal 35 = .ok (.iconst 2, 1) := by decide +kernel
theorem dX10_refusal_36 : decode cX10_refusal 36 = .ok (.iadd, 1) := by decide +kernel
theorem dX10_refusal_37 : decode cX10_refusal 37 = .ok (.iload_n 1, 1) := by decide +kernel
theorem dX10_refusal_38 : decode cX10_refusal 38 = .ok (.iadd, 1) := by decide +kernel
theorem dX10_refusal_39 : decode cX10_refusal 39 = .ok (.iaload, 1) := by decide +kernel
theorem dX10_refusal_40 : decode cX10_refusal 40 = .ok (.istore 5, 2) := by decide +kernel
theorem dX10_refusal_42 : decode cX10_refusal 42 = .ok (.iload 5, 2) := by decide +kernel
theorem dX10_refusal_44 : decode cX10_refusal 44 = .ok (.ifCond .ne 5, 3) := by decide +kernel
theorem dX10_refusal_47 : decode cX10_refusal 47 = .ok (.iconst 2, 1) := by decide +kernel
theorem dX10_refusal_48 : decode cX10_refusal 48 = .ok (.ireturn, 1) := by decide +kernel
theorem dX10_refusal_49 : decode cX10_refusal 49 = .ok (.aload_n 0, 1) := by decide +kernel
theorem dX10_refusal_50 : decode cX10_refusal 50 = .ok (.iload_n 1, 1) := by decide +kernel
theorem dX10_refusal_51 : decode cX10_refusal 51 = .ok (.iload_n 3, 1) := by decide +kernel
theorem dX10_refusal_52 : decode cX10_refusal 52 = .ok (.aload_n 0, 1) := by decide +kernel
theorem dX10_refusal_53 : decode cX10_refusal 53 = .ok (.getfield 7, 3) := by decide +kernel
theorem dX10_refusal_56 : decode cX10_refusal 56 = .ok (.bipush 67, 2) := by decide +kernel
theorem dX10_refusal_58 : decode cX10_refusal 58 = .ok (.iload_n 3, 1) := by decide +kernel
theorem dX10_refusal_59 : decode cX10_refusal 59 = .ok (.iadd, 1) := by decide +kernel
theorem dX10_refusal_60 : decode cX10_refusal 60 = .ok (.iaload, 1) := by decide +kernel
theorem dX10_refusal_61 : decode cX10_refusal 61 = .ok (.invokevirtual 75, 3) := by decide +kernel
theorem dX10_refusal_64 : decode cX10_refusal 64 = .ok (.ifCond .ne 5, 3) := by decide +kernel
theorem dX10_refusal_67 : decode cX10_refusal 67 = .ok (.iconst 3, 1) := by decide +kernel
theorem dX10_refusal_68 : decode cX10_refusal 68 = .ok (.ireturn, 1) := by decide +kernel
theorem dX10_refusal_69 : decode cX10_refusal 69 = .ok (.aload_n 0, 1) := by decide +kernel
theorem dX10_refusal_70 : decode cX10_refusal 70 = .ok (.iload_n 3, 1) := by decide +kernel
theorem dX10_refusal_71 : decode cX10_refusal 71 = .ok (.invokevirtual 60, 3) := by decide +kernel
theorem dX10_refusal_74 : decode cX10_refusal 74 = .ok (.iload_n 2, 1) := by decide +kernel
theorem dX10_refusal_75 : decode cX10_refusal 75 = .ok (.iadd, 1) := by decide +kernel
theorem dX10_refusal_76 : decode cX10_refusal 76 = .ok (.aload_n 0, 1) := by decide +kernel
theorem dX10_refusal_77 : decode cX10_refusal 77 = .ok (.getfield 7, 3) := by decide +kernel
theorem dX10_refusal_80 : decode cX10_refusal 80 = .ok (.bipush 64, 2) := by decide +kernel
theorem dX10_refusal_82 : decode cX10_refusal 82 = .ok (.iload_n 3, 1) := by decide +kernel
theorem dX10_refusal_83 : decode cX10_refusal 83 = .ok (.iadd, 1) := by decide +kernel
theorem dX10_refusal_84 : decode cX10_refusal 84 = .ok (.iaload, 1) := by decide +kernel
theorem dX10_refusal_85 : decode cX10_refusal 85 = .ok (.if_icmp .le 5, 3) := by decide +kernel
theorem dX10_refusal_88 : decode cX10_refusal 88 = .ok (.iconst 4, 1) := by decide +kernel
theorem dX10_refusal_89 : decode cX10_refusal 89 = .ok (.ireturn, 1) := by decide +kernel
theorem dX10_refusal_90 : decode cX10_refusal 90 = .ok (.iload 5, 2) := by decide +kernel
theorem dX10_refusal_92 : decode cX10_refusal 92 = .ok (.iload_n 2, 1) := by decide +kernel
theorem dX10_refusal_93 : decode cX10_refusal 93 = .ok (.imul, 1) := by decide +kernel
theorem dX10_refusal_94 : decode cX10_refusal 94 = .ok (.aload_n 0, 1) := by decide +kernel
theorem dX10_refusal_95 : decode cX10_refusal 95 = .ok (.getfield 7, 3) := by decide +kernel
theorem dX10_refusal_98 : decode cX10_refusal 98 = .ok (.sipush 410, 3) := by decide +kernel
theorem dX10_refusal_101 : decode cX10_refusal 101 = .ok (.iaload, 1) := by decide +kernel
theorem dX10_refusal_102 : decode cX10_refusal 102 = .ok (.if_icmp .le 7, 3) := by decide +kernel
theorem dX10_refusal_105 : decode cX10_refusal 105 = .ok (.iconst 5, 1) := by decide +kernel
theorem dX10_refusal_106 : decode cX10_refusal 106 = .ok (.goto 22, 3) := by decide +kernel
theorem dX10_refusal_109 : decode cX10_refusal 109 = .ok (.aload_n 0, 1) := by decide +kernel
theorem dX10_refusal_110 : decode cX10_refusal 110 = .ok (.getfield 7, 3) := by decide +kernel
theorem dX10_refusal_113 : decode cX10_refusal 113 = .ok (.sipush 406, 3) := by decide +kernel
theorem dX10_refusal_116 : decode cX10_refusal 116 = .ok (.iaload, 1) := by decide +kernel
theorem dX10_refusal_117 : decode cX10_refusal 117 = .ok (.bipush 30, 2) := by decide +kernel
theorem dX10_refusal_119 : decode cX10_refusal 119 = .ok (.if_icmp .ne 8, 3) := by decide +kernel
theorem dX10_refusal_122 : decode cX10_refusal 122 = .ok (.bipush 6, 2) := by decide +kernel
theorem dX10_refusal_124 : decode cX10_refusal 124 = .ok (.goto 4, 3) := by decide +kernel
theorem dX10_refusal_127 : decode cX10_refusal 127 = .ok (.iconst 0, 1) := by decide +kernel
theorem dX10_refusal_128 : decode cX10_refusal 128 = .ok (.ireturn, 1) := by decide +kernel
theorem dX10_isAmount_0 : decode cX10_isAmount 0 = .ok (.iload_n 0, 1) := by decide +kernel
theorem dX10_isAmount_1 : decode cX10_isAmount 1 = .ok (.iconst 1, 1) := by decide +kernel
theorem dX10_isAmount_2 : decode cX10_isAmount 2 = .ok (.sipush 2000, 3) := by decide +kernel
theorem dX10_isAmount_5 : decode cX10_isAmount 5 = .ok (.invokestatic 35, 3) := by decide +kernel
theorem dX10_isAmount_8 : decode cX10_isAmount 8 = .ok (.ireturn, 1) := by decide +kernel
theorem dX10_buy_0 : decode cX10_buy 0 = .ok (.aload_n 0, 1) := by decide +kernel
theorem dX10_buy_1 : decode cX10_buy 1 = .ok (.aload_n 0, 1) := by decide +kernel
theorem dX10_buy_2 : decode cX10_buy 2 = .ok (.iload_n 1, 1) := by decide +kernel
theorem dX10_buy_3 : decode cX10_buy 3 = .ok (.invokevirtual 72, 3) := by decide +kernel
theorem dX10_buy_6 : decode cX10_buy 6 = .ok (.ifCond .eq 10, 3) := by decide +kernel
theorem dX10_buy_9 : decode cX10_buy 9 = .ok (.iload_n 3, 1) := by decide +kernel
theorem dX10_buy_10 : decode cX10_buy 10 = .ok (.invokestatic 57, 3) := by decide +kernel
theorem dX10_buy_13 : decode cX10_buy 13 = .ok (.ifCond .ne 7, 3) := by decide +kernel
theorem dX10_buy_16 : decode cX10_buy 16 = .ok (.iconst 1, 1) := by decide +kernel
theorem dX10_buy_17 : decode cX10_buy 17 = .ok (.goto 29, 3) := by decide +kernel
theorem dX10_buy_20 : decode cX10_buy 20 = .ok (.iload_n 2, 1) := by decide +kernel
theorem dX10_buy_21 : decode cX10_buy 21 = .ok (.invokestatic 82, 3) := by decide +kernel
theorem dX10_buy_24 : decode cX10_buy 24 = .ok (.ifCond .ne 7, 3) := by decide +kernel
theorem dX10_buy_27 : decode cX10_buy 27 = .ok (.iconst 2, 1) := by decide +kernel
theorem dX10_buy_28 : decode cX10_buy 28 = .ok (.goto 18, 3) := by decide +kernel
theorem dX10_buy_31 : decode cX10_buy 31 = .ok (.aload_n 0, 1) := by decide +kernel
theorem dX10_buy_32 : decode cX10_buy 32 = .ok (.iload_n 1, 1) := by decide +kernel
theorem dX10_buy_33 : decode cX10_buy 33 = .ok (.iload_n 2, 1) := by decide +kernel
theorem dX10_buy_34 : decode cX10_buy 34 = .ok (.iload_n 3, 1) := by decide +kernel
theorem dX10_buy_35 : decode cX10_buy 35 = .ok (.invokevirtual 85, 3) := by decide +kernel
theorem dX10_buy_38 : decode cX10_buy 38 = .ok (.ifCond .le 7, 3) := by decide +kernel
theorem dX10_buy_41 : decode cX10_buy 41 = .ok (.iconst 3, 1) := by decide +kernel
theorem dX10_buy_42 : decode cX10_buy 42 = .ok (.goto 4, 3) := by decide +kernel
theorem dX10_buy_45 : decode cX10_buy 45 = .ok (.iconst 0, 1) := by decide +kernel
theorem dX10_buy_46 : decode cX10_buy 46 = .ok (.putfield 31, 3) := by decide +kernel
theorem dX10_buy_49 : decode cX10_buy 49 = .ok (.aload_n 0, 1) := by decide +kernel
theorem dX10_buy_50 : decode cX10_buy 50 = .ok (.getfield 31, 3) := by decide +kernel
theorem dX10_buy_53 : decode cX10_buy 53 = .ok (.ifCond .le 5, 3) := by decide +kernel
theorem dX10_buy_56 : decode cX10_buy 56 = .ok (.iconst 0, 1) := by decide +kernel
theorem dX10_buy_57 : decode cX10_buy 57 = .ok (.ireturn, 1) := by decide +kernel
theorem dX10_buy_58 : decode cX10_buy 58 = .ok (.aload_n 0, 1) := by decide +kernel
theorem dX10_buy_59 : decode cX10_buy 59 = .ok (.invokevirtual 50, 3) := by decide +kernel
theorem dX10_buy_62 : decode cX10_buy 62 = .ok (.aload_n 0, 1) := by decide +kernel
theorem dX10_buy_63 : decode cX10_buy 63 = .ok (.aload_n 0, 1) := by decide +kernel
theorem dX10_buy_64 : decode cX10_buy 64 = .ok (.getfield 7, 3) := by decide +kernel
theorem dX10_buy_67 : decode cX10_buy 67 = .ok (.sipush 404, 3) := by decide +kernel
theorem dX10_buy_70 : decode cX10_buy 70 = .ok (.iaload, 1) := by decide +kernel
theorem dX10_buy_71 : decode cX10_buy 71 = .ok (.invokevirtual 66, 3) := by decide +kernel
theorem dX10_buy_74 : decode cX10_buy 74 = .ok (.istore 4, 2) := by decide +kernel
theorem dX10_buy_76 : decode cX10_buy 76 = .ok (.iload_n 2, 1) := by decide +kernel
theorem dX10_buy_77 : decode cX10_buy 77 = .ok (.aload_n 0, 1) := by decide +kernel
theorem dX10_buy_78 : decode cX10_buy 78 = .ok (.getfield 7, 3) := by decide +kernel
theorem dX10_buy_81 : decode cX10_buy 81 = .ok (.sipush 324, 3) := by decide +kernel
theorem dX10_buy_84 : decode cX10_buy 84 = .ok (.bipush 10, 2) := by decide +kernel
theorem dX10_buy_86 : decode cX10_buy 86 = .ok (.iload 4, 2) := by decide +kernel
theorem dX10_buy_88 : decode cX10_buy 88 = .ok (.imul, 1) := by decide +kernel
theorem dX10_buy_89 : decode cX10_buy 89 = .ok (.iadd, 1) := by decide +kernel
theorem dX10_buy_90 : decode cX10_buy 90 = .ok (.iconst 2, 1) := by decide +kernel
theorem dX10_buy_91 : decode cX10_buy 91 = .ok (.iadd, 1) := by decide +kernel
theorem dX10_buy_92 : decode cX10_buy 92 = .ok (.iload_n 1, 1) := by decide +kernel
theorem dX10_buy_93 : decode cX10_buy 93 = .ok (.iadd, 1) := by decide +kernel
theorem dX10_buy_94 : decode cX10_buy 94 = .ok (.iaload, 1) := by decide +kernel
theorem dX10_buy_95 : decode cX10_buy 95 = .ok (.imul, 1) := by decide +kernel
theorem dX10_buy_96 : decode cX10_buy 96 = .ok (.istore 5, 2) := by decide +kernel
theorem dX10_buy_98 : decode cX10_buy 98 = .ok (.aload_n 0, 1) := by decide +kernel
theorem dX10_buy_99 : decode cX10_buy 99 = .ok (.getfield 7, 3) := by decide +kernel
theorem dX10_buy_102 : decode cX10_buy 102 = .ok (.sipush 410, 3) := by decide +kernel
theorem dX10_buy_105 : decode cX10_buy 105 = .ok (.dup2, 1) := by decide +kernel
theorem dX10_buy_106 : decode cX10_buy 106 = .ok (.iaload, 1) := by decide +kernel
theorem dX10_buy_107 : decode cX10_buy 107 = .ok (.iload 5, 2) := by decide +kernel
theorem dX10_buy_109 : decode cX10_buy 109 = .ok (.isub, 1) := by decide +kernel
theorem dX10_buy_110 : decode cX10_buy 110 = .ok (.iastore, 1) := by decide +kernel
theorem dX10_buy_111 : decode cX10_buy 111 = .ok (.aload_n 0, 1) := by decide +kernel
theorem dX10_buy_112 : decode cX10_buy 112 = .ok (.getfield 7, 3) := by decide +kernel
theorem dX10_buy_115 : decode cX10_buy 115 = .ok (.sipush 411, 3) := by decide +kernel
theorem dX10_buy_118 : decode cX10_buy 118 = .ok (.dup2, 1) := by decide +kernel
theorem dX10_buy_119 : decode cX10_buy 119 = .ok (.iaload, 1) := by decide +kernel
theorem dX10_buy_120 : decode cX10_buy 120 = .ok (.iload 5, 2) := by decide +kernel
theorem dX10_buy_122 : decode cX10_buy 122 = .ok (.iadd, 1) := by decide +kernel
theorem dX10_buy_123 : decode cX10_buy 123 = .ok (.iastore, 1) := by decide +kernel
theorem dX10_buy_124 : decode cX10_buy 124 = .ok (.aload_n 0, 1) := by decide +kernel
theorem dX10_buy_125 : decode cX10_buy 125 = .ok (.iload_n 1, 1) := by decide +kernel
theorem dX10_buy_126 : decode cX10_buy 126 = .ok (.iconst 0, 1) := by decide +kernel
theorem dX10_buy_127 : decode cX10_buy 127 = .ok (.iload_n 2, 1) := by decide +kernel
theorem dX10_buy_128 : decode cX10_buy 128 = .ok (.invokevirtual 88, 3) := by decide +kernel
theorem dX10_buy_131 : decode cX10_buy 131 = .ok (.aload_n 0, 1) := by decide +kernel
theorem dX10_buy_132 : decode cX10_buy 132 = .ok (.iload_n 1, 1) := by decide +kernel
theorem dX10_buy_133 : decode cX10_buy 133 = .ok (.iload_n 3, 1) := by decide +kernel
theorem dX10_buy_134 : decode cX10_buy 134 = .ok (.iload_n 2, 1) := by decide +kernel
theorem dX10_buy_135 : decode cX10_buy 135 = .ok (.aload_n 0, 1) := by decide +kernel
theorem dX10_buy_136 : decode cX10_buy 136 = .ok (.getfield 7, 3) := by decide +kernel
theorem dX10_buy_139 : decode cX10_buy 139 = .ok (.sipush 324, 3) := by decide +kernel
theorem dX10_buy_142 : decode cX10_buy 142 = .ok (.bipush 10, 2) := by decide +kernel
theorem dX10_buy_144 : decode cX10_buy 144 = .ok (.iload 4, 2) := by decide +kernel
theorem dX10_buy_146 : decode cX10_buy 146 = .ok (.imul, 1) := by decide +kernel
theorem dX10_buy_147 : decode cX10_buy 147 = .ok (.iadd, 1) := by decide +kernel
theorem dX10_buy_148 : decode cX10_buy 148 = .ok (.iconst 1, 1) := by decide +kernel
theorem dX10_buy_149 : decode cX10_buy 149 = .ok (.iadd, 1) := by decide +kernel
theorem dX10_buy_150 : decode cX10_buy 150 = .ok (.iaload, 1) := by decide +kernel
theorem dX10_buy_151 : decode cX10_buy 151 = .ok (.invokevirtual 92, 3) := by decide +kernel
theorem dX10_buy_154 : decode cX10_buy 154 = .ok (.aload_n 0, 1) := by decide +kernel
theorem dX10_buy_155 : decode cX10_buy 155 = .ok (.getfield 7, 3) := by decide +kernel
theorem dX10_buy_158 : decode cX10_buy 158 = .ok (.sipush 406, 3) := by decide +kernel
theorem dX10_buy_161 : decode cX10_buy 161 = .ok (.iaload, 1) := by decide +kernel
theorem dX10_buy_162 : decode cX10_buy 162 = .ok (.iconst 1, 1) := by decide +kernel
theorem dX10_buy_163 : decode cX10_buy 163 = .ok (.isub, 1) := by decide +kernel
theorem dX10_buy_164 : decode cX10_buy 164 = .ok (.ireturn, 1) := by decide +kernel
theorem dX10_move_0 : decode cX10_move 0 = .ok (.aload_n 0, 1) := by decide +kernel
theorem dX10_move_1 : decode cX10_move 1 = .ok (.iload_n 1, 1) := by decide +kernel
theorem dX10_move_2 : decode cX10_move 2 = .ok (.invokevirtual 96, 3) := by decide +kernel
theorem dX10_move_5 : decode cX10_move 5 = .ok (.ifCond .eq 10, 3) := by decide +kernel
theorem dX10_move_8 : decode cX10_move 8 = .ok (.iload_n 3, 1) := by decide +kernel
theorem dX10_move_9 : decode cX10_move 9 = .ok (.invokestatic 57, 3) := by decide +kernel
theorem dX10_move_12 : decode cX10_move 12 = .ok (.ifCond .ne 10, 3) := by decide +kernel
theorem dX10_move_15 : decode cX10_move 15 = .ok (.aload_n 0, 1) := by decide +kernel
theorem dX10_move_16 : decode cX10_move 16 = .ok (.iconst 1, 1) := by decide +kernel
theorem dX10_move_17 : decode cX10_move 17 = .ok (.putfield 31, 3) := by decide +kernel
theorem dX10_move_20 : decode cX10_move 20 = .ok (.iconst 0, 1) := by decide +kernel
theorem dX10_move_21 : decode cX10_move 21 = .ok (.ireturn, 1) := by decide +kernel
theorem dX10_move_22 : decode cX10_move 22 = .ok (.iload_n 2, 1) := by decide +kernel
theorem dX10_move_23 : decode cX10_move 23 = .ok (.iconst 1, 1) := by decide +kernel
theorem dX10_move_24 : decode cX10_move 24 = .ok (.aload_n 0, 1) := by decide +kernel
theorem dX10_move_25 : decode cX10_move 25 = .ok (.iload_n 1, 1) := by decide +kernel
theorem dX10_move_26 : decode cX10_move 26 = .ok (.iconst 2, 1) := by decide +kernel
theorem dX10_move_27 : decode cX10_move 27 = .ok (.invokevirtual 53, 3) := by decide +kernel
theorem dX10_move_30 : decode cX10_move 30 = .ok (.invokestatic 35, 3) := by decide +kernel
theorem dX10_move_33 : decode cX10_move 33 = .ok (.ifCond .eq 13, 3) := by decide +kernel
theorem dX10_move_36 : decode cX10_move 36 = .ok (.aload_n 0, 1) := by decide +kernel
theorem dX10_move_37 : decode cX10_move 37 = .ok (.iload_n 1, 1) := by decide +kernel
theorem dX10_move_38 : decode cX10_move 38 = .ok (.iconst 1, 1) := by decide +kernel
theorem dX10_move_39 : decode cX10_move 39 = .ok (.invokevirtual 53, 3) := by decide +kernel
theorem dX10_move_42 : decode cX10_move 42 = .ok (.iload_n 3, 1) := by decide +kernel
theorem dX10_move_43 : decode cX10_move 43 = .ok (.if_icmp .ne 10, 3) := by decide +kernel
theorem dX10_move_46 : decode cX10_move 46 = .ok (.aload_n 0, 1) := by decide +kernel
theorem dX10_move_47 : decode cX10_move 47 = .ok (.iconst 2, 1) := by decide +kernel
theorem dX10_move_48 : decode cX10_move 48 = .ok (.putfield 31, 3) := by decide +kernel
theorem dX10_move_51 : decode cX10_move 51 = .ok (.iconst 0, 1) := by decide +kernel
theorem dX10_move_52 : decode cX10_move 52 = .ok (.ireturn, 1) := by decide +kernel
theorem dX10_move_53 : decode cX10_move 53 = .ok (.iload_n 2, 1) := by decide +kernel
theorem dX10_move_54 : decode cX10_move 54 = .ok (.aload_n 0, 1) := by decide +kernel
theorem dX10_move_55 : decode cX10_move 55 = .ok (.iload_n 1, 1) := by decide +kernel
theorem dX10_move_56 : decode cX10_move 56 = .ok (.iconst 2, 1) := by decide +kernel
theorem dX10_move_57 : decode cX10_move 57 = .ok (.invokevirtual 53, 3) := by decide +kernel
theorem dX10_move_60 : decode cX10_move 60 = .ok (.if_icmp .ne 7, 3) := by decide +kernel
theorem dX10_move_63 : decode cX10_move 63 = .ok (.iconst 1, 1) := by decide +kernel
theorem dX10_move_64 : decode cX10_move 64 = .ok (.goto 4, 3) := by decide +kernel
theorem dX10_move_67 : decode cX10_move 67 = .ok (.iconst 0, 1) := by decide +kernel
theorem dX10_move_68 : decode cX10_move 68 = .ok (.istore 4, 2) := by decide +kernel
theorem dX10_move_70 : decode cX10_move 70 = .ok (.aload_n 0, 1) := by decide +kernel
theorem dX10_move_71 : decode cX10_move 71 = .ok (.aload_n 0, 1) := by decide +kernel
theorem dX10_move_72 : decode cX10_move 72 = .ok (.iload_n 3, 1) := by decide +kernel
theorem dX10_move_73 : decode cX10_move 73 = .ok (.invokevirtual 60, 3) := by decide +kernel
theorem dX10_move_76 : decode cX10_move 76 = .ok (.iload_n 2, 1) := by decide +kernel
theorem dX10_move_77 : decode cX10_move 77 = .ok (.iadd, 1) := by decide +kernel
theorem dX10_move_78 : decode cX10_move 78 = .ok (.aload_n 0, 1) := by decide +kernel
theorem dX10_move_79 : decode cX10_move 79 = .ok (.getfield 7, 3) := by decide +kernel
theorem dX10_move_82 : decode cX10_move 82 = .ok (.bipush 64, 2) := by decide +kernel
theorem dX10_move_84 : decode cX10_move 84 = .ok (.iload_n 3, 1) := by decide +kernel
theorem dX10_move_85 : decode cX10_move 85 = .ok (.iadd, 1) := by decide +kernel
theorem dX10_move_86 : decode cX10_move 86 = .ok (.iaload, 1) := by decide +kernel
theorem dX10_move_87 : decode cX10_move 87 = .ok (.if_icmp .gt 21, 3) := by decide +kernel
theorem dX10_move_90 : decode cX10_move 90 = .ok (.iload 4, 2) := by decide +kernel
theorem dX10_move_92 : decode cX10_move 92 = .ok (.ifCond .ne 20, 3) := by decide +kernel
theorem dX10_move_95 : decode cX10_move 95 = .ok (.aload_n 0, 1) := by decide +kernel
theorem dX10_move_96 : decode cX10_move 96 = .ok (.getfield 7, 3) := by decide +kernel
theorem dX10_move_99 : decode cX10_move 99 = .ok (.sipush 406, 3) := by decide +kernel
theorem dX10_move_102 : decode cX10_move 102 = .ok (.iaload, 1) := by decide +kernel
theorem dX10_move_103 : decode cX10_move 103 = .ok (.bipush 30, 2) := by decide +kernel
theorem dX10_move_105 : decode cX10_move 105 = .ok (.if_icmp .ne 7, 3) := by decide +kernel
theorem dX10_move_108 : decode cX10_move 108 = .ok (.iconst 3, 1) := by decide +kernel
theorem dX10_move_109 : decode cX10_move 109 = .ok (.goto 4, 3) := by decide +kernel
theorem dX10_move_112 : decode cX10_move 112 = .ok (.iconst 0, 1) := by decide +kernel
theorem dX10_move_113 : decode cX10_move 113 = .ok (.putfield 31, 3) := by decide +kernel
theorem dX10_move_116 : decode cX10_move 116 = .ok (.aload_n 0, 1) := by decide +kernel
theorem dX10_move_117 : decode cX10_move 117 = .ok (.getfield 31, 3) := by decide +kernel
theorem dX10_move_120 : decode cX10_move 120 = .ok (.ifCond .le 5, 3) := by decide +kernel
theorem dX10_move_123 : decode cX10_move 123 = .ok (.iconst 0, 1) := by decide +kernel
theorem dX10_move_124 : decode cX10_move 124 = .ok (.ireturn, 1) := by decide +kernel
theorem dX10_move_125 : decode cX10_move 125 = .ok (.aload_n 0, 1) := by decide +kernel
theorem dX10_move_126 : decode cX10_move 126 = .ok (.invokevirtual 50, 3) := by decide +kernel
theorem dX10_move_129 : decode cX10_move 129 = .ok (.iload 4, 2) := by decide +kernel
theorem dX10_move_131 : decode cX10_move 131 = .ok (.ifCond .eq 19, 3) := by decide +kernel
theorem dX10_move_134 : decode cX10_move 134 = .ok (.aload_n 0, 1) := by decide +kernel
theorem dX10_move_135 : decode cX10_move 135 = .ok (.getfield 7, 3) := by decide +kernel
theorem dX10_move_138 : decode cX10_move 138 = .ok (.bipush 70, 2) := by decide +kernel
theorem dX10_move_140 : decode cX10_move 140 = .ok (.iconst 4, 1) := by decide +kernel
theorem dX10_move_141 : decode cX10_move 141 = .ok (.iload_n 1, 1) := by decide +kernel
theorem dX10_move_142 : decode cX10_move 142 = .ok (.imul, 1) := by decide +kernel
theorem dX10_move_143 : decode cX10_move 143 = .ok (.iadd, 1) := by decide +kernel
theorem dX10_move_144 : decode cX10_move 144 = .ok (.iconst 1, 1) := by decide +kernel
theorem dX10_move_145 : decode cX10_move 145 = .ok (.iadd, 1) := by decide +kernel
theorem dX10_move_146 : decode cX10_move 146 = .ok (.iload_n 3, 1) := by decide +kernel
theorem dX10_move_147 : decode cX10_move 147 = .ok (.iastore, 1) := by decide +kernel
theorem dX10_move_148 : decode cX10_move 148 = .ok (.iload_n 1, 1) := by decide +kernel
theorem dX10_move_149 : decode cX10_move 149 = .ok (.ireturn, 1) := by decide +kernel
theorem dX10_move_150 : decode cX10_move 150 = .ok (.aload_n 0, 1) := by decide +kernel
theorem dX10_move_151 : decode cX10_move 151 = .ok (.getfield 7, 3) := by decide +kernel
theorem dX10_move_154 : decode cX10_move 154 = .ok (.bipush 70, 2) := by decide +kernel
theorem dX10_move_156 : decode cX10_move 156 = .ok (.iconst 4, 1) := by decide +kernel
theorem dX10_move_157 : decode cX10_move 157 = .ok (.iload_n 1, 1) := by decide +kernel
theorem dX10_move_158 : decode cX10_move 158 = .ok (.imul, 1) := by decide +kernel
theorem dX10_move_159 : decode cX10_move 159 = .ok (.iadd, 1) := by decide +kernel
theorem dX10_move_160 : decode cX10_move 160 = .ok (.iconst 2, 1) := by decide +kernel
theorem dX10_move_161 : decode cX10_move 161 = .ok (.iadd, 1) := by decide +kernel
theorem dX10_move_162 : decode cX10_move 162 = .ok (.dup2, 1) := by decide +kernel
theorem dX10_move_163 : decode cX10_move 163 = .ok (.iaload, 1) := by decide +kernel
theorem dX10_move_164 : decode cX10_move 164 = .ok (.iload_n 2, 1) := by decide +kernel
theorem dX10_move_165 : decode cX10_move 165 = .ok (.isub, 1) := by decide +kernel
theorem dX10_move_166 : decode cX10_move 166 = .ok (.iastore, 1) := by decide +kernel
theorem dX10_move_167 : decode cX10_move 167 = .ok (.aload_n 0, 1) := by decide +kernel
theorem dX10_move_168 : decode cX10_move 168 = .ok (.aload_n 0, 1) := by decide +kernel
theorem dX10_move_169 : decode cX10_move 169 = .ok (.iload_n 1, 1) := by decide +kernel
theorem dX10_move_170 : decode cX10_move 170 = .ok (.iconst 0, 1) := by decide +kernel
theorem dX10_move_171 : decode cX10_move 171 = .ok (.invokevirtual 53, 3) := by decide +kernel
theorem dX10_move_174 : decode cX10_move 174 = .ok (.iload_n 3, 1) := by decide +kernel
theorem dX10_move_175 : decode cX10_move 175 = .ok (.iload_n 2, 1) := by decide +kernel
theorem dX10_move_176 : decode cX10_move 176 = .ok (.aload_n 0, 1) := by decide +kernel
theorem dX10_move_177 : decode cX10_move 177 = .ok (.iload_n 1, 1) := by decide +kernel
theorem dX10_move_178 : decode cX10_move 178 = .ok (.iconst 3, 1) := by decide +kernel
theorem dX10_move_179 : decode cX10_move 179 = .ok (.invokevirtual 53, 3) := by decide +kernel
theorem dX10_move_182 : decode cX10_move 182 = .ok (.invokevirtual 92, 3) := by decide +kernel
theorem dX10_move_185 : decode cX10_move 185 = .ok (.aload_n 0, 1) := by decide +kernel
theorem dX10_move_186 : decode cX10_move 186 = .ok (.getfield 7, 3) := by decide +kernel
theorem dX10_move_189 : decode cX10_move 189 = .ok (.sipush 406, 3) := by decide +kernel
theorem dX10_move_192 : decode cX10_move 192 = .ok (.iaload, 1) := by decide +kernel
theorem dX10_move_193 : decode cX10_move 193 = .ok (.iconst 1, 1) := by decide +kernel
theorem dX10_move_194 : decode cX10_move 194 = .ok (.isub, 1) := by decide +kernel
theorem dX10_move_195 : decode cX10_move 195 = .ok (.ireturn, 1) := by decide +kernel
theorem dX10_rations_0 : decode cX10_rations 0 = .ok (.aload_n 0, 1) := by decide +kernel
theorem dX10_rations_1 : decode cX10_rations 1 = .ok (.iconst 0, 1) := by decide +kernel
theorem dX10_rations_2 : decode cX10_rations 2 = .ok (.invokevirtual 60, 3) := by decide +kernel
theorem dX10_rations_5 : decode cX10_rations 5 = .ok (.aload_n 0, 1) := by decide +kernel
theorem dX10_rations_6 : decode cX10_rations 6 = .ok (.iconst 1, 1) := by decide +kernel
theorem dX10_rations_7 : decode cX10_rations 7 = .ok (.invokevirtual 60, 3) := by decide +kernel
theorem dX10_rations_10 : decode cX10_rations 10 = .ok (.iadd, 1) := by decide +kernel
theorem dX10_rations_11 : decode cX10_rations 11 = .ok (.aload_n 0, 1) := by decide +kernel
theorem dX10_rations_12 : decode cX10_rations 12 = .ok (.iconst 2, 1) := by decide +kernel
theorem dX10_rations_13 : decode cX10_rations 13 = .ok (.invokevirtual 60, 3) := by decide +kernel
theorem dX10_rations_16 : decode cX10_rations 16 = .ok (.iadd, 1) := by decide +kernel
theorem dX10_rations_17 : decode cX10_rations 17 = .ok (.ireturn, 1) := by decide +kernel
theorem dX10_discard_0 : decode cX10_discard 0 = .ok (.aload_n 0, 1) := by decide +kernel
theorem dX10_discard_1 : decode cX10_discard 1 = .ok (.aload_n 0, 1) := by decide +kernel
theorem dX10_discard_2 : decode cX10_discard 2 = .ok (.iload_n 1, 1) := by decide +kernel
theorem dX10_discard_3 : decode cX10_discard 3 = .ok (.invokevirtual 96, 3) := by decide +kernel
theorem dX10_discard_6 : decode cX10_discard 6 = .ok (.ifCond .ne 7, 3) := by decide +kernel
theorem dX10_discard_9 : decode cX10_discard 9 = .ok (.iconst 1, 1) := by decide +kernel
theorem dX10_discard_10 : decode cX10_discard 10 = .ok (.goto 22, 3) := by decide +kernel
theorem dX10_discard_13 : decode cX10_discard 13 = .ok (.iload_n 2, 1) := by decide +kernel
theorem dX10_discard_14 : decode cX10_discard 14 = .ok (.iconst 1, 1) := by decide +kernel
theorem dX10_discard_15 : decode cX10_discard 15 = .ok (.aload_n 0, 1) := by decide +kernel
theorem dX10_discard_16 : decode cX10_discard 16 = .ok (.iload_n 1, 1) := by decide +kernel
theorem dX10_discard_17 : decode cX10_discard 17 = .ok (.iconst 2, 1) := by decide +kernel
theorem dX10_discard_18 : decode cX10_discard 18 = .ok (.invokevirtual 53, 3) := by decide +kernel
theorem dX10_discard_21 : decode cX10_discard 21 = .ok (.invokestatic 35, 3) := by decide +kernel
theorem dX10_discard_24 : decode cX10_discard 24 = .ok (.ifCond .eq 7, 3) := by decide +kernel
theorem dX10_discard_27 : decode cX10_discard 27 = .ok (.iconst 0, 1) := by decide +kernel
theorem dX10_discard_28 : decode cX10_discard 28 = .ok (.goto 4, 3) := by decide +kernel
theorem dX10_discard_31 : decode cX10_discard 31 = .ok (.iconst 2, 1) := by decide +kernel
theorem dX10_discard_32 : decode cX10_discard 32 = .ok (.putfield 31, 3) := by decide +kernel
theorem dX10_discard_35 : decode cX10_discard 35 = .ok (.aload_n 0, 1) := by decide +kernel
theorem dX10_discard_36 : decode cX10_discard 36 = .ok (.getfield 31, 3) := by decide +kernel
theorem dX10_discard_39 : decode cX10_discard 39 = .ok (.ifCond .le 5, 3) := by decide +kernel
theorem dX10_discard_42 : decode cX10_discard 42 = .ok (.iconst 0, 1) := by decide +kernel
theorem dX10_discard_43 : decode cX10_discard 43 = .ok (.ireturn, 1) := by decide +kernel
theorem dX10_discard_44 : decode cX10_discard 44 = .ok (.aload_n 0, 1) := by decide +kernel
theorem dX10_discard_45 : decode cX10_discard 45 = .ok (.invokevirtual 50, 3) := by decide +kernel
theorem dX10_discard_48 : decode cX10_discard 48 = .ok (.aload_n 0, 1) := by decide +kernel
theorem dX10_discard_49 : decode cX10_discard 49 = .ok (.aload_n 0, 1) := by decide +kernel
theorem dX10_discard_50 : decode cX10_discard 50 = .ok (.iload_n 1, 1) := by decide +kernel
theorem dX10_discard_51 : decode cX10_discard 51 = .ok (.iconst 0, 1) := by decide +kernel
theorem dX10_discard_52 : decode cX10_discard 52 = .ok (.invokevirtual 53, 3) := by decide +kernel
theorem dX10_discard_55 : decode cX10_discard 55 = .ok (.iconst 3, 1) := by decide +kernel
theorem dX10_discard_56 : decode cX10_discard 56 = .ok (.iload_n 2, 1) := by decide +kernel
theorem dX10_discard_57 : decode cX10_discard 57 = .ok (.invokevirtual 88, 3) := by decide +kernel
theorem dX10_discard_60 : decode cX10_discard 60 = .ok (.aload_n 0, 1) := by decide +kernel
theorem dX10_discard_61 : decode cX10_discard 61 = .ok (.getfield 7, 3) := by decide +kernel
theorem dX10_discard_64 : decode cX10_discard 64 = .ok (.bipush 70, 2) := by decide +kernel
theorem dX10_discard_66 : decode cX10_discard 66 = .ok (.iconst 4, 1) := by decide +kernel
theorem dX10_discard_67 : decode cX10_discard 67 = .ok (.iload_n 1, 1) := by decide +kernel
theorem dX10_discard_68 : decode cX10_discard 68 = .ok (.imul, 1) := by decide +kernel
theorem dX10_discard_69 : decode cX10_discard 69 = .ok (.iadd, 1) := by decide +kernel
theorem dX10_discard_70 : decode cX10_discard 70 = .ok (.iconst 2, 1) := by decide +kernel
theorem dX10_discard_71 : decode cX10_discard 71 = .ok (.iadd, 1) := by decide +kernel
theorem dX10_discard_72 : decode cX10_discard 72 = .ok (.dup2, 1) := by decide +kernel
theorem dX10_discard_73 : decode cX10_discard 73 = .ok (.iaload, 1) := by decide +kernel
theorem dX10_discard_74 : decode cX10_discard 74 = .ok (.iload_n 2, 1) := by decide +kernel
theorem dX10_discard_75 : decode cX10_discard 75 = .ok (.isub, 1) := by decide +kernel
theorem dX10_discard_76 : decode cX10_discard 76 = .ok (.iastore, 1) := by decide +kernel
theorem dX10_discard_77 : decode cX10_discard 77 = .ok (.aload_n 0, 1) := by decide +kernel
theorem dX10_discard_78 : decode cX10_discard 78 = .ok (.invokevirtual 99, 3) := by decide +kernel
theorem dX10_discard_81 : decode cX10_discard 81 = .ok (.aload_n 0, 1) := by decide +kernel
theorem dX10_discard_82 : decode cX10_discard 82 = .ok (.invokevirtual 102, 3) := by decide +kernel
theorem dX10_discard_85 : decode cX10_discard 85 = .ok (.ireturn, 1) := by decide +kernel
theorem dX10_nextLot_0 : decode cX10_nextLot 0 = .ok (.iconst (-1), 1) := by decide +kernel
theorem dX10_nextLot_1 : decode cX10_nextLot 1 = .ok (.istore_n 2, 1) := by decide +kernel
theorem dX10_nextLot_2 : decode cX10_nextLot 2 = .ok (.iconst 0, 1) := by decide +kernel
theorem dX10_nextLot_3 : decode cX10_nextLot 3 = .ok (.istore_n 3, 1) := by decide +kernel
theorem dX10_nextLot_4 : decode cX10_nextLot 4 = .ok (.iload_n 3, 1) := by decide +kernel
theorem dX10_nextLot_5 : decode cX10_nextLot 5 = .ok (.aload_n 0, 1) := by decide +kernel
theorem dX10_nextLot_6 : decode cX10_nextLot 6 = .ok (.getfield 7, 3) := by decide +kernel
theorem dX10_nextLot_9 : decode cX10_nextLot 9 = .ok (.sipush 406, 3) := by decide +kernel
theorem dX10_nextLot_12 : decode cX10_nextLot 12 = .ok (.iaload, 1) := by decide +kernel
theorem dX10_nextLot_13 : decode cX10_nextLot 13 = .ok (.if_icmp .ge 50, 3) := by decide +kernel
theorem dX10_nextLot_16 : decode cX10_nextLot 16 = .ok (.aload_n 0, 1) := by decide +kernel
theorem dX10_nextLot_17 : decode cX10_nextLot 17 = .ok (.iload_n 3, 1) := by decide +kernel
theorem dX10_nextLot_18 : decode cX10_nextLot 18 = .ok (.iconst 0, 1) := by decide +kernel
theorem dX10_nextLot_19 : decode cX10_nextLot 19 = .ok (.invokevirtual 53, 3) := by decide +kernel
theorem dX10_nextLot_22 : decode cX10_nextLot 22 = .ok (.iload_n 1, 1) := by decide +kernel
theorem dX10_nextLot_23 : decode cX10_nextLot 23 = .ok (.if_icmp .ne 34, 3) := by decide +kernel
theorem dX10_nextLot_26 : decode cX10_nextLot 26 = .ok (.aload_n 0, 1) := by decide +kernel
theorem dX10_nextLot_27 : decode cX10_nextLot 27 = .ok (.iload_n 3, 1) := by decide +kernel
theorem dX10_nextLot_28 : decode cX10_nextLot 28 = .ok (.iconst 2, 1) := by decide +kernel
theorem dX10_nextLot_29 : decode cX10_nextLot 29 = .ok (.invokevirtual 53, 3) := by decide +kernel
theorem dX10_nextLot_32 : decode cX10_nextLot 32 = .ok (.ifCond .le 25, 3) := by decide +kernel
theorem dX10_nextLot_35 : decode cX10_nextLot 35 = .ok (.iload_n 2, 1) := by decide +kernel
theorem dX10_nextLot_36 : decode cX10_nextLot 36 = .ok (.iconst (-1), 1) := by decide +kernel
theorem dX10_nextLot_37 : decode cX10_nextLot 37 = .ok (.if_icmp .eq 18, 3) := by decide +kernel
theorem dX10_nextLot_40 : decode cX10_nextLot 40 = .ok (.aload_n 0, 1) := by decide +kernel
theorem dX10_nextLot_41 : decode cX10_nextLot 41 = .ok (.getfield 22, 3) := by decide +kernel
theorem dX10_nextLot_44 : decode cX10_nextLot 44 = .ok (.iload_n 3, 1) := by decide +kernel
theorem dX10_nextLot_45 : decode cX10_nextLot 45 = .ok (.iaload, 1) := by decide +kernel
theorem dX10_nextLot_46 : decode cX10_nextLot 46 = .ok (.aload_n 0, 1) := by decide +kernel
theorem dX10_nextLot_47 : decode cX10_nextLot 47 = .ok (.getfield 22, 3) := by decide +kernel
theorem dX10_nextLot_50 : decode cX10_nextLot 50 = .ok (.iload_n 2, 1) := by decide +kernel
theorem dX10_nextLot_51 : decode cX10_nextLot 51 = .ok (.iaload, 1) := by decide +kernel
theorem dX10_nextLot_52 : decode cX10_nextLot 52 = .ok (.if_icmp .ge 5, 3) := by decide +kernel
theorem dX10_nextLot_55 : decode cX10_nextLot 55 = .ok (.iload_n 3, 1) := by decide +kernel
theorem dX10_nextLot_56 : decode cX10_nextLot 56 = .ok (.istore_n 2, 1) := by decide +kernel
theorem dX10_nextLot_57 : decode cX10_nextLot 57 = .ok (.iinc 3 1, 3) := by decide +kernel
theorem dX10_nextLot_60 : decode cX10_nextLot 60 = .ok (.goto (-56), 3) := by decide +kernel
theorem dX10_nextLot_63 : decode cX10_nextLot 63 = .ok (.iload_n 2, 1) := by decide +kernel
theorem dX10_nextLot_64 : decode cX10_nextLot 64 = .ok (.ireturn, 1) := by decide +kernel
theorem dX10_eat_0 : decode cX10_eat 0 = .ok (.iload_n 2, 1) := by decide +kernel
theorem dX10_eat_1 : decode cX10_eat 1 = .ok (.istore_n 3, 1) := by decide +kernel
theorem dX10_eat_2 : decode cX10_eat 2 = .ok (.aload_n 0, 1) := by decide +kernel
theorem dX10_eat_3 : decode cX10_eat 3 = .ok (.iload_n 1, 1) := by decide +kernel
theorem dX10_eat_4 : decode cX10_eat 4 = .ok (.invokevirtual 106, 3) := by decide +kernel
theorem dX10_eat_7 : decode cX10_eat 7 = .ok (.istore 4, 2) := by decide +kernel
theorem dX10_eat_9 : decode cX10_eat 9 = .ok (.iload_n 3, 1) := by decide +kernel
theorem dX10_eat_10 : decode cX10_eat 10 = .ok (.ifCond .le 75, 3) := by decide +kernel
theorem dX10_eat_13 : decode cX10_eat 13 = .ok (.iload 4, 2) := by decide +kernel
theorem dX10_eat_15 : decode cX10_eat 15 = .ok (.iconst (-1), 1) := by decide +kernel
theorem dX10_eat_16 : decode cX10_eat 16 = .ok (.if_icmp .eq 69, 3) := by decide +kernel
theorem dX10_eat_19 : decode cX10_eat 19 = .ok (.aload_n 0, 1) := by decide +kernel
theorem dX10_eat_20 : decode cX10_eat 20 = .ok (.iload 4, 2) := by decide +kernel
theorem dX10_eat_22 : decode cX10_eat 22 = .ok (.iconst 2, 1) := by decide +kernel
theorem dX10_eat_23 : decode cX10_eat 23 = .ok (.invokevirtual 53, 3) := by decide +kernel
theorem dX10_eat_26 : decode cX10_eat 26 = .ok (.iload_n 3, 1) := by decide +kernel
theorem dX10_eat_27 : decode cX10_eat 27 = .ok (.if_icmp .ge 13, 3) := by decide +kernel
theorem dX10_eat_30 : decode cX10_eat 30 = .ok (.aload_n 0, 1) := by decide +kernel
theorem dX10_eat_31 : decode cX10_eat 31 = .ok (.iload 4, 2) := by decide +kernel
theorem dX10_eat_33 : decode cX10_eat 33 = .ok (.iconst 2, 1) := by decide +kernel
theorem dX10_eat_34 : decode cX10_eat 34 = .ok (.invokevirtual 53, 3) := by decide +kernel
theorem dX10_eat_37 : decode cX10_eat 37 = .ok (.goto 4, 3) := by decide +kernel
theorem dX10_eat_40 : decode cX10_eat 40 = .ok (.iload_n 3, 1) := by decide +kernel
theorem dX10_eat_41 : decode cX10_eat 41 = .ok (.istore 5, 2) := by decide +kernel
theorem dX10_eat_43 : decode cX10_eat 43 = .ok (.aload_n 0, 1) := by decide +kernel
theorem dX10_eat_44 : decode cX10_eat 44 = .ok (.getfield 7, 3) := by decide +kernel
theorem dX10_eat_47 : decode cX10_eat 47 = .ok (.bipush 70, 2) := by decide +kernel
theorem dX10_eat_49 : decode cX10_eat 49 = .ok (.iconst 4, 1) := by decide +kernel
theorem dX10_eat_50 : decode cX10_eat 50 = .ok (.iload 4, 2) := by decide +kernel
theorem dX10_eat_52 : decode cX10_eat 52 = .ok (.imul, 1) := by decide +kernel
theorem dX10_eat_53 : decode cX10_eat 53 = .ok (.iadd, 1) := by decide +kernel
theorem dX10_eat_54 : decode cX10_eat 54 = .ok (.iconst 2, 1) := by decide +kernel
theorem dX10_eat_55 : decode cX10_eat 55 = .ok (.iadd, 1) := by decide +kernel
theorem dX10_eat_56 : decode cX10_eat 56 = .ok (.dup2, 1) := by decide +kernel
theorem dX10_eat_57 : decode cX10_eat 57 = .ok (.iaload, 1) := by decide +kernel
theorem dX10_eat_58 : decode cX10_eat 58 = .ok (.iload 5, 2) := by decide +kernel
theorem dX10_eat_60 : decode cX10_eat 60 = .ok (.isub, 1) := by decide +kernel
theorem dX10_eat_61 : decode cX10_eat 61 = .ok (.iastore, 1) := by decide +kernel
theorem dX10_eat_62 : decode cX10_eat 62 = .ok (.aload_n 0, 1) := by decide +kernel
theorem dX10_eat_63 : decode cX10_eat 63 = .ok (.iload_n 1, 1) := by decide +kernel
theorem dX10_eat_64 : decode cX10_eat 64 = .ok (.iconst 1, 1) := by decide +kernel
theorem dX10_eat_65 : decode cX10_eat 65 = .ok (.iload 5, 2) := by decide +kernel
theorem dX10_eat_67 : decode cX10_eat 67 = .ok (.invokevirtual 88, 3) := by decide +kernel
theorem dX10_eat_70 : decode cX10_eat 70 = .ok (.iload_n 3, 1) := by decide +kernel
theorem dX10_eat_71 : decode cX10_eat 71 = .ok (.iload 5, 2) := by decide +kernel
theorem dX10_eat_73 : decode cX10_eat 73 = .ok (.isub, 1) := by decide +kernel
theorem dX10_eat_74 : decode cX10_eat 74 = .ok (.istore_n 3, 1) := by decide +kernel
theorem dX10_eat_75 : decode cX10_eat 75 = .ok (.aload_n 0, 1) := by decide +kernel
theorem dX10_eat_76 : decode cX10_eat 76 = .ok (.iload_n 1, 1) := by decide +kernel
theorem dX10_eat_77 : decode cX10_eat 77 = .ok (.invokevirtual 106, 3) := by decide +kernel
theorem dX10_eat_80 : decode cX10_eat 80 = .ok (.istore 4, 2) := by decide +kernel
theorem dX10_eat_82 : decode cX10_eat 82 = .ok (.goto (-73), 3) := by decide +kernel
theorem dX10_eat_85 : decode cX10_eat 85 = .ok (.iload_n 3, 1) := by decide +kernel
theorem dX10_eat_86 : decode cX10_eat 86 = .ok (.ireturn, 1) := by decide +kernel
theorem dX10_serve_0 : decode cX10_serve 0 = .ok (.iconst 0, 1) := by decide +kernel
theorem dX10_serve_1 : decode cX10_serve 1 = .ok (.istore_n 1, 1) := by decide +kernel
theorem dX10_serve_2 : decode cX10_serve 2 = .ok (.iload_n 1, 1) := by decide +kernel
theorem dX10_serve_3 : decode cX10_serve 3 = .ok (.aload_n 0, 1) := by decide +kernel
theorem dX10_serve_4 : decode cX10_serve 4 = .ok (.getfield 7, 3) := by decide +kernel
theorem dX10_serve_7 : decode cX10_serve 7 = .ok (.sipush 406, 3) := by decide +kernel
theorem dX10_serve_10 : decode cX10_serve 10 = .ok (.iaload, 1) := by decide +kernel
theorem dX10_serve_11 : decode cX10_serve 11 = .ok (.if_icmp .ge 20, 3) := by decide +kernel
theorem dX10_serve_14 : decode cX10_serve 14 = .ok (.aload_n 0, 1) := by decide +kernel
theorem dX10_serve_15 : decode cX10_serve 15 = .ok (.getfield 22, 3) := by decide +kernel
theorem dX10_serve_18 : decode cX10_serve 18 = .ok (.iload_n 1, 1) := by decide +kernel
theorem dX10_serve_19 : decode cX10_serve 19 = .ok (.aload_n 0, 1) := by decide +kernel
theorem dX10_serve_20 : decode cX10_serve 20 = .ok (.iload_n 1, 1) := by decide +kernel
theorem dX10_serve_21 : decode cX10_serve 21 = .ok (.invokevirtual 109, 3) := by decide +kernel
theorem dX10_serve_24 : decode cX10_serve 24 = .ok (.iastore, 1) := by decide +kernel
theorem dX10_serve_25 : decode cX10_serve 25 = .ok (.iinc 1 1, 3) := by decide +kernel
theorem dX10_serve_28 : decode cX10_serve 28 = .ok (.goto (-26), 3) := by decide +kernel
theorem dX10_serve_31 : decode cX10_serve 31 = .ok (.aload_n 0, 1) := by decide +kernel
theorem dX10_serve_32 : decode cX10_serve 32 = .ok (.getfield 7, 3) := by decide +kernel
theorem dX10_serve_35 : decode cX10_serve 35 = .ok (.sipush 404, 3) := by decide +kernel
theorem dX10_serve_38 : decode cX10_serve 38 = .ok (.iaload, 1) := by decide +kernel
theorem dX10_serve_39 : decode cX10_serve 39 = .ok (.aload_n 0, 1) := by decide +kernel
theorem dX10_serve_40 : decode cX10_serve 40 = .ok (.getfield 7, 3) := by decide +kernel
theorem dX10_serve_43 : decode cX10_serve 43 = .ok (.sipush 408, 3) := by decide +kernel
theorem dX10_serve_46 : decode cX10_serve 46 = .ok (.iaload, 1) := by decide +kernel
theorem dX10_serve_47 : decode cX10_serve 47 = .ok (.irem, 1) := by decide +kernel
theorem dX10_serve_48 : decode cX10_serve 48 = .ok (.istore_n 1, 1) := by decide +kernel
theorem dX10_serve_49 : decode cX10_serve 49 = .ok (.iconst 0, 1) := by decide +kernel
theorem dX10_serve_50 : decode cX10_serve 50 = .ok (.istore_n 2, 1) := by decide +kernel
theorem dX10_serve_51 : decode cX10_serve 51 = .ok (.iconst 0, 1) := by decide +kernel
theorem dX10_serve_52 : decode cX10_serve 52 = .ok (.istore_n 3, 1) := by decide +kernel
theorem dX10_serve_53 : decode cX10_serve 53 = .ok (.iload_n 3, 1) := by decide +kernel
theorem dX10_serve_54 : decode cX10_serve 54 = .ok (.aload_n 0, 1) := by decide +kernel
theorem dX10_serve_55 : decode cX10_serve 55 = .ok (.getfield 7, 3) := by decide +kernel
theorem dX10_serve_58 : decode cX10_serve 58 = .ok (.sipush 314, 3) := by decide +kernel
theorem dX10_serve_61 : decode cX10_serve 61 = .ok (.iload_n 1, 1) := by decide +kernel
theorem dX10_serve_62 : decode cX10_serve 62 = .ok (.iadd, 1) := by decide +kernel
theorem dX10_serve_63 : decode cX10_serve 63 = .ok (.iaload, 1) := by decide +kernel
theorem dX10_serve_64 : decode cX10_serve 64 = .ok (.if_icmp .ge 118, 3) := by decide +kernel
theorem dX10_serve_67 : decode cX10_serve 67 = .ok (.sipush 194, 3) := by decide +kernel
theorem dX10_serve_70 : decode cX10_serve 70 = .ok (.bipush 12, 2) := by decide +kernel
theorem dX10_serve_72 : decode cX10_serve 72 = .ok (.iload_n 1, 1) := by decide +kernel
theorem dX10_serve_73 : decode cX10_serve 73 = .ok (.imul, 1) := by decide +kernel
theorem dX10_serve_74 : decode cX10_serve 74 = .ok (.iadd, 1) := by decide +kernel
theorem dX10_serve_75 : decode cX10_serve 75 = .ok (.iconst 3, 1) := by decide +kernel
theorem dX10_serve_76 : decode cX10_serve 76 = .ok (.iload_n 3, 1) := by decide +kernel
theorem dX10_serve_77 : decode cX10_serve 77 = .ok (.imul, 1) := by decide +kernel
theorem dX10_serve_78 : decode cX10_serve 78 = .ok (.iadd, 1) := by decide +kernel
theorem dX10_serve_79 : decode cX10_serve 79 = .ok (.istore 4, 2) := by decide +kernel
theorem dX10_serve_81 : decode cX10_serve 81 = .ok (.aload_n 0, 1) := by decide +kernel
theorem dX10_serve_82 : decode cX10_serve 82 = .ok (.aload_n 0, 1) := by decide +kernel
theorem dX10_serve_83 : decode cX10_serve 83 = .ok (.getfield 7, 3) := by decide +kernel
theorem dX10_serve_86 : decode cX10_serve 86 = .ok (.iload 4, 2) := by decide +kernel
theorem dX10_serve_88 : decode cX10_serve 88 = .ok (.iaload, 1) := by decide +kernel
theorem dX10_serve_89 : decode cX10_serve 89 = .ok (.aload_n 0, 1) := by decide +kernel
theorem dX10_serve_90 : decode cX10_serve 90 = .ok (.getfield 7, 3) := by decide +kernel
theorem dX10_serve_93 : decode cX10_serve 93 = .ok (.iload 4, 2) := by decide +kernel
theorem dX10_serve_95 : decode cX10_serve 95 = .ok (.iconst 1, 1) := by decide +kernel
theorem dX10_serve_96 : decode cX10_serve 96 = .ok (.iadd, 1) := by decide +kernel
theorem dX10_serve_97 : decode cX10_serve 97 = .ok (.iaload, 1) := by decide +kernel
theorem dX10_serve_98 : decode cX10_serve 98 = .ok (.aload_n 0, 1) := by decide +kernel
theorem dX10_serve_99 : decode cX10_serve 99 = .ok (.getfield 7, 3) := by decide +kernel
theorem dX10_serve_102 : decode cX10_serve 102 = .ok (.sipush 409, 3) := by decide +kernel
theorem dX10_serve_105 : decode cX10_serve 105 = .ok (.iaload, 1) := by decide +kernel
theorem dX10_serve_106 : decode cX10_serve 106 = .ok (.imul, 1) := by decide +kernel
theorem dX10_serve_107 : decode cX10_serve 107 = .ok (.invokevirtual 112, 3) := by decide +kernel
theorem dX10_serve_110 : decode cX10_serve 110 = .ok (.istore 5, 2) := by decide +kernel
theorem dX10_serve_112 : decode cX10_serve 112 = .ok (.iload 5, 2) := by decide +kernel
theorem dX10_serve_114 : decode cX10_serve 114 = .ok (.ifCond .le 33, 3) := by decide +kernel
theorem dX10_serve_117 : decode cX10_serve 117 = .ok (.aload_n 0, 1) := by decide +kernel
theorem dX10_serve_118 : decode cX10_serve 118 = .ok (.getfield 7, 3) := by decide +kernel
theorem dX10_serve_121 : decode cX10_serve 121 = .ok (.iload 4, 2) := by decide +kernel
theorem dX10_serve_123 : decode cX10_serve 123 = .ok (.iconst 2, 1) := by decide +kernel
theorem dX10_serve_124 : decode cX10_serve 124 = .ok (.iadd, 1) := by decide +kernel
theorem dX10_serve_125 : decode cX10_serve 125 = .ok (.iaload, 1) := by decide +kernel
theorem dX10_serve_126 : decode cX10_serve 126 = .ok (.iconst (-1), 1) := by decide +kernel
theorem dX10_serve_127 : decode cX10_serve 127 = .ok (.if_icmp .eq 20, 3) := by decide +kernel
theorem dX10_serve_130 : decode cX10_serve 130 = .ok (.aload_n 0, 1) := by decide +kernel
theorem dX10_serve_131 : decode cX10_serve 131 = .ok (.aload_n 0, 1) := by decide +kernel
theorem dX10_serve_132 : decode cX10_serve 132 = .ok (.getfield 7, 3) := by decide +kernel
theorem dX10_serve_135 : decode cX10_serve 135 = .ok (.iload 4, 2) := by decide +kernel
theorem dX10_serve_137 : decode cX10_serve 137 = .ok (.iconst 2, 1) := by decide +kernel
theorem dX10_serve_138 : decode cX10_serve 138 = .ok (.iadd, 1) := by decide +kernel
theorem dX10_serve_139 : decode cX10_serve 139 = .ok (.iaload, 1) := by decide +kernel
theorem dX10_serve_140 : decode cX10_serve 140 = .ok (.iload 5, 2) := by decide +kernel
theorem dX10_serve_142 : decode cX10_serve 142 = .ok (.invokevirtual 112, 3) := by decide +kernel
theorem dX10_serve_145 : decode cX10_serve 145 = .ok (.istore 5, 2) := by decide +kernel
theorem dX10_serve_147 : decode cX10_serve 147 = .ok (.aload_n 0, 1) := by decide +kernel
theorem dX10_serve_148 : decode cX10_serve 148 = .ok (.aload_n 0, 1) := by decide +kernel
theorem dX10_serve_149 : decode cX10_serve 149 = .ok (.getfield 7, 3) := by decide +kernel
theorem dX10_serve_152 : decode cX10_serve 152 = .ok (.iload 4, 2) := by decide +kernel
theorem dX10_serve_154 : decode cX10_serve 154 = .ok (.iaload, 1) := by decide +kernel
theorem dX10_serve_155 : decode cX10_serve 155 = .ok (.iconst 4, 1) := by decide +kernel
theorem dX10_serve_156 : decode cX10_serve 156 = .ok (.iload 5, 2) := by decide +kernel
theorem dX10_serve_158 : decode cX10_serve 158 = .ok (.invokevirtual 88, 3) := by decide +kernel
theorem dX10_serve_161 : decode cX10_serve 161 = .ok (.iload_n 2, 1) := by decide +kernel
theorem dX10_serve_162 : decode cX10_serve 162 = .ok (.ifCond .ne 8, 3) := by decide +kernel
theorem dX10_serve_165 : decode cX10_serve 165 = .ok (.iload 5, 2) := by decide +kernel
theorem dX10_serve_167 : decode cX10_serve 167 = .ok (.ifCond .le 7, 3) := by decide +kernel
theorem dX10_serve_170 : decode cX10_serve 170 = .ok (.iconst 1, 1) := by decide +kernel
theorem dX10_serve_171 : decode cX10_serve 171 = .ok (.goto 4, 3) := by decide +kernel
theorem dX10_serve_174 : decode cX10_serve 174 = .ok (.iconst 0, 1) := by decide +kernel
theorem dX10_serve_175 : decode cX10_serve 175 = .ok (.istore_n 2, 1) := by decide +kernel
theorem dX10_serve_176 : decode cX10_serve 176 = .ok (.iinc 3 1, 3) := by decide +kernel
theorem dX10_serve_179 : decode cX10_serve 179 = .ok (.goto (-126), 3) := by decide +kernel
theorem dX10_serve_182 : decode cX10_serve 182 = .ok (.aload_n 0, 1) := by decide +kernel
theorem dX10_serve_183 : decode cX10_serve 183 = .ok (.invokevirtual 99, 3) := by decide +kernel
theorem dX10_serve_186 : decode cX10_serve 186 = .ok (.iload_n 2, 1) := by decide +kernel
theorem dX10_serve_187 : decode cX10_serve 187 = .ok (.ireturn, 1) := by decide +kernel
theorem dX10_age_0 : decode cX10_age 0 = .ok (.iconst 0, 1) := by decide +kernel
theorem dX10_age_1 : decode cX10_age 1 = .ok (.istore_n 1, 1) := by decide +kernel
theorem dX10_age_2 : decode cX10_age 2 = .ok (.iload_n 1, 1) := by decide +kernel
theorem dX10_age_3 : decode cX10_age 3 = .ok (.aload_n 0, 1) := by decide +kernel
theorem dX10_age_4 : decode cX10_age 4 = .ok (.getfield 7, 3) := by decide +kernel
theorem dX10_age_7 : decode cX10_age 7 = .ok (.sipush 406, 3) := by decide +kernel
theorem dX10_age_10 : decode cX10_age 10 = .ok (.iaload, 1) := by decide +kernel
theorem dX10_age_11 : decode cX10_age 11 = .ok (.if_icmp .ge 92, 3) := by decide +kernel
theorem dX10_age_14 : decode cX10_age 14 = .ok (.aload_n 0, 1) := by decide +kernel
theorem dX10_age_15 : decode cX10_age 15 = .ok (.iload_n 1, 1) := by decide +kernel
theorem dX10_age_16 : decode cX10_age 16 = .ok (.iconst 0, 1) := by decide +kernel
theorem dX10_age_17 : decode cX10_age 17 = .ok (.invokevirtual 53, 3) := by decide +kernel
theorem dX10_age_20 : decode cX10_age 20 = .ok (.istore_n 2, 1) := by decide +kernel
theorem dX10_age_21 : decode cX10_age 21 = .ok (.aload_n 0, 1) := by decide +kernel
theorem dX10_age_22 : decode cX10_age 22 = .ok (.iload_n 1, 1) := by decide +kernel
theorem dX10_age_23 : decode cX10_age 23 = .ok (.iconst 1, 1) := by decide +kernel
theorem dX10_age_24 : decode cX10_age 24 = .ok (.invokevirtual 53, 3) := by decide +kernel
theorem dX10_age_27 : decode cX10_age 27 = .ok (.istore_n 3, 1) := by decide +kernel
theorem dX10_age_28 : decode cX10_age 28 = .ok (.aload_n 0, 1) := by decide +kernel
theorem dX10_age_29 : decode cX10_age 29 = .ok (.getfield 7, 3) := by decide +kernel
theorem dX10_age_32 : decode cX10_age 32 = .ok (.bipush 70, 2) := by decide +kernel
theorem dX10_age_34 : decode cX10_age 34 = .ok (.iconst 4, 1) := by decide +kernel
theorem dX10_age_35 : decode cX10_age 35 = .ok (.iload_n 1, 1) := by decide +kernel
theorem dX10_age_36 : decode cX10_age 36 = .ok (.imul, 1) := by decide +kernel
theorem dX10_age_37 : decode cX10_age 37 = .ok (.iadd, 1) := by decide +kernel
theorem dX10_age_38 : decode cX10_age 38 = .ok (.iconst 3, 1) := by decide +kernel
theorem dX10_age_39 : decode cX10_age 39 = .ok (.iadd, 1) := by decide +kernel
theorem dX10_age_40 : decode cX10_age 40 = .ok (.dup2, 1) := by decide +kernel
theorem dX10_age_41 : decode cX10_age 41 = .ok (.iaload, 1) := by decide +kernel
theorem dX10_age_42 : decode cX10_age 42 = .ok (.aload_n 0, 1) := by decide +kernel
theorem dX10_age_43 : decode cX10_age 43 = .ok (.iload_n 2, 1) := by decide +kernel
theorem dX10_age_44 : decode cX10_age 44 = .ok (.iload_n 3, 1) := by decide +kernel
theorem dX10_age_45 : decode cX10_age 45 = .ok (.aload_n 0, 1) := by decide +kernel
theorem dX10_age_46 : decode cX10_age 46 = .ok (.getfield 7, 3) := by decide +kernel
theorem dX10_age_49 : decode cX10_age 49 = .ok (.bipush 67, 2) := by decide +kernel
theorem dX10_age_51 : decode cX10_age 51 = .ok (.iload_n 3, 1) := by decide +kernel
theorem dX10_age_52 : decode cX10_age 52 = .ok (.iadd, 1) := by decide +kernel
theorem dX10_age_53 : decode cX10_age 53 = .ok (.iaload, 1) := by decide +kernel
theorem dX10_age_54 : decode cX10_age 54 = .ok (.invokevirtual 79, 3) := by decide +kernel
theorem dX10_age_57 : decode cX10_age 57 = .ok (.iadd, 1) := by decide +kernel
theorem dX10_age_58 : decode cX10_age 58 = .ok (.iastore, 1) := by decide +kernel
theorem dX10_age_59 : decode cX10_age 59 = .ok (.aload_n 0, 1) := by decide +kernel
theorem dX10_age_60 : decode cX10_age 60 = .ok (.iload_n 1, 1) := by decide +kernel
theorem dX10_age_61 : decode cX10_age 61 = .ok (.iconst 3, 1) := by decide +kernel
theorem dX10_age_62 : decode cX10_age 62 = .ok (.invokevirtual 53, 3) := by decide +kernel
theorem dX10_age_65 : decode cX10_age 65 = .ok (.sipush 1000, 3) := by decide +kernel
theorem dX10_age_68 : decode cX10_age 68 = .ok (.if_icmp .lt 29, 3) := by decide +kernel
theorem dX10_age_71 : decode cX10_age 71 = .ok (.aload_n 0, 1) := by decide +kernel
theorem dX10_age_72 : decode cX10_age 72 = .ok (.iload_n 2, 1) := by decide +kernel
theorem dX10_age_73 : decode cX10_age 73 = .ok (.iconst 2, 1) := by decide +kernel
theorem dX10_age_74 : decode cX10_age 74 = .ok (.aload_n 0, 1) := by decide +kernel
theorem dX10_age_75 : decode cX10_age 75 = .ok (.iload_n 1, 1) := by decide +kernel
theorem dX10_age_76 : decode cX10_age 76 = .ok (.iconst 2, 1) := by decide +kernel
theorem dX10_age_77 : decode cX10_age 77 = .ok (.invokevirtual 53, 3) := by decide +kernel
theorem dX10_age_80 : decode cX10_age 80 = .ok (.invokevirtual 88, 3) := by decide +kernel
theorem dX10_age_83 : decode cX10_age 83 = .ok (.aload_n 0, 1) := by decide +kernel
theorem dX10_age_84 : decode cX10_age 84 = .ok (.getfield 7, 3) := by decide +kernel
theorem dX10_age_87 : decode cX10_age 87 = .ok (.bipush 70, 2) := by decide +kernel
theorem dX10_age_89 : decode cX10_age 89 = .ok (.iconst 4, 1) := by decide +kernel
theorem dX10_age_90 : decode cX10_age 90 = .ok (.iload_n 1, 1) := by decide +kernel
theorem dX10_age_91 : decode cX10_age 91 = .ok (.imul, 1) := by decide +kernel
theorem dX10_age_92 : decode cX10_age 92 = .ok (.iadd, 1) := by decide +kernel
theorem dX10_age_93 : decode cX10_age 93 = .ok (.iconst 2, 1) := by decide +kernel
theorem dX10_age_94 : decode cX10_age 94 = .ok (.iadd, 1) := by decide +kernel
theorem dX10_age_95 : decode cX10_age 95 = .ok (.iconst 0, 1) := by decide +kernel
theorem dX10_age_96 : decode cX10_age 96 = .ok (.iastore, 1) := by decide +kernel
theorem dX10_age_97 : decode cX10_age 97 = .ok (.iinc 1 1, 3) := by decide +kernel
theorem dX10_age_100 : decode cX10_age 100 = .ok (.goto (-98), 3) := by decide +kernel
theorem dX10_age_103 : decode cX10_age 103 = .ok (.aload_n 0, 1) := by decide +kernel
theorem dX10_age_104 : decode cX10_age 104 = .ok (.invokevirtual 99, 3) := by decide +kernel
theorem dX10_age_107 : decode cX10_age 107 = .ok (.iconst 0, 1) := by decide +kernel
theorem dX10_age_108 : decode cX10_age 108 = .ok (.istore_n 1, 1) := by decide +kernel
theorem dX10_age_109 : decode cX10_age 109 = .ok (.iload_n 1, 1) := by decide +kernel
theorem dX10_age_110 : decode cX10_age 110 = .ok (.iconst 3, 1) := by decide +kernel
theorem dX10_age_111 : decode cX10_age 111 = .ok (.if_icmp .ge 38, 3) := by decide +kernel
theorem dX10_age_114 : decode cX10_age 114 = .ok (.aload_n 0, 1) := by decide +kernel
theorem dX10_age_115 : decode cX10_age 115 = .ok (.getfield 7, 3) := by decide +kernel
theorem dX10_age_118 : decode cX10_age 118 = .ok (.bipush 67, 2) := by decide +kernel
theorem dX10_age_120 : decode cX10_age 120 = .ok (.iload_n 1, 1) := by decide +kernel
theorem dX10_age_121 : decode cX10_age 121 = .ok (.iadd, 1) := by decide +kernel
theorem dX10_age_122 : decode cX10_age 122 = .ok (.dup2, 1) := by decide +kernel
theorem dX10_age_123 : decode cX10_age 123 = .ok (.iaload, 1) := by decide +kernel
theorem dX10_age_124 : decode cX10_age 124 = .ok (.aload_n 0, 1) := by decide +kernel
theorem dX10_age_125 : decode cX10_age 125 = .ok (.getfield 7, 3) := by decide +kernel
theorem dX10_age_128 : decode cX10_age 128 = .ok (.bipush 67, 2) := by decide +kernel
theorem dX10_age_130 : decode cX10_age 130 = .ok (.iload_n 1, 1) := by decide +kernel
theorem dX10_age_131 : decode cX10_age 131 = .ok (.iadd, 1) := by decide +kernel
theorem dX10_age_132 : decode cX10_age 132 = .ok (.iaload, 1) := by decide +kernel
theorem dX10_age_133 : decode cX10_age 133 = .ok (.ifCond .le 7, 3) := by decide +kernel
theorem dX10_age_136 : decode cX10_age 136 = .ok (.iconst 1, 1) := by decide +kernel
theorem dX10_age_137 : decode cX10_age 137 = .ok (.goto 4, 3) := by decide +kernel
theorem dX10_age_140 : decode cX10_age 140 = .ok (.iconst 0, 1) := by decide +kernel
theorem dX10_age_141 : decode cX10_age 141 = .ok (.isub, 1) := by decide +kernel
theorem dX10_age_142 : decode cX10_age 142 = .ok (.iastore, 1) := by decide +kernel
theorem dX10_age_143 : decode cX10_age 143 = .ok (.iinc 1 1, 3) := by decide +kernel
theorem dX10_age_146 : decode cX10_age 146 = .ok (.goto (-37), 3) := by decide +kernel
theorem dX10_age_149 : decode cX10_age 149 = .ok (.return_, 1) := by decide +kernel
theorem dX10_passDay_0 : decode cX10_passDay 0 = .ok (.aload_n 0, 1) := by decide +kernel
theorem dX10_passDay_1 : decode cX10_passDay 1 = .ok (.getfield 7, 3) := by decide +kernel
theorem dX10_passDay_4 : decode cX10_passDay 4 = .ok (.sipush 412, 3) := by decide +kernel
theorem dX10_passDay_7 : decode cX10_passDay 7 = .ok (.dup2, 1) := by decide +kernel
theorem dX10_passDay_8 : decode cX10_passDay 8 = .ok (.iaload, 1) := by decide +kernel
theorem dX10_passDay_9 : decode cX10_passDay 9 = .ok (.aload_n 0, 1) := by decide +kernel
theorem dX10_passDay_10 : decode cX10_passDay 10 = .ok (.invokevirtual 115, 3) := by decide +kernel
theorem dX10_passDay_13 : decode cX10_passDay 13 = .ok (.ifCond .eq 7, 3) := by decide +kernel
theorem dX10_passDay_16 : decode cX10_passDay 16 = .ok (.iconst 1, 1) := by decide +kernel
theorem dX10_passDay_17 : decode cX10_passDay 17 = .ok (.goto 4, 3) := by decide +kernel
theorem dX10_passDay_20 : decode cX10_passDay 20 = .ok (.iconst 0, 1) := by decide +kernel
theorem dX10_passDay_21 : decode cX10_passDay 21 = .ok (.iadd, 1) := by decide +kernel
theorem dX10_passDay_22 : decode cX10_passDay 22 = .ok (.iastore, 1) := by decide +kernel
theorem dX10_passDay_23 : decode cX10_passDay 23 = .ok (.aload_n 0, 1) := by decide +kernel
theorem dX10_passDay_24 : decode cX10_passDay 24 = .ok (.invokevirtual 119, 3) := by decide +kernel
theorem dX10_passDay_27 : decode cX10_passDay 27 = .ok (.aload_n 0, 1) := by decide +kernel
theorem dX10_passDay_28 : decode cX10_passDay 28 = .ok (.getfield 7, 3) := by decide +kernel
theorem dX10_passDay_31 : decode cX10_passDay 31 = .ok (.sipush 404, 3) := by decide +kernel
theorem dX10_passDay_34 : decode cX10_passDay 34 = .ok (.dup2, 1) := by decide +kernel
theorem dX10_passDay_35 : decode cX10_passDay 35 = .ok (.iaload, 1) := by decide +kernel
theorem dX10_passDay_36 : decode cX10_passDay 36 = .ok (.iconst 1, 1) := by decide +kernel
theorem dX10_passDay_37 : decode cX10_passDay 37 = .ok (.iadd, 1) := by decide +kernel
theorem dX10_passDay_38 : decode cX10_passDay 38 = .ok (.iastore, 1) := by decide +kernel
theorem dX10_passDay_39 : decode cX10_passDay 39 = .ok (.return_, 1) := by decide +kernel
theorem dX10_all_0 : decode cX10_all 0 = .ok (.iconst 0, 1) := by decide +kernel
theorem dX10_all_1 : decode cX10_all 1 = .ok (.istore_n 2, 1) := by decide +kernel
theorem dX10_all_2 : decode cX10_all 2 = .ok (.iconst 0, 1) := by decide +kernel
theorem dX10_all_3 : decode cX10_all 3 = .ok (.istore_n 3, 1) := by decide +kernel
theorem dX10_all_4 : decode cX10_all 4 = .ok (.iload_n 3, 1) := by decide +kernel
theorem dX10_all_5 : decode cX10_all 5 = .ok (.aload_n 0, 1) := by decide +kernel
theorem dX10_all_6 : decode cX10_all 6 = .ok (.getfield 7, 3) := by decide +kernel
theorem dX10_all_9 : decode cX10_all 9 = .ok (.sipush 405, 3) := by decide +kernel
theorem dX10_all_12 : decode cX10_all 12 = .ok (.iaload, 1) := by decide +kernel
theorem dX10_all_13 : decode cX10_all 13 = .ok (.if_icmp .ge 25, 3) := by decide +kernel
theorem dX10_all_16 : decode cX10_all 16 = .ok (.iload_n 2, 1) := by decide +kernel
theorem dX10_all_17 : decode cX10_all 17 = .ok (.aload_n 0, 1) := by decide +kernel
theorem dX10_all_18 : decode cX10_all 18 = .ok (.getfield 7, 3) := by decide +kernel
theorem dX10_all_21 : decode cX10_all 21 = .ok (.bipush 24, 2) := by decide +kernel
theorem dX10_all_23 : decode cX10_all 23 = .ok (.iconst 5, 1) := by decide +kernel
theorem dX10_all_24 : decode cX10_all 24 = .ok (.iload_n 3, 1) := by decide +kernel
theorem dX10_all_25 : decode cX10_all 25 = .ok (.imul, 1) := by decide +kernel
theorem dX10_all_26 : decode cX10_all 26 = .ok (.iadd, 1) := by decide +kernel
theorem dX10_all_27 : decode cX10_all 27 = .ok (.iload_n 1, 1) := by decide +kernel
theorem dX10_all_28 : decode cX10_all 28 = .ok (.iadd, 1) := by decide +kernel
theorem dX10_all_29 : decode cX10_all 29 = .ok (.iaload, 1) := by decide +kernel
theorem dX10_all_30 : decode cX10_all 30 = .ok (.iadd, 1) := by decide +kernel
theorem dX10_all_31 : decode cX10_all 31 = .ok (.istore_n 2, 1) := by decide +kernel
theorem dX10_all_32 : decode cX10_all 32 = .ok (.iinc 3 1, 3) := by decide +kernel
theorem dX10_all_35 : decode cX10_all 35 = .ok (.goto (-31), 3) := by decide +kernel
theorem dX10_all_38 : decode cX10_all 38 = .ok (.iload_n 2, 1) := by decide +kernel
theorem dX10_all_39 : decode cX10_all 39 = .ok (.ireturn, 1) := by decide +kernel
theorem dX10_passDays_0 : decode cX10_passDays 0 = .ok (.iconst 0, 1) := by decide +kernel
theorem dX10_passDays_1 : decode cX10_passDays 1 = .ok (.istore_n 2, 1) := by decide +kernel
theorem dX10_passDays_2 : decode cX10_passDays 2 = .ok (.iload_n 2, 1) := by decide +kernel
theorem dX10_passDays_3 : decode cX10_passDays 3 = .ok (.iload_n 1, 1) := by decide +kernel
theorem dX10_passDays_4 : decode cX10_passDays 4 = .ok (.if_icmp .ge 13, 3) := by decide +kernel
theorem dX10_passDays_7 : decode cX10_passDays 7 = .ok (.aload_n 0, 1) := by decide +kernel
theorem dX10_passDays_8 : decode cX10_passDays 8 = .ok (.invokevirtual 122, 3) := by decide +kernel
theorem dX10_passDays_11 : decode cX10_passDays 11 = .ok (.iinc 2 1, 3) := by decide +kernel
theorem dX10_passDays_14 : decode cX10_passDays 14 = .ok (.goto (-12), 3) := by decide +kernel
theorem dX10_passDays_17 : decode cX10_passDays 17 = .ok (.return_, 1) := by decide +kernel
theorem dX10_pass_0 : decode cX10_pass 0 = .ok (.aload_n 0, 1) := by decide +kernel
theorem dX10_pass_1 : decode cX10_pass 1 = .ok (.iload_n 1, 1) := by decide +kernel
theorem dX10_pass_2 : decode cX10_pass 2 = .ok (.iconst 1, 1) := by decide +kernel
theorem dX10_pass_3 : decode cX10_pass 3 = .ok (.bipush 60, 2) := by decide +kernel
theorem dX10_pass_5 : decode cX10_pass 5 = .ok (.invokestatic 35, 3) := by decide +kernel
theorem dX10_pass_8 : decode cX10_pass 8 = .ok (.ifCond .eq 7, 3) := by decide +kernel
theorem dX10_pass_11 : decode cX10_pass 11 = .ok (.iconst 0, 1) := by decide +kernel
theorem dX10_pass_12 : decode cX10_pass 12 = .ok (.goto 4, 3) := by decide +kernel
theorem dX10_pass_15 : decode cX10_pass 15 = .ok (.iconst 1, 1) := by decide +kernel
theorem dX10_pass_16 : decode cX10_pass 16 = .ok (.putfield 31, 3) := by decide +kernel
theorem dX10_pass_19 : decode cX10_pass 19 = .ok (.aload_n 0, 1) := by decide +kernel
theorem dX10_pass_20 : decode cX10_pass 20 = .ok (.getfield 31, 3) := by decide +kernel
theorem dX10_pass_23 : decode cX10_pass 23 = .ok (.ifCond .le 5, 3) := by decide +kernel
theorem dX10_pass_26 : decode cX10_pass 26 = .ok (.iconst 0, 1) := by decide +kernel
theorem dX10_pass_27 : decode cX10_pass 27 = .ok (.ireturn, 1) := by decide +kernel
theorem dX10_pass_28 : decode cX10_pass 28 = .ok (.aload_n 0, 1) := by decide +kernel
theorem dX10_pass_29 : decode cX10_pass 29 = .ok (.invokevirtual 50, 3) := by decide +kernel
theorem dX10_pass_32 : decode cX10_pass 32 = .ok (.aload_n 0, 1) := by decide +kernel
theorem dX10_pass_33 : decode cX10_pass 33 = .ok (.iconst 2, 1) := by decide +kernel
theorem dX10_pass_34 : decode cX10_pass 34 = .ok (.invokevirtual 125, 3) := by decide +kernel
theorem dX10_pass_37 : decode cX10_pass 37 = .ok (.istore_n 2, 1) := by decide +kernel
theorem dX10_pass_38 : decode cX10_pass 38 = .ok (.aload_n 0, 1) := by decide +kernel
theorem dX10_pass_39 : decode cX10_pass 39 = .ok (.iload_n 1, 1) := by decide +kernel
theorem dX10_pass_40 : decode cX10_pass 40 = .ok (.invokevirtual 128, 3) := by decide +kernel
theorem dX10_pass_43 : decode cX10_pass 43 = .ok (.aload_n 0, 1) := by decide +kernel
theorem dX10_pass_44 : decode cX10_pass 44 = .ok (.iconst 2, 1) := by decide +kernel
theorem dX10_pass_45 : decode cX10_pass 45 = .ok (.invokevirtual 125, 3) := by decide +kernel
theorem dX10_pass_48 : decode cX10_pass 48 = .ok (.iload_n 2, 1) := by decide +kernel
theorem dX10_pass_49 : decode cX10_pass 49 = .ok (.isub, 1) := by decide +kernel
theorem dX10_pass_50 : decode cX10_pass 50 = .ok (.ireturn, 1) := by decide +kernel
theorem dX10_takesItem_0 : decode cX10_takesItem 0 = .ok (.bipush 12, 2) := by decide +kernel
theorem dX10_takesItem_2 : decode cX10_takesItem 2 = .ok (.aload_n 0, 1) := by decide +kernel
theorem dX10_takesItem_3 : decode cX10_takesItem 3 = .ok (.getfield 132, 3) := by decide +kernel
theorem dX10_takesItem_6 : decode cX10_takesItem 6 = .ok (.imul, 1) := by decide +kernel
theorem dX10_takesItem_7 : decode cX10_takesItem 7 = .ok (.iconst 3, 1) := by decide +kernel
theorem dX10_takesItem_8 : decode cX10_takesItem 8 = .ok (.aload_n 0, 1) := by decide +kernel
theorem dX10_takesItem_9 : decode cX10_takesItem 9 = .ok (.getfield 28, 3) := by decide +kernel
theorem dX10_takesItem_12 : decode cX10_takesItem 12 = .ok (.aload_n 0, 1) := by decide +kernel
theorem dX10_takesItem_13 : decode cX10_takesItem 13 = .ok (.getfield 132, 3) := by decide +kernel
theorem dX10_takesItem_16 : decode cX10_takesItem 16 = .ok (.iaload, 1) := by decide +kernel
theorem dX10_takesItem_17 : decode cX10_takesItem 17 = .ok (.imul, 1) := by decide +kernel
theorem dX10_takesItem_18 : decode cX10_takesItem 18 = .ok (.iadd, 1) := by decide +kernel
theorem dX10_takesItem_19 : decode cX10_takesItem 19 = .ok (.istore_n 2, 1) := by decide +kernel
theorem dX10_takesItem_20 : decode cX10_takesItem 20 = .ok (.aload_n 0, 1) := by decide +kernel
theorem dX10_takesItem_21 : decode cX10_takesItem 21 = .ok (.getfield 25, 3) := by decide +kernel
theorem dX10_takesItem_24 : decode cX10_takesItem 24 = .ok (.iload_n 2, 1) := by decide +kernel
theorem dX10_takesItem_25 : decode cX10_takesItem 25 = .ok (.iload_n 1, 1) := by decide +kernel
theorem dX10_takesItem_26 : decode cX10_takesItem 26 = .ok (.bipush 48, 2) := by decide +kernel
theorem dX10_takesItem_28 : decode cX10_takesItem 28 = .ok (.isub, 1) := by decide +kernel
theorem dX10_takesItem_29 : decode cX10_takesItem 29 = .ok (.iastore, 1) := by decide +kernel
theorem dX10_takesItem_30 : decode cX10_takesItem 30 = .ok (.aload_n 0, 1) := by decide +kernel
theorem dX10_takesItem_31 : decode cX10_takesItem 31 = .ok (.getfield 25, 3) := by decide +kernel
theorem dX10_takesItem_34 : decode cX10_takesItem 34 = .ok (.iload_n 2, 1) := by decide +kernel
theorem dX10_takesItem_35 : decode cX10_takesItem 35 = .ok (.iconst 1, 1) := by decide +kernel
theorem dX10_takesItem_36 : decode cX10_takesItem 36 = .ok (.iadd, 1) := by decide +kernel
theorem dX10_takesItem_37 : decode cX10_takesItem 37 = .ok (.iconst 0, 1) := by decide +kernel
theorem dX10_takesItem_38 : decode cX10_takesItem 38 = .ok (.iastore, 1) := by decide +kernel
theorem dX10_takesItem_39 : decode cX10_takesItem 39 = .ok (.aload_n 0, 1) := by decide +kernel
theorem dX10_takesItem_40 : decode cX10_takesItem 40 = .ok (.getfield 25, 3) := by decide +kernel
theorem dX10_takesItem_43 : decode cX10_takesItem 43 = .ok (.iload_n 2, 1) := by decide +kernel
theorem dX10_takesItem_44 : decode cX10_takesItem 44 = .ok (.iconst 2, 1) := by decide +kernel
theorem dX10_takesItem_45 : decode cX10_takesItem 45 = .ok (.iadd, 1) := by decide +kernel
theorem dX10_takesItem_46 : decode cX10_takesItem 46 = .ok (.iconst (-1), 1) := by decide +kernel
theorem dX10_takesItem_47 : decode cX10_takesItem 47 = .ok (.iastore, 1) := by decide +kernel
theorem dX10_takesItem_48 : decode cX10_takesItem 48 = .ok (.aload_n 0, 1) := by decide +kernel
theorem dX10_takesItem_49 : decode cX10_takesItem 49 = .ok (.iconst 1, 1) := by decide +kernel
theorem dX10_takesItem_50 : decode cX10_takesItem 50 = .ok (.putfield 135, 3) := by decide +kernel
theorem dX10_takesItem_53 : decode cX10_takesItem 53 = .ok (.iload_n 1, 1) := by decide +kernel
theorem dX10_takesItem_54 : decode cX10_takesItem 54 = .ok (.bipush 48, 2) := by decide +kernel
theorem dX10_takesItem_56 : decode cX10_takesItem 56 = .ok (.bipush 55, 2) := by decide +kernel
theorem dX10_takesItem_58 : decode cX10_takesItem 58 = .ok (.invokestatic 35, 3) := by decide +kernel
theorem dX10_takesItem_61 : decode cX10_takesItem 61 = .ok (.ireturn, 1) := by decide +kernel
theorem dX10_goesOn_0 : decode cX10_goesOn 0 = .ok (.iload_n 1, 1) := by decide +kernel
theorem dX10_goesOn_1 : decode cX10_goesOn 1 = .ok (.bipush 59, 2) := by decide +kernel
theorem dX10_goesOn_3 : decode cX10_goesOn 3 = .ok (.if_icmp .ne 39, 3) := by decide +kernel
theorem dX10_goesOn_6 : decode cX10_goesOn 6 = .ok (.aload_n 0, 1) := by decide +kernel
theorem dX10_goesOn_7 : decode cX10_goesOn 7 = .ok (.getfield 132, 3) := by decide +kernel
theorem dX10_goesOn_10 : decode cX10_goesOn 10 = .ok (.bipush 9, 2) := by decide +kernel
theorem dX10_goesOn_12 : decode cX10_goesOn 12 = .ok (.if_icmp .ge 30, 3) := by decide +kernel
theorem dX10_goesOn_15 : decode cX10_goesOn 15 = .ok (.aload_n 0, 1) := by decide +kernel
theorem dX10_goesOn_16 : decode cX10_goesOn 16 = .ok (.dup, 1) := by decide +kernel
theorem dX10_goesOn_17 : decode cX10_goesOn 17 = .ok (.getfield 132, 3) := by decide +kernel
theorem dX10_goesOn_20 : decode cX10_goesOn 20 = .ok (.iconst 1, 1) := by decide +kernel
theorem dX10_goesOn_21 : decode cX10_goesOn 21 = .ok (.iadd, 1) := by decide +kernel
theorem dX10_goesOn_22 : decode cX10_goesOn 22 = .ok (.putfield 132, 3) := by decide +kernel
theorem dX10_goesOn_25 : decode cX10_goesOn 25 = .ok (.aload_n 0, 1) := by decide +kernel
theorem dX10_goesOn_26 : decode cX10_goesOn 26 = .ok (.getfield 28, 3) := by decide +kernel
theorem dX10_goesOn_29 : decode cX10_goesOn 29 = .ok (.aload_n 0, 1) := by decide +kernel
theorem dX10_goesOn_30 : decode cX10_goesOn 30 = .ok (.getfield 132, 3) := by decide +kernel
theorem dX10_goesOn_33 : decode cX10_goesOn 33 = .ok (.iconst 0, 1) := by decide +kernel
theorem dX10_goesOn_34 : decode cX10_goesOn 34 = .ok (.iastore, 1) := by decide +kernel
theorem dX10_goesOn_35 : decode cX10_goesOn 35 = .ok (.aload_n 0, 1) := by decide +kernel
theorem dX10_goesOn_36 : decode cX10_goesOn 36 = .ok (.iconst 0, 1) := by decide +kernel
theorem dX10_goesOn_37 : decode cX10_goesOn 37 = .ok (.putfield 135, 3) := by decide +kernel
theorem dX10_goesOn_40 : decode cX10_goesOn 40 = .ok (.iconst 1, 1) := by decide +kernel
theorem dX10_goesOn_41 : decode cX10_goesOn 41 = .ok (.ireturn, 1) := by decide +kernel
theorem dX10_goesOn_42 : decode cX10_goesOn 42 = .ok (.iload_n 1, 1) := by decide +kernel
theorem dX10_goesOn_43 : decode cX10_goesOn 43 = .ok (.bipush 44, 2) := by decide +kernel
theorem dX10_goesOn_45 : decode cX10_goesOn 45 = .ok (.if_icmp .ne 33, 3) := by decide +kernel
theorem dX10_goesOn_48 : decode cX10_goesOn 48 = .ok (.aload_n 0, 1) := by decide +kernel
theorem dX10_goesOn_49 : decode cX10_goesOn 49 = .ok (.getfield 135, 3) := by decide +kernel
theorem dX10_goesOn_52 : decode cX10_goesOn 52 = .ok (.bipush 6, 2) := by decide +kernel
theorem dX10_goesOn_54 : decode cX10_goesOn 54 = .ok (.if_icmp .eq 24, 3) := by decide +kernel
theorem dX10_goesOn_57 : decode cX10_goesOn 57 = .ok (.aload_n 0, 1) := by decide +kernel
theorem dX10_goesOn_58 : decode cX10_goesOn 58 = .ok (.getfield 28, 3) := by decide +kernel
theorem dX10_goesOn_61 : decode cX10_goesOn 61 = .ok (.aload_n 0, 1) := by decide +kernel
theorem dX10_goesOn_62 : decode cX10_goesOn 62 = .ok (.getfield 132, 3) := by decide +kernel
theorem dX10_goesOn_65 : decode cX10_goesOn 65 = .ok (.iaload, 1) := by decide +kernel
theorem dX10_goesOn_66 : decode cX10_goesOn 66 = .ok (.iconst 4, 1) := by decide +kernel
theorem dX10_goesOn_67 : decode cX10_goesOn 67 = .ok (.if_icmp .ge 11, 3) := by decide +kernel
theorem dX10_goesOn_70 : decode cX10_goesOn 70 = .ok (.aload_n 0, 1) := by decide +kernel
theorem dX10_goesOn_71 : decode cX10_goesOn 71 = .ok (.bipush 7, 2) := by decide +kernel
theorem dX10_goesOn_73 : decode cX10_goesOn 73 = .ok (.putfield 135, 3) := by decide +kernel
theorem dX10_goesOn_76 : decode cX10_goesOn 76 = .ok (.iconst 1, 1) := by decide +kernel
theorem dX10_goesOn_77 : decode cX10_goesOn 77 = .ok (.ireturn, 1) := by decide +kernel
theorem dX10_goesOn_78 : decode cX10_goesOn 78 = .ok (.iload_n 1, 1) := by decide +kernel
theorem dX10_goesOn_79 : decode cX10_goesOn 79 = .ok (.bipush 47, 2) := by decide +kernel
theorem dX10_goesOn_81 : decode cX10_goesOn 81 = .ok (.if_icmp .ne 15, 3) := by decide +kernel
theorem dX10_goesOn_84 : decode cX10_goesOn 84 = .ok (.aload_n 0, 1) := by decide +kernel
theorem dX10_goesOn_85 : decode cX10_goesOn 85 = .ok (.getfield 135, 3) := by decide +kernel
theorem dX10_goesOn_88 : decode cX10_goesOn 88 = .ok (.iconst 3, 1) := by decide +kernel
theorem dX10_goesOn_89 : decode cX10_goesOn 89 = .ok (.if_icmp .ne 7, 3) := by decide +kernel
theorem dX10_goesOn_92 : decode cX10_goesOn 92 = .ok (.iconst 1, 1) := by decide +kernel
theorem dX10_goesOn_93 : decode cX10_goesOn 93 = .ok (.goto 4, 3) := by decide +kernel
theorem dX10_goesOn_96 : decode cX10_goesOn 96 = .ok (.iconst 0, 1) := by decide +kernel
theorem dX10_goesOn_97 : decode cX10_goesOn 97 = .ok (.istore_n 2, 1) := by decide +kernel
theorem dX10_goesOn_98 : decode cX10_goesOn 98 = .ok (.aload_n 0, 1) := by decide +kernel
theorem dX10_goesOn_99 : decode cX10_goesOn 99 = .ok (.iconst 4, 1) := by decide +kernel
theorem dX10_goesOn_100 : decode cX10_goesOn 100 = .ok (.putfield 135, 3) := by decide +kernel
theorem dX10_goesOn_103 : decode cX10_goesOn 103 = .ok (.iload_n 2, 1) := by decide +kernel
theorem dX10_goesOn_104 : decode cX10_goesOn 104 = .ok (.ireturn, 1) := by decide +kernel
theorem dX10_takes_0 : decode cX10_takes 0 = .ok (.bipush 12, 2) := by decide +kernel
theorem dX10_takes_2 : decode cX10_takes 2 = .ok (.aload_n 0, 1) := by decide +kernel
theorem dX10_takes_3 : decode cX10_takes 3 = .ok (.getfield 132, 3) := by decide +kernel
theorem dX10_takes_6 : decode cX10_takes 6 = .ok (.imul, 1) := by decide +kernel
theorem dX10_takes_7 : decode cX10_takes 7 = .ok (.iconst 3, 1) := by decide +kernel
theorem dX10_takes_8 : decode cX10_takes 8 = .ok (.aload_n 0, 1) := by decide +kernel
theorem dX10_takes_9 : decode cX10_takes 9 = .ok (.getfield 28, 3) := by decide +kernel
theorem dX10_takes_12 : decode cX10_takes 12 = .ok (.aload_n 0, 1) := by decide +kernel
theorem dX10_takes_13 : decode cX10_takes 13 = .ok (.getfield 132, 3) := by decide +kernel
theorem dX10_takes_16 : decode cX10_takes 16 = .ok (.iaload, 1) := by decide +kernel
theorem dX10_takes_17 : decode cX10_takes 17 = .ok (.imul, 1) := by decide +kernel
theorem dX10_takes_18 : decode cX10_takes 18 = .ok (.iadd, 1) := by decide +kernel
theorem dX10_takes_19 : decode cX10_takes 19 = .ok (.istore_n 2, 1) := by decide +kernel
theorem dX10_takes_20 : decode cX10_takes 20 = .ok (.aload_n 0, 1) := by decide +kernel
theorem dX10_takes_21 : decode cX10_takes 21 = .ok (.getfield 135, 3) := by decide +kernel
theorem dX10_takes_24 : decode cX10_takes 24 = .ok (.tableswitch 179 0 7 #[48, 68, 85, 179, 124, 179, 179, 173], 48) := by decide +kernel
theorem dX10_takes_72 : decode cX10_takes 72 = .ok (.iload_n 1, 1) := by decide +kernel
theorem dX10_takes_73 : decode cX10_takes 73 = .ok (.bipush 45, 2) := by decide +kernel
theorem dX10_takes_75 : decode cX10_takes 75 = .ok (.if_icmp .ne 11, 3) := by decide +kernel
theorem dX10_takes_78 : decode cX10_takes 78 = .ok (.aload_n 0, 1) := by decide +kernel
theorem dX10_takes_79 : decode cX10_takes 79 = .ok (.bipush 6, 2) := by decide +kernel
theorem dX10_takes_81 : decode cX10_takes 81 = .ok (.putfield 135, 3) := by decide +kernel
theorem dX10_takes_84 : decode cX10_takes 84 = .ok (.iconst 1, 1) := by decide +kernel
theorem dX10_takes_85 : decode cX10_takes 85 = .ok (.ireturn, 1) := by decide +kernel
theorem dX10_takes_86 : decode cX10_takes 86 = .ok (.aload_n 0, 1) := by decide +kernel
theorem dX10_takes_87 : decode cX10_takes 87 = .ok (.iload_n 1, 1) := by decide +kernel
theorem dX10_takes_88 : decode cX10_takes 88 = .ok (.invokevirtual 138, 3) := by decide +kernel
theorem dX10_takes_91 : decode cX10_takes 91 = .ok (.ireturn, 1) := by decide +kernel
theorem dX10_takes_92 : decode cX10_takes 92 = .ok (.aload_n 0, 1) := by decide +kernel
theorem dX10_takes_93 : decode cX10_takes 93 = .ok (.iconst 2, 1) := by decide +kernel
theorem dX10_takes_94 : decode cX10_takes 94 = .ok (.putfield 135, 3) := by decide +kernel
theorem dX10_takes_97 : decode cX10_takes 97 = .ok (.iload_n 1, 1) := by decide +kernel
theorem dX10_takes_98 : decode cX10_takes 98 = .ok (.bipush 42, 2) := by decide +kernel
theorem dX10_takes_100 : decode cX10_takes 100 = .ok (.if_icmp .ne 7, 3) := by decide +kernel
theorem dX10_takes_103 : decode cX10_takes 103 = .ok (.iconst 1, 1) := by decide +kernel
theorem dX10_takes_104 : decode cX10_takes 104 = .ok (.goto 4, 3) := by decide +kernel
theorem dX10_takes_107 : decode cX10_takes 107 = .ok (.iconst 0, 1) := by decide +kernel
theorem dX10_takes_108 : decode cX10_takes 108 = .ok (.ireturn, 1) := by decide +kernel
theorem dX10_takes_109 : decode cX10_takes 109 = .ok (.aload_n 0, 1) := by decide +kernel
theorem dX10_takes_110 : decode cX10_takes 110 = .ok (.getfield 25, 3) := by decide +kernel
theorem dX10_takes_113 : decode cX10_takes 113 = .ok (.iload_n 2, 1) := by decide +kernel
theorem dX10_takes_114 : decode cX10_takes 114 = .ok (.iconst 1, 1) := by decide +kernel
theorem dX10_takes_115 : decode cX10_takes 115 = .ok (.iadd, 1) := by decide +kernel
theorem dX10_takes_116 : decode cX10_takes 116 = .ok (.iload_n 1, 1) := by decide +kernel
theorem dX10_takes_117 : decode cX10_takes 117 = .ok (.bipush 48, 2) := by decide +kernel
theorem dX10_takes_119 : decode cX10_takes 119 = .ok (.isub, 1) := by decide +kernel
theorem dX10_takes_120 : decode cX10_takes 120 = .ok (.iastore, 1) := by decide +kernel
theorem dX10_takes_121 : decode cX10_takes 121 = .ok (.aload_n 0, 1) := by decide +kernel
theorem dX10_takes_122 : decode cX10_takes 122 = .ok (.getfield 28, 3) := by decide +kernel
theorem dX10_takes_125 : decode cX10_takes 125 = .ok (.aload_n 0, 1) := by decide +kernel
theorem dX10_takes_126 : decode cX10_takes 126 = .ok (.getfield 132, 3) := by decide +kernel
theorem dX10_takes_129 : decode cX10_takes 129 = .ok (.dup2, 1) := by decide +kernel
theorem dX10_takes_130 : decode cX10_takes 130 = .ok (.iaload, 1) := by decide +kernel
theorem dX10_takes_131 : decode cX10_takes 131 = .ok (.iconst 1, 1) := by decide +kernel
theorem dX10_takes_132 : decode cX10_takes 132 = .ok (.iadd, 1) := by decide +kernel
theorem dX10_takes_133 : decode cX10_takes 133 = .ok (.iastore, 1) := by decide +kernel
theorem dX10_takes_134 : decode cX10_takes 134 = .ok (.aload_n 0, 1) := by decide +kernel
theorem dX10_takes_135 : decode cX10_takes 135 = .ok (.iconst 3, 1) := by decide +kernel
theorem dX10_takes_136 : decode cX10_takes 136 = .ok (.putfield 135, 3) := by decide +kernel
theorem dX10_takes_139 : decode cX10_takes 139 = .ok (.iload_n 1, 1) := by decide +kernel
theorem dX10_takes_140 : decode cX10_takes 140 = .ok (.bipush 49, 2) := by decide +kernel
theorem dX10_takes_142 : decode cX10_takes 142 = .ok (.bipush 57, 2) := by decide +kernel
theorem dX10_takes_144 : decode cX10_takes 144 = .ok (.invokestatic 35, 3) := by decide +kernel
theorem dX10_takes_147 : decode cX10_takes 147 = .ok (.ireturn, 1) := by decide +kernel
theorem dX10_takes_148 : decode cX10_takes 148 = .ok (.aload_n 0, 1) := by decide +kernel
theorem dX10_takes_149 : decode cX10_takes 149 = .ok (.getfield 25, 3) := by decide +kernel
theorem dX10_takes_152 : decode cX10_takes 152 = .ok (.iload_n 2, 1) := by decide +kernel
theorem dX10_takes_153 : decode cX10_takes 153 = .ok (.iconst 1, 1) := by decide +kernel
theorem dX10_takes_154 : decode cX10_takes 154 = .ok (.isub, 1) := by decide +kernel
theorem dX10_takes_155 : decode cX10_takes 155 = .ok (.iload_n 1, 1) := by decide +kernel
theorem dX10_takes_156 : decode cX10_takes 156 = .ok (.bipush 48, 2) := by decide +kernel
theorem dX10_takes_158 : decode cX10_takes 158 = .ok (.isub, 1) := by decide +kernel
theorem dX10_takes_159 : decode cX10_takes 159 = .ok (.iastore, 1) := by decide +kernel
theorem dX10_takes_160 : decode cX10_takes 160 = .ok (.aload_n 0, 1) := by decide +kernel
theorem dX10_takes_161 : decode cX10_takes 161 = .ok (.iconst 5, 1) := by decide +kernel
theorem dX10_takes_162 : decode cX10_takes 162 = .ok (.putfield 135, 3) := by decide +kernel
theorem dX10_takes_165 : decode cX10_takes 165 = .ok (.iload_n 1, 1) := by decide +kernel
theorem dX10_takes_166 : decode cX10_takes 166 = .ok (.bipush 48, 2) := by decide +kernel
theorem dX10_takes_168 : decode cX10_takes 168 = .ok (.bipush 55, 2) := by decide +kernel
theorem dX10_takes_170 : decode cX10_takes 170 = .ok (.invokestatic 35, 3) := by decide +kernel
theorem dX10_takes_173 : decode cX10_takes 173 = .ok (.ifCond .eq 22, 3) := by decide +kernel
theorem dX10_takes_176 : decode cX10_takes 176 = .ok (.iload_n 1, 1) := by decide +kernel
theorem dX10_takes_177 : decode cX10_takes 177 = .ok (.bipush 48, 2) := by decide +kernel
theorem dX10_takes_179 : decode cX10_takes 179 = .ok (.isub, 1) := by decide +kernel
theorem dX10_takes_180 : decode cX10_takes 180 = .ok (.aload_n 0, 1) := by decide +kernel
theorem dX10_takes_181 : decode cX10_takes 181 = .ok (.getfield 25, 3) := by decide +kernel
theorem dX10_takes_184 : decode cX10_takes 184 = .ok (.iload_n 2, 1) := by decide +kernel
theorem dX10_takes_185 : decode cX10_takes 185 = .ok (.iconst 3, 1) := by decide +kernel
theorem dX10_takes_186 : decode cX10_takes 186 = .ok (.isub, 1) := by decide +kernel
theorem dX10_takes_187 : decode cX10_takes 187 = .ok (.iaload, 1) := by decide +kernel
theorem dX10_takes_188 : decode cX10_takes 188 = .ok (.if_icmp .eq 7, 3) := by decide +kernel
theorem dX10_takes_191 : decode cX10_takes 191 = .ok (.iconst 1, 1) := by decide +kernel
theorem dX10_takes_192 : decode cX10_takes 192 = .ok (.goto 4, 3) := by decide +kernel
theorem dX10_takes_195 : decode cX10_takes 195 = .ok (.iconst 0, 1) := by decide +kernel
theorem dX10_takes_196 : decode cX10_takes 196 = .ok (.ireturn, 1) := by decide +kernel
theorem dX10_takes_197 : decode cX10_takes 197 = .ok (.aload_n 0, 1) := by decide +kernel
theorem dX10_takes_198 : decode cX10_takes 198 = .ok (.iload_n 1, 1) := by decide +kernel
theorem dX10_takes_199 : decode cX10_takes 199 = .ok (.invokevirtual 138, 3) := by decide +kernel
theorem dX10_takes_202 : decode cX10_takes 202 = .ok (.ireturn, 1) := by decide +kernel
theorem dX10_takes_203 : decode cX10_takes 203 = .ok (.aload_n 0, 1) := by decide +kernel
theorem dX10_takes_204 : decode cX10_takes 204 = .ok (.iload_n 1, 1) := by decide +kernel
theorem dX10_takes_205 : decode cX10_takes 205 = .ok (.invokevirtual 141, 3) := by decide +kernel
theorem dX10_takes_208 : decode cX10_takes 208 = .ok (.ireturn, 1) := by decide +kernel
theorem dX10_rightLength_0 : decode cX10_rightLength 0 = .ok (.aload_n 0, 1) := by decide +kernel
theorem dX10_rightLength_1 : decode cX10_rightLength 1 = .ok (.iconst 0, 1) := by decide +kernel
theorem dX10_rightLength_2 : decode cX10_rightLength 2 = .ok (.putfield 132, 3) := by decide +kernel
theorem dX10_rightLength_5 : decode cX10_rightLength 5 = .ok (.aload_n 0, 1) := by decide +kernel
theorem dX10_rightLength_6 : decode cX10_rightLength 6 = .ok (.getfield 28, 3) := by decide +kernel
theorem dX10_rightLength_9 : decode cX10_rightLength 9 = .ok (.iconst 0, 1) := by decide +kernel
theorem dX10_rightLength_10 : decode cX10_rightLength 10 = .ok (.iconst 0, 1) := by decide +kernel
theorem dX10_rightLength_11 : decode cX10_rightLength 11 = .ok (.iastore, 1) := by decide +kernel
theorem dX10_rightLength_12 : decode cX10_rightLength 12 = .ok (.aload_n 0, 1) := by decide +kernel
theorem dX10_rightLength_13 : decode cX10_rightLength 13 = .ok (.iconst 0, 1) := by decide +kernel
theorem dX10_rightLength_14 : decode cX10_rightLength 14 = .ok (.putfield 135, 3) := by decide +kernel
theorem dX10_rightLength_17 : decode cX10_rightLength 17 = .ok (.iconst 0, 1) := by decide +kernel
theorem dX10_rightLength_18 : decode cX10_rightLength 18 = .ok (.istore_n 1, 1) := by decide +kernel
theorem dX10_rightLength_19 : decode cX10_rightLength 19 = .ok (.iload_n 1, 1) := by decide +kernel
theorem dX10_rightLength_20 : decode cX10_rightLength 20 = .ok (.aload_n 0, 1) := by decide +kernel
theorem dX10_rightLength_21 : decode cX10_rightLength 21 = .ok (.getfield 144, 3) := by decide +kernel
theorem dX10_rightLength_24 : decode cX10_rightLength 24 = .ok (.if_icmp .ge 22, 3) := by decide +kernel
theorem dX10_rightLength_27 : decode cX10_rightLength 27 = .ok (.aload_n 0, 1) := by decide +kernel
theorem dX10_rightLength_28 : decode cX10_rightLength 28 = .ok (.aload_n 0, 1) := by decide +kernel
theorem dX10_rightLength_29 : decode cX10_rightLength 29 = .ok (.getfield 19, 3) := by decide +kernel
theorem dX10_rightLength_32 : decode cX10_rightLength 32 = .ok (.iload_n 1, 1) := by decide +kernel
theorem dX10_rightLength_33 : decode cX10_rightLength 33 = .ok (.iaload, 1) := by decide +kernel
theorem dX10_rightLength_34 : decode cX10_rightLength 34 = .ok (.invokevirtual 147, 3) := by decide +kernel
theorem dX10_rightLength_37 : decode cX10_rightLength 37 = .ok (.ifCond .eq 9, 3) := by decide +kernel
theorem dX10_rightLength_40 : decode cX10_rightLength 40 = .ok (.iinc 1 1, 3) := by decide +kernel
theorem dX10_rightLength_43 : decode cX10_rightLength 43 = .ok (.goto (-24), 3) := by decide +kernel
theorem dX10_rightLength_46 : decode cX10_rightLength 46 = .ok (.iload_n 1, 1) := by decide +kernel
theorem dX10_rightLength_47 : decode cX10_rightLength 47 = .ok (.ireturn, 1) := by decide +kernel
theorem dX10_append_0 : decode cX10_append 0 = .ok (.aload_n 0, 1) := by decide +kernel
theorem dX10_append_1 : decode cX10_append 1 = .ok (.iload_n 1, 1) := by decide +kernel
theorem dX10_append_2 : decode cX10_append 2 = .ok (.bipush 33, 2) := by decide +kernel
theorem dX10_append_4 : decode cX10_append 4 = .ok (.bipush 126, 2) := by decide +kernel
theorem dX10_append_6 : decode cX10_append 6 = .ok (.invokestatic 35, 3) := by decide +kernel
theorem dX10_append_9 : decode cX10_append 9 = .ok (.ifCond .ne 7, 3) := by decide +kernel
theorem dX10_append_12 : decode cX10_append 12 = .ok (.iconst 1, 1) := by decide +kernel
theorem dX10_append_13 : decode cX10_append 13 = .ok (.goto 17, 3) := by decide +kernel
theorem dX10_append_16 : decode cX10_append 16 = .ok (.aload_n 0, 1) := by decide +kernel
theorem dX10_append_17 : decode cX10_append 17 = .ok (.getfield 144, 3) := by decide +kernel
theorem dX10_append_20 : decode cX10_append 20 = .ok (.bipush 60, 2) := by decide +kernel
theorem dX10_append_22 : decode cX10_append 22 = .ok (.if_icmp .ne 7, 3) := by decide +kernel
theorem dX10_append_25 : decode cX10_append 25 = .ok (.iconst 2, 1) := by decide +kernel
theorem dX10_append_26 : decode cX10_append 26 = .ok (.goto 4, 3) := by decide +kernel
theorem dX10_append_29 : decode cX10_append 29 = .ok (.iconst 0, 1) := by decide +kernel
theorem dX10_append_30 : decode cX10_append 30 = .ok (.putfield 31, 3) := by decide +kernel
theorem dX10_append_33 : decode cX10_append 33 = .ok (.aload_n 0, 1) := by decide +kernel
theorem dX10_append_34 : decode cX10_append 34 = .ok (.getfield 31, 3) := by decide +kernel
theorem dX10_append_37 : decode cX10_append 37 = .ok (.ifCond .le 5, 3) := by decide +kernel
theorem dX10_append_40 : decode cX10_append 40 = .ok (.iconst 0, 1) := by decide +kernel
theorem dX10_append_41 : decode cX10_append 41 = .ok (.ireturn, 1) := by decide +kernel
theorem dX10_append_42 : decode cX10_append 42 = .ok (.aload_n 0, 1) := by decide +kernel
theorem dX10_append_43 : decode cX10_append 43 = .ok (.getfield 19, 3) := by decide +kernel
theorem dX10_append_46 : decode cX10_append 46 = .ok (.aload_n 0, 1) := by decide +kernel
theorem dX10_append_47 : decode cX10_append 47 = .ok (.getfield 144, 3) := by decide +kernel
theorem dX10_append_50 : decode cX10_append 50 = .ok (.iload_n 1, 1) := by decide +kernel
theorem dX10_append_51 : decode cX10_append 51 = .ok (.iastore, 1) := by decide +kernel
theorem dX10_append_52 : decode cX10_append 52 = .ok (.aload_n 0, 1) := by decide +kernel
theorem dX10_append_53 : decode cX10_append 53 = .ok (.dup, 1) := by decide +kernel
theorem dX10_append_54 : decode cX10_append 54 = .ok (.getfield 144, 3) := by decide +kernel
theorem dX10_append_57 : decode cX10_append 57 = .ok (.iconst 1, 1) := by decide +kernel
theorem dX10_append_58 : decode cX10_append 58 = .ok (.iadd, 1) := by decide +kernel
theorem dX10_append_59 : decode cX10_append 59 = .ok (.putfield 144, 3) := by decide +kernel
theorem dX10_append_62 : decode cX10_append 62 = .ok (.aload_n 0, 1) := by decide +kernel
theorem dX10_append_63 : decode cX10_append 63 = .ok (.getfield 144, 3) := by decide +kernel
theorem dX10_append_66 : decode cX10_append 66 = .ok (.ireturn, 1) := by decide +kernel
theorem dX10_clearBuffer_0 : decode cX10_clearBuffer 0 = .ok (.aload_n 0, 1) := by decide +kernel
theorem dX10_clearBuffer_1 : decode cX10_clearBuffer 1 = .ok (.iconst 0, 1) := by decide +kernel
theorem dX10_clearBuffer_2 : decode cX10_clearBuffer 2 = .ok (.putfield 31, 3) := by decide +kernel
theorem dX10_clearBuffer_5 : decode cX10_clearBuffer 5 = .ok (.aload_n 0, 1) := by decide +kernel
theorem dX10_clearBuffer_6 : decode cX10_clearBuffer 6 = .ok (.getfield 144, 3) := by decide +kernel
theorem dX10_clearBuffer_9 : decode cX10_clearBuffer 9 = .ok (.istore_n 1, 1) := by decide +kernel
theorem dX10_clearBuffer_10 : decode cX10_clearBuffer 10 = .ok (.aload_n 0, 1) := by decide +kernel
theorem dX10_clearBuffer_11 : decode cX10_clearBuffer 11 = .ok (.iconst 0, 1) := by decide +kernel
theorem dX10_clearBuffer_12 : decode cX10_clearBuffer 12 = .ok (.putfield 144, 3) := by decide +kernel
theorem dX10_clearBuffer_15 : decode cX10_clearBuffer 15 = .ok (.iload_n 1, 1) := by decide +kernel
theorem dX10_clearBuffer_16 : decode cX10_clearBuffer 16 = .ok (.ireturn, 1) := by decide +kernel
theorem dX10_firstError_0 : decode cX10_firstError 0 = .ok (.aload_n 0, 1) := by decide +kernel
theorem dX10_firstError_1 : decode cX10_firstError 1 = .ok (.iconst 0, 1) := by decide +kernel
theorem dX10_firstError_2 : decode cX10_firstError 2 = .ok (.putfield 31, 3) := by decide +kernel
theorem dX10_firstError_5 : decode cX10_firstError 5 = .ok (.aload_n 0, 1) := by decide +kernel
theorem dX10_firstError_6 : decode cX10_firstError 6 = .ok (.invokevirtual 150, 3) := by decide +kernel
theorem dX10_firstError_9 : decode cX10_firstError 9 = .ok (.ireturn, 1) := by decide +kernel
theorem dX10_areKinds_0 : decode cX10_areKinds 0 = .ok (.iconst 1, 1) := by decide +kernel
theorem dX10_areKinds_1 : decode cX10_areKinds 1 = .ok (.istore_n 1, 1) := by decide +kernel
theorem dX10_areKinds_2 : decode cX10_areKinds 2 = .ok (.iconst 0, 1) := by decide +kernel
theorem dX10_areKinds_3 : decode cX10_areKinds 3 = .ok (.istore_n 2, 1) := by decide +kernel
theorem dX10_areKinds_4 : decode cX10_areKinds 4 = .ok (.iload_n 2, 1) := by decide +kernel
theorem dX10_areKinds_5 : decode cX10_areKinds 5 = .ok (.aload_n 0, 1) := by decide +kernel
theorem dX10_areKinds_6 : decode cX10_areKinds 6 = .ok (.getfield 132, 3) := by decide +kernel
theorem dX10_areKinds_9 : decode cX10_areKinds 9 = .ok (.if_icmp .gt 90, 3) := by decide +kernel
theorem dX10_areKinds_12 : decode cX10_areKinds 12 = .ok (.iconst 0, 1) := by decide +kernel
theorem dX10_areKinds_13 : decode cX10_areKinds 13 = .ok (.istore_n 3, 1) := by decide +kernel
theorem dX10_areKinds_14 : decode cX10_areKinds 14 = .ok (.iload_n 3, 1) := by decide +kernel
theorem dX10_areKinds_15 : decode cX10_areKinds 15 = .ok (.aload_n 0, 1) := by decide +kernel
theorem dX10_areKinds_16 : decode cX10_areKinds 16 = .ok (.getfield 28, 3) := by decide +kernel
theorem dX10_areKinds_19 : decode cX10_areKinds 19 = .ok (.iload_n 2, 1) := by decide +kernel
theorem dX10_areKinds_20 : decode cX10_areKinds 20 = .ok (.iaload, 1) := by decide +kernel
theorem dX10_areKinds_21 : decode cX10_areKinds 21 = .ok (.if_icmp .ge 72, 3) := by decide +kernel
theorem dX10_areKinds_24 : decode cX10_areKinds 24 = .ok (.bipush 12, 2) := by decide +kernel
theorem dX10_areKinds_26 : decode cX10_areKinds 26 = .ok (.iload_n 2, 1) := by decide +kernel
theorem dX10_areKinds_27 : decode cX10_areKinds 27 = .ok (.imul, 1) := by decide +kernel
theorem dX10_areKinds_28 : decode cX10_areKinds 28 = .ok (.iconst 3, 1) := by decide +kernel
theorem dX10_areKinds_29 : decode cX10_areKinds 29 = .ok (.iload_n 3, 1) := by decide +kernel
theorem dX10_areKinds_30 : decode cX10_areKinds 30 = .ok (.imul, 1) := by decide +kernel
theorem dX10_areKinds_31 : decode cX10_areKinds 31 = .ok (.iadd, 1) := by decide +kernel
theorem dX10_areKinds_32 : decode cX10_areKinds 32 = .ok (.istore 4, 2) := by decide +kernel
theorem dX10_areKinds_34 : decode cX10_areKinds 34 = .ok (.iload_n 1, 1) := by decide +kernel
theorem dX10_areKinds_35 : decode cX10_areKinds 35 = .ok (.ifCond .eq 50, 3) := by decide +kernel
theorem dX10_areKinds_38 : decode cX10_areKinds 38 = .ok (.aload_n 0, 1) := by decide +kernel
theorem dX10_areKinds_39 : decode cX10_areKinds 39 = .ok (.aload_n 0, 1) := by decide +kernel
theorem dX10_areKinds_40 : decode cX10_areKinds 40 = .ok (.getfield 25, 3) := by decide +kernel
theorem dX10_areKinds_43 : decode cX10_areKinds 43 = .ok (.iload 4, 2) := by decide +kernel
theorem dX10_areKinds_45 : decode cX10_areKinds 45 = .ok (.iaload, 1) := by decide +kernel
theorem dX10_areKinds_46 : decode cX10_areKinds 46 = .ok (.invokevirtual 72, 3) := by decide +kernel
theorem dX10_areKinds_49 : decode cX10_areKinds 49 = .ok (.ifCond .eq 36, 3) := by decide +kernel
theorem dX10_areKinds_52 : decode cX10_areKinds 52 = .ok (.aload_n 0, 1) := by decide +kernel
theorem dX10_areKinds_53 : decode cX10_areKinds 53 = .ok (.getfield 25, 3) := by decide +kernel
theorem dX10_areKinds_56 : decode cX10_areKinds 56 = .ok (.iload 4, 2) := by decide +kernel
theorem dX10_areKinds_58 : decode cX10_areKinds 58 = .ok (.iconst 2, 1) := by decide +kernel
theorem dX10_areKinds_59 : decode cX10_areKinds 59 = .ok (.iadd, 1) := by decide +kernel
theorem dX10_areKinds_60 : decode cX10_areKinds 60 = .ok (.iaload, 1) := by decide +kernel
theorem dX10_areKinds_61 : decode cX10_areKinds 61 = .ok (.iconst (-1), 1) := by decide +kernel
theorem dX10_areKinds_62 : decode cX10_areKinds 62 = .ok (.if_icmp .eq 19, 3) := by decide +kernel
theorem dX10_areKinds_65 : decode cX10_areKinds 65 = .ok (.aload_n 0, 1) := by decide +kernel
theorem dX10_areKinds_66 : decode cX10_areKinds 66 = .ok (.aload_n 0, 1) := by decide +kernel
theorem dX10_areKinds_67 : decode cX10_areKinds 67 = .ok (.getfield 25, 3) := by decide +kernel
theorem dX10_areKinds_70 : decode cX10_areKinds 70 = .ok (.iload 4, 2) := by decide +kernel
theorem dX10_areKinds_72 : decode cX10_areKinds 72 = .ok (.iconst 2, 1) := by decide +kernel
theorem dX10_areKinds_73 : decode cX10_areKinds 73 = .ok (.iadd, 1) := by decide +kernel
theorem dX10_areKinds_74 : decode cX10_areKinds 74 = .ok (.iaload, 1) := by decide +kernel
theorem dX10_areKinds_75 : decode cX10_areKinds 75 = .ok (.invokevirtual 72, 3) := by decide +kernel
theorem dX10_areKinds_78 : decode cX10_areKinds 78 = .ok (.ifCond .eq 7, 3) := by decide +kernel
theorem dX10_areKinds_81 : decode cX10_areKinds 81 = .ok (.iconst 1, 1) := by decide +kernel
theorem dX10_areKinds_82 : decode cX10_areKinds 82 = .ok (.goto 4, 3) := by decide +kernel
theorem dX10_areKinds_85 : decode cX10_areKinds 85 = .ok (.iconst 0, 1) := by decide +kernel
theorem dX10_areKinds_86 : decode cX10_areKinds 86 = .ok (.istore_n 1, 1) := by decide +kernel
theorem dX10_areKinds_87 : decode cX10_areKinds 87 = .ok (.iinc 3 1, 3) := by decide +kernel
theorem dX10_areKinds_90 : decode cX10_areKinds 90 = .ok (.goto (-76), 3) := by decide +kernel
theorem dX10_areKinds_93 : decode cX10_areKinds 93 = .ok (.iinc 2 1, 3) := by decide +kernel
theorem dX10_areKinds_96 : decode cX10_areKinds 96 = .ok (.goto (-92), 3) := by decide +kernel
theorem dX10_areKinds_99 : decode cX10_areKinds 99 = .ok (.iload_n 1, 1) := by decide +kernel
theorem dX10_areKinds_100 : decode cX10_areKinds 100 = .ok (.ireturn, 1) := by decide +kernel
theorem dX10_load_0 : decode cX10_load 0 = .ok (.aload_n 0, 1) := by decide +kernel
theorem dX10_load_1 : decode cX10_load 1 = .ok (.invokevirtual 150, 3) := by decide +kernel
theorem dX10_load_4 : decode cX10_load 4 = .ok (.aload_n 0, 1) := by decide +kernel
theorem dX10_load_5 : decode cX10_load 5 = .ok (.getfield 144, 3) := by decide +kernel
theorem dX10_load_8 : decode cX10_load 8 = .ok (.if_icmp .ne 32, 3) := by decide +kernel
theorem dX10_load_11 : decode cX10_load 11 = .ok (.aload_n 0, 1) := by decide +kernel
theorem dX10_load_12 : decode cX10_load 12 = .ok (.getfield 135, 3) := by decide +kernel
theorem dX10_load_15 : decode cX10_load 15 = .ok (.iconst 3, 1) := by decide +kernel
theorem dX10_load_16 : decode cX10_load 16 = .ok (.if_icmp .eq 20, 3) := by decide +kernel
theorem dX10_load_19 : decode cX10_load 19 = .ok (.aload_n 0, 1) := by decide +kernel
theorem dX10_load_20 : decode cX10_load 20 = .ok (.getfield 135, 3) := by decide +kernel
theorem dX10_load_23 : decode cX10_load 23 = .ok (.iconst 5, 1) := by decide +kernel
theorem dX10_load_24 : decode cX10_load 24 = .ok (.if_icmp .eq 12, 3) := by decide +kernel
theorem dX10_load_27 : decode cX10_load 27 = .ok (.aload_n 0, 1) := by decide +kernel
theorem dX10_load_28 : decode cX10_load 28 = .ok (.getfield 135, 3) := by decide +kernel
theorem dX10_load_31 : decode cX10_load 31 = .ok (.bipush 6, 2) := by decide +kernel
theorem dX10_load_33 : decode cX10_load 33 = .ok (.if_icmp .ne 7, 3) := by decide +kernel
theorem dX10_load_36 : decode cX10_load 36 = .ok (.iconst 1, 1) := by decide +kernel
theorem dX10_load_37 : decode cX10_load 37 = .ok (.goto 4, 3) := by decide +kernel
theorem dX10_load_40 : decode cX10_load 40 = .ok (.iconst 0, 1) := by decide +kernel
theorem dX10_load_41 : decode cX10_load 41 = .ok (.istore_n 1, 1) := by decide +kernel
theorem dX10_load_42 : decode cX10_load 42 = .ok (.aload_n 0, 1) := by decide +kernel
theorem dX10_load_43 : decode cX10_load 43 = .ok (.iload_n 1, 1) := by decide +kernel
theorem dX10_load_44 : decode cX10_load 44 = .ok (.ifCond .ne 7, 3) := by decide +kernel
theorem dX10_load_47 : decode cX10_load 47 = .ok (.iconst 1, 1) := by decide +kernel
theorem dX10_load_48 : decode cX10_load 48 = .ok (.goto 15, 3) := by decide +kernel
theorem dX10_load_51 : decode cX10_load 51 = .ok (.aload_n 0, 1) := by decide +kernel
theorem dX10_load_52 : decode cX10_load 52 = .ok (.invokevirtual 153, 3) := by decide +kernel
theorem dX10_load_55 : decode cX10_load 55 = .ok (.ifCond .eq 7, 3) := by decide +kernel
theorem dX10_load_58 : decode cX10_load 58 = .ok (.iconst 0, 1) := by decide +kernel
theorem dX10_load_59 : decode cX10_load 59 = .ok (.goto 4, 3) := by decide +kernel
theorem dX10_load_62 : decode cX10_load 62 = .ok (.iconst 2, 1) := by decide +kernel
theorem dX10_load_63 : decode cX10_load 63 = .ok (.putfield 31, 3) := by decide +kernel
theorem dX10_load_66 : decode cX10_load 66 = .ok (.aload_n 0, 1) := by decide +kernel
theorem dX10_load_67 : decode cX10_load 67 = .ok (.getfield 31, 3) := by decide +kernel
theorem dX10_load_70 : decode cX10_load 70 = .ok (.ifCond .le 5, 3) := by decide +kernel
theorem dX10_load_73 : decode cX10_load 73 = .ok (.iconst 0, 1) := by decide +kernel
theorem dX10_load_74 : decode cX10_load 74 = .ok (.ireturn, 1) := by decide +kernel
theorem dX10_load_75 : decode cX10_load 75 = .ok (.aload_n 0, 1) := by decide +kernel
theorem dX10_load_76 : decode cX10_load 76 = .ok (.invokevirtual 50, 3) := by decide +kernel
theorem dX10_load_79 : decode cX10_load 79 = .ok (.iconst 0, 1) := by decide +kernel
theorem dX10_load_80 : decode cX10_load 80 = .ok (.istore_n 2, 1) := by decide +kernel
theorem dX10_load_81 : decode cX10_load 81 = .ok (.iload_n 2, 1) := by decide +kernel
theorem dX10_load_82 : decode cX10_load 82 = .ok (.aload_n 0, 1) := by decide +kernel
theorem dX10_load_83 : decode cX10_load 83 = .ok (.getfield 132, 3) := by decide +kernel
theorem dX10_load_86 : decode cX10_load 86 = .ok (.if_icmp .gt 71, 3) := by decide +kernel
theorem dX10_load_89 : decode cX10_load 89 = .ok (.aload_n 0, 1) := by decide +kernel
theorem dX10_load_90 : decode cX10_load 90 = .ok (.getfield 7, 3) := by decide +kernel
theorem dX10_load_93 : decode cX10_load 93 = .ok (.sipush 314, 3) := by decide +kernel
theorem dX10_load_96 : decode cX10_load 96 = .ok (.iload_n 2, 1) := by decide +kernel
theorem dX10_load_97 : decode cX10_load 97 = .ok (.iadd, 1) := by decide +kernel
theorem dX10_load_98 : decode cX10_load 98 = .ok (.aload_n 0, 1) := by decide +kernel
theorem dX10_load_99 : decode cX10_load 99 = .ok (.getfield 28, 3) := by decide +kernel
theorem dX10_load_102 : decode cX10_load 102 = .ok (.iload_n 2, 1) := by decide +kernel
theorem dX10_load_103 : decode cX10_load 103 = .ok (.iaload, 1) := by decide +kernel
theorem dX10_load_104 : decode cX10_load 104 = .ok (.iastore, 1) := by decide +kernel
theorem dX10_load_105 : decode cX10_load 105 = .ok (.iconst 0, 1) := by decide +kernel
theorem dX10_load_106 : decode cX10_load 106 = .ok (.istore_n 3, 1) := by decide +kernel
theorem dX10_load_107 : decode cX10_load 107 = .ok (.iload_n 3, 1) := by decide +kernel
theorem dX10_load_108 : decode cX10_load 108 = .ok (.iconst 3, 1) := by decide +kernel
theorem dX10_load_109 : decode cX10_load 109 = .ok (.aload_n 0, 1) := by decide +kernel
theorem dX10_load_110 : decode cX10_load 110 = .ok (.getfield 28, 3) := by decide +kernel
theorem dX10_load_113 : decode cX10_load 113 = .ok (.iload_n 2, 1) := by decide +kernel
theorem dX10_load_114 : decode cX10_load 114 = .ok (.iaload, 1) := by decide +kernel
theorem dX10_load_115 : decode cX10_load 115 = .ok (.imul, 1) := by decide +kernel
theorem dX10_load_116 : decode cX10_load 116 = .ok (.if_icmp .ge 35, 3) := by decide +kernel
theorem dX10_load_119 : decode cX10_load 119 = .ok (.aload_n 0, 1) := by decide +kernel
theorem dX10_load_120 : decode cX10_load 120 = .ok (.getfield 7, 3) := by decide +kernel
theorem dX10_load_123 : decode cX10_load 123 = .ok (.sipush 194, 3) := by decide +kernel
theorem dX10_load_126 : decode cX10_load 126 = .ok (.bipush 12, 2) := by decide +kernel
theorem dX10_load_128 : decode cX10_load 128 = .ok (.iload_n 2, 1) := by decide +kernel
theorem dX10_load_129 : decode cX10_load 129 = .ok (.imul, 1) := by decide +kernel
theorem dX10_load_130 : decode cX10_load 130 = .ok (.iadd, 1) := by decide +kernel
theorem dX10_load_131 : decode cX10_load 131 = .ok (.iload_n 3, 1) := by decide +kernel
theorem dX10_load_132 : decode cX10_load 132 = .ok (.iadd, 1) := by decide +kernel
theorem dX10_load_133 : decode cX10_load 133 = .ok (.aload_n 0, 1) := by decide +kernel
theorem dX10_load_134 : decode cX10_load 134 = .ok (.getfield 25, 3) := by decide +kernel
theorem dX10_load_137 : decode cX10_load 137 = .ok (.bipush 12, 2) := by decide +kernel
theorem dX10_load_139 : decode cX10_load 139 = .ok (.iload_n 2, 1) := by decide +kernel
theorem dX10_load_140 : decode cX10_load 140 = .ok (.imul, 1) := by decide +kernel
theorem dX10_load_141 : decode cX10_load 141 = .ok (.iload_n 3, 1) := by decide +kernel
theorem dX10_load_142 : decode cX10_load 142 = .ok (.iadd, 1) := by decide +kernel
theorem dX10_load_143 : decode cX10_load 143 = .ok (.iaload, 1) := by decide +kernel
theorem dX10_load_144 : decode cX10_load 144 = .ok (.iastore, 1) := by decide +kernel
theorem dX10_load_145 : decode cX10_load 145 = .ok (.iinc 3 1, 3) := by decide +kernel
theorem dX10_load_148 : decode cX10_load 148 = .ok (.goto (-41), 3) := by decide +kernel
theorem dX10_load_151 : decode cX10_load 151 = .ok (.iinc 2 1, 3) := by decide +kernel
theorem dX10_load_154 : decode cX10_load 154 = .ok (.goto (-73), 3) := by decide +kernel
theorem dX10_load_157 : decode cX10_load 157 = .ok (.aload_n 0, 1) := by decide +kernel
theorem dX10_load_158 : decode cX10_load 158 = .ok (.getfield 7, 3) := by decide +kernel
theorem dX10_load_161 : decode cX10_load 161 = .ok (.sipush 408, 3) := by decide +kernel
theorem dX10_load_164 : decode cX10_load 164 = .ok (.aload_n 0, 1) := by decide +kernel
theorem dX10_load_165 : decode cX10_load 165 = .ok (.getfield 132, 3) := by decide +kernel
theorem dX10_load_168 : decode cX10_load 168 = .ok (.iconst 1, 1) := by decide +kernel
theorem dX10_load_169 : decode cX10_load 169 = .ok (.iadd, 1) := by decide +kernel
theorem dX10_load_170 : decode cX10_load 170 = .ok (.iastore, 1) := by decide +kernel
theorem dX10_load_171 : decode cX10_load 171 = .ok (.aload_n 0, 1) := by decide +kernel
theorem dX10_load_172 : decode cX10_load 172 = .ok (.iconst 0, 1) := by decide +kernel
theorem dX10_load_173 : decode cX10_load 173 = .ok (.putfield 144, 3) := by decide +kernel
theorem dX10_load_176 : decode cX10_load 176 = .ok (.aload_n 0, 1) := by decide +kernel
theorem dX10_load_177 : decode cX10_load 177 = .ok (.getfield 132, 3) := by decide +kernel
theorem dX10_load_180 : decode cX10_load 180 = .ok (.iconst 1, 1) := by decide +kernel
theorem dX10_load_181 : decode cX10_load 181 = .ok (.iadd, 1) := by decide +kernel
theorem dX10_load_182 : decode cX10_load 182 = .ok (.ireturn, 1) := by decide +kernel
theorem dX10_undo_0 : decode cX10_undo 0 = .ok (.aload_n 0, 1) := by decide +kernel
theorem dX10_undo_1 : decode cX10_undo 1 = .ok (.aload_n 0, 1) := by decide +kernel
theorem dX10_undo_2 : decode cX10_undo 2 = .ok (.getfield 39, 3) := by decide +kernel
theorem dX10_undo_5 : decode cX10_undo 5 = .ok (.ifCond .ne 7, 3) := by decide +kernel
theorem dX10_undo_8 : decode cX10_undo 8 = .ok (.iconst 1, 1) := by decide +kernel
theorem dX10_undo_9 : decode cX10_undo 9 = .ok (.goto 4, 3) := by decide +kernel
theorem dX10_undo_12 : decode cX10_undo 12 = .ok (.iconst 0, 1) := by decide +kernel
theorem dX10_undo_13 : decode cX10_undo 13 = .ok (.putfield 31, 3) := by decide +kernel
theorem dX10_undo_16 : decode cX10_undo 16 = .ok (.aload_n 0, 1) := by decide +kernel
theorem dX10_undo_17 : decode cX10_undo 17 = .ok (.getfield 31, 3) := by decide +kernel
theorem dX10_undo_20 : decode cX10_undo 20 = .ok (.ifCond .le 5, 3) := by decide +kernel
theorem dX10_undo_23 : decode cX10_undo 23 = .ok (.iconst 0, 1) := by decide +kernel
theorem dX10_undo_24 : decode cX10_undo 24 = .ok (.ireturn, 1) := by decide +kernel
theorem dX10_undo_25 : decode cX10_undo 25 = .ok (.aload_n 0, 1) := by decide +kernel
theorem dX10_undo_26 : decode cX10_undo 26 = .ok (.dup, 1) := by decide +kernel
theorem dX10_undo_27 : decode cX10_undo 27 = .ok (.getfield 39, 3) := by decide +kernel
theorem dX10_undo_30 : decode cX10_undo 30 = .ok (.iconst 1, 1) := by decide +kernel
theorem dX10_undo_31 : decode cX10_undo 31 = .ok (.isub, 1) := by decide +kernel
theorem dX10_undo_32 : decode cX10_undo 32 = .ok (.putfield 39, 3) := by decide +kernel
theorem dX10_undo_35 : decode cX10_undo 35 = .ok (.aload_n 0, 1) := by decide +kernel
theorem dX10_undo_36 : decode cX10_undo 36 = .ok (.getfield 16, 3) := by decide +kernel
theorem dX10_undo_39 : decode cX10_undo 39 = .ok (.sipush 413, 3) := by decide +kernel
theorem dX10_undo_42 : decode cX10_undo 42 = .ok (.aload_n 0, 1) := by decide +kernel
theorem dX10_undo_43 : decode cX10_undo 43 = .ok (.getfield 39, 3) := by decide +kernel
theorem dX10_undo_46 : decode cX10_undo 46 = .ok (.imul, 1) := by decide +kernel
theorem dX10_undo_47 : decode cX10_undo 47 = .ok (.aload_n 0, 1) := by decide +kernel
theorem dX10_undo_48 : decode cX10_undo 48 = .ok (.getfield 7, 3) := by decide +kernel
theorem dX10_undo_51 : decode cX10_undo 51 = .ok (.iconst 0, 1) := by decide +kernel
theorem dX10_undo_52 : decode cX10_undo 52 = .ok (.invokestatic 42, 3) := by decide +kernel
theorem dX10_undo_55 : decode cX10_undo 55 = .ok (.aload_n 0, 1) := by decide +kernel
theorem dX10_undo_56 : decode cX10_undo 56 = .ok (.getfield 39, 3) := by decide +kernel
theorem dX10_undo_59 : decode cX10_undo 59 = .ok (.ireturn, 1) := by decide +kernel
theorem dX10_placeOf_0 : decode cX10_placeOf 0 = .ok (.iconst 0, 1) := by decide +kernel
theorem dX10_placeOf_1 : decode cX10_placeOf 1 = .ok (.istore_n 2, 1) := by decide +kernel
theorem dX10_placeOf_2 : decode cX10_placeOf 2 = .ok (.aload_n 0, 1) := by decide +kernel
theorem dX10_placeOf_3 : decode cX10_placeOf 3 = .ok (.iload_n 1, 1) := by decide +kernel
theorem dX10_placeOf_4 : decode cX10_placeOf 4 = .ok (.invokevirtual 109, 3) := by decide +kernel
theorem dX10_placeOf_7 : decode cX10_placeOf 7 = .ok (.istore_n 3, 1) := by decide +kernel
theorem dX10_placeOf_8 : decode cX10_placeOf 8 = .ok (.iconst 0, 1) := by decide +kernel
theorem dX10_placeOf_9 : decode cX10_placeOf 9 = .ok (.istore 4, 2) := by decide +kernel
theorem dX10_placeOf_11 : decode cX10_placeOf 11 = .ok (.iload 4, 2) := by decide +kernel
theorem dX10_placeOf_13 : decode cX10_placeOf 13 = .ok (.aload_n 0, 1) := by decide +kernel
theorem dX10_placeOf_14 : decode cX10_placeOf 14 = .ok (.getfield 7, 3) := by decide +kernel
theorem dX10_placeOf_17 : decode cX10_placeOf 17 = .ok (.sipush 406, 3) := by decide +kernel
theorem dX10_placeOf_20 : decode cX10_placeOf 20 = .ok (.iaload, 1) := by decide +kernel
theorem dX10_placeOf_21 : decode cX10_placeOf 21 = .ok (.if_icmp .ge 59, 3) := by decide +kernel
theorem dX10_placeOf_24 : decode cX10_placeOf 24 = .ok (.aload_n 0, 1) := by decide +kernel
theorem dX10_placeOf_25 : decode cX10_placeOf 25 = .ok (.iload 4, 2) := by decide +kernel
theorem dX10_placeOf_27 : decode cX10_placeOf 27 = .ok (.iconst 0, 1) := by decide +kernel
theorem dX10_placeOf_28 : decode cX10_placeOf 28 = .ok (.invokevirtual 53, 3) := by decide +kernel
theorem dX10_placeOf_31 : decode cX10_placeOf 31 = .ok (.aload_n 0, 1) := by decide +kernel
theorem dX10_placeOf_32 : decode cX10_placeOf 32 = .ok (.iload_n 1, 1) := by decide +kernel
theorem dX10_placeOf_33 : decode cX10_placeOf 33 = .ok (.iconst 0, 1) := by decide +kernel
theorem dX10_placeOf_34 : decode cX10_placeOf 34 = .ok (.invokevirtual 53, 3) := by decide +kernel
theorem dX10_placeOf_37 : decode cX10_placeOf 37 = .ok (.if_icmp .ne 37, 3) := by decide +kernel
theorem dX10_placeOf_40 : decode cX10_placeOf 40 = .ok (.aload_n 0, 1) := by decide +kernel
theorem dX10_placeOf_41 : decode cX10_placeOf 41 = .ok (.iload 4, 2) := by decide +kernel
theorem dX10_placeOf_43 : decode cX10_placeOf 43 = .ok (.invokevirtual 109, 3) := by decide +kernel
theorem dX10_placeOf_46 : decode cX10_placeOf 46 = .ok (.istore 5, 2) := by decide +kernel
theorem dX10_placeOf_48 : decode cX10_placeOf 48 = .ok (.iload_n 2, 1) := by decide +kernel
theorem dX10_placeOf_49 : decode cX10_placeOf 49 = .ok (.iload 5, 2) := by decide +kernel
theorem dX10_placeOf_51 : decode cX10_placeOf 51 = .ok (.iload_n 3, 1) := by decide +kernel
theorem dX10_placeOf_52 : decode cX10_placeOf 52 = .ok (.if_icmp .lt 15, 3) := by decide +kernel
theorem dX10_placeOf_55 : decode cX10_placeOf 55 = .ok (.iload 5, 2) := by decide +kernel
theorem dX10_placeOf_57 : decode cX10_placeOf 57 = .ok (.iload_n 3, 1) := by decide +kernel
theorem dX10_placeOf_58 : decode cX10_placeOf 58 = .ok (.if_icmp .ne 13, 3) := by decide +kernel
theorem dX10_placeOf_61 : decode cX10_placeOf 61 = .ok (.iload 4, 2) := by decide +kernel
theorem dX10_placeOf_63 : decode cX10_placeOf 63 = .ok (.iload_n 1, 1) := by decide +kernel
theorem dX10_placeOf_64 : decode cX10_placeOf 64 = .ok (.if_icmp .ge 7, 3) := by decide +kernel
theorem dX10_placeOf_67 : decode cX10_placeOf 67 = .ok (.iconst 1, 1) := by decide +kernel
theorem dX10_placeOf_68 : decode cX10_placeOf 68 = .ok (.goto 4, 3) := by decide +kernel
theorem dX10_placeOf_71 : decode cX10_placeOf 71 = .ok (.iconst 0, 1) := by decide +kernel
theorem dX10_placeOf_72 : decode cX10_placeOf 72 = .ok (.iadd, 1) := by decide +kernel
theorem dX10_placeOf_73 : decode cX10_placeOf 73 = .ok (.istore_n 2, 1) := by decide +kernel
theorem dX10_placeOf_74 : decode cX10_placeOf 74 = .ok (.iinc 4 1, 3) := by decide +kernel
theorem dX10_placeOf_77 : decode cX10_placeOf 77 = .ok (.goto (-66), 3) := by decide +kernel
theorem dX10_placeOf_80 : decode cX10_placeOf 80 = .ok (.iload_n 2, 1) := by decide +kernel
theorem dX10_placeOf_81 : decode cX10_placeOf 81 = .ok (.ireturn, 1) := by decide +kernel
theorem dX10_lotNow_0 : decode cX10_lotNow 0 = .ok (.iload_n 2, 1) := by decide +kernel
theorem dX10_lotNow_1 : decode cX10_lotNow 1 = .ok (.iconst 4, 1) := by decide +kernel
theorem dX10_lotNow_2 : decode cX10_lotNow 2 = .ok (.if_icmp .ge 12, 3) := by decide +kernel
theorem dX10_lotNow_5 : decode cX10_lotNow 5 = .ok (.aload_n 0, 1) := by decide +kernel
theorem dX10_lotNow_6 : decode cX10_lotNow 6 = .ok (.iload_n 1, 1) := by decide +kernel
theorem dX10_lotNow_7 : decode cX10_lotNow 7 = .ok (.iload_n 2, 1) := by decide +kernel
theorem dX10_lotNow_8 : decode cX10_lotNow 8 = .ok (.invokevirtual 53, 3) := by decide +kernel
theorem dX10_lotNow_11 : decode cX10_lotNow 11 = .ok (.goto 21, 3) := by decide +kernel
theorem dX10_lotNow_14 : decode cX10_lotNow 14 = .ok (.iload_n 2, 1) := by decide +kernel
theorem dX10_lotNow_15 : decode cX10_lotNow 15 = .ok (.iconst 4, 1) := by decide +kernel
theorem dX10_lotNow_16 : decode cX10_lotNow 16 = .ok (.if_icmp .ne 11, 3) := by decide +kernel
theorem dX10_lotNow_19 : decode cX10_lotNow 19 = .ok (.aload_n 0, 1) := by decide +kernel
theorem dX10_lotNow_20 : decode cX10_lotNow 20 = .ok (.iload_n 1, 1) := by decide +kernel
theorem dX10_lotNow_21 : decode cX10_lotNow 21 = .ok (.invokevirtual 109, 3) := by decide +kernel
theorem dX10_lotNow_24 : decode cX10_lotNow 24 = .ok (.goto 8, 3) := by decide +kernel
theorem dX10_lotNow_27 : decode cX10_lotNow 27 = .ok (.aload_n 0, 1) := by decide +kernel
theorem dX10_lotNow_28 : decode cX10_lotNow 28 = .ok (.iload_n 1, 1) := by decide +kernel
theorem dX10_lotNow_29 : decode cX10_lotNow 29 = .ok (.invokevirtual 156, 3) := by decide +kernel
theorem dX10_lotNow_32 : decode cX10_lotNow 32 = .ok (.ireturn, 1) := by decide +kernel
theorem dX10_lot_0 : decode cX10_lot 0 = .ok (.aload_n 0, 1) := by decide +kernel
theorem dX10_lot_1 : decode cX10_lot 1 = .ok (.aload_n 0, 1) := by decide +kernel
theorem dX10_lot_2 : decode cX10_lot 2 = .ok (.iload_n 1, 1) := by decide +kernel
theorem dX10_lot_3 : decode cX10_lot 3 = .ok (.invokevirtual 96, 3) := by decide +kernel
theorem dX10_lot_6 : decode cX10_lot 6 = .ok (.ifCond .ne 7, 3) := by decide +kernel
theorem dX10_lot_9 : decode cX10_lot 9 = .ok (.iconst 1, 1) := by decide +kernel
theorem dX10_lot_10 : decode cX10_lot 10 = .ok (.goto 17, 3) := by decide +kernel
theorem dX10_lot_13 : decode cX10_lot 13 = .ok (.iload_n 2, 1) := by decide +kernel
theorem dX10_lot_14 : decode cX10_lot 14 = .ok (.iconst 0, 1) := by decide +kernel
theorem dX10_lot_15 : decode cX10_lot 15 = .ok (.iconst 5, 1) := by decide +kernel
theorem dX10_lot_16 : decode cX10_lot 16 = .ok (.invokestatic 35, 3) := by decide +kernel
theorem dX10_lot_19 : decode cX10_lot 19 = .ok (.ifCond .eq 7, 3) := by decide +kernel
theorem dX10_lot_22 : decode cX10_lot 22 = .ok (.iconst 0, 1) := by decide +kernel
theorem dX10_lot_23 : decode cX10_lot 23 = .ok (.goto 4, 3) := by decide +kernel
theorem dX10_lot_26 : decode cX10_lot 26 = .ok (.iconst 2, 1) := by decide +kernel
theorem dX10_lot_27 : decode cX10_lot 27 = .ok (.putfield 31, 3) := by decide +kernel
theorem dX10_lot_30 : decode cX10_lot 30 = .ok (.aload_n 0, 1) := by decide +kernel
theorem dX10_lot_31 : decode cX10_lot 31 = .ok (.getfield 31, 3) := by decide +kernel
theorem dX10_lot_34 : decode cX10_lot 34 = .ok (.ifCond .le 7, 3) := by decide +kernel
theorem dX10_lot_37 : decode cX10_lot 37 = .ok (.iconst 0, 1) := by decide +kernel
theorem dX10_lot_38 : decode cX10_lot 38 = .ok (.goto 9, 3) := by decide +kernel
theorem dX10_lot_41 : decode cX10_lot 41 = .ok (.aload_n 0, 1) := by decide +kernel
theorem dX10_lot_42 : decode cX10_lot 42 = .ok (.iload_n 1, 1) := by decide +kernel
theorem dX10_lot_43 : decode cX10_lot 43 = .ok (.iload_n 2, 1) := by decide +kernel
theorem dX10_lot_44 : decode cX10_lot 44 = .ok (.invokevirtual 159, 3) := by decide +kernel
theorem dX10_lot_47 : decode cX10_lot 47 = .ok (.ireturn, 1) := by decide +kernel
theorem dX10_lotsWith_0 : decode cX10_lotsWith 0 = .ok (.iconst 0, 1) := by decide +kernel
theorem dX10_lotsWith_1 : decode cX10_lotsWith 1 = .ok (.istore_n 3, 1) := by decide +kernel
theorem dX10_lotsWith_2 : decode cX10_lotsWith 2 = .ok (.iconst 0, 1) := by decide +kernel
theorem dX10_lotsWith_3 : decode cX10_lotsWith 3 = .ok (.istore 4, 2) := by decide +kernel
theorem dX10_lotsWith_5 : decode cX10_lotsWith 5 = .ok (.iload 4, 2) := by decide +kernel
theorem dX10_lotsWith_7 : decode cX10_lotsWith 7 = .ok (.aload_n 0, 1) := by decide +kernel
theorem dX10_lotsWith_8 : decode cX10_lotsWith 8 = .ok (.getfield 7, 3) := by decide +kernel
theorem dX10_lotsWith_11 : decode cX10_lotsWith 11 = .ok (.sipush 406, 3) := by decide +kernel
theorem dX10_lotsWith_14 : decode cX10_lotsWith 14 = .ok (.iaload, 1) := by decide +kernel
theorem dX10_lotsWith_15 : decode cX10_lotsWith 15 = .ok (.if_icmp .ge 28, 3) := by decide +kernel
theorem dX10_lotsWith_18 : decode cX10_lotsWith 18 = .ok (.iload_n 3, 1) := by decide +kernel
theorem dX10_lotsWith_19 : decode cX10_lotsWith 19 = .ok (.aload_n 0, 1) := by decide +kernel
theorem dX10_lotsWith_20 : decode cX10_lotsWith 20 = .ok (.iload 4, 2) := by decide +kernel
theorem dX10_lotsWith_22 : decode cX10_lotsWith 22 = .ok (.iload_n 1, 1) := by decide +kernel
theorem dX10_lotsWith_23 : decode cX10_lotsWith 23 = .ok (.invokevirtual 53, 3) := by decide +kernel
theorem dX10_lotsWith_26 : decode cX10_lotsWith 26 = .ok (.iload_n 2, 1) := by decide +kernel
theorem dX10_lotsWith_27 : decode cX10_lotsWith 27 = .ok (.if_icmp .ne 7, 3) := by decide +kernel
theorem dX10_lotsWith_30 : decode cX10_lotsWith 30 = .ok (.iconst 1, 1) := by decide +kernel
theorem dX10_lotsWith_31 : decode cX10_lotsWith 31 = .ok (.goto 4, 3) := by decide +kernel
theorem dX10_lotsWith_34 : decode cX10_lotsWith 34 = .ok (.iconst 0, 1) := by decide +kernel
theorem dX10_lotsWith_35 : decode cX10_lotsWith 35 = .ok (.iadd, 1) := by decide +kernel
theorem dX10_lotsWith_36 : decode cX10_lotsWith 36 = .ok (.istore_n 3, 1) := by decide +kernel
theorem dX10_lotsWith_37 : decode cX10_lotsWith 37 = .ok (.iinc 4 1, 3) := by decide +kernel
theorem dX10_lotsWith_40 : decode cX10_lotsWith 40 = .ok (.goto (-35), 3) := by decide +kernel
theorem dX10_lotsWith_43 : decode cX10_lotsWith 43 = .ok (.iload_n 3, 1) := by decide +kernel
theorem dX10_lotsWith_44 : decode cX10_lotsWith 44 = .ok (.ireturn, 1) := by decide +kernel
theorem dX10_storeNow_0 : decode cX10_storeNow 0 = .ok (.iload_n 2, 1) := by decide +kernel
theorem dX10_storeNow_1 : decode cX10_storeNow 1 = .ok (.tableswitch 50 0 2 #[27, 37, 43], 27) := by decide +kernel
theorem dX10_storeNow_28 : decode cX10_storeNow 28 = .ok (.aload_n 0, 1) := by decide +kernel
theorem dX10_storeNow_29 : decode cX10_storeNow 29 = .ok (.getfield 7, 3) := by decide +kernel
theorem dX10_storeNow_32 : decode cX10_storeNow 32 = .ok (.bipush 64, 2) := by decide +kernel
theorem dX10_storeNow_34 : decode cX10_storeNow 34 = .ok (.iload_n 1, 1) := by decide +kernel
theorem dX10_storeNow_35 : decode cX10_storeNow 35 = .ok (.iadd, 1) := by decide +kernel
theorem dX10_storeNow_36 : decode cX10_storeNow 36 = .ok (.iaload, 1) := by decide +kernel
theorem dX10_storeNow_37 : decode cX10_storeNow 37 = .ok (.ireturn, 1) := by decide +kernel
theorem dX10_storeNow_38 : decode cX10_storeNow 38 = .ok (.aload_n 0, 1) := by decide +kernel
theorem dX10_storeNow_39 : decode cX10_storeNow 39 = .ok (.iload_n 1, 1) := by decide +kernel
theorem dX10_storeNow_40 : decode cX10_storeNow 40 = .ok (.invokevirtual 60, 3) := by decide +kernel
theorem dX10_storeNow_43 : decode cX10_storeNow 43 = .ok (.ireturn, 1) := by decide +kernel
theorem dX10_storeNow_44 : decode cX10_storeNow 44 = .ok (.aload_n 0, 1) := by decide +kernel
theorem dX10_storeNow_45 : decode cX10_storeNow 45 = .ok (.iconst 1, 1) := by decide +kernel
theorem dX10_storeNow_46 : decode cX10_storeNow 46 = .ok (.iload_n 1, 1) := by decide +kernel
theorem dX10_storeNow_47 : decode cX10_storeNow 47 = .ok (.invokevirtual 162, 3) := by decide +kernel
theorem dX10_storeNow_50 : decode cX10_storeNow 50 = .ok (.ireturn, 1) := by decide +kernel
theorem dX10_storeNow_51 : decode cX10_storeNow 51 = .ok (.aload_n 0, 1) := by decide +kernel
theorem dX10_storeNow_52 : decode cX10_storeNow 52 = .ok (.getfield 7, 3) := by decide +kernel
theorem dX10_storeNow_55 : decode cX10_storeNow 55 = .ok (.bipush 67, 2) := by decide +kernel
theorem dX10_storeNow_57 : decode cX10_storeNow 57 = .ok (.iload_n 1, 1) := by decide +kernel
theorem dX10_storeNow_58 : decode cX10_storeNow 58 = .ok (.iadd, 1) := by decide +kernel
theorem dX10_storeNow_59 : decode cX10_storeNow 59 = .ok (.iaload, 1) := by decide +kernel
theorem dX10_storeNow_60 : decode cX10_storeNow 60 = .ok (.ireturn, 1) := by decide +kernel
theorem dX10_store_0 : decode cX10_store 0 = .ok (.aload_n 0, 1) := by decide +kernel
theorem dX10_store_1 : decode cX10_store 1 = .ok (.iload_n 1, 1) := by decide +kernel
theorem dX10_store_2 : decode cX10_store 2 = .ok (.invokestatic 57, 3) := by decide +kernel
theorem dX10_store_5 : decode cX10_store 5 = .ok (.ifCond .ne 7, 3) := by decide +kernel
theorem dX10_store_8 : decode cX10_store 8 = .ok (.iconst 1, 1) := by decide +kernel
theorem dX10_store_9 : decode cX10_store 9 = .ok (.goto 17, 3) := by decide +kernel
theorem dX10_store_12 : decode cX10_store 12 = .ok (.iload_n 2, 1) := by decide +kernel
theorem dX10_store_13 : decode cX10_store 13 = .ok (.iconst 0, 1) := by decide +kernel
theorem dX10_store_14 : decode cX10_store 14 = .ok (.iconst 3, 1) := by decide +kernel
theorem dX10_store_15 : decode cX10_store 15 = .ok (.invokestatic 35, 3) := by decide +kernel
theorem dX10_store_18 : decode cX10_store 18 = .ok (.ifCond .eq 7, 3) := by decide +kernel
theorem dX10_store_21 : decode cX10_store 21 = .ok (.iconst 0, 1) := by decide +kernel
theorem dX10_store_22 : decode cX10_store 22 = .ok (.goto 4, 3) := by decide +kernel
theorem dX10_store_25 : decode cX10_store 25 = .ok (.iconst 2, 1) := by decide +kernel
theorem dX10_store_26 : decode cX10_store 26 = .ok (.putfield 31, 3) := by decide +kernel
theorem dX10_store_29 : decode cX10_store 29 = .ok (.aload_n 0, 1) := by decide +kernel
theorem dX10_store_30 : decode cX10_store 30 = .ok (.getfield 31, 3) := by decide +kernel
theorem dX10_store_33 : decode cX10_store 33 = .ok (.ifCond .le 7, 3) := by decide +kernel
theorem dX10_store_36 : decode cX10_store 36 = .ok (.iconst 0, 1) := by decide +kernel
theorem dX10_store_37 : decode cX10_store 37 = .ok (.goto 9, 3) := by decide +kernel
theorem dX10_store_40 : decode cX10_store 40 = .ok (.aload_n 0, 1) := by decide +kernel
theorem dX10_store_41 : decode cX10_store 41 = .ok (.iload_n 1, 1) := by decide +kernel
theorem dX10_store_42 : decode cX10_store 42 = .ok (.iload_n 2, 1) := by decide +kernel
theorem dX10_store_43 : decode cX10_store 43 = .ok (.invokevirtual 165, 3) := by decide +kernel
theorem dX10_store_46 : decode cX10_store 46 = .ok (.ireturn, 1) := by decide +kernel
theorem dX10_inLots_0 : decode cX10_inLots 0 = .ok (.iconst 0, 1) := by decide +kernel
theorem dX10_inLots_1 : decode cX10_inLots 1 = .ok (.istore_n 2, 1) := by decide +kernel
theorem dX10_inLots_2 : decode cX10_inLots 2 = .ok (.iconst 0, 1) := by decide +kernel
theorem dX10_inLots_3 : decode cX10_inLots 3 = .ok (.istore_n 3, 1) := by decide +kernel
theorem dX10_inLots_4 : decode cX10_inLots 4 = .ok (.iload_n 3, 1) := by decide +kernel
theorem dX10_inLots_5 : decode cX10_inLots 5 = .ok (.aload_n 0, 1) := by decide +kernel
theorem dX10_inLots_6 : decode cX10_inLots 6 = .ok (.getfield 7, 3) := by decide +kernel
theorem dX10_inLots_9 : decode cX10_inLots 9 = .ok (.sipush 406, 3) := by decide +kernel
theorem dX10_inLots_12 : decode cX10_inLots 12 = .ok (.iaload, 1) := by decide +kernel
theorem dX10_inLots_13 : decode cX10_inLots 13 = .ok (.if_icmp .ge 32, 3) := by decide +kernel
theorem dX10_inLots_16 : decode cX10_inLots 16 = .ok (.iload_n 2, 1) := by decide +kernel
theorem dX10_inLots_17 : decode cX10_inLots 17 = .ok (.aload_n 0, 1) := by decide +kernel
theorem dX10_inLots_18 : decode cX10_inLots 18 = .ok (.iload_n 3, 1) := by decide +kernel
theorem dX10_inLots_19 : decode cX10_inLots 19 = .ok (.iconst 0, 1) := by decide +kernel
theorem dX10_inLots_20 : decode cX10_inLots 20 = .ok (.invokevirtual 53, 3) := by decide +kernel
theorem dX10_inLots_23 : decode cX10_inLots 23 = .ok (.iload_n 1, 1) := by decide +kernel
theorem dX10_inLots_24 : decode cX10_inLots 24 = .ok (.if_icmp .ne 12, 3) := by decide +kernel
theorem dX10_inLots_27 : decode cX10_inLots 27 = .ok (.aload_n 0, 1) := by decide +kernel
theorem dX10_inLots_28 : decode cX10_inLots 28 = .ok (.iload_n 3, 1) := by decide +kernel
theorem dX10_inLots_29 : decode cX10_inLots 29 = .ok (.iconst 2, 1) := by decide +kernel
theorem dX10_inLots_30 : decode cX10_inLots 30 = .ok (.invokevirtual 53, 3) := by decide +kernel
theorem dX10_inLots_33 : decode cX10_inLots 33 = .ok (.goto 4, 3) := by decide +kernel
theorem dX10_inLots_36 : decode cX10_inLots 36 = .ok (.iconst 0, 1) := by decide +kernel
theorem dX10_inLots_37 : decode cX10_inLots 37 = .ok (.iadd, 1) := by decide +kernel
theorem dX10_inLots_38 : decode cX10_inLots 38 = .ok (.istore_n 2, 1) := by decide +kernel
theorem dX10_inLots_39 : decode cX10_inLots 39 = .ok (.iinc 3 1, 3) := by decide +kernel
theorem dX10_inLots_42 : decode cX10_inLots 42 = .ok (.goto (-38), 3) := by decide +kernel
theorem dX10_inLots_45 : decode cX10_inLots 45 = .ok (.iload_n 2, 1) := by decide +kernel
theorem dX10_inLots_46 : decode cX10_inLots 46 = .ok (.ireturn, 1) := by decide +kernel
theorem dX10_kindNow_0 : decode cX10_kindNow 0 = .ok (.iload_n 2, 1) := by decide +kernel
theorem dX10_kindNow_1 : decode cX10_kindNow 1 = .ok (.tableswitch 93 0 9 #[55, 55, 55, 93, 93, 93, 93, 66, 72, 86], 55) := by decide +kernel
theorem dX10_kindNow_56 : decode cX10_kindNow 56 = .ok (.aload_n 0, 1) := by decide +kernel
theorem dX10_kindNow_57 : decode cX10_kindNow 57 = .ok (.getfield 7, 3) := by decide +kernel
theorem dX10_kindNow_60 : decode cX10_kindNow 60 = .ok (.iconst 3, 1) := by decide +kernel
theorem dX10_kindNow_61 : decode cX10_kindNow 61 = .ok (.iload_n 1, 1) := by decide +kernel
theorem dX10_kindNow_62 : decode cX10_kindNow 62 = .ok (.imul, 1) := by decide +kernel
theorem dX10_kindNow_63 : decode cX10_kindNow 63 = .ok (.iload_n 2, 1) := by decide +kernel
theorem dX10_kindNow_64 : decode cX10_kindNow 64 = .ok (.iadd, 1) := by decide +kernel
theorem dX10_kindNow_65 : decode cX10_kindNow 65 = .ok (.iaload, 1) := by decide +kernel
theorem dX10_kindNow_66 : decode cX10_kindNow 66 = .ok (.ireturn, 1) := by decide +kernel
theorem dX10_kindNow_67 : decode cX10_kindNow 67 = .ok (.aload_n 0, 1) := by decide +kernel
theorem dX10_kindNow_68 : decode cX10_kindNow 68 = .ok (.iload_n 1, 1) := by decide +kernel
theorem dX10_kindNow_69 : decode cX10_kindNow 69 = .ok (.invokevirtual 168, 3) := by decide +kernel
theorem dX10_kindNow_72 : decode cX10_kindNow 72 = .ok (.ireturn, 1) := by decide +kernel
theorem dX10_kindNow_73 : decode cX10_kindNow 73 = .ok (.aload_n 0, 1) := by decide +kernel
theorem dX10_kindNow_74 : decode cX10_kindNow 74 = .ok (.getfield 7, 3) := by decide +kernel
theorem dX10_kindNow_77 : decode cX10_kindNow 77 = .ok (.bipush 24, 2) := by decide +kernel
theorem dX10_kindNow_79 : decode cX10_kindNow 79 = .ok (.iconst 5, 1) := by decide +kernel
theorem dX10_kindNow_80 : decode cX10_kindNow 80 = .ok (.iload_n 1, 1) := by decide +kernel
theorem dX10_kindNow_81 : decode cX10_kindNow 81 = .ok (.imul, 1) := by decide +kernel
theorem dX10_kindNow_82 : decode cX10_kindNow 82 = .ok (.iadd, 1) := by decide +kernel
theorem dX10_kindNow_83 : decode cX10_kindNow 83 = .ok (.iconst 4, 1) := by decide +kernel
theorem dX10_kindNow_84 : decode cX10_kindNow 84 = .ok (.iadd, 1) := by decide +kernel
theorem dX10_kindNow_85 : decode cX10_kindNow 85 = .ok (.iaload, 1) := by decide +kernel
theorem dX10_kindNow_86 : decode cX10_kindNow 86 = .ok (.ireturn, 1) := by decide +kernel
theorem dX10_kindNow_87 : decode cX10_kindNow 87 = .ok (.aload_n 0, 1) := by decide +kernel
theorem dX10_kindNow_88 : decode cX10_kindNow 88 = .ok (.iconst 0, 1) := by decide +kernel
theorem dX10_kindNow_89 : decode cX10_kindNow 89 = .ok (.iload_n 1, 1) := by decide +kernel
theorem dX10_kindNow_90 : decode cX10_kindNow 90 = .ok (.invokevirtual 162, 3) := by decide +kernel
theorem dX10_kindNow_93 : decode cX10_kindNow 93 = .ok (.ireturn, 1) := by decide +kernel
theorem dX10_kindNow_94 : decode cX10_kindNow 94 = .ok (.aload_n 0, 1) := by decide +kernel
theorem dX10_kindNow_95 : decode cX10_kindNow 95 = .ok (.getfield 7, 3) := by decide +kernel
theorem dX10_kindNow_98 : decode cX10_kindNow 98 = .ok (.bipush 24, 2) := by decide +kernel
theorem dX10_kindNow_100 : decode cX10_kindNow 100 = .ok (.iconst 5, 1) := by decide +kernel
theorem dX10_kindNow_101 : decode cX10_kindNow 101 = .ok (.iload_n 1, 1) := by decide +kernel
theorem dX10_kindNow_102 : decode cX10_kindNow 102 = .ok (.imul, 1) := by decide +kernel
theorem dX10_kindNow_103 : decode cX10_kindNow 103 = .ok (.iadd, 1) := by decide +kernel
theorem dX10_kindNow_104 : decode cX10_kindNow 104 = .ok (.iload_n 2, 1) := by decide +kernel
theorem dX10_kindNow_105 : decode cX10_kindNow 105 = .ok (.iadd, 1) := by decide +kernel
theorem dX10_kindNow_106 : decode cX10_kindNow 106 = .ok (.iconst 3, 1) := by decide +kernel
theorem dX10_kindNow_107 : decode cX10_kindNow 107 = .ok (.isub, 1) := by decide +kernel
theorem dX10_kindNow_108 : decode cX10_kindNow 108 = .ok (.iaload, 1) := by decide +kernel
theorem dX10_kindNow_109 : decode cX10_kindNow 109 = .ok (.ireturn, 1) := by decide +kernel
theorem dX10_kind_0 : decode cX10_kind 0 = .ok (.aload_n 0, 1) := by decide +kernel
theorem dX10_kind_1 : decode cX10_kind 1 = .ok (.aload_n 0, 1) := by decide +kernel
theorem dX10_kind_2 : decode cX10_kind 2 = .ok (.iload_n 1, 1) := by decide +kernel
theorem dX10_kind_3 : decode cX10_kind 3 = .ok (.invokevirtual 72, 3) := by decide +kernel
theorem dX10_kind_6 : decode cX10_kind 6 = .ok (.ifCond .ne 7, 3) := by decide +kernel
theorem dX10_kind_9 : decode cX10_kind 9 = .ok (.iconst 1, 1) := by decide +kernel
theorem dX10_kind_10 : decode cX10_kind 10 = .ok (.goto 18, 3) := by decide +kernel
theorem dX10_kind_13 : decode cX10_kind 13 = .ok (.iload_n 2, 1) := by decide +kernel
theorem dX10_kind_14 : decode cX10_kind 14 = .ok (.iconst 0, 1) := by decide +kernel
theorem dX10_kind_15 : decode cX10_kind 15 = .ok (.bipush 9, 2) := by decide +kernel
theorem dX10_kind_17 : decode cX10_kind 17 = .ok (.invokestatic 35, 3) := by decide +kernel
theorem dX10_kind_20 : decode cX10_kind 20 = .ok (.ifCond .eq 7, 3) := by decide +kernel
theorem dX10_kind_23 : decode cX10_kind 23 = .ok (.iconst 0, 1) := by decide +kernel
theorem dX10_kind_24 : decode cX10_kind 24 = .ok (.goto 4, 3) := by decide +kernel
theorem dX10_kind_27 : decode cX10_kind 27 = .ok (.iconst 2, 1) := by decide +kernel
theorem dX10_kind_28 : decode cX10_kind 28 = .ok (.putfield 31, 3) := by decide +kernel
theorem dX10_kind_31 : decode cX10_kind 31 = .ok (.aload_n 0, 1) := by decide +kernel
theorem dX10_kind_32 : decode cX10_kind 32 = .ok (.getfield 31, 3) := by decide +kernel
theorem dX10_kind_35 : decode cX10_kind 35 = .ok (.ifCond .le 7, 3) := by decide +kernel
theorem dX10_kind_38 : decode cX10_kind 38 = .ok (.iconst 0, 1) := by decide +kernel
theorem dX10_kind_39 : decode cX10_kind 39 = .ok (.goto 9, 3) := by decide +kernel
theorem dX10_kind_42 : decode cX10_kind 42 = .ok (.aload_n 0, 1) := by decide +kernel
theorem dX10_kind_43 : decode cX10_kind 43 = .ok (.iload_n 1, 1) := by decide +kernel
theorem dX10_kind_44 : decode cX10_kind 44 = .ok (.iload_n 2, 1) := by decide +kernel
theorem dX10_kind_45 : decode cX10_kind 45 = .ok (.invokevirtual 171, 3) := by decide +kernel
theorem dX10_kind_48 : decode cX10_kind 48 = .ok (.ireturn, 1) := by decide +kernel
theorem dX10_port_0 : decode cX10_port 0 = .ok (.aload_n 0, 1) := by decide +kernel
theorem dX10_port_1 : decode cX10_port 1 = .ok (.aload_n 0, 1) := by decide +kernel
theorem dX10_port_2 : decode cX10_port 2 = .ok (.iload_n 1, 1) := by decide +kernel
theorem dX10_port_3 : decode cX10_port 3 = .ok (.invokevirtual 69, 3) := by decide +kernel
theorem dX10_port_6 : decode cX10_port 6 = .ok (.ifCond .ne 7, 3) := by decide +kernel
theorem dX10_port_9 : decode cX10_port 9 = .ok (.iconst 1, 1) := by decide +kernel
theorem dX10_port_10 : decode cX10_port 10 = .ok (.goto 37, 3) := by decide +kernel
theorem dX10_port_13 : decode cX10_port 13 = .ok (.iload_n 2, 1) := by decide +kernel
theorem dX10_port_14 : decode cX10_port 14 = .ok (.iconst 0, 1) := by decide +kernel
theorem dX10_port_15 : decode cX10_port 15 = .ok (.iconst 1, 1) := by decide +kernel
theorem dX10_port_16 : decode cX10_port 16 = .ok (.invokestatic 35, 3) := by decide +kernel
theorem dX10_port_19 : decode cX10_port 19 = .ok (.ifCond .ne 23, 3) := by decide +kernel
theorem dX10_port_22 : decode cX10_port 22 = .ok (.iload_n 2, 1) := by decide +kernel
theorem dX10_port_23 : decode cX10_port 23 = .ok (.bipush 10, 2) := by decide +kernel
theorem dX10_port_25 : decode cX10_port 25 = .ok (.bipush 9, 2) := by decide +kernel
theorem dX10_port_27 : decode cX10_port 27 = .ok (.aload_n 0, 1) := by decide +kernel
theorem dX10_port_28 : decode cX10_port 28 = .ok (.getfield 7, 3) := by decide +kernel
theorem dX10_port_31 : decode cX10_port 31 = .ok (.sipush 405, 3) := by decide +kernel
theorem dX10_port_34 : decode cX10_port 34 = .ok (.iaload, 1) := by decide +kernel
theorem dX10_port_35 : decode cX10_port 35 = .ok (.iadd, 1) := by decide +kernel
theorem dX10_port_36 : decode cX10_port 36 = .ok (.invokestatic 35, 3) := by decide +kernel
theorem dX10_port_39 : decode cX10_port 39 = .ok (.ifCond .eq 7, 3) := by decide +kernel
theorem dX10_port_42 : decode cX10_port 42 = .ok (.iconst 0, 1) := by decide +kernel
theorem dX10_port_43 : decode cX10_port 43 = .ok (.goto 4, 3) := by decide +kernel
theorem dX10_port_46 : decode cX10_port 46 = .ok (.iconst 2, 1) := by decide +kernel
theorem dX10_port_47 : decode cX10_port 47 = .ok (.putfield 31, 3) := by decide +kernel
theorem dX10_port_50 : decode cX10_port 50 = .ok (.aload_n 0, 1) := by decide +kernel
theorem dX10_port_51 : decode cX10_port 51 = .ok (.getfield 31, 3) := by decide +kernel
theorem dX10_port_54 : decode cX10_port 54 = .ok (.ifCond .le 7, 3) := by decide +kernel
theorem dX10_port_57 : decode cX10_port 57 = .ok (.iconst 0, 1) := by decide +kernel
theorem dX10_port_58 : decode cX10_port 58 = .ok (.goto 30, 3) := by decide +kernel
theorem dX10_port_61 : decode cX10_port 61 = .ok (.aload_n 0, 1) := by decide +kernel
theorem dX10_port_62 : decode cX10_port 62 = .ok (.getfield 7, 3) := by decide +kernel
theorem dX10_port_65 : decode cX10_port 65 = .ok (.sipush 324, 3) := by decide +kernel
theorem dX10_port_68 : decode cX10_port 68 = .ok (.bipush 10, 2) := by decide +kernel
theorem dX10_port_70 : decode cX10_port 70 = .ok (.iload_n 1, 1) := by decide +kernel
theorem dX10_port_71 : decode cX10_port 71 = .ok (.imul, 1) := by decide +kernel
theorem dX10_port_72 : decode cX10_port 72 = .ok (.iadd, 1) := by decide +kernel
theorem dX10_port_73 : decode cX10_port 73 = .ok (.iload_n 2, 1) := by decide +kernel
theorem dX10_port_74 : decode cX10_port 74 = .ok (.iconst 2, 1) := by decide +kernel
theorem dX10_port_75 : decode cX10_port 75 = .ok (.if_icmp .ge 7, 3) := by decide +kernel
theorem dX10_port_78 : decode cX10_port 78 = .ok (.iload_n 2, 1) := by decide +kernel
theorem dX10_port_79 : decode cX10_port 79 = .ok (.goto 7, 3) := by decide +kernel
theorem dX10_port_82 : decode cX10_port 82 = .ok (.iload_n 2, 1) := by decide +kernel
theorem dX10_port_83 : decode cX10_port 83 = .ok (.bipush 8, 2) := by decide +kernel
theorem dX10_port_85 : decode cX10_port 85 = .ok (.isub, 1) := by decide +kernel
theorem dX10_port_86 : decode cX10_port 86 = .ok (.iadd, 1) := by decide +kernel
theorem dX10_port_87 : decode cX10_port 87 = .ok (.iaload, 1) := by decide +kernel
theorem dX10_port_88 : decode cX10_port 88 = .ok (.ireturn, 1) := by decide +kernel
theorem dX10_menuNow_0 : decode cX10_menuNow 0 = .ok (.iload_n 2, 1) := by decide +kernel
theorem dX10_menuNow_1 : decode cX10_menuNow 1 = .ok (.aload_n 0, 1) := by decide +kernel
theorem dX10_menuNow_2 : decode cX10_menuNow 2 = .ok (.getfield 7, 3) := by decide +kernel
theorem dX10_menuNow_5 : decode cX10_menuNow 5 = .ok (.sipush 314, 3) := by decide +kernel
theorem dX10_menuNow_8 : decode cX10_menuNow 8 = .ok (.iload_n 1, 1) := by decide +kernel
theorem dX10_menuNow_9 : decode cX10_menuNow 9 = .ok (.iadd, 1) := by decide +kernel
theorem dX10_menuNow_10 : decode cX10_menuNow 10 = .ok (.iaload, 1) := by decide +kernel
theorem dX10_menuNow_11 : decode cX10_menuNow 11 = .ok (.if_icmp .ge 25, 3) := by decide +kernel
theorem dX10_menuNow_14 : decode cX10_menuNow 14 = .ok (.aload_n 0, 1) := by decide +kernel
theorem dX10_menuNow_15 : decode cX10_menuNow 15 = .ok (.getfield 7, 3) := by decide +kernel
theorem dX10_menuNow_18 : decode cX10_menuNow 18 = .ok (.sipush 194, 3) := by decide +kernel
theorem dX10_menuNow_21 : decode cX10_menuNow 21 = .ok (.bipush 12, 2) := by decide +kernel
theorem dX10_menuNow_23 : decode cX10_menuNow 23 = .ok (.iload_n 1, 1) := by decide +kernel
theorem dX10_menuNow_24 : decode cX10_menuNow 24 = .ok (.imul, 1) := by decide +kernel
theorem dX10_menuNow_25 : decode cX10_menuNow 25 = .ok (.iadd, 1) := by decide +kernel
theorem dX10_menuNow_26 : decode cX10_menuNow 26 = .ok (.iconst 3, 1) := by decide +kernel
theorem dX10_menuNow_27 : decode cX10_menuNow 27 = .ok (.iload_n 2, 1) := by decide +kernel
theorem dX10_menuNow_28 : decode cX10_menuNow 28 = .ok (.imul, 1) := by decide +kernel
theorem dX10_menuNow_29 : decode cX10_menuNow 29 = .ok (.iadd, 1) := by decide +kernel
theorem dX10_menuNow_30 : decode cX10_menuNow 30 = .ok (.iload_n 3, 1) := by decide +kernel
theorem dX10_menuNow_31 : decode cX10_menuNow 31 = .ok (.iadd, 1) := by decide +kernel
theorem dX10_menuNow_32 : decode cX10_menuNow 32 = .ok (.iaload, 1) := by decide +kernel
theorem dX10_menuNow_33 : decode cX10_menuNow 33 = .ok (.goto 4, 3) := by decide +kernel
theorem dX10_menuNow_36 : decode cX10_menuNow 36 = .ok (.iconst (-1), 1) := by decide +kernel
theorem dX10_menuNow_37 : decode cX10_menuNow 37 = .ok (.ireturn, 1) := by decide +kernel
theorem dX10_menu_0 : decode cX10_menu 0 = .ok (.aload_n 0, 1) := by decide +kernel
theorem dX10_menu_1 : decode cX10_menu 1 = .ok (.iload_n 1, 1) := by decide +kernel
theorem dX10_menu_2 : decode cX10_menu 2 = .ok (.iconst 0, 1) := by decide +kernel
theorem dX10_menu_3 : decode cX10_menu 3 = .ok (.aload_n 0, 1) := by decide +kernel
theorem dX10_menu_4 : decode cX10_menu 4 = .ok (.getfield 7, 3) := by decide +kernel
theorem dX10_menu_7 : decode cX10_menu 7 = .ok (.sipush 408, 3) := by decide +kernel
theorem dX10_menu_10 : decode cX10_menu 10 = .ok (.iaload, 1) := by decide +kernel
theorem dX10_menu_11 : decode cX10_menu 11 = .ok (.iconst 1, 1) := by decide +kernel
theorem dX10_menu_12 : decode cX10_menu 12 = .ok (.isub, 1) := by decide +kernel
theorem dX10_menu_13 : decode cX10_menu 13 = .ok (.invokestatic 35, 3) := by decide +kernel
theorem dX10_menu_16 : decode cX10_menu 16 = .ok (.ifCond .eq 12, 3) := by decide +kernel
theorem dX10_menu_19 : decode cX10_menu 19 = .ok (.iload_n 2, 1) := by decide +kernel
theorem dX10_menu_20 : decode cX10_menu 20 = .ok (.iconst 0, 1) := by decide +kernel
theorem dX10_menu_21 : decode cX10_menu 21 = .ok (.iconst 3, 1) := by decide +kernel
theorem dX10_menu_22 : decode cX10_menu 22 = .ok (.invokestatic 35, 3) := by decide +kernel
theorem dX10_menu_25 : decode cX10_menu 25 = .ok (.ifCond .ne 7, 3) := by decide +kernel
theorem dX10_menu_28 : decode cX10_menu 28 = .ok (.iconst 1, 1) := by decide +kernel
theorem dX10_menu_29 : decode cX10_menu 29 = .ok (.goto 17, 3) := by decide +kernel
theorem dX10_menu_32 : decode cX10_menu 32 = .ok (.iload_n 3, 1) := by decide +kernel
theorem dX10_menu_33 : decode cX10_menu 33 = .ok (.iconst 0, 1) := by decide +kernel
theorem dX10_menu_34 : decode cX10_menu 34 = .ok (.iconst 2, 1) := by decide +kernel
theorem dX10_menu_35 : decode cX10_menu 35 = .ok (.invokestatic 35, 3) := by decide +kernel
theorem dX10_menu_38 : decode cX10_menu 38 = .ok (.ifCond .eq 7, 3) := by decide +kernel
theorem dX10_menu_41 : decode cX10_menu 41 = .ok (.iconst 0, 1) := by decide +kernel
theorem dX10_menu_42 : decode cX10_menu 42 = .ok (.goto 4, 3) := by decide +kernel
theorem dX10_menu_45 : decode cX10_menu 45 = .ok (.iconst 2, 1) := by decide +kernel
theorem dX10_menu_46 : decode cX10_menu 46 = .ok (.putfield 31, 3) := by decide +kernel
theorem dX10_menu_49 : decode cX10_menu 49 = .ok (.aload_n 0, 1) := by decide +kernel
theorem dX10_menu_50 : decode cX10_menu 50 = .ok (.getfield 31, 3) := by decide +kernel
theorem dX10_menu_53 : decode cX10_menu 53 = .ok (.ifCond .le 7, 3) := by decide +kernel
theorem dX10_menu_56 : decode cX10_menu 56 = .ok (.iconst 0, 1) := by decide +kernel
theorem dX10_menu_57 : decode cX10_menu 57 = .ok (.goto 10, 3) := by decide +kernel
theorem dX10_menu_60 : decode cX10_menu 60 = .ok (.aload_n 0, 1) := by decide +kernel
theorem dX10_menu_61 : decode cX10_menu 61 = .ok (.iload_n 1, 1) := by decide +kernel
theorem dX10_menu_62 : decode cX10_menu 62 = .ok (.iload_n 2, 1) := by decide +kernel
theorem dX10_menu_63 : decode cX10_menu 63 = .ok (.iload_n 3, 1) := by decide +kernel
theorem dX10_menu_64 : decode cX10_menu 64 = .ok (.invokevirtual 174, 3) := by decide +kernel
theorem dX10_menu_67 : decode cX10_menu 67 = .ok (.ireturn, 1) := by decide +kernel
theorem dX10_nextPort_0 : decode cX10_nextPort 0 = .ok (.iconst 0, 1) := by decide +kernel
theorem dX10_nextPort_1 : decode cX10_nextPort 1 = .ok (.istore_n 1, 1) := by decide +kernel
theorem dX10_nextPort_2 : decode cX10_nextPort 2 = .ok (.iload_n 1, 1) := by decide +kernel
theorem dX10_nextPort_3 : decode cX10_nextPort 3 = .ok (.aload_n 0, 1) := by decide +kernel
theorem dX10_nextPort_4 : decode cX10_nextPort 4 = .ok (.getfield 7, 3) := by decide +kernel
theorem dX10_nextPort_7 : decode cX10_nextPort 7 = .ok (.sipush 407, 3) := by decide +kernel
theorem dX10_nextPort_10 : decode cX10_nextPort 10 = .ok (.iaload, 1) := by decide +kernel
theorem dX10_nextPort_11 : decode cX10_nextPort 11 = .ok (.if_icmp .ge 33, 3) := by decide +kernel
theorem dX10_nextPort_14 : decode cX10_nextPort 14 = .ok (.aload_n 0, 1) := by decide +kernel
theorem dX10_nextPort_15 : decode cX10_nextPort 15 = .ok (.getfield 7, 3) := by decide +kernel
theorem dX10_nextPort_18 : decode cX10_nextPort 18 = .ok (.sipush 324, 3) := by decide +kernel
theorem dX10_nextPort_21 : decode cX10_nextPort 21 = .ok (.bipush 10, 2) := by decide +kernel
theorem dX10_nextPort_23 : decode cX10_nextPort 23 = .ok (.iload_n 1, 1) := by decide +kernel
theorem dX10_nextPort_24 : decode cX10_nextPort 24 = .ok (.imul, 1) := by decide +kernel
theorem dX10_nextPort_25 : decode cX10_nextPort 25 = .ok (.iadd, 1) := by decide +kernel
theorem dX10_nextPort_26 : decode cX10_nextPort 26 = .ok (.iaload, 1) := by decide +kernel
theorem dX10_nextPort_27 : decode cX10_nextPort 27 = .ok (.aload_n 0, 1) := by decide +kernel
theorem dX10_nextPort_28 : decode cX10_nextPort 28 = .ok (.getfield 7, 3) := by decide +kernel
theorem dX10_nextPort_31 : decode cX10_nextPort 31 = .ok (.sipush 404, 3) := by decide +kernel
theorem dX10_nextPort_34 : decode cX10_nextPort 34 = .ok (.iaload, 1) := by decide +kernel
theorem dX10_nextPort_35 : decode cX10_nextPort 35 = .ok (.if_icmp .gt 9, 3) := by decide +kernel
theorem dX10_nextPort_38 : decode cX10_nextPort 38 = .ok (.iinc 1 1, 3) := by decide +kernel
theorem dX10_nextPort_41 : decode cX10_nextPort 41 = .ok (.goto (-39), 3) := by decide +kernel
theorem dX10_nextPort_44 : decode cX10_nextPort 44 = .ok (.iload_n 1, 1) := by decide +kernel
theorem dX10_nextPort_45 : decode cX10_nextPort 45 = .ok (.aload_n 0, 1) := by decide +kernel
theorem dX10_nextPort_46 : decode cX10_nextPort 46 = .ok (.getfield 7, 3) := by decide +kernel
theorem dX10_nextPort_49 : decode cX10_nextPort 49 = .ok (.sipush 407, 3) := by decide +kernel
theorem dX10_nextPort_52 : decode cX10_nextPort 52 = .ok (.iaload, 1) := by decide +kernel
theorem dX10_nextPort_53 : decode cX10_nextPort 53 = .ok (.if_icmp .ne 7, 3) := by decide +kernel
theorem dX10_nextPort_56 : decode cX10_nextPort 56 = .ok (.iconst (-1), 1) := by decide +kernel
theorem dX10_nextPort_57 : decode cX10_nextPort 57 = .ok (.goto 4, 3) := by decide +kernel
theorem dX10_nextPort_60 : decode cX10_nextPort 60 = .ok (.iload_n 1, 1) := by decide +kernel
theorem dX10_nextPort_61 : decode cX10_nextPort 61 = .ok (.ireturn, 1) := by decide +kernel
theorem dX10_counted_0 : decode cX10_counted 0 = .ok (.iload_n 1, 1) := by decide +kernel
theorem dX10_counted_1 : decode cX10_counted 1 = .ok (.tableswitch 121 0 11 #[63, 72, 72, 72, 72, 85, 85, 85, 85, 98, 103, 116], 63) := by decide +kernel
theorem dX10_counted_64 : decode cX10_counted 64 = .ok (.aload_n 0, 1) := by decide +kernel
theorem dX10_counted_65 : decode cX10_counted 65 = .ok (.getfield 7, 3) := by decide +kernel
theorem dX10_counted_68 : decode cX10_counted 68 = .ok (.sipush 404, 3) := by decide +kernel
theorem dX10_counted_71 : decode cX10_counted 71 = .ok (.iaload, 1) := by decide +kernel
theorem dX10_counted_72 : decode cX10_counted 72 = .ok (.ireturn, 1) := by decide +kernel
theorem dX10_counted_73 : decode cX10_counted 73 = .ok (.aload_n 0, 1) := by decide +kernel
theorem dX10_counted_74 : decode cX10_counted 74 = .ok (.getfield 7, 3) := by decide +kernel
theorem dX10_counted_77 : decode cX10_counted 77 = .ok (.sipush 405, 3) := by decide +kernel
theorem dX10_counted_80 : decode cX10_counted 80 = .ok (.iload_n 1, 1) := by decide +kernel
theorem dX10_counted_81 : decode cX10_counted 81 = .ok (.iadd, 1) := by decide +kernel
theorem dX10_counted_82 : decode cX10_counted 82 = .ok (.iconst 1, 1) := by decide +kernel
theorem dX10_counted_83 : decode cX10_counted 83 = .ok (.isub, 1) := by decide +kernel
theorem dX10_counted_84 : decode cX10_counted 84 = .ok (.iaload, 1) := by decide +kernel
theorem dX10_counted_85 : decode cX10_counted 85 = .ok (.ireturn, 1) := by decide +kernel
theorem dX10_counted_86 : decode cX10_counted 86 = .ok (.aload_n 0, 1) := by decide +kernel
theorem dX10_counted_87 : decode cX10_counted 87 = .ok (.getfield 7, 3) := by decide +kernel
theorem dX10_counted_90 : decode cX10_counted 90 = .ok (.sipush 409, 3) := by decide +kernel
theorem dX10_counted_93 : decode cX10_counted 93 = .ok (.iload_n 1, 1) := by decide +kernel
theorem dX10_counted_94 : decode cX10_counted 94 = .ok (.iadd, 1) := by decide +kernel
theorem dX10_counted_95 : decode cX10_counted 95 = .ok (.iconst 5, 1) := by decide +kernel
theorem dX10_counted_96 : decode cX10_counted 96 = .ok (.isub, 1) := by decide +kernel
theorem dX10_counted_97 : decode cX10_counted 97 = .ok (.iaload, 1) := by decide +kernel
theorem dX10_counted_98 : decode cX10_counted 98 = .ok (.ireturn, 1) := by decide +kernel
theorem dX10_counted_99 : decode cX10_counted 99 = .ok (.aload_n 0, 1) := by decide +kernel
theorem dX10_counted_100 : decode cX10_counted 100 = .ok (.getfield 39, 3) := by decide +kernel
theorem dX10_counted_103 : decode cX10_counted 103 = .ok (.ireturn, 1) := by decide +kernel
theorem dX10_counted_104 : decode cX10_counted 104 = .ok (.aload_n 0, 1) := by decide +kernel
theorem dX10_counted_105 : decode cX10_counted 105 = .ok (.aload_n 0, 1) := by decide +kernel
theorem dX10_counted_106 : decode cX10_counted 106 = .ok (.getfield 7, 3) := by decide +kernel
theorem dX10_counted_109 : decode cX10_counted 109 = .ok (.sipush 404, 3) := by decide +kernel
theorem dX10_counted_112 : decode cX10_counted 112 = .ok (.iaload, 1) := by decide +kernel
theorem dX10_counted_113 : decode cX10_counted 113 = .ok (.invokevirtual 66, 3) := by decide +kernel
theorem dX10_counted_116 : decode cX10_counted 116 = .ok (.ireturn, 1) := by decide +kernel
theorem dX10_counted_117 : decode cX10_counted 117 = .ok (.aload_n 0, 1) := by decide +kernel
theorem dX10_counted_118 : decode cX10_counted 118 = .ok (.invokevirtual 177, 3) := by decide +kernel
theorem dX10_counted_121 : decode cX10_counted 121 = .ok (.ireturn, 1) := by decide +kernel
theorem dX10_counted_122 : decode cX10_counted 122 = .ok (.aload_n 0, 1) := by decide +kernel
theorem dX10_counted_123 : decode cX10_counted 123 = .ok (.invokevirtual 102, 3) := by decide +kernel
theorem dX10_counted_126 : decode cX10_counted 126 = .ok (.ireturn, 1) := by decide +kernel
theorem dX10_count_0 : decode cX10_count 0 = .ok (.aload_n 0, 1) := by decide +kernel
theorem dX10_count_1 : decode cX10_count 1 = .ok (.iload_n 1, 1) := by decide +kernel
theorem dX10_count_2 : decode cX10_count 2 = .ok (.iconst 0, 1) := by decide +kernel
theorem dX10_count_3 : decode cX10_count 3 = .ok (.bipush 12, 2) := by decide +kernel
theorem dX10_count_5 : decode cX10_count 5 = .ok (.invokestatic 35, 3) := by decide +kernel
theorem dX10_count_8 : decode cX10_count 8 = .ok (.ifCond .eq 7, 3) := by decide +kernel
theorem dX10_count_11 : decode cX10_count 11 = .ok (.iconst 0, 1) := by decide +kernel
theorem dX10_count_12 : decode cX10_count 12 = .ok (.goto 4, 3) := by decide +kernel
theorem dX10_count_15 : decode cX10_count 15 = .ok (.iconst 1, 1) := by decide +kernel
theorem dX10_count_16 : decode cX10_count 16 = .ok (.putfield 31, 3) := by decide +kernel
theorem dX10_count_19 : decode cX10_count 19 = .ok (.aload_n 0, 1) := by decide +kernel
theorem dX10_count_20 : decode cX10_count 20 = .ok (.getfield 31, 3) := by decide +kernel
theorem dX10_count_23 : decode cX10_count 23 = .ok (.ifCond .le 7, 3) := by decide +kernel
theorem dX10_count_26 : decode cX10_count 26 = .ok (.iconst 0, 1) := by decide +kernel
theorem dX10_count_27 : decode cX10_count 27 = .ok (.goto 8, 3) := by decide +kernel
theorem dX10_count_30 : decode cX10_count 30 = .ok (.aload_n 0, 1) := by decide +kernel
theorem dX10_count_31 : decode cX10_count 31 = .ok (.iload_n 1, 1) := by decide +kernel
theorem dX10_count_32 : decode cX10_count 32 = .ok (.invokevirtual 180, 3) := by decide +kernel
theorem dX10_count_35 : decode cX10_count 35 = .ok (.ireturn, 1) := by decide +kernel
theorem dX10_why_0 : decode cX10_why 0 = .ok (.aload_n 0, 1) := by decide +kernel
theorem dX10_why_1 : decode cX10_why 1 = .ok (.aload_n 0, 1) := by decide +kernel
theorem dX10_why_2 : decode cX10_why 2 = .ok (.iload_n 1, 1) := by decide +kernel
theorem dX10_why_3 : decode cX10_why 3 = .ok (.invokevirtual 72, 3) := by decide +kernel
theorem dX10_why_6 : decode cX10_why 6 = .ok (.ifCond .eq 10, 3) := by decide +kernel
theorem dX10_why_9 : decode cX10_why 9 = .ok (.iload_n 3, 1) := by decide +kernel
theorem dX10_why_10 : decode cX10_why 10 = .ok (.invokestatic 57, 3) := by decide +kernel
theorem dX10_why_13 : decode cX10_why 13 = .ok (.ifCond .ne 7, 3) := by decide +kernel
theorem dX10_why_16 : decode cX10_why 16 = .ok (.iconst 1, 1) := by decide +kernel
theorem dX10_why_17 : decode cX10_why 17 = .ok (.goto 15, 3) := by decide +kernel
theorem dX10_why_20 : decode cX10_why 20 = .ok (.iload_n 2, 1) := by decide +kernel
theorem dX10_why_21 : decode cX10_why 21 = .ok (.invokestatic 82, 3) := by decide +kernel
theorem dX10_why_24 : decode cX10_why 24 = .ok (.ifCond .eq 7, 3) := by decide +kernel
theorem dX10_why_27 : decode cX10_why 27 = .ok (.iconst 0, 1) := by decide +kernel
theorem dX10_why_28 : decode cX10_why 28 = .ok (.goto 4, 3) := by decide +kernel
theorem dX10_why_31 : decode cX10_why 31 = .ok (.iconst 2, 1) := by decide +kernel
theorem dX10_why_32 : decode cX10_why 32 = .ok (.putfield 31, 3) := by decide +kernel
theorem dX10_why_35 : decode cX10_why 35 = .ok (.aload_n 0, 1) := by decide +kernel
theorem dX10_why_36 : decode cX10_why 36 = .ok (.getfield 31, 3) := by decide +kernel
theorem dX10_why_39 : decode cX10_why 39 = .ok (.ifCond .le 7, 3) := by decide +kernel
theorem dX10_why_42 : decode cX10_why 42 = .ok (.iconst 0, 1) := by decide +kernel
theorem dX10_why_43 : decode cX10_why 43 = .ok (.goto 10, 3) := by decide +kernel
theorem dX10_why_46 : decode cX10_why 46 = .ok (.aload_n 0, 1) := by decide +kernel
theorem dX10_why_47 : decode cX10_why 47 = .ok (.iload_n 1, 1) := by decide +kernel
theorem dX10_why_48 : decode cX10_why 48 = .ok (.iload_n 2, 1) := by decide +kernel
theorem dX10_why_49 : decode cX10_why 49 = .ok (.iload_n 3, 1) := by decide +kernel
theorem dX10_why_50 : decode cX10_why 50 = .ok (.invokevirtual 85, 3) := by decide +kernel
theorem dX10_why_53 : decode cX10_why 53 = .ok (.ireturn, 1) := by decide +kernel
theorem dX10_ahead_0 : decode cX10_ahead 0 = .ok (.aload_n 0, 1) := by decide +kernel
theorem dX10_ahead_1 : decode cX10_ahead 1 = .ok (.getfield 7, 3) := by decide +kernel
theorem dX10_ahead_4 : decode cX10_ahead 4 = .ok (.iconst 0, 1) := by decide +kernel
theorem dX10_ahead_5 : decode cX10_ahead 5 = .ok (.aload_n 0, 1) := by decide +kernel
theorem dX10_ahead_6 : decode cX10_ahead 6 = .ok (.getfield 13, 3) := by decide +kernel
theorem dX10_ahead_9 : decode cX10_ahead 9 = .ok (.iconst 0, 1) := by decide +kernel
theorem dX10_ahead_10 : decode cX10_ahead 10 = .ok (.invokestatic 42, 3) := by decide +kernel
theorem dX10_ahead_13 : decode cX10_ahead 13 = .ok (.aload_n 0, 1) := by decide +kernel
theorem dX10_ahead_14 : decode cX10_ahead 14 = .ok (.iconst 1, 1) := by decide +kernel
theorem dX10_ahead_15 : decode cX10_ahead 15 = .ok (.invokevirtual 125, 3) := by decide +kernel
theorem dX10_ahead_18 : decode cX10_ahead 18 = .ok (.istore_n 3, 1) := by decide +kernel
theorem dX10_ahead_19 : decode cX10_ahead 19 = .ok (.aload_n 0, 1) := by decide +kernel
theorem dX10_ahead_20 : decode cX10_ahead 20 = .ok (.iconst 2, 1) := by decide +kernel
theorem dX10_ahead_21 : decode cX10_ahead 21 = .ok (.invokevirtual 125, 3) := by decide +kernel
theorem dX10_ahead_24 : decode cX10_ahead 24 = .ok (.istore 4, 2) := by decide +kernel
theorem dX10_ahead_26 : decode cX10_ahead 26 = .ok (.aload_n 0, 1) := by decide +kernel
theorem dX10_ahead_27 : decode cX10_ahead 27 = .ok (.iconst 4, 1) := by decide +kernel
theorem dX10_ahead_28 : decode cX10_ahead 28 = .ok (.invokevirtual 125, 3) := by decide +kernel
theorem dX10_ahead_31 : decode cX10_ahead 31 = .ok (.istore 5, 2) := by decide +kernel
theorem dX10_ahead_33 : decode cX10_ahead 33 = .ok (.aload_n 0, 1) := by decide +kernel
theorem dX10_ahead_34 : decode cX10_ahead 34 = .ok (.getfield 7, 3) := by decide +kernel
theorem dX10_ahead_37 : decode cX10_ahead 37 = .ok (.sipush 412, 3) := by decide +kernel
theorem dX10_ahead_40 : decode cX10_ahead 40 = .ok (.iaload, 1) := by decide +kernel
theorem dX10_ahead_41 : decode cX10_ahead 41 = .ok (.istore 6, 2) := by decide +kernel
theorem dX10_ahead_43 : decode cX10_ahead 43 = .ok (.aload_n 0, 1) := by decide +kernel
theorem dX10_ahead_44 : decode cX10_ahead 44 = .ok (.iload_n 1, 1) := by decide +kernel
theorem dX10_ahead_45 : decode cX10_ahead 45 = .ok (.invokevirtual 128, 3) := by decide +kernel
theorem dX10_ahead_48 : decode cX10_ahead 48 = .ok (.iload_n 2, 1) := by decide +kernel
theorem dX10_ahead_49 : decode cX10_ahead 49 = .ok (.ifCond .ne 13, 3) := by decide +kernel
theorem dX10_ahead_52 : decode cX10_ahead 52 = .ok (.aload_n 0, 1) := by decide +kernel
theorem dX10_ahead_53 : decode cX10_ahead 53 = .ok (.iconst 1, 1) := by decide +kernel
theorem dX10_ahead_54 : decode cX10_ahead 54 = .ok (.invokevirtual 125, 3) := by decide +kernel
theorem dX10_ahead_57 : decode cX10_ahead 57 = .ok (.iload_n 3, 1) := by decide +kernel
theorem dX10_ahead_58 : decode cX10_ahead 58 = .ok (.isub, 1) := by decide +kernel
theorem dX10_ahead_59 : decode cX10_ahead 59 = .ok (.goto 58, 3) := by decide +kernel
theorem dX10_ahead_62 : decode cX10_ahead 62 = .ok (.iload_n 2, 1) := by decide +kernel
theorem dX10_ahead_63 : decode cX10_ahead 63 = .ok (.iconst 1, 1) := by decide +kernel
theorem dX10_ahead_64 : decode cX10_ahead 64 = .ok (.if_icmp .ne 14, 3) := by decide +kernel
theorem dX10_ahead_67 : decode cX10_ahead 67 = .ok (.aload_n 0, 1) := by decide +kernel
theorem dX10_ahead_68 : decode cX10_ahead 68 = .ok (.iconst 2, 1) := by decide +kernel
theorem dX10_ahead_69 : decode cX10_ahead 69 = .ok (.invokevirtual 125, 3) := by decide +kernel
theorem dX10_ahead_72 : decode cX10_ahead 72 = .ok (.iload 4, 2) := by decide +kernel
theorem dX10_ahead_74 : decode cX10_ahead 74 = .ok (.isub, 1) := by decide +kernel
theorem dX10_ahead_75 : decode cX10_ahead 75 = .ok (.goto 42, 3) := by decide +kernel
theorem dX10_ahead_78 : decode cX10_ahead 78 = .ok (.iload_n 2, 1) := by decide +kernel
theorem dX10_ahead_79 : decode cX10_ahead 79 = .ok (.iconst 2, 1) := by decide +kernel
theorem dX10_ahead_80 : decode cX10_ahead 80 = .ok (.if_icmp .ne 14, 3) := by decide +kernel
theorem dX10_ahead_83 : decode cX10_ahead 83 = .ok (.aload_n 0, 1) := by decide +kernel
theorem dX10_ahead_84 : decode cX10_ahead 84 = .ok (.iconst 4, 1) := by decide +kernel
theorem dX10_ahead_85 : decode cX10_ahead 85 = .ok (.invokevirtual 125, 3) := by decide +kernel
theorem dX10_ahead_88 : decode cX10_ahead 88 = .ok (.iload 5, 2) := by decide +kernel
theorem dX10_ahead_90 : decode cX10_ahead 90 = .ok (.isub, 1) := by decide +kernel
theorem dX10_ahead_91 : decode cX10_ahead 91 = .ok (.goto 26, 3) := by decide +kernel
theorem dX10_ahead_94 : decode cX10_ahead 94 = .ok (.iload_n 2, 1) := by decide +kernel
theorem dX10_ahead_95 : decode cX10_ahead 95 = .ok (.iconst 3, 1) := by decide +kernel
theorem dX10_ahead_96 : decode cX10_ahead 96 = .ok (.if_icmp .ne 17, 3) := by decide +kernel
theorem dX10_ahead_99 : decode cX10_ahead 99 = .ok (.aload_n 0, 1) := by decide +kernel
theorem dX10_ahead_100 : decode cX10_ahead 100 = .ok (.getfield 7, 3) := by decide +kernel
theorem dX10_ahead_103 : decode cX10_ahead 103 = .ok (.sipush 412, 3) := by decide +kernel
theorem dX10_ahead_106 : decode cX10_ahead 106 = .ok (.iaload, 1) := by decide +kernel
theorem dX10_ahead_107 : decode cX10_ahead 107 = .ok (.iload 6, 2) := by decide +kernel
theorem dX10_ahead_109 : decode cX10_ahead 109 = .ok (.isub, 1) := by decide +kernel
theorem dX10_ahead_110 : decode cX10_ahead 110 = .ok (.goto 7, 3) := by decide +kernel
theorem dX10_ahead_113 : decode cX10_ahead 113 = .ok (.aload_n 0, 1) := by decide +kernel
theorem dX10_ahead_114 : decode cX10_ahead 114 = .ok (.invokevirtual 102, 3) := by decide +kernel
theorem dX10_ahead_117 : decode cX10_ahead 117 = .ok (.istore 7, 2) := by decide +kernel
theorem dX10_ahead_119 : decode cX10_ahead 119 = .ok (.aload_n 0, 1) := by decide +kernel
theorem dX10_ahead_120 : decode cX10_ahead 120 = .ok (.getfield 13, 3) := by decide +kernel
theorem dX10_ahead_123 : decode cX10_ahead 123 = .ok (.iconst 0, 1) := by decide +kernel
theorem dX10_ahead_124 : decode cX10_ahead 124 = .ok (.aload_n 0, 1) := by decide +kernel
theorem dX10_ahead_125 : decode cX10_ahead 125 = .ok (.getfield 7, 3) := by decide +kernel
theorem dX10_ahead_128 : decode cX10_ahead 128 = .ok (.iconst 0, 1) := by decide +kernel
theorem dX10_ahead_129 : decode cX10_ahead 129 = .ok (.invokestatic 42, 3) := by decide +kernel
theorem dX10_ahead_132 : decode cX10_ahead 132 = .ok (.iload 7, 2) := by decide +kernel
theorem dX10_ahead_134 : decode cX10_ahead 134 = .ok (.ireturn, 1) := by decide +kernel
theorem dX10_isDays_0 : decode cX10_isDays 0 = .ok (.iload_n 0, 1) := by decide +kernel
theorem dX10_isDays_1 : decode cX10_isDays 1 = .ok (.iconst 1, 1) := by decide +kernel
theorem dX10_isDays_2 : decode cX10_isDays 2 = .ok (.bipush 60, 2) := by decide +kernel
theorem dX10_isDays_4 : decode cX10_isDays 4 = .ok (.invokestatic 35, 3) := by decide +kernel
theorem dX10_isDays_7 : decode cX10_isDays 7 = .ok (.ireturn, 1) := by decide +kernel
theorem dX10_ifPass_0 : decode cX10_ifPass 0 = .ok (.aload_n 0, 1) := by decide +kernel
theorem dX10_ifPass_1 : decode cX10_ifPass 1 = .ok (.iload_n 1, 1) := by decide +kernel
theorem dX10_ifPass_2 : decode cX10_ifPass 2 = .ok (.invokestatic 183, 3) := by decide +kernel
theorem dX10_ifPass_5 : decode cX10_ifPass 5 = .ok (.ifCond .eq 16, 3) := by decide +kernel
theorem dX10_ifPass_8 : decode cX10_ifPass 8 = .ok (.iload_n 2, 1) := by decide +kernel
theorem dX10_ifPass_9 : decode cX10_ifPass 9 = .ok (.iconst 0, 1) := by decide +kernel
theorem dX10_ifPass_10 : decode cX10_ifPass 10 = .ok (.iconst 4, 1) := by decide +kernel
theorem dX10_ifPass_11 : decode cX10_ifPass 11 = .ok (.invokestatic 35, 3) := by decide +kernel
theorem dX10_ifPass_14 : decode cX10_ifPass 14 = .ok (.ifCond .eq 7, 3) := by decide +kernel
theorem dX10_ifPass_17 : decode cX10_ifPass 17 = .ok (.iconst 0, 1) := by decide +kernel
theorem dX10_ifPass_18 : decode cX10_ifPass 18 = .ok (.goto 4, 3) := by decide +kernel
theorem dX10_ifPass_21 : decode cX10_ifPass 21 = .ok (.iconst 1, 1) := by decide +kernel
theorem dX10_ifPass_22 : decode cX10_ifPass 22 = .ok (.putfield 31, 3) := by decide +kernel
theorem dX10_ifPass_25 : decode cX10_ifPass 25 = .ok (.aload_n 0, 1) := by decide +kernel
theorem dX10_ifPass_26 : decode cX10_ifPass 26 = .ok (.getfield 31, 3) := by decide +kernel
theorem dX10_ifPass_29 : decode cX10_ifPass 29 = .ok (.ifCond .le 7, 3) := by decide +kernel
theorem dX10_ifPass_32 : decode cX10_ifPass 32 = .ok (.iconst 0, 1) := by decide +kernel
theorem dX10_ifPass_33 : decode cX10_ifPass 33 = .ok (.goto 9, 3) := by decide +kernel
theorem dX10_ifPass_36 : decode cX10_ifPass 36 = .ok (.aload_n 0, 1) := by decide +kernel
theorem dX10_ifPass_37 : decode cX10_ifPass 37 = .ok (.iload_n 1, 1) := by decide +kernel
theorem dX10_ifPass_38 : decode cX10_ifPass 38 = .ok (.iload_n 2, 1) := by decide +kernel
theorem dX10_ifPass_39 : decode cX10_ifPass 39 = .ok (.invokevirtual 186, 3) := by decide +kernel
theorem dX10_ifPass_42 : decode cX10_ifPass 42 = .ok (.ireturn, 1) := by decide +kernel
theorem dX10_spoils_0 : decode cX10_spoils 0 = .ok (.aload_n 0, 1) := by decide +kernel
theorem dX10_spoils_1 : decode cX10_spoils 1 = .ok (.aload_n 0, 1) := by decide +kernel
theorem dX10_spoils_2 : decode cX10_spoils 2 = .ok (.iload_n 1, 1) := by decide +kernel
theorem dX10_spoils_3 : decode cX10_spoils 3 = .ok (.invokevirtual 72, 3) := by decide +kernel
theorem dX10_spoils_6 : decode cX10_spoils 6 = .ok (.ifCond .ne 7, 3) := by decide +kernel
theorem dX10_spoils_9 : decode cX10_spoils 9 = .ok (.iconst 1, 1) := by decide +kernel
theorem dX10_spoils_10 : decode cX10_spoils 10 = .ok (.goto 15, 3) := by decide +kernel
theorem dX10_spoils_13 : decode cX10_spoils 13 = .ok (.iload_n 2, 1) := by decide +kernel
theorem dX10_spoils_14 : decode cX10_spoils 14 = .ok (.invokestatic 183, 3) := by decide +kernel
theorem dX10_spoils_17 : decode cX10_spoils 17 = .ok (.ifCond .eq 7, 3) := by decide +kernel
theorem dX10_spoils_20 : decode cX10_spoils 20 = .ok (.iconst 0, 1) := by decide +kernel
theorem dX10_spoils_21 : decode cX10_spoils 21 = .ok (.goto 4, 3) := by decide +kernel
theorem dX10_spoils_24 : decode cX10_spoils 24 = .ok (.iconst 2, 1) := by decide +kernel
theorem dX10_spoils_25 : decode cX10_spoils 25 = .ok (.putfield 31, 3) := by decide +kernel
theorem dX10_spoils_28 : decode cX10_spoils 28 = .ok (.aload_n 0, 1) := by decide +kernel
theorem dX10_spoils_29 : decode cX10_spoils 29 = .ok (.getfield 31, 3) := by decide +kernel
theorem dX10_spoils_32 : decode cX10_spoils 32 = .ok (.ifCond .le 5, 3) := by decide +kernel
theorem dX10_spoils_35 : decode cX10_spoils 35 = .ok (.iconst 0, 1) := by decide +kernel
theorem dX10_spoils_36 : decode cX10_spoils 36 = .ok (.ireturn, 1) := by decide +kernel
theorem dX10_spoils_37 : decode cX10_spoils 37 = .ok (.aload_n 0, 1) := by decide +kernel
theorem dX10_spoils_38 : decode cX10_spoils 38 = .ok (.getfield 7, 3) := by decide +kernel
theorem dX10_spoils_41 : decode cX10_spoils 41 = .ok (.iconst 0, 1) := by decide +kernel
theorem dX10_spoils_42 : decode cX10_spoils 42 = .ok (.aload_n 0, 1) := by decide +kernel
theorem dX10_spoils_43 : decode cX10_spoils 43 = .ok (.getfield 13, 3) := by decide +kernel
theorem dX10_spoils_46 : decode cX10_spoils 46 = .ok (.iconst 0, 1) := by decide +kernel
theorem dX10_spoils_47 : decode cX10_spoils 47 = .ok (.invokestatic 42, 3) := by decide +kernel
theorem dX10_spoils_50 : decode cX10_spoils 50 = .ok (.aload_n 0, 1) := by decide +kernel
theorem dX10_spoils_51 : decode cX10_spoils 51 = .ok (.getfield 7, 3) := by decide +kernel
theorem dX10_spoils_54 : decode cX10_spoils 54 = .ok (.bipush 24, 2) := by decide +kernel
theorem dX10_spoils_56 : decode cX10_spoils 56 = .ok (.iconst 5, 1) := by decide +kernel
theorem dX10_spoils_57 : decode cX10_spoils 57 = .ok (.iload_n 1, 1) := by decide +kernel
theorem dX10_spoils_58 : decode cX10_spoils 58 = .ok (.imul, 1) := by decide +kernel
theorem dX10_spoils_59 : decode cX10_spoils 59 = .ok (.iadd, 1) := by decide +kernel
theorem dX10_spoils_60 : decode cX10_spoils 60 = .ok (.iconst 2, 1) := by decide +kernel
theorem dX10_spoils_61 : decode cX10_spoils 61 = .ok (.iadd, 1) := by decide +kernel
theorem dX10_spoils_62 : decode cX10_spoils 62 = .ok (.iaload, 1) := by decide +kernel
theorem dX10_spoils_63 : decode cX10_spoils 63 = .ok (.istore_n 3, 1) := by decide +kernel
theorem dX10_spoils_64 : decode cX10_spoils 64 = .ok (.aload_n 0, 1) := by decide +kernel
theorem dX10_spoils_65 : decode cX10_spoils 65 = .ok (.iload_n 2, 1) := by decide +kernel
theorem dX10_spoils_66 : decode cX10_spoils 66 = .ok (.invokevirtual 128, 3) := by decide +kernel
theorem dX10_spoils_69 : decode cX10_spoils 69 = .ok (.aload_n 0, 1) := by decide +kernel
theorem dX10_spoils_70 : decode cX10_spoils 70 = .ok (.getfield 7, 3) := by decide +kernel
theorem dX10_spoils_73 : decode cX10_spoils 73 = .ok (.bipush 24, 2) := by decide +kernel
theorem dX10_spoils_75 : decode cX10_spoils 75 = .ok (.iconst 5, 1) := by decide +kernel
theorem dX10_spoils_76 : decode cX10_spoils 76 = .ok (.iload_n 1, 1) := by decide +kernel
theorem dX10_spoils_77 : decode cX10_spoils 77 = .ok (.imul, 1) := by decide +kernel
theorem dX10_spoils_78 : decode cX10_spoils 78 = .ok (.iadd, 1) := by decide +kernel
theorem dX10_spoils_79 : decode cX10_spoils 79 = .ok (.iconst 2, 1) := by decide +kernel
theorem dX10_spoils_80 : decode cX10_spoils 80 = .ok (.iadd, 1) := by decide +kernel
theorem dX10_spoils_81 : decode cX10_spoils 81 = .ok (.iaload, 1) := by decide +kernel
theorem dX10_spoils_82 : decode cX10_spoils 82 = .ok (.iload_n 3, 1) := by decide +kernel
theorem dX10_spoils_83 : decode cX10_spoils 83 = .ok (.isub, 1) := by decide +kernel
theorem dX10_spoils_84 : decode cX10_spoils 84 = .ok (.istore 4, 2) := by decide +kernel
theorem dX10_spoils_86 : decode cX10_spoils 86 = .ok (.aload_n 0, 1) := by decide +kernel
theorem dX10_spoils_87 : decode cX10_spoils 87 = .ok (.getfield 13, 3) := by decide +kernel
theorem dX10_spoils_90 : decode cX10_spoils 90 = .ok (.iconst 0, 1) := by decide +kernel
theorem dX10_spoils_91 : decode cX10_spoils 91 = .ok (.aload_n 0, 1) := by decide +kernel
theorem dX10_spoils_92 : decode cX10_spoils 92 = .ok (.getfield 7, 3) := by decide +kernel
theorem dX10_spoils_95 : decode cX10_spoils 95 = .ok (.iconst 0, 1) := by decide +kernel
theorem dX10_spoils_96 : decode cX10_spoils 96 = .ok (.invokestatic 42, 3) := by decide +kernel
theorem dX10_spoils_99 : decode cX10_spoils 99 = .ok (.iload 4, 2) := by decide +kernel
theorem dX10_spoils_101 : decode cX10_spoils 101 = .ok (.ireturn, 1) := by decide +kernel
theorem dX10_firstShort_0 : decode cX10_firstShort 0 = .ok (.aload_n 0, 1) := by decide +kernel
theorem dX10_firstShort_1 : decode cX10_firstShort 1 = .ok (.getfield 7, 3) := by decide +kernel
theorem dX10_firstShort_4 : decode cX10_firstShort 4 = .ok (.bipush 24, 2) := by decide +kernel
theorem dX10_firstShort_6 : decode cX10_firstShort 6 = .ok (.iconst 5, 1) := by decide +kernel
theorem dX10_firstShort_7 : decode cX10_firstShort 7 = .ok (.iload_n 1, 1) := by decide +kernel
theorem dX10_firstShort_8 : decode cX10_firstShort 8 = .ok (.imul, 1) := by decide +kernel
theorem dX10_firstShort_9 : decode cX10_firstShort 9 = .ok (.iadd, 1) := by decide +kernel
theorem dX10_firstShort_10 : decode cX10_firstShort 10 = .ok (.iconst 4, 1) := by decide +kernel
theorem dX10_firstShort_11 : decode cX10_firstShort 11 = .ok (.iadd, 1) := by decide +kernel
theorem dX10_firstShort_12 : decode cX10_firstShort 12 = .ok (.iaload, 1) := by decide +kernel
theorem dX10_firstShort_13 : decode cX10_firstShort 13 = .ok (.istore_n 3, 1) := by decide +kernel
theorem dX10_firstShort_14 : decode cX10_firstShort 14 = .ok (.iconst (-1), 1) := by decide +kernel
theorem dX10_firstShort_15 : decode cX10_firstShort 15 = .ok (.istore 4, 2) := by decide +kernel
theorem dX10_firstShort_17 : decode cX10_firstShort 17 = .ok (.iconst 0, 1) := by decide +kernel
theorem dX10_firstShort_18 : decode cX10_firstShort 18 = .ok (.istore 5, 2) := by decide +kernel
theorem dX10_firstShort_20 : decode cX10_firstShort 20 = .ok (.iload 5, 2) := by decide +kernel
theorem dX10_firstShort_22 : decode cX10_firstShort 22 = .ok (.iload_n 2, 1) := by decide +kernel
theorem dX10_firstShort_23 : decode cX10_firstShort 23 = .ok (.if_icmp .ge 44, 3) := by decide +kernel
theorem dX10_firstShort_26 : decode cX10_firstShort 26 = .ok (.iload 4, 2) := by decide +kernel
theorem dX10_firstShort_28 : decode cX10_firstShort 28 = .ok (.iconst (-1), 1) := by decide +kernel
theorem dX10_firstShort_29 : decode cX10_firstShort 29 = .ok (.if_icmp .ne 38, 3) := by decide +kernel
theorem dX10_firstShort_32 : decode cX10_firstShort 32 = .ok (.aload_n 0, 1) := by decide +kernel
theorem dX10_firstShort_33 : decode cX10_firstShort 33 = .ok (.invokevirtual 122, 3) := by decide +kernel
theorem dX10_firstShort_36 : decode cX10_firstShort 36 = .ok (.aload_n 0, 1) := by decide +kernel
theorem dX10_firstShort_37 : decode cX10_firstShort 37 = .ok (.getfield 7, 3) := by decide +kernel
theorem dX10_firstShort_40 : decode cX10_firstShort 40 = .ok (.bipush 24, 2) := by decide +kernel
theorem dX10_firstShort_42 : decode cX10_firstShort 42 = .ok (.iconst 5, 1) := by decide +kernel
theorem dX10_firstShort_43 : decode cX10_firstShort 43 = .ok (.iload_n 1, 1) := by decide +kernel
theorem dX10_firstShort_44 : decode cX10_firstShort 44 = .ok (.imul, 1) := by decide +kernel
theorem dX10_firstShort_45 : decode cX10_firstShort 45 = .ok (.iadd, 1) := by decide +kernel
theorem dX10_firstShort_46 : decode cX10_firstShort 46 = .ok (.iconst 4, 1) := by decide +kernel
theorem dX10_firstShort_47 : decode cX10_firstShort 47 = .ok (.iadd, 1) := by decide +kernel
theorem dX10_firstShort_48 : decode cX10_firstShort 48 = .ok (.iaload, 1) := by decide +kernel
theorem dX10_firstShort_49 : decode cX10_firstShort 49 = .ok (.iload_n 3, 1) := by decide +kernel
theorem dX10_firstShort_50 : decode cX10_firstShort 50 = .ok (.if_icmp .le 8, 3) := by decide +kernel
theorem dX10_firstShort_53 : decode cX10_firstShort 53 = .ok (.iload 5, 2) := by decide +kernel
theorem dX10_firstShort_55 : decode cX10_firstShort 55 = .ok (.goto 4, 3) := by decide +kernel
theorem dX10_firstShort_58 : decode cX10_firstShort 58 = .ok (.iconst (-1), 1) := by decide +kernel
theorem dX10_firstShort_59 : decode cX10_firstShort 59 = .ok (.istore 4, 2) := by decide +kernel
theorem dX10_firstShort_61 : decode cX10_firstShort 61 = .ok (.iinc 5 1, 3) := by decide +kernel
theorem dX10_firstShort_64 : decode cX10_firstShort 64 = .ok (.goto (-44), 3) := by decide +kernel
theorem dX10_firstShort_67 : decode cX10_firstShort 67 = .ok (.aload_n 0, 1) := by decide +kernel
theorem dX10_firstShort_68 : decode cX10_firstShort 68 = .ok (.getfield 13, 3) := by decide +kernel
theorem dX10_firstShort_71 : decode cX10_firstShort 71 = .ok (.iconst 0, 1) := by decide +kernel
theorem dX10_firstShort_72 : decode cX10_firstShort 72 = .ok (.aload_n 0, 1) := by decide +kernel
theorem dX10_firstShort_73 : decode cX10_firstShort 73 = .ok (.getfield 7, 3) := by decide +kernel
theorem dX10_firstShort_76 : decode cX10_firstShort 76 = .ok (.iconst 0, 1) := by decide +kernel
theorem dX10_firstShort_77 : decode cX10_firstShort 77 = .ok (.invokestatic 42, 3) := by decide +kernel
theorem dX10_firstShort_80 : decode cX10_firstShort 80 = .ok (.iload 4, 2) := by decide +kernel
theorem dX10_firstShort_82 : decode cX10_firstShort 82 = .ok (.ireturn, 1) := by decide +kernel
theorem dX10_shortNow_0 : decode cX10_shortNow 0 = .ok (.aload_n 0, 1) := by decide +kernel
theorem dX10_shortNow_1 : decode cX10_shortNow 1 = .ok (.getfield 7, 3) := by decide +kernel
theorem dX10_shortNow_4 : decode cX10_shortNow 4 = .ok (.iconst 0, 1) := by decide +kernel
theorem dX10_shortNow_5 : decode cX10_shortNow 5 = .ok (.aload_n 0, 1) := by decide +kernel
theorem dX10_shortNow_6 : decode cX10_shortNow 6 = .ok (.getfield 13, 3) := by decide +kernel
theorem dX10_shortNow_9 : decode cX10_shortNow 9 = .ok (.iconst 0, 1) := by decide +kernel
theorem dX10_shortNow_10 : decode cX10_shortNow 10 = .ok (.invokestatic 42, 3) := by decide +kernel
theorem dX10_shortNow_13 : decode cX10_shortNow 13 = .ok (.aload_n 0, 1) := by decide +kernel
theorem dX10_shortNow_14 : decode cX10_shortNow 14 = .ok (.iload_n 1, 1) := by decide +kernel
theorem dX10_shortNow_15 : decode cX10_shortNow 15 = .ok (.bipush 60, 2) := by decide +kernel
theorem dX10_shortNow_17 : decode cX10_shortNow 17 = .ok (.invokevirtual 189, 3) := by decide +kernel
theorem dX10_shortNow_20 : decode cX10_shortNow 20 = .ok (.ireturn, 1) := by decide +kernel
theorem dX10_shortIn_0 : decode cX10_shortIn 0 = .ok (.aload_n 0, 1) := by decide +kernel
theorem dX10_shortIn_1 : decode cX10_shortIn 1 = .ok (.aload_n 0, 1) := by decide +kernel
theorem dX10_shortIn_2 : decode cX10_shortIn 2 = .ok (.iload_n 1, 1) := by decide +kernel
theorem dX10_shortIn_3 : decode cX10_shortIn 3 = .ok (.invokevirtual 72, 3) := by decide +kernel
theorem dX10_shortIn_6 : decode cX10_shortIn 6 = .ok (.ifCond .eq 7, 3) := by decide +kernel
theorem dX10_shortIn_9 : decode cX10_shortIn 9 = .ok (.iconst 0, 1) := by decide +kernel
theorem dX10_shortIn_10 : decode cX10_shortIn 10 = .ok (.goto 4, 3) := by decide +kernel
theorem dX10_shortIn_13 : decode cX10_shortIn 13 = .ok (.iconst 1, 1) := by decide +kernel
theorem dX10_shortIn_14 : decode cX10_shortIn 14 = .ok (.putfield 31, 3) := by decide +kernel
theorem dX10_shortIn_17 : decode cX10_shortIn 17 = .ok (.aload_n 0, 1) := by decide +kernel
theorem dX10_shortIn_18 : decode cX10_shortIn 18 = .ok (.getfield 31, 3) := by decide +kernel
theorem dX10_shortIn_21 : decode cX10_shortIn 21 = .ok (.ifCond .le 7, 3) := by decide +kernel
theorem dX10_shortIn_24 : decode cX10_shortIn 24 = .ok (.iconst 0, 1) := by decide +kernel
theorem dX10_shortIn_25 : decode cX10_shortIn 25 = .ok (.goto 8, 3) := by decide +kernel
theorem dX10_shortIn_28 : decode cX10_shortIn 28 = .ok (.aload_n 0, 1) := by decide +kernel
theorem dX10_shortIn_29 : decode cX10_shortIn 29 = .ok (.iload_n 1, 1) := by decide +kernel
theorem dX10_shortIn_30 : decode cX10_shortIn 30 = .ok (.invokevirtual 192, 3) := by decide +kernel
theorem dX10_shortIn_33 : decode cX10_shortIn 33 = .ok (.ireturn, 1) := by decide +kernel
theorem dX10_bestNow_0 : decode cX10_bestNow 0 = .ok (.iconst (-1), 1) := by decide +kernel
theorem dX10_bestNow_1 : decode cX10_bestNow 1 = .ok (.istore_n 2, 1) := by decide +kernel
theorem dX10_bestNow_2 : decode cX10_bestNow 2 = .ok (.iconst 0, 1) := by decide +kernel
theorem dX10_bestNow_3 : decode cX10_bestNow 3 = .ok (.istore_n 3, 1) := by decide +kernel
theorem dX10_bestNow_4 : decode cX10_bestNow 4 = .ok (.iconst 0, 1) := by decide +kernel
theorem dX10_bestNow_5 : decode cX10_bestNow 5 = .ok (.istore 4, 2) := by decide +kernel
theorem dX10_bestNow_7 : decode cX10_bestNow 7 = .ok (.iload 4, 2) := by decide +kernel
theorem dX10_bestNow_9 : decode cX10_bestNow 9 = .ok (.iconst 3, 1) := by decide +kernel
theorem dX10_bestNow_10 : decode cX10_bestNow 10 = .ok (.if_icmp .ge 54, 3) := by decide +kernel
theorem dX10_bestNow_13 : decode cX10_bestNow 13 = .ok (.aload_n 0, 1) := by decide +kernel
theorem dX10_bestNow_14 : decode cX10_bestNow 14 = .ok (.iload_n 1, 1) := by decide +kernel
theorem dX10_bestNow_15 : decode cX10_bestNow 15 = .ok (.iload 4, 2) := by decide +kernel
theorem dX10_bestNow_17 : decode cX10_bestNow 17 = .ok (.aload_n 0, 1) := by decide +kernel
theorem dX10_bestNow_18 : decode cX10_bestNow 18 = .ok (.getfield 7, 3) := by decide +kernel
theorem dX10_bestNow_21 : decode cX10_bestNow 21 = .ok (.bipush 67, 2) := by decide +kernel
theorem dX10_bestNow_23 : decode cX10_bestNow 23 = .ok (.iload 4, 2) := by decide +kernel
theorem dX10_bestNow_25 : decode cX10_bestNow 25 = .ok (.iadd, 1) := by decide +kernel
theorem dX10_bestNow_26 : decode cX10_bestNow 26 = .ok (.iaload, 1) := by decide +kernel
theorem dX10_bestNow_27 : decode cX10_bestNow 27 = .ok (.invokevirtual 75, 3) := by decide +kernel
theorem dX10_bestNow_30 : decode cX10_bestNow 30 = .ok (.istore 5, 2) := by decide +kernel
theorem dX10_bestNow_32 : decode cX10_bestNow 32 = .ok (.iload 5, 2) := by decide +kernel
theorem dX10_bestNow_34 : decode cX10_bestNow 34 = .ok (.iload_n 3, 1) := by decide +kernel
theorem dX10_bestNow_35 : decode cX10_bestNow 35 = .ok (.if_icmp .le 8, 3) := by decide +kernel
theorem dX10_bestNow_38 : decode cX10_bestNow 38 = .ok (.iload 4, 2) := by decide +kernel
theorem dX10_bestNow_40 : decode cX10_bestNow 40 = .ok (.goto 4, 3) := by decide +kernel
theorem dX10_bestNow_43 : decode cX10_bestNow 43 = .ok (.iload_n 2, 1) := by decide +kernel
theorem dX10_bestNow_44 : decode cX10_bestNow 44 = .ok (.istore_n 2, 1) := by decide +kernel
theorem dX10_bestNow_45 : decode cX10_bestNow 45 = .ok (.iload 5, 2) := by decide +kernel
theorem dX10_bestNow_47 : decode cX10_bestNow 47 = .ok (.iload_n 3, 1) := by decide +kernel
theorem dX10_bestNow_48 : decode cX10_bestNow 48 = .ok (.if_icmp .le 8, 3) := by decide +kernel
theorem dX10_bestNow_51 : decode cX10_bestNow 51 = .ok (.iload 5, 2) := by decide +kernel
theorem dX10_bestNow_53 : decode cX10_bestNow 53 = .ok (.goto 4, 3) := by decide +kernel
theorem dX10_bestNow_56 : decode cX10_bestNow 56 = .ok (.iload_n 3, 1) := by decide +kernel
theorem dX10_bestNow_57 : decode cX10_bestNow 57 = .ok (.istore_n 3, 1) := by decide +kernel
theorem dX10_bestNow_58 : decode cX10_bestNow 58 = .ok (.iinc 4 1, 3) := by decide +kernel
theorem dX10_bestNow_61 : decode cX10_bestNow 61 = .ok (.goto (-54), 3) := by decide +kernel
theorem dX10_bestNow_64 : decode cX10_bestNow 64 = .ok (.iload_n 2, 1) := by decide +kernel
theorem dX10_bestNow_65 : decode cX10_bestNow 65 = .ok (.ireturn, 1) := by decide +kernel
theorem dX10_bestStore_0 : decode cX10_bestStore 0 = .ok (.aload_n 0, 1) := by decide +kernel
theorem dX10_bestStore_1 : decode cX10_bestStore 1 = .ok (.aload_n 0, 1) := by decide +kernel
theorem dX10_bestStore_2 : decode cX10_bestStore 2 = .ok (.iload_n 1, 1) := by decide +kernel
theorem dX10_bestStore_3 : decode cX10_bestStore 3 = .ok (.invokevirtual 72, 3) := by decide +kernel
theorem dX10_bestStore_6 : decode cX10_bestStore 6 = .ok (.ifCond .eq 7, 3) := by decide +kernel
theorem dX10_bestStore_9 : decode cX10_bestStore 9 = .ok (.iconst 0, 1) := by decide +kernel
theorem dX10_bestStore_10 : decode cX10_bestStore 10 = .ok (.goto 4, 3) := by decide +kernel
theorem dX10_bestStore_13 : decode cX10_bestStore 13 = .ok (.iconst 1, 1) := by decide +kernel
theorem dX10_bestStore_14 : decode cX10_bestStore 14 = .ok (.putfield 31, 3) := by decide +kernel
theorem dX10_bestStore_17 : decode cX10_bestStore 17 = .ok (.aload_n 0, 1) := by decide +kernel
theorem dX10_bestStore_18 : decode cX10_bestStore 18 = .ok (.getfield 31, 3) := by decide +kernel
theorem dX10_bestStore_21 : decode cX10_bestStore 21 = .ok (.ifCond .le 7, 3) := by decide +kernel
theorem dX10_bestStore_24 : decode cX10_bestStore 24 = .ok (.iconst 0, 1) := by decide +kernel
theorem dX10_bestStore_25 : decode cX10_bestStore 25 = .ok (.goto 8, 3) := by decide +kernel
theorem dX10_bestStore_28 : decode cX10_bestStore 28 = .ok (.aload_n 0, 1) := by decide +kernel
theorem dX10_bestStore_29 : decode cX10_bestStore 29 = .ok (.iload_n 1, 1) := by decide +kernel
theorem dX10_bestStore_30 : decode cX10_bestStore 30 = .ok (.invokevirtual 195, 3) := by decide +kernel
theorem dX10_bestStore_33 : decode cX10_bestStore 33 = .ok (.ireturn, 1) := by decide +kernel
theorem dX10_leastPurchase_0 : decode cX10_leastPurchase 0 = .ok (.aload_n 0, 1) := by decide +kernel
theorem dX10_leastPurchase_1 : decode cX10_leastPurchase 1 = .ok (.aload_n 0, 1) := by decide +kernel
theorem dX10_leastPurchase_2 : decode cX10_leastPurchase 2 = .ok (.iload_n 1, 1) := by decide +kernel
theorem dX10_leastPurchase_3 : decode cX10_leastPurchase 3 = .ok (.invokevirtual 72, 3) := by decide +kernel
theorem dX10_leastPurchase_6 : decode cX10_leastPurchase 6 = .ok (.ifCond .eq 14, 3) := by decide +kernel
theorem dX10_leastPurchase_9 : decode cX10_leastPurchase 9 = .ok (.iload_n 2, 1) := by decide +kernel
theorem dX10_leastPurchase_10 : decode cX10_leastPurchase 10 = .ok (.invokestatic 57, 3) := by decide +kernel
theorem dX10_leastPurchase_13 : decode cX10_leastPurchase 13 = .ok (.ifCond .eq 7, 3) := by decide +kernel
theorem dX10_leastPurchase_16 : decode cX10_leastPurchase 16 = .ok (.iconst 0, 1) := by decide +kernel
theorem dX10_leastPurchase_17 : decode cX10_leastPurchase 17 = .ok (.goto 4, 3) := by decide +kernel
theorem dX10_leastPurchase_20 : decode cX10_leastPurchase 20 = .ok (.iconst 1, 1) := by decide +kernel
theorem dX10_leastPurchase_21 : decode cX10_leastPurchase 21 = .ok (.putfield 31, 3) := by decide +kernel
theorem dX10_leastPurchase_24 : decode cX10_leastPurchase 24 = .ok (.aload_n 0, 1) := by decide +kernel
theorem dX10_leastPurchase_25 : decode cX10_leastPurchase 25 = .ok (.getfield 31, 3) := by decide +kernel
theorem dX10_leastPurchase_28 : decode cX10_leastPurchase 28 = .ok (.ifCond .le 5, 3) := by decide +kernel
theorem dX10_leastPurchase_31 : decode cX10_leastPurchase 31 = .ok (.iconst 0, 1) := by decide +kernel
theorem dX10_leastPurchase_32 : decode cX10_leastPurchase 32 = .ok (.ireturn, 1) := by decide +kernel
theorem dX10_leastPurchase_33 : decode cX10_leastPurchase 33 = .ok (.aload_n 0, 1) := by decide +kernel
theorem dX10_leastPurchase_34 : decode cX10_leastPurchase 34 = .ok (.invokevirtual 177, 3) := by decide +kernel
theorem dX10_leastPurchase_37 : decode cX10_leastPurchase 37 = .ok (.istore_n 3, 1) := by decide +kernel
theorem dX10_leastPurchase_38 : decode cX10_leastPurchase 38 = .ok (.iload_n 3, 1) := by decide +kernel
theorem dX10_leastPurchase_39 : decode cX10_leastPurchase 39 = .ok (.iconst (-1), 1) := by decide +kernel
theorem dX10_leastPurchase_40 : decode cX10_leastPurchase 40 = .ok (.if_icmp .eq 30, 3) := by decide +kernel
theorem dX10_leastPurchase_43 : decode cX10_leastPurchase 43 = .ok (.aload_n 0, 1) := by decide +kernel
theorem dX10_leastPurchase_44 : decode cX10_leastPurchase 44 = .ok (.getfield 7, 3) := by decide +kernel
theorem dX10_leastPurchase_47 : decode cX10_leastPurchase 47 = .ok (.sipush 324, 3) := by decide +kernel
theorem dX10_leastPurchase_50 : decode cX10_leastPurchase 50 = .ok (.bipush 10, 2) := by decide +kernel
theorem dX10_leastPurchase_52 : decode cX10_leastPurchase 52 = .ok (.iload_n 3, 1) := by decide +kernel
theorem dX10_leastPurchase_53 : decode cX10_leastPurchase 53 = .ok (.imul, 1) := by decide +kernel
theorem dX10_leastPurchase_54 : decode cX10_leastPurchase 54 = .ok (.iadd, 1) := by decide +kernel
theorem dX10_leastPurchase_55 : decode cX10_leastPurchase 55 = .ok (.iaload, 1) := by decide +kernel
theorem dX10_leastPurchase_56 : decode cX10_leastPurchase 56 = .ok (.aload_n 0, 1) := by decide +kernel
theorem dX10_leastPurchase_57 : decode cX10_leastPurchase 57 = .ok (.getfield 7, 3) := by decide +kernel
theorem dX10_leastPurchase_60 : decode cX10_leastPurchase 60 = .ok (.sipush 404, 3) := by decide +kernel
theorem dX10_leastPurchase_63 : decode cX10_leastPurchase 63 = .ok (.iaload, 1) := by decide +kernel
theorem dX10_leastPurchase_64 : decode cX10_leastPurchase 64 = .ok (.isub, 1) := by decide +kernel
theorem dX10_leastPurchase_65 : decode cX10_leastPurchase 65 = .ok (.bipush 60, 2) := by decide +kernel
theorem dX10_leastPurchase_67 : decode cX10_leastPurchase 67 = .ok (.if_icmp .le 8, 3) := by decide +kernel
theorem dX10_leastPurchase_70 : decode cX10_leastPurchase 70 = .ok (.bipush 60, 2) := by decide +kernel
theorem dX10_leastPurchase_72 : decode cX10_leastPurchase 72 = .ok (.goto 25, 3) := by decide +kernel
theorem dX10_leastPurchase_75 : decode cX10_leastPurchase 75 = .ok (.aload_n 0, 1) := by decide +kernel
theorem dX10_leastPurchase_76 : decode cX10_leastPurchase 76 = .ok (.getfield 7, 3) := by decide +kernel
theorem dX10_leastPurchase_79 : decode cX10_leastPurchase 79 = .ok (.sipush 324, 3) := by decide +kernel
theorem dX10_leastPurchase_82 : decode cX10_leastPurchase 82 = .ok (.bipush 10, 2) := by decide +kernel
theorem dX10_leastPurchase_84 : decode cX10_leastPurchase 84 = .ok (.iload_n 3, 1) := by decide +kernel
theorem dX10_leastPurchase_85 : decode cX10_leastPurchase 85 = .ok (.imul, 1) := by decide +kernel
theorem dX10_leastPurchase_86 : decode cX10_leastPurchase 86 = .ok (.iadd, 1) := by decide +kernel
theorem dX10_leastPurchase_87 : decode cX10_leastPurchase 87 = .ok (.iaload, 1) := by decide +kernel
theorem dX10_leastPurchase_88 : decode cX10_leastPurchase 88 = .ok (.aload_n 0, 1) := by decide +kernel
theorem dX10_leastPurchase_89 : decode cX10_leastPurchase 89 = .ok (.getfield 7, 3) := by decide +kernel
theorem dX10_leastPurchase_92 : decode cX10_leastPurchase 92 = .ok (.sipush 404, 3) := by decide +kernel
theorem dX10_leastPurchase_95 : decode cX10_leastPurchase 95 = .ok (.iaload, 1) := by decide +kernel
theorem dX10_leastPurchase_96 : decode cX10_leastPurchase 96 = .ok (.isub, 1) := by decide +kernel
theorem dX10_leastPurchase_97 : decode cX10_leastPurchase 97 = .ok (.istore 4, 2) := by decide +kernel
theorem dX10_leastPurchase_99 : decode cX10_leastPurchase 99 = .ok (.aload_n 0, 1) := by decide +kernel
theorem dX10_leastPurchase_100 : decode cX10_leastPurchase 100 = .ok (.getfield 7, 3) := by decide +kernel
theorem dX10_leastPurchase_103 : decode cX10_leastPurchase 103 = .ok (.iconst 0, 1) := by decide +kernel
theorem dX10_leastPurchase_104 : decode cX10_leastPurchase 104 = .ok (.aload_n 0, 1) := by decide +kernel
theorem dX10_leastPurchase_105 : decode cX10_leastPurchase 105 = .ok (.getfield 13, 3) := by decide +kernel
theorem dX10_leastPurchase_108 : decode cX10_leastPurchase 108 = .ok (.iconst 0, 1) := by decide +kernel
theorem dX10_leastPurchase_109 : decode cX10_leastPurchase 109 = .ok (.invokestatic 42, 3) := by decide +kernel
theorem dX10_leastPurchase_112 : decode cX10_leastPurchase 112 = .ok (.iconst 0, 1) := by decide +kernel
theorem dX10_leastPurchase_113 : decode cX10_leastPurchase 113 = .ok (.istore 5, 2) := by decide +kernel
theorem dX10_leastPurchase_115 : decode cX10_leastPurchase 115 = .ok (.iload 5, 2) := by decide +kernel
theorem dX10_leastPurchase_117 : decode cX10_leastPurchase 117 = .ok (.sipush 1000, 3) := by decide +kernel
theorem dX10_leastPurchase_120 : decode cX10_leastPurchase 120 = .ok (.if_icmp .gt 37, 3) := by decide +kernel
theorem dX10_leastPurchase_123 : decode cX10_leastPurchase 123 = .ok (.iload 5, 2) := by decide +kernel
theorem dX10_leastPurchase_125 : decode cX10_leastPurchase 125 = .ok (.ifCond .le 12, 3) := by decide +kernel
theorem dX10_leastPurchase_128 : decode cX10_leastPurchase 128 = .ok (.aload_n 0, 1) := by decide +kernel
theorem dX10_leastPurchase_129 : decode cX10_leastPurchase 129 = .ok (.iload_n 1, 1) := by decide +kernel
theorem dX10_leastPurchase_130 : decode cX10_leastPurchase 130 = .ok (.iload_n 2, 1) := by decide +kernel
theorem dX10_leastPurchase_131 : decode cX10_leastPurchase 131 = .ok (.iload 5, 2) := by decide +kernel
theorem dX10_leastPurchase_133 : decode cX10_leastPurchase 133 = .ok (.iconst 0, 1) := by decide +kernel
theorem dX10_leastPurchase_134 : decode cX10_leastPurchase 134 = .ok (.invokevirtual 92, 3) := by decide +kernel
theorem dX10_leastPurchase_137 : decode cX10_leastPurchase 137 = .ok (.aload_n 0, 1) := by decide +kernel
theorem dX10_leastPurchase_138 : decode cX10_leastPurchase 138 = .ok (.iload_n 1, 1) := by decide +kernel
theorem dX10_leastPurchase_139 : decode cX10_leastPurchase 139 = .ok (.iload 4, 2) := by decide +kernel
theorem dX10_leastPurchase_141 : decode cX10_leastPurchase 141 = .ok (.invokevirtual 189, 3) := by decide +kernel
theorem dX10_leastPurchase_144 : decode cX10_leastPurchase 144 = .ok (.iconst (-1), 1) := by decide +kernel
theorem dX10_leastPurchase_145 : decode cX10_leastPurchase 145 = .ok (.if_icmp .ne 6, 3) := by decide +kernel
theorem dX10_leastPurchase_148 : decode cX10_leastPurchase 148 = .ok (.iload 5, 2) := by decide +kernel
theorem dX10_leastPurchase_150 : decode cX10_leastPurchase 150 = .ok (.ireturn, 1) := by decide +kernel
theorem dX10_leastPurchase_151 : decode cX10_leastPurchase 151 = .ok (.iinc 5 10, 3) := by decide +kernel
theorem dX10_leastPurchase_154 : decode cX10_leastPurchase 154 = .ok (.goto (-39), 3) := by decide +kernel
theorem dX10_leastPurchase_157 : decode cX10_leastPurchase 157 = .ok (.iconst (-1), 1) := by decide +kernel
theorem dX10_leastPurchase_158 : decode cX10_leastPurchase 158 = .ok (.ireturn, 1) := by decide +kernel
theorem dX10_cheapest_0 : decode cX10_cheapest 0 = .ok (.aload_n 0, 1) := by decide +kernel
theorem dX10_cheapest_1 : decode cX10_cheapest 1 = .ok (.aload_n 0, 1) := by decide +kernel
theorem dX10_cheapest_2 : decode cX10_cheapest 2 = .ok (.iload_n 1, 1) := by decide +kernel
theorem dX10_cheapest_3 : decode cX10_cheapest 3 = .ok (.invokevirtual 72, 3) := by decide +kernel
theorem dX10_cheapest_6 : decode cX10_cheapest 6 = .ok (.ifCond .eq 7, 3) := by decide +kernel
theorem dX10_cheapest_9 : decode cX10_cheapest 9 = .ok (.iconst 0, 1) := by decide +kernel
theorem dX10_cheapest_10 : decode cX10_cheapest 10 = .ok (.goto 4, 3) := by decide +kernel
theorem dX10_cheapest_13 : decode cX10_cheapest 13 = .ok (.iconst 1, 1) := by decide +kernel
theorem dX10_cheapest_14 : decode cX10_cheapest 14 = .ok (.putfield 31, 3) := by decide +kernel
theorem dX10_cheapest_17 : decode cX10_cheapest 17 = .ok (.aload_n 0, 1) := by decide +kernel
theorem dX10_cheapest_18 : decode cX10_cheapest 18 = .ok (.getfield 31, 3) := by decide +kernel
theorem dX10_cheapest_21 : decode cX10_cheapest 21 = .ok (.ifCond .le 5, 3) := by decide +kernel
theorem dX10_cheapest_24 : decode cX10_cheapest 24 = .ok (.iconst 0, 1) := by decide +kernel
theorem dX10_cheapest_25 : decode cX10_cheapest 25 = .ok (.ireturn, 1) := by decide +kernel
theorem dX10_cheapest_26 : decode cX10_cheapest 26 = .ok (.iconst (-1), 1) := by decide +kernel
theorem dX10_cheapest_27 : decode cX10_cheapest 27 = .ok (.istore_n 2, 1) := by decide +kernel
theorem dX10_cheapest_28 : decode cX10_cheapest 28 = .ok (.iconst 0, 1) := by decide +kernel
theorem dX10_cheapest_29 : decode cX10_cheapest 29 = .ok (.istore_n 3, 1) := by decide +kernel
theorem dX10_cheapest_30 : decode cX10_cheapest 30 = .ok (.iload_n 3, 1) := by decide +kernel
theorem dX10_cheapest_31 : decode cX10_cheapest 31 = .ok (.aload_n 0, 1) := by decide +kernel
theorem dX10_cheapest_32 : decode cX10_cheapest 32 = .ok (.getfield 7, 3) := by decide +kernel
theorem dX10_cheapest_35 : decode cX10_cheapest 35 = .ok (.sipush 407, 3) := by decide +kernel
theorem dX10_cheapest_38 : decode cX10_cheapest 38 = .ok (.iaload, 1) := by decide +kernel
theorem dX10_cheapest_39 : decode cX10_cheapest 39 = .ok (.if_icmp .ge 102, 3) := by decide +kernel
theorem dX10_cheapest_42 : decode cX10_cheapest 42 = .ok (.aload_n 0, 1) := by decide +kernel
theorem dX10_cheapest_43 : decode cX10_cheapest 43 = .ok (.getfield 7, 3) := by decide +kernel
theorem dX10_cheapest_46 : decode cX10_cheapest 46 = .ok (.sipush 324, 3) := by decide +kernel
theorem dX10_cheapest_49 : decode cX10_cheapest 49 = .ok (.bipush 10, 2) := by decide +kernel
theorem dX10_cheapest_51 : decode cX10_cheapest 51 = .ok (.iload_n 3, 1) := by decide +kernel
theorem dX10_cheapest_52 : decode cX10_cheapest 52 = .ok (.imul, 1) := by decide +kernel
theorem dX10_cheapest_53 : decode cX10_cheapest 53 = .ok (.iadd, 1) := by decide +kernel
theorem dX10_cheapest_54 : decode cX10_cheapest 54 = .ok (.iconst 2, 1) := by decide +kernel
theorem dX10_cheapest_55 : decode cX10_cheapest 55 = .ok (.iadd, 1) := by decide +kernel
theorem dX10_cheapest_56 : decode cX10_cheapest 56 = .ok (.iload_n 1, 1) := by decide +kernel
theorem dX10_cheapest_57 : decode cX10_cheapest 57 = .ok (.iadd, 1) := by decide +kernel
theorem dX10_cheapest_58 : decode cX10_cheapest 58 = .ok (.iaload, 1) := by decide +kernel
theorem dX10_cheapest_59 : decode cX10_cheapest 59 = .ok (.istore 4, 2) := by decide +kernel
theorem dX10_cheapest_61 : decode cX10_cheapest 61 = .ok (.iload 4, 2) := by decide +kernel
theorem dX10_cheapest_63 : decode cX10_cheapest 63 = .ok (.ifCond .le 31, 3) := by decide +kernel
theorem dX10_cheapest_66 : decode cX10_cheapest 66 = .ok (.aload_n 0, 1) := by decide +kernel
theorem dX10_cheapest_67 : decode cX10_cheapest 67 = .ok (.getfield 7, 3) := by decide +kernel
theorem dX10_cheapest_70 : decode cX10_cheapest 70 = .ok (.sipush 324, 3) := by decide +kernel
theorem dX10_cheapest_73 : decode cX10_cheapest 73 = .ok (.bipush 10, 2) := by decide +kernel
theorem dX10_cheapest_75 : decode cX10_cheapest 75 = .ok (.iload_n 3, 1) := by decide +kernel
theorem dX10_cheapest_76 : decode cX10_cheapest 76 = .ok (.imul, 1) := by decide +kernel
theorem dX10_cheapest_77 : decode cX10_cheapest 77 = .ok (.iadd, 1) := by decide +kernel
theorem dX10_cheapest_78 : decode cX10_cheapest 78 = .ok (.iaload, 1) := by decide +kernel
theorem dX10_cheapest_79 : decode cX10_cheapest 79 = .ok (.aload_n 0, 1) := by decide +kernel
theorem dX10_cheapest_80 : decode cX10_cheapest 80 = .ok (.getfield 7, 3) := by decide +kernel
theorem dX10_cheapest_83 : decode cX10_cheapest 83 = .ok (.sipush 404, 3) := by decide +kernel
theorem dX10_cheapest_86 : decode cX10_cheapest 86 = .ok (.iaload, 1) := by decide +kernel
theorem dX10_cheapest_87 : decode cX10_cheapest 87 = .ok (.if_icmp .lt 7, 3) := by decide +kernel
theorem dX10_cheapest_90 : decode cX10_cheapest 90 = .ok (.iconst 1, 1) := by decide +kernel
theorem dX10_cheapest_91 : decode cX10_cheapest 91 = .ok (.goto 4, 3) := by decide +kernel
theorem dX10_cheapest_94 : decode cX10_cheapest 94 = .ok (.iconst 0, 1) := by decide +kernel
theorem dX10_cheapest_95 : decode cX10_cheapest 95 = .ok (.istore 5, 2) := by decide +kernel
theorem dX10_cheapest_97 : decode cX10_cheapest 97 = .ok (.iload 5, 2) := by decide +kernel
theorem dX10_cheapest_99 : decode cX10_cheapest 99 = .ok (.ifCond .eq 34, 3) := by decide +kernel
theorem dX10_cheapest_102 : decode cX10_cheapest 102 = .ok (.iload_n 2, 1) := by decide +kernel
theorem dX10_cheapest_103 : decode cX10_cheapest 103 = .ok (.iconst (-1), 1) := by decide +kernel
theorem dX10_cheapest_104 : decode cX10_cheapest 104 = .ok (.if_icmp .eq 25, 3) := by decide +kernel
theorem dX10_cheapest_107 : decode cX10_cheapest 107 = .ok (.iload 4, 2) := by decide +kernel
theorem dX10_cheapest_109 : decode cX10_cheapest 109 = .ok (.aload_n 0, 1) := by decide +kernel
theorem dX10_cheapest_110 : decode cX10_cheapest 110 = .ok (.getfield 7, 3) := by decide +kernel
theorem dX10_cheapest_113 : decode cX10_cheapest 113 = .ok (.sipush 324, 3) := by decide +kernel
theorem dX10_cheapest_116 : decode cX10_cheapest 116 = .ok (.bipush 10, 2) := by decide +kernel
theorem dX10_cheapest_118 : decode cX10_cheapest 118 = .ok (.iload_n 2, 1) := by decide +kernel
theorem dX10_cheapest_119 : decode cX10_cheapest 119 = .ok (.imul, 1) := by decide +kernel
theorem dX10_cheapest_120 : decode cX10_cheapest 120 = .ok (.iadd, 1) := by decide +kernel
theorem dX10_cheapest_121 : decode cX10_cheapest 121 = .ok (.iconst 2, 1) := by decide +kernel
theorem dX10_cheapest_122 : decode cX10_cheapest 122 = .ok (.iadd, 1) := by decide +kernel
theorem dX10_cheapest_123 : decode cX10_cheapest 123 = .ok (.iload_n 1, 1) := by decide +kernel
theorem dX10_cheapest_124 : decode cX10_cheapest 124 = .ok (.iadd, 1) := by decide +kernel
theorem dX10_cheapest_125 : decode cX10_cheapest 125 = .ok (.iaload, 1) := by decide +kernel
theorem dX10_cheapest_126 : decode cX10_cheapest 126 = .ok (.if_icmp .ge 7, 3) := by decide +kernel
theorem dX10_cheapest_129 : decode cX10_cheapest 129 = .ok (.iload_n 3, 1) := by decide +kernel
theorem dX10_cheapest_130 : decode cX10_cheapest 130 = .ok (.goto 4, 3) := by decide +kernel
theorem dX10_cheapest_133 : decode cX10_cheapest 133 = .ok (.iload_n 2, 1) := by decide +kernel
theorem dX10_cheapest_134 : decode cX10_cheapest 134 = .ok (.istore_n 2, 1) := by decide +kernel
theorem dX10_cheapest_135 : decode cX10_cheapest 135 = .ok (.iinc 3 1, 3) := by decide +kernel
theorem dX10_cheapest_138 : decode cX10_cheapest 138 = .ok (.goto (-108), 3) := by decide +kernel
theorem dX10_cheapest_141 : decode cX10_cheapest 141 = .ok (.iload_n 2, 1) := by decide +kernel
theorem dX10_cheapest_142 : decode cX10_cheapest 142 = .ok (.ireturn, 1) := by decide +kernel
theorem dX10_meanNow_0 : decode cX10_meanNow 0 = .ok (.iconst 0, 1) := by decide +kernel
theorem dX10_meanNow_1 : decode cX10_meanNow 1 = .ok (.istore_n 1, 1) := by decide +kernel
theorem dX10_meanNow_2 : decode cX10_meanNow 2 = .ok (.iconst 0, 1) := by decide +kernel
theorem dX10_meanNow_3 : decode cX10_meanNow 3 = .ok (.istore_n 2, 1) := by decide +kernel
theorem dX10_meanNow_4 : decode cX10_meanNow 4 = .ok (.iload_n 2, 1) := by decide +kernel
theorem dX10_meanNow_5 : decode cX10_meanNow 5 = .ok (.aload_n 0, 1) := by decide +kernel
theorem dX10_meanNow_6 : decode cX10_meanNow 6 = .ok (.getfield 7, 3) := by decide +kernel
theorem dX10_meanNow_9 : decode cX10_meanNow 9 = .ok (.sipush 406, 3) := by decide +kernel
theorem dX10_meanNow_12 : decode cX10_meanNow 12 = .ok (.iaload, 1) := by decide +kernel
theorem dX10_meanNow_13 : decode cX10_meanNow 13 = .ok (.if_icmp .ge 25, 3) := by decide +kernel
theorem dX10_meanNow_16 : decode cX10_meanNow 16 = .ok (.iload_n 1, 1) := by decide +kernel
theorem dX10_meanNow_17 : decode cX10_meanNow 17 = .ok (.aload_n 0, 1) := by decide +kernel
theorem dX10_meanNow_18 : decode cX10_meanNow 18 = .ok (.iload_n 2, 1) := by decide +kernel
theorem dX10_meanNow_19 : decode cX10_meanNow 19 = .ok (.iconst 3, 1) := by decide +kernel
theorem dX10_meanNow_20 : decode cX10_meanNow 20 = .ok (.invokevirtual 53, 3) := by decide +kernel
theorem dX10_meanNow_23 : decode cX10_meanNow 23 = .ok (.aload_n 0, 1) := by decide +kernel
theorem dX10_meanNow_24 : decode cX10_meanNow 24 = .ok (.iload_n 2, 1) := by decide +kernel
theorem dX10_meanNow_25 : decode cX10_meanNow 25 = .ok (.iconst 2, 1) := by decide +kernel
theorem dX10_meanNow_26 : decode cX10_meanNow 26 = .ok (.invokevirtual 53, 3) := by decide +kernel
theorem dX10_meanNow_29 : decode cX10_meanNow 29 = .ok (.imul, 1) := by decide +kernel
theorem dX10_meanNow_30 : decode cX10_meanNow 30 = .ok (.iadd, 1) := by decide +kernel
theorem dX10_meanNow_31 : decode cX10_meanNow 31 = .ok (.istore_n 1, 1) := by decide +kernel
theorem dX10_meanNow_32 : decode cX10_meanNow 32 = .ok (.iinc 2 1, 3) := by decide +kernel
theorem dX10_meanNow_35 : decode cX10_meanNow 35 = .ok (.goto (-31), 3) := by decide +kernel
theorem dX10_meanNow_38 : decode cX10_meanNow 38 = .ok (.aload_n 0, 1) := by decide +kernel
theorem dX10_meanNow_39 : decode cX10_meanNow 39 = .ok (.invokevirtual 102, 3) := by decide +kernel
theorem dX10_meanNow_42 : decode cX10_meanNow 42 = .ok (.ifCond .ne 7, 3) := by decide +kernel
theorem dX10_meanNow_45 : decode cX10_meanNow 45 = .ok (.dconst 0, 1) := by decide +kernel
theorem dX10_meanNow_46 : decode cX10_meanNow 46 = .ok (.goto 11, 3) := by decide +kernel
theorem dX10_meanNow_49 : decode cX10_meanNow 49 = .ok (.iload_n 1, 1) := by decide +kernel
theorem dX10_meanNow_50 : decode cX10_meanNow 50 = .ok (.i2d, 1) := by decide +kernel
theorem dX10_meanNow_51 : decode cX10_meanNow 51 = .ok (.aload_n 0, 1) := by decide +kernel
theorem dX10_meanNow_52 : decode cX10_meanNow 52 = .ok (.invokevirtual 102, 3) := by decide +kernel
theorem dX10_meanNow_55 : decode cX10_meanNow 55 = .ok (.i2d, 1) := by decide +kernel
theorem dX10_meanNow_56 : decode cX10_meanNow 56 = .ok (.ddiv, 1) := by decide +kernel
theorem dX10_meanNow_57 : decode cX10_meanNow 57 = .ok (.dreturn, 1) := by decide +kernel
theorem dX10_meanAge_0 : decode cX10_meanAge 0 = .ok (.aload_n 0, 1) := by decide +kernel
theorem dX10_meanAge_1 : decode cX10_meanAge 1 = .ok (.iconst 0, 1) := by decide +kernel
theorem dX10_meanAge_2 : decode cX10_meanAge 2 = .ok (.putfield 31, 3) := by decide +kernel
theorem dX10_meanAge_5 : decode cX10_meanAge 5 = .ok (.aload_n 0, 1) := by decide +kernel
theorem dX10_meanAge_6 : decode cX10_meanAge 6 = .ok (.invokevirtual 198, 3) := by decide +kernel
theorem dX10_meanAge_9 : decode cX10_meanAge 9 = .ok (.dreturn, 1) := by decide +kernel
theorem dX10_mix_0 : decode cX10_mix 0 = .ok (.aload_n 0, 1) := by decide +kernel
theorem dX10_mix_1 : decode cX10_mix 1 = .ok (.ldc2_w 202, 3) := by decide +kernel
theorem dX10_mix_4 : decode cX10_mix 4 = .ok (.aload_n 0, 1) := by decide +kernel
theorem dX10_mix_5 : decode cX10_mix 5 = .ok (.getfield 204, 3) := by decide +kernel
theorem dX10_mix_8 : decode cX10_mix 8 = .ok (.lmul, 1) := by decide +kernel
theorem dX10_mix_9 : decode cX10_mix 9 = .ok (.lload_n 1, 1) := by decide +kernel
theorem dX10_mix_10 : decode cX10_mix 10 = .ok (.ladd, 1) := by decide +kernel
theorem dX10_mix_11 : decode cX10_mix 11 = .ok (.putfield 204, 3) := by decide +kernel
theorem dX10_mix_14 : decode cX10_mix 14 = .ok (.return_, 1) := by decide +kernel
theorem dX10_mixKinds_0 : decode cX10_mixKinds 0 = .ok (.iconst 0, 1) := by decide +kernel
theorem dX10_mixKinds_1 : decode cX10_mixKinds 1 = .ok (.istore_n 1, 1) := by decide +kernel
theorem dX10_mixKinds_2 : decode cX10_mixKinds 2 = .ok (.iload_n 1, 1) := by decide +kernel
theorem dX10_mixKinds_3 : decode cX10_mixKinds 3 = .ok (.aload_n 0, 1) := by decide +kernel
theorem dX10_mixKinds_4 : decode cX10_mixKinds 4 = .ok (.getfield 7, 3) := by decide +kernel
theorem dX10_mixKinds_7 : decode cX10_mixKinds 7 = .ok (.sipush 405, 3) := by decide +kernel
theorem dX10_mixKinds_10 : decode cX10_mixKinds 10 = .ok (.iaload, 1) := by decide +kernel
theorem dX10_mixKinds_11 : decode cX10_mixKinds 11 = .ok (.if_icmp .ge 54, 3) := by decide +kernel
theorem dX10_mixKinds_14 : decode cX10_mixKinds 14 = .ok (.iconst 0, 1) := by decide +kernel
theorem dX10_mixKinds_15 : decode cX10_mixKinds 15 = .ok (.istore_n 2, 1) := by decide +kernel
theorem dX10_mixKinds_16 : decode cX10_mixKinds 16 = .ok (.iload_n 2, 1) := by decide +kernel
theorem dX10_mixKinds_17 : decode cX10_mixKinds 17 = .ok (.bipush 10, 2) := by decide +kernel
theorem dX10_mixKinds_19 : decode cX10_mixKinds 19 = .ok (.if_icmp .ge 20, 3) := by decide +kernel
theorem dX10_mixKinds_22 : decode cX10_mixKinds 22 = .ok (.aload_n 0, 1) := by decide +kernel
theorem dX10_mixKinds_23 : decode cX10_mixKinds 23 = .ok (.aload_n 0, 1) := by decide +kernel
theorem dX10_mixKinds_24 : decode cX10_mixKinds 24 = .ok (.iload_n 1, 1) := by decide +kernel
theorem dX10_mixKinds_25 : decode cX10_mixKinds 25 = .ok (.iload_n 2, 1) := by decide +kernel
theorem dX10_mixKinds_26 : decode cX10_mixKinds 26 = .ok (.invokevirtual 171, 3) := by decide +kernel
theorem dX10_mixKinds_29 : decode cX10_mixKinds 29 = .ok (.i2l, 1) := by decide +kernel
theorem dX10_mixKinds_30 : decode cX10_mixKinds 30 = .ok (.invokevirtual 208, 3) := by decide +kernel
theorem dX10_mixKinds_33 : decode cX10_mixKinds 33 = .ok (.iinc 2 1, 3) := by decide +kernel
theorem dX10_mixKinds_36 : decode cX10_mixKinds 36 = .ok (.goto (-20), 3) := by decide +kernel
theorem dX10_mixKinds_39 : decode cX10_mixKinds 39 = .ok (.aload_n 0, 1) := by decide +kernel
theorem dX10_mixKinds_40 : decode cX10_mixKinds 40 = .ok (.aload_n 0, 1) := by decide +kernel
theorem dX10_mixKinds_41 : decode cX10_mixKinds 41 = .ok (.iload_n 1, 1) := by decide +kernel
theorem dX10_mixKinds_42 : decode cX10_mixKinds 42 = .ok (.invokevirtual 192, 3) := by decide +kernel
theorem dX10_mixKinds_45 : decode cX10_mixKinds 45 = .ok (.i2l, 1) := by decide +kernel
theorem dX10_mixKinds_46 : decode cX10_mixKinds 46 = .ok (.invokevirtual 208, 3) := by decide +kernel
theorem dX10_mixKinds_49 : decode cX10_mixKinds 49 = .ok (.aload_n 0, 1) := by decide +kernel
theorem dX10_mixKinds_50 : decode cX10_mixKinds 50 = .ok (.aload_n 0, 1) := by decide +kernel
theorem dX10_mixKinds_51 : decode cX10_mixKinds 51 = .ok (.iload_n 1, 1) := by decide +kernel
theorem dX10_mixKinds_52 : decode cX10_mixKinds 52 = .ok (.invokevirtual 195, 3) := by decide +kernel
theorem dX10_mixKinds_55 : decode cX10_mixKinds 55 = .ok (.i2l, 1) := by decide +kernel
theorem dX10_mixKinds_56 : decode cX10_mixKinds 56 = .ok (.invokevirtual 208, 3) := by decide +kernel
theorem dX10_mixKinds_59 : decode cX10_mixKinds 59 = .ok (.iinc 1 1, 3) := by decide +kernel
theorem dX10_mixKinds_62 : decode cX10_mixKinds 62 = .ok (.goto (-60), 3) := by decide +kernel
theorem dX10_mixKinds_65 : decode cX10_mixKinds 65 = .ok (.return_, 1) := by decide +kernel
theorem dX10_mixPorts_0 : decode cX10_mixPorts 0 = .ok (.iconst 0, 1) := by decide +kernel
theorem dX10_mixPorts_1 : decode cX10_mixPorts 1 = .ok (.istore_n 1, 1) := by decide +kernel
theorem dX10_mixPorts_2 : decode cX10_mixPorts 2 = .ok (.iload_n 1, 1) := by decide +kernel
theorem dX10_mixPorts_3 : decode cX10_mixPorts 3 = .ok (.aload_n 0, 1) := by decide +kernel
theorem dX10_mixPorts_4 : decode cX10_mixPorts 4 = .ok (.getfield 7, 3) := by decide +kernel
theorem dX10_mixPorts_7 : decode cX10_mixPorts 7 = .ok (.sipush 407, 3) := by decide +kernel
theorem dX10_mixPorts_10 : decode cX10_mixPorts 10 = .ok (.iaload, 1) := by decide +kernel
theorem dX10_mixPorts_11 : decode cX10_mixPorts 11 = .ok (.if_icmp .ge 51, 3) := by decide +kernel
theorem dX10_mixPorts_14 : decode cX10_mixPorts 14 = .ok (.iconst 0, 1) := by decide +kernel
theorem dX10_mixPorts_15 : decode cX10_mixPorts 15 = .ok (.istore_n 2, 1) := by decide +kernel
theorem dX10_mixPorts_16 : decode cX10_mixPorts 16 = .ok (.iload_n 2, 1) := by decide +kernel
theorem dX10_mixPorts_17 : decode cX10_mixPorts 17 = .ok (.iconst 2, 1) := by decide +kernel
theorem dX10_mixPorts_18 : decode cX10_mixPorts 18 = .ok (.aload_n 0, 1) := by decide +kernel
theorem dX10_mixPorts_19 : decode cX10_mixPorts 19 = .ok (.getfield 7, 3) := by decide +kernel
theorem dX10_mixPorts_22 : decode cX10_mixPorts 22 = .ok (.sipush 405, 3) := by decide +kernel
theorem dX10_mixPorts_25 : decode cX10_mixPorts 25 = .ok (.iaload, 1) := by decide +kernel
theorem dX10_mixPorts_26 : decode cX10_mixPorts 26 = .ok (.iadd, 1) := by decide +kernel
theorem dX10_mixPorts_27 : decode cX10_mixPorts 27 = .ok (.if_icmp .ge 29, 3) := by decide +kernel
theorem dX10_mixPorts_30 : decode cX10_mixPorts 30 = .ok (.aload_n 0, 1) := by decide +kernel
theorem dX10_mixPorts_31 : decode cX10_mixPorts 31 = .ok (.aload_n 0, 1) := by decide +kernel
theorem dX10_mixPorts_32 : decode cX10_mixPorts 32 = .ok (.getfield 7, 3) := by decide +kernel
theorem dX10_mixPorts_35 : decode cX10_mixPorts 35 = .ok (.sipush 324, 3) := by decide +kernel
theorem dX10_mixPorts_38 : decode cX10_mixPorts 38 = .ok (.bipush 10, 2) := by decide +kernel
theorem dX10_mixPorts_40 : decode cX10_mixPorts 40 = .ok (.iload_n 1, 1) := by decide +kernel
theorem dX10_mixPorts_41 : decode cX10_mixPorts 41 = .ok (.imul, 1) := by decide +kernel
theorem dX10_mixPorts_42 : decode cX10_mixPorts 42 = .ok (.iadd, 1) := by decide +kernel
theorem dX10_mixPorts_43 : decode cX10_mixPorts 43 = .ok (.iload_n 2, 1) := by decide +kernel
theorem dX10_mixPorts_44 : decode cX10_mixPorts 44 = .ok (.iadd, 1) := by decide +kernel
theorem dX10_mixPorts_45 : decode cX10_mixPorts 45 = .ok (.iaload, 1) := by decide +kernel
theorem dX10_mixPorts_46 : decode cX10_mixPorts 46 = .ok (.i2l, 1) := by decide +kernel
theorem dX10_mixPorts_47 : decode cX10_mixPorts 47 = .ok (.invokevirtual 208, 3) := by decide +kernel
theorem dX10_mixPorts_50 : decode cX10_mixPorts 50 = .ok (.iinc 2 1, 3) := by decide +kernel
theorem dX10_mixPorts_53 : decode cX10_mixPorts 53 = .ok (.goto (-37), 3) := by decide +kernel
theorem dX10_mixPorts_56 : decode cX10_mixPorts 56 = .ok (.iinc 1 1, 3) := by decide +kernel
theorem dX10_mixPorts_59 : decode cX10_mixPorts 59 = .ok (.goto (-57), 3) := by decide +kernel
theorem dX10_mixPorts_62 : decode cX10_mixPorts 62 = .ok (.return_, 1) := by decide +kernel
theorem dX10_digest_0 : decode cX10_digest 0 = .ok (.aload_n 0, 1) := by decide +kernel
theorem dX10_digest_1 : decode cX10_digest 1 = .ok (.iconst 0, 1) := by decide +kernel
theorem dX10_digest_2 : decode cX10_digest 2 = .ok (.putfield 31, 3) := by decide +kernel
theorem dX10_digest_5 : decode cX10_digest 5 = .ok (.aload_n 0, 1) := by decide +kernel
theorem dX10_digest_6 : decode cX10_digest 6 = .ok (.ldc2_w 212, 3) := by decide +kernel
theorem dX10_digest_9 : decode cX10_digest 9 = .ok (.putfield 204, 3) := by decide +kernel
theorem dX10_digest_12 : decode cX10_digest 12 = .ok (.iconst 0, 1) := by decide +kernel
theorem dX10_digest_13 : decode cX10_digest 13 = .ok (.istore_n 1, 1) := by decide +kernel
theorem dX10_digest_14 : decode cX10_digest 14 = .ok (.iload_n 1, 1) := by decide +kernel
theorem dX10_digest_15 : decode cX10_digest 15 = .ok (.bipush 13, 2) := by decide +kernel
theorem dX10_digest_17 : decode cX10_digest 17 = .ok (.if_icmp .ge 19, 3) := by decide +kernel
theorem dX10_digest_20 : decode cX10_digest 20 = .ok (.aload_n 0, 1) := by decide +kernel
theorem dX10_digest_21 : decode cX10_digest 21 = .ok (.aload_n 0, 1) := by decide +kernel
theorem dX10_digest_22 : decode cX10_digest 22 = .ok (.iload_n 1, 1) := by decide +kernel
theorem dX10_digest_23 : decode cX10_digest 23 = .ok (.invokevirtual 180, 3) := by decide +kernel
theorem dX10_digest_26 : decode cX10_digest 26 = .ok (.i2l, 1) := by decide +kernel
theorem dX10_digest_27 : decode cX10_digest 27 = .ok (.invokevirtual 208, 3) := by decide +kernel
theorem dX10_digest_30 : decode cX10_digest 30 = .ok (.iinc 1 1, 3) := by decide +kernel
theorem dX10_digest_33 : decode cX10_digest 33 = .ok (.goto (-19), 3) := by decide +kernel
theorem dX10_digest_36 : decode cX10_digest 36 = .ok (.iconst 0, 1) := by decide +kernel
theorem dX10_digest_37 : decode cX10_digest 37 = .ok (.istore_n 1, 1) := by decide +kernel
theorem dX10_digest_38 : decode cX10_digest 38 = .ok (.iload_n 1, 1) := by decide +kernel
theorem dX10_digest_39 : decode cX10_digest 39 = .ok (.bipush 6, 2) := by decide +kernel
theorem dX10_digest_41 : decode cX10_digest 41 = .ok (.aload_n 0, 1) := by decide +kernel
theorem dX10_digest_42 : decode cX10_digest 42 = .ok (.getfield 7, 3) := by decide +kernel
theorem dX10_digest_45 : decode cX10_digest 45 = .ok (.sipush 406, 3) := by decide +kernel
theorem dX10_digest_48 : decode cX10_digest 48 = .ok (.iaload, 1) := by decide +kernel
theorem dX10_digest_49 : decode cX10_digest 49 = .ok (.imul, 1) := by decide +kernel
theorem dX10_digest_50 : decode cX10_digest 50 = .ok (.if_icmp .ge 26, 3) := by decide +kernel
theorem dX10_digest_53 : decode cX10_digest 53 = .ok (.aload_n 0, 1) := by decide +kernel
theorem dX10_digest_54 : decode cX10_digest 54 = .ok (.aload_n 0, 1) := by decide +kernel
theorem dX10_digest_55 : decode cX10_digest 55 = .ok (.iload_n 1, 1) := by decide +kernel
theorem dX10_digest_56 : decode cX10_digest 56 = .ok (.bipush 6, 2) := by decide +kernel
theorem dX10_digest_58 : decode cX10_digest 58 = .ok (.idiv, 1) := by decide +kernel
theorem dX10_digest_59 : decode cX10_digest 59 = .ok (.iload_n 1, 1) := by decide +kernel
theorem dX10_digest_60 : decode cX10_digest 60 = .ok (.bipush 6, 2) := by decide +kernel
theorem dX10_digest_62 : decode cX10_digest 62 = .ok (.irem, 1) := by decide +kernel
theorem dX10_digest_63 : decode cX10_digest 63 = .ok (.invokevirtual 159, 3) := by decide +kernel
theorem dX10_digest_66 : decode cX10_digest 66 = .ok (.i2l, 1) := by decide +kernel
theorem dX10_digest_67 : decode cX10_digest 67 = .ok (.invokevirtual 208, 3) := by decide +kernel
theorem dX10_digest_70 : decode cX10_digest 70 = .ok (.iinc 1 1, 3) := by decide +kernel
theorem dX10_digest_73 : decode cX10_digest 73 = .ok (.goto (-35), 3) := by decide +kernel
theorem dX10_digest_76 : decode cX10_digest 76 = .ok (.iconst 0, 1) := by decide +kernel
theorem dX10_digest_77 : decode cX10_digest 77 = .ok (.istore_n 1, 1) := by decide +kernel
theorem dX10_digest_78 : decode cX10_digest 78 = .ok (.iload_n 1, 1) := by decide +kernel
theorem dX10_digest_79 : decode cX10_digest 79 = .ok (.bipush 12, 2) := by decide +kernel
theorem dX10_digest_81 : decode cX10_digest 81 = .ok (.if_icmp .ge 24, 3) := by decide +kernel
theorem dX10_digest_84 : decode cX10_digest 84 = .ok (.aload_n 0, 1) := by decide +kernel
theorem dX10_digest_85 : decode cX10_digest 85 = .ok (.aload_n 0, 1) := by decide +kernel
theorem dX10_digest_86 : decode cX10_digest 86 = .ok (.iload_n 1, 1) := by decide +kernel
theorem dX10_digest_87 : decode cX10_digest 87 = .ok (.iconst 4, 1) := by decide +kernel
theorem dX10_digest_88 : decode cX10_digest 88 = .ok (.idiv, 1) := by decide +kernel
theorem dX10_digest_89 : decode cX10_digest 89 = .ok (.iload_n 1, 1) := by decide +kernel
theorem dX10_digest_90 : decode cX10_digest 90 = .ok (.iconst 4, 1) := by decide +kernel
theorem dX10_digest_91 : decode cX10_digest 91 = .ok (.irem, 1) := by decide +kernel
theorem dX10_digest_92 : decode cX10_digest 92 = .ok (.invokevirtual 165, 3) := by decide +kernel
theorem dX10_digest_95 : decode cX10_digest 95 = .ok (.i2l, 1) := by decide +kernel
theorem dX10_digest_96 : decode cX10_digest 96 = .ok (.invokevirtual 208, 3) := by decide +kernel
theorem dX10_digest_99 : decode cX10_digest 99 = .ok (.iinc 1 1, 3) := by decide +kernel
theorem dX10_digest_102 : decode cX10_digest 102 = .ok (.goto (-24), 3) := by decide +kernel
theorem dX10_digest_105 : decode cX10_digest 105 = .ok (.aload_n 0, 1) := by decide +kernel
theorem dX10_digest_106 : decode cX10_digest 106 = .ok (.invokevirtual 214, 3) := by decide +kernel
theorem dX10_digest_109 : decode cX10_digest 109 = .ok (.aload_n 0, 1) := by decide +kernel
theorem dX10_digest_110 : decode cX10_digest 110 = .ok (.invokevirtual 217, 3) := by decide +kernel
theorem dX10_digest_113 : decode cX10_digest 113 = .ok (.iconst 0, 1) := by decide +kernel
theorem dX10_digest_114 : decode cX10_digest 114 = .ok (.istore_n 1, 1) := by decide +kernel
theorem dX10_digest_115 : decode cX10_digest 115 = .ok (.iload_n 1, 1) := by decide +kernel
theorem dX10_digest_116 : decode cX10_digest 116 = .ok (.bipush 12, 2) := by decide +kernel
theorem dX10_digest_118 : decode cX10_digest 118 = .ok (.aload_n 0, 1) := by decide +kernel
theorem dX10_digest_119 : decode cX10_digest 119 = .ok (.getfield 7, 3) := by decide +kernel
theorem dX10_digest_122 : decode cX10_digest 122 = .ok (.sipush 408, 3) := by decide +kernel
theorem dX10_digest_125 : decode cX10_digest 125 = .ok (.iaload, 1) := by decide +kernel
theorem dX10_digest_126 : decode cX10_digest 126 = .ok (.imul, 1) := by decide +kernel
theorem dX10_digest_127 : decode cX10_digest 127 = .ok (.if_icmp .ge 30, 3) := by decide +kernel
theorem dX10_digest_130 : decode cX10_digest 130 = .ok (.aload_n 0, 1) := by decide +kernel
theorem dX10_digest_131 : decode cX10_digest 131 = .ok (.aload_n 0, 1) := by decide +kernel
theorem dX10_digest_132 : decode cX10_digest 132 = .ok (.iload_n 1, 1) := by decide +kernel
theorem dX10_digest_133 : decode cX10_digest 133 = .ok (.bipush 12, 2) := by decide +kernel
theorem dX10_digest_135 : decode cX10_digest 135 = .ok (.idiv, 1) := by decide +kernel
theorem dX10_digest_136 : decode cX10_digest 136 = .ok (.iload_n 1, 1) := by decide +kernel
theorem dX10_digest_137 : decode cX10_digest 137 = .ok (.iconst 3, 1) := by decide +kernel
theorem dX10_digest_138 : decode cX10_digest 138 = .ok (.idiv, 1) := by decide +kernel
theorem dX10_digest_139 : decode cX10_digest 139 = .ok (.iconst 4, 1) := by decide +kernel
theorem dX10_digest_140 : decode cX10_digest 140 = .ok (.irem, 1) := by decide +kernel
theorem dX10_digest_141 : decode cX10_digest 141 = .ok (.iload_n 1, 1) := by decide +kernel
theorem dX10_digest_142 : decode cX10_digest 142 = .ok (.iconst 3, 1) := by decide +kernel
theorem dX10_digest_143 : decode cX10_digest 143 = .ok (.irem, 1) := by decide +kernel
theorem dX10_digest_144 : decode cX10_digest 144 = .ok (.invokevirtual 174, 3) := by decide +kernel
theorem dX10_digest_147 : decode cX10_digest 147 = .ok (.i2l, 1) := by decide +kernel
theorem dX10_digest_148 : decode cX10_digest 148 = .ok (.invokevirtual 208, 3) := by decide +kernel
theorem dX10_digest_151 : decode cX10_digest 151 = .ok (.iinc 1 1, 3) := by decide +kernel
theorem dX10_digest_154 : decode cX10_digest 154 = .ok (.goto (-39), 3) := by decide +kernel
theorem dX10_digest_157 : decode cX10_digest 157 = .ok (.iconst 0, 1) := by decide +kernel
theorem dX10_digest_158 : decode cX10_digest 158 = .ok (.istore_n 1, 1) := by decide +kernel
theorem dX10_digest_159 : decode cX10_digest 159 = .ok (.iload_n 1, 1) := by decide +kernel
theorem dX10_digest_160 : decode cX10_digest 160 = .ok (.iconst 5, 1) := by decide +kernel
theorem dX10_digest_161 : decode cX10_digest 161 = .ok (.if_icmp .ge 21, 3) := by decide +kernel
theorem dX10_digest_164 : decode cX10_digest 164 = .ok (.aload_n 0, 1) := by decide +kernel
theorem dX10_digest_165 : decode cX10_digest 165 = .ok (.aload_n 0, 1) := by decide +kernel
theorem dX10_digest_166 : decode cX10_digest 166 = .ok (.bipush 14, 2) := by decide +kernel
theorem dX10_digest_168 : decode cX10_digest 168 = .ok (.iload_n 1, 1) := by decide +kernel
theorem dX10_digest_169 : decode cX10_digest 169 = .ok (.invokevirtual 186, 3) := by decide +kernel
theorem dX10_digest_172 : decode cX10_digest 172 = .ok (.i2l, 1) := by decide +kernel
theorem dX10_digest_173 : decode cX10_digest 173 = .ok (.invokevirtual 208, 3) := by decide +kernel
theorem dX10_digest_176 : decode cX10_digest 176 = .ok (.iinc 1 1, 3) := by decide +kernel
theorem dX10_digest_179 : decode cX10_digest 179 = .ok (.goto (-20), 3) := by decide +kernel
theorem dX10_digest_182 : decode cX10_digest 182 = .ok (.aload_n 0, 1) := by decide +kernel
theorem dX10_digest_183 : decode cX10_digest 183 = .ok (.aload_n 0, 1) := by decide +kernel
theorem dX10_digest_184 : decode cX10_digest 184 = .ok (.invokevirtual 198, 3) := by decide +kernel
theorem dX10_digest_187 : decode cX10_digest 187 = .ok (.invokestatic 220, 3) := by decide +kernel
theorem dX10_digest_190 : decode cX10_digest 190 = .ok (.invokevirtual 208, 3) := by decide +kernel
theorem dX10_digest_193 : decode cX10_digest 193 = .ok (.aload_n 0, 1) := by decide +kernel
theorem dX10_digest_194 : decode cX10_digest 194 = .ok (.aload_n 0, 1) := by decide +kernel
theorem dX10_digest_195 : decode cX10_digest 195 = .ok (.getfield 144, 3) := by decide +kernel
theorem dX10_digest_198 : decode cX10_digest 198 = .ok (.i2l, 1) := by decide +kernel
theorem dX10_digest_199 : decode cX10_digest 199 = .ok (.invokevirtual 208, 3) := by decide +kernel
theorem dX10_digest_202 : decode cX10_digest 202 = .ok (.iconst 0, 1) := by decide +kernel
theorem dX10_digest_203 : decode cX10_digest 203 = .ok (.istore_n 1, 1) := by decide +kernel
theorem dX10_digest_204 : decode cX10_digest 204 = .ok (.iload_n 1, 1) := by decide +kernel
theorem dX10_digest_205 : decode cX10_digest 205 = .ok (.aload_n 0, 1) := by decide +kernel
theorem dX10_digest_206 : decode cX10_digest 206 = .ok (.getfield 144, 3) := by decide +kernel
theorem dX10_digest_209 : decode cX10_digest 209 = .ok (.if_icmp .ge 20, 3) := by decide +kernel
theorem dX10_digest_212 : decode cX10_digest 212 = .ok (.aload_n 0, 1) := by decide +kernel
theorem dX10_digest_213 : decode cX10_digest 213 = .ok (.aload_n 0, 1) := by decide +kernel
theorem dX10_digest_214 : decode cX10_digest 214 = .ok (.getfield 19, 3) := by decide +kernel
theorem dX10_digest_217 : decode cX10_digest 217 = .ok (.iload_n 1, 1) := by decide +kernel
theorem dX10_digest_218 : decode cX10_digest 218 = .ok (.iaload, 1) := by decide +kernel
theorem dX10_digest_219 : decode cX10_digest 219 = .ok (.i2l, 1) := by decide +kernel
theorem dX10_digest_220 : decode cX10_digest 220 = .ok (.invokevirtual 208, 3) := by decide +kernel
theorem dX10_digest_223 : decode cX10_digest 223 = .ok (.iinc 1 1, 3) := by decide +kernel
theorem dX10_digest_226 : decode cX10_digest 226 = .ok (.goto (-22), 3) := by decide +kernel
theorem dX10_digest_229 : decode cX10_digest 229 = .ok (.aload_n 0, 1) := by decide +kernel
theorem dX10_digest_230 : decode cX10_digest 230 = .ok (.getfield 204, 3) := by decide +kernel
theorem dX10_digest_233 : decode cX10_digest 233 = .ok (.lreturn, 1) := by decide +kernel
