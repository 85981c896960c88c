theorem dL_cell_0 : decode cL_cell 0 = .ok (.iload_n 1, 1) := by decide +kernel
theorem dL_cell_1 : decode cL_cell 1 = .ok (.aload_n 0, 1) := by decide +kernel
theorem dL_cell_2 : decode cL_cell 2 = .ok (.arraylength, 1) := by decide +kernel
theorem dL_cell_3 : decode cL_cell 3 = .ok (.if_icmp .ge 9, 3) := by decide +kernel
theorem dL_cell_6 : decode cL_cell 6 = .ok (.aload_n 0, 1) := by decide +kernel
theorem dL_cell_7 : decode cL_cell 7 = .ok (.iload_n 1, 1) := by decide +kernel
theorem dL_cell_8 : decode cL_cell 8 = .ok (.iaload, 1) := by decide +kernel
theorem dL_cell_9 : decode cL_cell 9 = .ok (.goto 10, 3) := by decide +kernel
theorem dL_cell_12 : decode cL_cell 12 = .ok (.ldc 7, 2) := by decide +kernel
theorem dL_cell_14 : decode cL_cell 14 = .ok (.iload_n 1, 1) := by decide +kernel
theorem dL_cell_15 : decode cL_cell 15 = .ok (.bipush 103, 2) := by decide +kernel
theorem dL_cell_17 : decode cL_cell 17 = .ok (.iadd, 1) := by decide +kernel
theorem dL_cell_18 : decode cL_cell 18 = .ok (.imul, 1) := by decide +kernel
theorem dL_cell_19 : decode cL_cell 19 = .ok (.ireturn, 1) := by decide +kernel
theorem dL_at_0 : decode cL_at 0 = .ok (.iload_n 0, 1) := by decide +kernel
theorem dL_at_1 : decode cL_at 1 = .ok (.iconst 1, 1) := by decide +kernel
theorem dL_at_2 : decode cL_at 2 = .ok (.iushr, 1) := by decide +kernel
theorem dL_at_3 : decode cL_at 3 = .ok (.iload_n 1, 1) := by decide +kernel
theorem dL_at_4 : decode cL_at 4 = .ok (.irem, 1) := by decide +kernel
theorem dL_at_5 : decode cL_at 5 = .ok (.ireturn, 1) := by decide +kernel
theorem dL_step_0 : decode cL_step 0 = .ok (.aload_n 3, 1) := by decide +kernel
theorem dL_step_1 : decode cL_step 1 = .ok (.bipush 8, 2) := by decide +kernel
theorem dL_step_3 : decode cL_step 3 = .ok (.iload_n 0, 1) := by decide +kernel
theorem dL_step_4 : decode cL_step 4 = .ok (.imul, 1) := by decide +kernel
theorem dL_step_5 : decode cL_step 5 = .ok (.iload_n 2, 1) := by decide +kernel
theorem dL_step_6 : decode cL_step 6 = .ok (.ifCond .eq 7, 3) := by decide +kernel
theorem dL_step_9 : decode cL_step 9 = .ok (.iconst 0, 1) := by decide +kernel
theorem dL_step_10 : decode cL_step 10 = .ok (.goto 4, 3) := by decide +kernel
theorem dL_step_13 : decode cL_step 13 = .ok (.iload_n 1, 1) := by decide +kernel
theorem dL_step_14 : decode cL_step 14 = .ok (.iadd, 1) := by decide +kernel
theorem dL_step_15 : decode cL_step 15 = .ok (.iaload, 1) := by decide +kernel
theorem dL_step_16 : decode cL_step 16 = .ok (.istore 4, 2) := by decide +kernel
theorem dL_step_18 : decode cL_step 18 = .ok (.iload 4, 2) := by decide +kernel
theorem dL_step_20 : decode cL_step 20 = .ok (.iconst 1, 1) := by decide +kernel
theorem dL_step_21 : decode cL_step 21 = .ok (.if_icmp .le 12, 3) := by decide +kernel
theorem dL_step_24 : decode cL_step 24 = .ok (.sipush 1000, 3) := by decide +kernel
theorem dL_step_27 : decode cL_step 27 = .ok (.iload 4, 2) := by decide +kernel
theorem dL_step_29 : decode cL_step 29 = .ok (.idiv, 1) := by decide +kernel
theorem dL_step_30 : decode cL_step 30 = .ok (.goto 6, 3) := by decide +kernel
theorem dL_step_33 : decode cL_step 33 = .ok (.sipush 1000, 3) := by decide +kernel
theorem dL_step_36 : decode cL_step 36 = .ok (.ireturn, 1) := by decide +kernel
theorem dL_left_0 : decode cL_left 0 = .ok (.iconst 4, 1) := by decide +kernel
theorem dL_left_1 : decode cL_left 1 = .ok (.iload_n 0, 1) := by decide +kernel
theorem dL_left_2 : decode cL_left 2 = .ok (.imul, 1) := by decide +kernel
theorem dL_left_3 : decode cL_left 3 = .ok (.istore 4, 2) := by decide +kernel
theorem dL_left_5 : decode cL_left 5 = .ok (.aload_n 3, 1) := by decide +kernel
theorem dL_left_6 : decode cL_left 6 = .ok (.iload 4, 2) := by decide +kernel
theorem dL_left_8 : decode cL_left 8 = .ok (.iconst 1, 1) := by decide +kernel
theorem dL_left_9 : decode cL_left 9 = .ok (.iadd, 1) := by decide +kernel
theorem dL_left_10 : decode cL_left 10 = .ok (.iaload, 1) := by decide +kernel
theorem dL_left_11 : decode cL_left 11 = .ok (.istore 5, 2) := by decide +kernel
theorem dL_left_13 : decode cL_left 13 = .ok (.sipush 1000, 3) := by decide +kernel
theorem dL_left_16 : decode cL_left 16 = .ok (.aload_n 3, 1) := by decide +kernel
theorem dL_left_17 : decode cL_left 17 = .ok (.iload 4, 2) := by decide +kernel
theorem dL_left_19 : decode cL_left 19 = .ok (.iconst 3, 1) := by decide +kernel
theorem dL_left_20 : decode cL_left 20 = .ok (.iadd, 1) := by decide +kernel
theorem dL_left_21 : decode cL_left 21 = .ok (.iaload, 1) := by decide +kernel
theorem dL_left_22 : decode cL_left 22 = .ok (.isub, 1) := by decide +kernel
theorem dL_left_23 : decode cL_left 23 = .ok (.istore 6, 2) := by decide +kernel
theorem dL_left_25 : decode cL_left 25 = .ok (.aload_n 1, 1) := by decide +kernel
theorem dL_left_26 : decode cL_left 26 = .ok (.bipush 11, 2) := by decide +kernel
theorem dL_left_28 : decode cL_left 28 = .ok (.iload 5, 2) := by decide +kernel
theorem dL_left_30 : decode cL_left 30 = .ok (.iadd, 1) := by decide +kernel
theorem dL_left_31 : decode cL_left 31 = .ok (.iaload, 1) := by decide +kernel
theorem dL_left_32 : decode cL_left 32 = .ok (.istore 7, 2) := by decide +kernel
theorem dL_left_34 : decode cL_left 34 = .ok (.aload_n 3, 1) := by decide +kernel
theorem dL_left_35 : decode cL_left 35 = .ok (.iload 4, 2) := by decide +kernel
theorem dL_left_37 : decode cL_left 37 = .ok (.iaload, 1) := by decide +kernel
theorem dL_left_38 : decode cL_left 38 = .ok (.iload 5, 2) := by decide +kernel
theorem dL_left_40 : decode cL_left 40 = .ok (.iconst 1, 1) := by decide +kernel
theorem dL_left_41 : decode cL_left 41 = .ok (.aload_n 2, 1) := by decide +kernel
theorem dL_left_42 : decode cL_left 42 = .ok (.invokestatic 8, 3) := by decide +kernel
theorem dL_left_45 : decode cL_left 45 = .ok (.istore 8, 2) := by decide +kernel
theorem dL_left_47 : decode cL_left 47 = .ok (.aload_n 3, 1) := by decide +kernel
theorem dL_left_48 : decode cL_left 48 = .ok (.iload 4, 2) := by decide +kernel
theorem dL_left_50 : decode cL_left 50 = .ok (.iaload, 1) := by decide +kernel
theorem dL_left_51 : decode cL_left 51 = .ok (.iload 5, 2) := by decide +kernel
theorem dL_left_53 : decode cL_left 53 = .ok (.iconst 0, 1) := by decide +kernel
theorem dL_left_54 : decode cL_left 54 = .ok (.aload_n 2, 1) := by decide +kernel
theorem dL_left_55 : decode cL_left 55 = .ok (.invokestatic 8, 3) := by decide +kernel
theorem dL_left_58 : decode cL_left 58 = .ok (.istore 9, 2) := by decide +kernel
theorem dL_left_60 : decode cL_left 60 = .ok (.iload 8, 2) := by decide +kernel
theorem dL_left_62 : decode cL_left 62 = .ok (.iload 7, 2) := by decide +kernel
theorem dL_left_64 : decode cL_left 64 = .ok (.imul, 1) := by decide +kernel
theorem dL_left_65 : decode cL_left 65 = .ok (.iload 6, 2) := by decide +kernel
theorem dL_left_67 : decode cL_left 67 = .ok (.if_icmp .lt 14, 3) := by decide +kernel
theorem dL_left_70 : decode cL_left 70 = .ok (.iload 6, 2) := by decide +kernel
theorem dL_left_72 : decode cL_left 72 = .ok (.iload 8, 2) := by decide +kernel
theorem dL_left_74 : decode cL_left 74 = .ok (.iadd, 1) := by decide +kernel
theorem dL_left_75 : decode cL_left 75 = .ok (.iconst 1, 1) := by decide +kernel
theorem dL_left_76 : decode cL_left 76 = .ok (.isub, 1) := by decide +kernel
theorem dL_left_77 : decode cL_left 77 = .ok (.iload 8, 2) := by decide +kernel
theorem dL_left_79 : decode cL_left 79 = .ok (.idiv, 1) := by decide +kernel
theorem dL_left_80 : decode cL_left 80 = .ok (.ireturn, 1) := by decide +kernel
theorem dL_left_81 : decode cL_left 81 = .ok (.iload 7, 2) := by decide +kernel
theorem dL_left_83 : decode cL_left 83 = .ok (.iload 6, 2) := by decide +kernel
theorem dL_left_85 : decode cL_left 85 = .ok (.iload 8, 2) := by decide +kernel
theorem dL_left_87 : decode cL_left 87 = .ok (.iload 7, 2) := by decide +kernel
theorem dL_left_89 : decode cL_left 89 = .ok (.imul, 1) := by decide +kernel
theorem dL_left_90 : decode cL_left 90 = .ok (.isub, 1) := by decide +kernel
theorem dL_left_91 : decode cL_left 91 = .ok (.iload 9, 2) := by decide +kernel
theorem dL_left_93 : decode cL_left 93 = .ok (.iadd, 1) := by decide +kernel
theorem dL_left_94 : decode cL_left 94 = .ok (.iconst 1, 1) := by decide +kernel
theorem dL_left_95 : decode cL_left 95 = .ok (.isub, 1) := by decide +kernel
theorem dL_left_96 : decode cL_left 96 = .ok (.iload 9, 2) := by decide +kernel
theorem dL_left_98 : decode cL_left 98 = .ok (.idiv, 1) := by decide +kernel
theorem dL_left_99 : decode cL_left 99 = .ok (.iadd, 1) := by decide +kernel
theorem dL_left_100 : decode cL_left 100 = .ok (.ireturn, 1) := by decide +kernel
theorem dL_held_0 : decode cL_held 0 = .ok (.iconst 0, 1) := by decide +kernel
theorem dL_held_1 : decode cL_held 1 = .ok (.istore 4, 2) := by decide +kernel
theorem dL_held_3 : decode cL_held 3 = .ok (.iconst 0, 1) := by decide +kernel
theorem dL_held_4 : decode cL_held 4 = .ok (.istore 5, 2) := by decide +kernel
theorem dL_held_6 : decode cL_held 6 = .ok (.iload 5, 2) := by decide +kernel
theorem dL_held_8 : decode cL_held 8 = .ok (.aload_n 2, 1) := by decide +kernel
theorem dL_held_9 : decode cL_held 9 = .ok (.iconst 1, 1) := by decide +kernel
theorem dL_held_10 : decode cL_held 10 = .ok (.iaload, 1) := by decide +kernel
theorem dL_held_11 : decode cL_held 11 = .ok (.if_icmp .ge 38, 3) := by decide +kernel
theorem dL_held_14 : decode cL_held 14 = .ok (.iload_n 0, 1) := by decide +kernel
theorem dL_held_15 : decode cL_held 15 = .ok (.ifCond .lt 15, 3) := by decide +kernel
theorem dL_held_18 : decode cL_held 18 = .ok (.aload_n 3, 1) := by decide +kernel
theorem dL_held_19 : decode cL_held 19 = .ok (.iconst 4, 1) := by decide +kernel
theorem dL_held_20 : decode cL_held 20 = .ok (.iload 5, 2) := by decide +kernel
theorem dL_held_22 : decode cL_held 22 = .ok (.imul, 1) := by decide +kernel
theorem dL_held_23 : decode cL_held 23 = .ok (.iload_n 0, 1) := by decide +kernel
theorem dL_held_24 : decode cL_held 24 = .ok (.iadd, 1) := by decide +kernel
theorem dL_held_25 : decode cL_held 25 = .ok (.iaload, 1) := by decide +kernel
theorem dL_held_26 : decode cL_held 26 = .ok (.iload_n 1, 1) := by decide +kernel
theorem dL_held_27 : decode cL_held 27 = .ok (.if_icmp .ne 16, 3) := by decide +kernel
theorem dL_held_30 : decode cL_held 30 = .ok (.iload 4, 2) := by decide +kernel
theorem dL_held_32 : decode cL_held 32 = .ok (.aload_n 3, 1) := by decide +kernel
theorem dL_held_33 : decode cL_held 33 = .ok (.iconst 4, 1) := by decide +kernel
theorem dL_held_34 : decode cL_held 34 = .ok (.iload 5, 2) := by decide +kernel
theorem dL_held_36 : decode cL_held 36 = .ok (.imul, 1) := by decide +kernel
theorem dL_held_37 : decode cL_held 37 = .ok (.iconst 2, 1) := by decide +kernel
theorem dL_held_38 : decode cL_held 38 = .ok (.iadd, 1) := by decide +kernel
theorem dL_held_39 : decode cL_held 39 = .ok (.iaload, 1) := by decide +kernel
theorem dL_held_40 : decode cL_held 40 = .ok (.iadd, 1) := by decide +kernel
theorem dL_held_41 : decode cL_held 41 = .ok (.istore 4, 2) := by decide +kernel
theorem dL_held_43 : decode cL_held 43 = .ok (.iinc 5 1, 3) := by decide +kernel
theorem dL_held_46 : decode cL_held 46 = .ok (.goto (-40), 3) := by decide +kernel
theorem dL_held_49 : decode cL_held 49 = .ok (.iload 4, 2) := by decide +kernel
theorem dL_held_51 : decode cL_held 51 = .ok (.ireturn, 1) := by decide +kernel
theorem dL_drop_0 : decode cL_drop 0 = .ok (.aload_n 0, 1) := by decide +kernel
theorem dL_drop_1 : decode cL_drop 1 = .ok (.iconst 1, 1) := by decide +kernel
theorem dL_drop_2 : decode cL_drop 2 = .ok (.iaload, 1) := by decide +kernel
theorem dL_drop_3 : decode cL_drop 3 = .ok (.iconst 1, 1) := by decide +kernel
theorem dL_drop_4 : decode cL_drop 4 = .ok (.isub, 1) := by decide +kernel
theorem dL_drop_5 : decode cL_drop 5 = .ok (.istore_n 2, 1) := by decide +kernel
theorem dL_drop_6 : decode cL_drop 6 = .ok (.iload_n 2, 1) := by decide +kernel
theorem dL_drop_7 : decode cL_drop 7 = .ok (.ifCond .lt 53, 3) := by decide +kernel
theorem dL_drop_10 : decode cL_drop 10 = .ok (.aload_n 1, 1) := by decide +kernel
theorem dL_drop_11 : decode cL_drop 11 = .ok (.iconst 4, 1) := by decide +kernel
theorem dL_drop_12 : decode cL_drop 12 = .ok (.iload_n 2, 1) := by decide +kernel
theorem dL_drop_13 : decode cL_drop 13 = .ok (.imul, 1) := by decide +kernel
theorem dL_drop_14 : decode cL_drop 14 = .ok (.iconst 2, 1) := by decide +kernel
theorem dL_drop_15 : decode cL_drop 15 = .ok (.iadd, 1) := by decide +kernel
theorem dL_drop_16 : decode cL_drop 16 = .ok (.iaload, 1) := by decide +kernel
theorem dL_drop_17 : decode cL_drop 17 = .ok (.ifCond .ne 37, 3) := by decide +kernel
theorem dL_drop_20 : decode cL_drop 20 = .ok (.aload_n 0, 1) := by decide +kernel
theorem dL_drop_21 : decode cL_drop 21 = .ok (.iconst 1, 1) := by decide +kernel
theorem dL_drop_22 : decode cL_drop 22 = .ok (.dup2, 1) := by decide +kernel
theorem dL_drop_23 : decode cL_drop 23 = .ok (.iaload, 1) := by decide +kernel
theorem dL_drop_24 : decode cL_drop 24 = .ok (.iconst 1, 1) := by decide +kernel
theorem dL_drop_25 : decode cL_drop 25 = .ok (.isub, 1) := by decide +kernel
theorem dL_drop_26 : decode cL_drop 26 = .ok (.iastore, 1) := by decide +kernel
theorem dL_drop_27 : decode cL_drop 27 = .ok (.iconst 4, 1) := by decide +kernel
theorem dL_drop_28 : decode cL_drop 28 = .ok (.iload_n 2, 1) := by decide +kernel
theorem dL_drop_29 : decode cL_drop 29 = .ok (.imul, 1) := by decide +kernel
theorem dL_drop_30 : decode cL_drop 30 = .ok (.istore_n 3, 1) := by decide +kernel
theorem dL_drop_31 : decode cL_drop 31 = .ok (.iload_n 3, 1) := by decide +kernel
theorem dL_drop_32 : decode cL_drop 32 = .ok (.iconst 4, 1) := by decide +kernel
theorem dL_drop_33 : decode cL_drop 33 = .ok (.aload_n 0, 1) := by decide +kernel
theorem dL_drop_34 : decode cL_drop 34 = .ok (.iconst 1, 1) := by decide +kernel
theorem dL_drop_35 : decode cL_drop 35 = .ok (.iaload, 1) := by decide +kernel
theorem dL_drop_36 : decode cL_drop 36 = .ok (.imul, 1) := by decide +kernel
theorem dL_drop_37 : decode cL_drop 37 = .ok (.if_icmp .ge 17, 3) := by decide +kernel
theorem dL_drop_40 : decode cL_drop 40 = .ok (.aload_n 1, 1) := by decide +kernel
theorem dL_drop_41 : decode cL_drop 41 = .ok (.iload_n 3, 1) := by decide +kernel
theorem dL_drop_42 : decode cL_drop 42 = .ok (.aload_n 1, 1) := by decide +kernel
theorem dL_drop_43 : decode cL_drop 43 = .ok (.iload_n 3, 1) := by decide +kernel
theorem dL_drop_44 : decode cL_drop 44 = .ok (.iconst 4, 1) := by decide +kernel
theorem dL_drop_45 : decode cL_drop 45 = .ok (.iadd, 1) := by decide +kernel
theorem dL_drop_46 : decode cL_drop 46 = .ok (.iaload, 1) := by decide +kernel
theorem dL_drop_47 : decode cL_drop 47 = .ok (.iastore, 1) := by decide +kernel
theorem dL_drop_48 : decode cL_drop 48 = .ok (.iinc 3 1, 3) := by decide +kernel
theorem dL_drop_51 : decode cL_drop 51 = .ok (.goto (-20), 3) := by decide +kernel
theorem dL_drop_54 : decode cL_drop 54 = .ok (.iinc 2 (-1), 3) := by decide +kernel
theorem dL_drop_57 : decode cL_drop 57 = .ok (.goto (-51), 3) := by decide +kernel
theorem dL_drop_60 : decode cL_drop 60 = .ok (.return_, 1) := by decide +kernel
theorem dL_ahead_0 : decode cL_ahead 0 = .ok (.aload_n 2, 1) := by decide +kernel
theorem dL_ahead_1 : decode cL_ahead 1 = .ok (.iload_n 0, 1) := by decide +kernel
theorem dL_ahead_2 : decode cL_ahead 2 = .ok (.iaload, 1) := by decide +kernel
theorem dL_ahead_3 : decode cL_ahead 3 = .ok (.aload_n 2, 1) := by decide +kernel
theorem dL_ahead_4 : decode cL_ahead 4 = .ok (.iload_n 1, 1) := by decide +kernel
theorem dL_ahead_5 : decode cL_ahead 5 = .ok (.iaload, 1) := by decide +kernel
theorem dL_ahead_6 : decode cL_ahead 6 = .ok (.if_icmp .lt 17, 3) := by decide +kernel
theorem dL_ahead_9 : decode cL_ahead 9 = .ok (.aload_n 2, 1) := by decide +kernel
theorem dL_ahead_10 : decode cL_ahead 10 = .ok (.iload_n 0, 1) := by decide +kernel
theorem dL_ahead_11 : decode cL_ahead 11 = .ok (.iaload, 1) := by decide +kernel
theorem dL_ahead_12 : decode cL_ahead 12 = .ok (.aload_n 2, 1) := by decide +kernel
theorem dL_ahead_13 : decode cL_ahead 13 = .ok (.iload_n 1, 1) := by decide +kernel
theorem dL_ahead_14 : decode cL_ahead 14 = .ok (.iaload, 1) := by decide +kernel
theorem dL_ahead_15 : decode cL_ahead 15 = .ok (.if_icmp .ne 12, 3) := by decide +kernel
theorem dL_ahead_18 : decode cL_ahead 18 = .ok (.iload_n 0, 1) := by decide +kernel
theorem dL_ahead_19 : decode cL_ahead 19 = .ok (.iload_n 1, 1) := by decide +kernel
theorem dL_ahead_20 : decode cL_ahead 20 = .ok (.if_icmp .ge 7, 3) := by decide +kernel
theorem dL_ahead_23 : decode cL_ahead 23 = .ok (.iconst 1, 1) := by decide +kernel
theorem dL_ahead_24 : decode cL_ahead 24 = .ok (.goto 4, 3) := by decide +kernel
theorem dL_ahead_27 : decode cL_ahead 27 = .ok (.iconst 0, 1) := by decide +kernel
theorem dL_ahead_28 : decode cL_ahead 28 = .ok (.ireturn, 1) := by decide +kernel
theorem dL_eat_0 : decode cL_eat 0 = .ok (.iload_n 1, 1) := by decide +kernel
theorem dL_eat_1 : decode cL_eat 1 = .ok (.istore 6, 2) := by decide +kernel
theorem dL_eat_3 : decode cL_eat 3 = .ok (.iconst 0, 1) := by decide +kernel
theorem dL_eat_4 : decode cL_eat 4 = .ok (.istore 7, 2) := by decide +kernel
theorem dL_eat_6 : decode cL_eat 6 = .ok (.iload 7, 2) := by decide +kernel
theorem dL_eat_8 : decode cL_eat 8 = .ok (.aload_n 3, 1) := by decide +kernel
theorem dL_eat_9 : decode cL_eat 9 = .ok (.iconst 1, 1) := by decide +kernel
theorem dL_eat_10 : decode cL_eat 10 = .ok (.iaload, 1) := by decide +kernel
theorem dL_eat_11 : decode cL_eat 11 = .ok (.if_icmp .ge 150, 3) := by decide +kernel
theorem dL_eat_14 : decode cL_eat 14 = .ok (.iload 6, 2) := by decide +kernel
theorem dL_eat_16 : decode cL_eat 16 = .ok (.ifCond .le 145, 3) := by decide +kernel
theorem dL_eat_19 : decode cL_eat 19 = .ok (.iconst (-1), 1) := by decide +kernel
theorem dL_eat_20 : decode cL_eat 20 = .ok (.istore 8, 2) := by decide +kernel
theorem dL_eat_22 : decode cL_eat 22 = .ok (.iconst 0, 1) := by decide +kernel
theorem dL_eat_23 : decode cL_eat 23 = .ok (.istore 9, 2) := by decide +kernel
theorem dL_eat_25 : decode cL_eat 25 = .ok (.iload 9, 2) := by decide +kernel
theorem dL_eat_27 : decode cL_eat 27 = .ok (.aload_n 3, 1) := by decide +kernel
theorem dL_eat_28 : decode cL_eat 28 = .ok (.iconst 1, 1) := by decide +kernel
theorem dL_eat_29 : decode cL_eat 29 = .ok (.iaload, 1) := by decide +kernel
theorem dL_eat_30 : decode cL_eat 30 = .ok (.if_icmp .ge 52, 3) := by decide +kernel
theorem dL_eat_33 : decode cL_eat 33 = .ok (.aload 5, 2) := by decide +kernel
theorem dL_eat_35 : decode cL_eat 35 = .ok (.iconst 4, 1) := by decide +kernel
theorem dL_eat_36 : decode cL_eat 36 = .ok (.iload 9, 2) := by decide +kernel
theorem dL_eat_38 : decode cL_eat 38 = .ok (.imul, 1) := by decide +kernel
theorem dL_eat_39 : decode cL_eat 39 = .ok (.iaload, 1) := by decide +kernel
theorem dL_eat_40 : decode cL_eat 40 = .ok (.iload_n 0, 1) := by decide +kernel
theorem dL_eat_41 : decode cL_eat 41 = .ok (.if_icmp .ne 35, 3) := by decide +kernel
theorem dL_eat_44 : decode cL_eat 44 = .ok (.aload 5, 2) := by decide +kernel
theorem dL_eat_46 : decode cL_eat 46 = .ok (.iconst 4, 1) := by decide +kernel
theorem dL_eat_47 : decode cL_eat 47 = .ok (.iload 9, 2) := by decide +kernel
theorem dL_eat_49 : decode cL_eat 49 = .ok (.imul, 1) := by decide +kernel
theorem dL_eat_50 : decode cL_eat 50 = .ok (.iconst 2, 1) := by decide +kernel
theorem dL_eat_51 : decode cL_eat 51 = .ok (.iadd, 1) := by decide +kernel
theorem dL_eat_52 : decode cL_eat 52 = .ok (.iaload, 1) := by decide +kernel
theorem dL_eat_53 : decode cL_eat 53 = .ok (.ifCond .le 23, 3) := by decide +kernel
theorem dL_eat_56 : decode cL_eat 56 = .ok (.iload 8, 2) := by decide +kernel
theorem dL_eat_58 : decode cL_eat 58 = .ok (.ifCond .lt 14, 3) := by decide +kernel
theorem dL_eat_61 : decode cL_eat 61 = .ok (.iload 9, 2) := by decide +kernel
theorem dL_eat_63 : decode cL_eat 63 = .ok (.iload 8, 2) := by decide +kernel
theorem dL_eat_65 : decode cL_eat 65 = .ok (.aload_n 2, 1) := by decide +kernel
theorem dL_eat_66 : decode cL_eat 66 = .ok (.invokestatic 14, 3) := by decide +kernel
theorem dL_eat_69 : decode cL_eat 69 = .ok (.ifCond .eq 7, 3) := by decide +kernel
theorem dL_eat_72 : decode cL_eat 72 = .ok (.iload 9, 2) := by decide +kernel
theorem dL_eat_74 : decode cL_eat 74 = .ok (.istore 8, 2) := by decide +kernel
theorem dL_eat_76 : decode cL_eat 76 = .ok (.iinc 9 1, 3) := by decide +kernel
theorem dL_eat_79 : decode cL_eat 79 = .ok (.goto (-54), 3) := by decide +kernel
theorem dL_eat_82 : decode cL_eat 82 = .ok (.iload 8, 2) := by decide +kernel
theorem dL_eat_84 : decode cL_eat 84 = .ok (.ifCond .ge 6, 3) := by decide +kernel
theorem dL_eat_87 : decode cL_eat 87 = .ok (.iload 6, 2) := by decide +kernel
theorem dL_eat_89 : decode cL_eat 89 = .ok (.ireturn, 1) := by decide +kernel
theorem dL_eat_90 : decode cL_eat 90 = .ok (.aload 5, 2) := by decide +kernel
theorem dL_eat_92 : decode cL_eat 92 = .ok (.iconst 4, 1) := by decide +kernel
theorem dL_eat_93 : decode cL_eat 93 = .ok (.iload 8, 2) := by decide +kernel
theorem dL_eat_95 : decode cL_eat 95 = .ok (.imul, 1) := by decide +kernel
theorem dL_eat_96 : decode cL_eat 96 = .ok (.iconst 2, 1) := by decide +kernel
theorem dL_eat_97 : decode cL_eat 97 = .ok (.iadd, 1) := by decide +kernel
theorem dL_eat_98 : decode cL_eat 98 = .ok (.iaload, 1) := by decide +kernel
theorem dL_eat_99 : decode cL_eat 99 = .ok (.iload 6, 2) := by decide +kernel
theorem dL_eat_101 : decode cL_eat 101 = .ok (.if_icmp .le 8, 3) := by decide +kernel
theorem dL_eat_104 : decode cL_eat 104 = .ok (.iload 6, 2) := by decide +kernel
theorem dL_eat_106 : decode cL_eat 106 = .ok (.goto 12, 3) := by decide +kernel
theorem dL_eat_109 : decode cL_eat 109 = .ok (.aload 5, 2) := by decide +kernel
theorem dL_eat_111 : decode cL_eat 111 = .ok (.iconst 4, 1) := by decide +kernel
theorem dL_eat_112 : decode cL_eat 112 = .ok (.iload 8, 2) := by decide +kernel
theorem dL_eat_114 : decode cL_eat 114 = .ok (.imul, 1) := by decide +kernel
theorem dL_eat_115 : decode cL_eat 115 = .ok (.iconst 2, 1) := by decide +kernel
theorem dL_eat_116 : decode cL_eat 116 = .ok (.iadd, 1) := by decide +kernel
theorem dL_eat_117 : decode cL_eat 117 = .ok (.iaload, 1) := by decide +kernel
theorem dL_eat_118 : decode cL_eat 118 = .ok (.istore 9, 2) := by decide +kernel
theorem dL_eat_120 : decode cL_eat 120 = .ok (.aload 5, 2) := by decide +kernel
theorem dL_eat_122 : decode cL_eat 122 = .ok (.iconst 4, 1) := by decide +kernel
theorem dL_eat_123 : decode cL_eat 123 = .ok (.iload 8, 2) := by decide +kernel
theorem dL_eat_125 : decode cL_eat 125 = .ok (.imul, 1) := by decide +kernel
theorem dL_eat_126 : decode cL_eat 126 = .ok (.iconst 2, 1) := by decide +kernel
theorem dL_eat_127 : decode cL_eat 127 = .ok (.iadd, 1) := by decide +kernel
theorem dL_eat_128 : decode cL_eat 128 = .ok (.dup2, 1) := by decide +kernel
theorem dL_eat_129 : decode cL_eat 129 = .ok (.iaload, 1) := by decide +kernel
theorem dL_eat_130 : decode cL_eat 130 = .ok (.iload 9, 2) := by decide +kernel
theorem dL_eat_132 : decode cL_eat 132 = .ok (.isub, 1) := by decide +kernel
theorem dL_eat_133 : decode cL_eat 133 = .ok (.iastore, 1) := by decide +kernel
theorem dL_eat_134 : decode cL_eat 134 = .ok (.aload 4, 2) := by decide +kernel
theorem dL_eat_136 : decode cL_eat 136 = .ok (.bipush 8, 2) := by decide +kernel
theorem dL_eat_138 : decode cL_eat 138 = .ok (.iload_n 0, 1) := by decide +kernel
theorem dL_eat_139 : decode cL_eat 139 = .ok (.imul, 1) := by decide +kernel
theorem dL_eat_140 : decode cL_eat 140 = .ok (.iconst 4, 1) := by decide +kernel
theorem dL_eat_141 : decode cL_eat 141 = .ok (.iadd, 1) := by decide +kernel
theorem dL_eat_142 : decode cL_eat 142 = .ok (.dup2, 1) := by decide +kernel
theorem dL_eat_143 : decode cL_eat 143 = .ok (.iaload, 1) := by decide +kernel
theorem dL_eat_144 : decode cL_eat 144 = .ok (.iload 9, 2) := by decide +kernel
theorem dL_eat_146 : decode cL_eat 146 = .ok (.iadd, 1) := by decide +kernel
theorem dL_eat_147 : decode cL_eat 147 = .ok (.iastore, 1) := by decide +kernel
theorem dL_eat_148 : decode cL_eat 148 = .ok (.iload 6, 2) := by decide +kernel
theorem dL_eat_150 : decode cL_eat 150 = .ok (.iload 9, 2) := by decide +kernel
theorem dL_eat_152 : decode cL_eat 152 = .ok (.isub, 1) := by decide +kernel
theorem dL_eat_153 : decode cL_eat 153 = .ok (.istore 6, 2) := by decide +kernel
theorem dL_eat_155 : decode cL_eat 155 = .ok (.iinc 7 1, 3) := by decide +kernel
theorem dL_eat_158 : decode cL_eat 158 = .ok (.goto (-152), 3) := by decide +kernel
theorem dL_eat_161 : decode cL_eat 161 = .ok (.iload 6, 2) := by decide +kernel
theorem dL_eat_163 : decode cL_eat 163 = .ok (.ireturn, 1) := by decide +kernel
theorem dL_day_0 : decode cL_day 0 = .ok (.bipush 13, 2) := by decide +kernel
theorem dL_day_2 : decode cL_day 2 = .ok (.newarray .int, 2) := by decide +kernel
theorem dL_day_4 : decode cL_day 4 = .ok (.astore 4, 2) := by decide +kernel
theorem dL_day_6 : decode cL_day 6 = .ok (.iconst 0, 1) := by decide +kernel
theorem dL_day_7 : decode cL_day 7 = .ok (.istore 5, 2) := by decide +kernel
theorem dL_day_9 : decode cL_day 9 = .ok (.iload 5, 2) := by decide +kernel
theorem dL_day_11 : decode cL_day 11 = .ok (.aload_n 0, 1) := by decide +kernel
theorem dL_day_12 : decode cL_day 12 = .ok (.iconst 1, 1) := by decide +kernel
theorem dL_day_13 : decode cL_day 13 = .ok (.iaload, 1) := by decide +kernel
theorem dL_day_14 : decode cL_day 14 = .ok (.if_icmp .ge 22, 3) := by decide +kernel
theorem dL_day_17 : decode cL_day 17 = .ok (.aload 4, 2) := by decide +kernel
theorem dL_day_19 : decode cL_day 19 = .ok (.iload 5, 2) := by decide +kernel
theorem dL_day_21 : decode cL_day 21 = .ok (.iload 5, 2) := by decide +kernel
theorem dL_day_23 : decode cL_day 23 = .ok (.aload_n 0, 1) := by decide +kernel
theorem dL_day_24 : decode cL_day 24 = .ok (.aload_n 1, 1) := by decide +kernel
theorem dL_day_25 : decode cL_day 25 = .ok (.aload_n 2, 1) := by decide +kernel
theorem dL_day_26 : decode cL_day 26 = .ok (.invokestatic 18, 3) := by decide +kernel
theorem dL_day_29 : decode cL_day 29 = .ok (.iastore, 1) := by decide +kernel
theorem dL_day_30 : decode cL_day 30 = .ok (.iinc 5 1, 3) := by decide +kernel
theorem dL_day_33 : decode cL_day 33 = .ok (.goto (-24), 3) := by decide +kernel
theorem dL_day_36 : decode cL_day 36 = .ok (.aload_n 0, 1) := by decide +kernel
theorem dL_day_37 : decode cL_day 37 = .ok (.iconst 3, 1) := by decide +kernel
theorem dL_day_38 : decode cL_day 38 = .ok (.iaload, 1) := by decide +kernel
theorem dL_day_39 : decode cL_day 39 = .ok (.aload_n 0, 1) := by decide +kernel
theorem dL_day_40 : decode cL_day 40 = .ok (.iconst 2, 1) := by decide +kernel
theorem dL_day_41 : decode cL_day 41 = .ok (.iaload, 1) := by decide +kernel
theorem dL_day_42 : decode cL_day 42 = .ok (.irem, 1) := by decide +kernel
theorem dL_day_43 : decode cL_day 43 = .ok (.istore 5, 2) := by decide +kernel
theorem dL_day_45 : decode cL_day 45 = .ok (.iconst 0, 1) := by decide +kernel
theorem dL_day_46 : decode cL_day 46 = .ok (.istore 6, 2) := by decide +kernel
theorem dL_day_48 : decode cL_day 48 = .ok (.iconst 0, 1) := by decide +kernel
theorem dL_day_49 : decode cL_day 49 = .ok (.istore 7, 2) := by decide +kernel
theorem dL_day_51 : decode cL_day 51 = .ok (.iload 7, 2) := by decide +kernel
theorem dL_day_53 : decode cL_day 53 = .ok (.aload_n 0, 1) := by decide +kernel
theorem dL_day_54 : decode cL_day 54 = .ok (.bipush 15, 2) := by decide +kernel
theorem dL_day_56 : decode cL_day 56 = .ok (.iload 5, 2) := by decide +kernel
theorem dL_day_58 : decode cL_day 58 = .ok (.iadd, 1) := by decide +kernel
theorem dL_day_59 : decode cL_day 59 = .ok (.iaload, 1) := by decide +kernel
theorem dL_day_60 : decode cL_day 60 = .ok (.if_icmp .ge 96, 3) := by decide +kernel
theorem dL_day_63 : decode cL_day 63 = .ok (.bipush 9, 2) := by decide +kernel
theorem dL_day_65 : decode cL_day 65 = .ok (.iload 5, 2) := by decide +kernel
theorem dL_day_67 : decode cL_day 67 = .ok (.imul, 1) := by decide +kernel
theorem dL_day_68 : decode cL_day 68 = .ok (.iconst 3, 1) := by decide +kernel
theorem dL_day_69 : decode cL_day 69 = .ok (.iload 7, 2) := by decide +kernel
theorem dL_day_71 : decode cL_day 71 = .ok (.imul, 1) := by decide +kernel
theorem dL_day_72 : decode cL_day 72 = .ok (.iadd, 1) := by decide +kernel
theorem dL_day_73 : decode cL_day 73 = .ok (.istore 8, 2) := by decide +kernel
theorem dL_day_75 : decode cL_day 75 = .ok (.aload_n 3, 1) := by decide +kernel
theorem dL_day_76 : decode cL_day 76 = .ok (.iload 8, 2) := by decide +kernel
theorem dL_day_78 : decode cL_day 78 = .ok (.iaload, 1) := by decide +kernel
theorem dL_day_79 : decode cL_day 79 = .ok (.aload_n 3, 1) := by decide +kernel
theorem dL_day_80 : decode cL_day 80 = .ok (.iload 8, 2) := by decide +kernel
theorem dL_day_82 : decode cL_day 82 = .ok (.iconst 1, 1) := by decide +kernel
theorem dL_day_83 : decode cL_day 83 = .ok (.iadd, 1) := by decide +kernel
theorem dL_day_84 : decode cL_day 84 = .ok (.iaload, 1) := by decide +kernel
theorem dL_day_85 : decode cL_day 85 = .ok (.aload_n 0, 1) := by decide +kernel
theorem dL_day_86 : decode cL_day 86 = .ok (.iconst 4, 1) := by decide +kernel
theorem dL_day_87 : decode cL_day 87 = .ok (.iaload, 1) := by decide +kernel
theorem dL_day_88 : decode cL_day 88 = .ok (.imul, 1) := by decide +kernel
theorem dL_day_89 : decode cL_day 89 = .ok (.aload 4, 2) := by decide +kernel
theorem dL_day_91 : decode cL_day 91 = .ok (.aload_n 0, 1) := by decide +kernel
theorem dL_day_92 : decode cL_day 92 = .ok (.aload_n 1, 1) := by decide +kernel
theorem dL_day_93 : decode cL_day 93 = .ok (.aload_n 2, 1) := by decide +kernel
theorem dL_day_94 : decode cL_day 94 = .ok (.invokestatic 22, 3) := by decide +kernel
theorem dL_day_97 : decode cL_day 97 = .ok (.istore 9, 2) := by decide +kernel
theorem dL_day_99 : decode cL_day 99 = .ok (.aload_n 3, 1) := by decide +kernel
theorem dL_day_100 : decode cL_day 100 = .ok (.iload 8, 2) := by decide +kernel
theorem dL_day_102 : decode cL_day 102 = .ok (.iconst 2, 1) := by decide +kernel
theorem dL_day_103 : decode cL_day 103 = .ok (.iadd, 1) := by decide +kernel
theorem dL_day_104 : decode cL_day 104 = .ok (.iaload, 1) := by decide +kernel
theorem dL_day_105 : decode cL_day 105 = .ok (.ifCond .lt 21, 3) := by decide +kernel
theorem dL_day_108 : decode cL_day 108 = .ok (.aload_n 3, 1) := by decide +kernel
theorem dL_day_109 : decode cL_day 109 = .ok (.iload 8, 2) := by decide +kernel
theorem dL_day_111 : decode cL_day 111 = .ok (.iconst 2, 1) := by decide +kernel
theorem dL_day_112 : decode cL_day 112 = .ok (.iadd, 1) := by decide +kernel
theorem dL_day_113 : decode cL_day 113 = .ok (.iaload, 1) := by decide +kernel
theorem dL_day_114 : decode cL_day 114 = .ok (.iload 9, 2) := by decide +kernel
theorem dL_day_116 : decode cL_day 116 = .ok (.aload 4, 2) := by decide +kernel
theorem dL_day_118 : decode cL_day 118 = .ok (.aload_n 0, 1) := by decide +kernel
theorem dL_day_119 : decode cL_day 119 = .ok (.aload_n 1, 1) := by decide +kernel
theorem dL_day_120 : decode cL_day 120 = .ok (.aload_n 2, 1) := by decide +kernel
theorem dL_day_121 : decode cL_day 121 = .ok (.invokestatic 22, 3) := by decide +kernel
theorem dL_day_124 : decode cL_day 124 = .ok (.istore 9, 2) := by decide +kernel
theorem dL_day_126 : decode cL_day 126 = .ok (.aload_n 1, 1) := by decide +kernel
theorem dL_day_127 : decode cL_day 127 = .ok (.bipush 8, 2) := by decide +kernel
theorem dL_day_129 : decode cL_day 129 = .ok (.aload_n 3, 1) := by decide +kernel
theorem dL_day_130 : decode cL_day 130 = .ok (.iload 8, 2) := by decide +kernel
theorem dL_day_132 : decode cL_day 132 = .ok (.iaload, 1) := by decide +kernel
theorem dL_day_133 : decode cL_day 133 = .ok (.imul, 1) := by decide +kernel
theorem dL_day_134 : decode cL_day 134 = .ok (.bipush 7, 2) := by decide +kernel
theorem dL_day_136 : decode cL_day 136 = .ok (.iadd, 1) := by decide +kernel
theorem dL_day_137 : decode cL_day 137 = .ok (.dup2, 1) := by decide +kernel
theorem dL_day_138 : decode cL_day 138 = .ok (.iaload, 1) := by decide +kernel
theorem dL_day_139 : decode cL_day 139 = .ok (.iload 9, 2) := by decide +kernel
theorem dL_day_141 : decode cL_day 141 = .ok (.iadd, 1) := by decide +kernel
theorem dL_day_142 : decode cL_day 142 = .ok (.iastore, 1) := by decide +kernel
theorem dL_day_143 : decode cL_day 143 = .ok (.iload 6, 2) := by decide +kernel
theorem dL_day_145 : decode cL_day 145 = .ok (.iload 9, 2) := by decide +kernel
theorem dL_day_147 : decode cL_day 147 = .ok (.iadd, 1) := by decide +kernel
theorem dL_day_148 : decode cL_day 148 = .ok (.istore 6, 2) := by decide +kernel
theorem dL_day_150 : decode cL_day 150 = .ok (.iinc 7 1, 3) := by decide +kernel
theorem dL_day_153 : decode cL_day 153 = .ok (.goto (-102), 3) := by decide +kernel
theorem dL_day_156 : decode cL_day 156 = .ok (.iload 6, 2) := by decide +kernel
theorem dL_day_158 : decode cL_day 158 = .ok (.ifCond .le 11, 3) := by decide +kernel
theorem dL_day_161 : decode cL_day 161 = .ok (.aload_n 0, 1) := by decide +kernel
theorem dL_day_162 : decode cL_day 162 = .ok (.bipush 7, 2) := by decide +kernel
theorem dL_day_164 : decode cL_day 164 = .ok (.dup2, 1) := by decide +kernel
theorem dL_day_165 : decode cL_day 165 = .ok (.iaload, 1) := by decide +kernel
theorem dL_day_166 : decode cL_day 166 = .ok (.iconst 1, 1) := by decide +kernel
theorem dL_day_167 : decode cL_day 167 = .ok (.iadd, 1) := by decide +kernel
theorem dL_day_168 : decode cL_day 168 = .ok (.iastore, 1) := by decide +kernel
theorem dL_day_169 : decode cL_day 169 = .ok (.aload_n 0, 1) := by decide +kernel
theorem dL_day_170 : decode cL_day 170 = .ok (.aload_n 2, 1) := by decide +kernel
theorem dL_day_171 : decode cL_day 171 = .ok (.invokestatic 26, 3) := by decide +kernel
theorem dL_day_174 : decode cL_day 174 = .ok (.iconst 0, 1) := by decide +kernel
theorem dL_day_175 : decode cL_day 175 = .ok (.istore 7, 2) := by decide +kernel
theorem dL_day_177 : decode cL_day 177 = .ok (.iload 7, 2) := by decide +kernel
theorem dL_day_179 : decode cL_day 179 = .ok (.aload_n 0, 1) := by decide +kernel
theorem dL_day_180 : decode cL_day 180 = .ok (.iconst 1, 1) := by decide +kernel
theorem dL_day_181 : decode cL_day 181 = .ok (.iaload, 1) := by decide +kernel
theorem dL_day_182 : decode cL_day 182 = .ok (.if_icmp .ge 96, 3) := by decide +kernel
theorem dL_day_185 : decode cL_day 185 = .ok (.iconst 4, 1) := by decide +kernel
theorem dL_day_186 : decode cL_day 186 = .ok (.iload 7, 2) := by decide +kernel
theorem dL_day_188 : decode cL_day 188 = .ok (.imul, 1) := by decide +kernel
theorem dL_day_189 : decode cL_day 189 = .ok (.istore 8, 2) := by decide +kernel
theorem dL_day_191 : decode cL_day 191 = .ok (.aload_n 2, 1) := by decide +kernel
theorem dL_day_192 : decode cL_day 192 = .ok (.iload 8, 2) := by decide +kernel
theorem dL_day_194 : decode cL_day 194 = .ok (.iconst 3, 1) := by decide +kernel
theorem dL_day_195 : decode cL_day 195 = .ok (.iadd, 1) := by decide +kernel
theorem dL_day_196 : decode cL_day 196 = .ok (.dup2, 1) := by decide +kernel
theorem dL_day_197 : decode cL_day 197 = .ok (.iaload, 1) := by decide +kernel
theorem dL_day_198 : decode cL_day 198 = .ok (.aload_n 2, 1) := by decide +kernel
theorem dL_day_199 : decode cL_day 199 = .ok (.iload 8, 2) := by decide +kernel
theorem dL_day_201 : decode cL_day 201 = .ok (.iaload, 1) := by decide +kernel
theorem dL_day_202 : decode cL_day 202 = .ok (.aload_n 2, 1) := by decide +kernel
theorem dL_day_203 : decode cL_day 203 = .ok (.iload 8, 2) := by decide +kernel
theorem dL_day_205 : decode cL_day 205 = .ok (.iconst 1, 1) := by decide +kernel
theorem dL_day_206 : decode cL_day 206 = .ok (.iadd, 1) := by decide +kernel
theorem dL_day_207 : decode cL_day 207 = .ok (.iaload, 1) := by decide +kernel
theorem dL_day_208 : decode cL_day 208 = .ok (.aload_n 0, 1) := by decide +kernel
theorem dL_day_209 : decode cL_day 209 = .ok (.bipush 11, 2) := by decide +kernel
theorem dL_day_211 : decode cL_day 211 = .ok (.aload_n 2, 1) := by decide +kernel
theorem dL_day_212 : decode cL_day 212 = .ok (.iload 8, 2) := by decide +kernel
theorem dL_day_214 : decode cL_day 214 = .ok (.iconst 1, 1) := by decide +kernel
theorem dL_day_215 : decode cL_day 215 = .ok (.iadd, 1) := by decide +kernel
theorem dL_day_216 : decode cL_day 216 = .ok (.iaload, 1) := by decide +kernel
theorem dL_day_217 : decode cL_day 217 = .ok (.iadd, 1) := by decide +kernel
theorem dL_day_218 : decode cL_day 218 = .ok (.iaload, 1) := by decide +kernel
theorem dL_day_219 : decode cL_day 219 = .ok (.ifCond .le 7, 3) := by decide +kernel
theorem dL_day_222 : decode cL_day 222 = .ok (.iconst 1, 1) := by decide +kernel
theorem dL_day_223 : decode cL_day 223 = .ok (.goto 4, 3) := by decide +kernel
theorem dL_day_226 : decode cL_day 226 = .ok (.iconst 0, 1) := by decide +kernel
theorem dL_day_227 : decode cL_day 227 = .ok (.aload_n 1, 1) := by decide +kernel
theorem dL_day_228 : decode cL_day 228 = .ok (.invokestatic 8, 3) := by decide +kernel
theorem dL_day_231 : decode cL_day 231 = .ok (.iadd, 1) := by decide +kernel
theorem dL_day_232 : decode cL_day 232 = .ok (.iastore, 1) := by decide +kernel
theorem dL_day_233 : decode cL_day 233 = .ok (.aload_n 2, 1) := by decide +kernel
theorem dL_day_234 : decode cL_day 234 = .ok (.iload 8, 2) := by decide +kernel
theorem dL_day_236 : decode cL_day 236 = .ok (.iconst 3, 1) := by decide +kernel
theorem dL_day_237 : decode cL_day 237 = .ok (.iadd, 1) := by decide +kernel
theorem dL_day_238 : decode cL_day 238 = .ok (.iaload, 1) := by decide +kernel
theorem dL_day_239 : decode cL_day 239 = .ok (.sipush 999, 3) := by decide +kernel
theorem dL_day_242 : decode cL_day 242 = .ok (.if_icmp .le 30, 3) := by decide +kernel
theorem dL_day_245 : decode cL_day 245 = .ok (.aload_n 1, 1) := by decide +kernel
theorem dL_day_246 : decode cL_day 246 = .ok (.bipush 8, 2) := by decide +kernel
theorem dL_day_248 : decode cL_day 248 = .ok (.aload_n 2, 1) := by decide +kernel
theorem dL_day_249 : decode cL_day 249 = .ok (.iload 8, 2) := by decide +kernel
theorem dL_day_251 : decode cL_day 251 = .ok (.iaload, 1) := by decide +kernel
theorem dL_day_252 : decode cL_day 252 = .ok (.imul, 1) := by decide +kernel
theorem dL_day_253 : decode cL_day 253 = .ok (.iconst 5, 1) := by decide +kernel
theorem dL_day_254 : decode cL_day 254 = .ok (.iadd, 1) := by decide +kernel
theorem dL_day_255 : decode cL_day 255 = .ok (.dup2, 1) := by decide +kernel
theorem dL_day_256 : decode cL_day 256 = .ok (.iaload, 1) := by decide +kernel
theorem dL_day_257 : decode cL_day 257 = .ok (.aload_n 2, 1) := by decide +kernel
theorem dL_day_258 : decode cL_day 258 = .ok (.iload 8, 2) := by decide +kernel
theorem dL_day_260 : decode cL_day 260 = .ok (.iconst 2, 1) := by decide +kernel
theorem dL_day_261 : decode cL_day 261 = .ok (.iadd, 1) := by decide +kernel
theorem dL_day_262 : decode cL_day 262 = .ok (.iaload, 1) := by decide +kernel
theorem dL_day_263 : decode cL_day 263 = .ok (.iadd, 1) := by decide +kernel
theorem dL_day_264 : decode cL_day 264 = .ok (.iastore, 1) := by decide +kernel
theorem dL_day_265 : decode cL_day 265 = .ok (.aload_n 2, 1) := by decide +kernel
theorem dL_day_266 : decode cL_day 266 = .ok (.iload 8, 2) := by decide +kernel
theorem dL_day_268 : decode cL_day 268 = .ok (.iconst 2, 1) := by decide +kernel
theorem dL_day_269 : decode cL_day 269 = .ok (.iadd, 1) := by decide +kernel
theorem dL_day_270 : decode cL_day 270 = .ok (.iconst 0, 1) := by decide +kernel
theorem dL_day_271 : decode cL_day 271 = .ok (.iastore, 1) := by decide +kernel
theorem dL_day_272 : decode cL_day 272 = .ok (.iinc 7 1, 3) := by decide +kernel
theorem dL_day_275 : decode cL_day 275 = .ok (.goto (-98), 3) := by decide +kernel
theorem dL_day_278 : decode cL_day 278 = .ok (.aload_n 0, 1) := by decide +kernel
theorem dL_day_279 : decode cL_day 279 = .ok (.aload_n 2, 1) := by decide +kernel
theorem dL_day_280 : decode cL_day 280 = .ok (.invokestatic 26, 3) := by decide +kernel
theorem dL_day_283 : decode cL_day 283 = .ok (.bipush 11, 2) := by decide +kernel
theorem dL_day_285 : decode cL_day 285 = .ok (.istore 7, 2) := by decide +kernel
theorem dL_day_287 : decode cL_day 287 = .ok (.iload 7, 2) := by decide +kernel
theorem dL_day_289 : decode cL_day 289 = .ok (.bipush 14, 2) := by decide +kernel
theorem dL_day_291 : decode cL_day 291 = .ok (.if_icmp .ge 24, 3) := by decide +kernel
theorem dL_day_294 : decode cL_day 294 = .ok (.aload_n 0, 1) := by decide +kernel
theorem dL_day_295 : decode cL_day 295 = .ok (.iload 7, 2) := by decide +kernel
theorem dL_day_297 : decode cL_day 297 = .ok (.iaload, 1) := by decide +kernel
theorem dL_day_298 : decode cL_day 298 = .ok (.ifCond .le 11, 3) := by decide +kernel
theorem dL_day_301 : decode cL_day 301 = .ok (.aload_n 0, 1) := by decide +kernel
theorem dL_day_302 : decode cL_day 302 = .ok (.iload 7, 2) := by decide +kernel
theorem dL_day_304 : decode cL_day 304 = .ok (.dup2, 1) := by decide +kernel
theorem dL_day_305 : decode cL_day 305 = .ok (.iaload, 1) := by decide +kernel
theorem dL_day_306 : decode cL_day 306 = .ok (.iconst 1, 1) := by decide +kernel
theorem dL_day_307 : decode cL_day 307 = .ok (.isub, 1) := by decide +kernel
theorem dL_day_308 : decode cL_day 308 = .ok (.iastore, 1) := by decide +kernel
theorem dL_day_309 : decode cL_day 309 = .ok (.iinc 7 1, 3) := by decide +kernel
theorem dL_day_312 : decode cL_day 312 = .ok (.goto (-25), 3) := by decide +kernel
theorem dL_day_315 : decode cL_day 315 = .ok (.aload_n 0, 1) := by decide +kernel
theorem dL_day_316 : decode cL_day 316 = .ok (.iconst 3, 1) := by decide +kernel
theorem dL_day_317 : decode cL_day 317 = .ok (.dup2, 1) := by decide +kernel
theorem dL_day_318 : decode cL_day 318 = .ok (.iaload, 1) := by decide +kernel
theorem dL_day_319 : decode cL_day 319 = .ok (.iconst 1, 1) := by decide +kernel
theorem dL_day_320 : decode cL_day 320 = .ok (.iadd, 1) := by decide +kernel
theorem dL_day_321 : decode cL_day 321 = .ok (.iastore, 1) := by decide +kernel
theorem dL_day_322 : decode cL_day 322 = .ok (.return_, 1) := by decide +kernel
theorem dL_sum_0 : decode cL_sum 0 = .ok (.iconst 0, 1) := by decide +kernel
theorem dL_sum_1 : decode cL_sum 1 = .ok (.istore_n 3, 1) := by decide +kernel
theorem dL_sum_2 : decode cL_sum 2 = .ok (.iconst 0, 1) := by decide +kernel
theorem dL_sum_3 : decode cL_sum 3 = .ok (.istore 4, 2) := by decide +kernel
theorem dL_sum_5 : decode cL_sum 5 = .ok (.iload 4, 2) := by decide +kernel
theorem dL_sum_7 : decode cL_sum 7 = .ok (.aload_n 1, 1) := by decide +kernel
theorem dL_sum_8 : decode cL_sum 8 = .ok (.iconst 0, 1) := by decide +kernel
theorem dL_sum_9 : decode cL_sum 9 = .ok (.iaload, 1) := by decide +kernel
theorem dL_sum_10 : decode cL_sum 10 = .ok (.if_icmp .ge 21, 3) := by decide +kernel
theorem dL_sum_13 : decode cL_sum 13 = .ok (.iload_n 3, 1) := by decide +kernel
theorem dL_sum_14 : decode cL_sum 14 = .ok (.aload_n 2, 1) := by decide +kernel
theorem dL_sum_15 : decode cL_sum 15 = .ok (.bipush 8, 2) := by decide +kernel
theorem dL_sum_17 : decode cL_sum 17 = .ok (.iload 4, 2) := by decide +kernel
theorem dL_sum_19 : decode cL_sum 19 = .ok (.imul, 1) := by decide +kernel
theorem dL_sum_20 : decode cL_sum 20 = .ok (.iload_n 0, 1) := by decide +kernel
theorem dL_sum_21 : decode cL_sum 21 = .ok (.iadd, 1) := by decide +kernel
theorem dL_sum_22 : decode cL_sum 22 = .ok (.iaload, 1) := by decide +kernel
theorem dL_sum_23 : decode cL_sum 23 = .ok (.iadd, 1) := by decide +kernel
theorem dL_sum_24 : decode cL_sum 24 = .ok (.istore_n 3, 1) := by decide +kernel
theorem dL_sum_25 : decode cL_sum 25 = .ok (.iinc 4 1, 3) := by decide +kernel
theorem dL_sum_28 : decode cL_sum 28 = .ok (.goto (-23), 3) := by decide +kernel
theorem dL_sum_31 : decode cL_sum 31 = .ok (.iload_n 3, 1) := by decide +kernel
theorem dL_sum_32 : decode cL_sum 32 = .ok (.ireturn, 1) := by decide +kernel
theorem dL_fresh_0 : decode cL_fresh 0 = .ok (.aload_n 0, 1) := by decide +kernel
theorem dL_fresh_1 : decode cL_fresh 1 = .ok (.iconst 2, 1) := by decide +kernel
theorem dL_fresh_2 : decode cL_fresh 2 = .ok (.iconst 1, 1) := by decide +kernel
theorem dL_fresh_3 : decode cL_fresh 3 = .ok (.iastore, 1) := by decide +kernel
theorem dL_fresh_4 : decode cL_fresh 4 = .ok (.aload_n 0, 1) := by decide +kernel
theorem dL_fresh_5 : decode cL_fresh 5 = .ok (.iconst 4, 1) := by decide +kernel
theorem dL_fresh_6 : decode cL_fresh 6 = .ok (.bipush 10, 2) := by decide +kernel
theorem dL_fresh_8 : decode cL_fresh 8 = .ok (.iastore, 1) := by decide +kernel
theorem dL_fresh_9 : decode cL_fresh 9 = .ok (.aload_n 0, 1) := by decide +kernel
theorem dL_fresh_10 : decode cL_fresh 10 = .ok (.iconst 5, 1) := by decide +kernel
theorem dL_fresh_11 : decode cL_fresh 11 = .ok (.sipush 10000, 3) := by decide +kernel
theorem dL_fresh_14 : decode cL_fresh 14 = .ok (.iastore, 1) := by decide +kernel
theorem dL_fresh_15 : decode cL_fresh 15 = .ok (.iconst 0, 1) := by decide +kernel
theorem dL_fresh_16 : decode cL_fresh 16 = .ok (.istore_n 1, 1) := by decide +kernel
theorem dL_fresh_17 : decode cL_fresh 17 = .ok (.iload_n 1, 1) := by decide +kernel
theorem dL_fresh_18 : decode cL_fresh 18 = .ok (.iconst 3, 1) := by decide +kernel
theorem dL_fresh_19 : decode cL_fresh 19 = .ok (.if_icmp .ge 18, 3) := by decide +kernel
theorem dL_fresh_22 : decode cL_fresh 22 = .ok (.aload_n 0, 1) := by decide +kernel
theorem dL_fresh_23 : decode cL_fresh 23 = .ok (.bipush 8, 2) := by decide +kernel
theorem dL_fresh_25 : decode cL_fresh 25 = .ok (.iload_n 1, 1) := by decide +kernel
theorem dL_fresh_26 : decode cL_fresh 26 = .ok (.iadd, 1) := by decide +kernel
theorem dL_fresh_27 : decode cL_fresh 27 = .ok (.sipush 1000, 3) := by decide +kernel
theorem dL_fresh_30 : decode cL_fresh 30 = .ok (.iastore, 1) := by decide +kernel
theorem dL_fresh_31 : decode cL_fresh 31 = .ok (.iinc 1 1, 3) := by decide +kernel
theorem dL_fresh_34 : decode cL_fresh 34 = .ok (.goto (-17), 3) := by decide +kernel
theorem dL_fresh_37 : decode cL_fresh 37 = .ok (.return_, 1) := by decide +kernel
theorem dL_kind_0 : decode cL_kind 0 = .ok (.aload_n 3, 1) := by decide +kernel
theorem dL_kind_1 : decode cL_kind 1 = .ok (.iconst 0, 1) := by decide +kernel
theorem dL_kind_2 : decode cL_kind 2 = .ok (.iaload, 1) := by decide +kernel
theorem dL_kind_3 : decode cL_kind 3 = .ok (.iconst 4, 1) := by decide +kernel
theorem dL_kind_4 : decode cL_kind 4 = .ok (.if_icmp .ne 5, 3) := by decide +kernel
theorem dL_kind_7 : decode cL_kind 7 = .ok (.iconst 1, 1) := by decide +kernel
theorem dL_kind_8 : decode cL_kind 8 = .ok (.ireturn, 1) := by decide +kernel
theorem dL_kind_9 : decode cL_kind 9 = .ok (.bipush 8, 2) := by decide +kernel
theorem dL_kind_11 : decode cL_kind 11 = .ok (.aload_n 3, 1) := by decide +kernel
theorem dL_kind_12 : decode cL_kind 12 = .ok (.iconst 0, 1) := by decide +kernel
theorem dL_kind_13 : decode cL_kind 13 = .ok (.iaload, 1) := by decide +kernel
theorem dL_kind_14 : decode cL_kind 14 = .ok (.imul, 1) := by decide +kernel
theorem dL_kind_15 : decode cL_kind 15 = .ok (.istore 5, 2) := by decide +kernel
theorem dL_kind_17 : decode cL_kind 17 = .ok (.iconst 0, 1) := by decide +kernel
theorem dL_kind_18 : decode cL_kind 18 = .ok (.istore 6, 2) := by decide +kernel
theorem dL_kind_20 : decode cL_kind 20 = .ok (.iload 6, 2) := by decide +kernel
theorem dL_kind_22 : decode cL_kind 22 = .ok (.bipush 8, 2) := by decide +kernel
theorem dL_kind_24 : decode cL_kind 24 = .ok (.if_icmp .ge 18, 3) := by decide +kernel
theorem dL_kind_27 : decode cL_kind 27 = .ok (.aload 4, 2) := by decide +kernel
theorem dL_kind_29 : decode cL_kind 29 = .ok (.iload 5, 2) := by decide +kernel
theorem dL_kind_31 : decode cL_kind 31 = .ok (.iload 6, 2) := by decide +kernel
theorem dL_kind_33 : decode cL_kind 33 = .ok (.iadd, 1) := by decide +kernel
theorem dL_kind_34 : decode cL_kind 34 = .ok (.iconst 0, 1) := by decide +kernel
theorem dL_kind_35 : decode cL_kind 35 = .ok (.iastore, 1) := by decide +kernel
theorem dL_kind_36 : decode cL_kind 36 = .ok (.iinc 6 1, 3) := by decide +kernel
theorem dL_kind_39 : decode cL_kind 39 = .ok (.goto (-19), 3) := by decide +kernel
theorem dL_kind_42 : decode cL_kind 42 = .ok (.iconst 0, 1) := by decide +kernel
theorem dL_kind_43 : decode cL_kind 43 = .ok (.istore 6, 2) := by decide +kernel
theorem dL_kind_45 : decode cL_kind 45 = .ok (.iload 6, 2) := by decide +kernel
theorem dL_kind_47 : decode cL_kind 47 = .ok (.iconst 3, 1) := by decide +kernel
theorem dL_kind_48 : decode cL_kind 48 = .ok (.if_icmp .ge 45, 3) := by decide +kernel
theorem dL_kind_51 : decode cL_kind 51 = .ok (.aload 4, 2) := by decide +kernel
theorem dL_kind_53 : decode cL_kind 53 = .ok (.iload 5, 2) := by decide +kernel
theorem dL_kind_55 : decode cL_kind 55 = .ok (.iload 6, 2) := by decide +kernel
theorem dL_kind_57 : decode cL_kind 57 = .ok (.iadd, 1) := by decide +kernel
theorem dL_kind_58 : decode cL_kind 58 = .ok (.iload_n 1, 1) := by decide +kernel
theorem dL_kind_59 : decode cL_kind 59 = .ok (.iconst 5, 1) := by decide +kernel
theorem dL_kind_60 : decode cL_kind 60 = .ok (.iload 6, 2) := by decide +kernel
theorem dL_kind_62 : decode cL_kind 62 = .ok (.imul, 1) := by decide +kernel
theorem dL_kind_63 : decode cL_kind 63 = .ok (.ishr, 1) := by decide +kernel
theorem dL_kind_64 : decode cL_kind 64 = .ok (.iload_n 2, 1) := by decide +kernel
theorem dL_kind_65 : decode cL_kind 65 = .ok (.iload 6, 2) := by decide +kernel
theorem dL_kind_67 : decode cL_kind 67 = .ok (.ishr, 1) := by decide +kernel
theorem dL_kind_68 : decode cL_kind 68 = .ok (.iconst 3, 1) := by decide +kernel
theorem dL_kind_69 : decode cL_kind 69 = .ok (.invokestatic 30, 3) := by decide +kernel
theorem dL_kind_72 : decode cL_kind 72 = .ok (.ifCond .ne 9, 3) := by decide +kernel
theorem dL_kind_75 : decode cL_kind 75 = .ok (.sipush 201, 3) := by decide +kernel
theorem dL_kind_78 : decode cL_kind 78 = .ok (.goto 5, 3) := by decide +kernel
theorem dL_kind_81 : decode cL_kind 81 = .ok (.bipush 20, 2) := by decide +kernel
theorem dL_kind_83 : decode cL_kind 83 = .ok (.invokestatic 30, 3) := by decide +kernel
theorem dL_kind_86 : decode cL_kind 86 = .ok (.iastore, 1) := by decide +kernel
theorem dL_kind_87 : decode cL_kind 87 = .ok (.iinc 6 1, 3) := by decide +kernel
theorem dL_kind_90 : decode cL_kind 90 = .ok (.goto (-45), 3) := by decide +kernel
theorem dL_kind_93 : decode cL_kind 93 = .ok (.aload_n 3, 1) := by decide +kernel
theorem dL_kind_94 : decode cL_kind 94 = .ok (.iconst 0, 1) := by decide +kernel
theorem dL_kind_95 : decode cL_kind 95 = .ok (.dup2, 1) := by decide +kernel
theorem dL_kind_96 : decode cL_kind 96 = .ok (.iaload, 1) := by decide +kernel
theorem dL_kind_97 : decode cL_kind 97 = .ok (.iconst 1, 1) := by decide +kernel
theorem dL_kind_98 : decode cL_kind 98 = .ok (.iadd, 1) := by decide +kernel
theorem dL_kind_99 : decode cL_kind 99 = .ok (.iastore, 1) := by decide +kernel
theorem dL_kind_100 : decode cL_kind 100 = .ok (.aload_n 0, 1) := by decide +kernel
theorem dL_kind_101 : decode cL_kind 101 = .ok (.aload 4, 2) := by decide +kernel
theorem dL_kind_103 : decode cL_kind 103 = .ok (.iload 5, 2) := by decide +kernel
theorem dL_kind_105 : decode cL_kind 105 = .ok (.iaload, 1) := by decide +kernel
theorem dL_kind_106 : decode cL_kind 106 = .ok (.aload 4, 2) := by decide +kernel
theorem dL_kind_108 : decode cL_kind 108 = .ok (.iload 5, 2) := by decide +kernel
theorem dL_kind_110 : decode cL_kind 110 = .ok (.iconst 1, 1) := by decide +kernel
theorem dL_kind_111 : decode cL_kind 111 = .ok (.iadd, 1) := by decide +kernel
theorem dL_kind_112 : decode cL_kind 112 = .ok (.iaload, 1) := by decide +kernel
theorem dL_kind_113 : decode cL_kind 113 = .ok (.aload 4, 2) := by decide +kernel
theorem dL_kind_115 : decode cL_kind 115 = .ok (.iload 5, 2) := by decide +kernel
theorem dL_kind_117 : decode cL_kind 117 = .ok (.iconst 2, 1) := by decide +kernel
theorem dL_kind_118 : decode cL_kind 118 = .ok (.iadd, 1) := by decide +kernel
theorem dL_kind_119 : decode cL_kind 119 = .ok (.iaload, 1) := by decide +kernel
theorem dL_kind_120 : decode cL_kind 120 = .ok (.invokevirtual 34, 3) := by decide +kernel
theorem dL_kind_123 : decode cL_kind 123 = .ok (.aload_n 3, 1) := by decide +kernel
theorem dL_kind_124 : decode cL_kind 124 = .ok (.iconst 0, 1) := by decide +kernel
theorem dL_kind_125 : decode cL_kind 125 = .ok (.iaload, 1) := by decide +kernel
theorem dL_kind_126 : decode cL_kind 126 = .ok (.iconst 1, 1) := by decide +kernel
theorem dL_kind_127 : decode cL_kind 127 = .ok (.isub, 1) := by decide +kernel
theorem dL_kind_128 : decode cL_kind 128 = .ok (.if_icmp .ne 7, 3) := by decide +kernel
theorem dL_kind_131 : decode cL_kind 131 = .ok (.iconst 1, 1) := by decide +kernel
theorem dL_kind_132 : decode cL_kind 132 = .ok (.goto 4, 3) := by decide +kernel
theorem dL_kind_135 : decode cL_kind 135 = .ok (.iconst 0, 1) := by decide +kernel
theorem dL_kind_136 : decode cL_kind 136 = .ok (.ireturn, 1) := by decide +kernel
theorem dL_portOf_0 : decode cL_portOf 0 = .ok (.iconst 0, 1) := by decide +kernel
theorem dL_portOf_1 : decode cL_portOf 1 = .ok (.istore_n 3, 1) := by decide +kernel
theorem dL_portOf_2 : decode cL_portOf 2 = .ok (.iload_n 3, 1) := by decide +kernel
theorem dL_portOf_3 : decode cL_portOf 3 = .ok (.aload_n 1, 1) := by decide +kernel
theorem dL_portOf_4 : decode cL_portOf 4 = .ok (.bipush 14, 2) := by decide +kernel
theorem dL_portOf_6 : decode cL_portOf 6 = .ok (.iaload, 1) := by decide +kernel
theorem dL_portOf_7 : decode cL_portOf 7 = .ok (.if_icmp .ge 21, 3) := by decide +kernel
theorem dL_portOf_10 : decode cL_portOf 10 = .ok (.aload_n 2, 1) := by decide +kernel
theorem dL_portOf_11 : decode cL_portOf 11 = .ok (.bipush 6, 2) := by decide +kernel
theorem dL_portOf_13 : decode cL_portOf 13 = .ok (.iload_n 3, 1) := by decide +kernel
theorem dL_portOf_14 : decode cL_portOf 14 = .ok (.imul, 1) := by decide +kernel
theorem dL_portOf_15 : decode cL_portOf 15 = .ok (.iaload, 1) := by decide +kernel
theorem dL_portOf_16 : decode cL_portOf 16 = .ok (.iload_n 0, 1) := by decide +kernel
theorem dL_portOf_17 : decode cL_portOf 17 = .ok (.if_icmp .ne 5, 3) := by decide +kernel
theorem dL_portOf_20 : decode cL_portOf 20 = .ok (.iload_n 3, 1) := by decide +kernel
theorem dL_portOf_21 : decode cL_portOf 21 = .ok (.ireturn, 1) := by decide +kernel
theorem dL_portOf_22 : decode cL_portOf 22 = .ok (.iinc 3 1, 3) := by decide +kernel
theorem dL_portOf_25 : decode cL_portOf 25 = .ok (.goto (-23), 3) := by decide +kernel
theorem dL_portOf_28 : decode cL_portOf 28 = .ok (.iconst (-1), 1) := by decide +kernel
theorem dL_portOf_29 : decode cL_portOf 29 = .ok (.ireturn, 1) := by decide +kernel
theorem dL_number_0 : decode cL_number 0 = .ok (.iconst 0, 1) := by decide +kernel
theorem dL_number_1 : decode cL_number 1 = .ok (.istore_n 3, 1) := by decide +kernel
theorem dL_number_2 : decode cL_number 2 = .ok (.iconst 0, 1) := by decide +kernel
theorem dL_number_3 : decode cL_number 3 = .ok (.istore 4, 2) := by decide +kernel
theorem dL_number_5 : decode cL_number 5 = .ok (.iload 4, 2) := by decide +kernel
theorem dL_number_7 : decode cL_number 7 = .ok (.aload_n 1, 1) := by decide +kernel
theorem dL_number_8 : decode cL_number 8 = .ok (.bipush 14, 2) := by decide +kernel
theorem dL_number_10 : decode cL_number 10 = .ok (.iaload, 1) := by decide +kernel
theorem dL_number_11 : decode cL_number 11 = .ok (.if_icmp .ge 28, 3) := by decide +kernel
theorem dL_number_14 : decode cL_number 14 = .ok (.aload_n 2, 1) := by decide +kernel
theorem dL_number_15 : decode cL_number 15 = .ok (.bipush 6, 2) := by decide +kernel
theorem dL_number_17 : decode cL_number 17 = .ok (.iload 4, 2) := by decide +kernel
theorem dL_number_19 : decode cL_number 19 = .ok (.imul, 1) := by decide +kernel
theorem dL_number_20 : decode cL_number 20 = .ok (.iaload, 1) := by decide +kernel
theorem dL_number_21 : decode cL_number 21 = .ok (.aload_n 2, 1) := by decide +kernel
theorem dL_number_22 : decode cL_number 22 = .ok (.bipush 6, 2) := by decide +kernel
theorem dL_number_24 : decode cL_number 24 = .ok (.iload_n 0, 1) := by decide +kernel
theorem dL_number_25 : decode cL_number 25 = .ok (.imul, 1) := by decide +kernel
theorem dL_number_26 : decode cL_number 26 = .ok (.iaload, 1) := by decide +kernel
theorem dL_number_27 : decode cL_number 27 = .ok (.if_icmp .ge 6, 3) := by decide +kernel
theorem dL_number_30 : decode cL_number 30 = .ok (.iinc 3 1, 3) := by decide +kernel
theorem dL_number_33 : decode cL_number 33 = .ok (.iinc 4 1, 3) := by decide +kernel
theorem dL_number_36 : decode cL_number 36 = .ok (.goto (-31), 3) := by decide +kernel
theorem dL_number_39 : decode cL_number 39 = .ok (.iload_n 3, 1) := by decide +kernel
theorem dL_number_40 : decode cL_number 40 = .ok (.ireturn, 1) := by decide +kernel
theorem dL_port_0 : decode cL_port 0 = .ok (.aload_n 3, 1) := by decide +kernel
theorem dL_port_1 : decode cL_port 1 = .ok (.iconst 3, 1) := by decide +kernel
theorem dL_port_2 : decode cL_port 2 = .ok (.iaload, 1) := by decide +kernel
theorem dL_port_3 : decode cL_port 3 = .ok (.iload_n 1, 1) := by decide +kernel
theorem dL_port_4 : decode cL_port 4 = .ok (.iload_n 2, 1) := by decide +kernel
theorem dL_port_5 : decode cL_port 5 = .ok (.iconst 2, 1) := by decide +kernel
theorem dL_port_6 : decode cL_port 6 = .ok (.invokestatic 30, 3) := by decide +kernel
theorem dL_port_9 : decode cL_port 9 = .ok (.ifCond .ne 7, 3) := by decide +kernel
theorem dL_port_12 : decode cL_port 12 = .ok (.iconst 2, 1) := by decide +kernel
theorem dL_port_13 : decode cL_port 13 = .ok (.goto 5, 3) := by decide +kernel
theorem dL_port_16 : decode cL_port 16 = .ok (.bipush 30, 2) := by decide +kernel
theorem dL_port_18 : decode cL_port 18 = .ok (.invokestatic 30, 3) := by decide +kernel
theorem dL_port_21 : decode cL_port 21 = .ok (.iadd, 1) := by decide +kernel
theorem dL_port_22 : decode cL_port 22 = .ok (.istore 5, 2) := by decide +kernel
theorem dL_port_24 : decode cL_port 24 = .ok (.aload_n 3, 1) := by decide +kernel
theorem dL_port_25 : decode cL_port 25 = .ok (.bipush 14, 2) := by decide +kernel
theorem dL_port_27 : decode cL_port 27 = .ok (.iaload, 1) := by decide +kernel
theorem dL_port_28 : decode cL_port 28 = .ok (.iconst 4, 1) := by decide +kernel
theorem dL_port_29 : decode cL_port 29 = .ok (.if_icmp .eq 14, 3) := by decide +kernel
theorem dL_port_32 : decode cL_port 32 = .ok (.iload 5, 2) := by decide +kernel
theorem dL_port_34 : decode cL_port 34 = .ok (.aload_n 3, 1) := by decide +kernel
theorem dL_port_35 : decode cL_port 35 = .ok (.aload 4, 2) := by decide +kernel
theorem dL_port_37 : decode cL_port 37 = .ok (.invokestatic 40, 3) := by decide +kernel
theorem dL_port_40 : decode cL_port 40 = .ok (.ifCond .lt 5, 3) := by decide +kernel
theorem dL_port_43 : decode cL_port 43 = .ok (.iconst 1, 1) := by decide +kernel
theorem dL_port_44 : decode cL_port 44 = .ok (.ireturn, 1) := by decide +kernel
theorem dL_port_45 : decode cL_port 45 = .ok (.aload_n 3, 1) := by decide +kernel
theorem dL_port_46 : decode cL_port 46 = .ok (.bipush 14, 2) := by decide +kernel
theorem dL_port_48 : decode cL_port 48 = .ok (.dup2, 1) := by decide +kernel
theorem dL_port_49 : decode cL_port 49 = .ok (.iaload, 1) := by decide +kernel
theorem dL_port_50 : decode cL_port 50 = .ok (.dup_x2, 1) := by decide +kernel
theorem dL_port_51 : decode cL_port 51 = .ok (.iconst 1, 1) := by decide +kernel
theorem dL_port_52 : decode cL_port 52 = .ok (.iadd, 1) := by decide +kernel
theorem dL_port_53 : decode cL_port 53 = .ok (.iastore, 1) := by decide +kernel
theorem dL_port_54 : decode cL_port 54 = .ok (.istore 6, 2) := by decide +kernel
theorem dL_port_56 : decode cL_port 56 = .ok (.aload 4, 2) := by decide +kernel
theorem dL_port_58 : decode cL_port 58 = .ok (.bipush 6, 2) := by decide +kernel
theorem dL_port_60 : decode cL_port 60 = .ok (.iload 6, 2) := by decide +kernel
theorem dL_port_62 : decode cL_port 62 = .ok (.imul, 1) := by decide +kernel
theorem dL_port_63 : decode cL_port 63 = .ok (.iload 5, 2) := by decide +kernel
theorem dL_port_65 : decode cL_port 65 = .ok (.iastore, 1) := by decide +kernel
theorem dL_port_66 : decode cL_port 66 = .ok (.aload 4, 2) := by decide +kernel
theorem dL_port_68 : decode cL_port 68 = .ok (.bipush 6, 2) := by decide +kernel
theorem dL_port_70 : decode cL_port 70 = .ok (.iload 6, 2) := by decide +kernel
theorem dL_port_72 : decode cL_port 72 = .ok (.imul, 1) := by decide +kernel
theorem dL_port_73 : decode cL_port 73 = .ok (.iconst 1, 1) := by decide +kernel
theorem dL_port_74 : decode cL_port 74 = .ok (.iadd, 1) := by decide +kernel
theorem dL_port_75 : decode cL_port 75 = .ok (.iload_n 2, 1) := by decide +kernel
theorem dL_port_76 : decode cL_port 76 = .ok (.iconst 3, 1) := by decide +kernel
theorem dL_port_77 : decode cL_port 77 = .ok (.ishr, 1) := by decide +kernel
theorem dL_port_78 : decode cL_port 78 = .ok (.iload_n 2, 1) := by decide +kernel
theorem dL_port_79 : decode cL_port 79 = .ok (.iconst 1, 1) := by decide +kernel
theorem dL_port_80 : decode cL_port 80 = .ok (.ishr, 1) := by decide +kernel
theorem dL_port_81 : decode cL_port 81 = .ok (.iconst 2, 1) := by decide +kernel
theorem dL_port_82 : decode cL_port 82 = .ok (.invokestatic 30, 3) := by decide +kernel
theorem dL_port_85 : decode cL_port 85 = .ok (.ifCond .ne 9, 3) := by decide +kernel
theorem dL_port_88 : decode cL_port 88 = .ok (.sipush 901, 3) := by decide +kernel
theorem dL_port_91 : decode cL_port 91 = .ok (.goto 6, 3) := by decide +kernel
theorem dL_port_94 : decode cL_port 94 = .ok (.sipush 200, 3) := by decide +kernel
theorem dL_port_97 : decode cL_port 97 = .ok (.invokestatic 30, 3) := by decide +kernel
theorem dL_port_100 : decode cL_port 100 = .ok (.iastore, 1) := by decide +kernel
theorem dL_port_101 : decode cL_port 101 = .ok (.iconst 0, 1) := by decide +kernel
theorem dL_port_102 : decode cL_port 102 = .ok (.istore 7, 2) := by decide +kernel
theorem dL_port_104 : decode cL_port 104 = .ok (.iload 7, 2) := by decide +kernel
theorem dL_port_106 : decode cL_port 106 = .ok (.iconst 4, 1) := by decide +kernel
theorem dL_port_107 : decode cL_port 107 = .ok (.if_icmp .ge 23, 3) := by decide +kernel
theorem dL_port_110 : decode cL_port 110 = .ok (.aload 4, 2) := by decide +kernel
theorem dL_port_112 : decode cL_port 112 = .ok (.bipush 6, 2) := by decide +kernel
theorem dL_port_114 : decode cL_port 114 = .ok (.iload 6, 2) := by decide +kernel
theorem dL_port_116 : decode cL_port 116 = .ok (.imul, 1) := by decide +kernel
theorem dL_port_117 : decode cL_port 117 = .ok (.iconst 2, 1) := by decide +kernel
theorem dL_port_118 : decode cL_port 118 = .ok (.iadd, 1) := by decide +kernel
theorem dL_port_119 : decode cL_port 119 = .ok (.iload 7, 2) := by decide +kernel
theorem dL_port_121 : decode cL_port 121 = .ok (.iadd, 1) := by decide +kernel
theorem dL_port_122 : decode cL_port 122 = .ok (.iconst 0, 1) := by decide +kernel
theorem dL_port_123 : decode cL_port 123 = .ok (.iastore, 1) := by decide +kernel
theorem dL_port_124 : decode cL_port 124 = .ok (.iinc 7 1, 3) := by decide +kernel
theorem dL_port_127 : decode cL_port 127 = .ok (.goto (-23), 3) := by decide +kernel
theorem dL_port_130 : decode cL_port 130 = .ok (.aload_n 0, 1) := by decide +kernel
theorem dL_port_131 : decode cL_port 131 = .ok (.iload 5, 2) := by decide +kernel
theorem dL_port_133 : decode cL_port 133 = .ok (.aload 4, 2) := by decide +kernel
theorem dL_port_135 : decode cL_port 135 = .ok (.bipush 6, 2) := by decide +kernel
theorem dL_port_137 : decode cL_port 137 = .ok (.iload 6, 2) := by decide +kernel
theorem dL_port_139 : decode cL_port 139 = .ok (.imul, 1) := by decide +kernel
theorem dL_port_140 : decode cL_port 140 = .ok (.iconst 1, 1) := by decide +kernel
theorem dL_port_141 : decode cL_port 141 = .ok (.iadd, 1) := by decide +kernel
theorem dL_port_142 : decode cL_port 142 = .ok (.iaload, 1) := by decide +kernel
theorem dL_port_143 : decode cL_port 143 = .ok (.invokevirtual 44, 3) := by decide +kernel
theorem dL_port_146 : decode cL_port 146 = .ok (.iload 6, 2) := by decide +kernel
theorem dL_port_148 : decode cL_port 148 = .ok (.aload_n 3, 1) := by decide +kernel
theorem dL_port_149 : decode cL_port 149 = .ok (.aload 4, 2) := by decide +kernel
theorem dL_port_151 : decode cL_port 151 = .ok (.invokestatic 47, 3) := by decide +kernel
theorem dL_port_154 : decode cL_port 154 = .ok (.if_icmp .ne 7, 3) := by decide +kernel
theorem dL_port_157 : decode cL_port 157 = .ok (.iconst 1, 1) := by decide +kernel
theorem dL_port_158 : decode cL_port 158 = .ok (.goto 4, 3) := by decide +kernel
theorem dL_port_161 : decode cL_port 161 = .ok (.iconst 0, 1) := by decide +kernel
theorem dL_port_162 : decode cL_port 162 = .ok (.ireturn, 1) := by decide +kernel
theorem dL_price_0 : decode cL_price 0 = .ok (.aload_n 3, 1) := by decide +kernel
theorem dL_price_1 : decode cL_price 1 = .ok (.bipush 14, 2) := by decide +kernel
theorem dL_price_3 : decode cL_price 3 = .ok (.iaload, 1) := by decide +kernel
theorem dL_price_4 : decode cL_price 4 = .ok (.ifCond .eq 9, 3) := by decide +kernel
theorem dL_price_7 : decode cL_price 7 = .ok (.aload_n 3, 1) := by decide +kernel
theorem dL_price_8 : decode cL_price 8 = .ok (.iconst 0, 1) := by decide +kernel
theorem dL_price_9 : decode cL_price 9 = .ok (.iaload, 1) := by decide +kernel
theorem dL_price_10 : decode cL_price 10 = .ok (.ifCond .ne 5, 3) := by decide +kernel
theorem dL_price_13 : decode cL_price 13 = .ok (.iconst 1, 1) := by decide +kernel
theorem dL_price_14 : decode cL_price 14 = .ok (.ireturn, 1) := by decide +kernel
theorem dL_price_15 : decode cL_price 15 = .ok (.iload_n 1, 1) := by decide +kernel
theorem dL_price_16 : decode cL_price 16 = .ok (.aload_n 3, 1) := by decide +kernel
theorem dL_price_17 : decode cL_price 17 = .ok (.bipush 14, 2) := by decide +kernel
theorem dL_price_19 : decode cL_price 19 = .ok (.iaload, 1) := by decide +kernel
theorem dL_price_20 : decode cL_price 20 = .ok (.invokestatic 30, 3) := by decide +kernel
theorem dL_price_23 : decode cL_price 23 = .ok (.istore 5, 2) := by decide +kernel
theorem dL_price_25 : decode cL_price 25 = .ok (.iload_n 1, 1) := by decide +kernel
theorem dL_price_26 : decode cL_price 26 = .ok (.iconst 4, 1) := by decide +kernel
theorem dL_price_27 : decode cL_price 27 = .ok (.ishr, 1) := by decide +kernel
theorem dL_price_28 : decode cL_price 28 = .ok (.aload_n 3, 1) := by decide +kernel
theorem dL_price_29 : decode cL_price 29 = .ok (.iconst 0, 1) := by decide +kernel
theorem dL_price_30 : decode cL_price 30 = .ok (.iaload, 1) := by decide +kernel
theorem dL_price_31 : decode cL_price 31 = .ok (.invokestatic 30, 3) := by decide +kernel
theorem dL_price_34 : decode cL_price 34 = .ok (.istore 6, 2) := by decide +kernel
theorem dL_price_36 : decode cL_price 36 = .ok (.aload 4, 2) := by decide +kernel
theorem dL_price_38 : decode cL_price 38 = .ok (.bipush 6, 2) := by decide +kernel
theorem dL_price_40 : decode cL_price 40 = .ok (.iload 5, 2) := by decide +kernel
theorem dL_price_42 : decode cL_price 42 = .ok (.imul, 1) := by decide +kernel
theorem dL_price_43 : decode cL_price 43 = .ok (.iconst 2, 1) := by decide +kernel
theorem dL_price_44 : decode cL_price 44 = .ok (.iadd, 1) := by decide +kernel
theorem dL_price_45 : decode cL_price 45 = .ok (.iload 6, 2) := by decide +kernel
theorem dL_price_47 : decode cL_price 47 = .ok (.iadd, 1) := by decide +kernel
theorem dL_price_48 : decode cL_price 48 = .ok (.iaload, 1) := by decide +kernel
theorem dL_price_49 : decode cL_price 49 = .ok (.istore 7, 2) := by decide +kernel
theorem dL_price_51 : decode cL_price 51 = .ok (.aload 4, 2) := by decide +kernel
theorem dL_price_53 : decode cL_price 53 = .ok (.bipush 6, 2) := by decide +kernel
theorem dL_price_55 : decode cL_price 55 = .ok (.iload 5, 2) := by decide +kernel
theorem dL_price_57 : decode cL_price 57 = .ok (.imul, 1) := by decide +kernel
theorem dL_price_58 : decode cL_price 58 = .ok (.iconst 2, 1) := by decide +kernel
theorem dL_price_59 : decode cL_price 59 = .ok (.iadd, 1) := by decide +kernel
theorem dL_price_60 : decode cL_price 60 = .ok (.iload 6, 2) := by decide +kernel
theorem dL_price_62 : decode cL_price 62 = .ok (.iadd, 1) := by decide +kernel
theorem dL_price_63 : decode cL_price 63 = .ok (.iload_n 2, 1) := by decide +kernel
theorem dL_price_64 : decode cL_price 64 = .ok (.iload_n 1, 1) := by decide +kernel
theorem dL_price_65 : decode cL_price 65 = .ok (.bipush 8, 2) := by decide +kernel
theorem dL_price_67 : decode cL_price 67 = .ok (.ishr, 1) := by decide +kernel
theorem dL_price_68 : decode cL_price 68 = .ok (.iconst 4, 1) := by decide +kernel
theorem dL_price_69 : decode cL_price 69 = .ok (.invokestatic 30, 3) := by decide +kernel
theorem dL_price_72 : decode cL_price 72 = .ok (.ifCond .ne 7, 3) := by decide +kernel
theorem dL_price_75 : decode cL_price 75 = .ok (.iconst 1, 1) := by decide +kernel
theorem dL_price_76 : decode cL_price 76 = .ok (.goto 5, 3) := by decide +kernel
theorem dL_price_79 : decode cL_price 79 = .ok (.bipush 40, 2) := by decide +kernel
theorem dL_price_81 : decode cL_price 81 = .ok (.invokestatic 30, 3) := by decide +kernel
theorem dL_price_84 : decode cL_price 84 = .ok (.iastore, 1) := by decide +kernel
theorem dL_price_85 : decode cL_price 85 = .ok (.aload_n 0, 1) := by decide +kernel
theorem dL_price_86 : decode cL_price 86 = .ok (.iload 5, 2) := by decide +kernel
theorem dL_price_88 : decode cL_price 88 = .ok (.aload_n 3, 1) := by decide +kernel
theorem dL_price_89 : decode cL_price 89 = .ok (.aload 4, 2) := by decide +kernel
theorem dL_price_91 : decode cL_price 91 = .ok (.invokestatic 47, 3) := by decide +kernel
theorem dL_price_94 : decode cL_price 94 = .ok (.iload 6, 2) := by decide +kernel
theorem dL_price_96 : decode cL_price 96 = .ok (.aload 4, 2) := by decide +kernel
theorem dL_price_98 : decode cL_price 98 = .ok (.bipush 6, 2) := by decide +kernel
theorem dL_price_100 : decode cL_price 100 = .ok (.iload 5, 2) := by decide +kernel
theorem dL_price_102 : decode cL_price 102 = .ok (.imul, 1) := by decide +kernel
theorem dL_price_103 : decode cL_price 103 = .ok (.iconst 2, 1) := by decide +kernel
theorem dL_price_104 : decode cL_price 104 = .ok (.iadd, 1) := by decide +kernel
theorem dL_price_105 : decode cL_price 105 = .ok (.iload 6, 2) := by decide +kernel
theorem dL_price_107 : decode cL_price 107 = .ok (.iadd, 1) := by decide +kernel
theorem dL_price_108 : decode cL_price 108 = .ok (.iaload, 1) := by decide +kernel
theorem dL_price_109 : decode cL_price 109 = .ok (.invokevirtual 50, 3) := by decide +kernel
theorem dL_price_112 : decode cL_price 112 = .ok (.iload 7, 2) := by decide +kernel
theorem dL_price_114 : decode cL_price 114 = .ok (.if_icmp .ne 7, 3) := by decide +kernel
theorem dL_price_117 : decode cL_price 117 = .ok (.iconst 1, 1) := by decide +kernel
theorem dL_price_118 : decode cL_price 118 = .ok (.goto 4, 3) := by decide +kernel
theorem dL_price_121 : decode cL_price 121 = .ok (.iconst 0, 1) := by decide +kernel
theorem dL_price_122 : decode cL_price 122 = .ok (.ireturn, 1) := by decide +kernel
theorem dL_why_0 : decode cL_why 0 = .ok (.aload_n 3, 1) := by decide +kernel
theorem dL_why_1 : decode cL_why 1 = .ok (.iconst 3, 1) := by decide +kernel
theorem dL_why_2 : decode cL_why 2 = .ok (.iaload, 1) := by decide +kernel
theorem dL_why_3 : decode cL_why 3 = .ok (.aload_n 3, 1) := by decide +kernel
theorem dL_why_4 : decode cL_why 4 = .ok (.aload 6, 2) := by decide +kernel
theorem dL_why_6 : decode cL_why 6 = .ok (.invokestatic 40, 3) := by decide +kernel
theorem dL_why_9 : decode cL_why 9 = .ok (.istore 7, 2) := by decide +kernel
theorem dL_why_11 : decode cL_why 11 = .ok (.iload 7, 2) := by decide +kernel
theorem dL_why_13 : decode cL_why 13 = .ok (.ifCond .ge 5, 3) := by decide +kernel
theorem dL_why_16 : decode cL_why 16 = .ok (.iconst 1, 1) := by decide +kernel
theorem dL_why_17 : decode cL_why 17 = .ok (.ireturn, 1) := by decide +kernel
theorem dL_why_18 : decode cL_why 18 = .ok (.aload 6, 2) := by decide +kernel
theorem dL_why_20 : decode cL_why 20 = .ok (.bipush 6, 2) := by decide +kernel
theorem dL_why_22 : decode cL_why 22 = .ok (.iload 7, 2) := by decide +kernel
theorem dL_why_24 : decode cL_why 24 = .ok (.imul, 1) := by decide +kernel
theorem dL_why_25 : decode cL_why 25 = .ok (.iconst 2, 1) := by decide +kernel
theorem dL_why_26 : decode cL_why 26 = .ok (.iadd, 1) := by decide +kernel
theorem dL_why_27 : decode cL_why 27 = .ok (.iload_n 0, 1) := by decide +kernel
theorem dL_why_28 : decode cL_why 28 = .ok (.iadd, 1) := by decide +kernel
theorem dL_why_29 : decode cL_why 29 = .ok (.iaload, 1) := by decide +kernel
theorem dL_why_30 : decode cL_why 30 = .ok (.istore 8, 2) := by decide +kernel
theorem dL_why_32 : decode cL_why 32 = .ok (.iload 8, 2) := by decide +kernel
theorem dL_why_34 : decode cL_why 34 = .ok (.ifCond .ne 5, 3) := by decide +kernel
theorem dL_why_37 : decode cL_why 37 = .ok (.iconst 2, 1) := by decide +kernel
theorem dL_why_38 : decode cL_why 38 = .ok (.ireturn, 1) := by decide +kernel
theorem dL_why_39 : decode cL_why 39 = .ok (.aload 4, 2) := by decide +kernel
theorem dL_why_41 : decode cL_why 41 = .ok (.bipush 8, 2) := by decide +kernel
theorem dL_why_43 : decode cL_why 43 = .ok (.iload_n 0, 1) := by decide +kernel
theorem dL_why_44 : decode cL_why 44 = .ok (.imul, 1) := by decide +kernel
theorem dL_why_45 : decode cL_why 45 = .ok (.aload_n 3, 1) := by decide +kernel
theorem dL_why_46 : decode cL_why 46 = .ok (.bipush 11, 2) := by decide +kernel
theorem dL_why_48 : decode cL_why 48 = .ok (.iload_n 2, 1) := by decide +kernel
theorem dL_why_49 : decode cL_why 49 = .ok (.iadd, 1) := by decide +kernel
theorem dL_why_50 : decode cL_why 50 = .ok (.iaload, 1) := by decide +kernel
theorem dL_why_51 : decode cL_why 51 = .ok (.ifCond .le 7, 3) := by decide +kernel
theorem dL_why_54 : decode cL_why 54 = .ok (.iconst 0, 1) := by decide +kernel
theorem dL_why_55 : decode cL_why 55 = .ok (.goto 4, 3) := by decide +kernel
theorem dL_why_58 : decode cL_why 58 = .ok (.iload_n 2, 1) := by decide +kernel
theorem dL_why_59 : decode cL_why 59 = .ok (.iadd, 1) := by decide +kernel
theorem dL_why_60 : decode cL_why 60 = .ok (.iaload, 1) := by decide +kernel
theorem dL_why_61 : decode cL_why 61 = .ok (.ifCond .ne 5, 3) := by decide +kernel
theorem dL_why_64 : decode cL_why 64 = .ok (.iconst 3, 1) := by decide +kernel
theorem dL_why_65 : decode cL_why 65 = .ok (.ireturn, 1) := by decide +kernel
theorem dL_why_66 : decode cL_why 66 = .ok (.iconst 1, 1) := by decide +kernel
theorem dL_why_67 : decode cL_why 67 = .ok (.iload_n 2, 1) := by decide +kernel
theorem dL_why_68 : decode cL_why 68 = .ok (.aload_n 3, 1) := by decide +kernel
theorem dL_why_69 : decode cL_why 69 = .ok (.aload 5, 2) := by decide +kernel
theorem dL_why_71 : decode cL_why 71 = .ok (.invokestatic 53, 3) := by decide +kernel
theorem dL_why_74 : decode cL_why 74 = .ok (.iload_n 1, 1) := by decide +kernel
theorem dL_why_75 : decode cL_why 75 = .ok (.iadd, 1) := by decide +kernel
theorem dL_why_76 : decode cL_why 76 = .ok (.aload_n 3, 1) := by decide +kernel
theorem dL_why_77 : decode cL_why 77 = .ok (.bipush 8, 2) := by decide +kernel
theorem dL_why_79 : decode cL_why 79 = .ok (.iload_n 2, 1) := by decide +kernel
theorem dL_why_80 : decode cL_why 80 = .ok (.iadd, 1) := by decide +kernel
theorem dL_why_81 : decode cL_why 81 = .ok (.iaload, 1) := by decide +kernel
theorem dL_why_82 : decode cL_why 82 = .ok (.if_icmp .le 7, 3) := by decide +kernel
theorem dL_why_85 : decode cL_why 85 = .ok (.iconst 4, 1) := by decide +kernel
theorem dL_why_86 : decode cL_why 86 = .ok (.goto 18, 3) := by decide +kernel
theorem dL_why_89 : decode cL_why 89 = .ok (.iload 8, 2) := by decide +kernel
theorem dL_why_91 : decode cL_why 91 = .ok (.iload_n 1, 1) := by decide +kernel
theorem dL_why_92 : decode cL_why 92 = .ok (.imul, 1) := by decide +kernel
theorem dL_why_93 : decode cL_why 93 = .ok (.aload_n 3, 1) := by decide +kernel
theorem dL_why_94 : decode cL_why 94 = .ok (.iconst 5, 1) := by decide +kernel
theorem dL_why_95 : decode cL_why 95 = .ok (.iaload, 1) := by decide +kernel
theorem dL_why_96 : decode cL_why 96 = .ok (.if_icmp .le 7, 3) := by decide +kernel
theorem dL_why_99 : decode cL_why 99 = .ok (.iconst 5, 1) := by decide +kernel
theorem dL_why_100 : decode cL_why 100 = .ok (.goto 4, 3) := by decide +kernel
theorem dL_why_103 : decode cL_why 103 = .ok (.iconst 0, 1) := by decide +kernel
theorem dL_why_104 : decode cL_why 104 = .ok (.ireturn, 1) := by decide +kernel
theorem dL_come_0 : decode cL_come 0 = .ok (.iconst 4, 1) := by decide +kernel
theorem dL_come_1 : decode cL_come 1 = .ok (.aload 4, 2) := by decide +kernel
theorem dL_come_3 : decode cL_come 3 = .ok (.iconst 1, 1) := by decide +kernel
theorem dL_come_4 : decode cL_come 4 = .ok (.dup2, 1) := by decide +kernel
theorem dL_come_5 : decode cL_come 5 = .ok (.iaload, 1) := by decide +kernel
theorem dL_come_6 : decode cL_come 6 = .ok (.dup_x2, 1) := by decide +kernel
theorem dL_come_7 : decode cL_come 7 = .ok (.iconst 1, 1) := by decide +kernel
theorem dL_come_8 : decode cL_come 8 = .ok (.iadd, 1) := by decide +kernel
theorem dL_come_9 : decode cL_come 9 = .ok (.iastore, 1) := by decide +kernel
theorem dL_come_10 : decode cL_come 10 = .ok (.imul, 1) := by decide +kernel
theorem dL_come_11 : decode cL_come 11 = .ok (.istore 6, 2) := by decide +kernel
theorem dL_come_13 : decode cL_come 13 = .ok (.aload 5, 2) := by decide +kernel
theorem dL_come_15 : decode cL_come 15 = .ok (.iload 6, 2) := by decide +kernel
theorem dL_come_17 : decode cL_come 17 = .ok (.iload_n 0, 1) := by decide +kernel
theorem dL_come_18 : decode cL_come 18 = .ok (.iastore, 1) := by decide +kernel
theorem dL_come_19 : decode cL_come 19 = .ok (.aload 5, 2) := by decide +kernel
theorem dL_come_21 : decode cL_come 21 = .ok (.iload 6, 2) := by decide +kernel
theorem dL_come_23 : decode cL_come 23 = .ok (.iconst 1, 1) := by decide +kernel
theorem dL_come_24 : decode cL_come 24 = .ok (.iadd, 1) := by decide +kernel
theorem dL_come_25 : decode cL_come 25 = .ok (.iload_n 1, 1) := by decide +kernel
theorem dL_come_26 : decode cL_come 26 = .ok (.iastore, 1) := by decide +kernel
theorem dL_come_27 : decode cL_come 27 = .ok (.aload 5, 2) := by decide +kernel
theorem dL_come_29 : decode cL_come 29 = .ok (.iload 6, 2) := by decide +kernel
theorem dL_come_31 : decode cL_come 31 = .ok (.iconst 2, 1) := by decide +kernel
theorem dL_come_32 : decode cL_come 32 = .ok (.iadd, 1) := by decide +kernel
theorem dL_come_33 : decode cL_come 33 = .ok (.iload_n 2, 1) := by decide +kernel
theorem dL_come_34 : decode cL_come 34 = .ok (.iastore, 1) := by decide +kernel
theorem dL_come_35 : decode cL_come 35 = .ok (.aload 5, 2) := by decide +kernel
theorem dL_come_37 : decode cL_come 37 = .ok (.iload 6, 2) := by decide +kernel
theorem dL_come_39 : decode cL_come 39 = .ok (.iconst 3, 1) := by decide +kernel
theorem dL_come_40 : decode cL_come 40 = .ok (.iadd, 1) := by decide +kernel
theorem dL_come_41 : decode cL_come 41 = .ok (.iload_n 3, 1) := by decide +kernel
theorem dL_come_42 : decode cL_come 42 = .ok (.iastore, 1) := by decide +kernel
theorem dL_come_43 : decode cL_come 43 = .ok (.return_, 1) := by decide +kernel
theorem dL_buy_0 : decode cL_buy 0 = .ok (.aload_n 3, 1) := by decide +kernel
theorem dL_buy_1 : decode cL_buy 1 = .ok (.iconst 0, 1) := by decide +kernel
theorem dL_buy_2 : decode cL_buy 2 = .ok (.iaload, 1) := by decide +kernel
theorem dL_buy_3 : decode cL_buy 3 = .ok (.ifCond .eq 11, 3) := by decide +kernel
theorem dL_buy_6 : decode cL_buy 6 = .ok (.aload_n 3, 1) := by decide +kernel
theorem dL_buy_7 : decode cL_buy 7 = .ok (.iconst 1, 1) := by decide +kernel
theorem dL_buy_8 : decode cL_buy 8 = .ok (.iaload, 1) := by decide +kernel
theorem dL_buy_9 : decode cL_buy 9 = .ok (.bipush 10, 2) := by decide +kernel
theorem dL_buy_11 : decode cL_buy 11 = .ok (.if_icmp .le 5, 3) := by decide +kernel
theorem dL_buy_14 : decode cL_buy 14 = .ok (.iconst 1, 1) := by decide +kernel
theorem dL_buy_15 : decode cL_buy 15 = .ok (.ireturn, 1) := by decide +kernel
theorem dL_buy_16 : decode cL_buy 16 = .ok (.iload_n 1, 1) := by decide +kernel
theorem dL_buy_17 : decode cL_buy 17 = .ok (.aload_n 3, 1) := by decide +kernel
theorem dL_buy_18 : decode cL_buy 18 = .ok (.iconst 0, 1) := by decide +kernel
theorem dL_buy_19 : decode cL_buy 19 = .ok (.iaload, 1) := by decide +kernel
theorem dL_buy_20 : decode cL_buy 20 = .ok (.invokestatic 30, 3) := by decide +kernel
theorem dL_buy_23 : decode cL_buy 23 = .ok (.istore 7, 2) := by decide +kernel
theorem dL_buy_25 : decode cL_buy 25 = .ok (.iload_n 1, 1) := by decide +kernel
theorem dL_buy_26 : decode cL_buy 26 = .ok (.iconst 4, 1) := by decide +kernel
theorem dL_buy_27 : decode cL_buy 27 = .ok (.ishr, 1) := by decide +kernel
theorem dL_buy_28 : decode cL_buy 28 = .ok (.iconst 3, 1) := by decide +kernel
theorem dL_buy_29 : decode cL_buy 29 = .ok (.invokestatic 30, 3) := by decide +kernel
theorem dL_buy_32 : decode cL_buy 32 = .ok (.istore 8, 2) := by decide +kernel
theorem dL_buy_34 : decode cL_buy 34 = .ok (.iconst 1, 1) := by decide +kernel
theorem dL_buy_35 : decode cL_buy 35 = .ok (.iload_n 2, 1) := by decide +kernel
theorem dL_buy_36 : decode cL_buy 36 = .ok (.iload_n 1, 1) := by decide +kernel
theorem dL_buy_37 : decode cL_buy 37 = .ok (.bipush 7, 2) := by decide +kernel
theorem dL_buy_39 : decode cL_buy 39 = .ok (.ishr, 1) := by decide +kernel
theorem dL_buy_40 : decode cL_buy 40 = .ok (.iconst 4, 1) := by decide +kernel
theorem dL_buy_41 : decode cL_buy 41 = .ok (.invokestatic 30, 3) := by decide +kernel
theorem dL_buy_44 : decode cL_buy 44 = .ok (.ifCond .ne 9, 3) := by decide +kernel
theorem dL_buy_47 : decode cL_buy 47 = .ok (.sipush 1500, 3) := by decide +kernel
theorem dL_buy_50 : decode cL_buy 50 = .ok (.goto 6, 3) := by decide +kernel
theorem dL_buy_53 : decode cL_buy 53 = .ok (.sipush 150, 3) := by decide +kernel
theorem dL_buy_56 : decode cL_buy 56 = .ok (.invokestatic 30, 3) := by decide +kernel
theorem dL_buy_59 : decode cL_buy 59 = .ok (.iadd, 1) := by decide +kernel
theorem dL_buy_60 : decode cL_buy 60 = .ok (.istore 9, 2) := by decide +kernel
theorem dL_buy_62 : decode cL_buy 62 = .ok (.iload 7, 2) := by decide +kernel
theorem dL_buy_64 : decode cL_buy 64 = .ok (.iload 9, 2) := by decide +kernel
theorem dL_buy_66 : decode cL_buy 66 = .ok (.iload 8, 2) := by decide +kernel
theorem dL_buy_68 : decode cL_buy 68 = .ok (.aload_n 3, 1) := by decide +kernel
theorem dL_buy_69 : decode cL_buy 69 = .ok (.aload 4, 2) := by decide +kernel
theorem dL_buy_71 : decode cL_buy 71 = .ok (.aload 5, 2) := by decide +kernel
theorem dL_buy_73 : decode cL_buy 73 = .ok (.aload 6, 2) := by decide +kernel
theorem dL_buy_75 : decode cL_buy 75 = .ok (.invokestatic 57, 3) := by decide +kernel
theorem dL_buy_78 : decode cL_buy 78 = .ok (.istore 10, 2) := by decide +kernel
theorem dL_buy_80 : decode cL_buy 80 = .ok (.aload_n 0, 1) := by decide +kernel
theorem dL_buy_81 : decode cL_buy 81 = .ok (.iload 7, 2) := by decide +kernel
theorem dL_buy_83 : decode cL_buy 83 = .ok (.iload 9, 2) := by decide +kernel
theorem dL_buy_85 : decode cL_buy 85 = .ok (.iload 8, 2) := by decide +kernel
theorem dL_buy_87 : decode cL_buy 87 = .ok (.invokevirtual 61, 3) := by decide +kernel
theorem dL_buy_90 : decode cL_buy 90 = .ok (.iload 10, 2) := by decide +kernel
theorem dL_buy_92 : decode cL_buy 92 = .ok (.if_icmp .eq 5, 3) := by decide +kernel
theorem dL_buy_95 : decode cL_buy 95 = .ok (.iconst 0, 1) := by decide +kernel
theorem dL_buy_96 : decode cL_buy 96 = .ok (.ireturn, 1) := by decide +kernel
theorem dL_buy_97 : decode cL_buy 97 = .ok (.iload 10, 2) := by decide +kernel
theorem dL_buy_99 : decode cL_buy 99 = .ok (.ifCond .le 5, 3) := by decide +kernel
theorem dL_buy_102 : decode cL_buy 102 = .ok (.iconst 1, 1) := by decide +kernel
theorem dL_buy_103 : decode cL_buy 103 = .ok (.ireturn, 1) := by decide +kernel
theorem dL_buy_104 : decode cL_buy 104 = .ok (.aload_n 3, 1) := by decide +kernel
theorem dL_buy_105 : decode cL_buy 105 = .ok (.iconst 3, 1) := by decide +kernel
theorem dL_buy_106 : decode cL_buy 106 = .ok (.iaload, 1) := by decide +kernel
theorem dL_buy_107 : decode cL_buy 107 = .ok (.aload_n 3, 1) := by decide +kernel
theorem dL_buy_108 : decode cL_buy 108 = .ok (.aload 6, 2) := by decide +kernel
theorem dL_buy_110 : decode cL_buy 110 = .ok (.invokestatic 40, 3) := by decide +kernel
theorem dL_buy_113 : decode cL_buy 113 = .ok (.istore 11, 2) := by decide +kernel
theorem dL_buy_115 : decode cL_buy 115 = .ok (.aload_n 3, 1) := by decide +kernel
theorem dL_buy_116 : decode cL_buy 116 = .ok (.iconst 5, 1) := by decide +kernel
theorem dL_buy_117 : decode cL_buy 117 = .ok (.dup2, 1) := by decide +kernel
theorem dL_buy_118 : decode cL_buy 118 = .ok (.iaload, 1) := by decide +kernel
theorem dL_buy_119 : decode cL_buy 119 = .ok (.iload 9, 2) := by decide +kernel
theorem dL_buy_121 : decode cL_buy 121 = .ok (.aload 6, 2) := by decide +kernel
theorem dL_buy_123 : decode cL_buy 123 = .ok (.bipush 6, 2) := by decide +kernel
theorem dL_buy_125 : decode cL_buy 125 = .ok (.iload 11, 2) := by decide +kernel
theorem dL_buy_127 : decode cL_buy 127 = .ok (.imul, 1) := by decide +kernel
theorem dL_buy_128 : decode cL_buy 128 = .ok (.iconst 2, 1) := by decide +kernel
theorem dL_buy_129 : decode cL_buy 129 = .ok (.iadd, 1) := by decide +kernel
theorem dL_buy_130 : decode cL_buy 130 = .ok (.iload 7, 2) := by decide +kernel
theorem dL_buy_132 : decode cL_buy 132 = .ok (.iadd, 1) := by decide +kernel
theorem dL_buy_133 : decode cL_buy 133 = .ok (.iaload, 1) := by decide +kernel
theorem dL_buy_134 : decode cL_buy 134 = .ok (.imul, 1) := by decide +kernel
theorem dL_buy_135 : decode cL_buy 135 = .ok (.isub, 1) := by decide +kernel
theorem dL_buy_136 : decode cL_buy 136 = .ok (.iastore, 1) := by decide +kernel
theorem dL_buy_137 : decode cL_buy 137 = .ok (.aload_n 3, 1) := by decide +kernel
theorem dL_buy_138 : decode cL_buy 138 = .ok (.bipush 6, 2) := by decide +kernel
theorem dL_buy_140 : decode cL_buy 140 = .ok (.dup2, 1) := by decide +kernel
theorem dL_buy_141 : decode cL_buy 141 = .ok (.iaload, 1) := by decide +kernel
theorem dL_buy_142 : decode cL_buy 142 = .ok (.iload 9, 2) := by decide +kernel
theorem dL_buy_144 : decode cL_buy 144 = .ok (.aload 6, 2) := by decide +kernel
theorem dL_buy_146 : decode cL_buy 146 = .ok (.bipush 6, 2) := by decide +kernel
theorem dL_buy_148 : decode cL_buy 148 = .ok (.iload 11, 2) := by decide +kernel
theorem dL_buy_150 : decode cL_buy 150 = .ok (.imul, 1) := by decide +kernel
theorem dL_buy_151 : decode cL_buy 151 = .ok (.iconst 2, 1) := by decide +kernel
theorem dL_buy_152 : decode cL_buy 152 = .ok (.iadd, 1) := by decide +kernel
theorem dL_buy_153 : decode cL_buy 153 = .ok (.iload 7, 2) := by decide +kernel
theorem dL_buy_155 : decode cL_buy 155 = .ok (.iadd, 1) := by decide +kernel
theorem dL_buy_156 : decode cL_buy 156 = .ok (.iaload, 1) := by decide +kernel
theorem dL_buy_157 : decode cL_buy 157 = .ok (.imul, 1) := by decide +kernel
theorem dL_buy_158 : decode cL_buy 158 = .ok (.iadd, 1) := by decide +kernel
theorem dL_buy_159 : decode cL_buy 159 = .ok (.iastore, 1) := by decide +kernel
theorem dL_buy_160 : decode cL_buy 160 = .ok (.aload 4, 2) := by decide +kernel
theorem dL_buy_162 : decode cL_buy 162 = .ok (.bipush 8, 2) := by decide +kernel
theorem dL_buy_164 : decode cL_buy 164 = .ok (.iload 7, 2) := by decide +kernel
theorem dL_buy_166 : decode cL_buy 166 = .ok (.imul, 1) := by decide +kernel
theorem dL_buy_167 : decode cL_buy 167 = .ok (.iconst 3, 1) := by decide +kernel
theorem dL_buy_168 : decode cL_buy 168 = .ok (.iadd, 1) := by decide +kernel
theorem dL_buy_169 : decode cL_buy 169 = .ok (.dup2, 1) := by decide +kernel
theorem dL_buy_170 : decode cL_buy 170 = .ok (.iaload, 1) := by decide +kernel
theorem dL_buy_171 : decode cL_buy 171 = .ok (.iload 9, 2) := by decide +kernel
theorem dL_buy_173 : decode cL_buy 173 = .ok (.iadd, 1) := by decide +kernel
theorem dL_buy_174 : decode cL_buy 174 = .ok (.iastore, 1) := by decide +kernel
theorem dL_buy_175 : decode cL_buy 175 = .ok (.iload 7, 2) := by decide +kernel
theorem dL_buy_177 : decode cL_buy 177 = .ok (.iload 8, 2) := by decide +kernel
theorem dL_buy_179 : decode cL_buy 179 = .ok (.iload 9, 2) := by decide +kernel
theorem dL_buy_181 : decode cL_buy 181 = .ok (.aload 6, 2) := by decide +kernel
theorem dL_buy_183 : decode cL_buy 183 = .ok (.bipush 6, 2) := by decide +kernel
theorem dL_buy_185 : decode cL_buy 185 = .ok (.iload 11, 2) := by decide +kernel
theorem dL_buy_187 : decode cL_buy 187 = .ok (.imul, 1) := by decide +kernel
theorem dL_buy_188 : decode cL_buy 188 = .ok (.iconst 1, 1) := by decide +kernel
theorem dL_buy_189 : decode cL_buy 189 = .ok (.iadd, 1) := by decide +kernel
theorem dL_buy_190 : decode cL_buy 190 = .ok (.iaload, 1) := by decide +kernel
theorem dL_buy_191 : decode cL_buy 191 = .ok (.aload_n 3, 1) := by decide +kernel
theorem dL_buy_192 : decode cL_buy 192 = .ok (.aload 5, 2) := by decide +kernel
theorem dL_buy_194 : decode cL_buy 194 = .ok (.invokestatic 63, 3) := by decide +kernel
theorem dL_buy_197 : decode cL_buy 197 = .ok (.aload_n 0, 1) := by decide +kernel
theorem dL_buy_198 : decode cL_buy 198 = .ok (.iload 7, 2) := by decide +kernel
theorem dL_buy_200 : decode cL_buy 200 = .ok (.iload 9, 2) := by decide +kernel
theorem dL_buy_202 : decode cL_buy 202 = .ok (.iload 8, 2) := by decide +kernel
theorem dL_buy_204 : decode cL_buy 204 = .ok (.invokevirtual 67, 3) := by decide +kernel
theorem dL_buy_207 : decode cL_buy 207 = .ok (.aload_n 3, 1) := by decide +kernel
theorem dL_buy_208 : decode cL_buy 208 = .ok (.iconst 1, 1) := by decide +kernel
theorem dL_buy_209 : decode cL_buy 209 = .ok (.iaload, 1) := by decide +kernel
theorem dL_buy_210 : decode cL_buy 210 = .ok (.iconst 1, 1) := by decide +kernel
theorem dL_buy_211 : decode cL_buy 211 = .ok (.isub, 1) := by decide +kernel
theorem dL_buy_212 : decode cL_buy 212 = .ok (.if_icmp .ne 7, 3) := by decide +kernel
theorem dL_buy_215 : decode cL_buy 215 = .ok (.iconst 1, 1) := by decide +kernel
theorem dL_buy_216 : decode cL_buy 216 = .ok (.goto 4, 3) := by decide +kernel
theorem dL_buy_219 : decode cL_buy 219 = .ok (.iconst 0, 1) := by decide +kernel
theorem dL_buy_220 : decode cL_buy 220 = .ok (.ireturn, 1) := by decide +kernel
theorem dL_set_0 : decode cL_set 0 = .ok (.iload_n 1, 1) := by decide +kernel
theorem dL_set_1 : decode cL_set 1 = .ok (.iconst 4, 1) := by decide +kernel
theorem dL_set_2 : decode cL_set 2 = .ok (.invokestatic 30, 3) := by decide +kernel
theorem dL_set_5 : decode cL_set 5 = .ok (.istore 5, 2) := by decide +kernel
theorem dL_set_7 : decode cL_set 7 = .ok (.iload 5, 2) := by decide +kernel
theorem dL_set_9 : decode cL_set 9 = .ok (.ifCond .ne 60, 3) := by decide +kernel
theorem dL_set_12 : decode cL_set 12 = .ok (.iconst 1, 1) := by decide +kernel
theorem dL_set_13 : decode cL_set 13 = .ok (.iload_n 1, 1) := by decide +kernel
theorem dL_set_14 : decode cL_set 14 = .ok (.iconst 4, 1) := by decide +kernel
theorem dL_set_15 : decode cL_set 15 = .ok (.ishr, 1) := by decide +kernel
theorem dL_set_16 : decode cL_set 16 = .ok (.iconst 2, 1) := by decide +kernel
theorem dL_set_17 : decode cL_set 17 = .ok (.invokestatic 30, 3) := by decide +kernel
theorem dL_set_20 : decode cL_set 20 = .ok (.iadd, 1) := by decide +kernel
theorem dL_set_21 : decode cL_set 21 = .ok (.istore 6, 2) := by decide +kernel
theorem dL_set_23 : decode cL_set 23 = .ok (.aload_n 3, 1) := by decide +kernel
theorem dL_set_24 : decode cL_set 24 = .ok (.bipush 11, 2) := by decide +kernel
theorem dL_set_26 : decode cL_set 26 = .ok (.iload 6, 2) := by decide +kernel
theorem dL_set_28 : decode cL_set 28 = .ok (.iadd, 1) := by decide +kernel
theorem dL_set_29 : decode cL_set 29 = .ok (.iaload, 1) := by decide +kernel
theorem dL_set_30 : decode cL_set 30 = .ok (.istore 7, 2) := by decide +kernel
theorem dL_set_32 : decode cL_set 32 = .ok (.aload_n 3, 1) := by decide +kernel
theorem dL_set_33 : decode cL_set 33 = .ok (.bipush 11, 2) := by decide +kernel
theorem dL_set_35 : decode cL_set 35 = .ok (.iload 6, 2) := by decide +kernel
theorem dL_set_37 : decode cL_set 37 = .ok (.iadd, 1) := by decide +kernel
theorem dL_set_38 : decode cL_set 38 = .ok (.iload_n 2, 1) := by decide +kernel
theorem dL_set_39 : decode cL_set 39 = .ok (.bipush 12, 2) := by decide +kernel
theorem dL_set_41 : decode cL_set 41 = .ok (.invokestatic 30, 3) := by decide +kernel
theorem dL_set_44 : decode cL_set 44 = .ok (.iastore, 1) := by decide +kernel
theorem dL_set_45 : decode cL_set 45 = .ok (.aload_n 0, 1) := by decide +kernel
theorem dL_set_46 : decode cL_set 46 = .ok (.iload 6, 2) := by decide +kernel
theorem dL_set_48 : decode cL_set 48 = .ok (.aload_n 3, 1) := by decide +kernel
theorem dL_set_49 : decode cL_set 49 = .ok (.bipush 11, 2) := by decide +kernel
theorem dL_set_51 : decode cL_set 51 = .ok (.iload 6, 2) := by decide +kernel
theorem dL_set_53 : decode cL_set 53 = .ok (.iadd, 1) := by decide +kernel
theorem dL_set_54 : decode cL_set 54 = .ok (.iaload, 1) := by decide +kernel
theorem dL_set_55 : decode cL_set 55 = .ok (.invokevirtual 70, 3) := by decide +kernel
theorem dL_set_58 : decode cL_set 58 = .ok (.iload 7, 2) := by decide +kernel
theorem dL_set_60 : decode cL_set 60 = .ok (.if_icmp .ne 7, 3) := by decide +kernel
theorem dL_set_63 : decode cL_set 63 = .ok (.iconst 1, 1) := by decide +kernel
theorem dL_set_64 : decode cL_set 64 = .ok (.goto 4, 3) := by decide +kernel
theorem dL_set_67 : decode cL_set 67 = .ok (.iconst 0, 1) := by decide +kernel
theorem dL_set_68 : decode cL_set 68 = .ok (.ireturn, 1) := by decide +kernel
theorem dL_set_69 : decode cL_set 69 = .ok (.iload 5, 2) := by decide +kernel
theorem dL_set_71 : decode cL_set 71 = .ok (.iconst 1, 1) := by decide +kernel
theorem dL_set_72 : decode cL_set 72 = .ok (.if_icmp .ne 52, 3) := by decide +kernel
theorem dL_set_75 : decode cL_set 75 = .ok (.aload_n 3, 1) := by decide +kernel
theorem dL_set_76 : decode cL_set 76 = .ok (.iconst 4, 1) := by decide +kernel
theorem dL_set_77 : decode cL_set 77 = .ok (.iaload, 1) := by decide +kernel
theorem dL_set_78 : decode cL_set 78 = .ok (.istore 6, 2) := by decide +kernel
theorem dL_set_80 : decode cL_set 80 = .ok (.aload_n 3, 1) := by decide +kernel
theorem dL_set_81 : decode cL_set 81 = .ok (.iconst 4, 1) := by decide +kernel
theorem dL_set_82 : decode cL_set 82 = .ok (.iconst 1, 1) := by decide +kernel
theorem dL_set_83 : decode cL_set 83 = .ok (.iload_n 2, 1) := by decide +kernel
theorem dL_set_84 : decode cL_set 84 = .ok (.iload_n 1, 1) := by decide +kernel
theorem dL_set_85 : decode cL_set 85 = .ok (.iconst 5, 1) := by decide +kernel
theorem dL_set_86 : decode cL_set 86 = .ok (.ishr, 1) := by decide +kernel
theorem dL_set_87 : decode cL_set 87 = .ok (.iconst 4, 1) := by decide +kernel
theorem dL_set_88 : decode cL_set 88 = .ok (.invokestatic 30, 3) := by decide +kernel
theorem dL_set_91 : decode cL_set 91 = .ok (.ifCond .ne 8, 3) := by decide +kernel
theorem dL_set_94 : decode cL_set 94 = .ok (.bipush 100, 2) := by decide +kernel
theorem dL_set_96 : decode cL_set 96 = .ok (.goto 5, 3) := by decide +kernel
theorem dL_set_99 : decode cL_set 99 = .ok (.bipush 12, 2) := by decide +kernel
theorem dL_set_101 : decode cL_set 101 = .ok (.invokestatic 30, 3) := by decide +kernel
theorem dL_set_104 : decode cL_set 104 = .ok (.iadd, 1) := by decide +kernel
theorem dL_set_105 : decode cL_set 105 = .ok (.iastore, 1) := by decide +kernel
theorem dL_set_106 : decode cL_set 106 = .ok (.aload_n 0, 1) := by decide +kernel
theorem dL_set_107 : decode cL_set 107 = .ok (.aload_n 3, 1) := by decide +kernel
theorem dL_set_108 : decode cL_set 108 = .ok (.iconst 4, 1) := by decide +kernel
theorem dL_set_109 : decode cL_set 109 = .ok (.iaload, 1) := by decide +kernel
theorem dL_set_110 : decode cL_set 110 = .ok (.invokevirtual 73, 3) := by decide +kernel
theorem dL_set_113 : decode cL_set 113 = .ok (.iload 6, 2) := by decide +kernel
theorem dL_set_115 : decode cL_set 115 = .ok (.if_icmp .ne 7, 3) := by decide +kernel
theorem dL_set_118 : decode cL_set 118 = .ok (.iconst 1, 1) := by decide +kernel
theorem dL_set_119 : decode cL_set 119 = .ok (.goto 4, 3) := by decide +kernel
theorem dL_set_122 : decode cL_set 122 = .ok (.iconst 0, 1) := by decide +kernel
theorem dL_set_123 : decode cL_set 123 = .ok (.ireturn, 1) := by decide +kernel
theorem dL_set_124 : decode cL_set 124 = .ok (.iload 5, 2) := by decide +kernel
theorem dL_set_126 : decode cL_set 126 = .ok (.iconst 2, 1) := by decide +kernel
theorem dL_set_127 : decode cL_set 127 = .ok (.if_icmp .ne 92, 3) := by decide +kernel
theorem dL_set_130 : decode cL_set 130 = .ok (.iload_n 1, 1) := by decide +kernel
theorem dL_set_131 : decode cL_set 131 = .ok (.iconst 4, 1) := by decide +kernel
theorem dL_set_132 : decode cL_set 132 = .ok (.ishr, 1) := by decide +kernel
theorem dL_set_133 : decode cL_set 133 = .ok (.iconst 3, 1) := by decide +kernel
theorem dL_set_134 : decode cL_set 134 = .ok (.invokestatic 30, 3) := by decide +kernel
theorem dL_set_137 : decode cL_set 137 = .ok (.istore 6, 2) := by decide +kernel
theorem dL_set_139 : decode cL_set 139 = .ok (.aload_n 3, 1) := by decide +kernel
theorem dL_set_140 : decode cL_set 140 = .ok (.bipush 8, 2) := by decide +kernel
theorem dL_set_142 : decode cL_set 142 = .ok (.iload 6, 2) := by decide +kernel
theorem dL_set_144 : decode cL_set 144 = .ok (.iadd, 1) := by decide +kernel
theorem dL_set_145 : decode cL_set 145 = .ok (.iaload, 1) := by decide +kernel
theorem dL_set_146 : decode cL_set 146 = .ok (.istore 7, 2) := by decide +kernel
theorem dL_set_148 : decode cL_set 148 = .ok (.aload_n 3, 1) := by decide +kernel
theorem dL_set_149 : decode cL_set 149 = .ok (.bipush 8, 2) := by decide +kernel
theorem dL_set_151 : decode cL_set 151 = .ok (.iload 6, 2) := by decide +kernel
theorem dL_set_153 : decode cL_set 153 = .ok (.iadd, 1) := by decide +kernel
theorem dL_set_154 : decode cL_set 154 = .ok (.iconst 1, 1) := by decide +kernel
theorem dL_set_155 : decode cL_set 155 = .ok (.iload 6, 2) := by decide +kernel
theorem dL_set_157 : decode cL_set 157 = .ok (.aload_n 3, 1) := by decide +kernel
theorem dL_set_158 : decode cL_set 158 = .ok (.aload 4, 2) := by decide +kernel
theorem dL_set_160 : decode cL_set 160 = .ok (.invokestatic 53, 3) := by decide +kernel
theorem dL_set_163 : decode cL_set 163 = .ok (.iload_n 2, 1) := by decide +kernel
theorem dL_set_164 : decode cL_set 164 = .ok (.sipush 600, 3) := by decide +kernel
theorem dL_set_167 : decode cL_set 167 = .ok (.invokestatic 30, 3) := by decide +kernel
theorem dL_set_170 : decode cL_set 170 = .ok (.iadd, 1) := by decide +kernel
theorem dL_set_171 : decode cL_set 171 = .ok (.iastore, 1) := by decide +kernel
theorem dL_set_172 : decode cL_set 172 = .ok (.aload_n 3, 1) := by decide +kernel
theorem dL_set_173 : decode cL_set 173 = .ok (.bipush 8, 2) := by decide +kernel
theorem dL_set_175 : decode cL_set 175 = .ok (.iload 6, 2) := by decide +kernel
theorem dL_set_177 : decode cL_set 177 = .ok (.iadd, 1) := by decide +kernel
theorem dL_set_178 : decode cL_set 178 = .ok (.iaload, 1) := by decide +kernel
theorem dL_set_179 : decode cL_set 179 = .ok (.sipush 5000, 3) := by decide +kernel
theorem dL_set_182 : decode cL_set 182 = .ok (.if_icmp .le 13, 3) := by decide +kernel
theorem dL_set_185 : decode cL_set 185 = .ok (.aload_n 3, 1) := by decide +kernel
theorem dL_set_186 : decode cL_set 186 = .ok (.bipush 8, 2) := by decide +kernel
theorem dL_set_188 : decode cL_set 188 = .ok (.iload 6, 2) := by decide +kernel
theorem dL_set_190 : decode cL_set 190 = .ok (.iadd, 1) := by decide +kernel
theorem dL_set_191 : decode cL_set 191 = .ok (.sipush 5000, 3) := by decide +kernel
theorem dL_set_194 : decode cL_set 194 = .ok (.iastore, 1) := by decide +kernel
theorem dL_set_195 : decode cL_set 195 = .ok (.aload_n 0, 1) := by decide +kernel
theorem dL_set_196 : decode cL_set 196 = .ok (.iload 6, 2) := by decide +kernel
theorem dL_set_198 : decode cL_set 198 = .ok (.aload_n 3, 1) := by decide +kernel
theorem dL_set_199 : decode cL_set 199 = .ok (.bipush 8, 2) := by decide +kernel
theorem dL_set_201 : decode cL_set 201 = .ok (.iload 6, 2) := by decide +kernel
theorem dL_set_203 : decode cL_set 203 = .ok (.iadd, 1) := by decide +kernel
theorem dL_set_204 : decode cL_set 204 = .ok (.iaload, 1) := by decide +kernel
theorem dL_set_205 : decode cL_set 205 = .ok (.invokevirtual 77, 3) := by decide +kernel
theorem dL_set_208 : decode cL_set 208 = .ok (.iload 7, 2) := by decide +kernel
theorem dL_set_210 : decode cL_set 210 = .ok (.if_icmp .ne 7, 3) := by decide +kernel
theorem dL_set_213 : decode cL_set 213 = .ok (.iconst 1, 1) := by decide +kernel
theorem dL_set_214 : decode cL_set 214 = .ok (.goto 4, 3) := by decide +kernel
theorem dL_set_217 : decode cL_set 217 = .ok (.iconst 0, 1) := by decide +kernel
theorem dL_set_218 : decode cL_set 218 = .ok (.ireturn, 1) := by decide +kernel
theorem dL_set_219 : decode cL_set 219 = .ok (.iload_n 2, 1) := by decide +kernel
theorem dL_set_220 : decode cL_set 220 = .ok (.sipush 2000, 3) := by decide +kernel
theorem dL_set_223 : decode cL_set 223 = .ok (.invokestatic 30, 3) := by decide +kernel
theorem dL_set_226 : decode cL_set 226 = .ok (.aload_n 3, 1) := by decide +kernel
theorem dL_set_227 : decode cL_set 227 = .ok (.iconst 5, 1) := by decide +kernel
theorem dL_set_228 : decode cL_set 228 = .ok (.iaload, 1) := by decide +kernel
theorem dL_set_229 : decode cL_set 229 = .ok (.sipush 1000, 3) := by decide +kernel
theorem dL_set_232 : decode cL_set 232 = .ok (.if_icmp .ge 9, 3) := by decide +kernel
theorem dL_set_235 : decode cL_set 235 = .ok (.aload_n 3, 1) := by decide +kernel
theorem dL_set_236 : decode cL_set 236 = .ok (.iconst 5, 1) := by decide +kernel
theorem dL_set_237 : decode cL_set 237 = .ok (.iaload, 1) := by decide +kernel
theorem dL_set_238 : decode cL_set 238 = .ok (.goto 6, 3) := by decide +kernel
theorem dL_set_241 : decode cL_set 241 = .ok (.sipush 1000, 3) := by decide +kernel
theorem dL_set_244 : decode cL_set 244 = .ok (.isub, 1) := by decide +kernel
theorem dL_set_245 : decode cL_set 245 = .ok (.istore 6, 2) := by decide +kernel
theorem dL_set_247 : decode cL_set 247 = .ok (.aload_n 3, 1) := by decide +kernel
theorem dL_set_248 : decode cL_set 248 = .ok (.iconst 5, 1) := by decide +kernel
theorem dL_set_249 : decode cL_set 249 = .ok (.dup2, 1) := by decide +kernel
theorem dL_set_250 : decode cL_set 250 = .ok (.iaload, 1) := by decide +kernel
theorem dL_set_251 : decode cL_set 251 = .ok (.iload 6, 2) := by decide +kernel
theorem dL_set_253 : decode cL_set 253 = .ok (.iadd, 1) := by decide +kernel
theorem dL_set_254 : decode cL_set 254 = .ok (.iastore, 1) := by decide +kernel
theorem dL_set_255 : decode cL_set 255 = .ok (.aload_n 0, 1) := by decide +kernel
theorem dL_set_256 : decode cL_set 256 = .ok (.iload 6, 2) := by decide +kernel
theorem dL_set_258 : decode cL_set 258 = .ok (.invokevirtual 80, 3) := by decide +kernel
theorem dL_set_261 : decode cL_set 261 = .ok (.aload_n 3, 1) := by decide +kernel
theorem dL_set_262 : decode cL_set 262 = .ok (.iconst 5, 1) := by decide +kernel
theorem dL_set_263 : decode cL_set 263 = .ok (.iaload, 1) := by decide +kernel
theorem dL_set_264 : decode cL_set 264 = .ok (.if_icmp .ne 7, 3) := by decide +kernel
theorem dL_set_267 : decode cL_set 267 = .ok (.iconst 1, 1) := by decide +kernel
theorem dL_set_268 : decode cL_set 268 = .ok (.goto 4, 3) := by decide +kernel
theorem dL_set_271 : decode cL_set 271 = .ok (.iconst 0, 1) := by decide +kernel
theorem dL_set_272 : decode cL_set 272 = .ok (.ireturn, 1) := by decide +kernel
theorem dL_menus_0 : decode cL_menus 0 = .ok (.aload_n 3, 1) := by decide +kernel
theorem dL_menus_1 : decode cL_menus 1 = .ok (.iconst 0, 1) := by decide +kernel
theorem dL_menus_2 : decode cL_menus 2 = .ok (.iaload, 1) := by decide +kernel
theorem dL_menus_3 : decode cL_menus 3 = .ok (.ifCond .ne 5, 3) := by decide +kernel
theorem dL_menus_6 : decode cL_menus 6 = .ok (.iconst 1, 1) := by decide +kernel
theorem dL_menus_7 : decode cL_menus 7 = .ok (.ireturn, 1) := by decide +kernel
theorem dL_menus_8 : decode cL_menus 8 = .ok (.aload_n 0, 1) := by decide +kernel
theorem dL_menus_9 : decode cL_menus 9 = .ok (.invokevirtual 83, 3) := by decide +kernel
theorem dL_menus_12 : decode cL_menus 12 = .ok (.pop, 1) := by decide +kernel
theorem dL_menus_13 : decode cL_menus 13 = .ok (.aload_n 3, 1) := by decide +kernel
theorem dL_menus_14 : decode cL_menus 14 = .ok (.iconst 2, 1) := by decide +kernel
theorem dL_menus_15 : decode cL_menus 15 = .ok (.iconst 1, 1) := by decide +kernel
theorem dL_menus_16 : decode cL_menus 16 = .ok (.iload_n 1, 1) := by decide +kernel
theorem dL_menus_17 : decode cL_menus 17 = .ok (.iconst 3, 1) := by decide +kernel
theorem dL_menus_18 : decode cL_menus 18 = .ok (.invokestatic 30, 3) := by decide +kernel
theorem dL_menus_21 : decode cL_menus 21 = .ok (.iadd, 1) := by decide +kernel
theorem dL_menus_22 : decode cL_menus 22 = .ok (.iastore, 1) := by decide +kernel
theorem dL_menus_23 : decode cL_menus 23 = .ok (.iconst 0, 1) := by decide +kernel
theorem dL_menus_24 : decode cL_menus 24 = .ok (.istore 5, 2) := by decide +kernel
theorem dL_menus_26 : decode cL_menus 26 = .ok (.iload 5, 2) := by decide +kernel
theorem dL_menus_28 : decode cL_menus 28 = .ok (.aload_n 3, 1) := by decide +kernel
theorem dL_menus_29 : decode cL_menus 29 = .ok (.iconst 2, 1) := by decide +kernel
theorem dL_menus_30 : decode cL_menus 30 = .ok (.iaload, 1) := by decide +kernel
theorem dL_menus_31 : decode cL_menus 31 = .ok (.if_icmp .ge 310, 3) := by decide +kernel
theorem dL_menus_34 : decode cL_menus 34 = .ok (.aload_n 3, 1) := by decide +kernel
theorem dL_menus_35 : decode cL_menus 35 = .ok (.bipush 15, 2) := by decide +kernel
theorem dL_menus_37 : decode cL_menus 37 = .ok (.iload 5, 2) := by decide +kernel
theorem dL_menus_39 : decode cL_menus 39 = .ok (.iadd, 1) := by decide +kernel
theorem dL_menus_40 : decode cL_menus 40 = .ok (.iload_n 1, 1) := by decide +kernel
theorem dL_menus_41 : decode cL_menus 41 = .ok (.iconst 3, 1) := by decide +kernel
theorem dL_menus_42 : decode cL_menus 42 = .ok (.iconst 2, 1) := by decide +kernel
theorem dL_menus_43 : decode cL_menus 43 = .ok (.iload 5, 2) := by decide +kernel
theorem dL_menus_45 : decode cL_menus 45 = .ok (.imul, 1) := by decide +kernel
theorem dL_menus_46 : decode cL_menus 46 = .ok (.iadd, 1) := by decide +kernel
theorem dL_menus_47 : decode cL_menus 47 = .ok (.ishr, 1) := by decide +kernel
theorem dL_menus_48 : decode cL_menus 48 = .ok (.iconst 4, 1) := by decide +kernel
theorem dL_menus_49 : decode cL_menus 49 = .ok (.invokestatic 30, 3) := by decide +kernel
theorem dL_menus_52 : decode cL_menus 52 = .ok (.iastore, 1) := by decide +kernel
theorem dL_menus_53 : decode cL_menus 53 = .ok (.iload 5, 2) := by decide +kernel
theorem dL_menus_55 : decode cL_menus 55 = .ok (.ifCond .le 13, 3) := by decide +kernel
theorem dL_menus_58 : decode cL_menus 58 = .ok (.aload_n 0, 1) := by decide +kernel
theorem dL_menus_59 : decode cL_menus 59 = .ok (.bipush 59, 2) := by decide +kernel
theorem dL_menus_61 : decode cL_menus 61 = .ok (.invokevirtual 87, 3) := by decide +kernel
theorem dL_menus_64 : decode cL_menus 64 = .ok (.iconst 1, 1) := by decide +kernel
theorem dL_menus_65 : decode cL_menus 65 = .ok (.if_icmp .lt 23, 3) := by decide +kernel
theorem dL_menus_68 : decode cL_menus 68 = .ok (.aload_n 3, 1) := by decide +kernel
theorem dL_menus_69 : decode cL_menus 69 = .ok (.bipush 15, 2) := by decide +kernel
theorem dL_menus_71 : decode cL_menus 71 = .ok (.iload 5, 2) := by decide +kernel
theorem dL_menus_73 : decode cL_menus 73 = .ok (.iadd, 1) := by decide +kernel
theorem dL_menus_74 : decode cL_menus 74 = .ok (.iaload, 1) := by decide +kernel
theorem dL_menus_75 : decode cL_menus 75 = .ok (.ifCond .ne 15, 3) := by decide +kernel
theorem dL_menus_78 : decode cL_menus 78 = .ok (.aload_n 0, 1) := by decide +kernel
theorem dL_menus_79 : decode cL_menus 79 = .ok (.bipush 45, 2) := by decide +kernel
theorem dL_menus_81 : decode cL_menus 81 = .ok (.invokevirtual 87, 3) := by decide +kernel
theorem dL_menus_84 : decode cL_menus 84 = .ok (.iconst 1, 1) := by decide +kernel
theorem dL_menus_85 : decode cL_menus 85 = .ok (.if_icmp .ge 5, 3) := by decide +kernel
theorem dL_menus_88 : decode cL_menus 88 = .ok (.iconst 0, 1) := by decide +kernel
theorem dL_menus_89 : decode cL_menus 89 = .ok (.ireturn, 1) := by decide +kernel
theorem dL_menus_90 : decode cL_menus 90 = .ok (.iconst 0, 1) := by decide +kernel
theorem dL_menus_91 : decode cL_menus 91 = .ok (.istore 6, 2) := by decide +kernel
theorem dL_menus_93 : decode cL_menus 93 = .ok (.iload 6, 2) := by decide +kernel
theorem dL_menus_95 : decode cL_menus 95 = .ok (.aload_n 3, 1) := by decide +kernel
theorem dL_menus_96 : decode cL_menus 96 = .ok (.bipush 15, 2) := by decide +kernel
theorem dL_menus_98 : decode cL_menus 98 = .ok (.iload 5, 2) := by decide +kernel
theorem dL_menus_100 : decode cL_menus 100 = .ok (.iadd, 1) := by decide +kernel
theorem dL_menus_101 : decode cL_menus 101 = .ok (.iaload, 1) := by decide +kernel
theorem dL_menus_102 : decode cL_menus 102 = .ok (.if_icmp .ge 233, 3) := by decide +kernel
theorem dL_menus_105 : decode cL_menus 105 = .ok (.bipush 9, 2) := by decide +kernel
theorem dL_menus_107 : decode cL_menus 107 = .ok (.iload 5, 2) := by decide +kernel
theorem dL_menus_109 : decode cL_menus 109 = .ok (.imul, 1) := by decide +kernel
theorem dL_menus_110 : decode cL_menus 110 = .ok (.iconst 3, 1) := by decide +kernel
theorem dL_menus_111 : decode cL_menus 111 = .ok (.iload 6, 2) := by decide +kernel
theorem dL_menus_113 : decode cL_menus 113 = .ok (.imul, 1) := by decide +kernel
theorem dL_menus_114 : decode cL_menus 114 = .ok (.iadd, 1) := by decide +kernel
theorem dL_menus_115 : decode cL_menus 115 = .ok (.istore 7, 2) := by decide +kernel
theorem dL_menus_117 : decode cL_menus 117 = .ok (.aload 4, 2) := by decide +kernel
theorem dL_menus_119 : decode cL_menus 119 = .ok (.iload 7, 2) := by decide +kernel
theorem dL_menus_121 : decode cL_menus 121 = .ok (.iload_n 2, 1) := by decide +kernel
theorem dL_menus_122 : decode cL_menus 122 = .ok (.iload 5, 2) := by decide +kernel
theorem dL_menus_124 : decode cL_menus 124 = .ok (.iconst 2, 1) := by decide +kernel
theorem dL_menus_125 : decode cL_menus 125 = .ok (.iload 6, 2) := by decide +kernel
theorem dL_menus_127 : decode cL_menus 127 = .ok (.imul, 1) := by decide +kernel
theorem dL_menus_128 : decode cL_menus 128 = .ok (.iadd, 1) := by decide +kernel
theorem dL_menus_129 : decode cL_menus 129 = .ok (.ishr, 1) := by decide +kernel
theorem dL_menus_130 : decode cL_menus 130 = .ok (.aload_n 3, 1) := by decide +kernel
theorem dL_menus_131 : decode cL_menus 131 = .ok (.iconst 0, 1) := by decide +kernel
theorem dL_menus_132 : decode cL_menus 132 = .ok (.iaload, 1) := by decide +kernel
theorem dL_menus_133 : decode cL_menus 133 = .ok (.invokestatic 30, 3) := by decide +kernel
theorem dL_menus_136 : decode cL_menus 136 = .ok (.iastore, 1) := by decide +kernel
theorem dL_menus_137 : decode cL_menus 137 = .ok (.aload 4, 2) := by decide +kernel
theorem dL_menus_139 : decode cL_menus 139 = .ok (.iload 7, 2) := by decide +kernel
theorem dL_menus_141 : decode cL_menus 141 = .ok (.iconst 1, 1) := by decide +kernel
theorem dL_menus_142 : decode cL_menus 142 = .ok (.iadd, 1) := by decide +kernel
theorem dL_menus_143 : decode cL_menus 143 = .ok (.iconst 1, 1) := by decide +kernel
theorem dL_menus_144 : decode cL_menus 144 = .ok (.iload_n 2, 1) := by decide +kernel
theorem dL_menus_145 : decode cL_menus 145 = .ok (.iconst 3, 1) := by decide +kernel
theorem dL_menus_146 : decode cL_menus 146 = .ok (.iload 5, 2) := by decide +kernel
theorem dL_menus_148 : decode cL_menus 148 = .ok (.iadd, 1) := by decide +kernel
theorem dL_menus_149 : decode cL_menus 149 = .ok (.iload 6, 2) := by decide +kernel
theorem dL_menus_151 : decode cL_menus 151 = .ok (.iadd, 1) := by decide +kernel
theorem dL_menus_152 : decode cL_menus 152 = .ok (.ishr, 1) := by decide +kernel
theorem dL_menus_153 : decode cL_menus 153 = .ok (.bipush 9, 2) := by decide +kernel
theorem dL_menus_155 : decode cL_menus 155 = .ok (.invokestatic 30, 3) := by decide +kernel
theorem dL_menus_158 : decode cL_menus 158 = .ok (.iadd, 1) := by decide +kernel
theorem dL_menus_159 : decode cL_menus 159 = .ok (.iastore, 1) := by decide +kernel
theorem dL_menus_160 : decode cL_menus 160 = .ok (.aload 4, 2) := by decide +kernel
theorem dL_menus_162 : decode cL_menus 162 = .ok (.iload 7, 2) := by decide +kernel
theorem dL_menus_164 : decode cL_menus 164 = .ok (.iconst 2, 1) := by decide +kernel
theorem dL_menus_165 : decode cL_menus 165 = .ok (.iadd, 1) := by decide +kernel
theorem dL_menus_166 : decode cL_menus 166 = .ok (.iload_n 2, 1) := by decide +kernel
theorem dL_menus_167 : decode cL_menus 167 = .ok (.bipush 9, 2) := by decide +kernel
theorem dL_menus_169 : decode cL_menus 169 = .ok (.iload 6, 2) := by decide +kernel
theorem dL_menus_171 : decode cL_menus 171 = .ok (.iadd, 1) := by decide +kernel
theorem dL_menus_172 : decode cL_menus 172 = .ok (.ishr, 1) := by decide +kernel
theorem dL_menus_173 : decode cL_menus 173 = .ok (.iconst 2, 1) := by decide +kernel
theorem dL_menus_174 : decode cL_menus 174 = .ok (.invokestatic 30, 3) := by decide +kernel
theorem dL_menus_177 : decode cL_menus 177 = .ok (.ifCond .ne 7, 3) := by decide +kernel
theorem dL_menus_180 : decode cL_menus 180 = .ok (.iconst (-1), 1) := by decide +kernel
theorem dL_menus_181 : decode cL_menus 181 = .ok (.goto 19, 3) := by decide +kernel
theorem dL_menus_184 : decode cL_menus 184 = .ok (.iload_n 2, 1) := by decide +kernel
theorem dL_menus_185 : decode cL_menus 185 = .ok (.bipush 7, 2) := by decide +kernel
theorem dL_menus_187 : decode cL_menus 187 = .ok (.iload 5, 2) := by decide +kernel
theorem dL_menus_189 : decode cL_menus 189 = .ok (.iadd, 1) := by decide +kernel
theorem dL_menus_190 : decode cL_menus 190 = .ok (.iload 6, 2) := by decide +kernel
theorem dL_menus_192 : decode cL_menus 192 = .ok (.iadd, 1) := by decide +kernel
theorem dL_menus_193 : decode cL_menus 193 = .ok (.ishr, 1) := by decide +kernel
theorem dL_menus_194 : decode cL_menus 194 = .ok (.aload_n 3, 1) := by decide +kernel
theorem dL_menus_195 : decode cL_menus 195 = .ok (.iconst 0, 1) := by decide +kernel
theorem dL_menus_196 : decode cL_menus 196 = .ok (.iaload, 1) := by decide +kernel
theorem dL_menus_197 : decode cL_menus 197 = .ok (.invokestatic 30, 3) := by decide +kernel
theorem dL_menus_200 : decode cL_menus 200 = .ok (.iastore, 1) := by decide +kernel
theorem dL_menus_201 : decode cL_menus 201 = .ok (.aload 4, 2) := by decide +kernel
theorem dL_menus_203 : decode cL_menus 203 = .ok (.iload 7, 2) := by decide +kernel
theorem dL_menus_205 : decode cL_menus 205 = .ok (.iconst 2, 1) := by decide +kernel
theorem dL_menus_206 : decode cL_menus 206 = .ok (.iadd, 1) := by decide +kernel
theorem dL_menus_207 : decode cL_menus 207 = .ok (.iaload, 1) := by decide +kernel
theorem dL_menus_208 : decode cL_menus 208 = .ok (.aload 4, 2) := by decide +kernel
theorem dL_menus_210 : decode cL_menus 210 = .ok (.iload 7, 2) := by decide +kernel
theorem dL_menus_212 : decode cL_menus 212 = .ok (.iaload, 1) := by decide +kernel
theorem dL_menus_213 : decode cL_menus 213 = .ok (.if_icmp .ne 11, 3) := by decide +kernel
theorem dL_menus_216 : decode cL_menus 216 = .ok (.aload 4, 2) := by decide +kernel
theorem dL_menus_218 : decode cL_menus 218 = .ok (.iload 7, 2) := by decide +kernel
theorem dL_menus_220 : decode cL_menus 220 = .ok (.iconst 2, 1) := by decide +kernel
theorem dL_menus_221 : decode cL_menus 221 = .ok (.iadd, 1) := by decide +kernel
theorem dL_menus_222 : decode cL_menus 222 = .ok (.iconst (-1), 1) := by decide +kernel
theorem dL_menus_223 : decode cL_menus 223 = .ok (.iastore, 1) := by decide +kernel
theorem dL_menus_224 : decode cL_menus 224 = .ok (.iload 6, 2) := by decide +kernel
theorem dL_menus_226 : decode cL_menus 226 = .ok (.ifCond .eq 12, 3) := by decide +kernel
theorem dL_menus_229 : decode cL_menus 229 = .ok (.aload_n 0, 1) := by decide +kernel
theorem dL_menus_230 : decode cL_menus 230 = .ok (.bipush 44, 2) := by decide +kernel
theorem dL_menus_232 : decode cL_menus 232 = .ok (.invokevirtual 87, 3) := by decide +kernel
theorem dL_menus_235 : decode cL_menus 235 = .ok (.ifCond .le 84, 3) := by decide +kernel
theorem dL_menus_238 : decode cL_menus 238 = .ok (.aload_n 0, 1) := by decide +kernel
theorem dL_menus_239 : decode cL_menus 239 = .ok (.bipush 48, 2) := by decide +kernel
theorem dL_menus_241 : decode cL_menus 241 = .ok (.aload 4, 2) := by decide +kernel
theorem dL_menus_243 : decode cL_menus 243 = .ok (.iload 7, 2) := by decide +kernel
theorem dL_menus_245 : decode cL_menus 245 = .ok (.iaload, 1) := by decide +kernel
theorem dL_menus_246 : decode cL_menus 246 = .ok (.iadd, 1) := by decide +kernel
theorem dL_menus_247 : decode cL_menus 247 = .ok (.invokevirtual 87, 3) := by decide +kernel
theorem dL_menus_250 : decode cL_menus 250 = .ok (.ifCond .le 69, 3) := by decide +kernel
theorem dL_menus_253 : decode cL_menus 253 = .ok (.aload_n 0, 1) := by decide +kernel
theorem dL_menus_254 : decode cL_menus 254 = .ok (.bipush 42, 2) := by decide +kernel
theorem dL_menus_256 : decode cL_menus 256 = .ok (.invokevirtual 87, 3) := by decide +kernel
theorem dL_menus_259 : decode cL_menus 259 = .ok (.ifCond .le 60, 3) := by decide +kernel
theorem dL_menus_262 : decode cL_menus 262 = .ok (.aload_n 0, 1) := by decide +kernel
theorem dL_menus_263 : decode cL_menus 263 = .ok (.bipush 48, 2) := by decide +kernel
theorem dL_menus_265 : decode cL_menus 265 = .ok (.aload 4, 2) := by decide +kernel
theorem dL_menus_267 : decode cL_menus 267 = .ok (.iload 7, 2) := by decide +kernel
theorem dL_menus_269 : decode cL_menus 269 = .ok (.iconst 1, 1) := by decide +kernel
theorem dL_menus_270 : decode cL_menus 270 = .ok (.iadd, 1) := by decide +kernel
theorem dL_menus_271 : decode cL_menus 271 = .ok (.iaload, 1) := by decide +kernel
theorem dL_menus_272 : decode cL_menus 272 = .ok (.iadd, 1) := by decide +kernel
theorem dL_menus_273 : decode cL_menus 273 = .ok (.invokevirtual 87, 3) := by decide +kernel
theorem dL_menus_276 : decode cL_menus 276 = .ok (.ifCond .le 43, 3) := by decide +kernel
theorem dL_menus_279 : decode cL_menus 279 = .ok (.aload 4, 2) := by decide +kernel
theorem dL_menus_281 : decode cL_menus 281 = .ok (.iload 7, 2) := by decide +kernel
theorem dL_menus_283 : decode cL_menus 283 = .ok (.iconst 2, 1) := by decide +kernel
theorem dL_menus_284 : decode cL_menus 284 = .ok (.iadd, 1) := by decide +kernel
theorem dL_menus_285 : decode cL_menus 285 = .ok (.iaload, 1) := by decide +kernel
theorem dL_menus_286 : decode cL_menus 286 = .ok (.ifCond .lt 29, 3) := by decide +kernel
theorem dL_menus_289 : decode cL_menus 289 = .ok (.aload_n 0, 1) := by decide +kernel
theorem dL_menus_290 : decode cL_menus 290 = .ok (.bipush 47, 2) := by decide +kernel
theorem dL_menus_292 : decode cL_menus 292 = .ok (.invokevirtual 87, 3) := by decide +kernel
theorem dL_menus_295 : decode cL_menus 295 = .ok (.ifCond .le 24, 3) := by decide +kernel
theorem dL_menus_298 : decode cL_menus 298 = .ok (.aload_n 0, 1) := by decide +kernel
theorem dL_menus_299 : decode cL_menus 299 = .ok (.bipush 48, 2) := by decide +kernel
theorem dL_menus_301 : decode cL_menus 301 = .ok (.aload 4, 2) := by decide +kernel
theorem dL_menus_303 : decode cL_menus 303 = .ok (.iload 7, 2) := by decide +kernel
theorem dL_menus_305 : decode cL_menus 305 = .ok (.iconst 2, 1) := by decide +kernel
theorem dL_menus_306 : decode cL_menus 306 = .ok (.iadd, 1) := by decide +kernel
theorem dL_menus_307 : decode cL_menus 307 = .ok (.iaload, 1) := by decide +kernel
theorem dL_menus_308 : decode cL_menus 308 = .ok (.iadd, 1) := by decide +kernel
theorem dL_menus_309 : decode cL_menus 309 = .ok (.invokevirtual 87, 3) := by decide +kernel
theorem dL_menus_312 : decode cL_menus 312 = .ok (.ifCond .le 7, 3) := by decide +kernel
theorem dL_menus_315 : decode cL_menus 315 = .ok (.iconst 1, 1) := by decide +kernel
theorem dL_menus_316 : decode cL_menus 316 = .ok (.goto 4, 3) := by decide +kernel
theorem dL_menus_319 : decode cL_menus 319 = .ok (.iconst 0, 1) := by decide +kernel
theorem dL_menus_320 : decode cL_menus 320 = .ok (.istore 8, 2) := by decide +kernel
theorem dL_menus_322 : decode cL_menus 322 = .ok (.iload 8, 2) := by decide +kernel
theorem dL_menus_324 : decode cL_menus 324 = .ok (.ifCond .ne 5, 3) := by decide +kernel
theorem dL_menus_327 : decode cL_menus 327 = .ok (.iconst 0, 1) := by decide +kernel
theorem dL_menus_328 : decode cL_menus 328 = .ok (.ireturn, 1) := by decide +kernel
theorem dL_menus_329 : decode cL_menus 329 = .ok (.iinc 6 1, 3) := by decide +kernel
theorem dL_menus_332 : decode cL_menus 332 = .ok (.goto (-239), 3) := by decide +kernel
theorem dL_menus_335 : decode cL_menus 335 = .ok (.iinc 5 1, 3) := by decide +kernel
theorem dL_menus_338 : decode cL_menus 338 = .ok (.goto (-312), 3) := by decide +kernel
theorem dL_menus_341 : decode cL_menus 341 = .ok (.aload_n 0, 1) := by decide +kernel
theorem dL_menus_342 : decode cL_menus 342 = .ok (.invokevirtual 90, 3) := by decide +kernel
theorem dL_menus_345 : decode cL_menus 345 = .ok (.aload_n 3, 1) := by decide +kernel
theorem dL_menus_346 : decode cL_menus 346 = .ok (.iconst 2, 1) := by decide +kernel
theorem dL_menus_347 : decode cL_menus 347 = .ok (.iaload, 1) := by decide +kernel
theorem dL_menus_348 : decode cL_menus 348 = .ok (.if_icmp .ne 7, 3) := by decide +kernel
theorem dL_menus_351 : decode cL_menus 351 = .ok (.iconst 1, 1) := by decide +kernel
theorem dL_menus_352 : decode cL_menus 352 = .ok (.goto 4, 3) := by decide +kernel
theorem dL_menus_355 : decode cL_menus 355 = .ok (.iconst 0, 1) := by decide +kernel
theorem dL_menus_356 : decode cL_menus 356 = .ok (.ireturn, 1) := by decide +kernel
theorem dL_pass_0 : decode cL_pass 0 = .ok (.iconst 1, 1) := by decide +kernel
theorem dL_pass_1 : decode cL_pass 1 = .ok (.iload_n 1, 1) := by decide +kernel
theorem dL_pass_2 : decode cL_pass 2 = .ok (.iload_n 1, 1) := by decide +kernel
theorem dL_pass_3 : decode cL_pass 3 = .ok (.bipush 8, 2) := by decide +kernel
theorem dL_pass_5 : decode cL_pass 5 = .ok (.ishr, 1) := by decide +kernel
theorem dL_pass_6 : decode cL_pass 6 = .ok (.iconst 4, 1) := by decide +kernel
theorem dL_pass_7 : decode cL_pass 7 = .ok (.invokestatic 30, 3) := by decide +kernel
theorem dL_pass_10 : decode cL_pass 10 = .ok (.ifCond .ne 8, 3) := by decide +kernel
theorem dL_pass_13 : decode cL_pass 13 = .ok (.bipush 20, 2) := by decide +kernel
theorem dL_pass_15 : decode cL_pass 15 = .ok (.goto 4, 3) := by decide +kernel
theorem dL_pass_18 : decode cL_pass 18 = .ok (.iconst 4, 1) := by decide +kernel
theorem dL_pass_19 : decode cL_pass 19 = .ok (.invokestatic 30, 3) := by decide +kernel
theorem dL_pass_22 : decode cL_pass 22 = .ok (.iadd, 1) := by decide +kernel
theorem dL_pass_23 : decode cL_pass 23 = .ok (.istore 6, 2) := by decide +kernel
theorem dL_pass_25 : decode cL_pass 25 = .ok (.iconst 5, 1) := by decide +kernel
theorem dL_pass_26 : decode cL_pass 26 = .ok (.aload_n 2, 1) := by decide +kernel
theorem dL_pass_27 : decode cL_pass 27 = .ok (.aload_n 3, 1) := by decide +kernel
theorem dL_pass_28 : decode cL_pass 28 = .ok (.invokestatic 93, 3) := by decide +kernel
theorem dL_pass_31 : decode cL_pass 31 = .ok (.istore 7, 2) := by decide +kernel
theorem dL_pass_33 : decode cL_pass 33 = .ok (.iconst 0, 1) := by decide +kernel
theorem dL_pass_34 : decode cL_pass 34 = .ok (.istore 8, 2) := by decide +kernel
theorem dL_pass_36 : decode cL_pass 36 = .ok (.iload 8, 2) := by decide +kernel
theorem dL_pass_38 : decode cL_pass 38 = .ok (.iload 6, 2) := by decide +kernel
theorem dL_pass_40 : decode cL_pass 40 = .ok (.if_icmp .ge 18, 3) := by decide +kernel
theorem dL_pass_43 : decode cL_pass 43 = .ok (.aload_n 2, 1) := by decide +kernel
theorem dL_pass_44 : decode cL_pass 44 = .ok (.aload_n 3, 1) := by decide +kernel
theorem dL_pass_45 : decode cL_pass 45 = .ok (.aload 4, 2) := by decide +kernel
theorem dL_pass_47 : decode cL_pass 47 = .ok (.aload 5, 2) := by decide +kernel
theorem dL_pass_49 : decode cL_pass 49 = .ok (.invokestatic 96, 3) := by decide +kernel
theorem dL_pass_52 : decode cL_pass 52 = .ok (.iinc 8 1, 3) := by decide +kernel
theorem dL_pass_55 : decode cL_pass 55 = .ok (.goto (-19), 3) := by decide +kernel
theorem dL_pass_58 : decode cL_pass 58 = .ok (.aload_n 0, 1) := by decide +kernel
theorem dL_pass_59 : decode cL_pass 59 = .ok (.iload 6, 2) := by decide +kernel
theorem dL_pass_61 : decode cL_pass 61 = .ok (.invokevirtual 100, 3) := by decide +kernel
theorem dL_pass_64 : decode cL_pass 64 = .ok (.iconst 5, 1) := by decide +kernel
theorem dL_pass_65 : decode cL_pass 65 = .ok (.aload_n 2, 1) := by decide +kernel
theorem dL_pass_66 : decode cL_pass 66 = .ok (.aload_n 3, 1) := by decide +kernel
theorem dL_pass_67 : decode cL_pass 67 = .ok (.invokestatic 93, 3) := by decide +kernel
theorem dL_pass_70 : decode cL_pass 70 = .ok (.iload 7, 2) := by decide +kernel
theorem dL_pass_72 : decode cL_pass 72 = .ok (.isub, 1) := by decide +kernel
theorem dL_pass_73 : decode cL_pass 73 = .ok (.if_icmp .ne 7, 3) := by decide +kernel
theorem dL_pass_76 : decode cL_pass 76 = .ok (.iconst 1, 1) := by decide +kernel
theorem dL_pass_77 : decode cL_pass 77 = .ok (.goto 4, 3) := by decide +kernel
theorem dL_pass_80 : decode cL_pass 80 = .ok (.iconst 0, 1) := by decide +kernel
theorem dL_pass_81 : decode cL_pass 81 = .ok (.ireturn, 1) := by decide +kernel
theorem dL_discard_0 : decode cL_discard 0 = .ok (.aload_n 3, 1) := by decide +kernel
theorem dL_discard_1 : decode cL_discard 1 = .ok (.iconst 1, 1) := by decide +kernel
theorem dL_discard_2 : decode cL_discard 2 = .ok (.iaload, 1) := by decide +kernel
theorem dL_discard_3 : decode cL_discard 3 = .ok (.ifCond .ne 5, 3) := by decide +kernel
theorem dL_discard_6 : decode cL_discard 6 = .ok (.iconst 1, 1) := by decide +kernel
theorem dL_discard_7 : decode cL_discard 7 = .ok (.ireturn, 1) := by decide +kernel
theorem dL_discard_8 : decode cL_discard 8 = .ok (.iload_n 1, 1) := by decide +kernel
theorem dL_discard_9 : decode cL_discard 9 = .ok (.aload_n 3, 1) := by decide +kernel
theorem dL_discard_10 : decode cL_discard 10 = .ok (.iconst 1, 1) := by decide +kernel
theorem dL_discard_11 : decode cL_discard 11 = .ok (.iaload, 1) := by decide +kernel
theorem dL_discard_12 : decode cL_discard 12 = .ok (.invokestatic 30, 3) := by decide +kernel
theorem dL_discard_15 : decode cL_discard 15 = .ok (.istore 6, 2) := by decide +kernel
theorem dL_discard_17 : decode cL_discard 17 = .ok (.iconst 1, 1) := by decide +kernel
theorem dL_discard_18 : decode cL_discard 18 = .ok (.iload_n 2, 1) := by decide +kernel
theorem dL_discard_19 : decode cL_discard 19 = .ok (.iload_n 1, 1) := by decide +kernel
theorem dL_discard_20 : decode cL_discard 20 = .ok (.bipush 6, 2) := by decide +kernel
theorem dL_discard_22 : decode cL_discard 22 = .ok (.ishr, 1) := by decide +kernel
theorem dL_discard_23 : decode cL_discard 23 = .ok (.iconst 3, 1) := by decide +kernel
theorem dL_discard_24 : decode cL_discard 24 = .ok (.invokestatic 30, 3) := by decide +kernel
theorem dL_discard_27 : decode cL_discard 27 = .ok (.ifCond .ne 15, 3) := by decide +kernel
theorem dL_discard_30 : decode cL_discard 30 = .ok (.aload 5, 2) := by decide +kernel
theorem dL_discard_32 : decode cL_discard 32 = .ok (.iconst 4, 1) := by decide +kernel
theorem dL_discard_33 : decode cL_discard 33 = .ok (.iload 6, 2) := by decide +kernel
theorem dL_discard_35 : decode cL_discard 35 = .ok (.imul, 1) := by decide +kernel
theorem dL_discard_36 : decode cL_discard 36 = .ok (.iconst 2, 1) := by decide +kernel
theorem dL_discard_37 : decode cL_discard 37 = .ok (.iadd, 1) := by decide +kernel
theorem dL_discard_38 : decode cL_discard 38 = .ok (.iaload, 1) := by decide +kernel
theorem dL_discard_39 : decode cL_discard 39 = .ok (.goto 16, 3) := by decide +kernel
theorem dL_discard_42 : decode cL_discard 42 = .ok (.iconst 1, 1) := by decide +kernel
theorem dL_discard_43 : decode cL_discard 43 = .ok (.aload 5, 2) := by decide +kernel
theorem dL_discard_45 : decode cL_discard 45 = .ok (.iconst 4, 1) := by decide +kernel
theorem dL_discard_46 : decode cL_discard 46 = .ok (.iload 6, 2) := by decide +kernel
theorem dL_discard_48 : decode cL_discard 48 = .ok (.imul, 1) := by decide +kernel
theorem dL_discard_49 : decode cL_discard 49 = .ok (.iconst 2, 1) := by decide +kernel
theorem dL_discard_50 : decode cL_discard 50 = .ok (.iadd, 1) := by decide +kernel
theorem dL_discard_51 : decode cL_discard 51 = .ok (.iaload, 1) := by decide +kernel
theorem dL_discard_52 : decode cL_discard 52 = .ok (.iconst 2, 1) := by decide +kernel
theorem dL_discard_53 : decode cL_discard 53 = .ok (.idiv, 1) := by decide +kernel
theorem dL_discard_54 : decode cL_discard 54 = .ok (.iadd, 1) := by decide +kernel
theorem dL_discard_55 : decode cL_discard 55 = .ok (.invokestatic 30, 3) := by decide +kernel
theorem dL_discard_58 : decode cL_discard 58 = .ok (.iadd, 1) := by decide +kernel
theorem dL_discard_59 : decode cL_discard 59 = .ok (.istore 7, 2) := by decide +kernel
theorem dL_discard_61 : decode cL_discard 61 = .ok (.iload 7, 2) := by decide +kernel
theorem dL_discard_63 : decode cL_discard 63 = .ok (.aload 5, 2) := by decide +kernel
theorem dL_discard_65 : decode cL_discard 65 = .ok (.iconst 4, 1) := by decide +kernel
theorem dL_discard_66 : decode cL_discard 66 = .ok (.iload 6, 2) := by decide +kernel
theorem dL_discard_68 : decode cL_discard 68 = .ok (.imul, 1) := by decide +kernel
theorem dL_discard_69 : decode cL_discard 69 = .ok (.iconst 2, 1) := by decide +kernel
theorem dL_discard_70 : decode cL_discard 70 = .ok (.iadd, 1) := by decide +kernel
theorem dL_discard_71 : decode cL_discard 71 = .ok (.iaload, 1) := by decide +kernel
theorem dL_discard_72 : decode cL_discard 72 = .ok (.if_icmp .le 14, 3) := by decide +kernel
theorem dL_discard_75 : decode cL_discard 75 = .ok (.aload 5, 2) := by decide +kernel
theorem dL_discard_77 : decode cL_discard 77 = .ok (.iconst 4, 1) := by decide +kernel
theorem dL_discard_78 : decode cL_discard 78 = .ok (.iload 6, 2) := by decide +kernel
theorem dL_discard_80 : decode cL_discard 80 = .ok (.imul, 1) := by decide +kernel
theorem dL_discard_81 : decode cL_discard 81 = .ok (.iconst 2, 1) := by decide +kernel
theorem dL_discard_82 : decode cL_discard 82 = .ok (.iadd, 1) := by decide +kernel
theorem dL_discard_83 : decode cL_discard 83 = .ok (.iaload, 1) := by decide +kernel
theorem dL_discard_84 : decode cL_discard 84 = .ok (.istore 7, 2) := by decide +kernel
theorem dL_discard_86 : decode cL_discard 86 = .ok (.aload 5, 2) := by decide +kernel
theorem dL_discard_88 : decode cL_discard 88 = .ok (.iconst 4, 1) := by decide +kernel
theorem dL_discard_89 : decode cL_discard 89 = .ok (.iload 6, 2) := by decide +kernel
theorem dL_discard_91 : decode cL_discard 91 = .ok (.imul, 1) := by decide +kernel
theorem dL_discard_92 : decode cL_discard 92 = .ok (.iconst 2, 1) := by decide +kernel
theorem dL_discard_93 : decode cL_discard 93 = .ok (.iadd, 1) := by decide +kernel
theorem dL_discard_94 : decode cL_discard 94 = .ok (.dup2, 1) := by decide +kernel
theorem dL_discard_95 : decode cL_discard 95 = .ok (.iaload, 1) := by decide +kernel
theorem dL_discard_96 : decode cL_discard 96 = .ok (.iload 7, 2) := by decide +kernel
theorem dL_discard_98 : decode cL_discard 98 = .ok (.isub, 1) := by decide +kernel
theorem dL_discard_99 : decode cL_discard 99 = .ok (.iastore, 1) := by decide +kernel
theorem dL_discard_100 : decode cL_discard 100 = .ok (.aload 4, 2) := by decide +kernel
theorem dL_discard_102 : decode cL_discard 102 = .ok (.bipush 8, 2) := by decide +kernel
theorem dL_discard_104 : decode cL_discard 104 = .ok (.aload 5, 2) := by decide +kernel
theorem dL_discard_106 : decode cL_discard 106 = .ok (.iconst 4, 1) := by decide +kernel
theorem dL_discard_107 : decode cL_discard 107 = .ok (.iload 6, 2) := by decide +kernel
theorem dL_discard_109 : decode cL_discard 109 = .ok (.imul, 1) := by decide +kernel
theorem dL_discard_110 : decode cL_discard 110 = .ok (.iaload, 1) := by decide +kernel
theorem dL_discard_111 : decode cL_discard 111 = .ok (.imul, 1) := by decide +kernel
theorem dL_discard_112 : decode cL_discard 112 = .ok (.bipush 6, 2) := by decide +kernel
theorem dL_discard_114 : decode cL_discard 114 = .ok (.iadd, 1) := by decide +kernel
theorem dL_discard_115 : decode cL_discard 115 = .ok (.dup2, 1) := by decide +kernel
theorem dL_discard_116 : decode cL_discard 116 = .ok (.iaload, 1) := by decide +kernel
theorem dL_discard_117 : decode cL_discard 117 = .ok (.iload 7, 2) := by decide +kernel
theorem dL_discard_119 : decode cL_discard 119 = .ok (.iadd, 1) := by decide +kernel
theorem dL_discard_120 : decode cL_discard 120 = .ok (.iastore, 1) := by decide +kernel
theorem dL_discard_121 : decode cL_discard 121 = .ok (.aload_n 3, 1) := by decide +kernel
theorem dL_discard_122 : decode cL_discard 122 = .ok (.aload 5, 2) := by decide +kernel
theorem dL_discard_124 : decode cL_discard 124 = .ok (.invokestatic 26, 3) := by decide +kernel
theorem dL_discard_127 : decode cL_discard 127 = .ok (.aload_n 0, 1) := by decide +kernel
theorem dL_discard_128 : decode cL_discard 128 = .ok (.iload 6, 2) := by decide +kernel
theorem dL_discard_130 : decode cL_discard 130 = .ok (.iload 7, 2) := by decide +kernel
theorem dL_discard_132 : decode cL_discard 132 = .ok (.invokevirtual 103, 3) := by decide +kernel
theorem dL_discard_135 : decode cL_discard 135 = .ok (.iconst (-1), 1) := by decide +kernel
theorem dL_discard_136 : decode cL_discard 136 = .ok (.iconst 0, 1) := by decide +kernel
theorem dL_discard_137 : decode cL_discard 137 = .ok (.aload_n 3, 1) := by decide +kernel
theorem dL_discard_138 : decode cL_discard 138 = .ok (.aload 5, 2) := by decide +kernel
theorem dL_discard_140 : decode cL_discard 140 = .ok (.invokestatic 53, 3) := by decide +kernel
theorem dL_discard_143 : decode cL_discard 143 = .ok (.if_icmp .ne 7, 3) := by decide +kernel
theorem dL_discard_146 : decode cL_discard 146 = .ok (.iconst 1, 1) := by decide +kernel
theorem dL_discard_147 : decode cL_discard 147 = .ok (.goto 4, 3) := by decide +kernel
theorem dL_discard_150 : decode cL_discard 150 = .ok (.iconst 0, 1) := by decide +kernel
theorem dL_discard_151 : decode cL_discard 151 = .ok (.ireturn, 1) := by decide +kernel
theorem dL_told_0 : decode cL_told 0 = .ok (.bipush 13, 2) := by decide +kernel
theorem dL_told_2 : decode cL_told 2 = .ok (.newarray .int, 2) := by decide +kernel
theorem dL_told_4 : decode cL_told 4 = .ok (.astore 5, 2) := by decide +kernel
theorem dL_told_6 : decode cL_told 6 = .ok (.lconst 0, 1) := by decide +kernel
theorem dL_told_7 : decode cL_told 7 = .ok (.lstore 6, 2) := by decide +kernel
theorem dL_told_9 : decode cL_told 9 = .ok (.iconst 0, 1) := by decide +kernel
theorem dL_told_10 : decode cL_told 10 = .ok (.istore 8, 2) := by decide +kernel
theorem dL_told_12 : decode cL_told 12 = .ok (.iload 8, 2) := by decide +kernel
theorem dL_told_14 : decode cL_told 14 = .ok (.aload_n 1, 1) := by decide +kernel
theorem dL_told_15 : decode cL_told 15 = .ok (.iconst 1, 1) := by decide +kernel
theorem dL_told_16 : decode cL_told 16 = .ok (.iaload, 1) := by decide +kernel
theorem dL_told_17 : decode cL_told 17 = .ok (.if_icmp .ge 46, 3) := by decide +kernel
theorem dL_told_20 : decode cL_told 20 = .ok (.aload 5, 2) := by decide +kernel
theorem dL_told_22 : decode cL_told 22 = .ok (.iload 8, 2) := by decide +kernel
theorem dL_told_24 : decode cL_told 24 = .ok (.iload 8, 2) := by decide +kernel
theorem dL_told_26 : decode cL_told 26 = .ok (.aload_n 1, 1) := by decide +kernel
theorem dL_told_27 : decode cL_told 27 = .ok (.aload_n 2, 1) := by decide +kernel
theorem dL_told_28 : decode cL_told 28 = .ok (.aload_n 3, 1) := by decide +kernel
theorem dL_told_29 : decode cL_told 29 = .ok (.invokestatic 18, 3) := by decide +kernel
theorem dL_told_32 : decode cL_told 32 = .ok (.iastore, 1) := by decide +kernel
theorem dL_told_33 : decode cL_told 33 = .ok (.lload 6, 2) := by decide +kernel
theorem dL_told_35 : decode cL_told 35 = .ok (.aload_n 3, 1) := by decide +kernel
theorem dL_told_36 : decode cL_told 36 = .ok (.iconst 4, 1) := by decide +kernel
theorem dL_told_37 : decode cL_told 37 = .ok (.iload 8, 2) := by decide +kernel
theorem dL_told_39 : decode cL_told 39 = .ok (.imul, 1) := by decide +kernel
theorem dL_told_40 : decode cL_told 40 = .ok (.iconst 2, 1) := by decide +kernel
theorem dL_told_41 : decode cL_told 41 = .ok (.iadd, 1) := by decide +kernel
theorem dL_told_42 : decode cL_told 42 = .ok (.iaload, 1) := by decide +kernel
theorem dL_told_43 : decode cL_told 43 = .ok (.i2l, 1) := by decide +kernel
theorem dL_told_44 : decode cL_told 44 = .ok (.aload_n 3, 1) := by decide +kernel
theorem dL_told_45 : decode cL_told 45 = .ok (.iconst 4, 1) := by decide +kernel
theorem dL_told_46 : decode cL_told 46 = .ok (.iload 8, 2) := by decide +kernel
theorem dL_told_48 : decode cL_told 48 = .ok (.imul, 1) := by decide +kernel
theorem dL_told_49 : decode cL_told 49 = .ok (.iconst 3, 1) := by decide +kernel
theorem dL_told_50 : decode cL_told 50 = .ok (.iadd, 1) := by decide +kernel
theorem dL_told_51 : decode cL_told 51 = .ok (.iaload, 1) := by decide +kernel
theorem dL_told_52 : decode cL_told 52 = .ok (.i2l, 1) := by decide +kernel
theorem dL_told_53 : decode cL_told 53 = .ok (.lmul, 1) := by decide +kernel
theorem dL_told_54 : decode cL_told 54 = .ok (.ladd, 1) := by decide +kernel
theorem dL_told_55 : decode cL_told 55 = .ok (.lstore 6, 2) := by decide +kernel
theorem dL_told_57 : decode cL_told 57 = .ok (.iinc 8 1, 3) := by decide +kernel
theorem dL_told_60 : decode cL_told 60 = .ok (.goto (-48), 3) := by decide +kernel
theorem dL_told_63 : decode cL_told 63 = .ok (.iconst 0, 1) := by decide +kernel
theorem dL_told_64 : decode cL_told 64 = .ok (.istore 8, 2) := by decide +kernel
theorem dL_told_66 : decode cL_told 66 = .ok (.iload 8, 2) := by decide +kernel
theorem dL_told_68 : decode cL_told 68 = .ok (.aload_n 1, 1) := by decide +kernel
theorem dL_told_69 : decode cL_told 69 = .ok (.iconst 1, 1) := by decide +kernel
theorem dL_told_70 : decode cL_told 70 = .ok (.iaload, 1) := by decide +kernel
theorem dL_told_71 : decode cL_told 71 = .ok (.if_icmp .ge 125, 3) := by decide +kernel
theorem dL_told_74 : decode cL_told 74 = .ok (.iconst 0, 1) := by decide +kernel
theorem dL_told_75 : decode cL_told 75 = .ok (.istore 9, 2) := by decide +kernel
theorem dL_told_77 : decode cL_told 77 = .ok (.iconst 0, 1) := by decide +kernel
theorem dL_told_78 : decode cL_told 78 = .ok (.istore 10, 2) := by decide +kernel
theorem dL_told_80 : decode cL_told 80 = .ok (.iload 10, 2) := by decide +kernel
theorem dL_told_82 : decode cL_told 82 = .ok (.aload_n 1, 1) := by decide +kernel
theorem dL_told_83 : decode cL_told 83 = .ok (.iconst 1, 1) := by decide +kernel
theorem dL_told_84 : decode cL_told 84 = .ok (.iaload, 1) := by decide +kernel
theorem dL_told_85 : decode cL_told 85 = .ok (.if_icmp .ge 39, 3) := by decide +kernel
theorem dL_told_88 : decode cL_told 88 = .ok (.aload_n 3, 1) := by decide +kernel
theorem dL_told_89 : decode cL_told 89 = .ok (.iconst 4, 1) := by decide +kernel
theorem dL_told_90 : decode cL_told 90 = .ok (.iload 10, 2) := by decide +kernel
theorem dL_told_92 : decode cL_told 92 = .ok (.imul, 1) := by decide +kernel
theorem dL_told_93 : decode cL_told 93 = .ok (.iaload, 1) := by decide +kernel
theorem dL_told_94 : decode cL_told 94 = .ok (.aload_n 3, 1) := by decide +kernel
theorem dL_told_95 : decode cL_told 95 = .ok (.iconst 4, 1) := by decide +kernel
theorem dL_told_96 : decode cL_told 96 = .ok (.iload 8, 2) := by decide +kernel
theorem dL_told_98 : decode cL_told 98 = .ok (.imul, 1) := by decide +kernel
theorem dL_told_99 : decode cL_told 99 = .ok (.iaload, 1) := by decide +kernel
theorem dL_told_100 : decode cL_told 100 = .ok (.if_icmp .ne 18, 3) := by decide +kernel
theorem dL_told_103 : decode cL_told 103 = .ok (.iload 10, 2) := by decide +kernel
theorem dL_told_105 : decode cL_told 105 = .ok (.iload 8, 2) := by decide +kernel
theorem dL_told_107 : decode cL_told 107 = .ok (.aload 5, 2) := by decide +kernel
theorem dL_told_109 : decode cL_told 109 = .ok (.invokestatic 14, 3) := by decide +kernel
theorem dL_told_112 : decode cL_told 112 = .ok (.ifCond .eq 6, 3) := by decide +kernel
theorem dL_told_115 : decode cL_told 115 = .ok (.iinc 9 1, 3) := by decide +kernel
theorem dL_told_118 : decode cL_told 118 = .ok (.iinc 10 1, 3) := by decide +kernel
theorem dL_told_121 : decode cL_told 121 = .ok (.goto (-41), 3) := by decide +kernel
theorem dL_told_124 : decode cL_told 124 = .ok (.iconst 0, 1) := by decide +kernel
theorem dL_told_125 : decode cL_told 125 = .ok (.istore 10, 2) := by decide +kernel
theorem dL_told_127 : decode cL_told 127 = .ok (.iload 10, 2) := by decide +kernel
theorem dL_told_129 : decode cL_told 129 = .ok (.iconst 4, 1) := by decide +kernel
theorem dL_told_130 : decode cL_told 130 = .ok (.if_icmp .ge 31, 3) := by decide +kernel
theorem dL_told_133 : decode cL_told 133 = .ok (.aload_n 0, 1) := by decide +kernel
theorem dL_told_134 : decode cL_told 134 = .ok (.iload 8, 2) := by decide +kernel
theorem dL_told_136 : decode cL_told 136 = .ok (.iload 10, 2) := by decide +kernel
theorem dL_told_138 : decode cL_told 138 = .ok (.invokevirtual 106, 3) := by decide +kernel
theorem dL_told_141 : decode cL_told 141 = .ok (.aload_n 3, 1) := by decide +kernel
theorem dL_told_142 : decode cL_told 142 = .ok (.iconst 4, 1) := by decide +kernel
theorem dL_told_143 : decode cL_told 143 = .ok (.iload 8, 2) := by decide +kernel
theorem dL_told_145 : decode cL_told 145 = .ok (.imul, 1) := by decide +kernel
theorem dL_told_146 : decode cL_told 146 = .ok (.iload 10, 2) := by decide +kernel
theorem dL_told_148 : decode cL_told 148 = .ok (.iadd, 1) := by decide +kernel
theorem dL_told_149 : decode cL_told 149 = .ok (.iaload, 1) := by decide +kernel
theorem dL_told_150 : decode cL_told 150 = .ok (.if_icmp .eq 5, 3) := by decide +kernel
theorem dL_told_153 : decode cL_told 153 = .ok (.iconst 0, 1) := by decide +kernel
theorem dL_told_154 : decode cL_told 154 = .ok (.ireturn, 1) := by decide +kernel
theorem dL_told_155 : decode cL_told 155 = .ok (.iinc 10 1, 3) := by decide +kernel
theorem dL_told_158 : decode cL_told 158 = .ok (.goto (-31), 3) := by decide +kernel
theorem dL_told_161 : decode cL_told 161 = .ok (.aload_n 0, 1) := by decide +kernel
theorem dL_told_162 : decode cL_told 162 = .ok (.iload 8, 2) := by decide +kernel
theorem dL_told_164 : decode cL_told 164 = .ok (.iconst 4, 1) := by decide +kernel
theorem dL_told_165 : decode cL_told 165 = .ok (.invokevirtual 106, 3) := by decide +kernel
theorem dL_told_168 : decode cL_told 168 = .ok (.aload 5, 2) := by decide +kernel
theorem dL_told_170 : decode cL_told 170 = .ok (.iload 8, 2) := by decide +kernel
theorem dL_told_172 : decode cL_told 172 = .ok (.iaload, 1) := by decide +kernel
theorem dL_told_173 : decode cL_told 173 = .ok (.if_icmp .ne 15, 3) := by decide +kernel
theorem dL_told_176 : decode cL_told 176 = .ok (.aload_n 0, 1) := by decide +kernel
theorem dL_told_177 : decode cL_told 177 = .ok (.iload 8, 2) := by decide +kernel
theorem dL_told_179 : decode cL_told 179 = .ok (.iconst 5, 1) := by decide +kernel
theorem dL_told_180 : decode cL_told 180 = .ok (.invokevirtual 106, 3) := by decide +kernel
theorem dL_told_183 : decode cL_told 183 = .ok (.iload 9, 2) := by decide +kernel
theorem dL_told_185 : decode cL_told 185 = .ok (.if_icmp .eq 5, 3) := by decide +kernel
theorem dL_told_188 : decode cL_told 188 = .ok (.iconst 0, 1) := by decide +kernel
theorem dL_told_189 : decode cL_told 189 = .ok (.ireturn, 1) := by decide +kernel
theorem dL_told_190 : decode cL_told 190 = .ok (.iinc 8 1, 3) := by decide +kernel
theorem dL_told_193 : decode cL_told 193 = .ok (.goto (-127), 3) := by decide +kernel
theorem dL_told_196 : decode cL_told 196 = .ok (.iconst 0, 1) := by decide +kernel
theorem dL_told_197 : decode cL_told 197 = .ok (.istore 8, 2) := by decide +kernel
theorem dL_told_199 : decode cL_told 199 = .ok (.iload 8, 2) := by decide +kernel
theorem dL_told_201 : decode cL_told 201 = .ok (.iconst 3, 1) := by decide +kernel
theorem dL_told_202 : decode cL_told 202 = .ok (.if_icmp .ge 111, 3) := by decide +kernel
theorem dL_told_205 : decode cL_told 205 = .ok (.iconst 0, 1) := by decide +kernel
theorem dL_told_206 : decode cL_told 206 = .ok (.istore 9, 2) := by decide +kernel
theorem dL_told_208 : decode cL_told 208 = .ok (.iconst 0, 1) := by decide +kernel
theorem dL_told_209 : decode cL_told 209 = .ok (.istore 10, 2) := by decide +kernel
theorem dL_told_211 : decode cL_told 211 = .ok (.iload 10, 2) := by decide +kernel
theorem dL_told_213 : decode cL_told 213 = .ok (.aload_n 1, 1) := by decide +kernel
theorem dL_told_214 : decode cL_told 214 = .ok (.iconst 1, 1) := by decide +kernel
theorem dL_told_215 : decode cL_told 215 = .ok (.iaload, 1) := by decide +kernel
theorem dL_told_216 : decode cL_told 216 = .ok (.if_icmp .ge 25, 3) := by decide +kernel
theorem dL_told_219 : decode cL_told 219 = .ok (.aload_n 3, 1) := by decide +kernel
theorem dL_told_220 : decode cL_told 220 = .ok (.iconst 4, 1) := by decide +kernel
theorem dL_told_221 : decode cL_told 221 = .ok (.iload 10, 2) := by decide +kernel
theorem dL_told_223 : decode cL_told 223 = .ok (.imul, 1) := by decide +kernel
theorem dL_told_224 : decode cL_told 224 = .ok (.iconst 1, 1) := by decide +kernel
theorem dL_told_225 : decode cL_told 225 = .ok (.iadd, 1) := by decide +kernel
theorem dL_told_226 : decode cL_told 226 = .ok (.iaload, 1) := by decide +kernel
theorem dL_told_227 : decode cL_told 227 = .ok (.iload 8, 2) := by decide +kernel
theorem dL_told_229 : decode cL_told 229 = .ok (.if_icmp .ne 6, 3) := by decide +kernel
theorem dL_told_232 : decode cL_told 232 = .ok (.iinc 9 1, 3) := by decide +kernel
theorem dL_told_235 : decode cL_told 235 = .ok (.iinc 10 1, 3) := by decide +kernel
theorem dL_told_238 : decode cL_told 238 = .ok (.goto (-27), 3) := by decide +kernel
theorem dL_told_241 : decode cL_told 241 = .ok (.aload_n 0, 1) := by decide +kernel
theorem dL_told_242 : decode cL_told 242 = .ok (.iload 8, 2) := by decide +kernel
theorem dL_told_244 : decode cL_told 244 = .ok (.iconst 0, 1) := by decide +kernel
theorem dL_told_245 : decode cL_told 245 = .ok (.invokevirtual 109, 3) := by decide +kernel
theorem dL_told_248 : decode cL_told 248 = .ok (.aload_n 1, 1) := by decide +kernel
theorem dL_told_249 : decode cL_told 249 = .ok (.bipush 8, 2) := by decide +kernel
theorem dL_told_251 : decode cL_told 251 = .ok (.iload 8, 2) := by decide +kernel
theorem dL_told_253 : decode cL_told 253 = .ok (.iadd, 1) := by decide +kernel
theorem dL_told_254 : decode cL_told 254 = .ok (.iaload, 1) := by decide +kernel
theorem dL_told_255 : decode cL_told 255 = .ok (.if_icmp .ne 50, 3) := by decide +kernel
theorem dL_told_258 : decode cL_told 258 = .ok (.aload_n 0, 1) := by decide +kernel
theorem dL_told_259 : decode cL_told 259 = .ok (.iload 8, 2) := by decide +kernel
theorem dL_told_261 : decode cL_told 261 = .ok (.iconst 1, 1) := by decide +kernel
theorem dL_told_262 : decode cL_told 262 = .ok (.invokevirtual 109, 3) := by decide +kernel
theorem dL_told_265 : decode cL_told 265 = .ok (.iconst 1, 1) := by decide +kernel
theorem dL_told_266 : decode cL_told 266 = .ok (.iload 8, 2) := by decide +kernel
theorem dL_told_268 : decode cL_told 268 = .ok (.aload_n 1, 1) := by decide +kernel
theorem dL_told_269 : decode cL_told 269 = .ok (.aload_n 3, 1) := by decide +kernel
theorem dL_told_270 : decode cL_told 270 = .ok (.invokestatic 53, 3) := by decide +kernel
theorem dL_told_273 : decode cL_told 273 = .ok (.if_icmp .ne 32, 3) := by decide +kernel
theorem dL_told_276 : decode cL_told 276 = .ok (.aload_n 0, 1) := by decide +kernel
theorem dL_told_277 : decode cL_told 277 = .ok (.iload 8, 2) := by decide +kernel
theorem dL_told_279 : decode cL_told 279 = .ok (.iconst 2, 1) := by decide +kernel
theorem dL_told_280 : decode cL_told 280 = .ok (.invokevirtual 109, 3) := by decide +kernel
theorem dL_told_283 : decode cL_told 283 = .ok (.iload 9, 2) := by decide +kernel
theorem dL_told_285 : decode cL_told 285 = .ok (.if_icmp .ne 20, 3) := by decide +kernel
theorem dL_told_288 : decode cL_told 288 = .ok (.aload_n 0, 1) := by decide +kernel
theorem dL_told_289 : decode cL_told 289 = .ok (.iload 8, 2) := by decide +kernel
theorem dL_told_291 : decode cL_told 291 = .ok (.iconst 3, 1) := by decide +kernel
theorem dL_told_292 : decode cL_told 292 = .ok (.invokevirtual 109, 3) := by decide +kernel
theorem dL_told_295 : decode cL_told 295 = .ok (.aload_n 1, 1) := by decide +kernel
theorem dL_told_296 : decode cL_told 296 = .ok (.bipush 11, 2) := by decide +kernel
theorem dL_told_298 : decode cL_told 298 = .ok (.iload 8, 2) := by decide +kernel
theorem dL_told_300 : decode cL_told 300 = .ok (.iadd, 1) := by decide +kernel
theorem dL_told_301 : decode cL_told 301 = .ok (.iaload, 1) := by decide +kernel
theorem dL_told_302 : decode cL_told 302 = .ok (.if_icmp .eq 5, 3) := by decide +kernel
theorem dL_told_305 : decode cL_told 305 = .ok (.iconst 0, 1) := by decide +kernel
theorem dL_told_306 : decode cL_told 306 = .ok (.ireturn, 1) := by decide +kernel
theorem dL_told_307 : decode cL_told 307 = .ok (.iinc 8 1, 3) := by decide +kernel
theorem dL_told_310 : decode cL_told 310 = .ok (.goto (-111), 3) := by decide +kernel
theorem dL_told_313 : decode cL_told 313 = .ok (.iconst 0, 1) := by decide +kernel
theorem dL_told_314 : decode cL_told 314 = .ok (.istore 8, 2) := by decide +kernel
theorem dL_told_316 : decode cL_told 316 = .ok (.iload 8, 2) := by decide +kernel
theorem dL_told_318 : decode cL_told 318 = .ok (.aload_n 1, 1) := by decide +kernel
theorem dL_told_319 : decode cL_told 319 = .ok (.iconst 0, 1) := by decide +kernel
theorem dL_told_320 : decode cL_told 320 = .ok (.iaload, 1) := by decide +kernel
theorem dL_told_321 : decode cL_told 321 = .ok (.if_icmp .ge 128, 3) := by decide +kernel
theorem dL_told_324 : decode cL_told 324 = .ok (.bipush 8, 2) := by decide +kernel
theorem dL_told_326 : decode cL_told 326 = .ok (.iload 8, 2) := by decide +kernel
theorem dL_told_328 : decode cL_told 328 = .ok (.imul, 1) := by decide +kernel
theorem dL_told_329 : decode cL_told 329 = .ok (.istore 9, 2) := by decide +kernel
theorem dL_told_331 : decode cL_told 331 = .ok (.iconst 0, 1) := by decide +kernel
theorem dL_told_332 : decode cL_told 332 = .ok (.iload 8, 2) := by decide +kernel
theorem dL_told_334 : decode cL_told 334 = .ok (.aload_n 1, 1) := by decide +kernel
theorem dL_told_335 : decode cL_told 335 = .ok (.aload_n 3, 1) := by decide +kernel
theorem dL_told_336 : decode cL_told 336 = .ok (.invokestatic 53, 3) := by decide +kernel
theorem dL_told_339 : decode cL_told 339 = .ok (.istore 10, 2) := by decide +kernel
theorem dL_told_341 : decode cL_told 341 = .ok (.iconst 0, 1) := by decide +kernel
theorem dL_told_342 : decode cL_told 342 = .ok (.istore 11, 2) := by decide +kernel
theorem dL_told_344 : decode cL_told 344 = .ok (.iload 11, 2) := by decide +kernel
theorem dL_told_346 : decode cL_told 346 = .ok (.bipush 7, 2) := by decide +kernel
theorem dL_told_348 : decode cL_told 348 = .ok (.if_icmp .ge 29, 3) := by decide +kernel
theorem dL_told_351 : decode cL_told 351 = .ok (.aload_n 0, 1) := by decide +kernel
theorem dL_told_352 : decode cL_told 352 = .ok (.iload 8, 2) := by decide +kernel
theorem dL_told_354 : decode cL_told 354 = .ok (.iload 11, 2) := by decide +kernel
theorem dL_told_356 : decode cL_told 356 = .ok (.invokevirtual 112, 3) := by decide +kernel
theorem dL_told_359 : decode cL_told 359 = .ok (.aload_n 2, 1) := by decide +kernel
theorem dL_told_360 : decode cL_told 360 = .ok (.iload 9, 2) := by decide +kernel
theorem dL_told_362 : decode cL_told 362 = .ok (.iload 11, 2) := by decide +kernel
theorem dL_told_364 : decode cL_told 364 = .ok (.iadd, 1) := by decide +kernel
theorem dL_told_365 : decode cL_told 365 = .ok (.iaload, 1) := by decide +kernel
theorem dL_told_366 : decode cL_told 366 = .ok (.if_icmp .eq 5, 3) := by decide +kernel
theorem dL_told_369 : decode cL_told 369 = .ok (.iconst 0, 1) := by decide +kernel
theorem dL_told_370 : decode cL_told 370 = .ok (.ireturn, 1) := by decide +kernel
theorem dL_told_371 : decode cL_told 371 = .ok (.iinc 11 1, 3) := by decide +kernel
theorem dL_told_374 : decode cL_told 374 = .ok (.goto (-30), 3) := by decide +kernel
theorem dL_told_377 : decode cL_told 377 = .ok (.aload_n 0, 1) := by decide +kernel
theorem dL_told_378 : decode cL_told 378 = .ok (.iload 8, 2) := by decide +kernel
theorem dL_told_380 : decode cL_told 380 = .ok (.bipush 7, 2) := by decide +kernel
theorem dL_told_382 : decode cL_told 382 = .ok (.invokevirtual 112, 3) := by decide +kernel
theorem dL_told_385 : decode cL_told 385 = .ok (.iload 10, 2) := by decide +kernel
theorem dL_told_387 : decode cL_told 387 = .ok (.if_icmp .ne 54, 3) := by decide +kernel
theorem dL_told_390 : decode cL_told 390 = .ok (.aload_n 0, 1) := by decide +kernel
theorem dL_told_391 : decode cL_told 391 = .ok (.iload 8, 2) := by decide +kernel
theorem dL_told_393 : decode cL_told 393 = .ok (.bipush 8, 2) := by decide +kernel
theorem dL_told_395 : decode cL_told 395 = .ok (.invokevirtual 112, 3) := by decide +kernel
theorem dL_told_398 : decode cL_told 398 = .ok (.aload_n 2, 1) := by decide +kernel
theorem dL_told_399 : decode cL_told 399 = .ok (.iload 9, 2) := by decide +kernel
theorem dL_told_401 : decode cL_told 401 = .ok (.bipush 7, 2) := by decide +kernel
theorem dL_told_403 : decode cL_told 403 = .ok (.iadd, 1) := by decide +kernel
theorem dL_told_404 : decode cL_told 404 = .ok (.iaload, 1) := by decide +kernel
theorem dL_told_405 : decode cL_told 405 = .ok (.if_icmp .ne 36, 3) := by decide +kernel
theorem dL_told_408 : decode cL_told 408 = .ok (.aload_n 2, 1) := by decide +kernel
theorem dL_told_409 : decode cL_told 409 = .ok (.iload 9, 2) := by decide +kernel
theorem dL_told_411 : decode cL_told 411 = .ok (.iconst 3, 1) := by decide +kernel
theorem dL_told_412 : decode cL_told 412 = .ok (.iadd, 1) := by decide +kernel
theorem dL_told_413 : decode cL_told 413 = .ok (.iaload, 1) := by decide +kernel
theorem dL_told_414 : decode cL_told 414 = .ok (.aload_n 2, 1) := by decide +kernel
theorem dL_told_415 : decode cL_told 415 = .ok (.iload 9, 2) := by decide +kernel
theorem dL_told_417 : decode cL_told 417 = .ok (.iconst 4, 1) := by decide +kernel
theorem dL_told_418 : decode cL_told 418 = .ok (.iadd, 1) := by decide +kernel
theorem dL_told_419 : decode cL_told 419 = .ok (.iaload, 1) := by decide +kernel
theorem dL_told_420 : decode cL_told 420 = .ok (.aload_n 2, 1) := by decide +kernel
theorem dL_told_421 : decode cL_told 421 = .ok (.iload 9, 2) := by decide +kernel
theorem dL_told_423 : decode cL_told 423 = .ok (.iconst 5, 1) := by decide +kernel
theorem dL_told_424 : decode cL_told 424 = .ok (.iadd, 1) := by decide +kernel
theorem dL_told_425 : decode cL_told 425 = .ok (.iaload, 1) := by decide +kernel
theorem dL_told_426 : decode cL_told 426 = .ok (.iadd, 1) := by decide +kernel
theorem dL_told_427 : decode cL_told 427 = .ok (.aload_n 2, 1) := by decide +kernel
theorem dL_told_428 : decode cL_told 428 = .ok (.iload 9, 2) := by decide +kernel
theorem dL_told_430 : decode cL_told 430 = .ok (.bipush 6, 2) := by decide +kernel
theorem dL_told_432 : decode cL_told 432 = .ok (.iadd, 1) := by decide +kernel
theorem dL_told_433 : decode cL_told 433 = .ok (.iaload, 1) := by decide +kernel
theorem dL_told_434 : decode cL_told 434 = .ok (.iadd, 1) := by decide +kernel
theorem dL_told_435 : decode cL_told 435 = .ok (.iload 10, 2) := by decide +kernel
theorem dL_told_437 : decode cL_told 437 = .ok (.iadd, 1) := by decide +kernel
theorem dL_told_438 : decode cL_told 438 = .ok (.if_icmp .eq 5, 3) := by decide +kernel
theorem dL_told_441 : decode cL_told 441 = .ok (.iconst 0, 1) := by decide +kernel
theorem dL_told_442 : decode cL_told 442 = .ok (.ireturn, 1) := by decide +kernel
theorem dL_told_443 : decode cL_told 443 = .ok (.iinc 8 1, 3) := by decide +kernel
theorem dL_told_446 : decode cL_told 446 = .ok (.goto (-130), 3) := by decide +kernel
theorem dL_told_449 : decode cL_told 449 = .ok (.iconst 0, 1) := by decide +kernel
theorem dL_told_450 : decode cL_told 450 = .ok (.istore 8, 2) := by decide +kernel
theorem dL_told_452 : decode cL_told 452 = .ok (.iload 8, 2) := by decide +kernel
theorem dL_told_454 : decode cL_told 454 = .ok (.aload_n 1, 1) := by decide +kernel
theorem dL_told_455 : decode cL_told 455 = .ok (.iconst 2, 1) := by decide +kernel
theorem dL_told_456 : decode cL_told 456 = .ok (.iaload, 1) := by decide +kernel
theorem dL_told_457 : decode cL_told 457 = .ok (.if_icmp .ge 86, 3) := by decide +kernel
theorem dL_told_460 : decode cL_told 460 = .ok (.iconst 0, 1) := by decide +kernel
theorem dL_told_461 : decode cL_told 461 = .ok (.istore 9, 2) := by decide +kernel
theorem dL_told_463 : decode cL_told 463 = .ok (.iload 9, 2) := by decide +kernel
theorem dL_told_465 : decode cL_told 465 = .ok (.iconst 4, 1) := by decide +kernel
theorem dL_told_466 : decode cL_told 466 = .ok (.if_icmp .ge 71, 3) := by decide +kernel
theorem dL_told_469 : decode cL_told 469 = .ok (.iconst 0, 1) := by decide +kernel
theorem dL_told_470 : decode cL_told 470 = .ok (.istore 10, 2) := by decide +kernel
theorem dL_told_472 : decode cL_told 472 = .ok (.iload 10, 2) := by decide +kernel
theorem dL_told_474 : decode cL_told 474 = .ok (.iconst 3, 1) := by decide +kernel
theorem dL_told_475 : decode cL_told 475 = .ok (.if_icmp .ge 56, 3) := by decide +kernel
theorem dL_told_478 : decode cL_told 478 = .ok (.aload_n 0, 1) := by decide +kernel
theorem dL_told_479 : decode cL_told 479 = .ok (.iload 8, 2) := by decide +kernel
theorem dL_told_481 : decode cL_told 481 = .ok (.iload 9, 2) := by decide +kernel
theorem dL_told_483 : decode cL_told 483 = .ok (.iload 10, 2) := by decide +kernel
theorem dL_told_485 : decode cL_told 485 = .ok (.invokevirtual 115, 3) := by decide +kernel
theorem dL_told_488 : decode cL_told 488 = .ok (.iload 9, 2) := by decide +kernel
theorem dL_told_490 : decode cL_told 490 = .ok (.aload_n 1, 1) := by decide +kernel
theorem dL_told_491 : decode cL_told 491 = .ok (.bipush 15, 2) := by decide +kernel
theorem dL_told_493 : decode cL_told 493 = .ok (.iload 8, 2) := by decide +kernel
theorem dL_told_495 : decode cL_told 495 = .ok (.iadd, 1) := by decide +kernel
theorem dL_told_496 : decode cL_told 496 = .ok (.iaload, 1) := by decide +kernel
theorem dL_told_497 : decode cL_told 497 = .ok (.if_icmp .ge 22, 3) := by decide +kernel
theorem dL_told_500 : decode cL_told 500 = .ok (.aload 4, 2) := by decide +kernel
theorem dL_told_502 : decode cL_told 502 = .ok (.bipush 9, 2) := by decide +kernel
theorem dL_told_504 : decode cL_told 504 = .ok (.iload 8, 2) := by decide +kernel
theorem dL_told_506 : decode cL_told 506 = .ok (.imul, 1) := by decide +kernel
theorem dL_told_507 : decode cL_told 507 = .ok (.iconst 3, 1) := by decide +kernel
theorem dL_told_508 : decode cL_told 508 = .ok (.iload 9, 2) := by decide +kernel
theorem dL_told_510 : decode cL_told 510 = .ok (.imul, 1) := by decide +kernel
theorem dL_told_511 : decode cL_told 511 = .ok (.iadd, 1) := by decide +kernel
theorem dL_told_512 : decode cL_told 512 = .ok (.iload 10, 2) := by decide +kernel
theorem dL_told_514 : decode cL_told 514 = .ok (.iadd, 1) := by decide +kernel
theorem dL_told_515 : decode cL_told 515 = .ok (.iaload, 1) := by decide +kernel
theorem dL_told_516 : decode cL_told 516 = .ok (.goto 4, 3) := by decide +kernel
theorem dL_told_519 : decode cL_told 519 = .ok (.iconst (-1), 1) := by decide +kernel
theorem dL_told_520 : decode cL_told 520 = .ok (.if_icmp .eq 5, 3) := by decide +kernel
theorem dL_told_523 : decode cL_told 523 = .ok (.iconst 0, 1) := by decide +kernel
theorem dL_told_524 : decode cL_told 524 = .ok (.ireturn, 1) := by decide +kernel
theorem dL_told_525 : decode cL_told 525 = .ok (.iinc 10 1, 3) := by decide +kernel
theorem dL_told_528 : decode cL_told 528 = .ok (.goto (-56), 3) := by decide +kernel
theorem dL_told_531 : decode cL_told 531 = .ok (.iinc 9 1, 3) := by decide +kernel
theorem dL_told_534 : decode cL_told 534 = .ok (.goto (-71), 3) := by decide +kernel
theorem dL_told_537 : decode cL_told 537 = .ok (.iinc 8 1, 3) := by decide +kernel
theorem dL_told_540 : decode cL_told 540 = .ok (.goto (-88), 3) := by decide +kernel
theorem dL_told_543 : decode cL_told 543 = .ok (.iconst (-1), 1) := by decide +kernel
theorem dL_told_544 : decode cL_told 544 = .ok (.iconst 0, 1) := by decide +kernel
theorem dL_told_545 : decode cL_told 545 = .ok (.aload_n 1, 1) := by decide +kernel
theorem dL_told_546 : decode cL_told 546 = .ok (.aload_n 3, 1) := by decide +kernel
theorem dL_told_547 : decode cL_told 547 = .ok (.invokestatic 53, 3) := by decide +kernel
theorem dL_told_550 : decode cL_told 550 = .ok (.istore 8, 2) := by decide +kernel
theorem dL_told_552 : decode cL_told 552 = .ok (.aload_n 0, 1) := by decide +kernel
theorem dL_told_553 : decode cL_told 553 = .ok (.iconst 0, 1) := by decide +kernel
theorem dL_told_554 : decode cL_told 554 = .ok (.invokevirtual 118, 3) := by decide +kernel
theorem dL_told_557 : decode cL_told 557 = .ok (.aload_n 1, 1) := by decide +kernel
theorem dL_told_558 : decode cL_told 558 = .ok (.iconst 3, 1) := by decide +kernel
theorem dL_told_559 : decode cL_told 559 = .ok (.iaload, 1) := by decide +kernel
theorem dL_told_560 : decode cL_told 560 = .ok (.if_icmp .ne 124, 3) := by decide +kernel
theorem dL_told_563 : decode cL_told 563 = .ok (.aload_n 0, 1) := by decide +kernel
theorem dL_told_564 : decode cL_told 564 = .ok (.iconst 1, 1) := by decide +kernel
theorem dL_told_565 : decode cL_told 565 = .ok (.invokevirtual 118, 3) := by decide +kernel
theorem dL_told_568 : decode cL_told 568 = .ok (.aload_n 1, 1) := by decide +kernel
theorem dL_told_569 : decode cL_told 569 = .ok (.iconst 0, 1) := by decide +kernel
theorem dL_told_570 : decode cL_told 570 = .ok (.iaload, 1) := by decide +kernel
theorem dL_told_571 : decode cL_told 571 = .ok (.if_icmp .ne 113, 3) := by decide +kernel
theorem dL_told_574 : decode cL_told 574 = .ok (.aload_n 0, 1) := by decide +kernel
theorem dL_told_575 : decode cL_told 575 = .ok (.iconst 2, 1) := by decide +kernel
theorem dL_told_576 : decode cL_told 576 = .ok (.invokevirtual 118, 3) := by decide +kernel
theorem dL_told_579 : decode cL_told 579 = .ok (.aload_n 1, 1) := by decide +kernel
theorem dL_told_580 : decode cL_told 580 = .ok (.iconst 1, 1) := by decide +kernel
theorem dL_told_581 : decode cL_told 581 = .ok (.iaload, 1) := by decide +kernel
theorem dL_told_582 : decode cL_told 582 = .ok (.if_icmp .ne 102, 3) := by decide +kernel
theorem dL_told_585 : decode cL_told 585 = .ok (.aload_n 0, 1) := by decide +kernel
theorem dL_told_586 : decode cL_told 586 = .ok (.iconst 4, 1) := by decide +kernel
theorem dL_told_587 : decode cL_told 587 = .ok (.invokevirtual 118, 3) := by decide +kernel
theorem dL_told_590 : decode cL_told 590 = .ok (.aload_n 1, 1) := by decide +kernel
theorem dL_told_591 : decode cL_told 591 = .ok (.iconst 2, 1) := by decide +kernel
theorem dL_told_592 : decode cL_told 592 = .ok (.iaload, 1) := by decide +kernel
theorem dL_told_593 : decode cL_told 593 = .ok (.if_icmp .ne 91, 3) := by decide +kernel
theorem dL_told_596 : decode cL_told 596 = .ok (.aload_n 0, 1) := by decide +kernel
theorem dL_told_597 : decode cL_told 597 = .ok (.iconst 5, 1) := by decide +kernel
theorem dL_told_598 : decode cL_told 598 = .ok (.invokevirtual 118, 3) := by decide +kernel
theorem dL_told_601 : decode cL_told 601 = .ok (.aload_n 1, 1) := by decide +kernel
theorem dL_told_602 : decode cL_told 602 = .ok (.iconst 4, 1) := by decide +kernel
theorem dL_told_603 : decode cL_told 603 = .ok (.iaload, 1) := by decide +kernel
theorem dL_told_604 : decode cL_told 604 = .ok (.if_icmp .ne 80, 3) := by decide +kernel
theorem dL_told_607 : decode cL_told 607 = .ok (.aload_n 0, 1) := by decide +kernel
theorem dL_told_608 : decode cL_told 608 = .ok (.bipush 6, 2) := by decide +kernel
theorem dL_told_610 : decode cL_told 610 = .ok (.invokevirtual 118, 3) := by decide +kernel
theorem dL_told_613 : decode cL_told 613 = .ok (.aload_n 1, 1) := by decide +kernel
theorem dL_told_614 : decode cL_told 614 = .ok (.iconst 5, 1) := by decide +kernel
theorem dL_told_615 : decode cL_told 615 = .ok (.iaload, 1) := by decide +kernel
theorem dL_told_616 : decode cL_told 616 = .ok (.if_icmp .ne 68, 3) := by decide +kernel
theorem dL_told_619 : decode cL_told 619 = .ok (.aload_n 0, 1) := by decide +kernel
theorem dL_told_620 : decode cL_told 620 = .ok (.bipush 7, 2) := by decide +kernel
theorem dL_told_622 : decode cL_told 622 = .ok (.invokevirtual 118, 3) := by decide +kernel
theorem dL_told_625 : decode cL_told 625 = .ok (.aload_n 1, 1) := by decide +kernel
theorem dL_told_626 : decode cL_told 626 = .ok (.bipush 6, 2) := by decide +kernel
theorem dL_told_628 : decode cL_told 628 = .ok (.iaload, 1) := by decide +kernel
theorem dL_told_629 : decode cL_told 629 = .ok (.if_icmp .ne 55, 3) := by decide +kernel
theorem dL_told_632 : decode cL_told 632 = .ok (.aload_n 0, 1) := by decide +kernel
theorem dL_told_633 : decode cL_told 633 = .ok (.bipush 8, 2) := by decide +kernel
theorem dL_told_635 : decode cL_told 635 = .ok (.invokevirtual 118, 3) := by decide +kernel
theorem dL_told_638 : decode cL_told 638 = .ok (.aload_n 1, 1) := by decide +kernel
theorem dL_told_639 : decode cL_told 639 = .ok (.bipush 7, 2) := by decide +kernel
theorem dL_told_641 : decode cL_told 641 = .ok (.iaload, 1) := by decide +kernel
theorem dL_told_642 : decode cL_told 642 = .ok (.if_icmp .ne 42, 3) := by decide +kernel
theorem dL_told_645 : decode cL_told 645 = .ok (.aload_n 0, 1) := by decide +kernel
theorem dL_told_646 : decode cL_told 646 = .ok (.bipush 12, 2) := by decide +kernel
theorem dL_told_648 : decode cL_told 648 = .ok (.invokevirtual 118, 3) := by decide +kernel
theorem dL_told_651 : decode cL_told 651 = .ok (.iload 8, 2) := by decide +kernel
theorem dL_told_653 : decode cL_told 653 = .ok (.if_icmp .ne 31, 3) := by decide +kernel
theorem dL_told_656 : decode cL_told 656 = .ok (.aload_n 0, 1) := by decide +kernel
theorem dL_told_657 : decode cL_told 657 = .ok (.invokevirtual 121, 3) := by decide +kernel
theorem dL_told_660 : decode cL_told 660 = .ok (.iload 8, 2) := by decide +kernel
theorem dL_told_662 : decode cL_told 662 = .ok (.ifCond .ne 7, 3) := by decide +kernel
theorem dL_told_665 : decode cL_told 665 = .ok (.dconst 0, 1) := by decide +kernel
theorem dL_told_666 : decode cL_told 666 = .ok (.goto 10, 3) := by decide +kernel
theorem dL_told_669 : decode cL_told 669 = .ok (.lload 6, 2) := by decide +kernel
theorem dL_told_671 : decode cL_told 671 = .ok (.l2d, 1) := by decide +kernel
theorem dL_told_672 : decode cL_told 672 = .ok (.iload 8, 2) := by decide +kernel
theorem dL_told_674 : decode cL_told 674 = .ok (.i2d, 1) := by decide +kernel
theorem dL_told_675 : decode cL_told 675 = .ok (.ddiv, 1) := by decide +kernel
theorem dL_told_676 : decode cL_told 676 = .ok (.dcmp .l, 1) := by decide +kernel
theorem dL_told_677 : decode cL_told 677 = .ok (.ifCond .ne 7, 3) := by decide +kernel
theorem dL_told_680 : decode cL_told 680 = .ok (.iconst 1, 1) := by decide +kernel
theorem dL_told_681 : decode cL_told 681 = .ok (.goto 4, 3) := by decide +kernel
theorem dL_told_684 : decode cL_told 684 = .ok (.iconst 0, 1) := by decide +kernel
theorem dL_told_685 : decode cL_told 685 = .ok (.ireturn, 1) := by decide +kernel
theorem dL_law_0 : decode cL_law 0 = .ok (.new 35, 3) := by decide +kernel
theorem dL_law_3 : decode cL_law 3 = .ok (.dup, 1) := by decide +kernel
theorem dL_law_4 : decode cL_law 4 = .ok (.invokespecial 125, 3) := by decide +kernel
theorem dL_law_7 : decode cL_law 7 = .ok (.astore_n 1, 1) := by decide +kernel
theorem dL_law_8 : decode cL_law 8 = .ok (.bipush 18, 2) := by decide +kernel
theorem dL_law_10 : decode cL_law 10 = .ok (.newarray .int, 2) := by decide +kernel
theorem dL_law_12 : decode cL_law 12 = .ok (.astore_n 2, 1) := by decide +kernel
theorem dL_law_13 : decode cL_law 13 = .ok (.bipush 32, 2) := by decide +kernel
theorem dL_law_15 : decode cL_law 15 = .ok (.newarray .int, 2) := by decide +kernel
theorem dL_law_17 : decode cL_law 17 = .ok (.astore_n 3, 1) := by decide +kernel
theorem dL_law_18 : decode cL_law 18 = .ok (.bipush 52, 2) := by decide +kernel
theorem dL_law_20 : decode cL_law 20 = .ok (.newarray .int, 2) := by decide +kernel
theorem dL_law_22 : decode cL_law 22 = .ok (.astore 4, 2) := by decide +kernel
theorem dL_law_24 : decode cL_law 24 = .ok (.bipush 27, 2) := by decide +kernel
theorem dL_law_26 : decode cL_law 26 = .ok (.newarray .int, 2) := by decide +kernel
theorem dL_law_28 : decode cL_law 28 = .ok (.astore 5, 2) := by decide +kernel
theorem dL_law_30 : decode cL_law 30 = .ok (.bipush 24, 2) := by decide +kernel
theorem dL_law_32 : decode cL_law 32 = .ok (.newarray .int, 2) := by decide +kernel
theorem dL_law_34 : decode cL_law 34 = .ok (.astore 6, 2) := by decide +kernel
theorem dL_law_36 : decode cL_law 36 = .ok (.aload_n 2, 1) := by decide +kernel
theorem dL_law_37 : decode cL_law 37 = .ok (.invokestatic 126, 3) := by decide +kernel
theorem dL_law_40 : decode cL_law 40 = .ok (.aload_n 1, 1) := by decide +kernel
theorem dL_law_41 : decode cL_law 41 = .ok (.aload_n 2, 1) := by decide +kernel
theorem dL_law_42 : decode cL_law 42 = .ok (.aload_n 3, 1) := by decide +kernel
theorem dL_law_43 : decode cL_law 43 = .ok (.aload 4, 2) := by decide +kernel
theorem dL_law_45 : decode cL_law 45 = .ok (.aload 5, 2) := by decide +kernel
theorem dL_law_47 : decode cL_law 47 = .ok (.invokestatic 130, 3) := by decide +kernel
theorem dL_law_50 : decode cL_law 50 = .ok (.ifCond .ne 5, 3) := by decide +kernel
theorem dL_law_53 : decode cL_law 53 = .ok (.iconst 0, 1) := by decide +kernel
theorem dL_law_54 : decode cL_law 54 = .ok (.ireturn, 1) := by decide +kernel
theorem dL_law_55 : decode cL_law 55 = .ok (.iconst 0, 1) := by decide +kernel
theorem dL_law_56 : decode cL_law 56 = .ok (.istore 7, 2) := by decide +kernel
theorem dL_law_58 : decode cL_law 58 = .ok (.iload 7, 2) := by decide +kernel
theorem dL_law_60 : decode cL_law 60 = .ok (.bipush 30, 2) := by decide +kernel
theorem dL_law_62 : decode cL_law 62 = .ok (.if_icmp .ge 261, 3) := by decide +kernel
theorem dL_law_65 : decode cL_law 65 = .ok (.aload_n 0, 1) := by decide +kernel
theorem dL_law_66 : decode cL_law 66 = .ok (.iconst 2, 1) := by decide +kernel
theorem dL_law_67 : decode cL_law 67 = .ok (.iload 7, 2) := by decide +kernel
theorem dL_law_69 : decode cL_law 69 = .ok (.imul, 1) := by decide +kernel
theorem dL_law_70 : decode cL_law 70 = .ok (.invokestatic 134, 3) := by decide +kernel
theorem dL_law_73 : decode cL_law 73 = .ok (.istore 8, 2) := by decide +kernel
theorem dL_law_75 : decode cL_law 75 = .ok (.aload_n 0, 1) := by decide +kernel
theorem dL_law_76 : decode cL_law 76 = .ok (.iconst 2, 1) := by decide +kernel
theorem dL_law_77 : decode cL_law 77 = .ok (.iload 7, 2) := by decide +kernel
theorem dL_law_79 : decode cL_law 79 = .ok (.imul, 1) := by decide +kernel
theorem dL_law_80 : decode cL_law 80 = .ok (.iconst 1, 1) := by decide +kernel
theorem dL_law_81 : decode cL_law 81 = .ok (.iadd, 1) := by decide +kernel
theorem dL_law_82 : decode cL_law 82 = .ok (.invokestatic 134, 3) := by decide +kernel
theorem dL_law_85 : decode cL_law 85 = .ok (.istore 9, 2) := by decide +kernel
theorem dL_law_87 : decode cL_law 87 = .ok (.iload 7, 2) := by decide +kernel
theorem dL_law_89 : decode cL_law 89 = .ok (.iconst 2, 1) := by decide +kernel
theorem dL_law_90 : decode cL_law 90 = .ok (.if_icmp .ge 7, 3) := by decide +kernel
theorem dL_law_93 : decode cL_law 93 = .ok (.iconst 0, 1) := by decide +kernel
theorem dL_law_94 : decode cL_law 94 = .ok (.goto 34, 3) := by decide +kernel
theorem dL_law_97 : decode cL_law 97 = .ok (.iload 7, 2) := by decide +kernel
theorem dL_law_99 : decode cL_law 99 = .ok (.iconst 2, 1) := by decide +kernel
theorem dL_law_100 : decode cL_law 100 = .ok (.if_icmp .ne 7, 3) := by decide +kernel
theorem dL_law_103 : decode cL_law 103 = .ok (.iconst 2, 1) := by decide +kernel
theorem dL_law_104 : decode cL_law 104 = .ok (.goto 24, 3) := by decide +kernel
theorem dL_law_107 : decode cL_law 107 = .ok (.iload 7, 2) := by decide +kernel
theorem dL_law_109 : decode cL_law 109 = .ok (.bipush 6, 2) := by decide +kernel
theorem dL_law_111 : decode cL_law 111 = .ok (.if_icmp .ge 7, 3) := by decide +kernel
theorem dL_law_114 : decode cL_law 114 = .ok (.iconst 3, 1) := by decide +kernel
theorem dL_law_115 : decode cL_law 115 = .ok (.goto 13, 3) := by decide +kernel
theorem dL_law_118 : decode cL_law 118 = .ok (.iload 8, 2) := by decide +kernel
theorem dL_law_120 : decode cL_law 120 = .ok (.bipush 22, 2) := by decide +kernel
theorem dL_law_122 : decode cL_law 122 = .ok (.ishr, 1) := by decide +kernel
theorem dL_law_123 : decode cL_law 123 = .ok (.bipush 16, 2) := by decide +kernel
theorem dL_law_125 : decode cL_law 125 = .ok (.invokestatic 30, 3) := by decide +kernel
theorem dL_law_128 : decode cL_law 128 = .ok (.istore 10, 2) := by decide +kernel
theorem dL_law_130 : decode cL_law 130 = .ok (.iload 10, 2) := by decide +kernel
theorem dL_law_132 : decode cL_law 132 = .ok (.iconst 2, 1) := by decide +kernel
theorem dL_law_133 : decode cL_law 133 = .ok (.if_icmp .lt 9, 3) := by decide +kernel
theorem dL_law_136 : decode cL_law 136 = .ok (.aload_n 2, 1) := by decide +kernel
theorem dL_law_137 : decode cL_law 137 = .ok (.iconst 0, 1) := by decide +kernel
theorem dL_law_138 : decode cL_law 138 = .ok (.iaload, 1) := by decide +kernel
theorem dL_law_139 : decode cL_law 139 = .ok (.ifCond .ne 16, 3) := by decide +kernel
theorem dL_law_142 : decode cL_law 142 = .ok (.aload_n 1, 1) := by decide +kernel
theorem dL_law_143 : decode cL_law 143 = .ok (.iload 8, 2) := by decide +kernel
theorem dL_law_145 : decode cL_law 145 = .ok (.iload 9, 2) := by decide +kernel
theorem dL_law_147 : decode cL_law 147 = .ok (.aload_n 2, 1) := by decide +kernel
theorem dL_law_148 : decode cL_law 148 = .ok (.aload_n 3, 1) := by decide +kernel
theorem dL_law_149 : decode cL_law 149 = .ok (.invokestatic 138, 3) := by decide +kernel
theorem dL_law_152 : decode cL_law 152 = .ok (.goto 143, 3) := by decide +kernel
theorem dL_law_155 : decode cL_law 155 = .ok (.iload 10, 2) := by decide +kernel
theorem dL_law_157 : decode cL_law 157 = .ok (.iconst 2, 1) := by decide +kernel
theorem dL_law_158 : decode cL_law 158 = .ok (.if_icmp .ne 17, 3) := by decide +kernel
theorem dL_law_161 : decode cL_law 161 = .ok (.aload_n 1, 1) := by decide +kernel
theorem dL_law_162 : decode cL_law 162 = .ok (.iload 8, 2) := by decide +kernel
theorem dL_law_164 : decode cL_law 164 = .ok (.iload 9, 2) := by decide +kernel
theorem dL_law_166 : decode cL_law 166 = .ok (.aload_n 2, 1) := by decide +kernel
theorem dL_law_167 : decode cL_law 167 = .ok (.aload 6, 2) := by decide +kernel
theorem dL_law_169 : decode cL_law 169 = .ok (.invokestatic 141, 3) := by decide +kernel
theorem dL_law_172 : decode cL_law 172 = .ok (.goto 123, 3) := by decide +kernel
theorem dL_law_175 : decode cL_law 175 = .ok (.iload 10, 2) := by decide +kernel
theorem dL_law_177 : decode cL_law 177 = .ok (.iconst 3, 1) := by decide +kernel
theorem dL_law_178 : decode cL_law 178 = .ok (.if_icmp .ne 17, 3) := by decide +kernel
theorem dL_law_181 : decode cL_law 181 = .ok (.aload_n 1, 1) := by decide +kernel
theorem dL_law_182 : decode cL_law 182 = .ok (.iload 8, 2) := by decide +kernel
theorem dL_law_184 : decode cL_law 184 = .ok (.iload 9, 2) := by decide +kernel
theorem dL_law_186 : decode cL_law 186 = .ok (.aload_n 2, 1) := by decide +kernel
theorem dL_law_187 : decode cL_law 187 = .ok (.aload 6, 2) := by decide +kernel
theorem dL_law_189 : decode cL_law 189 = .ok (.invokestatic 144, 3) := by decide +kernel
theorem dL_law_192 : decode cL_law 192 = .ok (.goto 103, 3) := by decide +kernel
theorem dL_law_195 : decode cL_law 195 = .ok (.iload 10, 2) := by decide +kernel
theorem dL_law_197 : decode cL_law 197 = .ok (.bipush 8, 2) := by decide +kernel
theorem dL_law_199 : decode cL_law 199 = .ok (.if_icmp .ge 20, 3) := by decide +kernel
theorem dL_law_202 : decode cL_law 202 = .ok (.aload_n 1, 1) := by decide +kernel
theorem dL_law_203 : decode cL_law 203 = .ok (.iload 8, 2) := by decide +kernel
theorem dL_law_205 : decode cL_law 205 = .ok (.iload 9, 2) := by decide +kernel
theorem dL_law_207 : decode cL_law 207 = .ok (.aload_n 2, 1) := by decide +kernel
theorem dL_law_208 : decode cL_law 208 = .ok (.aload_n 3, 1) := by decide +kernel
theorem dL_law_209 : decode cL_law 209 = .ok (.aload 4, 2) := by decide +kernel
theorem dL_law_211 : decode cL_law 211 = .ok (.aload 6, 2) := by decide +kernel
theorem dL_law_213 : decode cL_law 213 = .ok (.invokestatic 147, 3) := by decide +kernel
theorem dL_law_216 : decode cL_law 216 = .ok (.goto 79, 3) := by decide +kernel
theorem dL_law_219 : decode cL_law 219 = .ok (.iload 10, 2) := by decide +kernel
theorem dL_law_221 : decode cL_law 221 = .ok (.bipush 10, 2) := by decide +kernel
theorem dL_law_223 : decode cL_law 223 = .ok (.if_icmp .ge 17, 3) := by decide +kernel
theorem dL_law_226 : decode cL_law 226 = .ok (.aload_n 1, 1) := by decide +kernel
theorem dL_law_227 : decode cL_law 227 = .ok (.iload 8, 2) := by decide +kernel
theorem dL_law_229 : decode cL_law 229 = .ok (.iload 9, 2) := by decide +kernel
theorem dL_law_231 : decode cL_law 231 = .ok (.aload_n 2, 1) := by decide +kernel
theorem dL_law_232 : decode cL_law 232 = .ok (.aload 4, 2) := by decide +kernel
theorem dL_law_234 : decode cL_law 234 = .ok (.invokestatic 150, 3) := by decide +kernel
theorem dL_law_237 : decode cL_law 237 = .ok (.goto 58, 3) := by decide +kernel
theorem dL_law_240 : decode cL_law 240 = .ok (.iload 10, 2) := by decide +kernel
theorem dL_law_242 : decode cL_law 242 = .ok (.bipush 10, 2) := by decide +kernel
theorem dL_law_244 : decode cL_law 244 = .ok (.if_icmp .ne 18, 3) := by decide +kernel
theorem dL_law_247 : decode cL_law 247 = .ok (.aload_n 1, 1) := by decide +kernel
theorem dL_law_248 : decode cL_law 248 = .ok (.iload 8, 2) := by decide +kernel
theorem dL_law_250 : decode cL_law 250 = .ok (.iload 9, 2) := by decide +kernel
theorem dL_law_252 : decode cL_law 252 = .ok (.aload_n 2, 1) := by decide +kernel
theorem dL_law_253 : decode cL_law 253 = .ok (.aload_n 3, 1) := by decide +kernel
theorem dL_law_254 : decode cL_law 254 = .ok (.aload 4, 2) := by decide +kernel
theorem dL_law_256 : decode cL_law 256 = .ok (.invokestatic 153, 3) := by decide +kernel
theorem dL_law_259 : decode cL_law 259 = .ok (.goto 36, 3) := by decide +kernel
theorem dL_law_262 : decode cL_law 262 = .ok (.iload 10, 2) := by decide +kernel
theorem dL_law_264 : decode cL_law 264 = .ok (.bipush 13, 2) := by decide +kernel
theorem dL_law_266 : decode cL_law 266 = .ok (.if_icmp .ge 17, 3) := by decide +kernel
theorem dL_law_269 : decode cL_law 269 = .ok (.aload_n 1, 1) := by decide +kernel
theorem dL_law_270 : decode cL_law 270 = .ok (.iload 8, 2) := by decide +kernel
theorem dL_law_272 : decode cL_law 272 = .ok (.iload 9, 2) := by decide +kernel
theorem dL_law_274 : decode cL_law 274 = .ok (.aload_n 2, 1) := by decide +kernel
theorem dL_law_275 : decode cL_law 275 = .ok (.aload 5, 2) := by decide +kernel
theorem dL_law_277 : decode cL_law 277 = .ok (.invokestatic 156, 3) := by decide +kernel
theorem dL_law_280 : decode cL_law 280 = .ok (.goto 15, 3) := by decide +kernel
theorem dL_law_283 : decode cL_law 283 = .ok (.aload_n 1, 1) := by decide +kernel
theorem dL_law_284 : decode cL_law 284 = .ok (.iload 9, 2) := by decide +kernel
theorem dL_law_286 : decode cL_law 286 = .ok (.aload_n 2, 1) := by decide +kernel
theorem dL_law_287 : decode cL_law 287 = .ok (.aload_n 3, 1) := by decide +kernel
theorem dL_law_288 : decode cL_law 288 = .ok (.aload 4, 2) := by decide +kernel
theorem dL_law_290 : decode cL_law 290 = .ok (.aload 5, 2) := by decide +kernel
theorem dL_law_292 : decode cL_law 292 = .ok (.invokestatic 159, 3) := by decide +kernel
theorem dL_law_295 : decode cL_law 295 = .ok (.istore 11, 2) := by decide +kernel
theorem dL_law_297 : decode cL_law 297 = .ok (.iload 11, 2) := by decide +kernel
theorem dL_law_299 : decode cL_law 299 = .ok (.ifCond .eq 16, 3) := by decide +kernel
theorem dL_law_302 : decode cL_law 302 = .ok (.aload_n 1, 1) := by decide +kernel
theorem dL_law_303 : decode cL_law 303 = .ok (.aload_n 2, 1) := by decide +kernel
theorem dL_law_304 : decode cL_law 304 = .ok (.aload_n 3, 1) := by decide +kernel
theorem dL_law_305 : decode cL_law 305 = .ok (.aload 4, 2) := by decide +kernel
theorem dL_law_307 : decode cL_law 307 = .ok (.aload 5, 2) := by decide +kernel
theorem dL_law_309 : decode cL_law 309 = .ok (.invokestatic 130, 3) := by decide +kernel
theorem dL_law_312 : decode cL_law 312 = .ok (.ifCond .ne 5, 3) := by decide +kernel
theorem dL_law_315 : decode cL_law 315 = .ok (.iconst 0, 1) := by decide +kernel
theorem dL_law_316 : decode cL_law 316 = .ok (.ireturn, 1) := by decide +kernel
theorem dL_law_317 : decode cL_law 317 = .ok (.iinc 7 1, 3) := by decide +kernel
theorem dL_law_320 : decode cL_law 320 = .ok (.goto (-262), 3) := by decide +kernel
theorem dL_law_323 : decode cL_law 323 = .ok (.iconst 1, 1) := by decide +kernel
theorem dL_law_324 : decode cL_law 324 = .ok (.ireturn, 1) := by decide +kernel
