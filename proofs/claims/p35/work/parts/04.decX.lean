theorem dX0_init_0 : decode cX0_init 0 = .ok (.aload_n 0, 1) := by decide +kernel
theorem dX0_init_1 : decode cX0_init 1 = .ok (.invokespecial 3, 3) := by decide +kernel
theorem dX0_init_4 : decode cX0_init 4 = .ok (.aload_n 0, 1) := by decide +kernel
theorem dX0_init_5 : decode cX0_init 5 = .ok (.bipush 6, 2) := by decide +kernel
theorem dX0_init_7 : decode cX0_init 7 = .ok (.anewarray 9, 3) := by decide +kernel
theorem dX0_init_10 : decode cX0_init 10 = .ok (.putfield 11, 3) := by decide +kernel
theorem dX0_init_13 : decode cX0_init 13 = .ok (.iconst 0, 1) := by decide +kernel
theorem dX0_init_14 : decode cX0_init 14 = .ok (.istore_n 1, 1) := by decide +kernel
theorem dX0_init_15 : decode cX0_init 15 = .ok (.iload_n 1, 1) := by decide +kernel
theorem dX0_init_16 : decode cX0_init 16 = .ok (.aload_n 0, 1) := by decide +kernel
theorem dX0_init_17 : decode cX0_init 17 = .ok (.getfield 11, 3) := by decide +kernel
theorem dX0_init_20 : decode cX0_init 20 = .ok (.arraylength, 1) := by decide +kernel
theorem dX0_init_21 : decode cX0_init 21 = .ok (.if_icmp .ge 22, 3) := by decide +kernel
theorem dX0_init_24 : decode cX0_init 24 = .ok (.aload_n 0, 1) := by decide +kernel
theorem dX0_init_25 : decode cX0_init 25 = .ok (.getfield 11, 3) := by decide +kernel
theorem dX0_init_28 : decode cX0_init 28 = .ok (.iload_n 1, 1) := by decide +kernel
theorem dX0_init_29 : decode cX0_init 29 = .ok (.new 9, 3) := by decide +kernel
theorem dX0_init_32 : decode cX0_init 32 = .ok (.dup, 1) := by decide +kernel
theorem dX0_init_33 : decode cX0_init 33 = .ok (.invokespecial 17, 3) := by decide +kernel
theorem dX0_init_36 : decode cX0_init 36 = .ok (.aastore, 1) := by decide +kernel
theorem dX0_init_37 : decode cX0_init 37 = .ok (.iinc 1 1, 3) := by decide +kernel
theorem dX0_init_40 : decode cX0_init 40 = .ok (.goto (-25), 3) := by decide +kernel
theorem dX0_init_43 : decode cX0_init 43 = .ok (.return_, 1) := by decide +kernel
theorem dX0_save_0 : decode cX0_save 0 = .ok (.aload_n 0, 1) := by decide +kernel
theorem dX0_save_1 : decode cX0_save 1 = .ok (.getfield 18, 3) := by decide +kernel
theorem dX0_save_4 : decode cX0_save 4 = .ok (.bipush 6, 2) := by decide +kernel
theorem dX0_save_6 : decode cX0_save 6 = .ok (.if_icmp .lt 26, 3) := by decide +kernel
theorem dX0_save_9 : decode cX0_save 9 = .ok (.aload_n 0, 1) := by decide +kernel
theorem dX0_save_10 : decode cX0_save 10 = .ok (.aload_n 0, 1) := by decide +kernel
theorem dX0_save_11 : decode cX0_save 11 = .ok (.getfield 22, 3) := by decide +kernel
theorem dX0_save_14 : decode cX0_save 14 = .ok (.iconst 1, 1) := by decide +kernel
theorem dX0_save_15 : decode cX0_save 15 = .ok (.iadd, 1) := by decide +kernel
theorem dX0_save_16 : decode cX0_save 16 = .ok (.bipush 6, 2) := by decide +kernel
theorem dX0_save_18 : decode cX0_save 18 = .ok (.irem, 1) := by decide +kernel
theorem dX0_save_19 : decode cX0_save 19 = .ok (.putfield 22, 3) := by decide +kernel
theorem dX0_save_22 : decode cX0_save 22 = .ok (.aload_n 0, 1) := by decide +kernel
theorem dX0_save_23 : decode cX0_save 23 = .ok (.dup, 1) := by decide +kernel
theorem dX0_save_24 : decode cX0_save 24 = .ok (.getfield 18, 3) := by decide +kernel
theorem dX0_save_27 : decode cX0_save 27 = .ok (.iconst 1, 1) := by decide +kernel
theorem dX0_save_28 : decode cX0_save 28 = .ok (.isub, 1) := by decide +kernel
theorem dX0_save_29 : decode cX0_save 29 = .ok (.putfield 18, 3) := by decide +kernel
theorem dX0_save_32 : decode cX0_save 32 = .ok (.aload_n 0, 1) := by decide +kernel
theorem dX0_save_33 : decode cX0_save 33 = .ok (.aload_n 0, 1) := by decide +kernel
theorem dX0_save_34 : decode cX0_save 34 = .ok (.getfield 18, 3) := by decide +kernel
theorem dX0_save_37 : decode cX0_save 37 = .ok (.invokevirtual 25, 3) := by decide +kernel
theorem dX0_save_40 : decode cX0_save 40 = .ok (.astore_n 2, 1) := by decide +kernel
theorem dX0_save_41 : decode cX0_save 41 = .ok (.aload_n 2, 1) := by decide +kernel
theorem dX0_save_42 : decode cX0_save 42 = .ok (.ifnull 8, 3) := by decide +kernel
theorem dX0_save_45 : decode cX0_save 45 = .ok (.aload_n 2, 1) := by decide +kernel
theorem dX0_save_46 : decode cX0_save 46 = .ok (.aload_n 1, 1) := by decide +kernel
theorem dX0_save_47 : decode cX0_save 47 = .ok (.invokevirtual 29, 3) := by decide +kernel
theorem dX0_save_50 : decode cX0_save 50 = .ok (.aload_n 0, 1) := by decide +kernel
theorem dX0_save_51 : decode cX0_save 51 = .ok (.dup, 1) := by decide +kernel
theorem dX0_save_52 : decode cX0_save 52 = .ok (.getfield 18, 3) := by decide +kernel
theorem dX0_save_55 : decode cX0_save 55 = .ok (.iconst 1, 1) := by decide +kernel
theorem dX0_save_56 : decode cX0_save 56 = .ok (.iadd, 1) := by decide +kernel
theorem dX0_save_57 : decode cX0_save 57 = .ok (.putfield 18, 3) := by decide +kernel
theorem dX0_save_60 : decode cX0_save 60 = .ok (.return_, 1) := by decide +kernel
theorem dX0_stateAt_0 : decode cX0_stateAt 0 = .ok (.aload_n 0, 1) := by decide +kernel
theorem dX0_stateAt_1 : decode cX0_stateAt 1 = .ok (.getfield 22, 3) := by decide +kernel
theorem dX0_stateAt_4 : decode cX0_stateAt 4 = .ok (.iload_n 1, 1) := by decide +kernel
theorem dX0_stateAt_5 : decode cX0_stateAt 5 = .ok (.iadd, 1) := by decide +kernel
theorem dX0_stateAt_6 : decode cX0_stateAt 6 = .ok (.bipush 6, 2) := by decide +kernel
theorem dX0_stateAt_8 : decode cX0_stateAt 8 = .ok (.irem, 1) := by decide +kernel
theorem dX0_stateAt_9 : decode cX0_stateAt 9 = .ok (.istore_n 2, 1) := by decide +kernel
theorem dX0_stateAt_10 : decode cX0_stateAt 10 = .ok (.iload_n 2, 1) := by decide +kernel
theorem dX0_stateAt_11 : decode cX0_stateAt 11 = .ok (.ifCond .lt 12, 3) := by decide +kernel
theorem dX0_stateAt_14 : decode cX0_stateAt 14 = .ok (.iload_n 2, 1) := by decide +kernel
theorem dX0_stateAt_15 : decode cX0_stateAt 15 = .ok (.aload_n 0, 1) := by decide +kernel
theorem dX0_stateAt_16 : decode cX0_stateAt 16 = .ok (.getfield 11, 3) := by decide +kernel
theorem dX0_stateAt_19 : decode cX0_stateAt 19 = .ok (.arraylength, 1) := by decide +kernel
theorem dX0_stateAt_20 : decode cX0_stateAt 20 = .ok (.if_icmp .lt 7, 3) := by decide +kernel
theorem dX0_stateAt_23 : decode cX0_stateAt 23 = .ok (.aconst_null, 1) := by decide +kernel
theorem dX0_stateAt_24 : decode cX0_stateAt 24 = .ok (.goto 9, 3) := by decide +kernel
theorem dX0_stateAt_27 : decode cX0_stateAt 27 = .ok (.aload_n 0, 1) := by decide +kernel
theorem dX0_stateAt_28 : decode cX0_stateAt 28 = .ok (.getfield 11, 3) := by decide +kernel
theorem dX0_stateAt_31 : decode cX0_stateAt 31 = .ok (.iload_n 2, 1) := by decide +kernel
theorem dX0_stateAt_32 : decode cX0_stateAt 32 = .ok (.aaload, 1) := by decide +kernel
theorem dX0_stateAt_33 : decode cX0_stateAt 33 = .ok (.areturn, 1) := by decide +kernel
theorem dX1_init_0 : decode cX1_init 0 = .ok (.aload_n 0, 1) := by decide +kernel
theorem dX1_init_1 : decode cX1_init 1 = .ok (.invokespecial 3, 3) := by decide +kernel
theorem dX1_init_4 : decode cX1_init 4 = .ok (.aload_n 0, 1) := by decide +kernel
theorem dX1_init_5 : decode cX1_init 5 = .ok (.new 9, 3) := by decide +kernel
theorem dX1_init_8 : decode cX1_init 8 = .ok (.dup, 1) := by decide +kernel
theorem dX1_init_9 : decode cX1_init 9 = .ok (.bipush 24, 2) := by decide +kernel
theorem dX1_init_11 : decode cX1_init 11 = .ok (.invokespecial 11, 3) := by decide +kernel
theorem dX1_init_14 : decode cX1_init 14 = .ok (.putfield 14, 3) := by decide +kernel
theorem dX1_init_17 : decode cX1_init 17 = .ok (.aload_n 0, 1) := by decide +kernel
theorem dX1_init_18 : decode cX1_init 18 = .ok (.new 9, 3) := by decide +kernel
theorem dX1_init_21 : decode cX1_init 21 = .ok (.dup, 1) := by decide +kernel
theorem dX1_init_22 : decode cX1_init 22 = .ok (.bipush 8, 2) := by decide +kernel
theorem dX1_init_24 : decode cX1_init 24 = .ok (.invokespecial 11, 3) := by decide +kernel
theorem dX1_init_27 : decode cX1_init 27 = .ok (.putfield 20, 3) := by decide +kernel
theorem dX1_init_30 : decode cX1_init 30 = .ok (.aload_n 0, 1) := by decide +kernel
theorem dX1_init_31 : decode cX1_init 31 = .ok (.new 9, 3) := by decide +kernel
theorem dX1_init_34 : decode cX1_init 34 = .ok (.dup, 1) := by decide +kernel
theorem dX1_init_35 : decode cX1_init 35 = .ok (.bipush 8, 2) := by decide +kernel
theorem dX1_init_37 : decode cX1_init 37 = .ok (.invokespecial 11, 3) := by decide +kernel
theorem dX1_init_40 : decode cX1_init 40 = .ok (.putfield 23, 3) := by decide +kernel
theorem dX1_init_43 : decode cX1_init 43 = .ok (.aload_n 0, 1) := by decide +kernel
theorem dX1_init_44 : decode cX1_init 44 = .ok (.new 9, 3) := by decide +kernel
theorem dX1_init_47 : decode cX1_init 47 = .ok (.dup, 1) := by decide +kernel
theorem dX1_init_48 : decode cX1_init 48 = .ok (.bipush 8, 2) := by decide +kernel
theorem dX1_init_50 : decode cX1_init 50 = .ok (.invokespecial 11, 3) := by decide +kernel
theorem dX1_init_53 : decode cX1_init 53 = .ok (.putfield 26, 3) := by decide +kernel
theorem dX1_init_56 : decode cX1_init 56 = .ok (.aload_n 0, 1) := by decide +kernel
theorem dX1_init_57 : decode cX1_init 57 = .ok (.new 9, 3) := by decide +kernel
theorem dX1_init_60 : decode cX1_init 60 = .ok (.dup, 1) := by decide +kernel
theorem dX1_init_61 : decode cX1_init 61 = .ok (.bipush 8, 2) := by decide +kernel
theorem dX1_init_63 : decode cX1_init 63 = .ok (.invokespecial 11, 3) := by decide +kernel
theorem dX1_init_66 : decode cX1_init 66 = .ok (.putfield 29, 3) := by decide +kernel
theorem dX1_init_69 : decode cX1_init 69 = .ok (.aload_n 0, 1) := by decide +kernel
theorem dX1_init_70 : decode cX1_init 70 = .ok (.new 9, 3) := by decide +kernel
theorem dX1_init_73 : decode cX1_init 73 = .ok (.dup, 1) := by decide +kernel
theorem dX1_init_74 : decode cX1_init 74 = .ok (.bipush 8, 2) := by decide +kernel
theorem dX1_init_76 : decode cX1_init 76 = .ok (.invokespecial 11, 3) := by decide +kernel
theorem dX1_init_79 : decode cX1_init 79 = .ok (.putfield 32, 3) := by decide +kernel
theorem dX1_init_82 : decode cX1_init 82 = .ok (.return_, 1) := by decide +kernel
theorem dX1_addOne_0 : decode cX1_addOne 0 = .ok (.aload_n 0, 1) := by decide +kernel
theorem dX1_addOne_1 : decode cX1_addOne 1 = .ok (.getfield 35, 3) := by decide +kernel
theorem dX1_addOne_4 : decode cX1_addOne 4 = .ok (.iconst 3, 1) := by decide +kernel
theorem dX1_addOne_5 : decode cX1_addOne 5 = .ok (.imul, 1) := by decide +kernel
theorem dX1_addOne_6 : decode cX1_addOne 6 = .ok (.istore 4, 2) := by decide +kernel
theorem dX1_addOne_8 : decode cX1_addOne 8 = .ok (.aload_n 0, 1) := by decide +kernel
theorem dX1_addOne_9 : decode cX1_addOne 9 = .ok (.getfield 14, 3) := by decide +kernel
theorem dX1_addOne_12 : decode cX1_addOne 12 = .ok (.iload 4, 2) := by decide +kernel
theorem dX1_addOne_14 : decode cX1_addOne 14 = .ok (.iload_n 1, 1) := by decide +kernel
theorem dX1_addOne_15 : decode cX1_addOne 15 = .ok (.invokevirtual 39, 3) := by decide +kernel
theorem dX1_addOne_18 : decode cX1_addOne 18 = .ok (.aload_n 0, 1) := by decide +kernel
theorem dX1_addOne_19 : decode cX1_addOne 19 = .ok (.getfield 14, 3) := by decide +kernel
theorem dX1_addOne_22 : decode cX1_addOne 22 = .ok (.iload 4, 2) := by decide +kernel
theorem dX1_addOne_24 : decode cX1_addOne 24 = .ok (.iconst 1, 1) := by decide +kernel
theorem dX1_addOne_25 : decode cX1_addOne 25 = .ok (.iadd, 1) := by decide +kernel
theorem dX1_addOne_26 : decode cX1_addOne 26 = .ok (.iload_n 2, 1) := by decide +kernel
theorem dX1_addOne_27 : decode cX1_addOne 27 = .ok (.invokevirtual 39, 3) := by decide +kernel
theorem dX1_addOne_30 : decode cX1_addOne 30 = .ok (.aload_n 0, 1) := by decide +kernel
theorem dX1_addOne_31 : decode cX1_addOne 31 = .ok (.getfield 14, 3) := by decide +kernel
theorem dX1_addOne_34 : decode cX1_addOne 34 = .ok (.iload 4, 2) := by decide +kernel
theorem dX1_addOne_36 : decode cX1_addOne 36 = .ok (.iconst 2, 1) := by decide +kernel
theorem dX1_addOne_37 : decode cX1_addOne 37 = .ok (.iadd, 1) := by decide +kernel
theorem dX1_addOne_38 : decode cX1_addOne 38 = .ok (.iload_n 3, 1) := by decide +kernel
theorem dX1_addOne_39 : decode cX1_addOne 39 = .ok (.invokevirtual 39, 3) := by decide +kernel
theorem dX1_addOne_42 : decode cX1_addOne 42 = .ok (.aload_n 0, 1) := by decide +kernel
theorem dX1_addOne_43 : decode cX1_addOne 43 = .ok (.dup, 1) := by decide +kernel
theorem dX1_addOne_44 : decode cX1_addOne 44 = .ok (.getfield 35, 3) := by decide +kernel
theorem dX1_addOne_47 : decode cX1_addOne 47 = .ok (.iconst 1, 1) := by decide +kernel
theorem dX1_addOne_48 : decode cX1_addOne 48 = .ok (.iadd, 1) := by decide +kernel
theorem dX1_addOne_49 : decode cX1_addOne 49 = .ok (.putfield 35, 3) := by decide +kernel
theorem dX1_addOne_52 : decode cX1_addOne 52 = .ok (.aload_n 0, 1) := by decide +kernel
theorem dX1_addOne_53 : decode cX1_addOne 53 = .ok (.getfield 35, 3) := by decide +kernel
theorem dX1_addOne_56 : decode cX1_addOne 56 = .ok (.iconst 1, 1) := by decide +kernel
theorem dX1_addOne_57 : decode cX1_addOne 57 = .ok (.isub, 1) := by decide +kernel
theorem dX1_addOne_58 : decode cX1_addOne 58 = .ok (.ireturn, 1) := by decide +kernel
theorem dX1_lifeIn_0 : decode cX1_lifeIn 0 = .ok (.aload_n 0, 1) := by decide +kernel
theorem dX1_lifeIn_1 : decode cX1_lifeIn 1 = .ok (.getfield 14, 3) := by decide +kernel
theorem dX1_lifeIn_4 : decode cX1_lifeIn 4 = .ok (.iload_n 1, 1) := by decide +kernel
theorem dX1_lifeIn_5 : decode cX1_lifeIn 5 = .ok (.iconst 3, 1) := by decide +kernel
theorem dX1_lifeIn_6 : decode cX1_lifeIn 6 = .ok (.imul, 1) := by decide +kernel
theorem dX1_lifeIn_7 : decode cX1_lifeIn 7 = .ok (.iload_n 2, 1) := by decide +kernel
theorem dX1_lifeIn_8 : decode cX1_lifeIn 8 = .ok (.iadd, 1) := by decide +kernel
theorem dX1_lifeIn_9 : decode cX1_lifeIn 9 = .ok (.invokevirtual 43, 3) := by decide +kernel
theorem dX1_lifeIn_12 : decode cX1_lifeIn 12 = .ok (.ireturn, 1) := by decide +kernel
theorem dX1_become_0 : decode cX1_become 0 = .ok (.aload_n 1, 1) := by decide +kernel
theorem dX1_become_1 : decode cX1_become 1 = .ok (.ifnonnull 4, 3) := by decide +kernel
theorem dX1_become_4 : decode cX1_become 4 = .ok (.return_, 1) := by decide +kernel
theorem dX1_become_5 : decode cX1_become 5 = .ok (.aload_n 0, 1) := by decide +kernel
theorem dX1_become_6 : decode cX1_become 6 = .ok (.aload_n 1, 1) := by decide +kernel
theorem dX1_become_7 : decode cX1_become 7 = .ok (.getfield 35, 3) := by decide +kernel
theorem dX1_become_10 : decode cX1_become 10 = .ok (.putfield 35, 3) := by decide +kernel
theorem dX1_become_13 : decode cX1_become 13 = .ok (.aload_n 0, 1) := by decide +kernel
theorem dX1_become_14 : decode cX1_become 14 = .ok (.getfield 14, 3) := by decide +kernel
theorem dX1_become_17 : decode cX1_become 17 = .ok (.aload_n 1, 1) := by decide +kernel
theorem dX1_become_18 : decode cX1_become 18 = .ok (.getfield 14, 3) := by decide +kernel
theorem dX1_become_21 : decode cX1_become 21 = .ok (.invokevirtual 47, 3) := by decide +kernel
theorem dX1_become_24 : decode cX1_become 24 = .ok (.aload_n 0, 1) := by decide +kernel
theorem dX1_become_25 : decode cX1_become 25 = .ok (.getfield 20, 3) := by decide +kernel
theorem dX1_become_28 : decode cX1_become 28 = .ok (.aload_n 1, 1) := by decide +kernel
theorem dX1_become_29 : decode cX1_become 29 = .ok (.getfield 20, 3) := by decide +kernel
theorem dX1_become_32 : decode cX1_become 32 = .ok (.invokevirtual 47, 3) := by decide +kernel
theorem dX1_become_35 : decode cX1_become 35 = .ok (.aload_n 0, 1) := by decide +kernel
theorem dX1_become_36 : decode cX1_become 36 = .ok (.getfield 23, 3) := by decide +kernel
theorem dX1_become_39 : decode cX1_become 39 = .ok (.aload_n 1, 1) := by decide +kernel
theorem dX1_become_40 : decode cX1_become 40 = .ok (.getfield 23, 3) := by decide +kernel
theorem dX1_become_43 : decode cX1_become 43 = .ok (.invokevirtual 47, 3) := by decide +kernel
theorem dX1_become_46 : decode cX1_become 46 = .ok (.aload_n 0, 1) := by decide +kernel
theorem dX1_become_47 : decode cX1_become 47 = .ok (.getfield 26, 3) := by decide +kernel
theorem dX1_become_50 : decode cX1_become 50 = .ok (.aload_n 1, 1) := by decide +kernel
theorem dX1_become_51 : decode cX1_become 51 = .ok (.getfield 26, 3) := by decide +kernel
theorem dX1_become_54 : decode cX1_become 54 = .ok (.invokevirtual 47, 3) := by decide +kernel
theorem dX1_become_57 : decode cX1_become 57 = .ok (.aload_n 0, 1) := by decide +kernel
theorem dX1_become_58 : decode cX1_become 58 = .ok (.getfield 29, 3) := by decide +kernel
theorem dX1_become_61 : decode cX1_become 61 = .ok (.aload_n 1, 1) := by decide +kernel
theorem dX1_become_62 : decode cX1_become 62 = .ok (.getfield 29, 3) := by decide +kernel
theorem dX1_become_65 : decode cX1_become 65 = .ok (.invokevirtual 47, 3) := by decide +kernel
theorem dX1_become_68 : decode cX1_become 68 = .ok (.aload_n 0, 1) := by decide +kernel
theorem dX1_become_69 : decode cX1_become 69 = .ok (.getfield 32, 3) := by decide +kernel
theorem dX1_become_72 : decode cX1_become 72 = .ok (.aload_n 1, 1) := by decide +kernel
theorem dX1_become_73 : decode cX1_become 73 = .ok (.getfield 32, 3) := by decide +kernel
theorem dX1_become_76 : decode cX1_become 76 = .ok (.invokevirtual 47, 3) := by decide +kernel
theorem dX1_become_79 : decode cX1_become 79 = .ok (.return_, 1) := by decide +kernel
theorem dX2_init_0 : decode cX2_init 0 = .ok (.aload_n 0, 1) := by decide +kernel
theorem dX2_init_1 : decode cX2_init 1 = .ok (.invokespecial 3, 3) := by decide +kernel
theorem dX2_init_4 : decode cX2_init 4 = .ok (.aload_n 0, 1) := by decide +kernel
theorem dX2_init_5 : decode cX2_init 5 = .ok (.new 9, 3) := by decide +kernel
theorem dX2_init_8 : decode cX2_init 8 = .ok (.dup, 1) := by decide +kernel
theorem dX2_init_9 : decode cX2_init 9 = .ok (.bipush 31, 2) := by decide +kernel
theorem dX2_init_11 : decode cX2_init 11 = .ok (.invokespecial 11, 3) := by decide +kernel
theorem dX2_init_14 : decode cX2_init 14 = .ok (.putfield 14, 3) := by decide +kernel
theorem dX2_init_17 : decode cX2_init 17 = .ok (.aload_n 0, 1) := by decide +kernel
theorem dX2_init_18 : decode cX2_init 18 = .ok (.new 9, 3) := by decide +kernel
theorem dX2_init_21 : decode cX2_init 21 = .ok (.dup, 1) := by decide +kernel
theorem dX2_init_22 : decode cX2_init 22 = .ok (.bipush 31, 2) := by decide +kernel
theorem dX2_init_24 : decode cX2_init 24 = .ok (.invokespecial 11, 3) := by decide +kernel
theorem dX2_init_27 : decode cX2_init 27 = .ok (.putfield 20, 3) := by decide +kernel
theorem dX2_init_30 : decode cX2_init 30 = .ok (.aload_n 0, 1) := by decide +kernel
theorem dX2_init_31 : decode cX2_init 31 = .ok (.new 9, 3) := by decide +kernel
theorem dX2_init_34 : decode cX2_init 34 = .ok (.dup, 1) := by decide +kernel
theorem dX2_init_35 : decode cX2_init 35 = .ok (.bipush 31, 2) := by decide +kernel
theorem dX2_init_37 : decode cX2_init 37 = .ok (.invokespecial 11, 3) := by decide +kernel
theorem dX2_init_40 : decode cX2_init 40 = .ok (.putfield 23, 3) := by decide +kernel
theorem dX2_init_43 : decode cX2_init 43 = .ok (.aload_n 0, 1) := by decide +kernel
theorem dX2_init_44 : decode cX2_init 44 = .ok (.new 9, 3) := by decide +kernel
theorem dX2_init_47 : decode cX2_init 47 = .ok (.dup, 1) := by decide +kernel
theorem dX2_init_48 : decode cX2_init 48 = .ok (.bipush 31, 2) := by decide +kernel
theorem dX2_init_50 : decode cX2_init 50 = .ok (.invokespecial 11, 3) := by decide +kernel
theorem dX2_init_53 : decode cX2_init 53 = .ok (.putfield 26, 3) := by decide +kernel
theorem dX2_init_56 : decode cX2_init 56 = .ok (.return_, 1) := by decide +kernel
theorem dX2_addOne_0 : decode cX2_addOne 0 = .ok (.aload_n 0, 1) := by decide +kernel
theorem dX2_addOne_1 : decode cX2_addOne 1 = .ok (.getfield 14, 3) := by decide +kernel
theorem dX2_addOne_4 : decode cX2_addOne 4 = .ok (.aload_n 0, 1) := by decide +kernel
theorem dX2_addOne_5 : decode cX2_addOne 5 = .ok (.getfield 29, 3) := by decide +kernel
theorem dX2_addOne_8 : decode cX2_addOne 8 = .ok (.iload_n 1, 1) := by decide +kernel
theorem dX2_addOne_9 : decode cX2_addOne 9 = .ok (.invokevirtual 33, 3) := by decide +kernel
theorem dX2_addOne_12 : decode cX2_addOne 12 = .ok (.aload_n 0, 1) := by decide +kernel
theorem dX2_addOne_13 : decode cX2_addOne 13 = .ok (.getfield 20, 3) := by decide +kernel
theorem dX2_addOne_16 : decode cX2_addOne 16 = .ok (.aload_n 0, 1) := by decide +kernel
theorem dX2_addOne_17 : decode cX2_addOne 17 = .ok (.getfield 29, 3) := by decide +kernel
theorem dX2_addOne_20 : decode cX2_addOne 20 = .ok (.iload_n 2, 1) := by decide +kernel
theorem dX2_addOne_21 : decode cX2_addOne 21 = .ok (.invokevirtual 33, 3) := by decide +kernel
theorem dX2_addOne_24 : decode cX2_addOne 24 = .ok (.aload_n 0, 1) := by decide +kernel
theorem dX2_addOne_25 : decode cX2_addOne 25 = .ok (.getfield 23, 3) := by decide +kernel
theorem dX2_addOne_28 : decode cX2_addOne 28 = .ok (.aload_n 0, 1) := by decide +kernel
theorem dX2_addOne_29 : decode cX2_addOne 29 = .ok (.getfield 29, 3) := by decide +kernel
theorem dX2_addOne_32 : decode cX2_addOne 32 = .ok (.iload_n 3, 1) := by decide +kernel
theorem dX2_addOne_33 : decode cX2_addOne 33 = .ok (.invokevirtual 33, 3) := by decide +kernel
theorem dX2_addOne_36 : decode cX2_addOne 36 = .ok (.aload_n 0, 1) := by decide +kernel
theorem dX2_addOne_37 : decode cX2_addOne 37 = .ok (.getfield 26, 3) := by decide +kernel
theorem dX2_addOne_40 : decode cX2_addOne 40 = .ok (.aload_n 0, 1) := by decide +kernel
theorem dX2_addOne_41 : decode cX2_addOne 41 = .ok (.getfield 29, 3) := by decide +kernel
theorem dX2_addOne_44 : decode cX2_addOne 44 = .ok (.iload 4, 2) := by decide +kernel
theorem dX2_addOne_46 : decode cX2_addOne 46 = .ok (.invokevirtual 33, 3) := by decide +kernel
theorem dX2_addOne_49 : decode cX2_addOne 49 = .ok (.aload_n 0, 1) := by decide +kernel
theorem dX2_addOne_50 : decode cX2_addOne 50 = .ok (.dup, 1) := by decide +kernel
theorem dX2_addOne_51 : decode cX2_addOne 51 = .ok (.getfield 29, 3) := by decide +kernel
theorem dX2_addOne_54 : decode cX2_addOne 54 = .ok (.iconst 1, 1) := by decide +kernel
theorem dX2_addOne_55 : decode cX2_addOne 55 = .ok (.iadd, 1) := by decide +kernel
theorem dX2_addOne_56 : decode cX2_addOne 56 = .ok (.putfield 29, 3) := by decide +kernel
theorem dX2_addOne_59 : decode cX2_addOne 59 = .ok (.aload_n 0, 1) := by decide +kernel
theorem dX2_addOne_60 : decode cX2_addOne 60 = .ok (.getfield 29, 3) := by decide +kernel
theorem dX2_addOne_63 : decode cX2_addOne 63 = .ok (.iconst 1, 1) := by decide +kernel
theorem dX2_addOne_64 : decode cX2_addOne 64 = .ok (.isub, 1) := by decide +kernel
theorem dX2_addOne_65 : decode cX2_addOne 65 = .ok (.ireturn, 1) := by decide +kernel
theorem dX2_dropEmpty_0 : decode cX2_dropEmpty 0 = .ok (.iconst 0, 1) := by decide +kernel
theorem dX2_dropEmpty_1 : decode cX2_dropEmpty 1 = .ok (.istore_n 1, 1) := by decide +kernel
theorem dX2_dropEmpty_2 : decode cX2_dropEmpty 2 = .ok (.iconst 0, 1) := by decide +kernel
theorem dX2_dropEmpty_3 : decode cX2_dropEmpty 3 = .ok (.istore_n 2, 1) := by decide +kernel
theorem dX2_dropEmpty_4 : decode cX2_dropEmpty 4 = .ok (.iload_n 2, 1) := by decide +kernel
theorem dX2_dropEmpty_5 : decode cX2_dropEmpty 5 = .ok (.aload_n 0, 1) := by decide +kernel
theorem dX2_dropEmpty_6 : decode cX2_dropEmpty 6 = .ok (.getfield 29, 3) := by decide +kernel
theorem dX2_dropEmpty_9 : decode cX2_dropEmpty 9 = .ok (.if_icmp .ge 29, 3) := by decide +kernel
theorem dX2_dropEmpty_12 : decode cX2_dropEmpty 12 = .ok (.aload_n 0, 1) := by decide +kernel
theorem dX2_dropEmpty_13 : decode cX2_dropEmpty 13 = .ok (.getfield 23, 3) := by decide +kernel
theorem dX2_dropEmpty_16 : decode cX2_dropEmpty 16 = .ok (.iload_n 2, 1) := by decide +kernel
theorem dX2_dropEmpty_17 : decode cX2_dropEmpty 17 = .ok (.invokevirtual 40, 3) := by decide +kernel
theorem dX2_dropEmpty_20 : decode cX2_dropEmpty 20 = .ok (.ifCond .le 12, 3) := by decide +kernel
theorem dX2_dropEmpty_23 : decode cX2_dropEmpty 23 = .ok (.aload_n 0, 1) := by decide +kernel
theorem dX2_dropEmpty_24 : decode cX2_dropEmpty 24 = .ok (.iload_n 2, 1) := by decide +kernel
theorem dX2_dropEmpty_25 : decode cX2_dropEmpty 25 = .ok (.iload_n 1, 1) := by decide +kernel
theorem dX2_dropEmpty_26 : decode cX2_dropEmpty 26 = .ok (.invokevirtual 48, 3) := by decide +kernel
theorem dX2_dropEmpty_29 : decode cX2_dropEmpty 29 = .ok (.iinc 1 1, 3) := by decide +kernel
theorem dX2_dropEmpty_32 : decode cX2_dropEmpty 32 = .ok (.iinc 2 1, 3) := by decide +kernel
theorem dX2_dropEmpty_35 : decode cX2_dropEmpty 35 = .ok (.goto (-31), 3) := by decide +kernel
theorem dX2_dropEmpty_38 : decode cX2_dropEmpty 38 = .ok (.aload_n 0, 1) := by decide +kernel
theorem dX2_dropEmpty_39 : decode cX2_dropEmpty 39 = .ok (.iload_n 1, 1) := by decide +kernel
theorem dX2_dropEmpty_40 : decode cX2_dropEmpty 40 = .ok (.putfield 29, 3) := by decide +kernel
theorem dX2_dropEmpty_43 : decode cX2_dropEmpty 43 = .ok (.return_, 1) := by decide +kernel
theorem dX2_copyLot_0 : decode cX2_copyLot 0 = .ok (.iload_n 1, 1) := by decide +kernel
theorem dX2_copyLot_1 : decode cX2_copyLot 1 = .ok (.iload_n 2, 1) := by decide +kernel
theorem dX2_copyLot_2 : decode cX2_copyLot 2 = .ok (.if_icmp .eq 67, 3) := by decide +kernel
theorem dX2_copyLot_5 : decode cX2_copyLot 5 = .ok (.aload_n 0, 1) := by decide +kernel
theorem dX2_copyLot_6 : decode cX2_copyLot 6 = .ok (.getfield 14, 3) := by decide +kernel
theorem dX2_copyLot_9 : decode cX2_copyLot 9 = .ok (.iload_n 2, 1) := by decide +kernel
theorem dX2_copyLot_10 : decode cX2_copyLot 10 = .ok (.aload_n 0, 1) := by decide +kernel
theorem dX2_copyLot_11 : decode cX2_copyLot 11 = .ok (.getfield 14, 3) := by decide +kernel
theorem dX2_copyLot_14 : decode cX2_copyLot 14 = .ok (.iload_n 1, 1) := by decide +kernel
theorem dX2_copyLot_15 : decode cX2_copyLot 15 = .ok (.invokevirtual 40, 3) := by decide +kernel
theorem dX2_copyLot_18 : decode cX2_copyLot 18 = .ok (.invokevirtual 33, 3) := by decide +kernel
theorem dX2_copyLot_21 : decode cX2_copyLot 21 = .ok (.aload_n 0, 1) := by decide +kernel
theorem dX2_copyLot_22 : decode cX2_copyLot 22 = .ok (.getfield 20, 3) := by decide +kernel
theorem dX2_copyLot_25 : decode cX2_copyLot 25 = .ok (.iload_n 2, 1) := by decide +kernel
theorem dX2_copyLot_26 : decode cX2_copyLot 26 = .ok (.aload_n 0, 1) := by decide +kernel
theorem dX2_copyLot_27 : decode cX2_copyLot 27 = .ok (.getfield 20, 3) := by decide +kernel
theorem dX2_copyLot_30 : decode cX2_copyLot 30 = .ok (.iload_n 1, 1) := by decide +kernel
theorem dX2_copyLot_31 : decode cX2_copyLot 31 = .ok (.invokevirtual 40, 3) := by decide +kernel
theorem dX2_copyLot_34 : decode cX2_copyLot 34 = .ok (.invokevirtual 33, 3) := by decide +kernel
theorem dX2_copyLot_37 : decode cX2_copyLot 37 = .ok (.aload_n 0, 1) := by decide +kernel
theorem dX2_copyLot_38 : decode cX2_copyLot 38 = .ok (.getfield 23, 3) := by decide +kernel
theorem dX2_copyLot_41 : decode cX2_copyLot 41 = .ok (.iload_n 2, 1) := by decide +kernel
theorem dX2_copyLot_42 : decode cX2_copyLot 42 = .ok (.aload_n 0, 1) := by decide +kernel
theorem dX2_copyLot_43 : decode cX2_copyLot 43 = .ok (.getfield 23, 3) := by decide +kernel
theorem dX2_copyLot_46 : decode cX2_copyLot 46 = .ok (.iload_n 1, 1) := by decide +kernel
theorem dX2_copyLot_47 : decode cX2_copyLot 47 = .ok (.invokevirtual 40, 3) := by decide +kernel
theorem dX2_copyLot_50 : decode cX2_copyLot 50 = .ok (.invokevirtual 33, 3) := by decide +kernel
theorem dX2_copyLot_53 : decode cX2_copyLot 53 = .ok (.aload_n 0, 1) := by decide +kernel
theorem dX2_copyLot_54 : decode cX2_copyLot 54 = .ok (.getfield 26, 3) := by decide +kernel
theorem dX2_copyLot_57 : decode cX2_copyLot 57 = .ok (.iload_n 2, 1) := by decide +kernel
theorem dX2_copyLot_58 : decode cX2_copyLot 58 = .ok (.aload_n 0, 1) := by decide +kernel
theorem dX2_copyLot_59 : decode cX2_copyLot 59 = .ok (.getfield 26, 3) := by decide +kernel
theorem dX2_copyLot_62 : decode cX2_copyLot 62 = .ok (.iload_n 1, 1) := by decide +kernel
theorem dX2_copyLot_63 : decode cX2_copyLot 63 = .ok (.invokevirtual 40, 3) := by decide +kernel
theorem dX2_copyLot_66 : decode cX2_copyLot 66 = .ok (.invokevirtual 33, 3) := by decide +kernel
theorem dX2_copyLot_69 : decode cX2_copyLot 69 = .ok (.return_, 1) := by decide +kernel
theorem dX2_rations_0 : decode cX2_rations 0 = .ok (.iconst 0, 1) := by decide +kernel
theorem dX2_rations_1 : decode cX2_rations 1 = .ok (.istore_n 1, 1) := by decide +kernel
theorem dX2_rations_2 : decode cX2_rations 2 = .ok (.iconst 0, 1) := by decide +kernel
theorem dX2_rations_3 : decode cX2_rations 3 = .ok (.istore_n 2, 1) := by decide +kernel
theorem dX2_rations_4 : decode cX2_rations 4 = .ok (.iload_n 2, 1) := by decide +kernel
theorem dX2_rations_5 : decode cX2_rations 5 = .ok (.aload_n 0, 1) := by decide +kernel
theorem dX2_rations_6 : decode cX2_rations 6 = .ok (.getfield 29, 3) := by decide +kernel
theorem dX2_rations_9 : decode cX2_rations 9 = .ok (.if_icmp .ge 20, 3) := by decide +kernel
theorem dX2_rations_12 : decode cX2_rations 12 = .ok (.iload_n 1, 1) := by decide +kernel
theorem dX2_rations_13 : decode cX2_rations 13 = .ok (.aload_n 0, 1) := by decide +kernel
theorem dX2_rations_14 : decode cX2_rations 14 = .ok (.getfield 23, 3) := by decide +kernel
theorem dX2_rations_17 : decode cX2_rations 17 = .ok (.iload_n 2, 1) := by decide +kernel
theorem dX2_rations_18 : decode cX2_rations 18 = .ok (.invokevirtual 40, 3) := by decide +kernel
theorem dX2_rations_21 : decode cX2_rations 21 = .ok (.iadd, 1) := by decide +kernel
theorem dX2_rations_22 : decode cX2_rations 22 = .ok (.istore_n 1, 1) := by decide +kernel
theorem dX2_rations_23 : decode cX2_rations 23 = .ok (.iinc 2 1, 3) := by decide +kernel
theorem dX2_rations_26 : decode cX2_rations 26 = .ok (.goto (-22), 3) := by decide +kernel
theorem dX2_rations_29 : decode cX2_rations 29 = .ok (.iload_n 1, 1) := by decide +kernel
theorem dX2_rations_30 : decode cX2_rations 30 = .ok (.ireturn, 1) := by decide +kernel
theorem dX2_rationsIn_0 : decode cX2_rationsIn 0 = .ok (.iconst 0, 1) := by decide +kernel
theorem dX2_rationsIn_1 : decode cX2_rationsIn 1 = .ok (.istore_n 2, 1) := by decide +kernel
theorem dX2_rationsIn_2 : decode cX2_rationsIn 2 = .ok (.iconst 0, 1) := by decide +kernel
theorem dX2_rationsIn_3 : decode cX2_rationsIn 3 = .ok (.istore_n 3, 1) := by decide +kernel
theorem dX2_rationsIn_4 : decode cX2_rationsIn 4 = .ok (.iload_n 3, 1) := by decide +kernel
theorem dX2_rationsIn_5 : decode cX2_rationsIn 5 = .ok (.aload_n 0, 1) := by decide +kernel
theorem dX2_rationsIn_6 : decode cX2_rationsIn 6 = .ok (.getfield 29, 3) := by decide +kernel
theorem dX2_rationsIn_9 : decode cX2_rationsIn 9 = .ok (.if_icmp .ge 36, 3) := by decide +kernel
theorem dX2_rationsIn_12 : decode cX2_rationsIn 12 = .ok (.iload_n 2, 1) := by decide +kernel
theorem dX2_rationsIn_13 : decode cX2_rationsIn 13 = .ok (.aload_n 0, 1) := by decide +kernel
theorem dX2_rationsIn_14 : decode cX2_rationsIn 14 = .ok (.getfield 20, 3) := by decide +kernel
theorem dX2_rationsIn_17 : decode cX2_rationsIn 17 = .ok (.iload_n 3, 1) := by decide +kernel
theorem dX2_rationsIn_18 : decode cX2_rationsIn 18 = .ok (.invokevirtual 40, 3) := by decide +kernel
theorem dX2_rationsIn_21 : decode cX2_rationsIn 21 = .ok (.iload_n 1, 1) := by decide +kernel
theorem dX2_rationsIn_22 : decode cX2_rationsIn 22 = .ok (.if_icmp .ne 14, 3) := by decide +kernel
theorem dX2_rationsIn_25 : decode cX2_rationsIn 25 = .ok (.aload_n 0, 1) := by decide +kernel
theorem dX2_rationsIn_26 : decode cX2_rationsIn 26 = .ok (.getfield 23, 3) := by decide +kernel
theorem dX2_rationsIn_29 : decode cX2_rationsIn 29 = .ok (.iload_n 3, 1) := by decide +kernel
theorem dX2_rationsIn_30 : decode cX2_rationsIn 30 = .ok (.invokevirtual 40, 3) := by decide +kernel
theorem dX2_rationsIn_33 : decode cX2_rationsIn 33 = .ok (.goto 4, 3) := by decide +kernel
theorem dX2_rationsIn_36 : decode cX2_rationsIn 36 = .ok (.iconst 0, 1) := by decide +kernel
theorem dX2_rationsIn_37 : decode cX2_rationsIn 37 = .ok (.iadd, 1) := by decide +kernel
theorem dX2_rationsIn_38 : decode cX2_rationsIn 38 = .ok (.istore_n 2, 1) := by decide +kernel
theorem dX2_rationsIn_39 : decode cX2_rationsIn 39 = .ok (.iinc 3 1, 3) := by decide +kernel
theorem dX2_rationsIn_42 : decode cX2_rationsIn 42 = .ok (.goto (-38), 3) := by decide +kernel
theorem dX2_rationsIn_45 : decode cX2_rationsIn 45 = .ok (.iload_n 2, 1) := by decide +kernel
theorem dX2_rationsIn_46 : decode cX2_rationsIn 46 = .ok (.ireturn, 1) := by decide +kernel
theorem dX2_rationsOf_0 : decode cX2_rationsOf 0 = .ok (.iconst 0, 1) := by decide +kernel
theorem dX2_rationsOf_1 : decode cX2_rationsOf 1 = .ok (.istore_n 2, 1) := by decide +kernel
theorem dX2_rationsOf_2 : decode cX2_rationsOf 2 = .ok (.iconst 0, 1) := by decide +kernel
theorem dX2_rationsOf_3 : decode cX2_rationsOf 3 = .ok (.istore_n 3, 1) := by decide +kernel
theorem dX2_rationsOf_4 : decode cX2_rationsOf 4 = .ok (.iload_n 3, 1) := by decide +kernel
theorem dX2_rationsOf_5 : decode cX2_rationsOf 5 = .ok (.aload_n 0, 1) := by decide +kernel
theorem dX2_rationsOf_6 : decode cX2_rationsOf 6 = .ok (.getfield 29, 3) := by decide +kernel
theorem dX2_rationsOf_9 : decode cX2_rationsOf 9 = .ok (.if_icmp .ge 36, 3) := by decide +kernel
theorem dX2_rationsOf_12 : decode cX2_rationsOf 12 = .ok (.iload_n 2, 1) := by decide +kernel
theorem dX2_rationsOf_13 : decode cX2_rationsOf 13 = .ok (.aload_n 0, 1) := by decide +kernel
theorem dX2_rationsOf_14 : decode cX2_rationsOf 14 = .ok (.getfield 14, 3) := by decide +kernel
theorem dX2_rationsOf_17 : decode cX2_rationsOf 17 = .ok (.iload_n 3, 1) := by decide +kernel
theorem dX2_rationsOf_18 : decode cX2_rationsOf 18 = .ok (.invokevirtual 40, 3) := by decide +kernel
theorem dX2_rationsOf_21 : decode cX2_rationsOf 21 = .ok (.iload_n 1, 1) := by decide +kernel
theorem dX2_rationsOf_22 : decode cX2_rationsOf 22 = .ok (.if_icmp .ne 14, 3) := by decide +kernel
theorem dX2_rationsOf_25 : decode cX2_rationsOf 25 = .ok (.aload_n 0, 1) := by decide +kernel
theorem dX2_rationsOf_26 : decode cX2_rationsOf 26 = .ok (.getfield 23, 3) := by decide +kernel
theorem dX2_rationsOf_29 : decode cX2_rationsOf 29 = .ok (.iload_n 3, 1) := by decide +kernel
theorem dX2_rationsOf_30 : decode cX2_rationsOf 30 = .ok (.invokevirtual 40, 3) := by decide +kernel
theorem dX2_rationsOf_33 : decode cX2_rationsOf 33 = .ok (.goto 4, 3) := by decide +kernel
theorem dX2_rationsOf_36 : decode cX2_rationsOf 36 = .ok (.iconst 0, 1) := by decide +kernel
theorem dX2_rationsOf_37 : decode cX2_rationsOf 37 = .ok (.iadd, 1) := by decide +kernel
theorem dX2_rationsOf_38 : decode cX2_rationsOf 38 = .ok (.istore_n 2, 1) := by decide +kernel
theorem dX2_rationsOf_39 : decode cX2_rationsOf 39 = .ok (.iinc 3 1, 3) := by decide +kernel
theorem dX2_rationsOf_42 : decode cX2_rationsOf 42 = .ok (.goto (-38), 3) := by decide +kernel
theorem dX2_rationsOf_45 : decode cX2_rationsOf 45 = .ok (.iload_n 2, 1) := by decide +kernel
theorem dX2_rationsOf_46 : decode cX2_rationsOf 46 = .ok (.ireturn, 1) := by decide +kernel
theorem dX2_numberIn_0 : decode cX2_numberIn 0 = .ok (.iconst 0, 1) := by decide +kernel
theorem dX2_numberIn_1 : decode cX2_numberIn 1 = .ok (.istore_n 2, 1) := by decide +kernel
theorem dX2_numberIn_2 : decode cX2_numberIn 2 = .ok (.iconst 0, 1) := by decide +kernel
theorem dX2_numberIn_3 : decode cX2_numberIn 3 = .ok (.istore_n 3, 1) := by decide +kernel
theorem dX2_numberIn_4 : decode cX2_numberIn 4 = .ok (.iload_n 3, 1) := by decide +kernel
theorem dX2_numberIn_5 : decode cX2_numberIn 5 = .ok (.aload_n 0, 1) := by decide +kernel
theorem dX2_numberIn_6 : decode cX2_numberIn 6 = .ok (.getfield 29, 3) := by decide +kernel
theorem dX2_numberIn_9 : decode cX2_numberIn 9 = .ok (.if_icmp .ge 29, 3) := by decide +kernel
theorem dX2_numberIn_12 : decode cX2_numberIn 12 = .ok (.iload_n 2, 1) := by decide +kernel
theorem dX2_numberIn_13 : decode cX2_numberIn 13 = .ok (.aload_n 0, 1) := by decide +kernel
theorem dX2_numberIn_14 : decode cX2_numberIn 14 = .ok (.getfield 20, 3) := by decide +kernel
theorem dX2_numberIn_17 : decode cX2_numberIn 17 = .ok (.iload_n 3, 1) := by decide +kernel
theorem dX2_numberIn_18 : decode cX2_numberIn 18 = .ok (.invokevirtual 40, 3) := by decide +kernel
theorem dX2_numberIn_21 : decode cX2_numberIn 21 = .ok (.iload_n 1, 1) := by decide +kernel
theorem dX2_numberIn_22 : decode cX2_numberIn 22 = .ok (.if_icmp .ne 7, 3) := by decide +kernel
theorem dX2_numberIn_25 : decode cX2_numberIn 25 = .ok (.iconst 1, 1) := by decide +kernel
theorem dX2_numberIn_26 : decode cX2_numberIn 26 = .ok (.goto 4, 3) := by decide +kernel
theorem dX2_numberIn_29 : decode cX2_numberIn 29 = .ok (.iconst 0, 1) := by decide +kernel
theorem dX2_numberIn_30 : decode cX2_numberIn 30 = .ok (.iadd, 1) := by decide +kernel
theorem dX2_numberIn_31 : decode cX2_numberIn 31 = .ok (.istore_n 2, 1) := by decide +kernel
theorem dX2_numberIn_32 : decode cX2_numberIn 32 = .ok (.iinc 3 1, 3) := by decide +kernel
theorem dX2_numberIn_35 : decode cX2_numberIn 35 = .ok (.goto (-31), 3) := by decide +kernel
theorem dX2_numberIn_38 : decode cX2_numberIn 38 = .ok (.iload_n 2, 1) := by decide +kernel
theorem dX2_numberIn_39 : decode cX2_numberIn 39 = .ok (.ireturn, 1) := by decide +kernel
theorem dX2_numberOf_0 : decode cX2_numberOf 0 = .ok (.iconst 0, 1) := by decide +kernel
theorem dX2_numberOf_1 : decode cX2_numberOf 1 = .ok (.istore_n 2, 1) := by decide +kernel
theorem dX2_numberOf_2 : decode cX2_numberOf 2 = .ok (.iconst 0, 1) := by decide +kernel
theorem dX2_numberOf_3 : decode cX2_numberOf 3 = .ok (.istore_n 3, 1) := by decide +kernel
theorem dX2_numberOf_4 : decode cX2_numberOf 4 = .ok (.iload_n 3, 1) := by decide +kernel
theorem dX2_numberOf_5 : decode cX2_numberOf 5 = .ok (.aload_n 0, 1) := by decide +kernel
theorem dX2_numberOf_6 : decode cX2_numberOf 6 = .ok (.getfield 29, 3) := by decide +kernel
theorem dX2_numberOf_9 : decode cX2_numberOf 9 = .ok (.if_icmp .ge 29, 3) := by decide +kernel
theorem dX2_numberOf_12 : decode cX2_numberOf 12 = .ok (.iload_n 2, 1) := by decide +kernel
theorem dX2_numberOf_13 : decode cX2_numberOf 13 = .ok (.aload_n 0, 1) := by decide +kernel
theorem dX2_numberOf_14 : decode cX2_numberOf 14 = .ok (.getfield 14, 3) := by decide +kernel
theorem dX2_numberOf_17 : decode cX2_numberOf 17 = .ok (.iload_n 3, 1) := by decide +kernel
theorem dX2_numberOf_18 : decode cX2_numberOf 18 = .ok (.invokevirtual 40, 3) := by decide +kernel
theorem dX2_numberOf_21 : decode cX2_numberOf 21 = .ok (.iload_n 1, 1) := by decide +kernel
theorem dX2_numberOf_22 : decode cX2_numberOf 22 = .ok (.if_icmp .ne 7, 3) := by decide +kernel
theorem dX2_numberOf_25 : decode cX2_numberOf 25 = .ok (.iconst 1, 1) := by decide +kernel
theorem dX2_numberOf_26 : decode cX2_numberOf 26 = .ok (.goto 4, 3) := by decide +kernel
theorem dX2_numberOf_29 : decode cX2_numberOf 29 = .ok (.iconst 0, 1) := by decide +kernel
theorem dX2_numberOf_30 : decode cX2_numberOf 30 = .ok (.iadd, 1) := by decide +kernel
theorem dX2_numberOf_31 : decode cX2_numberOf 31 = .ok (.istore_n 2, 1) := by decide +kernel
theorem dX2_numberOf_32 : decode cX2_numberOf 32 = .ok (.iinc 3 1, 3) := by decide +kernel
theorem dX2_numberOf_35 : decode cX2_numberOf 35 = .ok (.goto (-31), 3) := by decide +kernel
theorem dX2_numberOf_38 : decode cX2_numberOf 38 = .ok (.iload_n 2, 1) := by decide +kernel
theorem dX2_numberOf_39 : decode cX2_numberOf 39 = .ok (.ireturn, 1) := by decide +kernel
theorem dX2_ageSum_0 : decode cX2_ageSum 0 = .ok (.lconst 0, 1) := by decide +kernel
theorem dX2_ageSum_1 : decode cX2_ageSum 1 = .ok (.lstore_n 1, 1) := by decide +kernel
theorem dX2_ageSum_2 : decode cX2_ageSum 2 = .ok (.iconst 0, 1) := by decide +kernel
theorem dX2_ageSum_3 : decode cX2_ageSum 3 = .ok (.istore_n 3, 1) := by decide +kernel
theorem dX2_ageSum_4 : decode cX2_ageSum 4 = .ok (.iload_n 3, 1) := by decide +kernel
theorem dX2_ageSum_5 : decode cX2_ageSum 5 = .ok (.aload_n 0, 1) := by decide +kernel
theorem dX2_ageSum_6 : decode cX2_ageSum 6 = .ok (.getfield 29, 3) := by decide +kernel
theorem dX2_ageSum_9 : decode cX2_ageSum 9 = .ok (.if_icmp .ge 31, 3) := by decide +kernel
theorem dX2_ageSum_12 : decode cX2_ageSum 12 = .ok (.lload_n 1, 1) := by decide +kernel
theorem dX2_ageSum_13 : decode cX2_ageSum 13 = .ok (.aload_n 0, 1) := by decide +kernel
theorem dX2_ageSum_14 : decode cX2_ageSum 14 = .ok (.getfield 26, 3) := by decide +kernel
theorem dX2_ageSum_17 : decode cX2_ageSum 17 = .ok (.iload_n 3, 1) := by decide +kernel
theorem dX2_ageSum_18 : decode cX2_ageSum 18 = .ok (.invokevirtual 40, 3) := by decide +kernel
theorem dX2_ageSum_21 : decode cX2_ageSum 21 = .ok (.i2l, 1) := by decide +kernel
theorem dX2_ageSum_22 : decode cX2_ageSum 22 = .ok (.aload_n 0, 1) := by decide +kernel
theorem dX2_ageSum_23 : decode cX2_ageSum 23 = .ok (.getfield 23, 3) := by decide +kernel
theorem dX2_ageSum_26 : decode cX2_ageSum 26 = .ok (.iload_n 3, 1) := by decide +kernel
theorem dX2_ageSum_27 : decode cX2_ageSum 27 = .ok (.invokevirtual 40, 3) := by decide +kernel
theorem dX2_ageSum_30 : decode cX2_ageSum 30 = .ok (.i2l, 1) := by decide +kernel
theorem dX2_ageSum_31 : decode cX2_ageSum 31 = .ok (.lmul, 1) := by decide +kernel
theorem dX2_ageSum_32 : decode cX2_ageSum 32 = .ok (.ladd, 1) := by decide +kernel
theorem dX2_ageSum_33 : decode cX2_ageSum 33 = .ok (.lstore_n 1, 1) := by decide +kernel
theorem dX2_ageSum_34 : decode cX2_ageSum 34 = .ok (.iinc 3 1, 3) := by decide +kernel
theorem dX2_ageSum_37 : decode cX2_ageSum 37 = .ok (.goto (-33), 3) := by decide +kernel
theorem dX2_ageSum_40 : decode cX2_ageSum 40 = .ok (.lload_n 1, 1) := by decide +kernel
theorem dX2_ageSum_41 : decode cX2_ageSum 41 = .ok (.lreturn, 1) := by decide +kernel
theorem dX2_become_0 : decode cX2_become 0 = .ok (.aload_n 1, 1) := by decide +kernel
theorem dX2_become_1 : decode cX2_become 1 = .ok (.ifnonnull 4, 3) := by decide +kernel
theorem dX2_become_4 : decode cX2_become 4 = .ok (.return_, 1) := by decide +kernel
theorem dX2_become_5 : decode cX2_become 5 = .ok (.aload_n 0, 1) := by decide +kernel
theorem dX2_become_6 : decode cX2_become 6 = .ok (.aload_n 1, 1) := by decide +kernel
theorem dX2_become_7 : decode cX2_become 7 = .ok (.getfield 29, 3) := by decide +kernel
theorem dX2_become_10 : decode cX2_become 10 = .ok (.putfield 29, 3) := by decide +kernel
theorem dX2_become_13 : decode cX2_become 13 = .ok (.aload_n 0, 1) := by decide +kernel
theorem dX2_become_14 : decode cX2_become 14 = .ok (.getfield 14, 3) := by decide +kernel
theorem dX2_become_17 : decode cX2_become 17 = .ok (.aload_n 1, 1) := by decide +kernel
theorem dX2_become_18 : decode cX2_become 18 = .ok (.getfield 14, 3) := by decide +kernel
theorem dX2_become_21 : decode cX2_become 21 = .ok (.invokevirtual 51, 3) := by decide +kernel
theorem dX2_become_24 : decode cX2_become 24 = .ok (.aload_n 0, 1) := by decide +kernel
theorem dX2_become_25 : decode cX2_become 25 = .ok (.getfield 20, 3) := by decide +kernel
theorem dX2_become_28 : decode cX2_become 28 = .ok (.aload_n 1, 1) := by decide +kernel
theorem dX2_become_29 : decode cX2_become 29 = .ok (.getfield 20, 3) := by decide +kernel
theorem dX2_become_32 : decode cX2_become 32 = .ok (.invokevirtual 51, 3) := by decide +kernel
theorem dX2_become_35 : decode cX2_become 35 = .ok (.aload_n 0, 1) := by decide +kernel
theorem dX2_become_36 : decode cX2_become 36 = .ok (.getfield 23, 3) := by decide +kernel
theorem dX2_become_39 : decode cX2_become 39 = .ok (.aload_n 1, 1) := by decide +kernel
theorem dX2_become_40 : decode cX2_become 40 = .ok (.getfield 23, 3) := by decide +kernel
theorem dX2_become_43 : decode cX2_become 43 = .ok (.invokevirtual 51, 3) := by decide +kernel
theorem dX2_become_46 : decode cX2_become 46 = .ok (.aload_n 0, 1) := by decide +kernel
theorem dX2_become_47 : decode cX2_become 47 = .ok (.getfield 26, 3) := by decide +kernel
theorem dX2_become_50 : decode cX2_become 50 = .ok (.aload_n 1, 1) := by decide +kernel
theorem dX2_become_51 : decode cX2_become 51 = .ok (.getfield 26, 3) := by decide +kernel
theorem dX2_become_54 : decode cX2_become 54 = .ok (.invokevirtual 51, 3) := by decide +kernel
theorem dX2_become_57 : decode cX2_become 57 = .ok (.return_, 1) := by decide +kernel
theorem dX3_init_0 : decode cX3_init 0 = .ok (.aload_n 0, 1) := by decide +kernel
theorem dX3_init_1 : decode cX3_init 1 = .ok (.invokespecial 3, 3) := by decide +kernel
theorem dX3_init_4 : decode cX3_init 4 = .ok (.aload_n 0, 1) := by decide +kernel
theorem dX3_init_5 : decode cX3_init 5 = .ok (.new 9, 3) := by decide +kernel
theorem dX3_init_8 : decode cX3_init 8 = .ok (.dup, 1) := by decide +kernel
theorem dX3_init_9 : decode cX3_init 9 = .ok (.bipush 60, 2) := by decide +kernel
theorem dX3_init_11 : decode cX3_init 11 = .ok (.invokespecial 11, 3) := by decide +kernel
theorem dX3_init_14 : decode cX3_init 14 = .ok (.putfield 14, 3) := by decide +kernel
theorem dX3_init_17 : decode cX3_init 17 = .ok (.aload_n 0, 1) := by decide +kernel
theorem dX3_init_18 : decode cX3_init 18 = .ok (.new 20, 3) := by decide +kernel
theorem dX3_init_21 : decode cX3_init 21 = .ok (.dup, 1) := by decide +kernel
theorem dX3_init_22 : decode cX3_init 22 = .ok (.invokespecial 22, 3) := by decide +kernel
theorem dX3_init_25 : decode cX3_init 25 = .ok (.putfield 23, 3) := by decide +kernel
theorem dX3_init_28 : decode cX3_init 28 = .ok (.return_, 1) := by decide +kernel
theorem dX3_readMenus_0 : decode cX3_readMenus 0 = .ok (.aload_n 0, 1) := by decide +kernel
theorem dX3_readMenus_1 : decode cX3_readMenus 1 = .ok (.getfield 23, 3) := by decide +kernel
theorem dX3_readMenus_4 : decode cX3_readMenus 4 = .ok (.invokevirtual 27, 3) := by decide +kernel
theorem dX3_readMenus_7 : decode cX3_readMenus 7 = .ok (.aload_n 0, 1) := by decide +kernel
theorem dX3_readMenus_8 : decode cX3_readMenus 8 = .ok (.iconst (-1), 1) := by decide +kernel
theorem dX3_readMenus_9 : decode cX3_readMenus 9 = .ok (.putfield 30, 3) := by decide +kernel
theorem dX3_readMenus_12 : decode cX3_readMenus 12 = .ok (.aload_n 0, 1) := by decide +kernel
theorem dX3_readMenus_13 : decode cX3_readMenus 13 = .ok (.iconst 0, 1) := by decide +kernel
theorem dX3_readMenus_14 : decode cX3_readMenus 14 = .ok (.putfield 34, 3) := by decide +kernel
theorem dX3_readMenus_17 : decode cX3_readMenus 17 = .ok (.aload_n 0, 1) := by decide +kernel
theorem dX3_readMenus_18 : decode cX3_readMenus 18 = .ok (.iconst 0, 1) := by decide +kernel
theorem dX3_readMenus_19 : decode cX3_readMenus 19 = .ok (.putfield 37, 3) := by decide +kernel
theorem dX3_readMenus_22 : decode cX3_readMenus 22 = .ok (.iconst 0, 1) := by decide +kernel
theorem dX3_readMenus_23 : decode cX3_readMenus 23 = .ok (.istore_n 1, 1) := by decide +kernel
theorem dX3_readMenus_24 : decode cX3_readMenus 24 = .ok (.iload_n 1, 1) := by decide +kernel
theorem dX3_readMenus_25 : decode cX3_readMenus 25 = .ok (.aload_n 0, 1) := by decide +kernel
theorem dX3_readMenus_26 : decode cX3_readMenus 26 = .ok (.getfield 40, 3) := by decide +kernel
theorem dX3_readMenus_29 : decode cX3_readMenus 29 = .ok (.if_icmp .ge 26, 3) := by decide +kernel
theorem dX3_readMenus_32 : decode cX3_readMenus 32 = .ok (.aload_n 0, 1) := by decide +kernel
theorem dX3_readMenus_33 : decode cX3_readMenus 33 = .ok (.aload_n 0, 1) := by decide +kernel
theorem dX3_readMenus_34 : decode cX3_readMenus 34 = .ok (.getfield 14, 3) := by decide +kernel
theorem dX3_readMenus_37 : decode cX3_readMenus 37 = .ok (.iload_n 1, 1) := by decide +kernel
theorem dX3_readMenus_38 : decode cX3_readMenus 38 = .ok (.invokevirtual 43, 3) := by decide +kernel
theorem dX3_readMenus_41 : decode cX3_readMenus 41 = .ok (.invokevirtual 47, 3) := by decide +kernel
theorem dX3_readMenus_44 : decode cX3_readMenus 44 = .ok (.ifCond .ne 5, 3) := by decide +kernel
theorem dX3_readMenus_47 : decode cX3_readMenus 47 = .ok (.iload_n 1, 1) := by decide +kernel
theorem dX3_readMenus_48 : decode cX3_readMenus 48 = .ok (.ireturn, 1) := by decide +kernel
theorem dX3_readMenus_49 : decode cX3_readMenus 49 = .ok (.iinc 1 1, 3) := by decide +kernel
theorem dX3_readMenus_52 : decode cX3_readMenus 52 = .ok (.goto (-28), 3) := by decide +kernel
theorem dX3_readMenus_55 : decode cX3_readMenus 55 = .ok (.aload_n 0, 1) := by decide +kernel
theorem dX3_readMenus_56 : decode cX3_readMenus 56 = .ok (.getfield 40, 3) := by decide +kernel
theorem dX3_readMenus_59 : decode cX3_readMenus 59 = .ok (.ireturn, 1) := by decide +kernel
theorem dX3_isComplete_0 : decode cX3_isComplete 0 = .ok (.aload_n 0, 1) := by decide +kernel
theorem dX3_isComplete_1 : decode cX3_isComplete 1 = .ok (.getfield 34, 3) := by decide +kernel
theorem dX3_isComplete_4 : decode cX3_isComplete 4 = .ok (.iconst 1, 1) := by decide +kernel
theorem dX3_isComplete_5 : decode cX3_isComplete 5 = .ok (.if_icmp .eq 20, 3) := by decide +kernel
theorem dX3_isComplete_8 : decode cX3_isComplete 8 = .ok (.aload_n 0, 1) := by decide +kernel
theorem dX3_isComplete_9 : decode cX3_isComplete 9 = .ok (.getfield 34, 3) := by decide +kernel
theorem dX3_isComplete_12 : decode cX3_isComplete 12 = .ok (.iconst 5, 1) := by decide +kernel
theorem dX3_isComplete_13 : decode cX3_isComplete 13 = .ok (.if_icmp .eq 12, 3) := by decide +kernel
theorem dX3_isComplete_16 : decode cX3_isComplete 16 = .ok (.aload_n 0, 1) := by decide +kernel
theorem dX3_isComplete_17 : decode cX3_isComplete 17 = .ok (.getfield 34, 3) := by decide +kernel
theorem dX3_isComplete_20 : decode cX3_isComplete 20 = .ok (.bipush 7, 2) := by decide +kernel
theorem dX3_isComplete_22 : decode cX3_isComplete 22 = .ok (.if_icmp .ne 7, 3) := by decide +kernel
theorem dX3_isComplete_25 : decode cX3_isComplete 25 = .ok (.iconst 1, 1) := by decide +kernel
theorem dX3_isComplete_26 : decode cX3_isComplete 26 = .ok (.goto 4, 3) := by decide +kernel
theorem dX3_isComplete_29 : decode cX3_isComplete 29 = .ok (.iconst 0, 1) := by decide +kernel
theorem dX3_isComplete_30 : decode cX3_isComplete 30 = .ok (.ireturn, 1) := by decide +kernel
theorem dX3_accepts_0 : decode cX3_accepts 0 = .ok (.aload_n 0, 1) := by decide +kernel
theorem dX3_accepts_1 : decode cX3_accepts 1 = .ok (.getfield 34, 3) := by decide +kernel
theorem dX3_accepts_4 : decode cX3_accepts 4 = .ok (.tableswitch 142 0 6 #[44, 64, 83, 89, 109, 115, 136], 44) := by decide +kernel
theorem dX3_accepts_48 : decode cX3_accepts 48 = .ok (.iload_n 1, 1) := by decide +kernel
theorem dX3_accepts_49 : decode cX3_accepts 49 = .ok (.bipush 45, 2) := by decide +kernel
theorem dX3_accepts_51 : decode cX3_accepts 51 = .ok (.if_icmp .ne 11, 3) := by decide +kernel
theorem dX3_accepts_54 : decode cX3_accepts 54 = .ok (.aload_n 0, 1) := by decide +kernel
theorem dX3_accepts_55 : decode cX3_accepts 55 = .ok (.iconst 1, 1) := by decide +kernel
theorem dX3_accepts_56 : decode cX3_accepts 56 = .ok (.invokevirtual 51, 3) := by decide +kernel
theorem dX3_accepts_59 : decode cX3_accepts 59 = .ok (.goto 8, 3) := by decide +kernel
theorem dX3_accepts_62 : decode cX3_accepts 62 = .ok (.aload_n 0, 1) := by decide +kernel
theorem dX3_accepts_63 : decode cX3_accepts 63 = .ok (.iload_n 1, 1) := by decide +kernel
theorem dX3_accepts_64 : decode cX3_accepts 64 = .ok (.invokevirtual 54, 3) := by decide +kernel
theorem dX3_accepts_67 : decode cX3_accepts 67 = .ok (.ireturn, 1) := by decide +kernel
theorem dX3_accepts_68 : decode cX3_accepts 68 = .ok (.iload_n 1, 1) := by decide +kernel
theorem dX3_accepts_69 : decode cX3_accepts 69 = .ok (.bipush 59, 2) := by decide +kernel
theorem dX3_accepts_71 : decode cX3_accepts 71 = .ok (.if_icmp .ne 14, 3) := by decide +kernel
theorem dX3_accepts_74 : decode cX3_accepts 74 = .ok (.aload_n 0, 1) := by decide +kernel
theorem dX3_accepts_75 : decode cX3_accepts 75 = .ok (.invokevirtual 57, 3) := by decide +kernel
theorem dX3_accepts_78 : decode cX3_accepts 78 = .ok (.ifCond .eq 7, 3) := by decide +kernel
theorem dX3_accepts_81 : decode cX3_accepts 81 = .ok (.iconst 1, 1) := by decide +kernel
theorem dX3_accepts_82 : decode cX3_accepts 82 = .ok (.goto 4, 3) := by decide +kernel
theorem dX3_accepts_85 : decode cX3_accepts 85 = .ok (.iconst 0, 1) := by decide +kernel
theorem dX3_accepts_86 : decode cX3_accepts 86 = .ok (.ireturn, 1) := by decide +kernel
theorem dX3_accepts_87 : decode cX3_accepts 87 = .ok (.aload_n 0, 1) := by decide +kernel
theorem dX3_accepts_88 : decode cX3_accepts 88 = .ok (.iload_n 1, 1) := by decide +kernel
theorem dX3_accepts_89 : decode cX3_accepts 89 = .ok (.invokevirtual 54, 3) := by decide +kernel
theorem dX3_accepts_92 : decode cX3_accepts 92 = .ok (.ireturn, 1) := by decide +kernel
theorem dX3_accepts_93 : decode cX3_accepts 93 = .ok (.iload_n 1, 1) := by decide +kernel
theorem dX3_accepts_94 : decode cX3_accepts 94 = .ok (.bipush 42, 2) := by decide +kernel
theorem dX3_accepts_96 : decode cX3_accepts 96 = .ok (.if_icmp .ne 15, 3) := by decide +kernel
theorem dX3_accepts_99 : decode cX3_accepts 99 = .ok (.aload_n 0, 1) := by decide +kernel
theorem dX3_accepts_100 : decode cX3_accepts 100 = .ok (.iconst 4, 1) := by decide +kernel
theorem dX3_accepts_101 : decode cX3_accepts 101 = .ok (.invokevirtual 51, 3) := by decide +kernel
theorem dX3_accepts_104 : decode cX3_accepts 104 = .ok (.ifCond .eq 7, 3) := by decide +kernel
theorem dX3_accepts_107 : decode cX3_accepts 107 = .ok (.iconst 1, 1) := by decide +kernel
theorem dX3_accepts_108 : decode cX3_accepts 108 = .ok (.goto 4, 3) := by decide +kernel
theorem dX3_accepts_111 : decode cX3_accepts 111 = .ok (.iconst 0, 1) := by decide +kernel
theorem dX3_accepts_112 : decode cX3_accepts 112 = .ok (.ireturn, 1) := by decide +kernel
theorem dX3_accepts_113 : decode cX3_accepts 113 = .ok (.aload_n 0, 1) := by decide +kernel
theorem dX3_accepts_114 : decode cX3_accepts 114 = .ok (.iload_n 1, 1) := by decide +kernel
theorem dX3_accepts_115 : decode cX3_accepts 115 = .ok (.invokevirtual 61, 3) := by decide +kernel
theorem dX3_accepts_118 : decode cX3_accepts 118 = .ok (.ireturn, 1) := by decide +kernel
theorem dX3_accepts_119 : decode cX3_accepts 119 = .ok (.iload_n 1, 1) := by decide +kernel
theorem dX3_accepts_120 : decode cX3_accepts 120 = .ok (.bipush 47, 2) := by decide +kernel
theorem dX3_accepts_122 : decode cX3_accepts 122 = .ok (.if_icmp .ne 12, 3) := by decide +kernel
theorem dX3_accepts_125 : decode cX3_accepts 125 = .ok (.aload_n 0, 1) := by decide +kernel
theorem dX3_accepts_126 : decode cX3_accepts 126 = .ok (.bipush 6, 2) := by decide +kernel
theorem dX3_accepts_128 : decode cX3_accepts 128 = .ok (.invokevirtual 51, 3) := by decide +kernel
theorem dX3_accepts_131 : decode cX3_accepts 131 = .ok (.goto 8, 3) := by decide +kernel
theorem dX3_accepts_134 : decode cX3_accepts 134 = .ok (.aload_n 0, 1) := by decide +kernel
theorem dX3_accepts_135 : decode cX3_accepts 135 = .ok (.iload_n 1, 1) := by decide +kernel
theorem dX3_accepts_136 : decode cX3_accepts 136 = .ok (.invokevirtual 64, 3) := by decide +kernel
theorem dX3_accepts_139 : decode cX3_accepts 139 = .ok (.ireturn, 1) := by decide +kernel
theorem dX3_accepts_140 : decode cX3_accepts 140 = .ok (.aload_n 0, 1) := by decide +kernel
theorem dX3_accepts_141 : decode cX3_accepts 141 = .ok (.iload_n 1, 1) := by decide +kernel
theorem dX3_accepts_142 : decode cX3_accepts 142 = .ok (.invokevirtual 67, 3) := by decide +kernel
theorem dX3_accepts_145 : decode cX3_accepts 145 = .ok (.ireturn, 1) := by decide +kernel
theorem dX3_accepts_146 : decode cX3_accepts 146 = .ok (.aload_n 0, 1) := by decide +kernel
theorem dX3_accepts_147 : decode cX3_accepts 147 = .ok (.iload_n 1, 1) := by decide +kernel
theorem dX3_accepts_148 : decode cX3_accepts 148 = .ok (.invokevirtual 64, 3) := by decide +kernel
theorem dX3_accepts_151 : decode cX3_accepts 151 = .ok (.ireturn, 1) := by decide +kernel
theorem dX3_comesTo_0 : decode cX3_comesTo 0 = .ok (.aload_n 0, 1) := by decide +kernel
theorem dX3_comesTo_1 : decode cX3_comesTo 1 = .ok (.iload_n 1, 1) := by decide +kernel
theorem dX3_comesTo_2 : decode cX3_comesTo 2 = .ok (.putfield 34, 3) := by decide +kernel
theorem dX3_comesTo_5 : decode cX3_comesTo 5 = .ok (.iconst 1, 1) := by decide +kernel
theorem dX3_comesTo_6 : decode cX3_comesTo 6 = .ok (.ireturn, 1) := by decide +kernel
theorem dX3_acceptsKind_0 : decode cX3_acceptsKind 0 = .ok (.iload_n 1, 1) := by decide +kernel
theorem dX3_acceptsKind_1 : decode cX3_acceptsKind 1 = .ok (.bipush 48, 2) := by decide +kernel
theorem dX3_acceptsKind_3 : decode cX3_acceptsKind 3 = .ok (.bipush 55, 2) := by decide +kernel
theorem dX3_acceptsKind_5 : decode cX3_acceptsKind 5 = .ok (.invokestatic 70, 3) := by decide +kernel
theorem dX3_acceptsKind_8 : decode cX3_acceptsKind 8 = .ok (.ifCond .ne 5, 3) := by decide +kernel
theorem dX3_acceptsKind_11 : decode cX3_acceptsKind 11 = .ok (.iconst 0, 1) := by decide +kernel
theorem dX3_acceptsKind_12 : decode cX3_acceptsKind 12 = .ok (.ireturn, 1) := by decide +kernel
theorem dX3_acceptsKind_13 : decode cX3_acceptsKind 13 = .ok (.aload_n 0, 1) := by decide +kernel
theorem dX3_acceptsKind_14 : decode cX3_acceptsKind 14 = .ok (.getfield 23, 3) := by decide +kernel
theorem dX3_acceptsKind_17 : decode cX3_acceptsKind 17 = .ok (.getfield 74, 3) := by decide +kernel
theorem dX3_acceptsKind_20 : decode cX3_acceptsKind 20 = .ok (.aload_n 0, 1) := by decide +kernel
theorem dX3_acceptsKind_21 : decode cX3_acceptsKind 21 = .ok (.invokevirtual 77, 3) := by decide +kernel
theorem dX3_acceptsKind_24 : decode cX3_acceptsKind 24 = .ok (.iload_n 1, 1) := by decide +kernel
theorem dX3_acceptsKind_25 : decode cX3_acceptsKind 25 = .ok (.bipush 48, 2) := by decide +kernel
theorem dX3_acceptsKind_27 : decode cX3_acceptsKind 27 = .ok (.isub, 1) := by decide +kernel
theorem dX3_acceptsKind_28 : decode cX3_acceptsKind 28 = .ok (.invokevirtual 81, 3) := by decide +kernel
theorem dX3_acceptsKind_31 : decode cX3_acceptsKind 31 = .ok (.aload_n 0, 1) := by decide +kernel
theorem dX3_acceptsKind_32 : decode cX3_acceptsKind 32 = .ok (.getfield 23, 3) := by decide +kernel
theorem dX3_acceptsKind_35 : decode cX3_acceptsKind 35 = .ok (.getfield 85, 3) := by decide +kernel
theorem dX3_acceptsKind_38 : decode cX3_acceptsKind 38 = .ok (.aload_n 0, 1) := by decide +kernel
theorem dX3_acceptsKind_39 : decode cX3_acceptsKind 39 = .ok (.invokevirtual 77, 3) := by decide +kernel
theorem dX3_acceptsKind_42 : decode cX3_acceptsKind 42 = .ok (.iconst (-1), 1) := by decide +kernel
theorem dX3_acceptsKind_43 : decode cX3_acceptsKind 43 = .ok (.invokevirtual 81, 3) := by decide +kernel
theorem dX3_acceptsKind_46 : decode cX3_acceptsKind 46 = .ok (.aload_n 0, 1) := by decide +kernel
theorem dX3_acceptsKind_47 : decode cX3_acceptsKind 47 = .ok (.aload_n 0, 1) := by decide +kernel
theorem dX3_acceptsKind_48 : decode cX3_acceptsKind 48 = .ok (.getfield 30, 3) := by decide +kernel
theorem dX3_acceptsKind_51 : decode cX3_acceptsKind 51 = .ok (.iload_n 1, 1) := by decide +kernel
theorem dX3_acceptsKind_52 : decode cX3_acceptsKind 52 = .ok (.bipush 48, 2) := by decide +kernel
theorem dX3_acceptsKind_54 : decode cX3_acceptsKind 54 = .ok (.isub, 1) := by decide +kernel
theorem dX3_acceptsKind_55 : decode cX3_acceptsKind 55 = .ok (.invokestatic 88, 3) := by decide +kernel
theorem dX3_acceptsKind_58 : decode cX3_acceptsKind 58 = .ok (.putfield 30, 3) := by decide +kernel
theorem dX3_acceptsKind_61 : decode cX3_acceptsKind 61 = .ok (.aload_n 0, 1) := by decide +kernel
theorem dX3_acceptsKind_62 : decode cX3_acceptsKind 62 = .ok (.iconst 3, 1) := by decide +kernel
theorem dX3_acceptsKind_63 : decode cX3_acceptsKind 63 = .ok (.invokevirtual 51, 3) := by decide +kernel
theorem dX3_acceptsKind_66 : decode cX3_acceptsKind 66 = .ok (.ireturn, 1) := by decide +kernel
theorem dX3_acceptsAmount_0 : decode cX3_acceptsAmount 0 = .ok (.iload_n 1, 1) := by decide +kernel
theorem dX3_acceptsAmount_1 : decode cX3_acceptsAmount 1 = .ok (.bipush 49, 2) := by decide +kernel
theorem dX3_acceptsAmount_3 : decode cX3_acceptsAmount 3 = .ok (.bipush 57, 2) := by decide +kernel
theorem dX3_acceptsAmount_5 : decode cX3_acceptsAmount 5 = .ok (.invokestatic 70, 3) := by decide +kernel
theorem dX3_acceptsAmount_8 : decode cX3_acceptsAmount 8 = .ok (.ifCond .ne 5, 3) := by decide +kernel
theorem dX3_acceptsAmount_11 : decode cX3_acceptsAmount 11 = .ok (.iconst 0, 1) := by decide +kernel
theorem dX3_acceptsAmount_12 : decode cX3_acceptsAmount 12 = .ok (.ireturn, 1) := by decide +kernel
theorem dX3_acceptsAmount_13 : decode cX3_acceptsAmount 13 = .ok (.aload_n 0, 1) := by decide +kernel
theorem dX3_acceptsAmount_14 : decode cX3_acceptsAmount 14 = .ok (.getfield 23, 3) := by decide +kernel
theorem dX3_acceptsAmount_17 : decode cX3_acceptsAmount 17 = .ok (.getfield 94, 3) := by decide +kernel
theorem dX3_acceptsAmount_20 : decode cX3_acceptsAmount 20 = .ok (.aload_n 0, 1) := by decide +kernel
theorem dX3_acceptsAmount_21 : decode cX3_acceptsAmount 21 = .ok (.invokevirtual 77, 3) := by decide +kernel
theorem dX3_acceptsAmount_24 : decode cX3_acceptsAmount 24 = .ok (.iload_n 1, 1) := by decide +kernel
theorem dX3_acceptsAmount_25 : decode cX3_acceptsAmount 25 = .ok (.bipush 48, 2) := by decide +kernel
theorem dX3_acceptsAmount_27 : decode cX3_acceptsAmount 27 = .ok (.isub, 1) := by decide +kernel
theorem dX3_acceptsAmount_28 : decode cX3_acceptsAmount 28 = .ok (.invokevirtual 81, 3) := by decide +kernel
theorem dX3_acceptsAmount_31 : decode cX3_acceptsAmount 31 = .ok (.aload_n 0, 1) := by decide +kernel
theorem dX3_acceptsAmount_32 : decode cX3_acceptsAmount 32 = .ok (.iconst 5, 1) := by decide +kernel
theorem dX3_acceptsAmount_33 : decode cX3_acceptsAmount 33 = .ok (.invokevirtual 51, 3) := by decide +kernel
theorem dX3_acceptsAmount_36 : decode cX3_acceptsAmount 36 = .ok (.ireturn, 1) := by decide +kernel
theorem dX3_acceptsSubstitute_0 : decode cX3_acceptsSubstitute 0 = .ok (.iload_n 1, 1) := by decide +kernel
theorem dX3_acceptsSubstitute_1 : decode cX3_acceptsSubstitute 1 = .ok (.bipush 48, 2) := by decide +kernel
theorem dX3_acceptsSubstitute_3 : decode cX3_acceptsSubstitute 3 = .ok (.bipush 55, 2) := by decide +kernel
theorem dX3_acceptsSubstitute_5 : decode cX3_acceptsSubstitute 5 = .ok (.invokestatic 70, 3) := by decide +kernel
theorem dX3_acceptsSubstitute_8 : decode cX3_acceptsSubstitute 8 = .ok (.ifCond .eq 24, 3) := by decide +kernel
theorem dX3_acceptsSubstitute_11 : decode cX3_acceptsSubstitute 11 = .ok (.iload_n 1, 1) := by decide +kernel
theorem dX3_acceptsSubstitute_12 : decode cX3_acceptsSubstitute 12 = .ok (.bipush 48, 2) := by decide +kernel
theorem dX3_acceptsSubstitute_14 : decode cX3_acceptsSubstitute 14 = .ok (.isub, 1) := by decide +kernel
theorem dX3_acceptsSubstitute_15 : decode cX3_acceptsSubstitute 15 = .ok (.aload_n 0, 1) := by decide +kernel
theorem dX3_acceptsSubstitute_16 : decode cX3_acceptsSubstitute 16 = .ok (.getfield 23, 3) := by decide +kernel
theorem dX3_acceptsSubstitute_19 : decode cX3_acceptsSubstitute 19 = .ok (.getfield 74, 3) := by decide +kernel
theorem dX3_acceptsSubstitute_22 : decode cX3_acceptsSubstitute 22 = .ok (.aload_n 0, 1) := by decide +kernel
theorem dX3_acceptsSubstitute_23 : decode cX3_acceptsSubstitute 23 = .ok (.invokevirtual 77, 3) := by decide +kernel
theorem dX3_acceptsSubstitute_26 : decode cX3_acceptsSubstitute 26 = .ok (.invokevirtual 43, 3) := by decide +kernel
theorem dX3_acceptsSubstitute_29 : decode cX3_acceptsSubstitute 29 = .ok (.if_icmp .ne 5, 3) := by decide +kernel
theorem dX3_acceptsSubstitute_32 : decode cX3_acceptsSubstitute 32 = .ok (.iconst 0, 1) := by decide +kernel
theorem dX3_acceptsSubstitute_33 : decode cX3_acceptsSubstitute 33 = .ok (.ireturn, 1) := by decide +kernel
theorem dX3_acceptsSubstitute_34 : decode cX3_acceptsSubstitute 34 = .ok (.aload_n 0, 1) := by decide +kernel
theorem dX3_acceptsSubstitute_35 : decode cX3_acceptsSubstitute 35 = .ok (.getfield 23, 3) := by decide +kernel
theorem dX3_acceptsSubstitute_38 : decode cX3_acceptsSubstitute 38 = .ok (.getfield 85, 3) := by decide +kernel
theorem dX3_acceptsSubstitute_41 : decode cX3_acceptsSubstitute 41 = .ok (.aload_n 0, 1) := by decide +kernel
theorem dX3_acceptsSubstitute_42 : decode cX3_acceptsSubstitute 42 = .ok (.invokevirtual 77, 3) := by decide +kernel
theorem dX3_acceptsSubstitute_45 : decode cX3_acceptsSubstitute 45 = .ok (.iload_n 1, 1) := by decide +kernel
theorem dX3_acceptsSubstitute_46 : decode cX3_acceptsSubstitute 46 = .ok (.bipush 48, 2) := by decide +kernel
theorem dX3_acceptsSubstitute_48 : decode cX3_acceptsSubstitute 48 = .ok (.isub, 1) := by decide +kernel
theorem dX3_acceptsSubstitute_49 : decode cX3_acceptsSubstitute 49 = .ok (.invokevirtual 81, 3) := by decide +kernel
theorem dX3_acceptsSubstitute_52 : decode cX3_acceptsSubstitute 52 = .ok (.aload_n 0, 1) := by decide +kernel
theorem dX3_acceptsSubstitute_53 : decode cX3_acceptsSubstitute 53 = .ok (.aload_n 0, 1) := by decide +kernel
theorem dX3_acceptsSubstitute_54 : decode cX3_acceptsSubstitute 54 = .ok (.getfield 30, 3) := by decide +kernel
theorem dX3_acceptsSubstitute_57 : decode cX3_acceptsSubstitute 57 = .ok (.iload_n 1, 1) := by decide +kernel
theorem dX3_acceptsSubstitute_58 : decode cX3_acceptsSubstitute 58 = .ok (.bipush 48, 2) := by decide +kernel
theorem dX3_acceptsSubstitute_60 : decode cX3_acceptsSubstitute 60 = .ok (.isub, 1) := by decide +kernel
theorem dX3_acceptsSubstitute_61 : decode cX3_acceptsSubstitute 61 = .ok (.invokestatic 88, 3) := by decide +kernel
theorem dX3_acceptsSubstitute_64 : decode cX3_acceptsSubstitute 64 = .ok (.putfield 30, 3) := by decide +kernel
theorem dX3_acceptsSubstitute_67 : decode cX3_acceptsSubstitute 67 = .ok (.aload_n 0, 1) := by decide +kernel
theorem dX3_acceptsSubstitute_68 : decode cX3_acceptsSubstitute 68 = .ok (.bipush 7, 2) := by decide +kernel
theorem dX3_acceptsSubstitute_70 : decode cX3_acceptsSubstitute 70 = .ok (.invokevirtual 51, 3) := by decide +kernel
theorem dX3_acceptsSubstitute_73 : decode cX3_acceptsSubstitute 73 = .ok (.ireturn, 1) := by decide +kernel
theorem dX3_acceptsSeparator_0 : decode cX3_acceptsSeparator 0 = .ok (.iload_n 1, 1) := by decide +kernel
theorem dX3_acceptsSeparator_1 : decode cX3_acceptsSeparator 1 = .ok (.bipush 59, 2) := by decide +kernel
theorem dX3_acceptsSeparator_3 : decode cX3_acceptsSeparator 3 = .ok (.if_icmp .ne 8, 3) := by decide +kernel
theorem dX3_acceptsSeparator_6 : decode cX3_acceptsSeparator 6 = .ok (.aload_n 0, 1) := by decide +kernel
theorem dX3_acceptsSeparator_7 : decode cX3_acceptsSeparator 7 = .ok (.invokevirtual 57, 3) := by decide +kernel
theorem dX3_acceptsSeparator_10 : decode cX3_acceptsSeparator 10 = .ok (.ireturn, 1) := by decide +kernel
theorem dX3_acceptsSeparator_11 : decode cX3_acceptsSeparator 11 = .ok (.iload_n 1, 1) := by decide +kernel
theorem dX3_acceptsSeparator_12 : decode cX3_acceptsSeparator 12 = .ok (.bipush 44, 2) := by decide +kernel
theorem dX3_acceptsSeparator_14 : decode cX3_acceptsSeparator 14 = .ok (.if_icmp .ne 11, 3) := by decide +kernel
theorem dX3_acceptsSeparator_17 : decode cX3_acceptsSeparator 17 = .ok (.aload_n 0, 1) := by decide +kernel
theorem dX3_acceptsSeparator_18 : decode cX3_acceptsSeparator 18 = .ok (.getfield 37, 3) := by decide +kernel
theorem dX3_acceptsSeparator_21 : decode cX3_acceptsSeparator 21 = .ok (.iconst 3, 1) := by decide +kernel
theorem dX3_acceptsSeparator_22 : decode cX3_acceptsSeparator 22 = .ok (.if_icmp .lt 5, 3) := by decide +kernel
theorem dX3_acceptsSeparator_25 : decode cX3_acceptsSeparator 25 = .ok (.iconst 0, 1) := by decide +kernel
theorem dX3_acceptsSeparator_26 : decode cX3_acceptsSeparator 26 = .ok (.ireturn, 1) := by decide +kernel
theorem dX3_acceptsSeparator_27 : decode cX3_acceptsSeparator 27 = .ok (.aload_n 0, 1) := by decide +kernel
theorem dX3_acceptsSeparator_28 : decode cX3_acceptsSeparator 28 = .ok (.dup, 1) := by decide +kernel
theorem dX3_acceptsSeparator_29 : decode cX3_acceptsSeparator 29 = .ok (.getfield 37, 3) := by decide +kernel
theorem dX3_acceptsSeparator_32 : decode cX3_acceptsSeparator 32 = .ok (.iconst 1, 1) := by decide +kernel
theorem dX3_acceptsSeparator_33 : decode cX3_acceptsSeparator 33 = .ok (.iadd, 1) := by decide +kernel
theorem dX3_acceptsSeparator_34 : decode cX3_acceptsSeparator 34 = .ok (.putfield 37, 3) := by decide +kernel
theorem dX3_acceptsSeparator_37 : decode cX3_acceptsSeparator 37 = .ok (.aload_n 0, 1) := by decide +kernel
theorem dX3_acceptsSeparator_38 : decode cX3_acceptsSeparator 38 = .ok (.iconst 2, 1) := by decide +kernel
theorem dX3_acceptsSeparator_39 : decode cX3_acceptsSeparator 39 = .ok (.invokevirtual 51, 3) := by decide +kernel
theorem dX3_acceptsSeparator_42 : decode cX3_acceptsSeparator 42 = .ok (.ireturn, 1) := by decide +kernel
theorem dX3_beginsMenu_0 : decode cX3_beginsMenu 0 = .ok (.aload_n 0, 1) := by decide +kernel
theorem dX3_beginsMenu_1 : decode cX3_beginsMenu 1 = .ok (.getfield 23, 3) := by decide +kernel
theorem dX3_beginsMenu_4 : decode cX3_beginsMenu 4 = .ok (.getfield 97, 3) := by decide +kernel
theorem dX3_beginsMenu_7 : decode cX3_beginsMenu 7 = .ok (.bipush 10, 2) := by decide +kernel
theorem dX3_beginsMenu_9 : decode cX3_beginsMenu 9 = .ok (.if_icmp .lt 5, 3) := by decide +kernel
theorem dX3_beginsMenu_12 : decode cX3_beginsMenu 12 = .ok (.iconst 0, 1) := by decide +kernel
theorem dX3_beginsMenu_13 : decode cX3_beginsMenu 13 = .ok (.ireturn, 1) := by decide +kernel
theorem dX3_beginsMenu_14 : decode cX3_beginsMenu 14 = .ok (.aload_n 0, 1) := by decide +kernel
theorem dX3_beginsMenu_15 : decode cX3_beginsMenu 15 = .ok (.getfield 23, 3) := by decide +kernel
theorem dX3_beginsMenu_18 : decode cX3_beginsMenu 18 = .ok (.dup, 1) := by decide +kernel
theorem dX3_beginsMenu_19 : decode cX3_beginsMenu 19 = .ok (.getfield 97, 3) := by decide +kernel
theorem dX3_beginsMenu_22 : decode cX3_beginsMenu 22 = .ok (.iconst 1, 1) := by decide +kernel
theorem dX3_beginsMenu_23 : decode cX3_beginsMenu 23 = .ok (.iadd, 1) := by decide +kernel
theorem dX3_beginsMenu_24 : decode cX3_beginsMenu 24 = .ok (.putfield 97, 3) := by decide +kernel
theorem dX3_beginsMenu_27 : decode cX3_beginsMenu 27 = .ok (.aload_n 0, 1) := by decide +kernel
theorem dX3_beginsMenu_28 : decode cX3_beginsMenu 28 = .ok (.iconst 0, 1) := by decide +kernel
theorem dX3_beginsMenu_29 : decode cX3_beginsMenu 29 = .ok (.putfield 37, 3) := by decide +kernel
theorem dX3_beginsMenu_32 : decode cX3_beginsMenu 32 = .ok (.aload_n 0, 1) := by decide +kernel
theorem dX3_beginsMenu_33 : decode cX3_beginsMenu 33 = .ok (.iconst 0, 1) := by decide +kernel
theorem dX3_beginsMenu_34 : decode cX3_beginsMenu 34 = .ok (.invokevirtual 51, 3) := by decide +kernel
theorem dX3_beginsMenu_37 : decode cX3_beginsMenu 37 = .ok (.ireturn, 1) := by decide +kernel
theorem dX3_slot_0 : decode cX3_slot 0 = .ok (.aload_n 0, 1) := by decide +kernel
theorem dX3_slot_1 : decode cX3_slot 1 = .ok (.getfield 23, 3) := by decide +kernel
theorem dX3_slot_4 : decode cX3_slot 4 = .ok (.aload_n 0, 1) := by decide +kernel
theorem dX3_slot_5 : decode cX3_slot 5 = .ok (.getfield 23, 3) := by decide +kernel
theorem dX3_slot_8 : decode cX3_slot 8 = .ok (.getfield 97, 3) := by decide +kernel
theorem dX3_slot_11 : decode cX3_slot 11 = .ok (.iconst 1, 1) := by decide +kernel
theorem dX3_slot_12 : decode cX3_slot 12 = .ok (.isub, 1) := by decide +kernel
theorem dX3_slot_13 : decode cX3_slot 13 = .ok (.aload_n 0, 1) := by decide +kernel
theorem dX3_slot_14 : decode cX3_slot 14 = .ok (.getfield 37, 3) := by decide +kernel
theorem dX3_slot_17 : decode cX3_slot 17 = .ok (.invokevirtual 100, 3) := by decide +kernel
theorem dX3_slot_20 : decode cX3_slot 20 = .ok (.ireturn, 1) := by decide +kernel
theorem dX4_init_0 : decode cX4_init 0 = .ok (.aload_n 0, 1) := by decide +kernel
theorem dX4_init_1 : decode cX4_init 1 = .ok (.invokespecial 3, 3) := by decide +kernel
theorem dX4_init_4 : decode cX4_init 4 = .ok (.aload_n 0, 1) := by decide +kernel
theorem dX4_init_5 : decode cX4_init 5 = .ok (.iconst 1, 1) := by decide +kernel
theorem dX4_init_6 : decode cX4_init 6 = .ok (.putfield 9, 3) := by decide +kernel
theorem dX4_init_9 : decode cX4_init 9 = .ok (.aload_n 0, 1) := by decide +kernel
theorem dX4_init_10 : decode cX4_init 10 = .ok (.new 15, 3) := by decide +kernel
theorem dX4_init_13 : decode cX4_init 13 = .ok (.dup, 1) := by decide +kernel
theorem dX4_init_14 : decode cX4_init 14 = .ok (.bipush 40, 2) := by decide +kernel
theorem dX4_init_16 : decode cX4_init 16 = .ok (.invokespecial 17, 3) := by decide +kernel
theorem dX4_init_19 : decode cX4_init 19 = .ok (.putfield 20, 3) := by decide +kernel
theorem dX4_init_22 : decode cX4_init 22 = .ok (.aload_n 0, 1) := by decide +kernel
theorem dX4_init_23 : decode cX4_init 23 = .ok (.new 15, 3) := by decide +kernel
theorem dX4_init_26 : decode cX4_init 26 = .ok (.dup, 1) := by decide +kernel
theorem dX4_init_27 : decode cX4_init 27 = .ok (.bipush 40, 2) := by decide +kernel
theorem dX4_init_29 : decode cX4_init 29 = .ok (.invokespecial 17, 3) := by decide +kernel
theorem dX4_init_32 : decode cX4_init 32 = .ok (.putfield 24, 3) := by decide +kernel
theorem dX4_init_35 : decode cX4_init 35 = .ok (.aload_n 0, 1) := by decide +kernel
theorem dX4_init_36 : decode cX4_init 36 = .ok (.new 15, 3) := by decide +kernel
theorem dX4_init_39 : decode cX4_init 39 = .ok (.dup, 1) := by decide +kernel
theorem dX4_init_40 : decode cX4_init 40 = .ok (.bipush 40, 2) := by decide +kernel
theorem dX4_init_42 : decode cX4_init 42 = .ok (.invokespecial 17, 3) := by decide +kernel
theorem dX4_init_45 : decode cX4_init 45 = .ok (.putfield 27, 3) := by decide +kernel
theorem dX4_init_48 : decode cX4_init 48 = .ok (.return_, 1) := by decide +kernel
theorem dX4_slot_0 : decode cX4_slot 0 = .ok (.iload_n 1, 1) := by decide +kernel
theorem dX4_slot_1 : decode cX4_slot 1 = .ok (.iconst 4, 1) := by decide +kernel
theorem dX4_slot_2 : decode cX4_slot 2 = .ok (.imul, 1) := by decide +kernel
theorem dX4_slot_3 : decode cX4_slot 3 = .ok (.iload_n 2, 1) := by decide +kernel
theorem dX4_slot_4 : decode cX4_slot 4 = .ok (.iadd, 1) := by decide +kernel
theorem dX4_slot_5 : decode cX4_slot 5 = .ok (.ireturn, 1) := by decide +kernel
theorem dX4_has_0 : decode cX4_has 0 = .ok (.aload_n 0, 1) := by decide +kernel
theorem dX4_has_1 : decode cX4_has 1 = .ok (.getfield 24, 3) := by decide +kernel
theorem dX4_has_4 : decode cX4_has 4 = .ok (.iload_n 1, 1) := by decide +kernel
theorem dX4_has_5 : decode cX4_has 5 = .ok (.invokevirtual 30, 3) := by decide +kernel
theorem dX4_has_8 : decode cX4_has 8 = .ok (.ifCond .le 7, 3) := by decide +kernel
theorem dX4_has_11 : decode cX4_has 11 = .ok (.iconst 1, 1) := by decide +kernel
theorem dX4_has_12 : decode cX4_has 12 = .ok (.goto 4, 3) := by decide +kernel
theorem dX4_has_15 : decode cX4_has 15 = .ok (.iconst 0, 1) := by decide +kernel
theorem dX4_has_16 : decode cX4_has 16 = .ok (.ireturn, 1) := by decide +kernel
theorem dX4_ofDay_0 : decode cX4_ofDay 0 = .ok (.aload_n 0, 1) := by decide +kernel
theorem dX4_ofDay_1 : decode cX4_ofDay 1 = .ok (.getfield 9, 3) := by decide +kernel
theorem dX4_ofDay_4 : decode cX4_ofDay 4 = .ok (.iconst 1, 1) := by decide +kernel
theorem dX4_ofDay_5 : decode cX4_ofDay 5 = .ok (.if_icmp .ge 7, 3) := by decide +kernel
theorem dX4_ofDay_8 : decode cX4_ofDay 8 = .ok (.iconst 0, 1) := by decide +kernel
theorem dX4_ofDay_9 : decode cX4_ofDay 9 = .ok (.goto 11, 3) := by decide +kernel
theorem dX4_ofDay_12 : decode cX4_ofDay 12 = .ok (.iload_n 1, 1) := by decide +kernel
theorem dX4_ofDay_13 : decode cX4_ofDay 13 = .ok (.aload_n 0, 1) := by decide +kernel
theorem dX4_ofDay_14 : decode cX4_ofDay 14 = .ok (.getfield 9, 3) := by decide +kernel
theorem dX4_ofDay_17 : decode cX4_ofDay 17 = .ok (.invokestatic 34, 3) := by decide +kernel
theorem dX4_ofDay_20 : decode cX4_ofDay 20 = .ok (.ireturn, 1) := by decide +kernel
theorem dX4_forget_0 : decode cX4_forget 0 = .ok (.aload_n 0, 1) := by decide +kernel
theorem dX4_forget_1 : decode cX4_forget 1 = .ok (.iconst 1, 1) := by decide +kernel
theorem dX4_forget_2 : decode cX4_forget 2 = .ok (.putfield 9, 3) := by decide +kernel
theorem dX4_forget_5 : decode cX4_forget 5 = .ok (.aload_n 0, 1) := by decide +kernel
theorem dX4_forget_6 : decode cX4_forget 6 = .ok (.getfield 24, 3) := by decide +kernel
theorem dX4_forget_9 : decode cX4_forget 9 = .ok (.iconst 0, 1) := by decide +kernel
theorem dX4_forget_10 : decode cX4_forget 10 = .ok (.invokevirtual 40, 3) := by decide +kernel
theorem dX4_forget_13 : decode cX4_forget 13 = .ok (.return_, 1) := by decide +kernel
theorem dX4_become_0 : decode cX4_become 0 = .ok (.aload_n 1, 1) := by decide +kernel
theorem dX4_become_1 : decode cX4_become 1 = .ok (.ifnonnull 4, 3) := by decide +kernel
theorem dX4_become_4 : decode cX4_become 4 = .ok (.return_, 1) := by decide +kernel
theorem dX4_become_5 : decode cX4_become 5 = .ok (.aload_n 0, 1) := by decide +kernel
theorem dX4_become_6 : decode cX4_become 6 = .ok (.aload_n 1, 1) := by decide +kernel
theorem dX4_become_7 : decode cX4_become 7 = .ok (.getfield 9, 3) := by decide +kernel
theorem dX4_become_10 : decode cX4_become 10 = .ok (.putfield 9, 3) := by decide +kernel
theorem dX4_become_13 : decode cX4_become 13 = .ok (.aload_n 0, 1) := by decide +kernel
theorem dX4_become_14 : decode cX4_become 14 = .ok (.getfield 20, 3) := by decide +kernel
theorem dX4_become_17 : decode cX4_become 17 = .ok (.aload_n 1, 1) := by decide +kernel
theorem dX4_become_18 : decode cX4_become 18 = .ok (.getfield 20, 3) := by decide +kernel
theorem dX4_become_21 : decode cX4_become 21 = .ok (.invokevirtual 43, 3) := by decide +kernel
theorem dX4_become_24 : decode cX4_become 24 = .ok (.aload_n 0, 1) := by decide +kernel
theorem dX4_become_25 : decode cX4_become 25 = .ok (.getfield 24, 3) := by decide +kernel
theorem dX4_become_28 : decode cX4_become 28 = .ok (.aload_n 1, 1) := by decide +kernel
theorem dX4_become_29 : decode cX4_become 29 = .ok (.getfield 24, 3) := by decide +kernel
theorem dX4_become_32 : decode cX4_become 32 = .ok (.invokevirtual 43, 3) := by decide +kernel
theorem dX4_become_35 : decode cX4_become 35 = .ok (.aload_n 0, 1) := by decide +kernel
theorem dX4_become_36 : decode cX4_become 36 = .ok (.getfield 27, 3) := by decide +kernel
theorem dX4_become_39 : decode cX4_become 39 = .ok (.aload_n 1, 1) := by decide +kernel
theorem dX4_become_40 : decode cX4_become 40 = .ok (.getfield 27, 3) := by decide +kernel
theorem dX4_become_43 : decode cX4_become 43 = .ok (.invokevirtual 43, 3) := by decide +kernel
theorem dX4_become_46 : decode cX4_become 46 = .ok (.return_, 1) := by decide +kernel
theorem dX5_init_0 : decode cX5_init 0 = .ok (.aload_n 0, 1) := by decide +kernel
theorem dX5_init_1 : decode cX5_init 1 = .ok (.invokespecial 3, 3) := by decide +kernel
theorem dX5_init_4 : decode cX5_init 4 = .ok (.aload_n 0, 1) := by decide +kernel
theorem dX5_init_5 : decode cX5_init 5 = .ok (.new 9, 3) := by decide +kernel
theorem dX5_init_8 : decode cX5_init 8 = .ok (.dup, 1) := by decide +kernel
theorem dX5_init_9 : decode cX5_init 9 = .ok (.bipush 8, 2) := by decide +kernel
theorem dX5_init_11 : decode cX5_init 11 = .ok (.invokespecial 11, 3) := by decide +kernel
theorem dX5_init_14 : decode cX5_init 14 = .ok (.putfield 14, 3) := by decide +kernel
theorem dX5_init_17 : decode cX5_init 17 = .ok (.aload_n 0, 1) := by decide +kernel
theorem dX5_init_18 : decode cX5_init 18 = .ok (.new 9, 3) := by decide +kernel
theorem dX5_init_21 : decode cX5_init 21 = .ok (.dup, 1) := by decide +kernel
theorem dX5_init_22 : decode cX5_init 22 = .ok (.bipush 8, 2) := by decide +kernel
theorem dX5_init_24 : decode cX5_init 24 = .ok (.invokespecial 11, 3) := by decide +kernel
theorem dX5_init_27 : decode cX5_init 27 = .ok (.putfield 20, 3) := by decide +kernel
theorem dX5_init_30 : decode cX5_init 30 = .ok (.aload_n 0, 1) := by decide +kernel
theorem dX5_init_31 : decode cX5_init 31 = .ok (.new 9, 3) := by decide +kernel
theorem dX5_init_34 : decode cX5_init 34 = .ok (.dup, 1) := by decide +kernel
theorem dX5_init_35 : decode cX5_init 35 = .ok (.bipush 64, 2) := by decide +kernel
theorem dX5_init_37 : decode cX5_init 37 = .ok (.invokespecial 11, 3) := by decide +kernel
theorem dX5_init_40 : decode cX5_init 40 = .ok (.putfield 23, 3) := by decide +kernel
theorem dX5_init_43 : decode cX5_init 43 = .ok (.return_, 1) := by decide +kernel
theorem dX5_onDay_0 : decode cX5_onDay 0 = .ok (.iconst 0, 1) := by decide +kernel
theorem dX5_onDay_1 : decode cX5_onDay 1 = .ok (.istore_n 2, 1) := by decide +kernel
theorem dX5_onDay_2 : decode cX5_onDay 2 = .ok (.iload_n 2, 1) := by decide +kernel
theorem dX5_onDay_3 : decode cX5_onDay 3 = .ok (.aload_n 0, 1) := by decide +kernel
theorem dX5_onDay_4 : decode cX5_onDay 4 = .ok (.getfield 26, 3) := by decide +kernel
theorem dX5_onDay_7 : decode cX5_onDay 7 = .ok (.if_icmp .ge 23, 3) := by decide +kernel
theorem dX5_onDay_10 : decode cX5_onDay 10 = .ok (.aload_n 0, 1) := by decide +kernel
theorem dX5_onDay_11 : decode cX5_onDay 11 = .ok (.getfield 14, 3) := by decide +kernel
theorem dX5_onDay_14 : decode cX5_onDay 14 = .ok (.iload_n 2, 1) := by decide +kernel
theorem dX5_onDay_15 : decode cX5_onDay 15 = .ok (.invokevirtual 30, 3) := by decide +kernel
theorem dX5_onDay_18 : decode cX5_onDay 18 = .ok (.iload_n 1, 1) := by decide +kernel
theorem dX5_onDay_19 : decode cX5_onDay 19 = .ok (.if_icmp .ne 5, 3) := by decide +kernel
theorem dX5_onDay_22 : decode cX5_onDay 22 = .ok (.iload_n 2, 1) := by decide +kernel
theorem dX5_onDay_23 : decode cX5_onDay 23 = .ok (.ireturn, 1) := by decide +kernel
theorem dX5_onDay_24 : decode cX5_onDay 24 = .ok (.iinc 2 1, 3) := by decide +kernel
theorem dX5_onDay_27 : decode cX5_onDay 27 = .ok (.goto (-25), 3) := by decide +kernel
theorem dX5_onDay_30 : decode cX5_onDay 30 = .ok (.iconst (-1), 1) := by decide +kernel
theorem dX5_onDay_31 : decode cX5_onDay 31 = .ok (.ireturn, 1) := by decide +kernel
theorem dX5_after_0 : decode cX5_after 0 = .ok (.iconst 0, 1) := by decide +kernel
theorem dX5_after_1 : decode cX5_after 1 = .ok (.istore_n 2, 1) := by decide +kernel
theorem dX5_after_2 : decode cX5_after 2 = .ok (.iload_n 2, 1) := by decide +kernel
theorem dX5_after_3 : decode cX5_after 3 = .ok (.aload_n 0, 1) := by decide +kernel
theorem dX5_after_4 : decode cX5_after 4 = .ok (.getfield 26, 3) := by decide +kernel
theorem dX5_after_7 : decode cX5_after 7 = .ok (.if_icmp .ge 23, 3) := by decide +kernel
theorem dX5_after_10 : decode cX5_after 10 = .ok (.aload_n 0, 1) := by decide +kernel
theorem dX5_after_11 : decode cX5_after 11 = .ok (.getfield 14, 3) := by decide +kernel
theorem dX5_after_14 : decode cX5_after 14 = .ok (.iload_n 2, 1) := by decide +kernel
theorem dX5_after_15 : decode cX5_after 15 = .ok (.invokevirtual 30, 3) := by decide +kernel
theorem dX5_after_18 : decode cX5_after 18 = .ok (.iload_n 1, 1) := by decide +kernel
theorem dX5_after_19 : decode cX5_after 19 = .ok (.if_icmp .le 5, 3) := by decide +kernel
theorem dX5_after_22 : decode cX5_after 22 = .ok (.iload_n 2, 1) := by decide +kernel
theorem dX5_after_23 : decode cX5_after 23 = .ok (.ireturn, 1) := by decide +kernel
theorem dX5_after_24 : decode cX5_after 24 = .ok (.iinc 2 1, 3) := by decide +kernel
theorem dX5_after_27 : decode cX5_after 27 = .ok (.goto (-25), 3) := by decide +kernel
theorem dX5_after_30 : decode cX5_after 30 = .ok (.iconst (-1), 1) := by decide +kernel
theorem dX5_after_31 : decode cX5_after 31 = .ok (.ireturn, 1) := by decide +kernel
theorem dX5_priceOf_0 : decode cX5_priceOf 0 = .ok (.aload_n 0, 1) := by decide +kernel
theorem dX5_priceOf_1 : decode cX5_priceOf 1 = .ok (.getfield 23, 3) := by decide +kernel
theorem dX5_priceOf_4 : decode cX5_priceOf 4 = .ok (.iload_n 1, 1) := by decide +kernel
theorem dX5_priceOf_5 : decode cX5_priceOf 5 = .ok (.bipush 8, 2) := by decide +kernel
theorem dX5_priceOf_7 : decode cX5_priceOf 7 = .ok (.imul, 1) := by decide +kernel
theorem dX5_priceOf_8 : decode cX5_priceOf 8 = .ok (.iload_n 2, 1) := by decide +kernel
theorem dX5_priceOf_9 : decode cX5_priceOf 9 = .ok (.iadd, 1) := by decide +kernel
theorem dX5_priceOf_10 : decode cX5_priceOf 10 = .ok (.invokevirtual 30, 3) := by decide +kernel
theorem dX5_priceOf_13 : decode cX5_priceOf 13 = .ok (.ireturn, 1) := by decide +kernel
theorem dX5_putPrice_0 : decode cX5_putPrice 0 = .ok (.aload_n 0, 1) := by decide +kernel
theorem dX5_putPrice_1 : decode cX5_putPrice 1 = .ok (.getfield 23, 3) := by decide +kernel
theorem dX5_putPrice_4 : decode cX5_putPrice 4 = .ok (.iload_n 1, 1) := by decide +kernel
theorem dX5_putPrice_5 : decode cX5_putPrice 5 = .ok (.bipush 8, 2) := by decide +kernel
theorem dX5_putPrice_7 : decode cX5_putPrice 7 = .ok (.imul, 1) := by decide +kernel
theorem dX5_putPrice_8 : decode cX5_putPrice 8 = .ok (.iload_n 2, 1) := by decide +kernel
theorem dX5_putPrice_9 : decode cX5_putPrice 9 = .ok (.iadd, 1) := by decide +kernel
theorem dX5_putPrice_10 : decode cX5_putPrice 10 = .ok (.iload_n 3, 1) := by decide +kernel
theorem dX5_putPrice_11 : decode cX5_putPrice 11 = .ok (.invokevirtual 34, 3) := by decide +kernel
theorem dX5_putPrice_14 : decode cX5_putPrice 14 = .ok (.return_, 1) := by decide +kernel
theorem dX5_insert_0 : decode cX5_insert 0 = .ok (.aload_n 0, 1) := by decide +kernel
theorem dX5_insert_1 : decode cX5_insert 1 = .ok (.iload_n 1, 1) := by decide +kernel
theorem dX5_insert_2 : decode cX5_insert 2 = .ok (.invokevirtual 38, 3) := by decide +kernel
theorem dX5_insert_5 : decode cX5_insert 5 = .ok (.istore_n 3, 1) := by decide +kernel
theorem dX5_insert_6 : decode cX5_insert 6 = .ok (.iload_n 3, 1) := by decide +kernel
theorem dX5_insert_7 : decode cX5_insert 7 = .ok (.iconst (-1), 1) := by decide +kernel
theorem dX5_insert_8 : decode cX5_insert 8 = .ok (.if_icmp .ne 10, 3) := by decide +kernel
theorem dX5_insert_11 : decode cX5_insert 11 = .ok (.aload_n 0, 1) := by decide +kernel
theorem dX5_insert_12 : decode cX5_insert 12 = .ok (.getfield 26, 3) := by decide +kernel
theorem dX5_insert_15 : decode cX5_insert 15 = .ok (.goto 4, 3) := by decide +kernel
theorem dX5_insert_18 : decode cX5_insert 18 = .ok (.iload_n 3, 1) := by decide +kernel
theorem dX5_insert_19 : decode cX5_insert 19 = .ok (.istore 4, 2) := by decide +kernel
theorem dX5_insert_21 : decode cX5_insert 21 = .ok (.aload_n 0, 1) := by decide +kernel
theorem dX5_insert_22 : decode cX5_insert 22 = .ok (.getfield 26, 3) := by decide +kernel
theorem dX5_insert_25 : decode cX5_insert 25 = .ok (.istore 5, 2) := by decide +kernel
theorem dX5_insert_27 : decode cX5_insert 27 = .ok (.iload 5, 2) := by decide +kernel
theorem dX5_insert_29 : decode cX5_insert 29 = .ok (.iload 4, 2) := by decide +kernel
theorem dX5_insert_31 : decode cX5_insert 31 = .ok (.if_icmp .le 19, 3) := by decide +kernel
theorem dX5_insert_34 : decode cX5_insert 34 = .ok (.aload_n 0, 1) := by decide +kernel
theorem dX5_insert_35 : decode cX5_insert 35 = .ok (.iload 5, 2) := by decide +kernel
theorem dX5_insert_37 : decode cX5_insert 37 = .ok (.iconst 1, 1) := by decide +kernel
theorem dX5_insert_38 : decode cX5_insert 38 = .ok (.isub, 1) := by decide +kernel
theorem dX5_insert_39 : decode cX5_insert 39 = .ok (.iload 5, 2) := by decide +kernel
theorem dX5_insert_41 : decode cX5_insert 41 = .ok (.invokevirtual 41, 3) := by decide +kernel
theorem dX5_insert_44 : decode cX5_insert 44 = .ok (.iinc 5 (-1), 3) := by decide +kernel
theorem dX5_insert_47 : decode cX5_insert 47 = .ok (.goto (-20), 3) := by decide +kernel
theorem dX5_insert_50 : decode cX5_insert 50 = .ok (.aload_n 0, 1) := by decide +kernel
theorem dX5_insert_51 : decode cX5_insert 51 = .ok (.getfield 14, 3) := by decide +kernel
theorem dX5_insert_54 : decode cX5_insert 54 = .ok (.iload 4, 2) := by decide +kernel
theorem dX5_insert_56 : decode cX5_insert 56 = .ok (.iload_n 1, 1) := by decide +kernel
theorem dX5_insert_57 : decode cX5_insert 57 = .ok (.invokevirtual 34, 3) := by decide +kernel
theorem dX5_insert_60 : decode cX5_insert 60 = .ok (.aload_n 0, 1) := by decide +kernel
theorem dX5_insert_61 : decode cX5_insert 61 = .ok (.getfield 20, 3) := by decide +kernel
theorem dX5_insert_64 : decode cX5_insert 64 = .ok (.iload 4, 2) := by decide +kernel
theorem dX5_insert_66 : decode cX5_insert 66 = .ok (.iload_n 2, 1) := by decide +kernel
theorem dX5_insert_67 : decode cX5_insert 67 = .ok (.invokevirtual 34, 3) := by decide +kernel
theorem dX5_insert_70 : decode cX5_insert 70 = .ok (.iconst 0, 1) := by decide +kernel
theorem dX5_insert_71 : decode cX5_insert 71 = .ok (.istore 5, 2) := by decide +kernel
theorem dX5_insert_73 : decode cX5_insert 73 = .ok (.iload 5, 2) := by decide +kernel
theorem dX5_insert_75 : decode cX5_insert 75 = .ok (.bipush 8, 2) := by decide +kernel
theorem dX5_insert_77 : decode cX5_insert 77 = .ok (.if_icmp .ge 18, 3) := by decide +kernel
theorem dX5_insert_80 : decode cX5_insert 80 = .ok (.aload_n 0, 1) := by decide +kernel
theorem dX5_insert_81 : decode cX5_insert 81 = .ok (.iload 4, 2) := by decide +kernel
theorem dX5_insert_83 : decode cX5_insert 83 = .ok (.iload 5, 2) := by decide +kernel
theorem dX5_insert_85 : decode cX5_insert 85 = .ok (.iconst 0, 1) := by decide +kernel
theorem dX5_insert_86 : decode cX5_insert 86 = .ok (.invokevirtual 44, 3) := by decide +kernel
theorem dX5_insert_89 : decode cX5_insert 89 = .ok (.iinc 5 1, 3) := by decide +kernel
theorem dX5_insert_92 : decode cX5_insert 92 = .ok (.goto (-19), 3) := by decide +kernel
theorem dX5_insert_95 : decode cX5_insert 95 = .ok (.aload_n 0, 1) := by decide +kernel
theorem dX5_insert_96 : decode cX5_insert 96 = .ok (.dup, 1) := by decide +kernel
theorem dX5_insert_97 : decode cX5_insert 97 = .ok (.getfield 26, 3) := by decide +kernel
theorem dX5_insert_100 : decode cX5_insert 100 = .ok (.iconst 1, 1) := by decide +kernel
theorem dX5_insert_101 : decode cX5_insert 101 = .ok (.iadd, 1) := by decide +kernel
theorem dX5_insert_102 : decode cX5_insert 102 = .ok (.putfield 26, 3) := by decide +kernel
theorem dX5_insert_105 : decode cX5_insert 105 = .ok (.iload 4, 2) := by decide +kernel
theorem dX5_insert_107 : decode cX5_insert 107 = .ok (.ireturn, 1) := by decide +kernel
theorem dX5_copyPort_0 : decode cX5_copyPort 0 = .ok (.aload_n 0, 1) := by decide +kernel
theorem dX5_copyPort_1 : decode cX5_copyPort 1 = .ok (.getfield 14, 3) := by decide +kernel
theorem dX5_copyPort_4 : decode cX5_copyPort 4 = .ok (.iload_n 2, 1) := by decide +kernel
theorem dX5_copyPort_5 : decode cX5_copyPort 5 = .ok (.aload_n 0, 1) := by decide +kernel
theorem dX5_copyPort_6 : decode cX5_copyPort 6 = .ok (.getfield 14, 3) := by decide +kernel
theorem dX5_copyPort_9 : decode cX5_copyPort 9 = .ok (.iload_n 1, 1) := by decide +kernel
theorem dX5_copyPort_10 : decode cX5_copyPort 10 = .ok (.invokevirtual 30, 3) := by decide +kernel
theorem dX5_copyPort_13 : decode cX5_copyPort 13 = .ok (.invokevirtual 34, 3) := by decide +kernel
theorem dX5_copyPort_16 : decode cX5_copyPort 16 = .ok (.aload_n 0, 1) := by decide +kernel
theorem dX5_copyPort_17 : decode cX5_copyPort 17 = .ok (.getfield 20, 3) := by decide +kernel
theorem dX5_copyPort_20 : decode cX5_copyPort 20 = .ok (.iload_n 2, 1) := by decide +kernel
theorem dX5_copyPort_21 : decode cX5_copyPort 21 = .ok (.aload_n 0, 1) := by decide +kernel
theorem dX5_copyPort_22 : decode cX5_copyPort 22 = .ok (.getfield 20, 3) := by decide +kernel
theorem dX5_copyPort_25 : decode cX5_copyPort 25 = .ok (.iload_n 1, 1) := by decide +kernel
theorem dX5_copyPort_26 : decode cX5_copyPort 26 = .ok (.invokevirtual 30, 3) := by decide +kernel
theorem dX5_copyPort_29 : decode cX5_copyPort 29 = .ok (.invokevirtual 34, 3) := by decide +kernel
theorem dX5_copyPort_32 : decode cX5_copyPort 32 = .ok (.iconst 0, 1) := by decide +kernel
theorem dX5_copyPort_33 : decode cX5_copyPort 33 = .ok (.istore_n 3, 1) := by decide +kernel
theorem dX5_copyPort_34 : decode cX5_copyPort 34 = .ok (.iload_n 3, 1) := by decide +kernel
theorem dX5_copyPort_35 : decode cX5_copyPort 35 = .ok (.bipush 8, 2) := by decide +kernel
theorem dX5_copyPort_37 : decode cX5_copyPort 37 = .ok (.if_icmp .ge 21, 3) := by decide +kernel
theorem dX5_copyPort_40 : decode cX5_copyPort 40 = .ok (.aload_n 0, 1) := by decide +kernel
theorem dX5_copyPort_41 : decode cX5_copyPort 41 = .ok (.iload_n 2, 1) := by decide +kernel
theorem dX5_copyPort_42 : decode cX5_copyPort 42 = .ok (.iload_n 3, 1) := by decide +kernel
theorem dX5_copyPort_43 : decode cX5_copyPort 43 = .ok (.aload_n 0, 1) := by decide +kernel
theorem dX5_copyPort_44 : decode cX5_copyPort 44 = .ok (.iload_n 1, 1) := by decide +kernel
theorem dX5_copyPort_45 : decode cX5_copyPort 45 = .ok (.iload_n 3, 1) := by decide +kernel
theorem dX5_copyPort_46 : decode cX5_copyPort 46 = .ok (.invokevirtual 48, 3) := by decide +kernel
theorem dX5_copyPort_49 : decode cX5_copyPort 49 = .ok (.invokevirtual 44, 3) := by decide +kernel
theorem dX5_copyPort_52 : decode cX5_copyPort 52 = .ok (.iinc 3 1, 3) := by decide +kernel
theorem dX5_copyPort_55 : decode cX5_copyPort 55 = .ok (.goto (-21), 3) := by decide +kernel
theorem dX5_copyPort_58 : decode cX5_copyPort 58 = .ok (.return_, 1) := by decide +kernel
theorem dX5_become_0 : decode cX5_become 0 = .ok (.aload_n 1, 1) := by decide +kernel
theorem dX5_become_1 : decode cX5_become 1 = .ok (.ifnonnull 4, 3) := by decide +kernel
theorem dX5_become_4 : decode cX5_become 4 = .ok (.return_, 1) := by decide +kernel
theorem dX5_become_5 : decode cX5_become 5 = .ok (.aload_n 0, 1) := by decide +kernel
theorem dX5_become_6 : decode cX5_become 6 = .ok (.aload_n 1, 1) := by decide +kernel
theorem dX5_become_7 : decode cX5_become 7 = .ok (.getfield 26, 3) := by decide +kernel
theorem dX5_become_10 : decode cX5_become 10 = .ok (.putfield 26, 3) := by decide +kernel
theorem dX5_become_13 : decode cX5_become 13 = .ok (.aload_n 0, 1) := by decide +kernel
theorem dX5_become_14 : decode cX5_become 14 = .ok (.getfield 14, 3) := by decide +kernel
theorem dX5_become_17 : decode cX5_become 17 = .ok (.aload_n 1, 1) := by decide +kernel
theorem dX5_become_18 : decode cX5_become 18 = .ok (.getfield 14, 3) := by decide +kernel
theorem dX5_become_21 : decode cX5_become 21 = .ok (.invokevirtual 52, 3) := by decide +kernel
theorem dX5_become_24 : decode cX5_become 24 = .ok (.aload_n 0, 1) := by decide +kernel
theorem dX5_become_25 : decode cX5_become 25 = .ok (.getfield 20, 3) := by decide +kernel
theorem dX5_become_28 : decode cX5_become 28 = .ok (.aload_n 1, 1) := by decide +kernel
theorem dX5_become_29 : decode cX5_become 29 = .ok (.getfield 20, 3) := by decide +kernel
theorem dX5_become_32 : decode cX5_become 32 = .ok (.invokevirtual 52, 3) := by decide +kernel
theorem dX5_become_35 : decode cX5_become 35 = .ok (.aload_n 0, 1) := by decide +kernel
theorem dX5_become_36 : decode cX5_become 36 = .ok (.getfield 23, 3) := by decide +kernel
theorem dX5_become_39 : decode cX5_become 39 = .ok (.aload_n 1, 1) := by decide +kernel
theorem dX5_become_40 : decode cX5_become 40 = .ok (.getfield 23, 3) := by decide +kernel
theorem dX5_become_43 : decode cX5_become 43 = .ok (.invokevirtual 52, 3) := by decide +kernel
theorem dX5_become_46 : decode cX5_become 46 = .ok (.return_, 1) := by decide +kernel
theorem dX6_init_0 : decode cX6_init 0 = .ok (.aload_n 0, 1) := by decide +kernel
theorem dX6_init_1 : decode cX6_init 1 = .ok (.invokespecial 1, 3) := by decide +kernel
theorem dX6_init_4 : decode cX6_init 4 = .ok (.aload_n 0, 1) := by decide +kernel
theorem dX6_init_5 : decode cX6_init 5 = .ok (.iload_n 1, 1) := by decide +kernel
theorem dX6_init_6 : decode cX6_init 6 = .ok (.ifCond .ge 7, 3) := by decide +kernel
theorem dX6_init_9 : decode cX6_init 9 = .ok (.iconst 0, 1) := by decide +kernel
theorem dX6_init_10 : decode cX6_init 10 = .ok (.goto 4, 3) := by decide +kernel
theorem dX6_init_13 : decode cX6_init 13 = .ok (.iload_n 1, 1) := by decide +kernel
theorem dX6_init_14 : decode cX6_init 14 = .ok (.newarray .int, 2) := by decide +kernel
theorem dX6_init_16 : decode cX6_init 16 = .ok (.putfield 7, 3) := by decide +kernel
theorem dX6_init_19 : decode cX6_init 19 = .ok (.return_, 1) := by decide +kernel
theorem dX6_at_0 : decode cX6_at 0 = .ok (.iload_n 1, 1) := by decide +kernel
theorem dX6_at_1 : decode cX6_at 1 = .ok (.ifCond .lt 12, 3) := by decide +kernel
theorem dX6_at_4 : decode cX6_at 4 = .ok (.iload_n 1, 1) := by decide +kernel
theorem dX6_at_5 : decode cX6_at 5 = .ok (.aload_n 0, 1) := by decide +kernel
theorem dX6_at_6 : decode cX6_at 6 = .ok (.getfield 7, 3) := by decide +kernel
theorem dX6_at_9 : decode cX6_at 9 = .ok (.arraylength, 1) := by decide +kernel
theorem dX6_at_10 : decode cX6_at 10 = .ok (.if_icmp .lt 7, 3) := by decide +kernel
theorem dX6_at_13 : decode cX6_at 13 = .ok (.iconst 0, 1) := by decide +kernel
theorem dX6_at_14 : decode cX6_at 14 = .ok (.goto 9, 3) := by decide +kernel
theorem dX6_at_17 : decode cX6_at 17 = .ok (.aload_n 0, 1) := by decide +kernel
theorem dX6_at_18 : decode cX6_at 18 = .ok (.getfield 7, 3) := by decide +kernel
theorem dX6_at_21 : decode cX6_at 21 = .ok (.iload_n 1, 1) := by decide +kernel
theorem dX6_at_22 : decode cX6_at 22 = .ok (.iaload, 1) := by decide +kernel
theorem dX6_at_23 : decode cX6_at 23 = .ok (.ireturn, 1) := by decide +kernel
theorem dX6_put_0 : decode cX6_put 0 = .ok (.iload_n 1, 1) := by decide +kernel
theorem dX6_put_1 : decode cX6_put 1 = .ok (.ifCond .lt 19, 3) := by decide +kernel
theorem dX6_put_4 : decode cX6_put 4 = .ok (.iload_n 1, 1) := by decide +kernel
theorem dX6_put_5 : decode cX6_put 5 = .ok (.aload_n 0, 1) := by decide +kernel
theorem dX6_put_6 : decode cX6_put 6 = .ok (.getfield 7, 3) := by decide +kernel
theorem dX6_put_9 : decode cX6_put 9 = .ok (.arraylength, 1) := by decide +kernel
theorem dX6_put_10 : decode cX6_put 10 = .ok (.if_icmp .ge 10, 3) := by decide +kernel
theorem dX6_put_13 : decode cX6_put 13 = .ok (.aload_n 0, 1) := by decide +kernel
theorem dX6_put_14 : decode cX6_put 14 = .ok (.getfield 7, 3) := by decide +kernel
theorem dX6_put_17 : decode cX6_put 17 = .ok (.iload_n 1, 1) := by decide +kernel
theorem dX6_put_18 : decode cX6_put 18 = .ok (.iload_n 2, 1) := by decide +kernel
theorem dX6_put_19 : decode cX6_put 19 = .ok (.iastore, 1) := by decide +kernel
theorem dX6_put_20 : decode cX6_put 20 = .ok (.return_, 1) := by decide +kernel
theorem dX6_add_0 : decode cX6_add 0 = .ok (.aload_n 0, 1) := by decide +kernel
theorem dX6_add_1 : decode cX6_add 1 = .ok (.iload_n 1, 1) := by decide +kernel
theorem dX6_add_2 : decode cX6_add 2 = .ok (.aload_n 0, 1) := by decide +kernel
theorem dX6_add_3 : decode cX6_add 3 = .ok (.iload_n 1, 1) := by decide +kernel
theorem dX6_add_4 : decode cX6_add 4 = .ok (.invokevirtual 13, 3) := by decide +kernel
theorem dX6_add_7 : decode cX6_add 7 = .ok (.iload_n 2, 1) := by decide +kernel
theorem dX6_add_8 : decode cX6_add 8 = .ok (.iadd, 1) := by decide +kernel
theorem dX6_add_9 : decode cX6_add 9 = .ok (.invokevirtual 17, 3) := by decide +kernel
theorem dX6_add_12 : decode cX6_add 12 = .ok (.return_, 1) := by decide +kernel
theorem dX6_fill_0 : decode cX6_fill 0 = .ok (.iconst 0, 1) := by decide +kernel
theorem dX6_fill_1 : decode cX6_fill 1 = .ok (.istore_n 2, 1) := by decide +kernel
theorem dX6_fill_2 : decode cX6_fill 2 = .ok (.iload_n 2, 1) := by decide +kernel
theorem dX6_fill_3 : decode cX6_fill 3 = .ok (.aload_n 0, 1) := by decide +kernel
theorem dX6_fill_4 : decode cX6_fill 4 = .ok (.getfield 7, 3) := by decide +kernel
theorem dX6_fill_7 : decode cX6_fill 7 = .ok (.arraylength, 1) := by decide +kernel
theorem dX6_fill_8 : decode cX6_fill 8 = .ok (.if_icmp .ge 16, 3) := by decide +kernel
theorem dX6_fill_11 : decode cX6_fill 11 = .ok (.aload_n 0, 1) := by decide +kernel
theorem dX6_fill_12 : decode cX6_fill 12 = .ok (.getfield 7, 3) := by decide +kernel
theorem dX6_fill_15 : decode cX6_fill 15 = .ok (.iload_n 2, 1) := by decide +kernel
theorem dX6_fill_16 : decode cX6_fill 16 = .ok (.iload_n 1, 1) := by decide +kernel
theorem dX6_fill_17 : decode cX6_fill 17 = .ok (.iastore, 1) := by decide +kernel
theorem dX6_fill_18 : decode cX6_fill 18 = .ok (.iinc 2 1, 3) := by decide +kernel
theorem dX6_fill_21 : decode cX6_fill 21 = .ok (.goto (-19), 3) := by decide +kernel
theorem dX6_fill_24 : decode cX6_fill 24 = .ok (.return_, 1) := by decide +kernel
theorem dX6_sum_0 : decode cX6_sum 0 = .ok (.iconst 0, 1) := by decide +kernel
theorem dX6_sum_1 : decode cX6_sum 1 = .ok (.istore_n 1, 1) := by decide +kernel
theorem dX6_sum_2 : decode cX6_sum 2 = .ok (.iconst 0, 1) := by decide +kernel
theorem dX6_sum_3 : decode cX6_sum 3 = .ok (.istore_n 2, 1) := by decide +kernel
theorem dX6_sum_4 : decode cX6_sum 4 = .ok (.iload_n 2, 1) := by decide +kernel
theorem dX6_sum_5 : decode cX6_sum 5 = .ok (.aload_n 0, 1) := by decide +kernel
theorem dX6_sum_6 : decode cX6_sum 6 = .ok (.getfield 7, 3) := by decide +kernel
theorem dX6_sum_9 : decode cX6_sum 9 = .ok (.arraylength, 1) := by decide +kernel
theorem dX6_sum_10 : decode cX6_sum 10 = .ok (.if_icmp .ge 18, 3) := by decide +kernel
theorem dX6_sum_13 : decode cX6_sum 13 = .ok (.iload_n 1, 1) := by decide +kernel
theorem dX6_sum_14 : decode cX6_sum 14 = .ok (.aload_n 0, 1) := by decide +kernel
theorem dX6_sum_15 : decode cX6_sum 15 = .ok (.getfield 7, 3) := by decide +kernel
theorem dX6_sum_18 : decode cX6_sum 18 = .ok (.iload_n 2, 1) := by decide +kernel
theorem dX6_sum_19 : decode cX6_sum 19 = .ok (.iaload, 1) := by decide +kernel
theorem dX6_sum_20 : decode cX6_sum 20 = .ok (.iadd, 1) := by decide +kernel
theorem dX6_sum_21 : decode cX6_sum 21 = .ok (.istore_n 1, 1) := by decide +kernel
theorem dX6_sum_22 : decode cX6_sum 22 = .ok (.iinc 2 1, 3) := by decide +kernel
theorem dX6_sum_25 : decode cX6_sum 25 = .ok (.goto (-21), 3) := by decide +kernel
theorem dX6_sum_28 : decode cX6_sum 28 = .ok (.iload_n 1, 1) := by decide +kernel
theorem dX6_sum_29 : decode cX6_sum 29 = .ok (.ireturn, 1) := by decide +kernel
theorem dX6_become_0 : decode cX6_become 0 = .ok (.aload_n 1, 1) := by decide +kernel
theorem dX6_become_1 : decode cX6_become 1 = .ok (.ifnull 34, 3) := by decide +kernel
theorem dX6_become_4 : decode cX6_become 4 = .ok (.aload_n 1, 1) := by decide +kernel
theorem dX6_become_5 : decode cX6_become 5 = .ok (.getfield 7, 3) := by decide +kernel
theorem dX6_become_8 : decode cX6_become 8 = .ok (.arraylength, 1) := by decide +kernel
theorem dX6_become_9 : decode cX6_become 9 = .ok (.aload_n 0, 1) := by decide +kernel
theorem dX6_become_10 : decode cX6_become 10 = .ok (.getfield 7, 3) := by decide +kernel
theorem dX6_become_13 : decode cX6_become 13 = .ok (.arraylength, 1) := by decide +kernel
theorem dX6_become_14 : decode cX6_become 14 = .ok (.if_icmp .ne 21, 3) := by decide +kernel
theorem dX6_become_17 : decode cX6_become 17 = .ok (.aload_n 1, 1) := by decide +kernel
theorem dX6_become_18 : decode cX6_become 18 = .ok (.getfield 7, 3) := by decide +kernel
theorem dX6_become_21 : decode cX6_become 21 = .ok (.iconst 0, 1) := by decide +kernel
theorem dX6_become_22 : decode cX6_become 22 = .ok (.aload_n 0, 1) := by decide +kernel
theorem dX6_become_23 : decode cX6_become 23 = .ok (.getfield 7, 3) := by decide +kernel
theorem dX6_become_26 : decode cX6_become 26 = .ok (.iconst 0, 1) := by decide +kernel
theorem dX6_become_27 : decode cX6_become 27 = .ok (.aload_n 0, 1) := by decide +kernel
theorem dX6_become_28 : decode cX6_become 28 = .ok (.getfield 7, 3) := by decide +kernel
theorem dX6_become_31 : decode cX6_become 31 = .ok (.arraylength, 1) := by decide +kernel
theorem dX6_become_32 : decode cX6_become 32 = .ok (.invokestatic 21, 3) := by decide +kernel
theorem dX6_become_35 : decode cX6_become 35 = .ok (.return_, 1) := by decide +kernel
theorem dX7_init_0 : decode cX7_init 0 = .ok (.aload_n 0, 1) := by decide +kernel
theorem dX7_init_1 : decode cX7_init 1 = .ok (.invokespecial 3, 3) := by decide +kernel
theorem dX7_init_4 : decode cX7_init 4 = .ok (.aload_n 0, 1) := by decide +kernel
theorem dX7_init_5 : decode cX7_init 5 = .ok (.bipush 10, 2) := by decide +kernel
theorem dX7_init_7 : decode cX7_init 7 = .ok (.putfield 9, 3) := by decide +kernel
theorem dX7_init_10 : decode cX7_init 10 = .ok (.aload_n 0, 1) := by decide +kernel
theorem dX7_init_11 : decode cX7_init 11 = .ok (.sipush 10000, 3) := by decide +kernel
theorem dX7_init_14 : decode cX7_init 14 = .ok (.putfield 15, 3) := by decide +kernel
theorem dX7_init_17 : decode cX7_init 17 = .ok (.aload_n 0, 1) := by decide +kernel
theorem dX7_init_18 : decode cX7_init 18 = .ok (.new 18, 3) := by decide +kernel
theorem dX7_init_21 : decode cX7_init 21 = .ok (.dup, 1) := by decide +kernel
theorem dX7_init_22 : decode cX7_init 22 = .ok (.invokespecial 20, 3) := by decide +kernel
theorem dX7_init_25 : decode cX7_init 25 = .ok (.putfield 21, 3) := by decide +kernel
theorem dX7_init_28 : decode cX7_init 28 = .ok (.aload_n 0, 1) := by decide +kernel
theorem dX7_init_29 : decode cX7_init 29 = .ok (.new 25, 3) := by decide +kernel
theorem dX7_init_32 : decode cX7_init 32 = .ok (.dup, 1) := by decide +kernel
theorem dX7_init_33 : decode cX7_init 33 = .ok (.invokespecial 27, 3) := by decide +kernel
theorem dX7_init_36 : decode cX7_init 36 = .ok (.putfield 28, 3) := by decide +kernel
theorem dX7_init_39 : decode cX7_init 39 = .ok (.aload_n 0, 1) := by decide +kernel
theorem dX7_init_40 : decode cX7_init 40 = .ok (.new 32, 3) := by decide +kernel
theorem dX7_init_43 : decode cX7_init 43 = .ok (.dup, 1) := by decide +kernel
theorem dX7_init_44 : decode cX7_init 44 = .ok (.invokespecial 34, 3) := by decide +kernel
theorem dX7_init_47 : decode cX7_init 47 = .ok (.putfield 35, 3) := by decide +kernel
theorem dX7_init_50 : decode cX7_init 50 = .ok (.aload_n 0, 1) := by decide +kernel
theorem dX7_init_51 : decode cX7_init 51 = .ok (.new 39, 3) := by decide +kernel
theorem dX7_init_54 : decode cX7_init 54 = .ok (.dup, 1) := by decide +kernel
theorem dX7_init_55 : decode cX7_init 55 = .ok (.invokespecial 41, 3) := by decide +kernel
theorem dX7_init_58 : decode cX7_init 58 = .ok (.putfield 42, 3) := by decide +kernel
theorem dX7_init_61 : decode cX7_init 61 = .ok (.aload_n 0, 1) := by decide +kernel
theorem dX7_init_62 : decode cX7_init 62 = .ok (.new 46, 3) := by decide +kernel
theorem dX7_init_65 : decode cX7_init 65 = .ok (.dup, 1) := by decide +kernel
theorem dX7_init_66 : decode cX7_init 66 = .ok (.invokespecial 48, 3) := by decide +kernel
theorem dX7_init_69 : decode cX7_init 69 = .ok (.putfield 49, 3) := by decide +kernel
theorem dX7_init_72 : decode cX7_init 72 = .ok (.aload_n 0, 1) := by decide +kernel
theorem dX7_init_73 : decode cX7_init 73 = .ok (.new 53, 3) := by decide +kernel
theorem dX7_init_76 : decode cX7_init 76 = .ok (.dup, 1) := by decide +kernel
theorem dX7_init_77 : decode cX7_init 77 = .ok (.bipush 31, 2) := by decide +kernel
theorem dX7_init_79 : decode cX7_init 79 = .ok (.invokespecial 55, 3) := by decide +kernel
theorem dX7_init_82 : decode cX7_init 82 = .ok (.putfield 58, 3) := by decide +kernel
theorem dX7_init_85 : decode cX7_init 85 = .ok (.return_, 1) := by decide +kernel
theorem dX7_lifeNow_0 : decode cX7_lifeNow 0 = .ok (.aload_n 0, 1) := by decide +kernel
theorem dX7_lifeNow_1 : decode cX7_lifeNow 1 = .ok (.getfield 21, 3) := by decide +kernel
theorem dX7_lifeNow_4 : decode cX7_lifeNow 4 = .ok (.iload_n 1, 1) := by decide +kernel
theorem dX7_lifeNow_5 : decode cX7_lifeNow 5 = .ok (.aload_n 0, 1) := by decide +kernel
theorem dX7_lifeNow_6 : decode cX7_lifeNow 6 = .ok (.getfield 28, 3) := by decide +kernel
theorem dX7_lifeNow_9 : decode cX7_lifeNow 9 = .ok (.getfield 62, 3) := by decide +kernel
theorem dX7_lifeNow_12 : decode cX7_lifeNow 12 = .ok (.iload_n 2, 1) := by decide +kernel
theorem dX7_lifeNow_13 : decode cX7_lifeNow 13 = .ok (.invokevirtual 65, 3) := by decide +kernel
theorem dX7_lifeNow_16 : decode cX7_lifeNow 16 = .ok (.ifCond .le 7, 3) := by decide +kernel
theorem dX7_lifeNow_19 : decode cX7_lifeNow 19 = .ok (.iconst 0, 1) := by decide +kernel
theorem dX7_lifeNow_20 : decode cX7_lifeNow 20 = .ok (.goto 4, 3) := by decide +kernel
theorem dX7_lifeNow_23 : decode cX7_lifeNow 23 = .ok (.iload_n 2, 1) := by decide +kernel
theorem dX7_lifeNow_24 : decode cX7_lifeNow 24 = .ok (.invokevirtual 69, 3) := by decide +kernel
theorem dX7_lifeNow_27 : decode cX7_lifeNow 27 = .ok (.ireturn, 1) := by decide +kernel
theorem dX7_roomLeft_0 : decode cX7_roomLeft 0 = .ok (.aload_n 0, 1) := by decide +kernel
theorem dX7_roomLeft_1 : decode cX7_roomLeft 1 = .ok (.getfield 28, 3) := by decide +kernel
theorem dX7_roomLeft_4 : decode cX7_roomLeft 4 = .ok (.getfield 73, 3) := by decide +kernel
theorem dX7_roomLeft_7 : decode cX7_roomLeft 7 = .ok (.iload_n 1, 1) := by decide +kernel
theorem dX7_roomLeft_8 : decode cX7_roomLeft 8 = .ok (.invokevirtual 65, 3) := by decide +kernel
theorem dX7_roomLeft_11 : decode cX7_roomLeft 11 = .ok (.aload_n 0, 1) := by decide +kernel
theorem dX7_roomLeft_12 : decode cX7_roomLeft 12 = .ok (.getfield 35, 3) := by decide +kernel
theorem dX7_roomLeft_15 : decode cX7_roomLeft 15 = .ok (.iload_n 1, 1) := by decide +kernel
theorem dX7_roomLeft_16 : decode cX7_roomLeft 16 = .ok (.invokevirtual 76, 3) := by decide +kernel
theorem dX7_roomLeft_19 : decode cX7_roomLeft 19 = .ok (.isub, 1) := by decide +kernel
theorem dX7_roomLeft_20 : decode cX7_roomLeft 20 = .ok (.ireturn, 1) := by decide +kernel
theorem dX7_refusal_0 : decode cX7_refusal 0 = .ok (.aload_n 0, 1) := by decide +kernel
theorem dX7_refusal_1 : decode cX7_refusal 1 = .ok (.getfield 42, 3) := by decide +kernel
theorem dX7_refusal_4 : decode cX7_refusal 4 = .ok (.aload_n 0, 1) := by decide +kernel
theorem dX7_refusal_5 : decode cX7_refusal 5 = .ok (.getfield 79, 3) := by decide +kernel
theorem dX7_refusal_8 : decode cX7_refusal 8 = .ok (.invokevirtual 82, 3) := by decide +kernel
theorem dX7_refusal_11 : decode cX7_refusal 11 = .ok (.istore 4, 2) := by decide +kernel
theorem dX7_refusal_13 : decode cX7_refusal 13 = .ok (.iload 4, 2) := by decide +kernel
theorem dX7_refusal_15 : decode cX7_refusal 15 = .ok (.iconst (-1), 1) := by decide +kernel
theorem dX7_refusal_16 : decode cX7_refusal 16 = .ok (.if_icmp .ne 5, 3) := by decide +kernel
theorem dX7_refusal_19 : decode cX7_refusal 19 = .ok (.iconst 1, 1) := by decide +kernel
theorem dX7_refusal_20 : decode cX7_refusal 20 = .ok (.ireturn, 1) := by decide +kernel
theorem dX7_refusal_21 : decode cX7_refusal 21 = .ok (.aload_n 0, 1) := by decide +kernel
theorem dX7_refusal_22 : decode cX7_refusal 22 = .ok (.getfield 42, 3) := by decide +kernel
theorem dX7_refusal_25 : decode cX7_refusal 25 = .ok (.iload 4, 2) := by decide +kernel
theorem dX7_refusal_27 : decode cX7_refusal 27 = .ok (.iload_n 1, 1) := by decide +kernel
theorem dX7_refusal_28 : decode cX7_refusal 28 = .ok (.invokevirtual 85, 3) := by decide +kernel
theorem dX7_refusal_31 : decode cX7_refusal 31 = .ok (.istore 5, 2) := by decide +kernel
theorem dX7_refusal_33 : decode cX7_refusal 33 = .ok (.iload 5, 2) := by decide +kernel
theorem dX7_refusal_35 : decode cX7_refusal 35 = .ok (.ifCond .ne 5, 3) := by decide +kernel
theorem dX7_refusal_38 : decode cX7_refusal 38 = .ok (.iconst 2, 1) := by decide +kernel
theorem dX7_refusal_39 : decode cX7_refusal 39 = .ok (.ireturn, 1) := by decide +kernel
theorem dX7_refusal_40 : decode cX7_refusal 40 = .ok (.aload_n 0, 1) := by decide +kernel
theorem dX7_refusal_41 : decode cX7_refusal 41 = .ok (.iload_n 1, 1) := by decide +kernel
theorem dX7_refusal_42 : decode cX7_refusal 42 = .ok (.iload_n 3, 1) := by decide +kernel
theorem dX7_refusal_43 : decode cX7_refusal 43 = .ok (.invokevirtual 88, 3) := by decide +kernel
theorem dX7_refusal_46 : decode cX7_refusal 46 = .ok (.ifCond .ne 5, 3) := by decide +kernel
theorem dX7_refusal_49 : decode cX7_refusal 49 = .ok (.iconst 3, 1) := by decide +kernel
theorem dX7_refusal_50 : decode cX7_refusal 50 = .ok (.ireturn, 1) := by decide +kernel
theorem dX7_refusal_51 : decode cX7_refusal 51 = .ok (.aload_n 0, 1) := by decide +kernel
theorem dX7_refusal_52 : decode cX7_refusal 52 = .ok (.iload_n 3, 1) := by decide +kernel
theorem dX7_refusal_53 : decode cX7_refusal 53 = .ok (.invokevirtual 91, 3) := by decide +kernel
theorem dX7_refusal_56 : decode cX7_refusal 56 = .ok (.iload_n 2, 1) := by decide +kernel
theorem dX7_refusal_57 : decode cX7_refusal 57 = .ok (.if_icmp .ge 5, 3) := by decide +kernel
theorem dX7_refusal_60 : decode cX7_refusal 60 = .ok (.iconst 4, 1) := by decide +kernel
theorem dX7_refusal_61 : decode cX7_refusal 61 = .ok (.ireturn, 1) := by decide +kernel
theorem dX7_refusal_62 : decode cX7_refusal 62 = .ok (.iload 5, 2) := by decide +kernel
theorem dX7_refusal_64 : decode cX7_refusal 64 = .ok (.iload_n 2, 1) := by decide +kernel
theorem dX7_refusal_65 : decode cX7_refusal 65 = .ok (.imul, 1) := by decide +kernel
theorem dX7_refusal_66 : decode cX7_refusal 66 = .ok (.aload_n 0, 1) := by decide +kernel
theorem dX7_refusal_67 : decode cX7_refusal 67 = .ok (.getfield 15, 3) := by decide +kernel
theorem dX7_refusal_70 : decode cX7_refusal 70 = .ok (.if_icmp .le 5, 3) := by decide +kernel
theorem dX7_refusal_73 : decode cX7_refusal 73 = .ok (.iconst 5, 1) := by decide +kernel
theorem dX7_refusal_74 : decode cX7_refusal 74 = .ok (.ireturn, 1) := by decide +kernel
theorem dX7_refusal_75 : decode cX7_refusal 75 = .ok (.aload_n 0, 1) := by decide +kernel
theorem dX7_refusal_76 : decode cX7_refusal 76 = .ok (.getfield 35, 3) := by decide +kernel
theorem dX7_refusal_79 : decode cX7_refusal 79 = .ok (.getfield 94, 3) := by decide +kernel
theorem dX7_refusal_82 : decode cX7_refusal 82 = .ok (.bipush 30, 2) := by decide +kernel
theorem dX7_refusal_84 : decode cX7_refusal 84 = .ok (.if_icmp .lt 8, 3) := by decide +kernel
theorem dX7_refusal_87 : decode cX7_refusal 87 = .ok (.bipush 6, 2) := by decide +kernel
theorem dX7_refusal_89 : decode cX7_refusal 89 = .ok (.goto 4, 3) := by decide +kernel
theorem dX7_refusal_92 : decode cX7_refusal 92 = .ok (.iconst 0, 1) := by decide +kernel
theorem dX7_refusal_93 : decode cX7_refusal 93 = .ok (.ireturn, 1) := by decide +kernel
theorem dX7_purchase_0 : decode cX7_purchase 0 = .ok (.aload_n 0, 1) := by decide +kernel
theorem dX7_purchase_1 : decode cX7_purchase 1 = .ok (.getfield 42, 3) := by decide +kernel
theorem dX7_purchase_4 : decode cX7_purchase 4 = .ok (.aload_n 0, 1) := by decide +kernel
theorem dX7_purchase_5 : decode cX7_purchase 5 = .ok (.getfield 79, 3) := by decide +kernel
theorem dX7_purchase_8 : decode cX7_purchase 8 = .ok (.invokevirtual 82, 3) := by decide +kernel
theorem dX7_purchase_11 : decode cX7_purchase 11 = .ok (.istore 4, 2) := by decide +kernel
theorem dX7_purchase_13 : decode cX7_purchase 13 = .ok (.aload_n 0, 1) := by decide +kernel
theorem dX7_purchase_14 : decode cX7_purchase 14 = .ok (.getfield 42, 3) := by decide +kernel
theorem dX7_purchase_17 : decode cX7_purchase 17 = .ok (.iload 4, 2) := by decide +kernel
theorem dX7_purchase_19 : decode cX7_purchase 19 = .ok (.iload_n 1, 1) := by decide +kernel
theorem dX7_purchase_20 : decode cX7_purchase 20 = .ok (.invokevirtual 85, 3) := by decide +kernel
theorem dX7_purchase_23 : decode cX7_purchase 23 = .ok (.iload_n 2, 1) := by decide +kernel
theorem dX7_purchase_24 : decode cX7_purchase 24 = .ok (.imul, 1) := by decide +kernel
theorem dX7_purchase_25 : decode cX7_purchase 25 = .ok (.istore 5, 2) := by decide +kernel
theorem dX7_purchase_27 : decode cX7_purchase 27 = .ok (.aload_n 0, 1) := by decide +kernel
theorem dX7_purchase_28 : decode cX7_purchase 28 = .ok (.dup, 1) := by decide +kernel
theorem dX7_purchase_29 : decode cX7_purchase 29 = .ok (.getfield 15, 3) := by decide +kernel
theorem dX7_purchase_32 : decode cX7_purchase 32 = .ok (.iload 5, 2) := by decide +kernel
theorem dX7_purchase_34 : decode cX7_purchase 34 = .ok (.isub, 1) := by decide +kernel
theorem dX7_purchase_35 : decode cX7_purchase 35 = .ok (.putfield 15, 3) := by decide +kernel
theorem dX7_purchase_38 : decode cX7_purchase 38 = .ok (.aload_n 0, 1) := by decide +kernel
theorem dX7_purchase_39 : decode cX7_purchase 39 = .ok (.dup, 1) := by decide +kernel
theorem dX7_purchase_40 : decode cX7_purchase 40 = .ok (.getfield 97, 3) := by decide +kernel
theorem dX7_purchase_43 : decode cX7_purchase 43 = .ok (.iload 5, 2) := by decide +kernel
theorem dX7_purchase_45 : decode cX7_purchase 45 = .ok (.iadd, 1) := by decide +kernel
theorem dX7_purchase_46 : decode cX7_purchase 46 = .ok (.putfield 97, 3) := by decide +kernel
theorem dX7_purchase_49 : decode cX7_purchase 49 = .ok (.aload_n 0, 1) := by decide +kernel
theorem dX7_purchase_50 : decode cX7_purchase 50 = .ok (.getfield 21, 3) := by decide +kernel
theorem dX7_purchase_53 : decode cX7_purchase 53 = .ok (.getfield 100, 3) := by decide +kernel
theorem dX7_purchase_56 : decode cX7_purchase 56 = .ok (.iload_n 1, 1) := by decide +kernel
theorem dX7_purchase_57 : decode cX7_purchase 57 = .ok (.iload_n 2, 1) := by decide +kernel
theorem dX7_purchase_58 : decode cX7_purchase 58 = .ok (.invokevirtual 103, 3) := by decide +kernel
theorem dX7_purchase_61 : decode cX7_purchase 61 = .ok (.aload_n 0, 1) := by decide +kernel
theorem dX7_purchase_62 : decode cX7_purchase 62 = .ok (.getfield 35, 3) := by decide +kernel
theorem dX7_purchase_65 : decode cX7_purchase 65 = .ok (.iload_n 1, 1) := by decide +kernel
theorem dX7_purchase_66 : decode cX7_purchase 66 = .ok (.iload_n 3, 1) := by decide +kernel
theorem dX7_purchase_67 : decode cX7_purchase 67 = .ok (.iload_n 2, 1) := by decide +kernel
theorem dX7_purchase_68 : decode cX7_purchase 68 = .ok (.aload_n 0, 1) := by decide +kernel
theorem dX7_purchase_69 : decode cX7_purchase 69 = .ok (.getfield 42, 3) := by decide +kernel
theorem dX7_purchase_72 : decode cX7_purchase 72 = .ok (.getfield 107, 3) := by decide +kernel
theorem dX7_purchase_75 : decode cX7_purchase 75 = .ok (.iload 4, 2) := by decide +kernel
theorem dX7_purchase_77 : decode cX7_purchase 77 = .ok (.invokevirtual 65, 3) := by decide +kernel
theorem dX7_purchase_80 : decode cX7_purchase 80 = .ok (.invokevirtual 110, 3) := by decide +kernel
theorem dX7_purchase_83 : decode cX7_purchase 83 = .ok (.ireturn, 1) := by decide +kernel
theorem dX7_daysLeftOf_0 : decode cX7_daysLeftOf 0 = .ok (.aload_n 0, 1) := by decide +kernel
theorem dX7_daysLeftOf_1 : decode cX7_daysLeftOf 1 = .ok (.getfield 35, 3) := by decide +kernel
theorem dX7_daysLeftOf_4 : decode cX7_daysLeftOf 4 = .ok (.getfield 124, 3) := by decide +kernel
theorem dX7_daysLeftOf_7 : decode cX7_daysLeftOf 7 = .ok (.iload_n 1, 1) := by decide +kernel
theorem dX7_daysLeftOf_8 : decode cX7_daysLeftOf 8 = .ok (.invokevirtual 65, 3) := by decide +kernel
theorem dX7_daysLeftOf_11 : decode cX7_daysLeftOf 11 = .ok (.istore_n 2, 1) := by decide +kernel
theorem dX7_daysLeftOf_12 : decode cX7_daysLeftOf 12 = .ok (.aload_n 0, 1) := by decide +kernel
theorem dX7_daysLeftOf_13 : decode cX7_daysLeftOf 13 = .ok (.getfield 35, 3) := by decide +kernel
theorem dX7_daysLeftOf_16 : decode cX7_daysLeftOf 16 = .ok (.getfield 127, 3) := by decide +kernel
theorem dX7_daysLeftOf_19 : decode cX7_daysLeftOf 19 = .ok (.iload_n 1, 1) := by decide +kernel
theorem dX7_daysLeftOf_20 : decode cX7_daysLeftOf 20 = .ok (.invokevirtual 65, 3) := by decide +kernel
theorem dX7_daysLeftOf_23 : decode cX7_daysLeftOf 23 = .ok (.istore_n 3, 1) := by decide +kernel
theorem dX7_daysLeftOf_24 : decode cX7_daysLeftOf 24 = .ok (.sipush 1000, 3) := by decide +kernel
theorem dX7_daysLeftOf_27 : decode cX7_daysLeftOf 27 = .ok (.aload_n 0, 1) := by decide +kernel
theorem dX7_daysLeftOf_28 : decode cX7_daysLeftOf 28 = .ok (.getfield 35, 3) := by decide +kernel
theorem dX7_daysLeftOf_31 : decode cX7_daysLeftOf 31 = .ok (.getfield 130, 3) := by decide +kernel
theorem dX7_daysLeftOf_34 : decode cX7_daysLeftOf 34 = .ok (.iload_n 1, 1) := by decide +kernel
theorem dX7_daysLeftOf_35 : decode cX7_daysLeftOf 35 = .ok (.invokevirtual 65, 3) := by decide +kernel
theorem dX7_daysLeftOf_38 : decode cX7_daysLeftOf 38 = .ok (.isub, 1) := by decide +kernel
theorem dX7_daysLeftOf_39 : decode cX7_daysLeftOf 39 = .ok (.istore 4, 2) := by decide +kernel
theorem dX7_daysLeftOf_41 : decode cX7_daysLeftOf 41 = .ok (.aload_n 0, 1) := by decide +kernel
theorem dX7_daysLeftOf_42 : decode cX7_daysLeftOf 42 = .ok (.getfield 28, 3) := by decide +kernel
theorem dX7_daysLeftOf_45 : decode cX7_daysLeftOf 45 = .ok (.getfield 62, 3) := by decide +kernel
theorem dX7_daysLeftOf_48 : decode cX7_daysLeftOf 48 = .ok (.iload_n 3, 1) := by decide +kernel
theorem dX7_daysLeftOf_49 : decode cX7_daysLeftOf 49 = .ok (.invokevirtual 65, 3) := by decide +kernel
theorem dX7_daysLeftOf_52 : decode cX7_daysLeftOf 52 = .ok (.istore 5, 2) := by decide +kernel
theorem dX7_daysLeftOf_54 : decode cX7_daysLeftOf 54 = .ok (.aload_n 0, 1) := by decide +kernel
theorem dX7_daysLeftOf_55 : decode cX7_daysLeftOf 55 = .ok (.getfield 21, 3) := by decide +kernel
theorem dX7_daysLeftOf_58 : decode cX7_daysLeftOf 58 = .ok (.iload_n 2, 1) := by decide +kernel
theorem dX7_daysLeftOf_59 : decode cX7_daysLeftOf 59 = .ok (.iconst 0, 1) := by decide +kernel
theorem dX7_daysLeftOf_60 : decode cX7_daysLeftOf 60 = .ok (.invokevirtual 69, 3) := by decide +kernel
theorem dX7_daysLeftOf_63 : decode cX7_daysLeftOf 63 = .ok (.invokestatic 133, 3) := by decide +kernel
theorem dX7_daysLeftOf_66 : decode cX7_daysLeftOf 66 = .ok (.istore 6, 2) := by decide +kernel
theorem dX7_daysLeftOf_68 : decode cX7_daysLeftOf 68 = .ok (.iload 4, 2) := by decide +kernel
theorem dX7_daysLeftOf_70 : decode cX7_daysLeftOf 70 = .ok (.iload 5, 2) := by decide +kernel
theorem dX7_daysLeftOf_72 : decode cX7_daysLeftOf 72 = .ok (.iload 6, 2) := by decide +kernel
theorem dX7_daysLeftOf_74 : decode cX7_daysLeftOf 74 = .ok (.imul, 1) := by decide +kernel
theorem dX7_daysLeftOf_75 : decode cX7_daysLeftOf 75 = .ok (.if_icmp .gt 11, 3) := by decide +kernel
theorem dX7_daysLeftOf_78 : decode cX7_daysLeftOf 78 = .ok (.iload 4, 2) := by decide +kernel
theorem dX7_daysLeftOf_80 : decode cX7_daysLeftOf 80 = .ok (.iload 6, 2) := by decide +kernel
theorem dX7_daysLeftOf_82 : decode cX7_daysLeftOf 82 = .ok (.invokestatic 136, 3) := by decide +kernel
theorem dX7_daysLeftOf_85 : decode cX7_daysLeftOf 85 = .ok (.ireturn, 1) := by decide +kernel
theorem dX7_daysLeftOf_86 : decode cX7_daysLeftOf 86 = .ok (.iload 5, 2) := by decide +kernel
theorem dX7_daysLeftOf_88 : decode cX7_daysLeftOf 88 = .ok (.iload 4, 2) := by decide +kernel
theorem dX7_daysLeftOf_90 : decode cX7_daysLeftOf 90 = .ok (.iload 5, 2) := by decide +kernel
theorem dX7_daysLeftOf_92 : decode cX7_daysLeftOf 92 = .ok (.iload 6, 2) := by decide +kernel
theorem dX7_daysLeftOf_94 : decode cX7_daysLeftOf 94 = .ok (.imul, 1) := by decide +kernel
theorem dX7_daysLeftOf_95 : decode cX7_daysLeftOf 95 = .ok (.isub, 1) := by decide +kernel
theorem dX7_daysLeftOf_96 : decode cX7_daysLeftOf 96 = .ok (.aload_n 0, 1) := by decide +kernel
theorem dX7_daysLeftOf_97 : decode cX7_daysLeftOf 97 = .ok (.getfield 21, 3) := by decide +kernel
theorem dX7_daysLeftOf_100 : decode cX7_daysLeftOf 100 = .ok (.iload_n 2, 1) := by decide +kernel
theorem dX7_daysLeftOf_101 : decode cX7_daysLeftOf 101 = .ok (.iload_n 3, 1) := by decide +kernel
theorem dX7_daysLeftOf_102 : decode cX7_daysLeftOf 102 = .ok (.invokevirtual 69, 3) := by decide +kernel
theorem dX7_daysLeftOf_105 : decode cX7_daysLeftOf 105 = .ok (.invokestatic 133, 3) := by decide +kernel
theorem dX7_daysLeftOf_108 : decode cX7_daysLeftOf 108 = .ok (.invokestatic 136, 3) := by decide +kernel
theorem dX7_daysLeftOf_111 : decode cX7_daysLeftOf 111 = .ok (.iadd, 1) := by decide +kernel
theorem dX7_daysLeftOf_112 : decode cX7_daysLeftOf 112 = .ok (.ireturn, 1) := by decide +kernel
theorem dX7_eatingPlaceOf_0 : decode cX7_eatingPlaceOf 0 = .ok (.aload_n 0, 1) := by decide +kernel
theorem dX7_eatingPlaceOf_1 : decode cX7_eatingPlaceOf 1 = .ok (.iload_n 1, 1) := by decide +kernel
theorem dX7_eatingPlaceOf_2 : decode cX7_eatingPlaceOf 2 = .ok (.invokevirtual 139, 3) := by decide +kernel
theorem dX7_eatingPlaceOf_5 : decode cX7_eatingPlaceOf 5 = .ok (.istore_n 2, 1) := by decide +kernel
theorem dX7_eatingPlaceOf_6 : decode cX7_eatingPlaceOf 6 = .ok (.iconst 0, 1) := by decide +kernel
theorem dX7_eatingPlaceOf_7 : decode cX7_eatingPlaceOf 7 = .ok (.istore_n 3, 1) := by decide +kernel
theorem dX7_eatingPlaceOf_8 : decode cX7_eatingPlaceOf 8 = .ok (.iconst 0, 1) := by decide +kernel
theorem dX7_eatingPlaceOf_9 : decode cX7_eatingPlaceOf 9 = .ok (.istore 4, 2) := by decide +kernel
theorem dX7_eatingPlaceOf_11 : decode cX7_eatingPlaceOf 11 = .ok (.iload 4, 2) := by decide +kernel
theorem dX7_eatingPlaceOf_13 : decode cX7_eatingPlaceOf 13 = .ok (.aload_n 0, 1) := by decide +kernel
theorem dX7_eatingPlaceOf_14 : decode cX7_eatingPlaceOf 14 = .ok (.getfield 35, 3) := by decide +kernel
theorem dX7_eatingPlaceOf_17 : decode cX7_eatingPlaceOf 17 = .ok (.getfield 94, 3) := by decide +kernel
theorem dX7_eatingPlaceOf_20 : decode cX7_eatingPlaceOf 20 = .ok (.if_icmp .ge 69, 3) := by decide +kernel
theorem dX7_eatingPlaceOf_23 : decode cX7_eatingPlaceOf 23 = .ok (.aload_n 0, 1) := by decide +kernel
theorem dX7_eatingPlaceOf_24 : decode cX7_eatingPlaceOf 24 = .ok (.getfield 35, 3) := by decide +kernel
theorem dX7_eatingPlaceOf_27 : decode cX7_eatingPlaceOf 27 = .ok (.getfield 124, 3) := by decide +kernel
theorem dX7_eatingPlaceOf_30 : decode cX7_eatingPlaceOf 30 = .ok (.iload 4, 2) := by decide +kernel
theorem dX7_eatingPlaceOf_32 : decode cX7_eatingPlaceOf 32 = .ok (.invokevirtual 65, 3) := by decide +kernel
theorem dX7_eatingPlaceOf_35 : decode cX7_eatingPlaceOf 35 = .ok (.aload_n 0, 1) := by decide +kernel
theorem dX7_eatingPlaceOf_36 : decode cX7_eatingPlaceOf 36 = .ok (.getfield 35, 3) := by decide +kernel
theorem dX7_eatingPlaceOf_39 : decode cX7_eatingPlaceOf 39 = .ok (.getfield 124, 3) := by decide +kernel
theorem dX7_eatingPlaceOf_42 : decode cX7_eatingPlaceOf 42 = .ok (.iload_n 1, 1) := by decide +kernel
theorem dX7_eatingPlaceOf_43 : decode cX7_eatingPlaceOf 43 = .ok (.invokevirtual 65, 3) := by decide +kernel
theorem dX7_eatingPlaceOf_46 : decode cX7_eatingPlaceOf 46 = .ok (.if_icmp .ne 37, 3) := by decide +kernel
theorem dX7_eatingPlaceOf_49 : decode cX7_eatingPlaceOf 49 = .ok (.aload_n 0, 1) := by decide +kernel
theorem dX7_eatingPlaceOf_50 : decode cX7_eatingPlaceOf 50 = .ok (.iload 4, 2) := by decide +kernel
theorem dX7_eatingPlaceOf_52 : decode cX7_eatingPlaceOf 52 = .ok (.invokevirtual 139, 3) := by decide +kernel
theorem dX7_eatingPlaceOf_55 : decode cX7_eatingPlaceOf 55 = .ok (.istore 5, 2) := by decide +kernel
theorem dX7_eatingPlaceOf_57 : decode cX7_eatingPlaceOf 57 = .ok (.iload_n 3, 1) := by decide +kernel
theorem dX7_eatingPlaceOf_58 : decode cX7_eatingPlaceOf 58 = .ok (.iload 5, 2) := by decide +kernel
theorem dX7_eatingPlaceOf_60 : decode cX7_eatingPlaceOf 60 = .ok (.iload_n 2, 1) := by decide +kernel
theorem dX7_eatingPlaceOf_61 : decode cX7_eatingPlaceOf 61 = .ok (.if_icmp .lt 15, 3) := by decide +kernel
theorem dX7_eatingPlaceOf_64 : decode cX7_eatingPlaceOf 64 = .ok (.iload 5, 2) := by decide +kernel
theorem dX7_eatingPlaceOf_66 : decode cX7_eatingPlaceOf 66 = .ok (.iload_n 2, 1) := by decide +kernel
theorem dX7_eatingPlaceOf_67 : decode cX7_eatingPlaceOf 67 = .ok (.if_icmp .ne 13, 3) := by decide +kernel
theorem dX7_eatingPlaceOf_70 : decode cX7_eatingPlaceOf 70 = .ok (.iload 4, 2) := by decide +kernel
theorem dX7_eatingPlaceOf_72 : decode cX7_eatingPlaceOf 72 = .ok (.iload_n 1, 1) := by decide +kernel
theorem dX7_eatingPlaceOf_73 : decode cX7_eatingPlaceOf 73 = .ok (.if_icmp .ge 7, 3) := by decide +kernel
theorem dX7_eatingPlaceOf_76 : decode cX7_eatingPlaceOf 76 = .ok (.iconst 1, 1) := by decide +kernel
theorem dX7_eatingPlaceOf_77 : decode cX7_eatingPlaceOf 77 = .ok (.goto 4, 3) := by decide +kernel
theorem dX7_eatingPlaceOf_80 : decode cX7_eatingPlaceOf 80 = .ok (.iconst 0, 1) := by decide +kernel
theorem dX7_eatingPlaceOf_81 : decode cX7_eatingPlaceOf 81 = .ok (.iadd, 1) := by decide +kernel
theorem dX7_eatingPlaceOf_82 : decode cX7_eatingPlaceOf 82 = .ok (.istore_n 3, 1) := by decide +kernel
theorem dX7_eatingPlaceOf_83 : decode cX7_eatingPlaceOf 83 = .ok (.iinc 4 1, 3) := by decide +kernel
theorem dX7_eatingPlaceOf_86 : decode cX7_eatingPlaceOf 86 = .ok (.goto (-75), 3) := by decide +kernel
theorem dX7_eatingPlaceOf_89 : decode cX7_eatingPlaceOf 89 = .ok (.iload_n 3, 1) := by decide +kernel
theorem dX7_eatingPlaceOf_90 : decode cX7_eatingPlaceOf 90 = .ok (.ireturn, 1) := by decide +kernel
theorem dX7_passDays_0 : decode cX7_passDays 0 = .ok (.iconst 0, 1) := by decide +kernel
theorem dX7_passDays_1 : decode cX7_passDays 1 = .ok (.istore_n 2, 1) := by decide +kernel
theorem dX7_passDays_2 : decode cX7_passDays 2 = .ok (.iload_n 2, 1) := by decide +kernel
theorem dX7_passDays_3 : decode cX7_passDays 3 = .ok (.iload_n 1, 1) := by decide +kernel
theorem dX7_passDays_4 : decode cX7_passDays 4 = .ok (.if_icmp .ge 13, 3) := by decide +kernel
theorem dX7_passDays_7 : decode cX7_passDays 7 = .ok (.aload_n 0, 1) := by decide +kernel
theorem dX7_passDays_8 : decode cX7_passDays 8 = .ok (.invokevirtual 145, 3) := by decide +kernel
theorem dX7_passDays_11 : decode cX7_passDays 11 = .ok (.iinc 2 1, 3) := by decide +kernel
theorem dX7_passDays_14 : decode cX7_passDays 14 = .ok (.goto (-12), 3) := by decide +kernel
theorem dX7_passDays_17 : decode cX7_passDays 17 = .ok (.return_, 1) := by decide +kernel
theorem dX7_passDay_0 : decode cX7_passDay 0 = .ok (.iconst 0, 1) := by decide +kernel
theorem dX7_passDay_1 : decode cX7_passDay 1 = .ok (.istore_n 1, 1) := by decide +kernel
theorem dX7_passDay_2 : decode cX7_passDay 2 = .ok (.iload_n 1, 1) := by decide +kernel
theorem dX7_passDay_3 : decode cX7_passDay 3 = .ok (.aload_n 0, 1) := by decide +kernel
theorem dX7_passDay_4 : decode cX7_passDay 4 = .ok (.getfield 35, 3) := by decide +kernel
theorem dX7_passDay_7 : decode cX7_passDay 7 = .ok (.getfield 94, 3) := by decide +kernel
theorem dX7_passDay_10 : decode cX7_passDay 10 = .ok (.if_icmp .ge 22, 3) := by decide +kernel
theorem dX7_passDay_13 : decode cX7_passDay 13 = .ok (.aload_n 0, 1) := by decide +kernel
theorem dX7_passDay_14 : decode cX7_passDay 14 = .ok (.getfield 58, 3) := by decide +kernel
theorem dX7_passDay_17 : decode cX7_passDay 17 = .ok (.iload_n 1, 1) := by decide +kernel
theorem dX7_passDay_18 : decode cX7_passDay 18 = .ok (.aload_n 0, 1) := by decide +kernel
theorem dX7_passDay_19 : decode cX7_passDay 19 = .ok (.iload_n 1, 1) := by decide +kernel
theorem dX7_passDay_20 : decode cX7_passDay 20 = .ok (.invokevirtual 139, 3) := by decide +kernel
theorem dX7_passDay_23 : decode cX7_passDay 23 = .ok (.invokevirtual 148, 3) := by decide +kernel
theorem dX7_passDay_26 : decode cX7_passDay 26 = .ok (.iinc 1 1, 3) := by decide +kernel
theorem dX7_passDay_29 : decode cX7_passDay 29 = .ok (.goto (-27), 3) := by decide +kernel
theorem dX7_passDay_32 : decode cX7_passDay 32 = .ok (.aload_n 0, 1) := by decide +kernel
theorem dX7_passDay_33 : decode cX7_passDay 33 = .ok (.getfield 49, 3) := by decide +kernel
theorem dX7_passDay_36 : decode cX7_passDay 36 = .ok (.aload_n 0, 1) := by decide +kernel
theorem dX7_passDay_37 : decode cX7_passDay 37 = .ok (.getfield 79, 3) := by decide +kernel
theorem dX7_passDay_40 : decode cX7_passDay 40 = .ok (.invokevirtual 151, 3) := by decide +kernel
theorem dX7_passDay_43 : decode cX7_passDay 43 = .ok (.istore_n 1, 1) := by decide +kernel
theorem dX7_passDay_44 : decode cX7_passDay 44 = .ok (.iconst 0, 1) := by decide +kernel
theorem dX7_passDay_45 : decode cX7_passDay 45 = .ok (.istore_n 2, 1) := by decide +kernel
theorem dX7_passDay_46 : decode cX7_passDay 46 = .ok (.iconst 0, 1) := by decide +kernel
theorem dX7_passDay_47 : decode cX7_passDay 47 = .ok (.istore_n 3, 1) := by decide +kernel
theorem dX7_passDay_48 : decode cX7_passDay 48 = .ok (.iload_n 3, 1) := by decide +kernel
theorem dX7_passDay_49 : decode cX7_passDay 49 = .ok (.iconst 4, 1) := by decide +kernel
theorem dX7_passDay_50 : decode cX7_passDay 50 = .ok (.if_icmp .ge 25, 3) := by decide +kernel
theorem dX7_passDay_53 : decode cX7_passDay 53 = .ok (.iload_n 2, 1) := by decide +kernel
theorem dX7_passDay_54 : decode cX7_passDay 54 = .ok (.aload_n 0, 1) := by decide +kernel
theorem dX7_passDay_55 : decode cX7_passDay 55 = .ok (.aload_n 0, 1) := by decide +kernel
theorem dX7_passDay_56 : decode cX7_passDay 56 = .ok (.getfield 49, 3) := by decide +kernel
theorem dX7_passDay_59 : decode cX7_passDay 59 = .ok (.iload_n 1, 1) := by decide +kernel
theorem dX7_passDay_60 : decode cX7_passDay 60 = .ok (.iload_n 3, 1) := by decide +kernel
theorem dX7_passDay_61 : decode cX7_passDay 61 = .ok (.invokevirtual 154, 3) := by decide +kernel
theorem dX7_passDay_64 : decode cX7_passDay 64 = .ok (.invokevirtual 157, 3) := by decide +kernel
theorem dX7_passDay_67 : decode cX7_passDay 67 = .ok (.iadd, 1) := by decide +kernel
theorem dX7_passDay_68 : decode cX7_passDay 68 = .ok (.istore_n 2, 1) := by decide +kernel
theorem dX7_passDay_69 : decode cX7_passDay 69 = .ok (.iinc 3 1, 3) := by decide +kernel
theorem dX7_passDay_72 : decode cX7_passDay 72 = .ok (.goto (-24), 3) := by decide +kernel
theorem dX7_passDay_75 : decode cX7_passDay 75 = .ok (.iload_n 2, 1) := by decide +kernel
theorem dX7_passDay_76 : decode cX7_passDay 76 = .ok (.ifCond .le 13, 3) := by decide +kernel
theorem dX7_passDay_79 : decode cX7_passDay 79 = .ok (.aload_n 0, 1) := by decide +kernel
theorem dX7_passDay_80 : decode cX7_passDay 80 = .ok (.dup, 1) := by decide +kernel
theorem dX7_passDay_81 : decode cX7_passDay 81 = .ok (.getfield 160, 3) := by decide +kernel
theorem dX7_passDay_84 : decode cX7_passDay 84 = .ok (.iconst 1, 1) := by decide +kernel
theorem dX7_passDay_85 : decode cX7_passDay 85 = .ok (.iadd, 1) := by decide +kernel
theorem dX7_passDay_86 : decode cX7_passDay 86 = .ok (.putfield 160, 3) := by decide +kernel
theorem dX7_passDay_89 : decode cX7_passDay 89 = .ok (.aload_n 0, 1) := by decide +kernel
theorem dX7_passDay_90 : decode cX7_passDay 90 = .ok (.invokevirtual 163, 3) := by decide +kernel
theorem dX7_passDay_93 : decode cX7_passDay 93 = .ok (.aload_n 0, 1) := by decide +kernel
theorem dX7_passDay_94 : decode cX7_passDay 94 = .ok (.getfield 28, 3) := by decide +kernel
theorem dX7_passDay_97 : decode cX7_passDay 97 = .ok (.invokevirtual 166, 3) := by decide +kernel
theorem dX7_passDay_100 : decode cX7_passDay 100 = .ok (.aload_n 0, 1) := by decide +kernel
theorem dX7_passDay_101 : decode cX7_passDay 101 = .ok (.dup, 1) := by decide +kernel
theorem dX7_passDay_102 : decode cX7_passDay 102 = .ok (.getfield 79, 3) := by decide +kernel
theorem dX7_passDay_105 : decode cX7_passDay 105 = .ok (.iconst 1, 1) := by decide +kernel
theorem dX7_passDay_106 : decode cX7_passDay 106 = .ok (.iadd, 1) := by decide +kernel
theorem dX7_passDay_107 : decode cX7_passDay 107 = .ok (.putfield 79, 3) := by decide +kernel
theorem dX7_passDay_110 : decode cX7_passDay 110 = .ok (.return_, 1) := by decide +kernel
theorem dX7_serveItem_0 : decode cX7_serveItem 0 = .ok (.aload_n 0, 1) := by decide +kernel
theorem dX7_serveItem_1 : decode cX7_serveItem 1 = .ok (.getfield 49, 3) := by decide +kernel
theorem dX7_serveItem_4 : decode cX7_serveItem 4 = .ok (.iload_n 1, 1) := by decide +kernel
theorem dX7_serveItem_5 : decode cX7_serveItem 5 = .ok (.invokevirtual 169, 3) := by decide +kernel
theorem dX7_serveItem_8 : decode cX7_serveItem 8 = .ok (.ifCond .ne 5, 3) := by decide +kernel
theorem dX7_serveItem_11 : decode cX7_serveItem 11 = .ok (.iconst 0, 1) := by decide +kernel
theorem dX7_serveItem_12 : decode cX7_serveItem 12 = .ok (.ireturn, 1) := by decide +kernel
theorem dX7_serveItem_13 : decode cX7_serveItem 13 = .ok (.aload_n 0, 1) := by decide +kernel
theorem dX7_serveItem_14 : decode cX7_serveItem 14 = .ok (.getfield 49, 3) := by decide +kernel
theorem dX7_serveItem_17 : decode cX7_serveItem 17 = .ok (.getfield 173, 3) := by decide +kernel
theorem dX7_serveItem_20 : decode cX7_serveItem 20 = .ok (.iload_n 1, 1) := by decide +kernel
theorem dX7_serveItem_21 : decode cX7_serveItem 21 = .ok (.invokevirtual 65, 3) := by decide +kernel
theorem dX7_serveItem_24 : decode cX7_serveItem 24 = .ok (.istore_n 2, 1) := by decide +kernel
theorem dX7_serveItem_25 : decode cX7_serveItem 25 = .ok (.aload_n 0, 1) := by decide +kernel
theorem dX7_serveItem_26 : decode cX7_serveItem 26 = .ok (.getfield 49, 3) := by decide +kernel
theorem dX7_serveItem_29 : decode cX7_serveItem 29 = .ok (.getfield 174, 3) := by decide +kernel
theorem dX7_serveItem_32 : decode cX7_serveItem 32 = .ok (.iload_n 1, 1) := by decide +kernel
theorem dX7_serveItem_33 : decode cX7_serveItem 33 = .ok (.invokevirtual 65, 3) := by decide +kernel
theorem dX7_serveItem_36 : decode cX7_serveItem 36 = .ok (.istore_n 3, 1) := by decide +kernel
theorem dX7_serveItem_37 : decode cX7_serveItem 37 = .ok (.aload_n 0, 1) := by decide +kernel
theorem dX7_serveItem_38 : decode cX7_serveItem 38 = .ok (.iload_n 2, 1) := by decide +kernel
theorem dX7_serveItem_39 : decode cX7_serveItem 39 = .ok (.aload_n 0, 1) := by decide +kernel
theorem dX7_serveItem_40 : decode cX7_serveItem 40 = .ok (.getfield 49, 3) := by decide +kernel
theorem dX7_serveItem_43 : decode cX7_serveItem 43 = .ok (.getfield 177, 3) := by decide +kernel
theorem dX7_serveItem_46 : decode cX7_serveItem 46 = .ok (.iload_n 1, 1) := by decide +kernel
theorem dX7_serveItem_47 : decode cX7_serveItem 47 = .ok (.invokevirtual 65, 3) := by decide +kernel
theorem dX7_serveItem_50 : decode cX7_serveItem 50 = .ok (.aload_n 0, 1) := by decide +kernel
theorem dX7_serveItem_51 : decode cX7_serveItem 51 = .ok (.getfield 9, 3) := by decide +kernel
theorem dX7_serveItem_54 : decode cX7_serveItem 54 = .ok (.imul, 1) := by decide +kernel
theorem dX7_serveItem_55 : decode cX7_serveItem 55 = .ok (.invokevirtual 180, 3) := by decide +kernel
theorem dX7_serveItem_58 : decode cX7_serveItem 58 = .ok (.istore 4, 2) := by decide +kernel
theorem dX7_serveItem_60 : decode cX7_serveItem 60 = .ok (.iload_n 3, 1) := by decide +kernel
theorem dX7_serveItem_61 : decode cX7_serveItem 61 = .ok (.iconst (-1), 1) := by decide +kernel
theorem dX7_serveItem_62 : decode cX7_serveItem 62 = .ok (.if_icmp .eq 12, 3) := by decide +kernel
theorem dX7_serveItem_65 : decode cX7_serveItem 65 = .ok (.aload_n 0, 1) := by decide +kernel
theorem dX7_serveItem_66 : decode cX7_serveItem 66 = .ok (.iload_n 3, 1) := by decide +kernel
theorem dX7_serveItem_67 : decode cX7_serveItem 67 = .ok (.iload 4, 2) := by decide +kernel
theorem dX7_serveItem_69 : decode cX7_serveItem 69 = .ok (.invokevirtual 180, 3) := by decide +kernel
theorem dX7_serveItem_72 : decode cX7_serveItem 72 = .ok (.istore 4, 2) := by decide +kernel
theorem dX7_serveItem_74 : decode cX7_serveItem 74 = .ok (.aload_n 0, 1) := by decide +kernel
theorem dX7_serveItem_75 : decode cX7_serveItem 75 = .ok (.getfield 21, 3) := by decide +kernel
theorem dX7_serveItem_78 : decode cX7_serveItem 78 = .ok (.getfield 142, 3) := by decide +kernel
theorem dX7_serveItem_81 : decode cX7_serveItem 81 = .ok (.iload_n 2, 1) := by decide +kernel
theorem dX7_serveItem_82 : decode cX7_serveItem 82 = .ok (.iload 4, 2) := by decide +kernel
theorem dX7_serveItem_84 : decode cX7_serveItem 84 = .ok (.invokevirtual 103, 3) := by decide +kernel
theorem dX7_serveItem_87 : decode cX7_serveItem 87 = .ok (.iload 4, 2) := by decide +kernel
theorem dX7_serveItem_89 : decode cX7_serveItem 89 = .ok (.ireturn, 1) := by decide +kernel
theorem dX7_eatOf_0 : decode cX7_eatOf 0 = .ok (.iload_n 2, 1) := by decide +kernel
theorem dX7_eatOf_1 : decode cX7_eatOf 1 = .ok (.istore_n 3, 1) := by decide +kernel
theorem dX7_eatOf_2 : decode cX7_eatOf 2 = .ok (.iconst 0, 1) := by decide +kernel
theorem dX7_eatOf_3 : decode cX7_eatOf 3 = .ok (.istore 4, 2) := by decide +kernel
theorem dX7_eatOf_5 : decode cX7_eatOf 5 = .ok (.iload 4, 2) := by decide +kernel
theorem dX7_eatOf_7 : decode cX7_eatOf 7 = .ok (.aload_n 0, 1) := by decide +kernel
theorem dX7_eatOf_8 : decode cX7_eatOf 8 = .ok (.getfield 35, 3) := by decide +kernel
theorem dX7_eatOf_11 : decode cX7_eatOf 11 = .ok (.getfield 94, 3) := by decide +kernel
theorem dX7_eatOf_14 : decode cX7_eatOf 14 = .ok (.if_icmp .ge 79, 3) := by decide +kernel
theorem dX7_eatOf_17 : decode cX7_eatOf 17 = .ok (.iload_n 3, 1) := by decide +kernel
theorem dX7_eatOf_18 : decode cX7_eatOf 18 = .ok (.ifCond .le 75, 3) := by decide +kernel
theorem dX7_eatOf_21 : decode cX7_eatOf 21 = .ok (.aload_n 0, 1) := by decide +kernel
theorem dX7_eatOf_22 : decode cX7_eatOf 22 = .ok (.iload_n 1, 1) := by decide +kernel
theorem dX7_eatOf_23 : decode cX7_eatOf 23 = .ok (.invokevirtual 183, 3) := by decide +kernel
theorem dX7_eatOf_26 : decode cX7_eatOf 26 = .ok (.istore 5, 2) := by decide +kernel
theorem dX7_eatOf_28 : decode cX7_eatOf 28 = .ok (.iload 5, 2) := by decide +kernel
theorem dX7_eatOf_30 : decode cX7_eatOf 30 = .ok (.iconst (-1), 1) := by decide +kernel
theorem dX7_eatOf_31 : decode cX7_eatOf 31 = .ok (.if_icmp .ne 5, 3) := by decide +kernel
theorem dX7_eatOf_34 : decode cX7_eatOf 34 = .ok (.iload_n 3, 1) := by decide +kernel
theorem dX7_eatOf_35 : decode cX7_eatOf 35 = .ok (.ireturn, 1) := by decide +kernel
theorem dX7_eatOf_36 : decode cX7_eatOf 36 = .ok (.iload_n 3, 1) := by decide +kernel
theorem dX7_eatOf_37 : decode cX7_eatOf 37 = .ok (.aload_n 0, 1) := by decide +kernel
theorem dX7_eatOf_38 : decode cX7_eatOf 38 = .ok (.getfield 35, 3) := by decide +kernel
theorem dX7_eatOf_41 : decode cX7_eatOf 41 = .ok (.getfield 186, 3) := by decide +kernel
theorem dX7_eatOf_44 : decode cX7_eatOf 44 = .ok (.iload 5, 2) := by decide +kernel
theorem dX7_eatOf_46 : decode cX7_eatOf 46 = .ok (.invokevirtual 65, 3) := by decide +kernel
theorem dX7_eatOf_49 : decode cX7_eatOf 49 = .ok (.invokestatic 119, 3) := by decide +kernel
theorem dX7_eatOf_52 : decode cX7_eatOf 52 = .ok (.istore 6, 2) := by decide +kernel
theorem dX7_eatOf_54 : decode cX7_eatOf 54 = .ok (.aload_n 0, 1) := by decide +kernel
theorem dX7_eatOf_55 : decode cX7_eatOf 55 = .ok (.getfield 35, 3) := by decide +kernel
theorem dX7_eatOf_58 : decode cX7_eatOf 58 = .ok (.getfield 186, 3) := by decide +kernel
theorem dX7_eatOf_61 : decode cX7_eatOf 61 = .ok (.iload 5, 2) := by decide +kernel
theorem dX7_eatOf_63 : decode cX7_eatOf 63 = .ok (.iload 6, 2) := by decide +kernel
theorem dX7_eatOf_65 : decode cX7_eatOf 65 = .ok (.ineg, 1) := by decide +kernel
theorem dX7_eatOf_66 : decode cX7_eatOf 66 = .ok (.invokevirtual 103, 3) := by decide +kernel
theorem dX7_eatOf_69 : decode cX7_eatOf 69 = .ok (.aload_n 0, 1) := by decide +kernel
theorem dX7_eatOf_70 : decode cX7_eatOf 70 = .ok (.getfield 21, 3) := by decide +kernel
theorem dX7_eatOf_73 : decode cX7_eatOf 73 = .ok (.getfield 187, 3) := by decide +kernel
theorem dX7_eatOf_76 : decode cX7_eatOf 76 = .ok (.iload_n 1, 1) := by decide +kernel
theorem dX7_eatOf_77 : decode cX7_eatOf 77 = .ok (.iload 6, 2) := by decide +kernel
theorem dX7_eatOf_79 : decode cX7_eatOf 79 = .ok (.invokevirtual 103, 3) := by decide +kernel
theorem dX7_eatOf_82 : decode cX7_eatOf 82 = .ok (.iload_n 3, 1) := by decide +kernel
theorem dX7_eatOf_83 : decode cX7_eatOf 83 = .ok (.iload 6, 2) := by decide +kernel
theorem dX7_eatOf_85 : decode cX7_eatOf 85 = .ok (.isub, 1) := by decide +kernel
theorem dX7_eatOf_86 : decode cX7_eatOf 86 = .ok (.istore_n 3, 1) := by decide +kernel
theorem dX7_eatOf_87 : decode cX7_eatOf 87 = .ok (.iinc 4 1, 3) := by decide +kernel
theorem dX7_eatOf_90 : decode cX7_eatOf 90 = .ok (.goto (-85), 3) := by decide +kernel
theorem dX7_eatOf_93 : decode cX7_eatOf 93 = .ok (.iload_n 3, 1) := by decide +kernel
theorem dX7_eatOf_94 : decode cX7_eatOf 94 = .ok (.ireturn, 1) := by decide +kernel
theorem dX7_nextToEat_0 : decode cX7_nextToEat 0 = .ok (.iconst (-1), 1) := by decide +kernel
theorem dX7_nextToEat_1 : decode cX7_nextToEat 1 = .ok (.istore_n 2, 1) := by decide +kernel
theorem dX7_nextToEat_2 : decode cX7_nextToEat 2 = .ok (.iconst 0, 1) := by decide +kernel
theorem dX7_nextToEat_3 : decode cX7_nextToEat 3 = .ok (.istore_n 3, 1) := by decide +kernel
theorem dX7_nextToEat_4 : decode cX7_nextToEat 4 = .ok (.iload_n 3, 1) := by decide +kernel
theorem dX7_nextToEat_5 : decode cX7_nextToEat 5 = .ok (.aload_n 0, 1) := by decide +kernel
theorem dX7_nextToEat_6 : decode cX7_nextToEat 6 = .ok (.getfield 35, 3) := by decide +kernel
theorem dX7_nextToEat_9 : decode cX7_nextToEat 9 = .ok (.getfield 94, 3) := by decide +kernel
theorem dX7_nextToEat_12 : decode cX7_nextToEat 12 = .ok (.if_icmp .ge 64, 3) := by decide +kernel
theorem dX7_nextToEat_15 : decode cX7_nextToEat 15 = .ok (.aload_n 0, 1) := by decide +kernel
theorem dX7_nextToEat_16 : decode cX7_nextToEat 16 = .ok (.getfield 35, 3) := by decide +kernel
theorem dX7_nextToEat_19 : decode cX7_nextToEat 19 = .ok (.getfield 124, 3) := by decide +kernel
theorem dX7_nextToEat_22 : decode cX7_nextToEat 22 = .ok (.iload_n 3, 1) := by decide +kernel
theorem dX7_nextToEat_23 : decode cX7_nextToEat 23 = .ok (.invokevirtual 65, 3) := by decide +kernel
theorem dX7_nextToEat_26 : decode cX7_nextToEat 26 = .ok (.iload_n 1, 1) := by decide +kernel
theorem dX7_nextToEat_27 : decode cX7_nextToEat 27 = .ok (.if_icmp .ne 43, 3) := by decide +kernel
theorem dX7_nextToEat_30 : decode cX7_nextToEat 30 = .ok (.aload_n 0, 1) := by decide +kernel
theorem dX7_nextToEat_31 : decode cX7_nextToEat 31 = .ok (.getfield 35, 3) := by decide +kernel
theorem dX7_nextToEat_34 : decode cX7_nextToEat 34 = .ok (.getfield 186, 3) := by decide +kernel
theorem dX7_nextToEat_37 : decode cX7_nextToEat 37 = .ok (.iload_n 3, 1) := by decide +kernel
theorem dX7_nextToEat_38 : decode cX7_nextToEat 38 = .ok (.invokevirtual 65, 3) := by decide +kernel
theorem dX7_nextToEat_41 : decode cX7_nextToEat 41 = .ok (.ifCond .le 29, 3) := by decide +kernel
theorem dX7_nextToEat_44 : decode cX7_nextToEat 44 = .ok (.iload_n 2, 1) := by decide +kernel
theorem dX7_nextToEat_45 : decode cX7_nextToEat 45 = .ok (.iconst (-1), 1) := by decide +kernel
theorem dX7_nextToEat_46 : decode cX7_nextToEat 46 = .ok (.if_icmp .eq 22, 3) := by decide +kernel
theorem dX7_nextToEat_49 : decode cX7_nextToEat 49 = .ok (.aload_n 0, 1) := by decide +kernel
theorem dX7_nextToEat_50 : decode cX7_nextToEat 50 = .ok (.getfield 58, 3) := by decide +kernel
theorem dX7_nextToEat_53 : decode cX7_nextToEat 53 = .ok (.iload_n 3, 1) := by decide +kernel
theorem dX7_nextToEat_54 : decode cX7_nextToEat 54 = .ok (.invokevirtual 65, 3) := by decide +kernel
theorem dX7_nextToEat_57 : decode cX7_nextToEat 57 = .ok (.aload_n 0, 1) := by decide +kernel
theorem dX7_nextToEat_58 : decode cX7_nextToEat 58 = .ok (.getfield 58, 3) := by decide +kernel
theorem dX7_nextToEat_61 : decode cX7_nextToEat 61 = .ok (.iload_n 2, 1) := by decide +kernel
theorem dX7_nextToEat_62 : decode cX7_nextToEat 62 = .ok (.invokevirtual 65, 3) := by decide +kernel
theorem dX7_nextToEat_65 : decode cX7_nextToEat 65 = .ok (.if_icmp .ge 5, 3) := by decide +kernel
theorem dX7_nextToEat_68 : decode cX7_nextToEat 68 = .ok (.iload_n 3, 1) := by decide +kernel
theorem dX7_nextToEat_69 : decode cX7_nextToEat 69 = .ok (.istore_n 2, 1) := by decide +kernel
theorem dX7_nextToEat_70 : decode cX7_nextToEat 70 = .ok (.iinc 3 1, 3) := by decide +kernel
theorem dX7_nextToEat_73 : decode cX7_nextToEat 73 = .ok (.goto (-69), 3) := by decide +kernel
theorem dX7_nextToEat_76 : decode cX7_nextToEat 76 = .ok (.iload_n 2, 1) := by decide +kernel
theorem dX7_nextToEat_77 : decode cX7_nextToEat 77 = .ok (.ireturn, 1) := by decide +kernel
theorem dX7_ageLots_0 : decode cX7_ageLots 0 = .ok (.iconst 0, 1) := by decide +kernel
theorem dX7_ageLots_1 : decode cX7_ageLots 1 = .ok (.istore_n 1, 1) := by decide +kernel
theorem dX7_ageLots_2 : decode cX7_ageLots 2 = .ok (.iload_n 1, 1) := by decide +kernel
theorem dX7_ageLots_3 : decode cX7_ageLots 3 = .ok (.aload_n 0, 1) := by decide +kernel
theorem dX7_ageLots_4 : decode cX7_ageLots 4 = .ok (.getfield 35, 3) := by decide +kernel
theorem dX7_ageLots_7 : decode cX7_ageLots 7 = .ok (.getfield 94, 3) := by decide +kernel
theorem dX7_ageLots_10 : decode cX7_ageLots 10 = .ok (.if_icmp .ge 102, 3) := by decide +kernel
theorem dX7_ageLots_13 : decode cX7_ageLots 13 = .ok (.aload_n 0, 1) := by decide +kernel
theorem dX7_ageLots_14 : decode cX7_ageLots 14 = .ok (.getfield 35, 3) := by decide +kernel
theorem dX7_ageLots_17 : decode cX7_ageLots 17 = .ok (.getfield 124, 3) := by decide +kernel
theorem dX7_ageLots_20 : decode cX7_ageLots 20 = .ok (.iload_n 1, 1) := by decide +kernel
theorem dX7_ageLots_21 : decode cX7_ageLots 21 = .ok (.invokevirtual 65, 3) := by decide +kernel
theorem dX7_ageLots_24 : decode cX7_ageLots 24 = .ok (.istore_n 2, 1) := by decide +kernel
theorem dX7_ageLots_25 : decode cX7_ageLots 25 = .ok (.aload_n 0, 1) := by decide +kernel
theorem dX7_ageLots_26 : decode cX7_ageLots 26 = .ok (.getfield 35, 3) := by decide +kernel
theorem dX7_ageLots_29 : decode cX7_ageLots 29 = .ok (.getfield 130, 3) := by decide +kernel
theorem dX7_ageLots_32 : decode cX7_ageLots 32 = .ok (.iload_n 1, 1) := by decide +kernel
theorem dX7_ageLots_33 : decode cX7_ageLots 33 = .ok (.aload_n 0, 1) := by decide +kernel
theorem dX7_ageLots_34 : decode cX7_ageLots 34 = .ok (.iload_n 2, 1) := by decide +kernel
theorem dX7_ageLots_35 : decode cX7_ageLots 35 = .ok (.aload_n 0, 1) := by decide +kernel
theorem dX7_ageLots_36 : decode cX7_ageLots 36 = .ok (.getfield 35, 3) := by decide +kernel
theorem dX7_ageLots_39 : decode cX7_ageLots 39 = .ok (.getfield 127, 3) := by decide +kernel
theorem dX7_ageLots_42 : decode cX7_ageLots 42 = .ok (.iload_n 1, 1) := by decide +kernel
theorem dX7_ageLots_43 : decode cX7_ageLots 43 = .ok (.invokevirtual 65, 3) := by decide +kernel
theorem dX7_ageLots_46 : decode cX7_ageLots 46 = .ok (.invokevirtual 88, 3) := by decide +kernel
theorem dX7_ageLots_49 : decode cX7_ageLots 49 = .ok (.invokestatic 133, 3) := by decide +kernel
theorem dX7_ageLots_52 : decode cX7_ageLots 52 = .ok (.invokevirtual 103, 3) := by decide +kernel
theorem dX7_ageLots_55 : decode cX7_ageLots 55 = .ok (.aload_n 0, 1) := by decide +kernel
theorem dX7_ageLots_56 : decode cX7_ageLots 56 = .ok (.getfield 35, 3) := by decide +kernel
theorem dX7_ageLots_59 : decode cX7_ageLots 59 = .ok (.getfield 130, 3) := by decide +kernel
theorem dX7_ageLots_62 : decode cX7_ageLots 62 = .ok (.iload_n 1, 1) := by decide +kernel
theorem dX7_ageLots_63 : decode cX7_ageLots 63 = .ok (.invokevirtual 65, 3) := by decide +kernel
theorem dX7_ageLots_66 : decode cX7_ageLots 66 = .ok (.sipush 1000, 3) := by decide +kernel
theorem dX7_ageLots_69 : decode cX7_ageLots 69 = .ok (.if_icmp .lt 37, 3) := by decide +kernel
theorem dX7_ageLots_72 : decode cX7_ageLots 72 = .ok (.aload_n 0, 1) := by decide +kernel
theorem dX7_ageLots_73 : decode cX7_ageLots 73 = .ok (.getfield 21, 3) := by decide +kernel
theorem dX7_ageLots_76 : decode cX7_ageLots 76 = .ok (.getfield 190, 3) := by decide +kernel
theorem dX7_ageLots_79 : decode cX7_ageLots 79 = .ok (.iload_n 2, 1) := by decide +kernel
theorem dX7_ageLots_80 : decode cX7_ageLots 80 = .ok (.aload_n 0, 1) := by decide +kernel
theorem dX7_ageLots_81 : decode cX7_ageLots 81 = .ok (.getfield 35, 3) := by decide +kernel
theorem dX7_ageLots_84 : decode cX7_ageLots 84 = .ok (.getfield 186, 3) := by decide +kernel
theorem dX7_ageLots_87 : decode cX7_ageLots 87 = .ok (.iload_n 1, 1) := by decide +kernel
theorem dX7_ageLots_88 : decode cX7_ageLots 88 = .ok (.invokevirtual 65, 3) := by decide +kernel
theorem dX7_ageLots_91 : decode cX7_ageLots 91 = .ok (.invokevirtual 103, 3) := by decide +kernel
theorem dX7_ageLots_94 : decode cX7_ageLots 94 = .ok (.aload_n 0, 1) := by decide +kernel
theorem dX7_ageLots_95 : decode cX7_ageLots 95 = .ok (.getfield 35, 3) := by decide +kernel
theorem dX7_ageLots_98 : decode cX7_ageLots 98 = .ok (.getfield 186, 3) := by decide +kernel
theorem dX7_ageLots_101 : decode cX7_ageLots 101 = .ok (.iload_n 1, 1) := by decide +kernel
theorem dX7_ageLots_102 : decode cX7_ageLots 102 = .ok (.iconst 0, 1) := by decide +kernel
theorem dX7_ageLots_103 : decode cX7_ageLots 103 = .ok (.invokevirtual 148, 3) := by decide +kernel
theorem dX7_ageLots_106 : decode cX7_ageLots 106 = .ok (.iinc 1 1, 3) := by decide +kernel
theorem dX7_ageLots_109 : decode cX7_ageLots 109 = .ok (.goto (-107), 3) := by decide +kernel
theorem dX7_ageLots_112 : decode cX7_ageLots 112 = .ok (.aload_n 0, 1) := by decide +kernel
theorem dX7_ageLots_113 : decode cX7_ageLots 113 = .ok (.getfield 35, 3) := by decide +kernel
theorem dX7_ageLots_116 : decode cX7_ageLots 116 = .ok (.invokevirtual 193, 3) := by decide +kernel
theorem dX7_ageLots_119 : decode cX7_ageLots 119 = .ok (.return_, 1) := by decide +kernel
theorem dX7_stepFor_0 : decode cX7_stepFor 0 = .ok (.iload_n 0, 1) := by decide +kernel
theorem dX7_stepFor_1 : decode cX7_stepFor 1 = .ok (.iconst 1, 1) := by decide +kernel
theorem dX7_stepFor_2 : decode cX7_stepFor 2 = .ok (.if_icmp .ge 9, 3) := by decide +kernel
theorem dX7_stepFor_5 : decode cX7_stepFor 5 = .ok (.sipush 1000, 3) := by decide +kernel
theorem dX7_stepFor_8 : decode cX7_stepFor 8 = .ok (.goto 8, 3) := by decide +kernel
theorem dX7_stepFor_11 : decode cX7_stepFor 11 = .ok (.sipush 1000, 3) := by decide +kernel
theorem dX7_stepFor_14 : decode cX7_stepFor 14 = .ok (.iload_n 0, 1) := by decide +kernel
theorem dX7_stepFor_15 : decode cX7_stepFor 15 = .ok (.idiv, 1) := by decide +kernel
theorem dX7_stepFor_16 : decode cX7_stepFor 16 = .ok (.ireturn, 1) := by decide +kernel
theorem dX7_stepsTo_0 : decode cX7_stepsTo 0 = .ok (.iload_n 1, 1) := by decide +kernel
theorem dX7_stepsTo_1 : decode cX7_stepsTo 1 = .ok (.iconst 1, 1) := by decide +kernel
theorem dX7_stepsTo_2 : decode cX7_stepsTo 2 = .ok (.if_icmp .ge 7, 3) := by decide +kernel
theorem dX7_stepsTo_5 : decode cX7_stepsTo 5 = .ok (.iconst 0, 1) := by decide +kernel
theorem dX7_stepsTo_6 : decode cX7_stepsTo 6 = .ok (.goto 10, 3) := by decide +kernel
theorem dX7_stepsTo_9 : decode cX7_stepsTo 9 = .ok (.iload_n 0, 1) := by decide +kernel
theorem dX7_stepsTo_10 : decode cX7_stepsTo 10 = .ok (.iload_n 1, 1) := by decide +kernel
theorem dX7_stepsTo_11 : decode cX7_stepsTo 11 = .ok (.iadd, 1) := by decide +kernel
theorem dX7_stepsTo_12 : decode cX7_stepsTo 12 = .ok (.iconst 1, 1) := by decide +kernel
theorem dX7_stepsTo_13 : decode cX7_stepsTo 13 = .ok (.isub, 1) := by decide +kernel
theorem dX7_stepsTo_14 : decode cX7_stepsTo 14 = .ok (.iload_n 1, 1) := by decide +kernel
theorem dX7_stepsTo_15 : decode cX7_stepsTo 15 = .ok (.idiv, 1) := by decide +kernel
theorem dX7_stepsTo_16 : decode cX7_stepsTo 16 = .ok (.ireturn, 1) := by decide +kernel
theorem dX7_become_0 : decode cX7_become 0 = .ok (.aload_n 1, 1) := by decide +kernel
theorem dX7_become_1 : decode cX7_become 1 = .ok (.ifnonnull 4, 3) := by decide +kernel
theorem dX7_become_4 : decode cX7_become 4 = .ok (.return_, 1) := by decide +kernel
theorem dX7_become_5 : decode cX7_become 5 = .ok (.aload_n 0, 1) := by decide +kernel
theorem dX7_become_6 : decode cX7_become 6 = .ok (.aload_n 1, 1) := by decide +kernel
theorem dX7_become_7 : decode cX7_become 7 = .ok (.getfield 79, 3) := by decide +kernel
theorem dX7_become_10 : decode cX7_become 10 = .ok (.putfield 79, 3) := by decide +kernel
theorem dX7_become_13 : decode cX7_become 13 = .ok (.aload_n 0, 1) := by decide +kernel
theorem dX7_become_14 : decode cX7_become 14 = .ok (.aload_n 1, 1) := by decide +kernel
theorem dX7_become_15 : decode cX7_become 15 = .ok (.getfield 9, 3) := by decide +kernel
theorem dX7_become_18 : decode cX7_become 18 = .ok (.putfield 9, 3) := by decide +kernel
theorem dX7_become_21 : decode cX7_become 21 = .ok (.aload_n 0, 1) := by decide +kernel
theorem dX7_become_22 : decode cX7_become 22 = .ok (.aload_n 1, 1) := by decide +kernel
theorem dX7_become_23 : decode cX7_become 23 = .ok (.getfield 15, 3) := by decide +kernel
theorem dX7_become_26 : decode cX7_become 26 = .ok (.putfield 15, 3) := by decide +kernel
theorem dX7_become_29 : decode cX7_become 29 = .ok (.aload_n 0, 1) := by decide +kernel
theorem dX7_become_30 : decode cX7_become 30 = .ok (.aload_n 1, 1) := by decide +kernel
theorem dX7_become_31 : decode cX7_become 31 = .ok (.getfield 97, 3) := by decide +kernel
theorem dX7_become_34 : decode cX7_become 34 = .ok (.putfield 97, 3) := by decide +kernel
theorem dX7_become_37 : decode cX7_become 37 = .ok (.aload_n 0, 1) := by decide +kernel
theorem dX7_become_38 : decode cX7_become 38 = .ok (.aload_n 1, 1) := by decide +kernel
theorem dX7_become_39 : decode cX7_become 39 = .ok (.getfield 160, 3) := by decide +kernel
theorem dX7_become_42 : decode cX7_become 42 = .ok (.putfield 160, 3) := by decide +kernel
theorem dX7_become_45 : decode cX7_become 45 = .ok (.aload_n 0, 1) := by decide +kernel
theorem dX7_become_46 : decode cX7_become 46 = .ok (.getfield 21, 3) := by decide +kernel
theorem dX7_become_49 : decode cX7_become 49 = .ok (.aload_n 1, 1) := by decide +kernel
theorem dX7_become_50 : decode cX7_become 50 = .ok (.getfield 21, 3) := by decide +kernel
theorem dX7_become_53 : decode cX7_become 53 = .ok (.invokevirtual 196, 3) := by decide +kernel
theorem dX7_become_56 : decode cX7_become 56 = .ok (.aload_n 0, 1) := by decide +kernel
theorem dX7_become_57 : decode cX7_become 57 = .ok (.getfield 28, 3) := by decide +kernel
theorem dX7_become_60 : decode cX7_become 60 = .ok (.aload_n 1, 1) := by decide +kernel
theorem dX7_become_61 : decode cX7_become 61 = .ok (.getfield 28, 3) := by decide +kernel
theorem dX7_become_64 : decode cX7_become 64 = .ok (.invokevirtual 200, 3) := by decide +kernel
theorem dX7_become_67 : decode cX7_become 67 = .ok (.aload_n 0, 1) := by decide +kernel
theorem dX7_become_68 : decode cX7_become 68 = .ok (.getfield 35, 3) := by decide +kernel
theorem dX7_become_71 : decode cX7_become 71 = .ok (.aload_n 1, 1) := by decide +kernel
theorem dX7_become_72 : decode cX7_become 72 = .ok (.getfield 35, 3) := by decide +kernel
theorem dX7_become_75 : decode cX7_become 75 = .ok (.invokevirtual 203, 3) := by decide +kernel
theorem dX7_become_78 : decode cX7_become 78 = .ok (.aload_n 0, 1) := by decide +kernel
theorem dX7_become_79 : decode cX7_become 79 = .ok (.getfield 42, 3) := by decide +kernel
theorem dX7_become_82 : decode cX7_become 82 = .ok (.aload_n 1, 1) := by decide +kernel
theorem dX7_become_83 : decode cX7_become 83 = .ok (.getfield 42, 3) := by decide +kernel
theorem dX7_become_86 : decode cX7_become 86 = .ok (.invokevirtual 206, 3) := by decide +kernel
theorem dX7_become_89 : decode cX7_become 89 = .ok (.aload_n 0, 1) := by decide +kernel
theorem dX7_become_90 : decode cX7_become 90 = .ok (.getfield 49, 3) := by decide +kernel
theorem dX7_become_93 : decode cX7_become 93 = .ok (.aload_n 1, 1) := by decide +kernel
theorem dX7_become_94 : decode cX7_become 94 = .ok (.getfield 49, 3) := by decide +kernel
theorem dX7_become_97 : decode cX7_become 97 = .ok (.invokevirtual 209, 3) := by decide +kernel
theorem dX7_become_100 : decode cX7_become 100 = .ok (.return_, 1) := by decide +kernel
theorem dX8_init_0 : decode cX8_init 0 = .ok (.aload_n 0, 1) := by decide +kernel
theorem dX8_init_1 : decode cX8_init 1 = .ok (.invokespecial 3, 3) := by decide +kernel
theorem dX8_init_4 : decode cX8_init 4 = .ok (.aload_n 0, 1) := by decide +kernel
theorem dX8_init_5 : decode cX8_init 5 = .ok (.new 9, 3) := by decide +kernel
theorem dX8_init_8 : decode cX8_init 8 = .ok (.dup, 1) := by decide +kernel
theorem dX8_init_9 : decode cX8_init 9 = .ok (.iconst 3, 1) := by decide +kernel
theorem dX8_init_10 : decode cX8_init 10 = .ok (.invokespecial 11, 3) := by decide +kernel
theorem dX8_init_13 : decode cX8_init 13 = .ok (.putfield 14, 3) := by decide +kernel
theorem dX8_init_16 : decode cX8_init 16 = .ok (.aload_n 0, 1) := by decide +kernel
theorem dX8_init_17 : decode cX8_init 17 = .ok (.new 9, 3) := by decide +kernel
theorem dX8_init_20 : decode cX8_init 20 = .ok (.dup, 1) := by decide +kernel
theorem dX8_init_21 : decode cX8_init 21 = .ok (.iconst 3, 1) := by decide +kernel
theorem dX8_init_22 : decode cX8_init 22 = .ok (.invokespecial 11, 3) := by decide +kernel
theorem dX8_init_25 : decode cX8_init 25 = .ok (.putfield 20, 3) := by decide +kernel
theorem dX8_init_28 : decode cX8_init 28 = .ok (.aload_n 0, 1) := by decide +kernel
theorem dX8_init_29 : decode cX8_init 29 = .ok (.getfield 14, 3) := by decide +kernel
theorem dX8_init_32 : decode cX8_init 32 = .ok (.sipush 1000, 3) := by decide +kernel
theorem dX8_init_35 : decode cX8_init 35 = .ok (.invokevirtual 23, 3) := by decide +kernel
theorem dX8_init_38 : decode cX8_init 38 = .ok (.return_, 1) := by decide +kernel
theorem dX8_endDay_0 : decode cX8_endDay 0 = .ok (.iconst 0, 1) := by decide +kernel
theorem dX8_endDay_1 : decode cX8_endDay 1 = .ok (.istore_n 1, 1) := by decide +kernel
theorem dX8_endDay_2 : decode cX8_endDay 2 = .ok (.iload_n 1, 1) := by decide +kernel
theorem dX8_endDay_3 : decode cX8_endDay 3 = .ok (.iconst 3, 1) := by decide +kernel
theorem dX8_endDay_4 : decode cX8_endDay 4 = .ok (.if_icmp .ge 29, 3) := by decide +kernel
theorem dX8_endDay_7 : decode cX8_endDay 7 = .ok (.aload_n 0, 1) := by decide +kernel
theorem dX8_endDay_8 : decode cX8_endDay 8 = .ok (.getfield 20, 3) := by decide +kernel
theorem dX8_endDay_11 : decode cX8_endDay 11 = .ok (.iload_n 1, 1) := by decide +kernel
theorem dX8_endDay_12 : decode cX8_endDay 12 = .ok (.invokevirtual 26, 3) := by decide +kernel
theorem dX8_endDay_15 : decode cX8_endDay 15 = .ok (.ifCond .le 12, 3) := by decide +kernel
theorem dX8_endDay_18 : decode cX8_endDay 18 = .ok (.aload_n 0, 1) := by decide +kernel
theorem dX8_endDay_19 : decode cX8_endDay 19 = .ok (.getfield 20, 3) := by decide +kernel
theorem dX8_endDay_22 : decode cX8_endDay 22 = .ok (.iload_n 1, 1) := by decide +kernel
theorem dX8_endDay_23 : decode cX8_endDay 23 = .ok (.iconst (-1), 1) := by decide +kernel
theorem dX8_endDay_24 : decode cX8_endDay 24 = .ok (.invokevirtual 30, 3) := by decide +kernel
theorem dX8_endDay_27 : decode cX8_endDay 27 = .ok (.iinc 1 1, 3) := by decide +kernel
theorem dX8_endDay_30 : decode cX8_endDay 30 = .ok (.goto (-28), 3) := by decide +kernel
theorem dX8_endDay_33 : decode cX8_endDay 33 = .ok (.return_, 1) := by decide +kernel
theorem dX8_become_0 : decode cX8_become 0 = .ok (.aload_n 1, 1) := by decide +kernel
theorem dX8_become_1 : decode cX8_become 1 = .ok (.ifnonnull 4, 3) := by decide +kernel
theorem dX8_become_4 : decode cX8_become 4 = .ok (.return_, 1) := by decide +kernel
theorem dX8_become_5 : decode cX8_become 5 = .ok (.aload_n 0, 1) := by decide +kernel
theorem dX8_become_6 : decode cX8_become 6 = .ok (.getfield 14, 3) := by decide +kernel
theorem dX8_become_9 : decode cX8_become 9 = .ok (.aload_n 1, 1) := by decide +kernel
theorem dX8_become_10 : decode cX8_become 10 = .ok (.getfield 14, 3) := by decide +kernel
theorem dX8_become_13 : decode cX8_become 13 = .ok (.invokevirtual 34, 3) := by decide +kernel
theorem dX8_become_16 : decode cX8_become 16 = .ok (.aload_n 0, 1) := by decide +kernel
theorem dX8_become_17 : decode cX8_become 17 = .ok (.getfield 20, 3) := by decide +kernel
theorem dX8_become_20 : decode cX8_become 20 = .ok (.aload_n 1, 1) := by decide +kernel
theorem dX8_become_21 : decode cX8_become 21 = .ok (.getfield 20, 3) := by decide +kernel
theorem dX8_become_24 : decode cX8_become 24 = .ok (.invokevirtual 34, 3) := by decide +kernel
theorem dX8_become_27 : decode cX8_become 27 = .ok (.return_, 1) := by decide +kernel
theorem dX9_init_0 : decode cX9_init 0 = .ok (.aload_n 0, 1) := by decide +kernel
theorem dX9_init_1 : decode cX9_init 1 = .ok (.invokespecial 1, 3) := by decide +kernel
theorem dX9_init_4 : decode cX9_init 4 = .ok (.aload_n 0, 1) := by decide +kernel
theorem dX9_init_5 : decode cX9_init 5 = .ok (.new 7, 3) := by decide +kernel
theorem dX9_init_8 : decode cX9_init 8 = .ok (.dup, 1) := by decide +kernel
theorem dX9_init_9 : decode cX9_init 9 = .ok (.invokespecial 9, 3) := by decide +kernel
theorem dX9_init_12 : decode cX9_init 12 = .ok (.putfield 10, 3) := by decide +kernel
theorem dX9_init_15 : decode cX9_init 15 = .ok (.aload_n 0, 1) := by decide +kernel
theorem dX9_init_16 : decode cX9_init 16 = .ok (.new 7, 3) := by decide +kernel
theorem dX9_init_19 : decode cX9_init 19 = .ok (.dup, 1) := by decide +kernel
theorem dX9_init_20 : decode cX9_init 20 = .ok (.invokespecial 9, 3) := by decide +kernel
theorem dX9_init_23 : decode cX9_init 23 = .ok (.putfield 16, 3) := by decide +kernel
theorem dX9_init_26 : decode cX9_init 26 = .ok (.aload_n 0, 1) := by decide +kernel
theorem dX9_init_27 : decode cX9_init 27 = .ok (.new 19, 3) := by decide +kernel
theorem dX9_init_30 : decode cX9_init 30 = .ok (.dup, 1) := by decide +kernel
theorem dX9_init_31 : decode cX9_init 31 = .ok (.invokespecial 21, 3) := by decide +kernel
theorem dX9_init_34 : decode cX9_init 34 = .ok (.putfield 22, 3) := by decide +kernel
theorem dX9_init_37 : decode cX9_init 37 = .ok (.aload_n 0, 1) := by decide +kernel
theorem dX9_init_38 : decode cX9_init 38 = .ok (.new 26, 3) := by decide +kernel
theorem dX9_init_41 : decode cX9_init 41 = .ok (.dup, 1) := by decide +kernel
theorem dX9_init_42 : decode cX9_init 42 = .ok (.invokespecial 28, 3) := by decide +kernel
theorem dX9_init_45 : decode cX9_init 45 = .ok (.putfield 29, 3) := by decide +kernel
theorem dX9_init_48 : decode cX9_init 48 = .ok (.return_, 1) := by decide +kernel
theorem dX9_addKind_0 : decode cX9_addKind 0 = .ok (.iload_n 1, 1) := by decide +kernel
theorem dX9_addKind_1 : decode cX9_addKind 1 = .ok (.iconst 0, 1) := by decide +kernel
theorem dX9_addKind_2 : decode cX9_addKind 2 = .ok (.sipush 200, 3) := by decide +kernel
theorem dX9_addKind_5 : decode cX9_addKind 5 = .ok (.invokestatic 33, 3) := by decide +kernel
theorem dX9_addKind_8 : decode cX9_addKind 8 = .ok (.iload_n 2, 1) := by decide +kernel
theorem dX9_addKind_9 : decode cX9_addKind 9 = .ok (.iconst 0, 1) := by decide +kernel
theorem dX9_addKind_10 : decode cX9_addKind 10 = .ok (.sipush 200, 3) := by decide +kernel
theorem dX9_addKind_13 : decode cX9_addKind 13 = .ok (.invokestatic 33, 3) := by decide +kernel
theorem dX9_addKind_16 : decode cX9_addKind 16 = .ok (.iload_n 3, 1) := by decide +kernel
theorem dX9_addKind_17 : decode cX9_addKind 17 = .ok (.iconst 0, 1) := by decide +kernel
theorem dX9_addKind_18 : decode cX9_addKind 18 = .ok (.sipush 200, 3) := by decide +kernel
theorem dX9_addKind_21 : decode cX9_addKind 21 = .ok (.invokestatic 33, 3) := by decide +kernel
theorem dX9_addKind_24 : decode cX9_addKind 24 = .ok (.aload_n 0, 1) := by decide +kernel
theorem dX9_addKind_25 : decode cX9_addKind 25 = .ok (.getfield 10, 3) := by decide +kernel
theorem dX9_addKind_28 : decode cX9_addKind 28 = .ok (.getfield 37, 3) := by decide +kernel
theorem dX9_addKind_31 : decode cX9_addKind 31 = .ok (.getfield 41, 3) := by decide +kernel
theorem dX9_addKind_34 : decode cX9_addKind 34 = .ok (.bipush 8, 2) := by decide +kernel
theorem dX9_addKind_36 : decode cX9_addKind 36 = .ok (.if_icmp .lt 13, 3) := by decide +kernel
theorem dX9_addKind_39 : decode cX9_addKind 39 = .ok (.new 47, 3) := by decide +kernel
theorem dX9_addKind_42 : decode cX9_addKind 42 = .ok (.dup, 1) := by decide +kernel
theorem dX9_addKind_43 : decode cX9_addKind 43 = .ok (.ldc 49, 2) := by decide +kernel
theorem dX9_addKind_45 : decode cX9_addKind 45 = .ok (.invokespecial 51, 3) := by decide +kernel
theorem dX9_addKind_48 : decode cX9_addKind 48 = .ok (.athrow, 1) := by decide +kernel
theorem dX9_addKind_49 : decode cX9_addKind 49 = .ok (.aload_n 0, 1) := by decide +kernel
theorem dX9_addKind_50 : decode cX9_addKind 50 = .ok (.getfield 22, 3) := by decide +kernel
theorem dX9_addKind_53 : decode cX9_addKind 53 = .ok (.aload_n 0, 1) := by decide +kernel
theorem dX9_addKind_54 : decode cX9_addKind 54 = .ok (.getfield 10, 3) := by decide +kernel
theorem dX9_addKind_57 : decode cX9_addKind 57 = .ok (.invokevirtual 54, 3) := by decide +kernel
theorem dX9_addKind_60 : decode cX9_addKind 60 = .ok (.aload_n 0, 1) := by decide +kernel
theorem dX9_addKind_61 : decode cX9_addKind 61 = .ok (.getfield 10, 3) := by decide +kernel
theorem dX9_addKind_64 : decode cX9_addKind 64 = .ok (.getfield 37, 3) := by decide +kernel
theorem dX9_addKind_67 : decode cX9_addKind 67 = .ok (.iload_n 1, 1) := by decide +kernel
theorem dX9_addKind_68 : decode cX9_addKind 68 = .ok (.iload_n 2, 1) := by decide +kernel
theorem dX9_addKind_69 : decode cX9_addKind 69 = .ok (.iload_n 3, 1) := by decide +kernel
theorem dX9_addKind_70 : decode cX9_addKind 70 = .ok (.invokevirtual 58, 3) := by decide +kernel
theorem dX9_addKind_73 : decode cX9_addKind 73 = .ok (.ireturn, 1) := by decide +kernel
theorem dX9_setRoom_0 : decode cX9_setRoom 0 = .ok (.iload_n 1, 1) := by decide +kernel
theorem dX9_setRoom_1 : decode cX9_setRoom 1 = .ok (.invokestatic 62, 3) := by decide +kernel
theorem dX9_setRoom_4 : decode cX9_setRoom 4 = .ok (.iload_n 2, 1) := by decide +kernel
theorem dX9_setRoom_5 : decode cX9_setRoom 5 = .ok (.iconst 0, 1) := by decide +kernel
theorem dX9_setRoom_6 : decode cX9_setRoom 6 = .ok (.sipush 5000, 3) := by decide +kernel
theorem dX9_setRoom_9 : decode cX9_setRoom 9 = .ok (.invokestatic 33, 3) := by decide +kernel
theorem dX9_setRoom_12 : decode cX9_setRoom 12 = .ok (.aload_n 0, 1) := by decide +kernel
theorem dX9_setRoom_13 : decode cX9_setRoom 13 = .ok (.getfield 10, 3) := by decide +kernel
theorem dX9_setRoom_16 : decode cX9_setRoom 16 = .ok (.getfield 66, 3) := by decide +kernel
theorem dX9_setRoom_19 : decode cX9_setRoom 19 = .ok (.iload_n 1, 1) := by decide +kernel
theorem dX9_setRoom_20 : decode cX9_setRoom 20 = .ok (.invokevirtual 70, 3) := by decide +kernel
theorem dX9_setRoom_23 : decode cX9_setRoom 23 = .ok (.iload_n 2, 1) := by decide +kernel
theorem dX9_setRoom_24 : decode cX9_setRoom 24 = .ok (.if_icmp .le 13, 3) := by decide +kernel
theorem dX9_setRoom_27 : decode cX9_setRoom 27 = .ok (.new 47, 3) := by decide +kernel
theorem dX9_setRoom_30 : decode cX9_setRoom 30 = .ok (.dup, 1) := by decide +kernel
theorem dX9_setRoom_31 : decode cX9_setRoom 31 = .ok (.ldc 76, 2) := by decide +kernel
theorem dX9_setRoom_33 : decode cX9_setRoom 33 = .ok (.invokespecial 51, 3) := by decide +kernel
theorem dX9_setRoom_36 : decode cX9_setRoom 36 = .ok (.athrow, 1) := by decide +kernel
theorem dX9_setRoom_37 : decode cX9_setRoom 37 = .ok (.aload_n 0, 1) := by decide +kernel
theorem dX9_setRoom_38 : decode cX9_setRoom 38 = .ok (.getfield 22, 3) := by decide +kernel
theorem dX9_setRoom_41 : decode cX9_setRoom 41 = .ok (.aload_n 0, 1) := by decide +kernel
theorem dX9_setRoom_42 : decode cX9_setRoom 42 = .ok (.getfield 10, 3) := by decide +kernel
theorem dX9_setRoom_45 : decode cX9_setRoom 45 = .ok (.invokevirtual 54, 3) := by decide +kernel
theorem dX9_setRoom_48 : decode cX9_setRoom 48 = .ok (.aload_n 0, 1) := by decide +kernel
theorem dX9_setRoom_49 : decode cX9_setRoom 49 = .ok (.getfield 10, 3) := by decide +kernel
theorem dX9_setRoom_52 : decode cX9_setRoom 52 = .ok (.getfield 78, 3) := by decide +kernel
theorem dX9_setRoom_55 : decode cX9_setRoom 55 = .ok (.getfield 82, 3) := by decide +kernel
theorem dX9_setRoom_58 : decode cX9_setRoom 58 = .ok (.iload_n 1, 1) := by decide +kernel
theorem dX9_setRoom_59 : decode cX9_setRoom 59 = .ok (.invokevirtual 88, 3) := by decide +kernel
theorem dX9_setRoom_62 : decode cX9_setRoom 62 = .ok (.istore_n 3, 1) := by decide +kernel
theorem dX9_setRoom_63 : decode cX9_setRoom 63 = .ok (.aload_n 0, 1) := by decide +kernel
theorem dX9_setRoom_64 : decode cX9_setRoom 64 = .ok (.getfield 10, 3) := by decide +kernel
theorem dX9_setRoom_67 : decode cX9_setRoom 67 = .ok (.getfield 78, 3) := by decide +kernel
theorem dX9_setRoom_70 : decode cX9_setRoom 70 = .ok (.getfield 82, 3) := by decide +kernel
theorem dX9_setRoom_73 : decode cX9_setRoom 73 = .ok (.iload_n 1, 1) := by decide +kernel
theorem dX9_setRoom_74 : decode cX9_setRoom 74 = .ok (.iload_n 2, 1) := by decide +kernel
theorem dX9_setRoom_75 : decode cX9_setRoom 75 = .ok (.invokevirtual 93, 3) := by decide +kernel
theorem dX9_setRoom_78 : decode cX9_setRoom 78 = .ok (.iload_n 3, 1) := by decide +kernel
theorem dX9_setRoom_79 : decode cX9_setRoom 79 = .ok (.ireturn, 1) := by decide +kernel
theorem dX9_warm_0 : decode cX9_warm 0 = .ok (.iload_n 1, 1) := by decide +kernel
theorem dX9_warm_1 : decode cX9_warm 1 = .ok (.iconst 1, 1) := by decide +kernel
theorem dX9_warm_2 : decode cX9_warm 2 = .ok (.iconst 2, 1) := by decide +kernel
theorem dX9_warm_3 : decode cX9_warm 3 = .ok (.invokestatic 97, 3) := by decide +kernel
theorem dX9_warm_6 : decode cX9_warm 6 = .ok (.ifCond .ne 13, 3) := by decide +kernel
theorem dX9_warm_9 : decode cX9_warm 9 = .ok (.new 101, 3) := by decide +kernel
theorem dX9_warm_12 : decode cX9_warm 12 = .ok (.dup, 1) := by decide +kernel
theorem dX9_warm_13 : decode cX9_warm 13 = .ok (.ldc 103, 2) := by decide +kernel
theorem dX9_warm_15 : decode cX9_warm 15 = .ok (.invokespecial 105, 3) := by decide +kernel
theorem dX9_warm_18 : decode cX9_warm 18 = .ok (.athrow, 1) := by decide +kernel
theorem dX9_warm_19 : decode cX9_warm 19 = .ok (.iload_n 2, 1) := by decide +kernel
theorem dX9_warm_20 : decode cX9_warm 20 = .ok (.iconst 0, 1) := by decide +kernel
theorem dX9_warm_21 : decode cX9_warm 21 = .ok (.bipush 30, 2) := by decide +kernel
theorem dX9_warm_23 : decode cX9_warm 23 = .ok (.invokestatic 33, 3) := by decide +kernel
theorem dX9_warm_26 : decode cX9_warm 26 = .ok (.aload_n 0, 1) := by decide +kernel
theorem dX9_warm_27 : decode cX9_warm 27 = .ok (.getfield 22, 3) := by decide +kernel
theorem dX9_warm_30 : decode cX9_warm 30 = .ok (.aload_n 0, 1) := by decide +kernel
theorem dX9_warm_31 : decode cX9_warm 31 = .ok (.getfield 10, 3) := by decide +kernel
theorem dX9_warm_34 : decode cX9_warm 34 = .ok (.invokevirtual 54, 3) := by decide +kernel
theorem dX9_warm_37 : decode cX9_warm 37 = .ok (.aload_n 0, 1) := by decide +kernel
theorem dX9_warm_38 : decode cX9_warm 38 = .ok (.getfield 10, 3) := by decide +kernel
theorem dX9_warm_41 : decode cX9_warm 41 = .ok (.getfield 78, 3) := by decide +kernel
theorem dX9_warm_44 : decode cX9_warm 44 = .ok (.getfield 106, 3) := by decide +kernel
theorem dX9_warm_47 : decode cX9_warm 47 = .ok (.iload_n 1, 1) := by decide +kernel
theorem dX9_warm_48 : decode cX9_warm 48 = .ok (.invokevirtual 88, 3) := by decide +kernel
theorem dX9_warm_51 : decode cX9_warm 51 = .ok (.istore_n 3, 1) := by decide +kernel
theorem dX9_warm_52 : decode cX9_warm 52 = .ok (.aload_n 0, 1) := by decide +kernel
theorem dX9_warm_53 : decode cX9_warm 53 = .ok (.getfield 10, 3) := by decide +kernel
theorem dX9_warm_56 : decode cX9_warm 56 = .ok (.getfield 78, 3) := by decide +kernel
theorem dX9_warm_59 : decode cX9_warm 59 = .ok (.getfield 106, 3) := by decide +kernel
theorem dX9_warm_62 : decode cX9_warm 62 = .ok (.iload_n 1, 1) := by decide +kernel
theorem dX9_warm_63 : decode cX9_warm 63 = .ok (.iload_n 2, 1) := by decide +kernel
theorem dX9_warm_64 : decode cX9_warm 64 = .ok (.invokevirtual 93, 3) := by decide +kernel
theorem dX9_warm_67 : decode cX9_warm 67 = .ok (.iload_n 3, 1) := by decide +kernel
theorem dX9_warm_68 : decode cX9_warm 68 = .ok (.ireturn, 1) := by decide +kernel
theorem dX9_setCrew_0 : decode cX9_setCrew 0 = .ok (.iload_n 1, 1) := by decide +kernel
theorem dX9_setCrew_1 : decode cX9_setCrew 1 = .ok (.iconst 1, 1) := by decide +kernel
theorem dX9_setCrew_2 : decode cX9_setCrew 2 = .ok (.bipush 100, 2) := by decide +kernel
theorem dX9_setCrew_4 : decode cX9_setCrew 4 = .ok (.invokestatic 33, 3) := by decide +kernel
theorem dX9_setCrew_7 : decode cX9_setCrew 7 = .ok (.aload_n 0, 1) := by decide +kernel
theorem dX9_setCrew_8 : decode cX9_setCrew 8 = .ok (.getfield 22, 3) := by decide +kernel
theorem dX9_setCrew_11 : decode cX9_setCrew 11 = .ok (.aload_n 0, 1) := by decide +kernel
theorem dX9_setCrew_12 : decode cX9_setCrew 12 = .ok (.getfield 10, 3) := by decide +kernel
theorem dX9_setCrew_15 : decode cX9_setCrew 15 = .ok (.invokevirtual 54, 3) := by decide +kernel
theorem dX9_setCrew_18 : decode cX9_setCrew 18 = .ok (.aload_n 0, 1) := by decide +kernel
theorem dX9_setCrew_19 : decode cX9_setCrew 19 = .ok (.getfield 10, 3) := by decide +kernel
theorem dX9_setCrew_22 : decode cX9_setCrew 22 = .ok (.getfield 109, 3) := by decide +kernel
theorem dX9_setCrew_25 : decode cX9_setCrew 25 = .ok (.istore_n 2, 1) := by decide +kernel
theorem dX9_setCrew_26 : decode cX9_setCrew 26 = .ok (.aload_n 0, 1) := by decide +kernel
theorem dX9_setCrew_27 : decode cX9_setCrew 27 = .ok (.getfield 10, 3) := by decide +kernel
theorem dX9_setCrew_30 : decode cX9_setCrew 30 = .ok (.iload_n 1, 1) := by decide +kernel
theorem dX9_setCrew_31 : decode cX9_setCrew 31 = .ok (.putfield 109, 3) := by decide +kernel
theorem dX9_setCrew_34 : decode cX9_setCrew 34 = .ok (.iload_n 2, 1) := by decide +kernel
theorem dX9_setCrew_35 : decode cX9_setCrew 35 = .ok (.ireturn, 1) := by decide +kernel
theorem dX9_pay_0 : decode cX9_pay 0 = .ok (.aload_n 0, 1) := by decide +kernel
theorem dX9_pay_1 : decode cX9_pay 1 = .ok (.getfield 10, 3) := by decide +kernel
theorem dX9_pay_4 : decode cX9_pay 4 = .ok (.getfield 112, 3) := by decide +kernel
theorem dX9_pay_7 : decode cX9_pay 7 = .ok (.i2l, 1) := by decide +kernel
theorem dX9_pay_8 : decode cX9_pay 8 = .ok (.iload_n 1, 1) := by decide +kernel
theorem dX9_pay_9 : decode cX9_pay 9 = .ok (.i2l, 1) := by decide +kernel
theorem dX9_pay_10 : decode cX9_pay 10 = .ok (.ladd, 1) := by decide +kernel
theorem dX9_pay_11 : decode cX9_pay 11 = .ok (.lstore_n 2, 1) := by decide +kernel
theorem dX9_pay_12 : decode cX9_pay 12 = .ok (.lload_n 2, 1) := by decide +kernel
theorem dX9_pay_13 : decode cX9_pay 13 = .ok (.lconst 0, 1) := by decide +kernel
theorem dX9_pay_14 : decode cX9_pay 14 = .ok (.lcmp, 1) := by decide +kernel
theorem dX9_pay_15 : decode cX9_pay 15 = .ok (.ifCond .lt 11, 3) := by decide +kernel
theorem dX9_pay_18 : decode cX9_pay 18 = .ok (.lload_n 2, 1) := by decide +kernel
theorem dX9_pay_19 : decode cX9_pay 19 = .ok (.ldc2_w 115, 3) := by decide +kernel
theorem dX9_pay_22 : decode cX9_pay 22 = .ok (.lcmp, 1) := by decide +kernel
theorem dX9_pay_23 : decode cX9_pay 23 = .ok (.ifCond .le 13, 3) := by decide +kernel
theorem dX9_pay_26 : decode cX9_pay 26 = .ok (.new 117, 3) := by decide +kernel
theorem dX9_pay_29 : decode cX9_pay 29 = .ok (.dup, 1) := by decide +kernel
theorem dX9_pay_30 : decode cX9_pay 30 = .ok (.ldc 119, 2) := by decide +kernel
theorem dX9_pay_32 : decode cX9_pay 32 = .ok (.invokespecial 121, 3) := by decide +kernel
theorem dX9_pay_35 : decode cX9_pay 35 = .ok (.athrow, 1) := by decide +kernel
theorem dX9_pay_36 : decode cX9_pay 36 = .ok (.aload_n 0, 1) := by decide +kernel
theorem dX9_pay_37 : decode cX9_pay 37 = .ok (.getfield 22, 3) := by decide +kernel
theorem dX9_pay_40 : decode cX9_pay 40 = .ok (.aload_n 0, 1) := by decide +kernel
theorem dX9_pay_41 : decode cX9_pay 41 = .ok (.getfield 10, 3) := by decide +kernel
theorem dX9_pay_44 : decode cX9_pay 44 = .ok (.invokevirtual 54, 3) := by decide +kernel
theorem dX9_pay_47 : decode cX9_pay 47 = .ok (.aload_n 0, 1) := by decide +kernel
theorem dX9_pay_48 : decode cX9_pay 48 = .ok (.getfield 10, 3) := by decide +kernel
theorem dX9_pay_51 : decode cX9_pay 51 = .ok (.lload_n 2, 1) := by decide +kernel
theorem dX9_pay_52 : decode cX9_pay 52 = .ok (.l2i, 1) := by decide +kernel
theorem dX9_pay_53 : decode cX9_pay 53 = .ok (.putfield 112, 3) := by decide +kernel
theorem dX9_pay_56 : decode cX9_pay 56 = .ok (.aload_n 0, 1) := by decide +kernel
theorem dX9_pay_57 : decode cX9_pay 57 = .ok (.getfield 10, 3) := by decide +kernel
theorem dX9_pay_60 : decode cX9_pay 60 = .ok (.getfield 112, 3) := by decide +kernel
theorem dX9_pay_63 : decode cX9_pay 63 = .ok (.ireturn, 1) := by decide +kernel
theorem dX9_addPort_0 : decode cX9_addPort 0 = .ok (.iload_n 1, 1) := by decide +kernel
theorem dX9_addPort_1 : decode cX9_addPort 1 = .ok (.iconst 0, 1) := by decide +kernel
theorem dX9_addPort_2 : decode cX9_addPort 2 = .ok (.sipush 500, 3) := by decide +kernel
theorem dX9_addPort_5 : decode cX9_addPort 5 = .ok (.invokestatic 33, 3) := by decide +kernel
theorem dX9_addPort_8 : decode cX9_addPort 8 = .ok (.iload_n 2, 1) := by decide +kernel
theorem dX9_addPort_9 : decode cX9_addPort 9 = .ok (.iconst 0, 1) := by decide +kernel
theorem dX9_addPort_10 : decode cX9_addPort 10 = .ok (.sipush 900, 3) := by decide +kernel
theorem dX9_addPort_13 : decode cX9_addPort 13 = .ok (.invokestatic 33, 3) := by decide +kernel
theorem dX9_addPort_16 : decode cX9_addPort 16 = .ok (.aload_n 0, 1) := by decide +kernel
theorem dX9_addPort_17 : decode cX9_addPort 17 = .ok (.getfield 10, 3) := by decide +kernel
theorem dX9_addPort_20 : decode cX9_addPort 20 = .ok (.getfield 122, 3) := by decide +kernel
theorem dX9_addPort_23 : decode cX9_addPort 23 = .ok (.getfield 126, 3) := by decide +kernel
theorem dX9_addPort_26 : decode cX9_addPort 26 = .ok (.bipush 8, 2) := by decide +kernel
theorem dX9_addPort_28 : decode cX9_addPort 28 = .ok (.if_icmp .ge 18, 3) := by decide +kernel
theorem dX9_addPort_31 : decode cX9_addPort 31 = .ok (.aload_n 0, 1) := by decide +kernel
theorem dX9_addPort_32 : decode cX9_addPort 32 = .ok (.getfield 10, 3) := by decide +kernel
theorem dX9_addPort_35 : decode cX9_addPort 35 = .ok (.getfield 122, 3) := by decide +kernel
theorem dX9_addPort_38 : decode cX9_addPort 38 = .ok (.iload_n 1, 1) := by decide +kernel
theorem dX9_addPort_39 : decode cX9_addPort 39 = .ok (.invokevirtual 129, 3) := by decide +kernel
theorem dX9_addPort_42 : decode cX9_addPort 42 = .ok (.iconst (-1), 1) := by decide +kernel
theorem dX9_addPort_43 : decode cX9_addPort 43 = .ok (.if_icmp .eq 13, 3) := by decide +kernel
theorem dX9_addPort_46 : decode cX9_addPort 46 = .ok (.new 47, 3) := by decide +kernel
theorem dX9_addPort_49 : decode cX9_addPort 49 = .ok (.dup, 1) := by decide +kernel
theorem dX9_addPort_50 : decode cX9_addPort 50 = .ok (.ldc 132, 2) := by decide +kernel
theorem dX9_addPort_52 : decode cX9_addPort 52 = .ok (.invokespecial 51, 3) := by decide +kernel
theorem dX9_addPort_55 : decode cX9_addPort 55 = .ok (.athrow, 1) := by decide +kernel
theorem dX9_addPort_56 : decode cX9_addPort 56 = .ok (.aload_n 0, 1) := by decide +kernel
theorem dX9_addPort_57 : decode cX9_addPort 57 = .ok (.getfield 22, 3) := by decide +kernel
theorem dX9_addPort_60 : decode cX9_addPort 60 = .ok (.aload_n 0, 1) := by decide +kernel
theorem dX9_addPort_61 : decode cX9_addPort 61 = .ok (.getfield 10, 3) := by decide +kernel
theorem dX9_addPort_64 : decode cX9_addPort 64 = .ok (.invokevirtual 54, 3) := by decide +kernel
theorem dX9_addPort_67 : decode cX9_addPort 67 = .ok (.aload_n 0, 1) := by decide +kernel
theorem dX9_addPort_68 : decode cX9_addPort 68 = .ok (.getfield 10, 3) := by decide +kernel
theorem dX9_addPort_71 : decode cX9_addPort 71 = .ok (.getfield 122, 3) := by decide +kernel
theorem dX9_addPort_74 : decode cX9_addPort 74 = .ok (.iload_n 1, 1) := by decide +kernel
theorem dX9_addPort_75 : decode cX9_addPort 75 = .ok (.iload_n 2, 1) := by decide +kernel
theorem dX9_addPort_76 : decode cX9_addPort 76 = .ok (.invokevirtual 134, 3) := by decide +kernel
theorem dX9_addPort_79 : decode cX9_addPort 79 = .ok (.ireturn, 1) := by decide +kernel
theorem dX9_setPrice_0 : decode cX9_setPrice 0 = .ok (.aload_n 0, 1) := by decide +kernel
theorem dX9_setPrice_1 : decode cX9_setPrice 1 = .ok (.iload_n 1, 1) := by decide +kernel
theorem dX9_setPrice_2 : decode cX9_setPrice 2 = .ok (.invokevirtual 138, 3) := by decide +kernel
theorem dX9_setPrice_5 : decode cX9_setPrice 5 = .ok (.aload_n 0, 1) := by decide +kernel
theorem dX9_setPrice_6 : decode cX9_setPrice 6 = .ok (.iload_n 2, 1) := by decide +kernel
theorem dX9_setPrice_7 : decode cX9_setPrice 7 = .ok (.invokevirtual 147, 3) := by decide +kernel
theorem dX9_setPrice_10 : decode cX9_setPrice 10 = .ok (.iload_n 3, 1) := by decide +kernel
theorem dX9_setPrice_11 : decode cX9_setPrice 11 = .ok (.iconst 0, 1) := by decide +kernel
theorem dX9_setPrice_12 : decode cX9_setPrice 12 = .ok (.bipush 100, 2) := by decide +kernel
theorem dX9_setPrice_14 : decode cX9_setPrice 14 = .ok (.invokestatic 33, 3) := by decide +kernel
theorem dX9_setPrice_17 : decode cX9_setPrice 17 = .ok (.aload_n 0, 1) := by decide +kernel
theorem dX9_setPrice_18 : decode cX9_setPrice 18 = .ok (.getfield 22, 3) := by decide +kernel
theorem dX9_setPrice_21 : decode cX9_setPrice 21 = .ok (.aload_n 0, 1) := by decide +kernel
theorem dX9_setPrice_22 : decode cX9_setPrice 22 = .ok (.getfield 10, 3) := by decide +kernel
theorem dX9_setPrice_25 : decode cX9_setPrice 25 = .ok (.invokevirtual 54, 3) := by decide +kernel
theorem dX9_setPrice_28 : decode cX9_setPrice 28 = .ok (.aload_n 0, 1) := by decide +kernel
theorem dX9_setPrice_29 : decode cX9_setPrice 29 = .ok (.getfield 10, 3) := by decide +kernel
theorem dX9_setPrice_32 : decode cX9_setPrice 32 = .ok (.getfield 122, 3) := by decide +kernel
theorem dX9_setPrice_35 : decode cX9_setPrice 35 = .ok (.iload_n 1, 1) := by decide +kernel
theorem dX9_setPrice_36 : decode cX9_setPrice 36 = .ok (.iload_n 2, 1) := by decide +kernel
theorem dX9_setPrice_37 : decode cX9_setPrice 37 = .ok (.invokevirtual 150, 3) := by decide +kernel
theorem dX9_setPrice_40 : decode cX9_setPrice 40 = .ok (.istore 4, 2) := by decide +kernel
theorem dX9_setPrice_42 : decode cX9_setPrice 42 = .ok (.aload_n 0, 1) := by decide +kernel
theorem dX9_setPrice_43 : decode cX9_setPrice 43 = .ok (.getfield 10, 3) := by decide +kernel
theorem dX9_setPrice_46 : decode cX9_setPrice 46 = .ok (.getfield 122, 3) := by decide +kernel
theorem dX9_setPrice_49 : decode cX9_setPrice 49 = .ok (.iload_n 1, 1) := by decide +kernel
theorem dX9_setPrice_50 : decode cX9_setPrice 50 = .ok (.iload_n 2, 1) := by decide +kernel
theorem dX9_setPrice_51 : decode cX9_setPrice 51 = .ok (.iload_n 3, 1) := by decide +kernel
theorem dX9_setPrice_52 : decode cX9_setPrice 52 = .ok (.invokevirtual 153, 3) := by decide +kernel
theorem dX9_setPrice_55 : decode cX9_setPrice 55 = .ok (.iload 4, 2) := by decide +kernel
theorem dX9_setPrice_57 : decode cX9_setPrice 57 = .ok (.ireturn, 1) := by decide +kernel
theorem dX9_buy_0 : decode cX9_buy 0 = .ok (.aload_n 0, 1) := by decide +kernel
theorem dX9_buy_1 : decode cX9_buy 1 = .ok (.iload_n 1, 1) := by decide +kernel
theorem dX9_buy_2 : decode cX9_buy 2 = .ok (.invokevirtual 147, 3) := by decide +kernel
theorem dX9_buy_5 : decode cX9_buy 5 = .ok (.iload_n 3, 1) := by decide +kernel
theorem dX9_buy_6 : decode cX9_buy 6 = .ok (.invokestatic 62, 3) := by decide +kernel
theorem dX9_buy_9 : decode cX9_buy 9 = .ok (.iload_n 2, 1) := by decide +kernel
theorem dX9_buy_10 : decode cX9_buy 10 = .ok (.iconst 1, 1) := by decide +kernel
theorem dX9_buy_11 : decode cX9_buy 11 = .ok (.sipush 2000, 3) := by decide +kernel
theorem dX9_buy_14 : decode cX9_buy 14 = .ok (.invokestatic 33, 3) := by decide +kernel
theorem dX9_buy_17 : decode cX9_buy 17 = .ok (.aload_n 0, 1) := by decide +kernel
theorem dX9_buy_18 : decode cX9_buy 18 = .ok (.getfield 10, 3) := by decide +kernel
theorem dX9_buy_21 : decode cX9_buy 21 = .ok (.iload_n 1, 1) := by decide +kernel
theorem dX9_buy_22 : decode cX9_buy 22 = .ok (.iload_n 2, 1) := by decide +kernel
theorem dX9_buy_23 : decode cX9_buy 23 = .ok (.iload_n 3, 1) := by decide +kernel
theorem dX9_buy_24 : decode cX9_buy 24 = .ok (.invokevirtual 156, 3) := by decide +kernel
theorem dX9_buy_27 : decode cX9_buy 27 = .ok (.ifCond .eq 13, 3) := by decide +kernel
theorem dX9_buy_30 : decode cX9_buy 30 = .ok (.new 47, 3) := by decide +kernel
theorem dX9_buy_33 : decode cX9_buy 33 = .ok (.dup, 1) := by decide +kernel
theorem dX9_buy_34 : decode cX9_buy 34 = .ok (.ldc 159, 2) := by decide +kernel
theorem dX9_buy_36 : decode cX9_buy 36 = .ok (.invokespecial 51, 3) := by decide +kernel
theorem dX9_buy_39 : decode cX9_buy 39 = .ok (.athrow, 1) := by decide +kernel
theorem dX9_buy_40 : decode cX9_buy 40 = .ok (.aload_n 0, 1) := by decide +kernel
theorem dX9_buy_41 : decode cX9_buy 41 = .ok (.getfield 22, 3) := by decide +kernel
theorem dX9_buy_44 : decode cX9_buy 44 = .ok (.aload_n 0, 1) := by decide +kernel
theorem dX9_buy_45 : decode cX9_buy 45 = .ok (.getfield 10, 3) := by decide +kernel
theorem dX9_buy_48 : decode cX9_buy 48 = .ok (.invokevirtual 54, 3) := by decide +kernel
theorem dX9_buy_51 : decode cX9_buy 51 = .ok (.aload_n 0, 1) := by decide +kernel
theorem dX9_buy_52 : decode cX9_buy 52 = .ok (.getfield 10, 3) := by decide +kernel
theorem dX9_buy_55 : decode cX9_buy 55 = .ok (.iload_n 1, 1) := by decide +kernel
theorem dX9_buy_56 : decode cX9_buy 56 = .ok (.iload_n 2, 1) := by decide +kernel
theorem dX9_buy_57 : decode cX9_buy 57 = .ok (.iload_n 3, 1) := by decide +kernel
theorem dX9_buy_58 : decode cX9_buy 58 = .ok (.invokevirtual 161, 3) := by decide +kernel
theorem dX9_buy_61 : decode cX9_buy 61 = .ok (.ireturn, 1) := by decide +kernel
theorem dX9_discard_0 : decode cX9_discard 0 = .ok (.aload_n 0, 1) := by decide +kernel
theorem dX9_discard_1 : decode cX9_discard 1 = .ok (.iload_n 1, 1) := by decide +kernel
theorem dX9_discard_2 : decode cX9_discard 2 = .ok (.invokevirtual 164, 3) := by decide +kernel
theorem dX9_discard_5 : decode cX9_discard 5 = .ok (.iload_n 2, 1) := by decide +kernel
theorem dX9_discard_6 : decode cX9_discard 6 = .ok (.iconst 1, 1) := by decide +kernel
theorem dX9_discard_7 : decode cX9_discard 7 = .ok (.aload_n 0, 1) := by decide +kernel
theorem dX9_discard_8 : decode cX9_discard 8 = .ok (.getfield 10, 3) := by decide +kernel
theorem dX9_discard_11 : decode cX9_discard 11 = .ok (.getfield 66, 3) := by decide +kernel
theorem dX9_discard_14 : decode cX9_discard 14 = .ok (.getfield 167, 3) := by decide +kernel
theorem dX9_discard_17 : decode cX9_discard 17 = .ok (.iload_n 1, 1) := by decide +kernel
theorem dX9_discard_18 : decode cX9_discard 18 = .ok (.invokevirtual 88, 3) := by decide +kernel
theorem dX9_discard_21 : decode cX9_discard 21 = .ok (.invokestatic 33, 3) := by decide +kernel
theorem dX9_discard_24 : decode cX9_discard 24 = .ok (.aload_n 0, 1) := by decide +kernel
theorem dX9_discard_25 : decode cX9_discard 25 = .ok (.getfield 22, 3) := by decide +kernel
theorem dX9_discard_28 : decode cX9_discard 28 = .ok (.aload_n 0, 1) := by decide +kernel
theorem dX9_discard_29 : decode cX9_discard 29 = .ok (.getfield 10, 3) := by decide +kernel
theorem dX9_discard_32 : decode cX9_discard 32 = .ok (.invokevirtual 54, 3) := by decide +kernel
theorem dX9_discard_35 : decode cX9_discard 35 = .ok (.aload_n 0, 1) := by decide +kernel
theorem dX9_discard_36 : decode cX9_discard 36 = .ok (.getfield 10, 3) := by decide +kernel
theorem dX9_discard_39 : decode cX9_discard 39 = .ok (.getfield 37, 3) := by decide +kernel
theorem dX9_discard_42 : decode cX9_discard 42 = .ok (.getfield 184, 3) := by decide +kernel
theorem dX9_discard_45 : decode cX9_discard 45 = .ok (.aload_n 0, 1) := by decide +kernel
theorem dX9_discard_46 : decode cX9_discard 46 = .ok (.getfield 10, 3) := by decide +kernel
theorem dX9_discard_49 : decode cX9_discard 49 = .ok (.getfield 66, 3) := by decide +kernel
theorem dX9_discard_52 : decode cX9_discard 52 = .ok (.getfield 187, 3) := by decide +kernel
theorem dX9_discard_55 : decode cX9_discard 55 = .ok (.iload_n 1, 1) := by decide +kernel
theorem dX9_discard_56 : decode cX9_discard 56 = .ok (.invokevirtual 88, 3) := by decide +kernel
theorem dX9_discard_59 : decode cX9_discard 59 = .ok (.iload_n 2, 1) := by decide +kernel
theorem dX9_discard_60 : decode cX9_discard 60 = .ok (.invokevirtual 190, 3) := by decide +kernel
theorem dX9_discard_63 : decode cX9_discard 63 = .ok (.aload_n 0, 1) := by decide +kernel
theorem dX9_discard_64 : decode cX9_discard 64 = .ok (.getfield 10, 3) := by decide +kernel
theorem dX9_discard_67 : decode cX9_discard 67 = .ok (.getfield 66, 3) := by decide +kernel
theorem dX9_discard_70 : decode cX9_discard 70 = .ok (.getfield 167, 3) := by decide +kernel
theorem dX9_discard_73 : decode cX9_discard 73 = .ok (.iload_n 1, 1) := by decide +kernel
theorem dX9_discard_74 : decode cX9_discard 74 = .ok (.iload_n 2, 1) := by decide +kernel
theorem dX9_discard_75 : decode cX9_discard 75 = .ok (.ineg, 1) := by decide +kernel
theorem dX9_discard_76 : decode cX9_discard 76 = .ok (.invokevirtual 190, 3) := by decide +kernel
theorem dX9_discard_79 : decode cX9_discard 79 = .ok (.aload_n 0, 1) := by decide +kernel
theorem dX9_discard_80 : decode cX9_discard 80 = .ok (.getfield 10, 3) := by decide +kernel
theorem dX9_discard_83 : decode cX9_discard 83 = .ok (.getfield 66, 3) := by decide +kernel
theorem dX9_discard_86 : decode cX9_discard 86 = .ok (.invokevirtual 193, 3) := by decide +kernel
theorem dX9_discard_89 : decode cX9_discard 89 = .ok (.aload_n 0, 1) := by decide +kernel
theorem dX9_discard_90 : decode cX9_discard 90 = .ok (.getfield 10, 3) := by decide +kernel
theorem dX9_discard_93 : decode cX9_discard 93 = .ok (.getfield 66, 3) := by decide +kernel
theorem dX9_discard_96 : decode cX9_discard 96 = .ok (.invokevirtual 196, 3) := by decide +kernel
theorem dX9_discard_99 : decode cX9_discard 99 = .ok (.ireturn, 1) := by decide +kernel
theorem dX9_pass_0 : decode cX9_pass 0 = .ok (.iload_n 1, 1) := by decide +kernel
theorem dX9_pass_1 : decode cX9_pass 1 = .ok (.iconst 1, 1) := by decide +kernel
theorem dX9_pass_2 : decode cX9_pass 2 = .ok (.bipush 60, 2) := by decide +kernel
theorem dX9_pass_4 : decode cX9_pass 4 = .ok (.invokestatic 33, 3) := by decide +kernel
theorem dX9_pass_7 : decode cX9_pass 7 = .ok (.aload_n 0, 1) := by decide +kernel
theorem dX9_pass_8 : decode cX9_pass 8 = .ok (.getfield 22, 3) := by decide +kernel
theorem dX9_pass_11 : decode cX9_pass 11 = .ok (.aload_n 0, 1) := by decide +kernel
theorem dX9_pass_12 : decode cX9_pass 12 = .ok (.getfield 10, 3) := by decide +kernel
theorem dX9_pass_15 : decode cX9_pass 15 = .ok (.invokevirtual 54, 3) := by decide +kernel
theorem dX9_pass_18 : decode cX9_pass 18 = .ok (.aload_n 0, 1) := by decide +kernel
theorem dX9_pass_19 : decode cX9_pass 19 = .ok (.getfield 10, 3) := by decide +kernel
theorem dX9_pass_22 : decode cX9_pass 22 = .ok (.getfield 37, 3) := by decide +kernel
theorem dX9_pass_25 : decode cX9_pass 25 = .ok (.getfield 200, 3) := by decide +kernel
theorem dX9_pass_28 : decode cX9_pass 28 = .ok (.invokevirtual 203, 3) := by decide +kernel
theorem dX9_pass_31 : decode cX9_pass 31 = .ok (.istore_n 2, 1) := by decide +kernel
theorem dX9_pass_32 : decode cX9_pass 32 = .ok (.aload_n 0, 1) := by decide +kernel
theorem dX9_pass_33 : decode cX9_pass 33 = .ok (.getfield 10, 3) := by decide +kernel
theorem dX9_pass_36 : decode cX9_pass 36 = .ok (.iload_n 1, 1) := by decide +kernel
theorem dX9_pass_37 : decode cX9_pass 37 = .ok (.invokevirtual 206, 3) := by decide +kernel
theorem dX9_pass_40 : decode cX9_pass 40 = .ok (.aload_n 0, 1) := by decide +kernel
theorem dX9_pass_41 : decode cX9_pass 41 = .ok (.getfield 10, 3) := by decide +kernel
theorem dX9_pass_44 : decode cX9_pass 44 = .ok (.getfield 37, 3) := by decide +kernel
theorem dX9_pass_47 : decode cX9_pass 47 = .ok (.getfield 200, 3) := by decide +kernel
theorem dX9_pass_50 : decode cX9_pass 50 = .ok (.invokevirtual 203, 3) := by decide +kernel
theorem dX9_pass_53 : decode cX9_pass 53 = .ok (.iload_n 2, 1) := by decide +kernel
theorem dX9_pass_54 : decode cX9_pass 54 = .ok (.isub, 1) := by decide +kernel
theorem dX9_pass_55 : decode cX9_pass 55 = .ok (.ireturn, 1) := by decide +kernel
theorem dX9_append_0 : decode cX9_append 0 = .ok (.iload_n 1, 1) := by decide +kernel
theorem dX9_append_1 : decode cX9_append 1 = .ok (.bipush 33, 2) := by decide +kernel
theorem dX9_append_3 : decode cX9_append 3 = .ok (.bipush 126, 2) := by decide +kernel
theorem dX9_append_5 : decode cX9_append 5 = .ok (.invokestatic 33, 3) := by decide +kernel
theorem dX9_append_8 : decode cX9_append 8 = .ok (.aload_n 0, 1) := by decide +kernel
theorem dX9_append_9 : decode cX9_append 9 = .ok (.getfield 29, 3) := by decide +kernel
theorem dX9_append_12 : decode cX9_append 12 = .ok (.getfield 209, 3) := by decide +kernel
theorem dX9_append_15 : decode cX9_append 15 = .ok (.bipush 60, 2) := by decide +kernel
theorem dX9_append_17 : decode cX9_append 17 = .ok (.if_icmp .lt 13, 3) := by decide +kernel
theorem dX9_append_20 : decode cX9_append 20 = .ok (.new 47, 3) := by decide +kernel
theorem dX9_append_23 : decode cX9_append 23 = .ok (.dup, 1) := by decide +kernel
theorem dX9_append_24 : decode cX9_append 24 = .ok (.ldc 212, 2) := by decide +kernel
theorem dX9_append_26 : decode cX9_append 26 = .ok (.invokespecial 51, 3) := by decide +kernel
theorem dX9_append_29 : decode cX9_append 29 = .ok (.athrow, 1) := by decide +kernel
theorem dX9_append_30 : decode cX9_append 30 = .ok (.aload_n 0, 1) := by decide +kernel
theorem dX9_append_31 : decode cX9_append 31 = .ok (.getfield 29, 3) := by decide +kernel
theorem dX9_append_34 : decode cX9_append 34 = .ok (.getfield 214, 3) := by decide +kernel
theorem dX9_append_37 : decode cX9_append 37 = .ok (.aload_n 0, 1) := by decide +kernel
theorem dX9_append_38 : decode cX9_append 38 = .ok (.getfield 29, 3) := by decide +kernel
theorem dX9_append_41 : decode cX9_append 41 = .ok (.getfield 209, 3) := by decide +kernel
theorem dX9_append_44 : decode cX9_append 44 = .ok (.iload_n 1, 1) := by decide +kernel
theorem dX9_append_45 : decode cX9_append 45 = .ok (.invokevirtual 93, 3) := by decide +kernel
theorem dX9_append_48 : decode cX9_append 48 = .ok (.aload_n 0, 1) := by decide +kernel
theorem dX9_append_49 : decode cX9_append 49 = .ok (.getfield 29, 3) := by decide +kernel
theorem dX9_append_52 : decode cX9_append 52 = .ok (.dup, 1) := by decide +kernel
theorem dX9_append_53 : decode cX9_append 53 = .ok (.getfield 209, 3) := by decide +kernel
theorem dX9_append_56 : decode cX9_append 56 = .ok (.iconst 1, 1) := by decide +kernel
theorem dX9_append_57 : decode cX9_append 57 = .ok (.iadd, 1) := by decide +kernel
theorem dX9_append_58 : decode cX9_append 58 = .ok (.putfield 209, 3) := by decide +kernel
theorem dX9_append_61 : decode cX9_append 61 = .ok (.aload_n 0, 1) := by decide +kernel
theorem dX9_append_62 : decode cX9_append 62 = .ok (.getfield 29, 3) := by decide +kernel
theorem dX9_append_65 : decode cX9_append 65 = .ok (.getfield 209, 3) := by decide +kernel
theorem dX9_append_68 : decode cX9_append 68 = .ok (.ireturn, 1) := by decide +kernel
theorem dX9_clearBuffer_0 : decode cX9_clearBuffer 0 = .ok (.aload_n 0, 1) := by decide +kernel
theorem dX9_clearBuffer_1 : decode cX9_clearBuffer 1 = .ok (.getfield 29, 3) := by decide +kernel
theorem dX9_clearBuffer_4 : decode cX9_clearBuffer 4 = .ok (.getfield 209, 3) := by decide +kernel
theorem dX9_clearBuffer_7 : decode cX9_clearBuffer 7 = .ok (.istore_n 1, 1) := by decide +kernel
theorem dX9_clearBuffer_8 : decode cX9_clearBuffer 8 = .ok (.aload_n 0, 1) := by decide +kernel
theorem dX9_clearBuffer_9 : decode cX9_clearBuffer 9 = .ok (.getfield 29, 3) := by decide +kernel
theorem dX9_clearBuffer_12 : decode cX9_clearBuffer 12 = .ok (.iconst 0, 1) := by decide +kernel
theorem dX9_clearBuffer_13 : decode cX9_clearBuffer 13 = .ok (.putfield 209, 3) := by decide +kernel
theorem dX9_clearBuffer_16 : decode cX9_clearBuffer 16 = .ok (.iload_n 1, 1) := by decide +kernel
theorem dX9_clearBuffer_17 : decode cX9_clearBuffer 17 = .ok (.ireturn, 1) := by decide +kernel
theorem dX9_load_0 : decode cX9_load 0 = .ok (.aload_n 0, 1) := by decide +kernel
theorem dX9_load_1 : decode cX9_load 1 = .ok (.getfield 29, 3) := by decide +kernel
theorem dX9_load_4 : decode cX9_load 4 = .ok (.invokevirtual 217, 3) := by decide +kernel
theorem dX9_load_7 : decode cX9_load 7 = .ok (.aload_n 0, 1) := by decide +kernel
theorem dX9_load_8 : decode cX9_load 8 = .ok (.getfield 29, 3) := by decide +kernel
theorem dX9_load_11 : decode cX9_load 11 = .ok (.getfield 209, 3) := by decide +kernel
theorem dX9_load_14 : decode cX9_load 14 = .ok (.if_icmp .lt 13, 3) := by decide +kernel
theorem dX9_load_17 : decode cX9_load 17 = .ok (.aload_n 0, 1) := by decide +kernel
theorem dX9_load_18 : decode cX9_load 18 = .ok (.getfield 29, 3) := by decide +kernel
theorem dX9_load_21 : decode cX9_load 21 = .ok (.invokevirtual 220, 3) := by decide +kernel
theorem dX9_load_24 : decode cX9_load 24 = .ok (.ifCond .ne 13, 3) := by decide +kernel
theorem dX9_load_27 : decode cX9_load 27 = .ok (.new 117, 3) := by decide +kernel
theorem dX9_load_30 : decode cX9_load 30 = .ok (.dup, 1) := by decide +kernel
theorem dX9_load_31 : decode cX9_load 31 = .ok (.ldc 224, 2) := by decide +kernel
theorem dX9_load_33 : decode cX9_load 33 = .ok (.invokespecial 121, 3) := by decide +kernel
theorem dX9_load_36 : decode cX9_load 36 = .ok (.athrow, 1) := by decide +kernel
theorem dX9_load_37 : decode cX9_load 37 = .ok (.aload_n 0, 1) := by decide +kernel
theorem dX9_load_38 : decode cX9_load 38 = .ok (.getfield 29, 3) := by decide +kernel
theorem dX9_load_41 : decode cX9_load 41 = .ok (.getfield 226, 3) := by decide +kernel
theorem dX9_load_44 : decode cX9_load 44 = .ok (.aload_n 0, 1) := by decide +kernel
theorem dX9_load_45 : decode cX9_load 45 = .ok (.getfield 10, 3) := by decide +kernel
theorem dX9_load_48 : decode cX9_load 48 = .ok (.getfield 37, 3) := by decide +kernel
theorem dX9_load_51 : decode cX9_load 51 = .ok (.getfield 41, 3) := by decide +kernel
theorem dX9_load_54 : decode cX9_load 54 = .ok (.if_icmp .lt 13, 3) := by decide +kernel
theorem dX9_load_57 : decode cX9_load 57 = .ok (.new 47, 3) := by decide +kernel
theorem dX9_load_60 : decode cX9_load 60 = .ok (.dup, 1) := by decide +kernel
theorem dX9_load_61 : decode cX9_load 61 = .ok (.ldc 229, 2) := by decide +kernel
theorem dX9_load_63 : decode cX9_load 63 = .ok (.invokespecial 51, 3) := by decide +kernel
theorem dX9_load_66 : decode cX9_load 66 = .ok (.athrow, 1) := by decide +kernel
theorem dX9_load_67 : decode cX9_load 67 = .ok (.aload_n 0, 1) := by decide +kernel
theorem dX9_load_68 : decode cX9_load 68 = .ok (.getfield 22, 3) := by decide +kernel
theorem dX9_load_71 : decode cX9_load 71 = .ok (.aload_n 0, 1) := by decide +kernel
theorem dX9_load_72 : decode cX9_load 72 = .ok (.getfield 10, 3) := by decide +kernel
theorem dX9_load_75 : decode cX9_load 75 = .ok (.invokevirtual 54, 3) := by decide +kernel
theorem dX9_load_78 : decode cX9_load 78 = .ok (.aload_n 0, 1) := by decide +kernel
theorem dX9_load_79 : decode cX9_load 79 = .ok (.getfield 10, 3) := by decide +kernel
theorem dX9_load_82 : decode cX9_load 82 = .ok (.getfield 231, 3) := by decide +kernel
theorem dX9_load_85 : decode cX9_load 85 = .ok (.aload_n 0, 1) := by decide +kernel
theorem dX9_load_86 : decode cX9_load 86 = .ok (.getfield 29, 3) := by decide +kernel
theorem dX9_load_89 : decode cX9_load 89 = .ok (.getfield 235, 3) := by decide +kernel
theorem dX9_load_92 : decode cX9_load 92 = .ok (.invokevirtual 236, 3) := by decide +kernel
theorem dX9_load_95 : decode cX9_load 95 = .ok (.aload_n 0, 1) := by decide +kernel
theorem dX9_load_96 : decode cX9_load 96 = .ok (.getfield 29, 3) := by decide +kernel
theorem dX9_load_99 : decode cX9_load 99 = .ok (.iconst 0, 1) := by decide +kernel
theorem dX9_load_100 : decode cX9_load 100 = .ok (.putfield 209, 3) := by decide +kernel
theorem dX9_load_103 : decode cX9_load 103 = .ok (.aload_n 0, 1) := by decide +kernel
theorem dX9_load_104 : decode cX9_load 104 = .ok (.getfield 10, 3) := by decide +kernel
theorem dX9_load_107 : decode cX9_load 107 = .ok (.getfield 231, 3) := by decide +kernel
theorem dX9_load_110 : decode cX9_load 110 = .ok (.getfield 242, 3) := by decide +kernel
theorem dX9_load_113 : decode cX9_load 113 = .ok (.ireturn, 1) := by decide +kernel
theorem dX9_lot_0 : decode cX9_lot 0 = .ok (.aload_n 0, 1) := by decide +kernel
theorem dX9_lot_1 : decode cX9_lot 1 = .ok (.iload_n 1, 1) := by decide +kernel
theorem dX9_lot_2 : decode cX9_lot 2 = .ok (.invokevirtual 164, 3) := by decide +kernel
theorem dX9_lot_5 : decode cX9_lot 5 = .ok (.iload_n 2, 1) := by decide +kernel
theorem dX9_lot_6 : decode cX9_lot 6 = .ok (.tableswitch 116 0 5 #[38, 53, 68, 83, 98, 107], 38) := by decide +kernel
theorem dX9_lot_44 : decode cX9_lot 44 = .ok (.aload_n 0, 1) := by decide +kernel
theorem dX9_lot_45 : decode cX9_lot 45 = .ok (.getfield 10, 3) := by decide +kernel
theorem dX9_lot_48 : decode cX9_lot 48 = .ok (.getfield 66, 3) := by decide +kernel
theorem dX9_lot_51 : decode cX9_lot 51 = .ok (.getfield 187, 3) := by decide +kernel
theorem dX9_lot_54 : decode cX9_lot 54 = .ok (.iload_n 1, 1) := by decide +kernel
theorem dX9_lot_55 : decode cX9_lot 55 = .ok (.invokevirtual 88, 3) := by decide +kernel
theorem dX9_lot_58 : decode cX9_lot 58 = .ok (.ireturn, 1) := by decide +kernel
theorem dX9_lot_59 : decode cX9_lot 59 = .ok (.aload_n 0, 1) := by decide +kernel
theorem dX9_lot_60 : decode cX9_lot 60 = .ok (.getfield 10, 3) := by decide +kernel
theorem dX9_lot_63 : decode cX9_lot 63 = .ok (.getfield 66, 3) := by decide +kernel
theorem dX9_lot_66 : decode cX9_lot 66 = .ok (.getfield 170, 3) := by decide +kernel
theorem dX9_lot_69 : decode cX9_lot 69 = .ok (.iload_n 1, 1) := by decide +kernel
theorem dX9_lot_70 : decode cX9_lot 70 = .ok (.invokevirtual 88, 3) := by decide +kernel
theorem dX9_lot_73 : decode cX9_lot 73 = .ok (.ireturn, 1) := by decide +kernel
theorem dX9_lot_74 : decode cX9_lot 74 = .ok (.aload_n 0, 1) := by decide +kernel
theorem dX9_lot_75 : decode cX9_lot 75 = .ok (.getfield 10, 3) := by decide +kernel
theorem dX9_lot_78 : decode cX9_lot 78 = .ok (.getfield 66, 3) := by decide +kernel
theorem dX9_lot_81 : decode cX9_lot 81 = .ok (.getfield 167, 3) := by decide +kernel
theorem dX9_lot_84 : decode cX9_lot 84 = .ok (.iload_n 1, 1) := by decide +kernel
theorem dX9_lot_85 : decode cX9_lot 85 = .ok (.invokevirtual 88, 3) := by decide +kernel
theorem dX9_lot_88 : decode cX9_lot 88 = .ok (.ireturn, 1) := by decide +kernel
theorem dX9_lot_89 : decode cX9_lot 89 = .ok (.aload_n 0, 1) := by decide +kernel
theorem dX9_lot_90 : decode cX9_lot 90 = .ok (.getfield 10, 3) := by decide +kernel
theorem dX9_lot_93 : decode cX9_lot 93 = .ok (.getfield 66, 3) := by decide +kernel
theorem dX9_lot_96 : decode cX9_lot 96 = .ok (.getfield 249, 3) := by decide +kernel
theorem dX9_lot_99 : decode cX9_lot 99 = .ok (.iload_n 1, 1) := by decide +kernel
theorem dX9_lot_100 : decode cX9_lot 100 = .ok (.invokevirtual 88, 3) := by decide +kernel
theorem dX9_lot_103 : decode cX9_lot 103 = .ok (.ireturn, 1) := by decide +kernel
theorem dX9_lot_104 : decode cX9_lot 104 = .ok (.aload_n 0, 1) := by decide +kernel
theorem dX9_lot_105 : decode cX9_lot 105 = .ok (.getfield 10, 3) := by decide +kernel
theorem dX9_lot_108 : decode cX9_lot 108 = .ok (.iload_n 1, 1) := by decide +kernel
theorem dX9_lot_109 : decode cX9_lot 109 = .ok (.invokevirtual 252, 3) := by decide +kernel
theorem dX9_lot_112 : decode cX9_lot 112 = .ok (.ireturn, 1) := by decide +kernel
theorem dX9_lot_113 : decode cX9_lot 113 = .ok (.aload_n 0, 1) := by decide +kernel
theorem dX9_lot_114 : decode cX9_lot 114 = .ok (.getfield 10, 3) := by decide +kernel
theorem dX9_lot_117 : decode cX9_lot 117 = .ok (.iload_n 1, 1) := by decide +kernel
theorem dX9_lot_118 : decode cX9_lot 118 = .ok (.invokevirtual 255, 3) := by decide +kernel
theorem dX9_lot_121 : decode cX9_lot 121 = .ok (.ireturn, 1) := by decide +kernel
theorem dX9_lot_122 : decode cX9_lot 122 = .ok (.new 117, 3) := by decide +kernel
theorem dX9_lot_125 : decode cX9_lot 125 = .ok (.dup, 1) := by decide +kernel
theorem dX9_lot_126 : decode cX9_lot 126 = .ok (.ldc_w 258, 3) := by decide +kernel
theorem dX9_lot_129 : decode cX9_lot 129 = .ok (.invokespecial 121, 3) := by decide +kernel
theorem dX9_lot_132 : decode cX9_lot 132 = .ok (.athrow, 1) := by decide +kernel
theorem dX9_store_0 : decode cX9_store 0 = .ok (.iload_n 1, 1) := by decide +kernel
theorem dX9_store_1 : decode cX9_store 1 = .ok (.invokestatic 62, 3) := by decide +kernel
theorem dX9_store_4 : decode cX9_store 4 = .ok (.iload_n 2, 1) := by decide +kernel
theorem dX9_store_5 : decode cX9_store 5 = .ok (.tableswitch 85 0 3 #[31, 46, 58, 70], 31) := by decide +kernel
theorem dX9_store_36 : decode cX9_store 36 = .ok (.aload_n 0, 1) := by decide +kernel
theorem dX9_store_37 : decode cX9_store 37 = .ok (.getfield 10, 3) := by decide +kernel
theorem dX9_store_40 : decode cX9_store 40 = .ok (.getfield 78, 3) := by decide +kernel
theorem dX9_store_43 : decode cX9_store 43 = .ok (.getfield 82, 3) := by decide +kernel
theorem dX9_store_46 : decode cX9_store 46 = .ok (.iload_n 1, 1) := by decide +kernel
theorem dX9_store_47 : decode cX9_store 47 = .ok (.invokevirtual 88, 3) := by decide +kernel
theorem dX9_store_50 : decode cX9_store 50 = .ok (.ireturn, 1) := by decide +kernel
theorem dX9_store_51 : decode cX9_store 51 = .ok (.aload_n 0, 1) := by decide +kernel
theorem dX9_store_52 : decode cX9_store 52 = .ok (.getfield 10, 3) := by decide +kernel
theorem dX9_store_55 : decode cX9_store 55 = .ok (.getfield 66, 3) := by decide +kernel
theorem dX9_store_58 : decode cX9_store 58 = .ok (.iload_n 1, 1) := by decide +kernel
theorem dX9_store_59 : decode cX9_store 59 = .ok (.invokevirtual 70, 3) := by decide +kernel
theorem dX9_store_62 : decode cX9_store 62 = .ok (.ireturn, 1) := by decide +kernel
theorem dX9_store_63 : decode cX9_store 63 = .ok (.aload_n 0, 1) := by decide +kernel
theorem dX9_store_64 : decode cX9_store 64 = .ok (.getfield 10, 3) := by decide +kernel
theorem dX9_store_67 : decode cX9_store 67 = .ok (.getfield 66, 3) := by decide +kernel
theorem dX9_store_70 : decode cX9_store 70 = .ok (.iload_n 1, 1) := by decide +kernel
theorem dX9_store_71 : decode cX9_store 71 = .ok (.invokevirtual 260, 3) := by decide +kernel
theorem dX9_store_74 : decode cX9_store 74 = .ok (.ireturn, 1) := by decide +kernel
theorem dX9_store_75 : decode cX9_store 75 = .ok (.aload_n 0, 1) := by decide +kernel
theorem dX9_store_76 : decode cX9_store 76 = .ok (.getfield 10, 3) := by decide +kernel
theorem dX9_store_79 : decode cX9_store 79 = .ok (.getfield 78, 3) := by decide +kernel
theorem dX9_store_82 : decode cX9_store 82 = .ok (.getfield 106, 3) := by decide +kernel
theorem dX9_store_85 : decode cX9_store 85 = .ok (.iload_n 1, 1) := by decide +kernel
theorem dX9_store_86 : decode cX9_store 86 = .ok (.invokevirtual 88, 3) := by decide +kernel
theorem dX9_store_89 : decode cX9_store 89 = .ok (.ireturn, 1) := by decide +kernel
theorem dX9_store_90 : decode cX9_store 90 = .ok (.new 117, 3) := by decide +kernel
theorem dX9_store_93 : decode cX9_store 93 = .ok (.dup, 1) := by decide +kernel
theorem dX9_store_94 : decode cX9_store 94 = .ok (.ldc_w 263, 3) := by decide +kernel
theorem dX9_store_97 : decode cX9_store 97 = .ok (.invokespecial 121, 3) := by decide +kernel
theorem dX9_store_100 : decode cX9_store 100 = .ok (.athrow, 1) := by decide +kernel
theorem dX9_kind_0 : decode cX9_kind 0 = .ok (.aload_n 0, 1) := by decide +kernel
theorem dX9_kind_1 : decode cX9_kind 1 = .ok (.iload_n 1, 1) := by decide +kernel
theorem dX9_kind_2 : decode cX9_kind 2 = .ok (.invokevirtual 147, 3) := by decide +kernel
theorem dX9_kind_5 : decode cX9_kind 5 = .ok (.iload_n 2, 1) := by decide +kernel
theorem dX9_kind_6 : decode cX9_kind 6 = .ok (.tableswitch 166 0 9 #[54, 54, 54, 67, 82, 97, 112, 127, 139, 154], 54) := by decide +kernel
theorem dX9_kind_60 : decode cX9_kind 60 = .ok (.aload_n 0, 1) := by decide +kernel
theorem dX9_kind_61 : decode cX9_kind 61 = .ok (.getfield 10, 3) := by decide +kernel
theorem dX9_kind_64 : decode cX9_kind 64 = .ok (.getfield 37, 3) := by decide +kernel
theorem dX9_kind_67 : decode cX9_kind 67 = .ok (.iload_n 1, 1) := by decide +kernel
theorem dX9_kind_68 : decode cX9_kind 68 = .ok (.iload_n 2, 1) := by decide +kernel
theorem dX9_kind_69 : decode cX9_kind 69 = .ok (.invokevirtual 265, 3) := by decide +kernel
theorem dX9_kind_72 : decode cX9_kind 72 = .ok (.ireturn, 1) := by decide +kernel
theorem dX9_kind_73 : decode cX9_kind 73 = .ok (.aload_n 0, 1) := by decide +kernel
theorem dX9_kind_74 : decode cX9_kind 74 = .ok (.getfield 10, 3) := by decide +kernel
theorem dX9_kind_77 : decode cX9_kind 77 = .ok (.getfield 37, 3) := by decide +kernel
theorem dX9_kind_80 : decode cX9_kind 80 = .ok (.getfield 268, 3) := by decide +kernel
theorem dX9_kind_83 : decode cX9_kind 83 = .ok (.iload_n 1, 1) := by decide +kernel
theorem dX9_kind_84 : decode cX9_kind 84 = .ok (.invokevirtual 88, 3) := by decide +kernel
theorem dX9_kind_87 : decode cX9_kind 87 = .ok (.ireturn, 1) := by decide +kernel
theorem dX9_kind_88 : decode cX9_kind 88 = .ok (.aload_n 0, 1) := by decide +kernel
theorem dX9_kind_89 : decode cX9_kind 89 = .ok (.getfield 10, 3) := by decide +kernel
theorem dX9_kind_92 : decode cX9_kind 92 = .ok (.getfield 37, 3) := by decide +kernel
theorem dX9_kind_95 : decode cX9_kind 95 = .ok (.getfield 271, 3) := by decide +kernel
theorem dX9_kind_98 : decode cX9_kind 98 = .ok (.iload_n 1, 1) := by decide +kernel
theorem dX9_kind_99 : decode cX9_kind 99 = .ok (.invokevirtual 88, 3) := by decide +kernel
theorem dX9_kind_102 : decode cX9_kind 102 = .ok (.ireturn, 1) := by decide +kernel
theorem dX9_kind_103 : decode cX9_kind 103 = .ok (.aload_n 0, 1) := by decide +kernel
theorem dX9_kind_104 : decode cX9_kind 104 = .ok (.getfield 10, 3) := by decide +kernel
theorem dX9_kind_107 : decode cX9_kind 107 = .ok (.getfield 37, 3) := by decide +kernel
theorem dX9_kind_110 : decode cX9_kind 110 = .ok (.getfield 200, 3) := by decide +kernel
theorem dX9_kind_113 : decode cX9_kind 113 = .ok (.iload_n 1, 1) := by decide +kernel
theorem dX9_kind_114 : decode cX9_kind 114 = .ok (.invokevirtual 88, 3) := by decide +kernel
theorem dX9_kind_117 : decode cX9_kind 117 = .ok (.ireturn, 1) := by decide +kernel
theorem dX9_kind_118 : decode cX9_kind 118 = .ok (.aload_n 0, 1) := by decide +kernel
theorem dX9_kind_119 : decode cX9_kind 119 = .ok (.getfield 10, 3) := by decide +kernel
theorem dX9_kind_122 : decode cX9_kind 122 = .ok (.getfield 37, 3) := by decide +kernel
theorem dX9_kind_125 : decode cX9_kind 125 = .ok (.getfield 184, 3) := by decide +kernel
theorem dX9_kind_128 : decode cX9_kind 128 = .ok (.iload_n 1, 1) := by decide +kernel
theorem dX9_kind_129 : decode cX9_kind 129 = .ok (.invokevirtual 88, 3) := by decide +kernel
theorem dX9_kind_132 : decode cX9_kind 132 = .ok (.ireturn, 1) := by decide +kernel
theorem dX9_kind_133 : decode cX9_kind 133 = .ok (.aload_n 0, 1) := by decide +kernel
theorem dX9_kind_134 : decode cX9_kind 134 = .ok (.getfield 10, 3) := by decide +kernel
theorem dX9_kind_137 : decode cX9_kind 137 = .ok (.getfield 66, 3) := by decide +kernel
theorem dX9_kind_140 : decode cX9_kind 140 = .ok (.iload_n 1, 1) := by decide +kernel
theorem dX9_kind_141 : decode cX9_kind 141 = .ok (.invokevirtual 274, 3) := by decide +kernel
theorem dX9_kind_144 : decode cX9_kind 144 = .ok (.ireturn, 1) := by decide +kernel
theorem dX9_kind_145 : decode cX9_kind 145 = .ok (.aload_n 0, 1) := by decide +kernel
theorem dX9_kind_146 : decode cX9_kind 146 = .ok (.getfield 10, 3) := by decide +kernel
theorem dX9_kind_149 : decode cX9_kind 149 = .ok (.getfield 37, 3) := by decide +kernel
theorem dX9_kind_152 : decode cX9_kind 152 = .ok (.getfield 277, 3) := by decide +kernel
theorem dX9_kind_155 : decode cX9_kind 155 = .ok (.iload_n 1, 1) := by decide +kernel
theorem dX9_kind_156 : decode cX9_kind 156 = .ok (.invokevirtual 88, 3) := by decide +kernel
theorem dX9_kind_159 : decode cX9_kind 159 = .ok (.ireturn, 1) := by decide +kernel
theorem dX9_kind_160 : decode cX9_kind 160 = .ok (.aload_n 0, 1) := by decide +kernel
theorem dX9_kind_161 : decode cX9_kind 161 = .ok (.getfield 10, 3) := by decide +kernel
theorem dX9_kind_164 : decode cX9_kind 164 = .ok (.getfield 66, 3) := by decide +kernel
theorem dX9_kind_167 : decode cX9_kind 167 = .ok (.iload_n 1, 1) := by decide +kernel
theorem dX9_kind_168 : decode cX9_kind 168 = .ok (.invokevirtual 280, 3) := by decide +kernel
theorem dX9_kind_171 : decode cX9_kind 171 = .ok (.ireturn, 1) := by decide +kernel
theorem dX9_kind_172 : decode cX9_kind 172 = .ok (.new 117, 3) := by decide +kernel
theorem dX9_kind_175 : decode cX9_kind 175 = .ok (.dup, 1) := by decide +kernel
theorem dX9_kind_176 : decode cX9_kind 176 = .ok (.ldc_w 283, 3) := by decide +kernel
theorem dX9_kind_179 : decode cX9_kind 179 = .ok (.invokespecial 121, 3) := by decide +kernel
theorem dX9_kind_182 : decode cX9_kind 182 = .ok (.athrow, 1) := by decide +kernel
theorem dX9_menu_0 : decode cX9_menu 0 = .ok (.iload_n 1, 1) := by decide +kernel
theorem dX9_menu_1 : decode cX9_menu 1 = .ok (.iconst 0, 1) := by decide +kernel
theorem dX9_menu_2 : decode cX9_menu 2 = .ok (.aload_n 0, 1) := by decide +kernel
theorem dX9_menu_3 : decode cX9_menu 3 = .ok (.getfield 10, 3) := by decide +kernel
theorem dX9_menu_6 : decode cX9_menu 6 = .ok (.getfield 231, 3) := by decide +kernel
theorem dX9_menu_9 : decode cX9_menu 9 = .ok (.getfield 242, 3) := by decide +kernel
theorem dX9_menu_12 : decode cX9_menu 12 = .ok (.iconst 1, 1) := by decide +kernel
theorem dX9_menu_13 : decode cX9_menu 13 = .ok (.isub, 1) := by decide +kernel
theorem dX9_menu_14 : decode cX9_menu 14 = .ok (.invokestatic 97, 3) := by decide +kernel
theorem dX9_menu_17 : decode cX9_menu 17 = .ok (.ifCond .eq 12, 3) := by decide +kernel
theorem dX9_menu_20 : decode cX9_menu 20 = .ok (.iload_n 2, 1) := by decide +kernel
theorem dX9_menu_21 : decode cX9_menu 21 = .ok (.iconst 0, 1) := by decide +kernel
theorem dX9_menu_22 : decode cX9_menu 22 = .ok (.iconst 3, 1) := by decide +kernel
theorem dX9_menu_23 : decode cX9_menu 23 = .ok (.invokestatic 97, 3) := by decide +kernel
theorem dX9_menu_26 : decode cX9_menu 26 = .ok (.ifCond .ne 14, 3) := by decide +kernel
theorem dX9_menu_29 : decode cX9_menu 29 = .ok (.new 101, 3) := by decide +kernel
theorem dX9_menu_32 : decode cX9_menu 32 = .ok (.dup, 1) := by decide +kernel
theorem dX9_menu_33 : decode cX9_menu 33 = .ok (.ldc_w 288, 3) := by decide +kernel
theorem dX9_menu_36 : decode cX9_menu 36 = .ok (.invokespecial 105, 3) := by decide +kernel
theorem dX9_menu_39 : decode cX9_menu 39 = .ok (.athrow, 1) := by decide +kernel
theorem dX9_menu_40 : decode cX9_menu 40 = .ok (.aload_n 0, 1) := by decide +kernel
theorem dX9_menu_41 : decode cX9_menu 41 = .ok (.getfield 10, 3) := by decide +kernel
theorem dX9_menu_44 : decode cX9_menu 44 = .ok (.getfield 231, 3) := by decide +kernel
theorem dX9_menu_47 : decode cX9_menu 47 = .ok (.iload_n 1, 1) := by decide +kernel
theorem dX9_menu_48 : decode cX9_menu 48 = .ok (.iload_n 2, 1) := by decide +kernel
theorem dX9_menu_49 : decode cX9_menu 49 = .ok (.invokevirtual 290, 3) := by decide +kernel
theorem dX9_menu_52 : decode cX9_menu 52 = .ok (.istore 4, 2) := by decide +kernel
theorem dX9_menu_54 : decode cX9_menu 54 = .ok (.iload_n 3, 1) := by decide +kernel
theorem dX9_menu_55 : decode cX9_menu 55 = .ok (.tableswitch 130 0 2 #[25, 60, 95], 25) := by decide +kernel
theorem dX9_menu_80 : decode cX9_menu 80 = .ok (.aload_n 0, 1) := by decide +kernel
theorem dX9_menu_81 : decode cX9_menu 81 = .ok (.getfield 10, 3) := by decide +kernel
theorem dX9_menu_84 : decode cX9_menu 84 = .ok (.getfield 231, 3) := by decide +kernel
theorem dX9_menu_87 : decode cX9_menu 87 = .ok (.iload 4, 2) := by decide +kernel
theorem dX9_menu_89 : decode cX9_menu 89 = .ok (.invokevirtual 293, 3) := by decide +kernel
theorem dX9_menu_92 : decode cX9_menu 92 = .ok (.ifCond .eq 21, 3) := by decide +kernel
theorem dX9_menu_95 : decode cX9_menu 95 = .ok (.aload_n 0, 1) := by decide +kernel
theorem dX9_menu_96 : decode cX9_menu 96 = .ok (.getfield 10, 3) := by decide +kernel
theorem dX9_menu_99 : decode cX9_menu 99 = .ok (.getfield 231, 3) := by decide +kernel
theorem dX9_menu_102 : decode cX9_menu 102 = .ok (.getfield 297, 3) := by decide +kernel
theorem dX9_menu_105 : decode cX9_menu 105 = .ok (.iload 4, 2) := by decide +kernel
theorem dX9_menu_107 : decode cX9_menu 107 = .ok (.invokevirtual 88, 3) := by decide +kernel
theorem dX9_menu_110 : decode cX9_menu 110 = .ok (.goto 4, 3) := by decide +kernel
theorem dX9_menu_113 : decode cX9_menu 113 = .ok (.iconst (-1), 1) := by decide +kernel
theorem dX9_menu_114 : decode cX9_menu 114 = .ok (.ireturn, 1) := by decide +kernel
theorem dX9_menu_115 : decode cX9_menu 115 = .ok (.aload_n 0, 1) := by decide +kernel
theorem dX9_menu_116 : decode cX9_menu 116 = .ok (.getfield 10, 3) := by decide +kernel
theorem dX9_menu_119 : decode cX9_menu 119 = .ok (.getfield 231, 3) := by decide +kernel
theorem dX9_menu_122 : decode cX9_menu 122 = .ok (.iload 4, 2) := by decide +kernel
theorem dX9_menu_124 : decode cX9_menu 124 = .ok (.invokevirtual 293, 3) := by decide +kernel
theorem dX9_menu_127 : decode cX9_menu 127 = .ok (.ifCond .eq 21, 3) := by decide +kernel
theorem dX9_menu_130 : decode cX9_menu 130 = .ok (.aload_n 0, 1) := by decide +kernel
theorem dX9_menu_131 : decode cX9_menu 131 = .ok (.getfield 10, 3) := by decide +kernel
theorem dX9_menu_134 : decode cX9_menu 134 = .ok (.getfield 231, 3) := by decide +kernel
theorem dX9_menu_137 : decode cX9_menu 137 = .ok (.getfield 298, 3) := by decide +kernel
theorem dX9_menu_140 : decode cX9_menu 140 = .ok (.iload 4, 2) := by decide +kernel
theorem dX9_menu_142 : decode cX9_menu 142 = .ok (.invokevirtual 88, 3) := by decide +kernel
theorem dX9_menu_145 : decode cX9_menu 145 = .ok (.goto 4, 3) := by decide +kernel
theorem dX9_menu_148 : decode cX9_menu 148 = .ok (.iconst (-1), 1) := by decide +kernel
theorem dX9_menu_149 : decode cX9_menu 149 = .ok (.ireturn, 1) := by decide +kernel
theorem dX9_menu_150 : decode cX9_menu 150 = .ok (.aload_n 0, 1) := by decide +kernel
theorem dX9_menu_151 : decode cX9_menu 151 = .ok (.getfield 10, 3) := by decide +kernel
theorem dX9_menu_154 : decode cX9_menu 154 = .ok (.getfield 231, 3) := by decide +kernel
theorem dX9_menu_157 : decode cX9_menu 157 = .ok (.iload 4, 2) := by decide +kernel
theorem dX9_menu_159 : decode cX9_menu 159 = .ok (.invokevirtual 293, 3) := by decide +kernel
theorem dX9_menu_162 : decode cX9_menu 162 = .ok (.ifCond .eq 21, 3) := by decide +kernel
theorem dX9_menu_165 : decode cX9_menu 165 = .ok (.aload_n 0, 1) := by decide +kernel
theorem dX9_menu_166 : decode cX9_menu 166 = .ok (.getfield 10, 3) := by decide +kernel
theorem dX9_menu_169 : decode cX9_menu 169 = .ok (.getfield 231, 3) := by decide +kernel
theorem dX9_menu_172 : decode cX9_menu 172 = .ok (.getfield 299, 3) := by decide +kernel
theorem dX9_menu_175 : decode cX9_menu 175 = .ok (.iload 4, 2) := by decide +kernel
theorem dX9_menu_177 : decode cX9_menu 177 = .ok (.invokevirtual 88, 3) := by decide +kernel
theorem dX9_menu_180 : decode cX9_menu 180 = .ok (.goto 4, 3) := by decide +kernel
theorem dX9_menu_183 : decode cX9_menu 183 = .ok (.iconst (-1), 1) := by decide +kernel
theorem dX9_menu_184 : decode cX9_menu 184 = .ok (.ireturn, 1) := by decide +kernel
theorem dX9_menu_185 : decode cX9_menu 185 = .ok (.new 117, 3) := by decide +kernel
theorem dX9_menu_188 : decode cX9_menu 188 = .ok (.dup, 1) := by decide +kernel
theorem dX9_menu_189 : decode cX9_menu 189 = .ok (.ldc_w 302, 3) := by decide +kernel
theorem dX9_menu_192 : decode cX9_menu 192 = .ok (.invokespecial 121, 3) := by decide +kernel
theorem dX9_menu_195 : decode cX9_menu 195 = .ok (.athrow, 1) := by decide +kernel
theorem dX9_count_0 : decode cX9_count 0 = .ok (.iload_n 1, 1) := by decide +kernel
theorem dX9_count_1 : decode cX9_count 1 = .ok (.tableswitch 206 0 12 #[67, 75, 86, 97, 108, 119, 127, 135, 143, 151, 159, 177, 195], 67) := by decide +kernel
theorem dX9_count_68 : decode cX9_count 68 = .ok (.aload_n 0, 1) := by decide +kernel
theorem dX9_count_69 : decode cX9_count 69 = .ok (.getfield 10, 3) := by decide +kernel
theorem dX9_count_72 : decode cX9_count 72 = .ok (.getfield 304, 3) := by decide +kernel
theorem dX9_count_75 : decode cX9_count 75 = .ok (.ireturn, 1) := by decide +kernel
theorem dX9_count_76 : decode cX9_count 76 = .ok (.aload_n 0, 1) := by decide +kernel
theorem dX9_count_77 : decode cX9_count 77 = .ok (.getfield 10, 3) := by decide +kernel
theorem dX9_count_80 : decode cX9_count 80 = .ok (.getfield 37, 3) := by decide +kernel
theorem dX9_count_83 : decode cX9_count 83 = .ok (.getfield 41, 3) := by decide +kernel
theorem dX9_count_86 : decode cX9_count 86 = .ok (.ireturn, 1) := by decide +kernel
theorem dX9_count_87 : decode cX9_count 87 = .ok (.aload_n 0, 1) := by decide +kernel
theorem dX9_count_88 : decode cX9_count 88 = .ok (.getfield 10, 3) := by decide +kernel
theorem dX9_count_91 : decode cX9_count 91 = .ok (.getfield 66, 3) := by decide +kernel
theorem dX9_count_94 : decode cX9_count 94 = .ok (.getfield 178, 3) := by decide +kernel
theorem dX9_count_97 : decode cX9_count 97 = .ok (.ireturn, 1) := by decide +kernel
theorem dX9_count_98 : decode cX9_count 98 = .ok (.aload_n 0, 1) := by decide +kernel
theorem dX9_count_99 : decode cX9_count 99 = .ok (.getfield 10, 3) := by decide +kernel
theorem dX9_count_102 : decode cX9_count 102 = .ok (.getfield 122, 3) := by decide +kernel
theorem dX9_count_105 : decode cX9_count 105 = .ok (.getfield 126, 3) := by decide +kernel
theorem dX9_count_108 : decode cX9_count 108 = .ok (.ireturn, 1) := by decide +kernel
theorem dX9_count_109 : decode cX9_count 109 = .ok (.aload_n 0, 1) := by decide +kernel
theorem dX9_count_110 : decode cX9_count 110 = .ok (.getfield 10, 3) := by decide +kernel
theorem dX9_count_113 : decode cX9_count 113 = .ok (.getfield 231, 3) := by decide +kernel
theorem dX9_count_116 : decode cX9_count 116 = .ok (.getfield 242, 3) := by decide +kernel
theorem dX9_count_119 : decode cX9_count 119 = .ok (.ireturn, 1) := by decide +kernel
theorem dX9_count_120 : decode cX9_count 120 = .ok (.aload_n 0, 1) := by decide +kernel
theorem dX9_count_121 : decode cX9_count 121 = .ok (.getfield 10, 3) := by decide +kernel
theorem dX9_count_124 : decode cX9_count 124 = .ok (.getfield 109, 3) := by decide +kernel
theorem dX9_count_127 : decode cX9_count 127 = .ok (.ireturn, 1) := by decide +kernel
theorem dX9_count_128 : decode cX9_count 128 = .ok (.aload_n 0, 1) := by decide +kernel
theorem dX9_count_129 : decode cX9_count 129 = .ok (.getfield 10, 3) := by decide +kernel
theorem dX9_count_132 : decode cX9_count 132 = .ok (.getfield 112, 3) := by decide +kernel
theorem dX9_count_135 : decode cX9_count 135 = .ok (.ireturn, 1) := by decide +kernel
theorem dX9_count_136 : decode cX9_count 136 = .ok (.aload_n 0, 1) := by decide +kernel
theorem dX9_count_137 : decode cX9_count 137 = .ok (.getfield 10, 3) := by decide +kernel
theorem dX9_count_140 : decode cX9_count 140 = .ok (.getfield 306, 3) := by decide +kernel
theorem dX9_count_143 : decode cX9_count 143 = .ok (.ireturn, 1) := by decide +kernel
theorem dX9_count_144 : decode cX9_count 144 = .ok (.aload_n 0, 1) := by decide +kernel
theorem dX9_count_145 : decode cX9_count 145 = .ok (.getfield 10, 3) := by decide +kernel
theorem dX9_count_148 : decode cX9_count 148 = .ok (.getfield 309, 3) := by decide +kernel
theorem dX9_count_151 : decode cX9_count 151 = .ok (.ireturn, 1) := by decide +kernel
theorem dX9_count_152 : decode cX9_count 152 = .ok (.aload_n 0, 1) := by decide +kernel
theorem dX9_count_153 : decode cX9_count 153 = .ok (.getfield 22, 3) := by decide +kernel
theorem dX9_count_156 : decode cX9_count 156 = .ok (.getfield 243, 3) := by decide +kernel
theorem dX9_count_159 : decode cX9_count 159 = .ok (.ireturn, 1) := by decide +kernel
theorem dX9_count_160 : decode cX9_count 160 = .ok (.aload_n 0, 1) := by decide +kernel
theorem dX9_count_161 : decode cX9_count 161 = .ok (.getfield 10, 3) := by decide +kernel
theorem dX9_count_164 : decode cX9_count 164 = .ok (.getfield 122, 3) := by decide +kernel
theorem dX9_count_167 : decode cX9_count 167 = .ok (.aload_n 0, 1) := by decide +kernel
theorem dX9_count_168 : decode cX9_count 168 = .ok (.getfield 10, 3) := by decide +kernel
theorem dX9_count_171 : decode cX9_count 171 = .ok (.getfield 304, 3) := by decide +kernel
theorem dX9_count_174 : decode cX9_count 174 = .ok (.invokevirtual 129, 3) := by decide +kernel
theorem dX9_count_177 : decode cX9_count 177 = .ok (.ireturn, 1) := by decide +kernel
theorem dX9_count_178 : decode cX9_count 178 = .ok (.aload_n 0, 1) := by decide +kernel
theorem dX9_count_179 : decode cX9_count 179 = .ok (.getfield 10, 3) := by decide +kernel
theorem dX9_count_182 : decode cX9_count 182 = .ok (.getfield 122, 3) := by decide +kernel
theorem dX9_count_185 : decode cX9_count 185 = .ok (.aload_n 0, 1) := by decide +kernel
theorem dX9_count_186 : decode cX9_count 186 = .ok (.getfield 10, 3) := by decide +kernel
theorem dX9_count_189 : decode cX9_count 189 = .ok (.getfield 304, 3) := by decide +kernel
theorem dX9_count_192 : decode cX9_count 192 = .ok (.invokevirtual 312, 3) := by decide +kernel
theorem dX9_count_195 : decode cX9_count 195 = .ok (.ireturn, 1) := by decide +kernel
theorem dX9_count_196 : decode cX9_count 196 = .ok (.aload_n 0, 1) := by decide +kernel
theorem dX9_count_197 : decode cX9_count 197 = .ok (.getfield 10, 3) := by decide +kernel
theorem dX9_count_200 : decode cX9_count 200 = .ok (.getfield 66, 3) := by decide +kernel
theorem dX9_count_203 : decode cX9_count 203 = .ok (.invokevirtual 196, 3) := by decide +kernel
theorem dX9_count_206 : decode cX9_count 206 = .ok (.ireturn, 1) := by decide +kernel
theorem dX9_count_207 : decode cX9_count 207 = .ok (.new 117, 3) := by decide +kernel
theorem dX9_count_210 : decode cX9_count 210 = .ok (.dup, 1) := by decide +kernel
theorem dX9_count_211 : decode cX9_count 211 = .ok (.ldc_w 315, 3) := by decide +kernel
theorem dX9_count_214 : decode cX9_count 214 = .ok (.invokespecial 121, 3) := by decide +kernel
theorem dX9_count_217 : decode cX9_count 217 = .ok (.athrow, 1) := by decide +kernel
theorem dX9_why_0 : decode cX9_why 0 = .ok (.aload_n 0, 1) := by decide +kernel
theorem dX9_why_1 : decode cX9_why 1 = .ok (.iload_n 1, 1) := by decide +kernel
theorem dX9_why_2 : decode cX9_why 2 = .ok (.invokevirtual 147, 3) := by decide +kernel
theorem dX9_why_5 : decode cX9_why 5 = .ok (.iload_n 3, 1) := by decide +kernel
theorem dX9_why_6 : decode cX9_why 6 = .ok (.invokestatic 62, 3) := by decide +kernel
theorem dX9_why_9 : decode cX9_why 9 = .ok (.iload_n 2, 1) := by decide +kernel
theorem dX9_why_10 : decode cX9_why 10 = .ok (.iconst 1, 1) := by decide +kernel
theorem dX9_why_11 : decode cX9_why 11 = .ok (.sipush 2000, 3) := by decide +kernel
theorem dX9_why_14 : decode cX9_why 14 = .ok (.invokestatic 33, 3) := by decide +kernel
theorem dX9_why_17 : decode cX9_why 17 = .ok (.aload_n 0, 1) := by decide +kernel
theorem dX9_why_18 : decode cX9_why 18 = .ok (.getfield 10, 3) := by decide +kernel
theorem dX9_why_21 : decode cX9_why 21 = .ok (.iload_n 1, 1) := by decide +kernel
theorem dX9_why_22 : decode cX9_why 22 = .ok (.iload_n 2, 1) := by decide +kernel
theorem dX9_why_23 : decode cX9_why 23 = .ok (.iload_n 3, 1) := by decide +kernel
theorem dX9_why_24 : decode cX9_why 24 = .ok (.invokevirtual 156, 3) := by decide +kernel
theorem dX9_why_27 : decode cX9_why 27 = .ok (.ireturn, 1) := by decide +kernel
theorem dX9_meanAge_0 : decode cX9_meanAge 0 = .ok (.aload_n 0, 1) := by decide +kernel
theorem dX9_meanAge_1 : decode cX9_meanAge 1 = .ok (.getfield 10, 3) := by decide +kernel
theorem dX9_meanAge_4 : decode cX9_meanAge 4 = .ok (.getfield 66, 3) := by decide +kernel
theorem dX9_meanAge_7 : decode cX9_meanAge 7 = .ok (.invokevirtual 196, 3) := by decide +kernel
theorem dX9_meanAge_10 : decode cX9_meanAge 10 = .ok (.istore_n 1, 1) := by decide +kernel
theorem dX9_meanAge_11 : decode cX9_meanAge 11 = .ok (.iload_n 1, 1) := by decide +kernel
theorem dX9_meanAge_12 : decode cX9_meanAge 12 = .ok (.iconst 1, 1) := by decide +kernel
theorem dX9_meanAge_13 : decode cX9_meanAge 13 = .ok (.if_icmp .ge 7, 3) := by decide +kernel
theorem dX9_meanAge_16 : decode cX9_meanAge 16 = .ok (.dconst 0, 1) := by decide +kernel
theorem dX9_meanAge_17 : decode cX9_meanAge 17 = .ok (.goto 17, 3) := by decide +kernel
theorem dX9_meanAge_20 : decode cX9_meanAge 20 = .ok (.aload_n 0, 1) := by decide +kernel
theorem dX9_meanAge_21 : decode cX9_meanAge 21 = .ok (.getfield 10, 3) := by decide +kernel
theorem dX9_meanAge_24 : decode cX9_meanAge 24 = .ok (.getfield 66, 3) := by decide +kernel
theorem dX9_meanAge_27 : decode cX9_meanAge 27 = .ok (.invokevirtual 334, 3) := by decide +kernel
theorem dX9_meanAge_30 : decode cX9_meanAge 30 = .ok (.l2d, 1) := by decide +kernel
theorem dX9_meanAge_31 : decode cX9_meanAge 31 = .ok (.iload_n 1, 1) := by decide +kernel
theorem dX9_meanAge_32 : decode cX9_meanAge 32 = .ok (.i2d, 1) := by decide +kernel
theorem dX9_meanAge_33 : decode cX9_meanAge 33 = .ok (.ddiv, 1) := by decide +kernel
theorem dX9_meanAge_34 : decode cX9_meanAge 34 = .ok (.dreturn, 1) := by decide +kernel
theorem dX9_isWithin_0 : decode cX9_isWithin 0 = .ok (.iload_n 0, 1) := by decide +kernel
theorem dX9_isWithin_1 : decode cX9_isWithin 1 = .ok (.iload_n 1, 1) := by decide +kernel
theorem dX9_isWithin_2 : decode cX9_isWithin 2 = .ok (.if_icmp .lt 12, 3) := by decide +kernel
theorem dX9_isWithin_5 : decode cX9_isWithin 5 = .ok (.iload_n 0, 1) := by decide +kernel
theorem dX9_isWithin_6 : decode cX9_isWithin 6 = .ok (.iload_n 2, 1) := by decide +kernel
theorem dX9_isWithin_7 : decode cX9_isWithin 7 = .ok (.if_icmp .gt 7, 3) := by decide +kernel
theorem dX9_isWithin_10 : decode cX9_isWithin 10 = .ok (.iconst 1, 1) := by decide +kernel
theorem dX9_isWithin_11 : decode cX9_isWithin 11 = .ok (.goto 4, 3) := by decide +kernel
theorem dX9_isWithin_14 : decode cX9_isWithin 14 = .ok (.iconst 0, 1) := by decide +kernel
theorem dX9_isWithin_15 : decode cX9_isWithin 15 = .ok (.ireturn, 1) := by decide +kernel
theorem dX9_requireWithin_0 : decode cX9_requireWithin 0 = .ok (.iload_n 0, 1) := by decide +kernel
theorem dX9_requireWithin_1 : decode cX9_requireWithin 1 = .ok (.iload_n 1, 1) := by decide +kernel
theorem dX9_requireWithin_2 : decode cX9_requireWithin 2 = .ok (.iload_n 2, 1) := by decide +kernel
theorem dX9_requireWithin_3 : decode cX9_requireWithin 3 = .ok (.invokestatic 97, 3) := by decide +kernel
theorem dX9_requireWithin_6 : decode cX9_requireWithin 6 = .ok (.ifCond .ne 14, 3) := by decide +kernel
theorem dX9_requireWithin_9 : decode cX9_requireWithin 9 = .ok (.new 117, 3) := by decide +kernel
theorem dX9_requireWithin_12 : decode cX9_requireWithin 12 = .ok (.dup, 1) := by decide +kernel
theorem dX9_requireWithin_13 : decode cX9_requireWithin 13 = .ok (.ldc_w 377, 3) := by decide +kernel
theorem dX9_requireWithin_16 : decode cX9_requireWithin 16 = .ok (.invokespecial 121, 3) := by decide +kernel
theorem dX9_requireWithin_19 : decode cX9_requireWithin 19 = .ok (.athrow, 1) := by decide +kernel
theorem dX9_requireWithin_20 : decode cX9_requireWithin 20 = .ok (.return_, 1) := by decide +kernel
theorem dX9_requireStore_0 : decode cX9_requireStore 0 = .ok (.iload_n 0, 1) := by decide +kernel
theorem dX9_requireStore_1 : decode cX9_requireStore 1 = .ok (.iconst 0, 1) := by decide +kernel
theorem dX9_requireStore_2 : decode cX9_requireStore 2 = .ok (.iconst 2, 1) := by decide +kernel
theorem dX9_requireStore_3 : decode cX9_requireStore 3 = .ok (.invokestatic 97, 3) := by decide +kernel
theorem dX9_requireStore_6 : decode cX9_requireStore 6 = .ok (.ifCond .ne 14, 3) := by decide +kernel
theorem dX9_requireStore_9 : decode cX9_requireStore 9 = .ok (.new 101, 3) := by decide +kernel
theorem dX9_requireStore_12 : decode cX9_requireStore 12 = .ok (.dup, 1) := by decide +kernel
theorem dX9_requireStore_13 : decode cX9_requireStore 13 = .ok (.ldc_w 379, 3) := by decide +kernel
theorem dX9_requireStore_16 : decode cX9_requireStore 16 = .ok (.invokespecial 105, 3) := by decide +kernel
theorem dX9_requireStore_19 : decode cX9_requireStore 19 = .ok (.athrow, 1) := by decide +kernel
theorem dX9_requireStore_20 : decode cX9_requireStore 20 = .ok (.return_, 1) := by decide +kernel
theorem dX9_requireKind_0 : decode cX9_requireKind 0 = .ok (.iload_n 1, 1) := by decide +kernel
theorem dX9_requireKind_1 : decode cX9_requireKind 1 = .ok (.iconst 0, 1) := by decide +kernel
theorem dX9_requireKind_2 : decode cX9_requireKind 2 = .ok (.aload_n 0, 1) := by decide +kernel
theorem dX9_requireKind_3 : decode cX9_requireKind 3 = .ok (.getfield 10, 3) := by decide +kernel
theorem dX9_requireKind_6 : decode cX9_requireKind 6 = .ok (.getfield 37, 3) := by decide +kernel
theorem dX9_requireKind_9 : decode cX9_requireKind 9 = .ok (.getfield 41, 3) := by decide +kernel
theorem dX9_requireKind_12 : decode cX9_requireKind 12 = .ok (.iconst 1, 1) := by decide +kernel
theorem dX9_requireKind_13 : decode cX9_requireKind 13 = .ok (.isub, 1) := by decide +kernel
theorem dX9_requireKind_14 : decode cX9_requireKind 14 = .ok (.invokestatic 97, 3) := by decide +kernel
theorem dX9_requireKind_17 : decode cX9_requireKind 17 = .ok (.ifCond .ne 14, 3) := by decide +kernel
theorem dX9_requireKind_20 : decode cX9_requireKind 20 = .ok (.new 101, 3) := by decide +kernel
theorem dX9_requireKind_23 : decode cX9_requireKind 23 = .ok (.dup, 1) := by decide +kernel
theorem dX9_requireKind_24 : decode cX9_requireKind 24 = .ok (.ldc_w 381, 3) := by decide +kernel
theorem dX9_requireKind_27 : decode cX9_requireKind 27 = .ok (.invokespecial 105, 3) := by decide +kernel
theorem dX9_requireKind_30 : decode cX9_requireKind 30 = .ok (.athrow, 1) := by decide +kernel
theorem dX9_requireKind_31 : decode cX9_requireKind 31 = .ok (.return_, 1) := by decide +kernel
theorem dX9_requireLot_0 : decode cX9_requireLot 0 = .ok (.iload_n 1, 1) := by decide +kernel
theorem dX9_requireLot_1 : decode cX9_requireLot 1 = .ok (.iconst 0, 1) := by decide +kernel
theorem dX9_requireLot_2 : decode cX9_requireLot 2 = .ok (.aload_n 0, 1) := by decide +kernel
theorem dX9_requireLot_3 : decode cX9_requireLot 3 = .ok (.getfield 10, 3) := by decide +kernel
theorem dX9_requireLot_6 : decode cX9_requireLot 6 = .ok (.getfield 66, 3) := by decide +kernel
theorem dX9_requireLot_9 : decode cX9_requireLot 9 = .ok (.getfield 178, 3) := by decide +kernel
theorem dX9_requireLot_12 : decode cX9_requireLot 12 = .ok (.iconst 1, 1) := by decide +kernel
theorem dX9_requireLot_13 : decode cX9_requireLot 13 = .ok (.isub, 1) := by decide +kernel
theorem dX9_requireLot_14 : decode cX9_requireLot 14 = .ok (.invokestatic 97, 3) := by decide +kernel
theorem dX9_requireLot_17 : decode cX9_requireLot 17 = .ok (.ifCond .ne 14, 3) := by decide +kernel
theorem dX9_requireLot_20 : decode cX9_requireLot 20 = .ok (.new 101, 3) := by decide +kernel
theorem dX9_requireLot_23 : decode cX9_requireLot 23 = .ok (.dup, 1) := by decide +kernel
theorem dX9_requireLot_24 : decode cX9_requireLot 24 = .ok (.ldc_w 383, 3) := by decide +kernel
theorem dX9_requireLot_27 : decode cX9_requireLot 27 = .ok (.invokespecial 105, 3) := by decide +kernel
theorem dX9_requireLot_30 : decode cX9_requireLot 30 = .ok (.athrow, 1) := by decide +kernel
theorem dX9_requireLot_31 : decode cX9_requireLot 31 = .ok (.return_, 1) := by decide +kernel
theorem dX9_requirePort_0 : decode cX9_requirePort 0 = .ok (.iload_n 1, 1) := by decide +kernel
theorem dX9_requirePort_1 : decode cX9_requirePort 1 = .ok (.iconst 0, 1) := by decide +kernel
theorem dX9_requirePort_2 : decode cX9_requirePort 2 = .ok (.aload_n 0, 1) := by decide +kernel
theorem dX9_requirePort_3 : decode cX9_requirePort 3 = .ok (.getfield 10, 3) := by decide +kernel
theorem dX9_requirePort_6 : decode cX9_requirePort 6 = .ok (.getfield 122, 3) := by decide +kernel
theorem dX9_requirePort_9 : decode cX9_requirePort 9 = .ok (.getfield 126, 3) := by decide +kernel
theorem dX9_requirePort_12 : decode cX9_requirePort 12 = .ok (.iconst 1, 1) := by decide +kernel
theorem dX9_requirePort_13 : decode cX9_requirePort 13 = .ok (.isub, 1) := by decide +kernel
theorem dX9_requirePort_14 : decode cX9_requirePort 14 = .ok (.invokestatic 97, 3) := by decide +kernel
theorem dX9_requirePort_17 : decode cX9_requirePort 17 = .ok (.ifCond .ne 14, 3) := by decide +kernel
theorem dX9_requirePort_20 : decode cX9_requirePort 20 = .ok (.new 101, 3) := by decide +kernel
theorem dX9_requirePort_23 : decode cX9_requirePort 23 = .ok (.dup, 1) := by decide +kernel
theorem dX9_requirePort_24 : decode cX9_requirePort 24 = .ok (.ldc_w 385, 3) := by decide +kernel
theorem dX9_requirePort_27 : decode cX9_requirePort 27 = .ok (.invokespecial 105, 3) := by decide +kernel
theorem dX9_requirePort_30 : decode cX9_requirePort 30 = .ok (.athrow, 1) := by decide +kernel
theorem dX9_requirePort_31 : decode cX9_requirePort 31 = .ok (.return_, 1) := by decide +kernel
theorem dJ9_floorMod_7cf53_0 : decode cJ9_floorMod_7cf53 0 = .ok (.iload_n 0, 1) := by decide +kernel
theorem dJ9_floorMod_7cf53_1 : decode cJ9_floorMod_7cf53 1 = .ok (.iload_n 1, 1) := by decide +kernel
theorem dJ9_floorMod_7cf53_2 : decode cJ9_floorMod_7cf53 2 = .ok (.irem, 1) := by decide +kernel
theorem dJ9_floorMod_7cf53_3 : decode cJ9_floorMod_7cf53 3 = .ok (.istore_n 2, 1) := by decide +kernel
theorem dJ9_floorMod_7cf53_4 : decode cJ9_floorMod_7cf53 4 = .ok (.iload_n 0, 1) := by decide +kernel
theorem dJ9_floorMod_7cf53_5 : decode cJ9_floorMod_7cf53 5 = .ok (.iload_n 1, 1) := by decide +kernel
theorem dJ9_floorMod_7cf53_6 : decode cJ9_floorMod_7cf53 6 = .ok (.ixor, 1) := by decide +kernel
theorem dJ9_floorMod_7cf53_7 : decode cJ9_floorMod_7cf53 7 = .ok (.ifCond .ge 11, 3) := by decide +kernel
theorem dJ9_floorMod_7cf53_10 : decode cJ9_floorMod_7cf53 10 = .ok (.iload_n 2, 1) := by decide +kernel
theorem dJ9_floorMod_7cf53_11 : decode cJ9_floorMod_7cf53 11 = .ok (.ifCond .eq 7, 3) := by decide +kernel
theorem dJ9_floorMod_7cf53_14 : decode cJ9_floorMod_7cf53 14 = .ok (.iload_n 2, 1) := by decide +kernel
theorem dJ9_floorMod_7cf53_15 : decode cJ9_floorMod_7cf53 15 = .ok (.iload_n 1, 1) := by decide +kernel
theorem dJ9_floorMod_7cf53_16 : decode cJ9_floorMod_7cf53 16 = .ok (.iadd, 1) := by decide +kernel
theorem dJ9_floorMod_7cf53_17 : decode cJ9_floorMod_7cf53 17 = .ok (.ireturn, 1) := by decide +kernel
theorem dJ9_floorMod_7cf53_18 : decode cJ9_floorMod_7cf53 18 = .ok (.iload_n 2, 1) := by decide +kernel
theorem dJ9_floorMod_7cf53_19 : decode cJ9_floorMod_7cf53 19 = .ok (.ireturn, 1) := by decide +kernel
theorem dJ9_max_7cf53_0 : decode cJ9_max_7cf53 0 = .ok (.iload_n 0, 1) := by decide +kernel
theorem dJ9_max_7cf53_1 : decode cJ9_max_7cf53 1 = .ok (.iload_n 1, 1) := by decide +kernel
theorem dJ9_max_7cf53_2 : decode cJ9_max_7cf53 2 = .ok (.if_icmp .lt 7, 3) := by decide +kernel
theorem dJ9_max_7cf53_5 : decode cJ9_max_7cf53 5 = .ok (.iload_n 0, 1) := by decide +kernel
theorem dJ9_max_7cf53_6 : decode cJ9_max_7cf53 6 = .ok (.goto 4, 3) := by decide +kernel
theorem dJ9_max_7cf53_9 : decode cJ9_max_7cf53 9 = .ok (.iload_n 1, 1) := by decide +kernel
theorem dJ9_max_7cf53_10 : decode cJ9_max_7cf53 10 = .ok (.ireturn, 1) := by decide +kernel
theorem dJ9_min_7cf53_0 : decode cJ9_min_7cf53 0 = .ok (.iload_n 0, 1) := by decide +kernel
theorem dJ9_min_7cf53_1 : decode cJ9_min_7cf53 1 = .ok (.iload_n 1, 1) := by decide +kernel
theorem dJ9_min_7cf53_2 : decode cJ9_min_7cf53 2 = .ok (.if_icmp .gt 7, 3) := by decide +kernel
theorem dJ9_min_7cf53_5 : decode cJ9_min_7cf53 5 = .ok (.iload_n 0, 1) := by decide +kernel
theorem dJ9_min_7cf53_6 : decode cJ9_min_7cf53 6 = .ok (.goto 4, 3) := by decide +kernel
theorem dJ9_min_7cf53_9 : decode cJ9_min_7cf53 9 = .ok (.iload_n 1, 1) := by decide +kernel
theorem dJ9_min_7cf53_10 : decode cJ9_min_7cf53 10 = .ok (.ireturn, 1) := by decide +kernel
