theorem d_S_init_0 : decode c_S_init 0 = .ok (.aload_n 0, 1) := by decide +kernel
theorem d_S_init_1 : decode c_S_init 1 = .ok (.invokespecial 3, 3) := by decide +kernel
theorem d_S_init_4 : decode c_S_init 4 = .ok (.aload_n 0, 1) := by decide +kernel
theorem d_S_init_5 : decode c_S_init 5 = .ok (.iconst 5, 1) := by decide +kernel
theorem d_S_init_6 : decode c_S_init 6 = .ok (.sipush 705, 3) := by decide +kernel
theorem d_S_init_9 : decode c_S_init 9 = .ok (.multianewarray 9 2, 4) := by decide +kernel
theorem d_S_init_13 : decode c_S_init 13 = .ok (.putfield 11, 3) := by decide +kernel
theorem d_S_init_16 : decode c_S_init 16 = .ok (.aload_n 0, 1) := by decide +kernel
theorem d_S_init_17 : decode c_S_init 17 = .ok (.iconst 5, 1) := by decide +kernel
theorem d_S_init_18 : decode c_S_init 18 = .ok (.newarray .int, 2) := by decide +kernel
theorem d_S_init_20 : decode c_S_init 20 = .ok (.putfield 16, 3) := by decide +kernel
theorem d_S_init_23 : decode c_S_init 23 = .ok (.aload_n 0, 1) := by decide +kernel
theorem d_S_init_24 : decode c_S_init 24 = .ok (.sipush 705, 3) := by decide +kernel
theorem d_S_init_27 : decode c_S_init 27 = .ok (.newarray .long, 2) := by decide +kernel
theorem d_S_init_29 : decode c_S_init 29 = .ok (.putfield 20, 3) := by decide +kernel
theorem d_S_init_32 : decode c_S_init 32 = .ok (.aload_n 0, 1) := by decide +kernel
theorem d_S_init_33 : decode c_S_init 33 = .ok (.sipush 705, 3) := by decide +kernel
theorem d_S_init_36 : decode c_S_init 36 = .ok (.newarray .long, 2) := by decide +kernel
theorem d_S_init_38 : decode c_S_init 38 = .ok (.putfield 24, 3) := by decide +kernel
theorem d_S_init_41 : decode c_S_init 41 = .ok (.return_, 1) := by decide +kernel
theorem d_S_reach_0 : decode c_S_reach 0 = .ok (.aload_n 0, 1) := by decide +kernel
theorem d_S_reach_1 : decode c_S_reach 1 = .ok (.getfield 16, 3) := by decide +kernel
theorem d_S_reach_4 : decode c_S_reach 4 = .ok (.iload_n 1, 1) := by decide +kernel
theorem d_S_reach_5 : decode c_S_reach 5 = .ok (.iaload, 1) := by decide +kernel
theorem d_S_reach_6 : decode c_S_reach 6 = .ok (.istore_n 3, 1) := by decide +kernel
theorem d_S_reach_7 : decode c_S_reach 7 = .ok (.iload_n 3, 1) := by decide +kernel
theorem d_S_reach_8 : decode c_S_reach 8 = .ok (.iload_n 2, 1) := by decide +kernel
theorem d_S_reach_9 : decode c_S_reach 9 = .ok (.if_icmp .ge 40, 3) := by decide +kernel
theorem d_S_reach_12 : decode c_S_reach 12 = .ok (.aload_n 0, 1) := by decide +kernel
theorem d_S_reach_13 : decode c_S_reach 13 = .ok (.sipush 704, 3) := by decide +kernel
theorem d_S_reach_16 : decode c_S_reach 16 = .ok (.iload_n 2, 1) := by decide +kernel
theorem d_S_reach_17 : decode c_S_reach 17 = .ok (.iload_n 3, 1) := by decide +kernel
theorem d_S_reach_18 : decode c_S_reach 18 = .ok (.iload_n 3, 1) := by decide +kernel
theorem d_S_reach_19 : decode c_S_reach 19 = .ok (.iconst 2, 1) := by decide +kernel
theorem d_S_reach_20 : decode c_S_reach 20 = .ok (.idiv, 1) := by decide +kernel
theorem d_S_reach_21 : decode c_S_reach 21 = .ok (.iadd, 1) := by decide +kernel
theorem d_S_reach_22 : decode c_S_reach 22 = .ok (.invokestatic 27, 3) := by decide +kernel
theorem d_S_reach_25 : decode c_S_reach 25 = .ok (.invokestatic 33, 3) := by decide +kernel
theorem d_S_reach_28 : decode c_S_reach 28 = .ok (.putfield 36, 3) := by decide +kernel
theorem d_S_reach_31 : decode c_S_reach 31 = .ok (.aload_n 0, 1) := by decide +kernel
theorem d_S_reach_32 : decode c_S_reach 32 = .ok (.getfield 24, 3) := by decide +kernel
theorem d_S_reach_35 : decode c_S_reach 35 = .ok (.lconst 0, 1) := by decide +kernel
theorem d_S_reach_36 : decode c_S_reach 36 = .ok (.invokestatic 40, 3) := by decide +kernel
theorem d_S_reach_39 : decode c_S_reach 39 = .ok (.aload_n 0, 1) := by decide +kernel
theorem d_S_reach_40 : decode c_S_reach 40 = .ok (.iload_n 1, 1) := by decide +kernel
theorem d_S_reach_41 : decode c_S_reach 41 = .ok (.invokevirtual 46, 3) := by decide +kernel
theorem d_S_reach_44 : decode c_S_reach 44 = .ok (.aload_n 0, 1) := by decide +kernel
theorem d_S_reach_45 : decode c_S_reach 45 = .ok (.iload_n 1, 1) := by decide +kernel
theorem d_S_reach_46 : decode c_S_reach 46 = .ok (.invokevirtual 50, 3) := by decide +kernel
theorem d_S_reach_49 : decode c_S_reach 49 = .ok (.aload_n 0, 1) := by decide +kernel
theorem d_S_reach_50 : decode c_S_reach 50 = .ok (.getfield 16, 3) := by decide +kernel
theorem d_S_reach_53 : decode c_S_reach 53 = .ok (.iload_n 1, 1) := by decide +kernel
theorem d_S_reach_54 : decode c_S_reach 54 = .ok (.iaload, 1) := by decide +kernel
theorem d_S_reach_55 : decode c_S_reach 55 = .ok (.ireturn, 1) := by decide +kernel
theorem d_S_sumUp_0 : decode c_S_sumUp 0 = .ok (.iload_n 1, 1) := by decide +kernel
theorem d_S_sumUp_1 : decode c_S_sumUp 1 = .ok (.tableswitch 63 0 4 #[35, 42, 63, 49, 56], 35) := by decide +kernel
theorem d_S_sumUp_36 : decode c_S_sumUp 36 = .ok (.aload_n 0, 1) := by decide +kernel
theorem d_S_sumUp_37 : decode c_S_sumUp 37 = .ok (.invokevirtual 53, 3) := by decide +kernel
theorem d_S_sumUp_40 : decode c_S_sumUp 40 = .ok (.goto 24, 3) := by decide +kernel
theorem d_S_sumUp_43 : decode c_S_sumUp 43 = .ok (.aload_n 0, 1) := by decide +kernel
theorem d_S_sumUp_44 : decode c_S_sumUp 44 = .ok (.invokevirtual 56, 3) := by decide +kernel
theorem d_S_sumUp_47 : decode c_S_sumUp 47 = .ok (.goto 17, 3) := by decide +kernel
theorem d_S_sumUp_50 : decode c_S_sumUp 50 = .ok (.aload_n 0, 1) := by decide +kernel
theorem d_S_sumUp_51 : decode c_S_sumUp 51 = .ok (.invokevirtual 59, 3) := by decide +kernel
theorem d_S_sumUp_54 : decode c_S_sumUp 54 = .ok (.goto 10, 3) := by decide +kernel
theorem d_S_sumUp_57 : decode c_S_sumUp 57 = .ok (.aload_n 0, 1) := by decide +kernel
theorem d_S_sumUp_58 : decode c_S_sumUp 58 = .ok (.invokevirtual 62, 3) := by decide +kernel
theorem d_S_sumUp_61 : decode c_S_sumUp 61 = .ok (.goto 3, 3) := by decide +kernel
theorem d_S_sumUp_64 : decode c_S_sumUp 64 = .ok (.return_, 1) := by decide +kernel
theorem d_S_sumPi_0 : decode c_S_sumPi 0 = .ok (.aload_n 0, 1) := by decide +kernel
theorem d_S_sumPi_1 : decode c_S_sumPi 1 = .ok (.bipush 26, 2) := by decide +kernel
theorem d_S_sumPi_3 : decode c_S_sumPi 3 = .ok (.bipush 47, 2) := by decide +kernel
theorem d_S_sumPi_5 : decode c_S_sumPi 5 = .ok (.invokevirtual 65, 3) := by decide +kernel
theorem d_S_sumPi_8 : decode c_S_sumPi 8 = .ok (.aload_n 0, 1) := by decide +kernel
theorem d_S_sumPi_9 : decode c_S_sumPi 9 = .ok (.bipush 40, 2) := by decide +kernel
theorem d_S_sumPi_11 : decode c_S_sumPi 11 = .ok (.bipush 13, 2) := by decide +kernel
theorem d_S_sumPi_13 : decode c_S_sumPi 13 = .ok (.iconst 0, 1) := by decide +kernel
theorem d_S_sumPi_14 : decode c_S_sumPi 14 = .ok (.invokevirtual 69, 3) := by decide +kernel
theorem d_S_sumPi_17 : decode c_S_sumPi 17 = .ok (.aload_n 0, 1) := by decide +kernel
theorem d_S_sumPi_18 : decode c_S_sumPi 18 = .ok (.invokevirtual 73, 3) := by decide +kernel
theorem d_S_sumPi_21 : decode c_S_sumPi 21 = .ok (.aload_n 0, 1) := by decide +kernel
theorem d_S_sumPi_22 : decode c_S_sumPi 22 = .ok (.ldc 76, 2) := by decide +kernel
theorem d_S_sumPi_24 : decode c_S_sumPi 24 = .ok (.sipush 158, 3) := by decide +kernel
theorem d_S_sumPi_27 : decode c_S_sumPi 27 = .ok (.invokevirtual 65, 3) := by decide +kernel
theorem d_S_sumPi_30 : decode c_S_sumPi 30 = .ok (.aload_n 0, 1) := by decide +kernel
theorem d_S_sumPi_31 : decode c_S_sumPi 31 = .ok (.sipush (-478), 3) := by decide +kernel
theorem d_S_sumPi_34 : decode c_S_sumPi 34 = .ok (.sipush 28561, 3) := by decide +kernel
theorem d_S_sumPi_37 : decode c_S_sumPi 37 = .ok (.iconst 0, 1) := by decide +kernel
theorem d_S_sumPi_38 : decode c_S_sumPi 38 = .ok (.invokevirtual 69, 3) := by decide +kernel
theorem d_S_sumPi_41 : decode c_S_sumPi 41 = .ok (.aload_n 0, 1) := by decide +kernel
theorem d_S_sumPi_42 : decode c_S_sumPi 42 = .ok (.invokevirtual 73, 3) := by decide +kernel
theorem d_S_sumPi_45 : decode c_S_sumPi 45 = .ok (.return_, 1) := by decide +kernel
theorem d_S_foldArctan_0 : decode c_S_foldArctan 0 = .ok (.aload_n 0, 1) := by decide +kernel
theorem d_S_foldArctan_1 : decode c_S_foldArctan 1 = .ok (.invokevirtual 77, 3) := by decide +kernel
theorem d_S_foldArctan_4 : decode c_S_foldArctan 4 = .ok (.aload_n 0, 1) := by decide +kernel
theorem d_S_foldArctan_5 : decode c_S_foldArctan 5 = .ok (.invokevirtual 80, 3) := by decide +kernel
theorem d_S_foldArctan_8 : decode c_S_foldArctan 8 = .ok (.bipush 10, 2) := by decide +kernel
theorem d_S_foldArctan_10 : decode c_S_foldArctan 10 = .ok (.imul, 1) := by decide +kernel
theorem d_S_foldArctan_11 : decode c_S_foldArctan 11 = .ok (.iload_n 2, 1) := by decide +kernel
theorem d_S_foldArctan_12 : decode c_S_foldArctan 12 = .ok (.idiv, 1) := by decide +kernel
theorem d_S_foldArctan_13 : decode c_S_foldArctan 13 = .ok (.iconst 1, 1) := by decide +kernel
theorem d_S_foldArctan_14 : decode c_S_foldArctan 14 = .ok (.iadd, 1) := by decide +kernel
theorem d_S_foldArctan_15 : decode c_S_foldArctan 15 = .ok (.istore_n 3, 1) := by decide +kernel
theorem d_S_foldArctan_16 : decode c_S_foldArctan 16 = .ok (.iload_n 3, 1) := by decide +kernel
theorem d_S_foldArctan_17 : decode c_S_foldArctan 17 = .ok (.iconst 1, 1) := by decide +kernel
theorem d_S_foldArctan_18 : decode c_S_foldArctan 18 = .ok (.if_icmp .lt 46, 3) := by decide +kernel
theorem d_S_foldArctan_21 : decode c_S_foldArctan 21 = .ok (.aload_n 0, 1) := by decide +kernel
theorem d_S_foldArctan_22 : decode c_S_foldArctan 22 = .ok (.getfield 20, 3) := by decide +kernel
theorem d_S_foldArctan_25 : decode c_S_foldArctan 25 = .ok (.aload_n 0, 1) := by decide +kernel
theorem d_S_foldArctan_26 : decode c_S_foldArctan 26 = .ok (.getfield 36, 3) := by decide +kernel
theorem d_S_foldArctan_29 : decode c_S_foldArctan 29 = .ok (.dup2, 1) := by decide +kernel
theorem d_S_foldArctan_30 : decode c_S_foldArctan 30 = .ok (.laload, 1) := by decide +kernel
theorem d_S_foldArctan_31 : decode c_S_foldArctan 31 = .ok (.lconst 1, 1) := by decide +kernel
theorem d_S_foldArctan_32 : decode c_S_foldArctan 32 = .ok (.ladd, 1) := by decide +kernel
theorem d_S_foldArctan_33 : decode c_S_foldArctan 33 = .ok (.lastore, 1) := by decide +kernel
theorem d_S_foldArctan_34 : decode c_S_foldArctan 34 = .ok (.aload_n 0, 1) := by decide +kernel
theorem d_S_foldArctan_35 : decode c_S_foldArctan 35 = .ok (.iconst 2, 1) := by decide +kernel
theorem d_S_foldArctan_36 : decode c_S_foldArctan 36 = .ok (.iload_n 3, 1) := by decide +kernel
theorem d_S_foldArctan_37 : decode c_S_foldArctan 37 = .ok (.imul, 1) := by decide +kernel
theorem d_S_foldArctan_38 : decode c_S_foldArctan 38 = .ok (.iconst 2, 1) := by decide +kernel
theorem d_S_foldArctan_39 : decode c_S_foldArctan 39 = .ok (.iload_n 3, 1) := by decide +kernel
theorem d_S_foldArctan_40 : decode c_S_foldArctan 40 = .ok (.imul, 1) := by decide +kernel
theorem d_S_foldArctan_41 : decode c_S_foldArctan 41 = .ok (.iconst 1, 1) := by decide +kernel
theorem d_S_foldArctan_42 : decode c_S_foldArctan 42 = .ok (.iadd, 1) := by decide +kernel
theorem d_S_foldArctan_43 : decode c_S_foldArctan 43 = .ok (.iload_n 1, 1) := by decide +kernel
theorem d_S_foldArctan_44 : decode c_S_foldArctan 44 = .ok (.imul, 1) := by decide +kernel
theorem d_S_foldArctan_45 : decode c_S_foldArctan 45 = .ok (.aload_n 0, 1) := by decide +kernel
theorem d_S_foldArctan_46 : decode c_S_foldArctan 46 = .ok (.iload_n 3, 1) := by decide +kernel
theorem d_S_foldArctan_47 : decode c_S_foldArctan 47 = .ok (.iload_n 2, 1) := by decide +kernel
theorem d_S_foldArctan_48 : decode c_S_foldArctan 48 = .ok (.imul, 1) := by decide +kernel
theorem d_S_foldArctan_49 : decode c_S_foldArctan 49 = .ok (.bipush 10, 2) := by decide +kernel
theorem d_S_foldArctan_51 : decode c_S_foldArctan 51 = .ok (.idiv, 1) := by decide +kernel
theorem d_S_foldArctan_52 : decode c_S_foldArctan 52 = .ok (.invokevirtual 84, 3) := by decide +kernel
theorem d_S_foldArctan_55 : decode c_S_foldArctan 55 = .ok (.invokevirtual 69, 3) := by decide +kernel
theorem d_S_foldArctan_58 : decode c_S_foldArctan 58 = .ok (.iinc 3 (-1), 3) := by decide +kernel
theorem d_S_foldArctan_61 : decode c_S_foldArctan 61 = .ok (.goto (-45), 3) := by decide +kernel
theorem d_S_foldArctan_64 : decode c_S_foldArctan 64 = .ok (.aload_n 0, 1) := by decide +kernel
theorem d_S_foldArctan_65 : decode c_S_foldArctan 65 = .ok (.getfield 20, 3) := by decide +kernel
theorem d_S_foldArctan_68 : decode c_S_foldArctan 68 = .ok (.aload_n 0, 1) := by decide +kernel
theorem d_S_foldArctan_69 : decode c_S_foldArctan 69 = .ok (.getfield 36, 3) := by decide +kernel
theorem d_S_foldArctan_72 : decode c_S_foldArctan 72 = .ok (.dup2, 1) := by decide +kernel
theorem d_S_foldArctan_73 : decode c_S_foldArctan 73 = .ok (.laload, 1) := by decide +kernel
theorem d_S_foldArctan_74 : decode c_S_foldArctan 74 = .ok (.lconst 1, 1) := by decide +kernel
theorem d_S_foldArctan_75 : decode c_S_foldArctan 75 = .ok (.ladd, 1) := by decide +kernel
theorem d_S_foldArctan_76 : decode c_S_foldArctan 76 = .ok (.lastore, 1) := by decide +kernel
theorem d_S_foldArctan_77 : decode c_S_foldArctan 77 = .ok (.return_, 1) := by decide +kernel
theorem d_S_begin_0 : decode c_S_begin 0 = .ok (.aload_n 0, 1) := by decide +kernel
theorem d_S_begin_1 : decode c_S_begin 1 = .ok (.getfield 20, 3) := by decide +kernel
theorem d_S_begin_4 : decode c_S_begin 4 = .ok (.lconst 0, 1) := by decide +kernel
theorem d_S_begin_5 : decode c_S_begin 5 = .ok (.invokestatic 40, 3) := by decide +kernel
theorem d_S_begin_8 : decode c_S_begin 8 = .ok (.return_, 1) := by decide +kernel
theorem d_S_bitsNeeded_0 : decode c_S_bitsNeeded 0 = .ok (.aload_n 0, 1) := by decide +kernel
theorem d_S_bitsNeeded_1 : decode c_S_bitsNeeded 1 = .ok (.getfield 36, 3) := by decide +kernel
theorem d_S_bitsNeeded_4 : decode c_S_bitsNeeded 4 = .ok (.bipush 30, 2) := by decide +kernel
theorem d_S_bitsNeeded_6 : decode c_S_bitsNeeded 6 = .ok (.imul, 1) := by decide +kernel
theorem d_S_bitsNeeded_7 : decode c_S_bitsNeeded 7 = .ok (.bipush 32, 2) := by decide +kernel
theorem d_S_bitsNeeded_9 : decode c_S_bitsNeeded 9 = .ok (.iadd, 1) := by decide +kernel
theorem d_S_bitsNeeded_10 : decode c_S_bitsNeeded 10 = .ok (.ireturn, 1) := by decide +kernel
theorem d_S_lowest_0 : decode c_S_lowest 0 = .ok (.aload_n 0, 1) := by decide +kernel
theorem d_S_lowest_1 : decode c_S_lowest 1 = .ok (.getfield 36, 3) := by decide +kernel
theorem d_S_lowest_4 : decode c_S_lowest 4 = .ok (.iconst 0, 1) := by decide +kernel
theorem d_S_lowest_5 : decode c_S_lowest 5 = .ok (.iload_n 1, 1) := by decide +kernel
theorem d_S_lowest_6 : decode c_S_lowest 6 = .ok (.bipush 30, 2) := by decide +kernel
theorem d_S_lowest_8 : decode c_S_lowest 8 = .ok (.idiv, 1) := by decide +kernel
theorem d_S_lowest_9 : decode c_S_lowest 9 = .ok (.iconst 1, 1) := by decide +kernel
theorem d_S_lowest_10 : decode c_S_lowest 10 = .ok (.isub, 1) := by decide +kernel
theorem d_S_lowest_11 : decode c_S_lowest 11 = .ok (.invokestatic 27, 3) := by decide +kernel
theorem d_S_lowest_14 : decode c_S_lowest 14 = .ok (.invokestatic 33, 3) := by decide +kernel
theorem d_S_lowest_17 : decode c_S_lowest 17 = .ok (.ireturn, 1) := by decide +kernel
theorem d_S_fold_0 : decode c_S_fold 0 = .ok (.lconst 0, 1) := by decide +kernel
theorem d_S_fold_1 : decode c_S_fold 1 = .ok (.lstore 4, 2) := by decide +kernel
theorem d_S_fold_3 : decode c_S_fold 3 = .ok (.aload_n 0, 1) := by decide +kernel
theorem d_S_fold_4 : decode c_S_fold 4 = .ok (.getfield 36, 3) := by decide +kernel
theorem d_S_fold_7 : decode c_S_fold 7 = .ok (.istore 6, 2) := by decide +kernel
theorem d_S_fold_9 : decode c_S_fold 9 = .ok (.iload 6, 2) := by decide +kernel
theorem d_S_fold_11 : decode c_S_fold 11 = .ok (.iload_n 3, 1) := by decide +kernel
theorem d_S_fold_12 : decode c_S_fold 12 = .ok (.if_icmp .lt 53, 3) := by decide +kernel
theorem d_S_fold_15 : decode c_S_fold 15 = .ok (.lload 4, 2) := by decide +kernel
theorem d_S_fold_17 : decode c_S_fold 17 = .ok (.bipush 30, 2) := by decide +kernel
theorem d_S_fold_19 : decode c_S_fold 19 = .ok (.lshl, 1) := by decide +kernel
theorem d_S_fold_20 : decode c_S_fold 20 = .ok (.aload_n 0, 1) := by decide +kernel
theorem d_S_fold_21 : decode c_S_fold 21 = .ok (.getfield 20, 3) := by decide +kernel
theorem d_S_fold_24 : decode c_S_fold 24 = .ok (.iload 6, 2) := by decide +kernel
theorem d_S_fold_26 : decode c_S_fold 26 = .ok (.laload, 1) := by decide +kernel
theorem d_S_fold_27 : decode c_S_fold 27 = .ok (.ladd, 1) := by decide +kernel
theorem d_S_fold_28 : decode c_S_fold 28 = .ok (.lstore 7, 2) := by decide +kernel
theorem d_S_fold_30 : decode c_S_fold 30 = .ok (.lload 7, 2) := by decide +kernel
theorem d_S_fold_32 : decode c_S_fold 32 = .ok (.iload_n 2, 1) := by decide +kernel
theorem d_S_fold_33 : decode c_S_fold 33 = .ok (.i2l, 1) := by decide +kernel
theorem d_S_fold_34 : decode c_S_fold 34 = .ok (.ldiv, 1) := by decide +kernel
theorem d_S_fold_35 : decode c_S_fold 35 = .ok (.lstore 9, 2) := by decide +kernel
theorem d_S_fold_37 : decode c_S_fold 37 = .ok (.lload 7, 2) := by decide +kernel
theorem d_S_fold_39 : decode c_S_fold 39 = .ok (.lload 9, 2) := by decide +kernel
theorem d_S_fold_41 : decode c_S_fold 41 = .ok (.iload_n 2, 1) := by decide +kernel
theorem d_S_fold_42 : decode c_S_fold 42 = .ok (.i2l, 1) := by decide +kernel
theorem d_S_fold_43 : decode c_S_fold 43 = .ok (.lmul, 1) := by decide +kernel
theorem d_S_fold_44 : decode c_S_fold 44 = .ok (.lsub, 1) := by decide +kernel
theorem d_S_fold_45 : decode c_S_fold 45 = .ok (.lstore 4, 2) := by decide +kernel
theorem d_S_fold_47 : decode c_S_fold 47 = .ok (.aload_n 0, 1) := by decide +kernel
theorem d_S_fold_48 : decode c_S_fold 48 = .ok (.getfield 20, 3) := by decide +kernel
theorem d_S_fold_51 : decode c_S_fold 51 = .ok (.iload 6, 2) := by decide +kernel
theorem d_S_fold_53 : decode c_S_fold 53 = .ok (.lload 9, 2) := by decide +kernel
theorem d_S_fold_55 : decode c_S_fold 55 = .ok (.iload_n 1, 1) := by decide +kernel
theorem d_S_fold_56 : decode c_S_fold 56 = .ok (.i2l, 1) := by decide +kernel
theorem d_S_fold_57 : decode c_S_fold 57 = .ok (.lmul, 1) := by decide +kernel
theorem d_S_fold_58 : decode c_S_fold 58 = .ok (.lastore, 1) := by decide +kernel
theorem d_S_fold_59 : decode c_S_fold 59 = .ok (.iinc 6 (-1), 3) := by decide +kernel
theorem d_S_fold_62 : decode c_S_fold 62 = .ok (.goto (-53), 3) := by decide +kernel
theorem d_S_fold_65 : decode c_S_fold 65 = .ok (.return_, 1) := by decide +kernel
theorem d_S_gather_0 : decode c_S_gather 0 = .ok (.iconst 0, 1) := by decide +kernel
theorem d_S_gather_1 : decode c_S_gather 1 = .ok (.istore_n 1, 1) := by decide +kernel
theorem d_S_gather_2 : decode c_S_gather 2 = .ok (.iload_n 1, 1) := by decide +kernel
theorem d_S_gather_3 : decode c_S_gather 3 = .ok (.aload_n 0, 1) := by decide +kernel
theorem d_S_gather_4 : decode c_S_gather 4 = .ok (.getfield 36, 3) := by decide +kernel
theorem d_S_gather_7 : decode c_S_gather 7 = .ok (.if_icmp .gt 24, 3) := by decide +kernel
theorem d_S_gather_10 : decode c_S_gather 10 = .ok (.aload_n 0, 1) := by decide +kernel
theorem d_S_gather_11 : decode c_S_gather 11 = .ok (.getfield 24, 3) := by decide +kernel
theorem d_S_gather_14 : decode c_S_gather 14 = .ok (.iload_n 1, 1) := by decide +kernel
theorem d_S_gather_15 : decode c_S_gather 15 = .ok (.dup2, 1) := by decide +kernel
theorem d_S_gather_16 : decode c_S_gather 16 = .ok (.laload, 1) := by decide +kernel
theorem d_S_gather_17 : decode c_S_gather 17 = .ok (.aload_n 0, 1) := by decide +kernel
theorem d_S_gather_18 : decode c_S_gather 18 = .ok (.getfield 20, 3) := by decide +kernel
theorem d_S_gather_21 : decode c_S_gather 21 = .ok (.iload_n 1, 1) := by decide +kernel
theorem d_S_gather_22 : decode c_S_gather 22 = .ok (.laload, 1) := by decide +kernel
theorem d_S_gather_23 : decode c_S_gather 23 = .ok (.ladd, 1) := by decide +kernel
theorem d_S_gather_24 : decode c_S_gather 24 = .ok (.lastore, 1) := by decide +kernel
theorem d_S_gather_25 : decode c_S_gather 25 = .ok (.iinc 1 1, 3) := by decide +kernel
theorem d_S_gather_28 : decode c_S_gather 28 = .ok (.goto (-26), 3) := by decide +kernel
theorem d_S_gather_31 : decode c_S_gather 31 = .ok (.return_, 1) := by decide +kernel
theorem d_S_sumE_0 : decode c_S_sumE 0 = .ok (.aload_n 0, 1) := by decide +kernel
theorem d_S_sumE_1 : decode c_S_sumE 1 = .ok (.invokevirtual 77, 3) := by decide +kernel
theorem d_S_sumE_4 : decode c_S_sumE 4 = .ok (.iconst 0, 1) := by decide +kernel
theorem d_S_sumE_5 : decode c_S_sumE 5 = .ok (.istore_n 1, 1) := by decide +kernel
theorem d_S_sumE_6 : decode c_S_sumE 6 = .ok (.iconst 0, 1) := by decide +kernel
theorem d_S_sumE_7 : decode c_S_sumE 7 = .ok (.istore_n 2, 1) := by decide +kernel
theorem d_S_sumE_8 : decode c_S_sumE 8 = .ok (.iload_n 1, 1) := by decide +kernel
theorem d_S_sumE_9 : decode c_S_sumE 9 = .ok (.aload_n 0, 1) := by decide +kernel
theorem d_S_sumE_10 : decode c_S_sumE 10 = .ok (.invokevirtual 80, 3) := by decide +kernel
theorem d_S_sumE_13 : decode c_S_sumE 13 = .ok (.if_icmp .ge 26, 3) := by decide +kernel
theorem d_S_sumE_16 : decode c_S_sumE 16 = .ok (.iload_n 2, 1) := by decide +kernel
theorem d_S_sumE_17 : decode c_S_sumE 17 = .ok (.aload_n 0, 1) := by decide +kernel
theorem d_S_sumE_18 : decode c_S_sumE 18 = .ok (.invokevirtual 80, 3) := by decide +kernel
theorem d_S_sumE_21 : decode c_S_sumE 21 = .ok (.if_icmp .ge 18, 3) := by decide +kernel
theorem d_S_sumE_24 : decode c_S_sumE 24 = .ok (.iinc 2 1, 3) := by decide +kernel
theorem d_S_sumE_27 : decode c_S_sumE 27 = .ok (.iload_n 1, 1) := by decide +kernel
theorem d_S_sumE_28 : decode c_S_sumE 28 = .ok (.iload_n 2, 1) := by decide +kernel
theorem d_S_sumE_29 : decode c_S_sumE 29 = .ok (.invokestatic 88, 3) := by decide +kernel
theorem d_S_sumE_32 : decode c_S_sumE 32 = .ok (.iconst 1, 1) := by decide +kernel
theorem d_S_sumE_33 : decode c_S_sumE 33 = .ok (.isub, 1) := by decide +kernel
theorem d_S_sumE_34 : decode c_S_sumE 34 = .ok (.iadd, 1) := by decide +kernel
theorem d_S_sumE_35 : decode c_S_sumE 35 = .ok (.istore_n 1, 1) := by decide +kernel
theorem d_S_sumE_36 : decode c_S_sumE 36 = .ok (.goto (-28), 3) := by decide +kernel
theorem d_S_sumE_39 : decode c_S_sumE 39 = .ok (.iload_n 2, 1) := by decide +kernel
theorem d_S_sumE_40 : decode c_S_sumE 40 = .ok (.istore_n 3, 1) := by decide +kernel
theorem d_S_sumE_41 : decode c_S_sumE 41 = .ok (.iload_n 3, 1) := by decide +kernel
theorem d_S_sumE_42 : decode c_S_sumE 42 = .ok (.iconst 1, 1) := by decide +kernel
theorem d_S_sumE_43 : decode c_S_sumE 43 = .ok (.if_icmp .lt 42, 3) := by decide +kernel
theorem d_S_sumE_46 : decode c_S_sumE 46 = .ok (.aload_n 0, 1) := by decide +kernel
theorem d_S_sumE_47 : decode c_S_sumE 47 = .ok (.getfield 20, 3) := by decide +kernel
theorem d_S_sumE_50 : decode c_S_sumE 50 = .ok (.aload_n 0, 1) := by decide +kernel
theorem d_S_sumE_51 : decode c_S_sumE 51 = .ok (.getfield 36, 3) := by decide +kernel
theorem d_S_sumE_54 : decode c_S_sumE 54 = .ok (.dup2, 1) := by decide +kernel
theorem d_S_sumE_55 : decode c_S_sumE 55 = .ok (.laload, 1) := by decide +kernel
theorem d_S_sumE_56 : decode c_S_sumE 56 = .ok (.lconst 1, 1) := by decide +kernel
theorem d_S_sumE_57 : decode c_S_sumE 57 = .ok (.ladd, 1) := by decide +kernel
theorem d_S_sumE_58 : decode c_S_sumE 58 = .ok (.lastore, 1) := by decide +kernel
theorem d_S_sumE_59 : decode c_S_sumE 59 = .ok (.aload_n 0, 1) := by decide +kernel
theorem d_S_sumE_60 : decode c_S_sumE 60 = .ok (.iconst 1, 1) := by decide +kernel
theorem d_S_sumE_61 : decode c_S_sumE 61 = .ok (.iload_n 3, 1) := by decide +kernel
theorem d_S_sumE_62 : decode c_S_sumE 62 = .ok (.aload_n 0, 1) := by decide +kernel
theorem d_S_sumE_63 : decode c_S_sumE 63 = .ok (.iload_n 1, 1) := by decide +kernel
theorem d_S_sumE_64 : decode c_S_sumE 64 = .ok (.invokevirtual 84, 3) := by decide +kernel
theorem d_S_sumE_67 : decode c_S_sumE 67 = .ok (.invokevirtual 69, 3) := by decide +kernel
theorem d_S_sumE_70 : decode c_S_sumE 70 = .ok (.iload_n 1, 1) := by decide +kernel
theorem d_S_sumE_71 : decode c_S_sumE 71 = .ok (.iload_n 3, 1) := by decide +kernel
theorem d_S_sumE_72 : decode c_S_sumE 72 = .ok (.invokestatic 88, 3) := by decide +kernel
theorem d_S_sumE_75 : decode c_S_sumE 75 = .ok (.iconst 1, 1) := by decide +kernel
theorem d_S_sumE_76 : decode c_S_sumE 76 = .ok (.isub, 1) := by decide +kernel
theorem d_S_sumE_77 : decode c_S_sumE 77 = .ok (.isub, 1) := by decide +kernel
theorem d_S_sumE_78 : decode c_S_sumE 78 = .ok (.istore_n 1, 1) := by decide +kernel
theorem d_S_sumE_79 : decode c_S_sumE 79 = .ok (.iinc 3 (-1), 3) := by decide +kernel
theorem d_S_sumE_82 : decode c_S_sumE 82 = .ok (.goto (-41), 3) := by decide +kernel
theorem d_S_sumE_85 : decode c_S_sumE 85 = .ok (.aload_n 0, 1) := by decide +kernel
theorem d_S_sumE_86 : decode c_S_sumE 86 = .ok (.getfield 20, 3) := by decide +kernel
theorem d_S_sumE_89 : decode c_S_sumE 89 = .ok (.aload_n 0, 1) := by decide +kernel
theorem d_S_sumE_90 : decode c_S_sumE 90 = .ok (.getfield 36, 3) := by decide +kernel
theorem d_S_sumE_93 : decode c_S_sumE 93 = .ok (.dup2, 1) := by decide +kernel
theorem d_S_sumE_94 : decode c_S_sumE 94 = .ok (.laload, 1) := by decide +kernel
theorem d_S_sumE_95 : decode c_S_sumE 95 = .ok (.lconst 1, 1) := by decide +kernel
theorem d_S_sumE_96 : decode c_S_sumE 96 = .ok (.ladd, 1) := by decide +kernel
theorem d_S_sumE_97 : decode c_S_sumE 97 = .ok (.lastore, 1) := by decide +kernel
theorem d_S_sumE_98 : decode c_S_sumE 98 = .ok (.aload_n 0, 1) := by decide +kernel
theorem d_S_sumE_99 : decode c_S_sumE 99 = .ok (.invokevirtual 73, 3) := by decide +kernel
theorem d_S_sumE_102 : decode c_S_sumE 102 = .ok (.return_, 1) := by decide +kernel
theorem d_S_sumLogTwo_0 : decode c_S_sumLogTwo 0 = .ok (.aload_n 0, 1) := by decide +kernel
theorem d_S_sumLogTwo_1 : decode c_S_sumLogTwo 1 = .ok (.invokevirtual 77, 3) := by decide +kernel
theorem d_S_sumLogTwo_4 : decode c_S_sumLogTwo 4 = .ok (.aload_n 0, 1) := by decide +kernel
theorem d_S_sumLogTwo_5 : decode c_S_sumLogTwo 5 = .ok (.invokevirtual 80, 3) := by decide +kernel
theorem d_S_sumLogTwo_8 : decode c_S_sumLogTwo 8 = .ok (.iconst 3, 1) := by decide +kernel
theorem d_S_sumLogTwo_9 : decode c_S_sumLogTwo 9 = .ok (.idiv, 1) := by decide +kernel
theorem d_S_sumLogTwo_10 : decode c_S_sumLogTwo 10 = .ok (.iconst 1, 1) := by decide +kernel
theorem d_S_sumLogTwo_11 : decode c_S_sumLogTwo 11 = .ok (.iadd, 1) := by decide +kernel
theorem d_S_sumLogTwo_12 : decode c_S_sumLogTwo 12 = .ok (.istore_n 1, 1) := by decide +kernel
theorem d_S_sumLogTwo_13 : decode c_S_sumLogTwo 13 = .ok (.iload_n 1, 1) := by decide +kernel
theorem d_S_sumLogTwo_14 : decode c_S_sumLogTwo 14 = .ok (.iconst 1, 1) := by decide +kernel
theorem d_S_sumLogTwo_15 : decode c_S_sumLogTwo 15 = .ok (.if_icmp .lt 42, 3) := by decide +kernel
theorem d_S_sumLogTwo_18 : decode c_S_sumLogTwo 18 = .ok (.aload_n 0, 1) := by decide +kernel
theorem d_S_sumLogTwo_19 : decode c_S_sumLogTwo 19 = .ok (.getfield 20, 3) := by decide +kernel
theorem d_S_sumLogTwo_22 : decode c_S_sumLogTwo 22 = .ok (.aload_n 0, 1) := by decide +kernel
theorem d_S_sumLogTwo_23 : decode c_S_sumLogTwo 23 = .ok (.getfield 36, 3) := by decide +kernel
theorem d_S_sumLogTwo_26 : decode c_S_sumLogTwo 26 = .ok (.dup2, 1) := by decide +kernel
theorem d_S_sumLogTwo_27 : decode c_S_sumLogTwo 27 = .ok (.laload, 1) := by decide +kernel
theorem d_S_sumLogTwo_28 : decode c_S_sumLogTwo 28 = .ok (.lconst 1, 1) := by decide +kernel
theorem d_S_sumLogTwo_29 : decode c_S_sumLogTwo 29 = .ok (.ladd, 1) := by decide +kernel
theorem d_S_sumLogTwo_30 : decode c_S_sumLogTwo 30 = .ok (.lastore, 1) := by decide +kernel
theorem d_S_sumLogTwo_31 : decode c_S_sumLogTwo 31 = .ok (.aload_n 0, 1) := by decide +kernel
theorem d_S_sumLogTwo_32 : decode c_S_sumLogTwo 32 = .ok (.iload_n 1, 1) := by decide +kernel
theorem d_S_sumLogTwo_33 : decode c_S_sumLogTwo 33 = .ok (.ineg, 1) := by decide +kernel
theorem d_S_sumLogTwo_34 : decode c_S_sumLogTwo 34 = .ok (.iconst 4, 1) := by decide +kernel
theorem d_S_sumLogTwo_35 : decode c_S_sumLogTwo 35 = .ok (.iconst 2, 1) := by decide +kernel
theorem d_S_sumLogTwo_36 : decode c_S_sumLogTwo 36 = .ok (.iload_n 1, 1) := by decide +kernel
theorem d_S_sumLogTwo_37 : decode c_S_sumLogTwo 37 = .ok (.imul, 1) := by decide +kernel
theorem d_S_sumLogTwo_38 : decode c_S_sumLogTwo 38 = .ok (.iconst 1, 1) := by decide +kernel
theorem d_S_sumLogTwo_39 : decode c_S_sumLogTwo 39 = .ok (.iadd, 1) := by decide +kernel
theorem d_S_sumLogTwo_40 : decode c_S_sumLogTwo 40 = .ok (.imul, 1) := by decide +kernel
theorem d_S_sumLogTwo_41 : decode c_S_sumLogTwo 41 = .ok (.aload_n 0, 1) := by decide +kernel
theorem d_S_sumLogTwo_42 : decode c_S_sumLogTwo 42 = .ok (.iconst 3, 1) := by decide +kernel
theorem d_S_sumLogTwo_43 : decode c_S_sumLogTwo 43 = .ok (.iload_n 1, 1) := by decide +kernel
theorem d_S_sumLogTwo_44 : decode c_S_sumLogTwo 44 = .ok (.imul, 1) := by decide +kernel
theorem d_S_sumLogTwo_45 : decode c_S_sumLogTwo 45 = .ok (.invokevirtual 84, 3) := by decide +kernel
theorem d_S_sumLogTwo_48 : decode c_S_sumLogTwo 48 = .ok (.invokevirtual 69, 3) := by decide +kernel
theorem d_S_sumLogTwo_51 : decode c_S_sumLogTwo 51 = .ok (.iinc 1 (-1), 3) := by decide +kernel
theorem d_S_sumLogTwo_54 : decode c_S_sumLogTwo 54 = .ok (.goto (-41), 3) := by decide +kernel
theorem d_S_sumLogTwo_57 : decode c_S_sumLogTwo 57 = .ok (.aload_n 0, 1) := by decide +kernel
theorem d_S_sumLogTwo_58 : decode c_S_sumLogTwo 58 = .ok (.getfield 20, 3) := by decide +kernel
theorem d_S_sumLogTwo_61 : decode c_S_sumLogTwo 61 = .ok (.aload_n 0, 1) := by decide +kernel
theorem d_S_sumLogTwo_62 : decode c_S_sumLogTwo 62 = .ok (.getfield 36, 3) := by decide +kernel
theorem d_S_sumLogTwo_65 : decode c_S_sumLogTwo 65 = .ok (.dup2, 1) := by decide +kernel
theorem d_S_sumLogTwo_66 : decode c_S_sumLogTwo 66 = .ok (.laload, 1) := by decide +kernel
theorem d_S_sumLogTwo_67 : decode c_S_sumLogTwo 67 = .ok (.lconst 1, 1) := by decide +kernel
theorem d_S_sumLogTwo_68 : decode c_S_sumLogTwo 68 = .ok (.ladd, 1) := by decide +kernel
theorem d_S_sumLogTwo_69 : decode c_S_sumLogTwo 69 = .ok (.lastore, 1) := by decide +kernel
theorem d_S_sumLogTwo_70 : decode c_S_sumLogTwo 70 = .ok (.aload_n 0, 1) := by decide +kernel
theorem d_S_sumLogTwo_71 : decode c_S_sumLogTwo 71 = .ok (.iconst 3, 1) := by decide +kernel
theorem d_S_sumLogTwo_72 : decode c_S_sumLogTwo 72 = .ok (.iconst 4, 1) := by decide +kernel
theorem d_S_sumLogTwo_73 : decode c_S_sumLogTwo 73 = .ok (.iconst 0, 1) := by decide +kernel
theorem d_S_sumLogTwo_74 : decode c_S_sumLogTwo 74 = .ok (.invokevirtual 69, 3) := by decide +kernel
theorem d_S_sumLogTwo_77 : decode c_S_sumLogTwo 77 = .ok (.aload_n 0, 1) := by decide +kernel
theorem d_S_sumLogTwo_78 : decode c_S_sumLogTwo 78 = .ok (.invokevirtual 73, 3) := by decide +kernel
theorem d_S_sumLogTwo_81 : decode c_S_sumLogTwo 81 = .ok (.return_, 1) := by decide +kernel
theorem d_S_sumCubes_0 : decode c_S_sumCubes 0 = .ok (.aload_n 0, 1) := by decide +kernel
theorem d_S_sumCubes_1 : decode c_S_sumCubes 1 = .ok (.invokevirtual 77, 3) := by decide +kernel
theorem d_S_sumCubes_4 : decode c_S_sumCubes 4 = .ok (.aload_n 0, 1) := by decide +kernel
theorem d_S_sumCubes_5 : decode c_S_sumCubes 5 = .ok (.invokevirtual 80, 3) := by decide +kernel
theorem d_S_sumCubes_8 : decode c_S_sumCubes 8 = .ok (.bipush 10, 2) := by decide +kernel
theorem d_S_sumCubes_10 : decode c_S_sumCubes 10 = .ok (.idiv, 1) := by decide +kernel
theorem d_S_sumCubes_11 : decode c_S_sumCubes 11 = .ok (.iconst 1, 1) := by decide +kernel
theorem d_S_sumCubes_12 : decode c_S_sumCubes 12 = .ok (.iadd, 1) := by decide +kernel
theorem d_S_sumCubes_13 : decode c_S_sumCubes 13 = .ok (.istore_n 1, 1) := by decide +kernel
theorem d_S_sumCubes_14 : decode c_S_sumCubes 14 = .ok (.iload_n 1, 1) := by decide +kernel
theorem d_S_sumCubes_15 : decode c_S_sumCubes 15 = .ok (.iconst 1, 1) := by decide +kernel
theorem d_S_sumCubes_16 : decode c_S_sumCubes 16 = .ok (.if_icmp .lt 86, 3) := by decide +kernel
theorem d_S_sumCubes_19 : decode c_S_sumCubes 19 = .ok (.iconst 2, 1) := by decide +kernel
theorem d_S_sumCubes_20 : decode c_S_sumCubes 20 = .ok (.iload_n 1, 1) := by decide +kernel
theorem d_S_sumCubes_21 : decode c_S_sumCubes 21 = .ok (.imul, 1) := by decide +kernel
theorem d_S_sumCubes_22 : decode c_S_sumCubes 22 = .ok (.iconst 1, 1) := by decide +kernel
theorem d_S_sumCubes_23 : decode c_S_sumCubes 23 = .ok (.iadd, 1) := by decide +kernel
theorem d_S_sumCubes_24 : decode c_S_sumCubes 24 = .ok (.istore_n 2, 1) := by decide +kernel
theorem d_S_sumCubes_25 : decode c_S_sumCubes 25 = .ok (.aload_n 0, 1) := by decide +kernel
theorem d_S_sumCubes_26 : decode c_S_sumCubes 26 = .ok (.bipush 10, 2) := by decide +kernel
theorem d_S_sumCubes_28 : decode c_S_sumCubes 28 = .ok (.iload_n 1, 1) := by decide +kernel
theorem d_S_sumCubes_29 : decode c_S_sumCubes 29 = .ok (.imul, 1) := by decide +kernel
theorem d_S_sumCubes_30 : decode c_S_sumCubes 30 = .ok (.invokevirtual 84, 3) := by decide +kernel
theorem d_S_sumCubes_33 : decode c_S_sumCubes 33 = .ok (.istore_n 3, 1) := by decide +kernel
theorem d_S_sumCubes_34 : decode c_S_sumCubes 34 = .ok (.aload_n 0, 1) := by decide +kernel
theorem d_S_sumCubes_35 : decode c_S_sumCubes 35 = .ok (.getfield 20, 3) := by decide +kernel
theorem d_S_sumCubes_38 : decode c_S_sumCubes 38 = .ok (.aload_n 0, 1) := by decide +kernel
theorem d_S_sumCubes_39 : decode c_S_sumCubes 39 = .ok (.getfield 36, 3) := by decide +kernel
theorem d_S_sumCubes_42 : decode c_S_sumCubes 42 = .ok (.dup2, 1) := by decide +kernel
theorem d_S_sumCubes_43 : decode c_S_sumCubes 43 = .ok (.laload, 1) := by decide +kernel
theorem d_S_sumCubes_44 : decode c_S_sumCubes 44 = .ok (.sipush 205, 3) := by decide +kernel
theorem d_S_sumCubes_47 : decode c_S_sumCubes 47 = .ok (.iload_n 1, 1) := by decide +kernel
theorem d_S_sumCubes_48 : decode c_S_sumCubes 48 = .ok (.imul, 1) := by decide +kernel
theorem d_S_sumCubes_49 : decode c_S_sumCubes 49 = .ok (.iload_n 1, 1) := by decide +kernel
theorem d_S_sumCubes_50 : decode c_S_sumCubes 50 = .ok (.imul, 1) := by decide +kernel
theorem d_S_sumCubes_51 : decode c_S_sumCubes 51 = .ok (.sipush 250, 3) := by decide +kernel
theorem d_S_sumCubes_54 : decode c_S_sumCubes 54 = .ok (.iload_n 1, 1) := by decide +kernel
theorem d_S_sumCubes_55 : decode c_S_sumCubes 55 = .ok (.imul, 1) := by decide +kernel
theorem d_S_sumCubes_56 : decode c_S_sumCubes 56 = .ok (.iadd, 1) := by decide +kernel
theorem d_S_sumCubes_57 : decode c_S_sumCubes 57 = .ok (.bipush 77, 2) := by decide +kernel
theorem d_S_sumCubes_59 : decode c_S_sumCubes 59 = .ok (.iadd, 1) := by decide +kernel
theorem d_S_sumCubes_60 : decode c_S_sumCubes 60 = .ok (.i2l, 1) := by decide +kernel
theorem d_S_sumCubes_61 : decode c_S_sumCubes 61 = .ok (.ladd, 1) := by decide +kernel
theorem d_S_sumCubes_62 : decode c_S_sumCubes 62 = .ok (.lastore, 1) := by decide +kernel
theorem d_S_sumCubes_63 : decode c_S_sumCubes 63 = .ok (.aload_n 0, 1) := by decide +kernel
theorem d_S_sumCubes_64 : decode c_S_sumCubes 64 = .ok (.iload_n 1, 1) := by decide +kernel
theorem d_S_sumCubes_65 : decode c_S_sumCubes 65 = .ok (.iload_n 1, 1) := by decide +kernel
theorem d_S_sumCubes_66 : decode c_S_sumCubes 66 = .ok (.imul, 1) := by decide +kernel
theorem d_S_sumCubes_67 : decode c_S_sumCubes 67 = .ok (.iload_n 2, 1) := by decide +kernel
theorem d_S_sumCubes_68 : decode c_S_sumCubes 68 = .ok (.iload_n 2, 1) := by decide +kernel
theorem d_S_sumCubes_69 : decode c_S_sumCubes 69 = .ok (.imul, 1) := by decide +kernel
theorem d_S_sumCubes_70 : decode c_S_sumCubes 70 = .ok (.iload_n 3, 1) := by decide +kernel
theorem d_S_sumCubes_71 : decode c_S_sumCubes 71 = .ok (.invokevirtual 69, 3) := by decide +kernel
theorem d_S_sumCubes_74 : decode c_S_sumCubes 74 = .ok (.aload_n 0, 1) := by decide +kernel
theorem d_S_sumCubes_75 : decode c_S_sumCubes 75 = .ok (.iload_n 1, 1) := by decide +kernel
theorem d_S_sumCubes_76 : decode c_S_sumCubes 76 = .ok (.iload_n 1, 1) := by decide +kernel
theorem d_S_sumCubes_77 : decode c_S_sumCubes 77 = .ok (.imul, 1) := by decide +kernel
theorem d_S_sumCubes_78 : decode c_S_sumCubes 78 = .ok (.iload_n 2, 1) := by decide +kernel
theorem d_S_sumCubes_79 : decode c_S_sumCubes 79 = .ok (.iload_n 2, 1) := by decide +kernel
theorem d_S_sumCubes_80 : decode c_S_sumCubes 80 = .ok (.imul, 1) := by decide +kernel
theorem d_S_sumCubes_81 : decode c_S_sumCubes 81 = .ok (.iload_n 3, 1) := by decide +kernel
theorem d_S_sumCubes_82 : decode c_S_sumCubes 82 = .ok (.invokevirtual 69, 3) := by decide +kernel
theorem d_S_sumCubes_85 : decode c_S_sumCubes 85 = .ok (.aload_n 0, 1) := by decide +kernel
theorem d_S_sumCubes_86 : decode c_S_sumCubes 86 = .ok (.iload_n 1, 1) := by decide +kernel
theorem d_S_sumCubes_87 : decode c_S_sumCubes 87 = .ok (.ineg, 1) := by decide +kernel
theorem d_S_sumCubes_88 : decode c_S_sumCubes 88 = .ok (.bipush 32, 2) := by decide +kernel
theorem d_S_sumCubes_90 : decode c_S_sumCubes 90 = .ok (.iload_n 2, 1) := by decide +kernel
theorem d_S_sumCubes_91 : decode c_S_sumCubes 91 = .ok (.imul, 1) := by decide +kernel
theorem d_S_sumCubes_92 : decode c_S_sumCubes 92 = .ok (.iload_n 3, 1) := by decide +kernel
theorem d_S_sumCubes_93 : decode c_S_sumCubes 93 = .ok (.invokevirtual 69, 3) := by decide +kernel
theorem d_S_sumCubes_96 : decode c_S_sumCubes 96 = .ok (.iinc 1 (-1), 3) := by decide +kernel
theorem d_S_sumCubes_99 : decode c_S_sumCubes 99 = .ok (.goto (-85), 3) := by decide +kernel
theorem d_S_sumCubes_102 : decode c_S_sumCubes 102 = .ok (.aload_n 0, 1) := by decide +kernel
theorem d_S_sumCubes_103 : decode c_S_sumCubes 103 = .ok (.getfield 20, 3) := by decide +kernel
theorem d_S_sumCubes_106 : decode c_S_sumCubes 106 = .ok (.aload_n 0, 1) := by decide +kernel
theorem d_S_sumCubes_107 : decode c_S_sumCubes 107 = .ok (.getfield 36, 3) := by decide +kernel
theorem d_S_sumCubes_110 : decode c_S_sumCubes 110 = .ok (.dup2, 1) := by decide +kernel
theorem d_S_sumCubes_111 : decode c_S_sumCubes 111 = .ok (.laload, 1) := by decide +kernel
theorem d_S_sumCubes_112 : decode c_S_sumCubes 112 = .ok (.ldc2_w 91, 3) := by decide +kernel
theorem d_S_sumCubes_115 : decode c_S_sumCubes 115 = .ok (.ladd, 1) := by decide +kernel
theorem d_S_sumCubes_116 : decode c_S_sumCubes 116 = .ok (.lastore, 1) := by decide +kernel
theorem d_S_sumCubes_117 : decode c_S_sumCubes 117 = .ok (.aload_n 0, 1) := by decide +kernel
theorem d_S_sumCubes_118 : decode c_S_sumCubes 118 = .ok (.iconst 1, 1) := by decide +kernel
theorem d_S_sumCubes_119 : decode c_S_sumCubes 119 = .ok (.bipush 64, 2) := by decide +kernel
theorem d_S_sumCubes_121 : decode c_S_sumCubes 121 = .ok (.iconst 0, 1) := by decide +kernel
theorem d_S_sumCubes_122 : decode c_S_sumCubes 122 = .ok (.invokevirtual 69, 3) := by decide +kernel
theorem d_S_sumCubes_125 : decode c_S_sumCubes 125 = .ok (.aload_n 0, 1) := by decide +kernel
theorem d_S_sumCubes_126 : decode c_S_sumCubes 126 = .ok (.invokevirtual 73, 3) := by decide +kernel
theorem d_S_sumCubes_129 : decode c_S_sumCubes 129 = .ok (.return_, 1) := by decide +kernel
theorem d_S_settle_0 : decode c_S_settle 0 = .ok (.aload_n 0, 1) := by decide +kernel
theorem d_S_settle_1 : decode c_S_settle 1 = .ok (.getfield 24, 3) := by decide +kernel
theorem d_S_settle_4 : decode c_S_settle 4 = .ok (.iconst 1, 1) := by decide +kernel
theorem d_S_settle_5 : decode c_S_settle 5 = .ok (.dup2, 1) := by decide +kernel
theorem d_S_settle_6 : decode c_S_settle 6 = .ok (.laload, 1) := by decide +kernel
theorem d_S_settle_7 : decode c_S_settle 7 = .ok (.lconst 1, 1) := by decide +kernel
theorem d_S_settle_8 : decode c_S_settle 8 = .ok (.lsub, 1) := by decide +kernel
theorem d_S_settle_9 : decode c_S_settle 9 = .ok (.lastore, 1) := by decide +kernel
theorem d_S_settle_10 : decode c_S_settle 10 = .ok (.aload_n 0, 1) := by decide +kernel
theorem d_S_settle_11 : decode c_S_settle 11 = .ok (.getfield 11, 3) := by decide +kernel
theorem d_S_settle_14 : decode c_S_settle 14 = .ok (.iload_n 1, 1) := by decide +kernel
theorem d_S_settle_15 : decode c_S_settle 15 = .ok (.aaload, 1) := by decide +kernel
theorem d_S_settle_16 : decode c_S_settle 16 = .ok (.astore_n 2, 1) := by decide +kernel
theorem d_S_settle_17 : decode c_S_settle 17 = .ok (.lconst 0, 1) := by decide +kernel
theorem d_S_settle_18 : decode c_S_settle 18 = .ok (.lstore_n 3, 1) := by decide +kernel
theorem d_S_settle_19 : decode c_S_settle 19 = .ok (.iconst 0, 1) := by decide +kernel
theorem d_S_settle_20 : decode c_S_settle 20 = .ok (.istore 5, 2) := by decide +kernel
theorem d_S_settle_22 : decode c_S_settle 22 = .ok (.iload 5, 2) := by decide +kernel
theorem d_S_settle_24 : decode c_S_settle 24 = .ok (.aload_n 0, 1) := by decide +kernel
theorem d_S_settle_25 : decode c_S_settle 25 = .ok (.getfield 36, 3) := by decide +kernel
theorem d_S_settle_28 : decode c_S_settle 28 = .ok (.if_icmp .gt 34, 3) := by decide +kernel
theorem d_S_settle_31 : decode c_S_settle 31 = .ok (.lload_n 3, 1) := by decide +kernel
theorem d_S_settle_32 : decode c_S_settle 32 = .ok (.aload_n 0, 1) := by decide +kernel
theorem d_S_settle_33 : decode c_S_settle 33 = .ok (.getfield 24, 3) := by decide +kernel
theorem d_S_settle_36 : decode c_S_settle 36 = .ok (.iload 5, 2) := by decide +kernel
theorem d_S_settle_38 : decode c_S_settle 38 = .ok (.laload, 1) := by decide +kernel
theorem d_S_settle_39 : decode c_S_settle 39 = .ok (.ladd, 1) := by decide +kernel
theorem d_S_settle_40 : decode c_S_settle 40 = .ok (.lstore_n 3, 1) := by decide +kernel
theorem d_S_settle_41 : decode c_S_settle 41 = .ok (.aload_n 2, 1) := by decide +kernel
theorem d_S_settle_42 : decode c_S_settle 42 = .ok (.iload 5, 2) := by decide +kernel
theorem d_S_settle_44 : decode c_S_settle 44 = .ok (.lload_n 3, 1) := by decide +kernel
theorem d_S_settle_45 : decode c_S_settle 45 = .ok (.ldc2_w 93, 3) := by decide +kernel
theorem d_S_settle_48 : decode c_S_settle 48 = .ok (.land, 1) := by decide +kernel
theorem d_S_settle_49 : decode c_S_settle 49 = .ok (.l2i, 1) := by decide +kernel
theorem d_S_settle_50 : decode c_S_settle 50 = .ok (.iastore, 1) := by decide +kernel
theorem d_S_settle_51 : decode c_S_settle 51 = .ok (.lload_n 3, 1) := by decide +kernel
theorem d_S_settle_52 : decode c_S_settle 52 = .ok (.bipush 30, 2) := by decide +kernel
theorem d_S_settle_54 : decode c_S_settle 54 = .ok (.lshr, 1) := by decide +kernel
theorem d_S_settle_55 : decode c_S_settle 55 = .ok (.lstore_n 3, 1) := by decide +kernel
theorem d_S_settle_56 : decode c_S_settle 56 = .ok (.iinc 5 1, 3) := by decide +kernel
theorem d_S_settle_59 : decode c_S_settle 59 = .ok (.goto (-37), 3) := by decide +kernel
theorem d_S_settle_62 : decode c_S_settle 62 = .ok (.aload_n 0, 1) := by decide +kernel
theorem d_S_settle_63 : decode c_S_settle 63 = .ok (.getfield 16, 3) := by decide +kernel
theorem d_S_settle_66 : decode c_S_settle 66 = .ok (.iload_n 1, 1) := by decide +kernel
theorem d_S_settle_67 : decode c_S_settle 67 = .ok (.aload_n 0, 1) := by decide +kernel
theorem d_S_settle_68 : decode c_S_settle 68 = .ok (.getfield 36, 3) := by decide +kernel
theorem d_S_settle_71 : decode c_S_settle 71 = .ok (.iastore, 1) := by decide +kernel
theorem d_S_settle_72 : decode c_S_settle 72 = .ok (.return_, 1) := by decide +kernel
theorem d_S_row_0 : decode c_S_row 0 = .ok (.aload_n 0, 1) := by decide +kernel
theorem d_S_row_1 : decode c_S_row 1 = .ok (.getfield 11, 3) := by decide +kernel
theorem d_S_row_4 : decode c_S_row 4 = .ok (.iload_n 1, 1) := by decide +kernel
theorem d_S_row_5 : decode c_S_row 5 = .ok (.aaload, 1) := by decide +kernel
theorem d_S_row_6 : decode c_S_row 6 = .ok (.areturn, 1) := by decide +kernel
